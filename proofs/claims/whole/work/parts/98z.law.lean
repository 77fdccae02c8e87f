/-! The law's walk: what stands at its loop's head (by wip/whole/law.py). -/
abbrev CWl (Y : CYs) (cD : ClassId) (E Em : Nat → Nat) (qo qd : Nat) (σ τ : Sta) (f : Nat → Int64) (fd : Nat → UInt64) : va_W := (ldA cD qd fd :: wd Y Em τ 0 LM0) ++ (loA Y qo f :: wd Y E σ 0 LC)
def LF (p : Program) (l : Launch) (s : State) (m : MethodId) (args : Array Value) (c : Code) (D : va_G) (Y : CYs) (cD : ClassId) (b L : Nat) (xs : Nat → Int32) (A : Nat → Prop) : Prop :=
  Ctx p s m args RL D Y ∧ c.code = cL_law ∧ c.maxLocals = 9 ∧ SW A s s.heap ∧ (∀ q, s.heap.size ≤ q → A q) ∧ va_K D vwCl (tysY Y ++ [(cD, .double)]) s ∧ va_X b L xs s s.heap ∧ b < s.heap.size ∧ ¬ A b ∧ l.stackTraces = false ∧ L ≤ 3072
theorem pm_b {α : Type} (d o : α) (M C : List α) : ((d :: M) ++ (o :: C)).Perm ((d :: o :: C) ++ M) := List.Perm.cons d (List.perm_append_comm (l₁ := M) (l₂ := o :: C))
theorem pm_c {α : Type} (d o : α) (M C : List α) : ((d :: M) ++ (o :: C)).Perm ((d :: (M ++ [o])) ++ C) := List.Perm.of_eq (by simp)
theorem pm_d {α : Type} (d o : α) (M C : List α) : ((d :: M) ++ (o :: C)).Perm ((o :: M) ++ (d :: C)) :=
  ((List.Perm.cons d List.perm_middle).trans (List.Perm.swap o d (M ++ C))).trans (List.Perm.cons o (List.perm_middle (l₁ := M) (a := d) (l₂ := C)).symm)
theorem lgc (a : Int64) : lg_cmp a a = 0 := by
  unfold lg_cmp
  simp
abbrev LV (b qo qd t : Nat) (E Em : Nat → Nat) : List (Nat × Value) := [(0, .ref b), (1, .ref (E 0)), (2, .ref (Em 0)), (3, .ref qo), (4, .ref qd), (5, .int (nI (6 * t)))]
section LR
variable {p : Program} {l : Launch} {e : Env} {R : Room} {s : State} {m : MethodId} {args : Array Value} {below : List Frame} {meth : Method} {c : Code} {H : Heap} {locs : List Loc} {cells slots : Nat} {Q : State → Prop}
variable {D : va_G} {Y : CYs} {cD : ClassId} {b L : Nat} {xs : Nat → Int32} {A : Nat → Prop} {ls : Array Slot} {rest : List Value} {pc t j : Nat}
theorem l_ld {k : Int} (hF : LF p l s m args c D Y cD b L xs A) (hS : va_S A s.heap H locs) (h0 : ls[0]? = some (.val (.ref b))) (h5 : ls[5]? = some (.val (.int (nI (6 * t))))) (d1 : decode cL_law pc = .ok (.aload_n 0, 1)) (d2 : decode cL_law (pc + 1) = .ok (.iload 5, 2)) (d3 : decode cL_law (pc + 3) = .ok (.iconst k, 1)) (hv : Int32.ofInt k = nI j) (d4 : decode cL_law (pc + 4) = .ok (.iadd, 1)) (d5 : decode cL_law (pc + 5) = .ok (.iaload, 1)) (hj : 6 * t + j < L)
    (kk : W p l e R s m args below meth c H locs cells slots Q (F0 m (pc + 6) ls (.int (xs (6 * t + j)) :: rest))) : W p l e R s m args below meth c H locs cells slots Q (F0 m pc ls rest) := by
  obtain ⟨hC, hb, hml, hSW, hA, hKD, hX, hbl, hbA, ht, hL⟩ := hF
  have hx := hC.1
  refine lv_aload_n hx hb d1 rfl h0 ?_
  refine lv_iload hx hb d2 h5 ?_
  refine lv_iconst hx hb d3 hv ?_
  refine lv_iadd hx hb d4 ?_
  rw [nI_add]
  refine va_sld hx hb hX hbl hbA hS (nI_in hj (by omega)) d5 ?_
  rw [nI_clamp (by omega)]
  exact kk
theorem l_bool {x : Int32} {off off2 : Int} {p1 p2 : Nat} {cc : ByteArray} (hx : p.tables.exec = Jvm.exec) (hb : c.code = cc) (d1 : decode cc pc = .ok (.ifCond .eq off, 3)) (h1 : (pc : Int) + off = (p1 : Int)) (d2 : decode cc (pc + 3) = .ok (.iconst 1, 1)) (d3 : decode cc (pc + 4) = .ok (.goto off2, 3)) (h2 : ((pc + 4 : Nat) : Int) + off2 = (p2 : Int)) (d4 : decode cc p1 = .ok (.iconst 0, 1)) (h3 : p1 + 1 = p2)
    (kk : W p l e R s m args below meth c H locs cells slots Q (F0 m p2 ls (.int (if x = 0 then 0 else 1) :: rest))) : W p l e R s m args below meth c H locs cells slots Q (F0 m pc ls (.int x :: rest)) := by
  refine lv_if_eq (tgt := p1) hx hb d1 h1 (fun c1 => ?_) (fun c1 => ?_)
  · rw [if_pos c1, ← h3] at kk
    exact lv_iconst (v := 0) hx hb d4 (by decide) kk
  · rw [if_neg c1] at kk
    exact lv_iconst (v := 1) hx hb d2 (by decide) (lv_goto (tgt := p2) hx hb d3 h2 kk)
theorem l_boolL {x : Int32} {off off2 : Int} {p1 p2 : Nat} {cc : ByteArray} (hx : p.tables.exec = Jvm.exec) (hb : c.code = cc) (d1 : decode cc pc = .ok (.ifCond .eq off, 3)) (h1 : (pc : Int) + off = (p1 : Int)) (d2 : decode cc (pc + 3) = .ok (.lconst 1, 1)) (d3 : decode cc (pc + 4) = .ok (.goto off2, 3)) (h2 : ((pc + 4 : Nat) : Int) + off2 = (p2 : Int)) (d4 : decode cc p1 = .ok (.lconst 0, 1)) (h3 : p1 + 1 = p2)
    (kk : W p l e R s m args below meth c H locs cells slots Q (F0 m p2 ls (.long (if x = 0 then 0 else 1) :: rest))) : W p l e R s m args below meth c H locs cells slots Q (F0 m pc ls (.int x :: rest)) := by
  refine lv_if_eq (tgt := p1) hx hb d1 h1 (fun c1 => ?_) (fun c1 => ?_)
  · rw [if_pos c1, ← h3] at kk
    exact lv_lconst (v := 0) hx hb d4 (by decide) kk
  · rw [if_neg c1] at kk
    exact lv_lconst (v := 1) hx hb d2 (by decide) (lv_goto (tgt := p2) hx hb d3 h2 kk)
end LR
section LS
variable {p : Program} {l : Launch} {e : Env} {R : Room} {s : State} {m : MethodId} {args : Array Value} {below : List Frame} {meth : Method} {c : Code} {H : Heap} {locs : List Loc} {cells slots mc ms : Nat} {Q : State → Prop}
variable {D : va_G} {Y : CYs} {own : String} {cc bytes : ByteArray} {pc nL maxL n index : Nat} {ret rc : Option FieldType} {ls : Array Slot} {st rest As : List Value} {y : MethodName} {rm : Room} {A : Nat → Prop} {Rs C0 C1 : va_W} {hh : List (Nat × Nat × Nat × Nat)} {cD : ClassId}
theorem PcNd_blind {W0 : va_W} {sz : Nat} : FrameBlind (fun v U => PcN W0 Y D sz As v U ∧ va_K D vwCl (tysY Y ++ [(cD, .double)]) U) := fun a U g mk q => ⟨PcN_blind a U g mk q.1, va_K.moved (u := U) (U := U.calling g mk a) (Vm.Alike.refl U.vm) q.2⟩
theorem n_SWd {r : Int32} (hC : Ctx p s m args own D Y) (hKD : va_K D vwCl (tysY Y ++ [(cD, .double)]) s) (hb : c.code = cc) (hml : c.maxLocals = nL) (hls : ls.size = nL) (hSW : SW A s s.heap) (hP : va_P D vwCl (Rs ++ C0) H) (hD : va_D A (Rs ++ C0)) (hS : va_S A s.heap H locs) (hA : ∀ q, s.heap.size ≤ q → A q)
    (hM : ∀ sz, Met l y (Cond.codeWith y bytes maxL ret hh :: gW) rm (fun v U => PcN C0 Y D sz As v U ∧ va_K D vwCl (tysY Y ++ [(cD, .double)]) U) (QNi C0 C1 Y D sz r) mc ms (va_A C0 sz)) (cw : vx_CSW R s args own index y bytes maxL ret hh (Cond.codeWith y bytes maxL ret hh :: gW) rm mc ms n)
    (hn : As.length = n) (hst : st = As.reverse ++ rest) (hcat : (rest.map fun v => v.category).sum ≤ 8) (hdg : decode cc pc = .ok (.invokestatic index, 3)) (hf : cells + mc ≤ R.cells ∧ slots + ms ≤ R.slots)
    (kk : ∀ (H1 : Heap) (locs1 : List Loc), va_P D vwCl (Rs ++ C1) H1 → va_D A (Rs ++ C1) → va_S A s.heap H1 locs1 → W p l e R s m args below meth c H1 locs1 (cells + mc) (slots + ms) Q (F0 m (pc + 3) ls (.int r :: rest))) : W p l e R s m args below meth c H locs cells slots Q (F0 m pc ls st) := by
  subst hst
  refine va_calli (vx_runSW (As := As) (rest := rest) ⟨hC.1, hb, hml, hC.2.2.1, hC.2.1⟩ (hM H.size) cw ⟨PcNd_blind, fun U hU hW => ⟨tl_pre hC hSW hP hD hS hA U hU hW, va_K.moved hW.alike hKD⟩⟩ rfl hn hls rfl (lv_room (ls := ls) hcat) hdg hf) hS (fun q _ h => tl_free hD hS hA q h) (fun q h => tl_free hD hS hA q h) (fun r1 u t H1 locs1 ht hvm hw hB hz hk hS1 => ?_)
  subst hw
  obtain ⟨hP1, -, hD1⟩ := hB
  rw [ht] at hP1
  obtain ⟨hP2, hD2⟩ := tl_join hP hD hS hA hk hP1 hD1
  exact kk H1 locs1 hP2 hD2 hS1
end LS
theorem cw_L_110 {R : Room} {p : Program} {s : State} {m : MethodId} {args : Array Value} {D : va_G} {Y : CYs} {rm : Room} (hC : Ctx p s m args RL D Y) (hrc : rm.cells = 0) (hrs : rm.slots = 0) (hR : rm.frames + 1 ≤ R.frames ∧ 8 + (6 + 11) + rm.locals ≤ R.locals) : CallW R s args RL RX10 110 yX10_feed cX10_feed 6 (some .int) (Cond.code yX10_feed cX10_feed 6 (some .int) :: gW) rm 0 0 5 :=
  cwV 5 hC.2.1 (gi_V (gw_t (tb6 (List.mem_of_getElem? (i := 221) rfl)) rfl) (gw_t (tb6 (List.mem_of_getElem? (i := 222) rfl)) rfl) (gw_t (tb6 (List.mem_of_getElem? (i := 223) rfl)) rfl) (gw_t (tb1 (List.mem_of_getElem? (i := 10) rfl)) rfl) (gw_t (tb6 (List.mem_of_getElem? (i := 224) rfl)) rfl)) rfl hrc hrs ⟨rfl, by decide +kernel, by decide +kernel, by decide +kernel⟩ hR
theorem cw_L_111 {R : Room} {p : Program} {s : State} {m : MethodId} {args : Array Value} {D : va_G} {Y : CYs} {rm : Room} (hC : Ctx p s m args RL D Y) (hrc : rm.cells = 0) (hrs : rm.slots = 0) (hR : rm.frames + 1 ≤ R.frames ∧ 8 + (1 + 11) + rm.locals ≤ R.locals) : CallW R s args RL RX10 111 yX10_thrown cX10_thrown 1 (some .int) (Cond.code yX10_thrown cX10_thrown 1 (some .int) :: gW) rm 0 0 0 :=
  cwV 0 hC.2.1 (gi_V (gw_t (tb6 (List.mem_of_getElem? (i := 217) rfl)) rfl) (gw_t (tb6 (List.mem_of_getElem? (i := 218) rfl)) rfl) (gw_t (tb6 (List.mem_of_getElem? (i := 219) rfl)) rfl) (gw_t (tb1 (List.mem_of_getElem? (i := 10) rfl)) rfl) (gw_t (tb6 (List.mem_of_getElem? (i := 220) rfl)) rfl)) rfl hrc hrs ⟨rfl, by decide +kernel, by decide +kernel, by decide +kernel⟩ hR
theorem cw_L_118 {R : Room} {p : Program} {s : State} {m : MethodId} {args : Array Value} {D : va_G} {Y : CYs} {rm : Room} (hC : Ctx p s m args RL D Y) (hrc : rm.cells = 0) (hrs : rm.slots = 0) (hR : rm.frames + 1 ≤ R.frames ∧ 8 + (2 + 11) + rm.locals ≤ R.locals) : CallW R s args RL RX10 118 yX10_trim cX10_trim 2 (some .int) (Cond.code yX10_trim cX10_trim 2 (some .int) :: gW) rm 0 0 1 :=
  cwV 1 hC.2.1 (gi_V (gw_t (tb6 (List.mem_of_getElem? (i := 233) rfl)) rfl) (gw_t (tb6 (List.mem_of_getElem? (i := 234) rfl)) rfl) (gw_t (tb6 (List.mem_of_getElem? (i := 235) rfl)) rfl) (gw_t (tb1 (List.mem_of_getElem? (i := 10) rfl)) rfl) (gw_t (tb6 (List.mem_of_getElem? (i := 236) rfl)) rfl)) rfl hrc hrs ⟨rfl, by decide +kernel, by decide +kernel, by decide +kernel⟩ hR
theorem cw_L_119 {R : Room} {p : Program} {s : State} {m : MethodId} {args : Array Value} {D : va_G} {Y : CYs} {rm : Room} (hC : Ctx p s m args RL D Y) (hrc : rm.cells = 0) (hrs : rm.slots = 0) (hR : rm.frames + 1 ≤ R.frames ∧ 8 + (2 + 11) + rm.locals ≤ R.locals) : CallW R s args RL RX8 119 yX8_compile cX8_compile 2 (some .int) (Cond.code yX8_compile cX8_compile 2 (some .int) :: gW) rm 0 0 0 :=
  cwV 0 hC.2.1 (gi_V (gw_t (tb2 (List.mem_of_getElem? (i := 125) rfl)) rfl) (gw_t (tb2 (List.mem_of_getElem? (i := 126) rfl)) rfl) (gw_t (tb2 (List.mem_of_getElem? (i := 127) rfl)) rfl) (gw_t (tb1 (List.mem_of_getElem? (i := 1) rfl)) rfl) (gw_t (tb2 (List.mem_of_getElem? (i := 128) rfl)) rfl)) rfl hrc hrs ⟨rfl, by decide +kernel, by decide +kernel, by decide +kernel⟩ hR
theorem cw_L_123 {R : Room} {p : Program} {s : State} {m : MethodId} {args : Array Value} {D : va_G} {Y : CYs} {rm : Room} (hC : Ctx p s m args RL D Y) (hrc : rm.cells = 0) (hrs : rm.slots = 0) (hR : rm.frames + 1 ≤ R.frames ∧ 8 + (1 + 11) + rm.locals ≤ R.locals) : CallW R s args RL RX8 123 yX8_errorAt cX8_errorAt 1 (some .int) (Cond.code yX8_errorAt cX8_errorAt 1 (some .int) :: gW) rm 0 0 0 :=
  cwV 0 hC.2.1 (gi_V (gw_t (tb4 (List.mem_of_getElem? (i := 45) rfl)) rfl) (gw_t (tb4 (List.mem_of_getElem? (i := 46) rfl)) rfl) (gw_t (tb4 (List.mem_of_getElem? (i := 47) rfl)) rfl) (gw_t (tb1 (List.mem_of_getElem? (i := 1) rfl)) rfl) (gw_t (tb4 (List.mem_of_getElem? (i := 48) rfl)) rfl)) rfl hrc hrs ⟨rfl, by decide +kernel, by decide +kernel, by decide +kernel⟩ hR
theorem cw_L_126 {R : Room} {p : Program} {s : State} {m : MethodId} {args : Array Value} {D : va_G} {Y : CYs} {rm : Room} (hC : Ctx p s m args RL D Y) (hrc : rm.cells = 0) (hrs : rm.slots = 0) (hR : rm.frames + 1 ≤ R.frames ∧ 8 + (1 + 11) + rm.locals ≤ R.locals) : CallW R s args RL RX10 126 yX10_errorAt cX10_errorAt 1 (some .int) (Cond.code yX10_errorAt cX10_errorAt 1 (some .int) :: gW) rm 0 0 0 :=
  cwV 0 hC.2.1 (gi_V (gw_t (tb7 (List.mem_of_getElem? (i := 204) rfl)) rfl) (gw_t (tb7 (List.mem_of_getElem? (i := 205) rfl)) rfl) (gw_t (tb7 (List.mem_of_getElem? (i := 206) rfl)) rfl) (gw_t (tb1 (List.mem_of_getElem? (i := 10) rfl)) rfl) (gw_t (tb7 (List.mem_of_getElem? (i := 207) rfl)) rfl)) rfl hrc hrs ⟨rfl, by decide +kernel, by decide +kernel, by decide +kernel⟩ hR
theorem cw_L_129 {R : Room} {p : Program} {s : State} {m : MethodId} {args : Array Value} {D : va_G} {Y : CYs} {rm : Room} (hC : Ctx p s m args RL D Y) (hrc : rm.cells = 0) (hrs : rm.slots = 0) (hR : rm.frames + 1 ≤ R.frames ∧ 8 + (2 + 11) + rm.locals ≤ R.locals) : CallW R s args RL RX10 129 yX10_count cX10_count 2 (some .int) (Cond.code yX10_count cX10_count 2 (some .int) :: gW) rm 0 0 1 :=
  cwV 1 hC.2.1 (gi_V (gw_t (tb7 (List.mem_of_getElem? (i := 208) rfl)) rfl) (gw_t (tb7 (List.mem_of_getElem? (i := 209) rfl)) rfl) (gw_t (tb7 (List.mem_of_getElem? (i := 210) rfl)) rfl) (gw_t (tb1 (List.mem_of_getElem? (i := 10) rfl)) rfl) (gw_t (tb7 (List.mem_of_getElem? (i := 211) rfl)) rfl)) rfl hrc hrs ⟨rfl, by decide +kernel, by decide +kernel, by decide +kernel⟩ hR
theorem cw_L_133 {R : Room} {p : Program} {s : State} {m : MethodId} {args : Array Value} {D : va_G} {Y : CYs} {rm : Room} (hC : Ctx p s m args RL D Y) (hrc : rm.cells = 0) (hrs : rm.slots = 0) (hR : rm.frames + 1 ≤ R.frames ∧ 8 + (1 + 11) + rm.locals ≤ R.locals) : CallW R s args RL RX8 133 yX8_result cX8_result 1 (some .long) (Cond.code yX8_result cX8_result 1 (some .long) :: gW) rm 0 0 0 :=
  cwV 0 hC.2.1 (gi_V (gw_t (tb4 (List.mem_of_getElem? (i := 49) rfl)) rfl) (gw_t (tb4 (List.mem_of_getElem? (i := 50) rfl)) rfl) (gw_t (tb4 (List.mem_of_getElem? (i := 51) rfl)) rfl) (gw_t (tb1 (List.mem_of_getElem? (i := 1) rfl)) rfl) (gw_t (tb4 (List.mem_of_getElem? (i := 52) rfl)) rfl)) rfl hrc hrs ⟨rfl, by decide +kernel, by decide +kernel, by decide +kernel⟩ hR
theorem cw_L_137 {R : Room} {p : Program} {s : State} {m : MethodId} {args : Array Value} {D : va_G} {Y : CYs} {rm : Room} (hC : Ctx p s m args RL D Y) (hrc : rm.cells = 0) (hrs : rm.slots = 0) (hR : rm.frames + 1 ≤ R.frames ∧ 8 + (1 + 11) + rm.locals ≤ R.locals) : CallW R s args RL RX10 137 yX10_result cX10_result 1 (some .long) (Cond.code yX10_result cX10_result 1 (some .long) :: gW) rm 0 0 0 :=
  cwV 0 hC.2.1 (gi_V (gw_t (tb7 (List.mem_of_getElem? (i := 225) rfl)) rfl) (gw_t (tb7 (List.mem_of_getElem? (i := 226) rfl)) rfl) (gw_t (tb7 (List.mem_of_getElem? (i := 227) rfl)) rfl) (gw_t (tb1 (List.mem_of_getElem? (i := 10) rfl)) rfl) (gw_t (tb7 (List.mem_of_getElem? (i := 228) rfl)) rfl)) rfl hrc hrs ⟨rfl, by decide +kernel, by decide +kernel, by decide +kernel⟩ hR
theorem cw_L_141 {R : Room} {p : Program} {s : State} {m : MethodId} {args : Array Value} {D : va_G} {Y : CYs} {rm : Room} (hC : Ctx p s m args RL D Y) (hrc : rm.cells = 0) (hrs : rm.slots = 0) (hR : rm.frames + 1 ≤ R.frames ∧ 8 + (3 + 11) + rm.locals ≤ R.locals) : CallW R s args RL RX10 141 yX10_value cX10_value 3 (some .int) (Cond.code yX10_value cX10_value 3 (some .int) :: gW) rm 0 0 2 :=
  cwV 2 hC.2.1 (gi_V (gw_t (tb7 (List.mem_of_getElem? (i := 229) rfl)) rfl) (gw_t (tb7 (List.mem_of_getElem? (i := 230) rfl)) rfl) (gw_t (tb7 (List.mem_of_getElem? (i := 231) rfl)) rfl) (gw_t (tb1 (List.mem_of_getElem? (i := 10) rfl)) rfl) (gw_t (tb7 (List.mem_of_getElem? (i := 232) rfl)) rfl)) rfl hrc hrs ⟨rfl, by decide +kernel, by decide +kernel, by decide +kernel⟩ hR
theorem cw_L_144 {R : Room} {p : Program} {s : State} {m : MethodId} {args : Array Value} {D : va_G} {Y : CYs} {rm : Room} (hC : Ctx p s m args RL D Y) (hrc : rm.cells = 0) (hrs : rm.slots = 0) (hR : rm.frames + 1 ≤ R.frames ∧ 8 + (2 + 11) + rm.locals ≤ R.locals) : CallW R s args RL RX10 144 yX10_choices cX10_choices 2 (some .int) (Cond.code yX10_choices cX10_choices 2 (some .int) :: gW) rm 0 0 1 :=
  cwV 1 hC.2.1 (gi_V (gw_t (tb7 (List.mem_of_getElem? (i := 233) rfl)) rfl) (gw_t (tb7 (List.mem_of_getElem? (i := 234) rfl)) rfl) (gw_t (tb7 (List.mem_of_getElem? (i := 235) rfl)) rfl) (gw_t (tb1 (List.mem_of_getElem? (i := 10) rfl)) rfl) (gw_t (tb7 (List.mem_of_getElem? (i := 236) rfl)) rfl)) rfl hrc hrs ⟨rfl, by decide +kernel, by decide +kernel, by decide +kernel⟩ hR
theorem cw_L_148 {R : Room} {p : Program} {s : State} {m : MethodId} {args : Array Value} {D : va_G} {Y : CYs} {rm : Room} (hC : Ctx p s m args RL D Y) (hrc : rm.cells = 0) (hrs : rm.slots = 0) (hR : rm.frames + 1 ≤ R.frames ∧ 8 + (5 + 11) + rm.locals ≤ R.locals) : CallW R s args RL RX10 148 yX10_choice cX10_choice 5 (some .int) (Cond.code yX10_choice cX10_choice 5 (some .int) :: gW) rm 0 0 3 :=
  cwV 3 hC.2.1 (gi_V (gw_t (tb8 (List.mem_of_getElem? (i := 1) rfl)) rfl) (gw_t (tb8 (List.mem_of_getElem? (i := 2) rfl)) rfl) (gw_t (tb8 (List.mem_of_getElem? (i := 3) rfl)) rfl) (gw_t (tb1 (List.mem_of_getElem? (i := 10) rfl)) rfl) (gw_t (tb8 (List.mem_of_getElem? (i := 4) rfl)) rfl)) rfl hrc hrs ⟨rfl, by decide +kernel, by decide +kernel, by decide +kernel⟩ hR
theorem cw_L_151 {R : Room} {p : Program} {s : State} {m : MethodId} {args : Array Value} {D : va_G} {Y : CYs} {rm : Room} (hC : Ctx p s m args RL D Y) (hrc : rm.cells = 0) (hrs : rm.slots = 0) (hR : rm.frames + 1 ≤ R.frames ∧ 8 + (4 + 11) + rm.locals ≤ R.locals) : CallW R s args RL RX10 151 yX10_gain_ cX10_gain_ 4 (some .long) (Cond.code yX10_gain_ cX10_gain_ 4 (some .long) :: gW) rm 0 0 3 :=
  cwV 3 hC.2.1 (gi_V (gw_t (tb8 (List.mem_of_getElem? (i := 13) rfl)) rfl) (gw_t (tb8 (List.mem_of_getElem? (i := 14) rfl)) rfl) (gw_t (tb8 (List.mem_of_getElem? (i := 15) rfl)) rfl) (gw_t (tb1 (List.mem_of_getElem? (i := 10) rfl)) rfl) (gw_t (tb8 (List.mem_of_getElem? (i := 16) rfl)) rfl)) rfl hrc hrs ⟨rfl, by decide +kernel, by decide +kernel, by decide +kernel⟩ hR
theorem cw_L_155 {R : Room} {p : Program} {s : State} {m : MethodId} {args : Array Value} {D : va_G} {Y : CYs} {rm : Room} (hC : Ctx p s m args RL D Y) (hrc : rm.cells = 0) (hrs : rm.slots = 0) (hR : rm.frames + 1 ≤ R.frames ∧ 8 + (6 + 11) + rm.locals ≤ R.locals) : CallW R s args RL RX10 155 yX10_branch_ cX10_branch_ 6 (some .int) (Cond.code yX10_branch_ cX10_branch_ 6 (some .int) :: gW) rm 0 0 4 :=
  cwV 4 hC.2.1 (gi_V (gw_t (tb8 (List.mem_of_getElem? (i := 17) rfl)) rfl) (gw_t (tb8 (List.mem_of_getElem? (i := 18) rfl)) rfl) (gw_t (tb8 (List.mem_of_getElem? (i := 19) rfl)) rfl) (gw_t (tb1 (List.mem_of_getElem? (i := 10) rfl)) rfl) (gw_t (tb8 (List.mem_of_getElem? (i := 20) rfl)) rfl)) rfl hrc hrs ⟨rfl, by decide +kernel, by decide +kernel, by decide +kernel⟩ hR
theorem cw_L_158 {R : Room} {p : Program} {s : State} {m : MethodId} {args : Array Value} {D : va_G} {Y : CYs} {rm : Room} (hC : Ctx p s m args RL D Y) (hrc : rm.cells = 0) (hrs : rm.slots = 0) (hR : rm.frames + 1 ≤ R.frames ∧ 8 + (4 + 11) + rm.locals ≤ R.locals) : CallW R s args RL RX10 158 yX10_weigh cX10_weigh 4 (some .int) (Cond.code yX10_weigh cX10_weigh 4 (some .int) :: gW) rm 0 0 2 :=
  cwV 2 hC.2.1 (gi_V (gw_t (tb8 (List.mem_of_getElem? (i := 25) rfl)) rfl) (gw_t (tb8 (List.mem_of_getElem? (i := 26) rfl)) rfl) (gw_t (tb8 (List.mem_of_getElem? (i := 27) rfl)) rfl) (gw_t (tb1 (List.mem_of_getElem? (i := 10) rfl)) rfl) (gw_t (tb8 (List.mem_of_getElem? (i := 28) rfl)) rfl)) rfl hrc hrs ⟨rfl, by decide +kernel, by decide +kernel, by decide +kernel⟩ hR
theorem cw_L_161 {R : Room} {p : Program} {s : State} {m : MethodId} {args : Array Value} {D : va_G} {Y : CYs} {rm : Room} (hC : Ctx p s m args RL D Y) (hrc : rm.cells = 0) (hrs : rm.slots = 0) (hR : rm.frames + 1 ≤ R.frames ∧ 8 + (2 + 11) + rm.locals ≤ R.locals) : CallW R s args RL RX10 161 yX10_solve cX10_solve 2 (some .int) (Cond.code yX10_solve cX10_solve 2 (some .int) :: gW) rm 0 0 1 :=
  cwV 1 hC.2.1 (gi_V (gw_t (tb8 (List.mem_of_getElem? (i := 35) rfl)) rfl) (gw_t (tb8 (List.mem_of_getElem? (i := 36) rfl)) rfl) (gw_t (tb8 (List.mem_of_getElem? (i := 37) rfl)) rfl) (gw_t (tb1 (List.mem_of_getElem? (i := 10) rfl)) rfl) (gw_t (tb8 (List.mem_of_getElem? (i := 38) rfl)) rfl)) rfl hrc hrs ⟨rfl, by decide +kernel, by decide +kernel, by decide +kernel⟩ hR
theorem cw_L_164 {R : Room} {p : Program} {s : State} {m : MethodId} {args : Array Value} {D : va_G} {Y : CYs} {rm : Room} (hC : Ctx p s m args RL D Y) (hrc : rm.cells = 0) (hrs : rm.slots = 0) (hR : rm.frames + 1 ≤ R.frames ∧ 8 + (4 + 11) + rm.locals ≤ R.locals) : CallW R s args RL RX10 164 yX10_takes cX10_takes 4 (some .int) (Cond.code yX10_takes cX10_takes 4 (some .int) :: gW) rm 0 0 3 :=
  cwV 3 hC.2.1 (gi_V (gw_t (tb8 (List.mem_of_getElem? (i := 54) rfl)) rfl) (gw_t (tb8 (List.mem_of_getElem? (i := 55) rfl)) rfl) (gw_t (tb8 (List.mem_of_getElem? (i := 56) rfl)) rfl) (gw_t (tb1 (List.mem_of_getElem? (i := 10) rfl)) rfl) (gw_t (tb8 (List.mem_of_getElem? (i := 57) rfl)) rfl)) rfl hrc hrs ⟨rfl, by decide +kernel, by decide +kernel, by decide +kernel⟩ hR
theorem cw_L_167 {R : Room} {p : Program} {s : State} {m : MethodId} {args : Array Value} {D : va_G} {Y : CYs} {rm : Room} (hC : Ctx p s m args RL D Y) (hrc : rm.cells = 0) (hrs : rm.slots = 0) (hR : rm.frames + 1 ≤ R.frames ∧ 8 + (4 + 11) + rm.locals ≤ R.locals) : CallW R s args RL RX10 167 yX10_worth cX10_worth 4 (some .long) (Cond.code yX10_worth cX10_worth 4 (some .long) :: gW) rm 0 0 3 :=
  cwV 3 hC.2.1 (gi_V (gw_t (tb8 (List.mem_of_getElem? (i := 62) rfl)) rfl) (gw_t (tb8 (List.mem_of_getElem? (i := 63) rfl)) rfl) (gw_t (tb8 (List.mem_of_getElem? (i := 64) rfl)) rfl) (gw_t (tb1 (List.mem_of_getElem? (i := 10) rfl)) rfl) (gw_t (tb8 (List.mem_of_getElem? (i := 65) rfl)) rfl)) rfl hrc hrs ⟨rfl, by decide +kernel, by decide +kernel, by decide +kernel⟩ hR
theorem cw_L_170 {R : Room} {p : Program} {s : State} {m : MethodId} {args : Array Value} {D : va_G} {Y : CYs} {rm : Room} (hC : Ctx p s m args RL D Y) (hrc : rm.cells = 0) (hrs : rm.slots = 0) (hR : rm.frames + 1 ≤ R.frames ∧ 8 + (3 + 11) + rm.locals ≤ R.locals) : CallW R s args RL RX10 170 yX10_brings cX10_brings 3 (some .long) (Cond.code yX10_brings cX10_brings 3 (some .long) :: gW) rm 0 0 2 :=
  cwV 2 hC.2.1 (gi_V (gw_t (tb8 (List.mem_of_getElem? (i := 66) rfl)) rfl) (gw_t (tb8 (List.mem_of_getElem? (i := 67) rfl)) rfl) (gw_t (tb8 (List.mem_of_getElem? (i := 68) rfl)) rfl) (gw_t (tb1 (List.mem_of_getElem? (i := 10) rfl)) rfl) (gw_t (tb8 (List.mem_of_getElem? (i := 69) rfl)) rfl)) rfl hrc hrs ⟨rfl, by decide +kernel, by decide +kernel, by decide +kernel⟩ hR
theorem cw_L_173 {R : Room} {p : Program} {s : State} {m : MethodId} {args : Array Value} {D : va_G} {Y : CYs} {rm : Room} (hC : Ctx p s m args RL D Y) (hrc : rm.cells = 0) (hrs : rm.slots = 0) (hR : rm.frames + 1 ≤ R.frames ∧ 8 + (2 + 11) + rm.locals ≤ R.locals) : CallW R s args RL RX10 173 yX10_chance cX10_chance 2 (some .int) (Cond.code yX10_chance cX10_chance 2 (some .int) :: gW) rm 0 0 1 :=
  cwV 1 hC.2.1 (gi_V (gw_t (tb8 (List.mem_of_getElem? (i := 70) rfl)) rfl) (gw_t (tb8 (List.mem_of_getElem? (i := 71) rfl)) rfl) (gw_t (tb8 (List.mem_of_getElem? (i := 72) rfl)) rfl) (gw_t (tb1 (List.mem_of_getElem? (i := 10) rfl)) rfl) (gw_t (tb8 (List.mem_of_getElem? (i := 73) rfl)) rfl)) rfl hrc hrs ⟨rfl, by decide +kernel, by decide +kernel, by decide +kernel⟩ hR
theorem cw_L_176 {R : Room} {p : Program} {s : State} {m : MethodId} {args : Array Value} {D : va_G} {Y : CYs} {rm : Room} (hC : Ctx p s m args RL D Y) (hrc : rm.cells = 0) (hrs : rm.slots = 0) (hR : rm.frames + 1 ≤ R.frames ∧ 8 + (4 + 11) + rm.locals ≤ R.locals) : CallW R s args RL RX10 176 yX10_isWorthHaving cX10_isWorthHaving 4 (some .boolean) (Cond.code yX10_isWorthHaving cX10_isWorthHaving 4 (some .boolean) :: gW) rm 0 0 1 :=
  cwV 1 hC.2.1 (gi_V (gw_t (tb8 (List.mem_of_getElem? (i := 74) rfl)) rfl) (gw_t (tb8 (List.mem_of_getElem? (i := 75) rfl)) rfl) (gw_t (tb8 (List.mem_of_getElem? (i := 76) rfl)) rfl) (gw_t (tb1 (List.mem_of_getElem? (i := 10) rfl)) rfl) (gw_t (tb8 (List.mem_of_getElem? (i := 77) rfl)) rfl)) rfl hrc hrs ⟨rfl, by decide +kernel, by decide +kernel, by decide +kernel⟩ hR
theorem cw_L_183 {R : Room} {p : Program} {s : State} {m : MethodId} {args : Array Value} {D : va_G} {Y : CYs} {rm : Room} (hC : Ctx p s m args RL D Y) (hrc : rm.cells = 0) (hrs : rm.slots = 0) (hR : rm.frames + 1 ≤ R.frames ∧ 8 + (5 + 11) + rm.locals ≤ R.locals) : CallW R s args RL RX10 183 yX10_mix cX10_mix 5 (some .long) (Cond.code yX10_mix cX10_mix 5 (some .long) :: gW) rm 0 0 4 :=
  cwV 4 hC.2.1 (gi_V (gw_t (tb8 (List.mem_of_getElem? (i := 90) rfl)) rfl) (gw_t (tb8 (List.mem_of_getElem? (i := 91) rfl)) rfl) (gw_t (tb8 (List.mem_of_getElem? (i := 92) rfl)) rfl) (gw_t (tb1 (List.mem_of_getElem? (i := 10) rfl)) rfl) (gw_t (tb8 (List.mem_of_getElem? (i := 93) rfl)) rfl)) rfl hrc hrs ⟨rfl, by decide +kernel, by decide +kernel, by decide +kernel⟩ hR
theorem cw_L_189 {R : Room} {p : Program} {s : State} {m : MethodId} {args : Array Value} {D : va_G} {Y : CYs} {rm : Room} (hC : Ctx p s m args RL D Y) (hrc : rm.cells = 0) (hrs : rm.slots = 0) (hR : rm.frames + 1 ≤ R.frames ∧ 8 + (11 + 11) + rm.locals ≤ R.locals) : CallW R s args RL RX10 189 yX10_bestMix cX10_bestMix 11 (some .int) (Cond.code yX10_bestMix cX10_bestMix 11 (some .int) :: gW) rm 0 0 3 :=
  cwV 3 hC.2.1 (gi_V (gw_t (tb8 (List.mem_of_getElem? (i := 98) rfl)) rfl) (gw_t (tb8 (List.mem_of_getElem? (i := 99) rfl)) rfl) (gw_t (tb8 (List.mem_of_getElem? (i := 100) rfl)) rfl) (gw_t (tb1 (List.mem_of_getElem? (i := 10) rfl)) rfl) (gw_t (tb8 (List.mem_of_getElem? (i := 101) rfl)) rfl)) rfl hrc hrs ⟨rfl, by decide +kernel, by decide +kernel, by decide +kernel⟩ hR
theorem cw_L_192 {R : Room} {p : Program} {s : State} {m : MethodId} {args : Array Value} {D : va_G} {Y : CYs} {rm : Room} (hC : Ctx p s m args RL D Y) (hrc : rm.cells = 0) (hrs : rm.slots = 0) (hR : rm.frames + 1 ≤ R.frames ∧ 8 + (3 + 11) + rm.locals ≤ R.locals) : CallW R s args RL RX10 192 yX10_drop cX10_drop 3 (some .int) (Cond.code yX10_drop cX10_drop 3 (some .int) :: gW) rm 0 0 1 :=
  cwV 1 hC.2.1 (gi_V (gw_t (tb8 (List.mem_of_getElem? (i := 103) rfl)) rfl) (gw_t (tb8 (List.mem_of_getElem? (i := 104) rfl)) rfl) (gw_t (tb8 (List.mem_of_getElem? (i := 105) rfl)) rfl) (gw_t (tb1 (List.mem_of_getElem? (i := 10) rfl)) rfl) (gw_t (tb8 (List.mem_of_getElem? (i := 106) rfl)) rfl)) rfl hrc hrs ⟨rfl, by decide +kernel, by decide +kernel, by decide +kernel⟩ hR
theorem cw_L_196 {R : Room} {p : Program} {s : State} {m : MethodId} {args : Array Value} {D : va_G} {Y : CYs} {rm : Room} (hC : Ctx p s m args RL D Y) (hrc : rm.cells = 0) (hrs : rm.slots = 0) (hR : rm.frames + 1 ≤ R.frames ∧ 8 + (8 + 11) + rm.locals ≤ R.locals) : CallW R s args RL RX10 196 yX10_reach cX10_reach 8 (some .int) (Cond.code yX10_reach cX10_reach 8 (some .int) :: gW) rm 0 0 2 :=
  cwV 2 hC.2.1 (gi_V (gw_t (tb8 (List.mem_of_getElem? (i := 107) rfl)) rfl) (gw_t (tb8 (List.mem_of_getElem? (i := 108) rfl)) rfl) (gw_t (tb8 (List.mem_of_getElem? (i := 109) rfl)) rfl) (gw_t (tb1 (List.mem_of_getElem? (i := 10) rfl)) rfl) (gw_t (tb8 (List.mem_of_getElem? (i := 110) rfl)) rfl)) rfl hrc hrs ⟨rfl, by decide +kernel, by decide +kernel, by decide +kernel⟩ hR
theorem cw_L_197 {R : Room} {p : Program} {s : State} {m : MethodId} {args : Array Value} {D : va_G} {Y : CYs} {rm : Room} (hC : Ctx p s m args RL D Y) (hrc : rm.cells = 0) (hrs : rm.slots = 0) (hR : rm.frames + 1 ≤ R.frames ∧ 8 + (5 + 11) + rm.locals ≤ R.locals) : CallW R s args RL RX8 197 yX8_seed cX8_seed 5 (some .long) (Cond.code yX8_seed cX8_seed 5 (some .long) :: gW) rm 0 0 1 :=
  cwV 1 hC.2.1 (gi_V (gw_t (tb4 (List.mem_of_getElem? (i := 53) rfl)) rfl) (gw_t (tb4 (List.mem_of_getElem? (i := 54) rfl)) rfl) (gw_t (tb4 (List.mem_of_getElem? (i := 55) rfl)) rfl) (gw_t (tb1 (List.mem_of_getElem? (i := 1) rfl)) rfl) (gw_t (tb4 (List.mem_of_getElem? (i := 56) rfl)) rfl)) rfl hrc hrs ⟨rfl, by decide +kernel, by decide +kernel, by decide +kernel⟩ hR
theorem cw_L_201 {R : Room} {p : Program} {s : State} {m : MethodId} {args : Array Value} {D : va_G} {Y : CYs} {rm : Room} (hC : Ctx p s m args RL D Y) (hrc : rm.cells = 0) (hrs : rm.slots = 0) (hR : rm.frames + 1 ≤ R.frames ∧ 8 + (5 + 11) + rm.locals ≤ R.locals) : CallW R s args RL RX10 201 yX10_seed cX10_seed 5 (some .long) (Cond.code yX10_seed cX10_seed 5 (some .long) :: gW) rm 0 0 1 :=
  cwV 1 hC.2.1 (gi_V (gw_t (tb8 (List.mem_of_getElem? (i := 111) rfl)) rfl) (gw_t (tb8 (List.mem_of_getElem? (i := 112) rfl)) rfl) (gw_t (tb8 (List.mem_of_getElem? (i := 113) rfl)) rfl) (gw_t (tb1 (List.mem_of_getElem? (i := 10) rfl)) rfl) (gw_t (tb8 (List.mem_of_getElem? (i := 114) rfl)) rfl)) rfl hrc hrs ⟨rfl, by decide +kernel, by decide +kernel, by decide +kernel⟩ hR
theorem cw_L_204 {R : Room} {p : Program} {s : State} {m : MethodId} {args : Array Value} {D : va_G} {Y : CYs} {rm : Room} (hC : Ctx p s m args RL D Y) (hrc : rm.cells = 0) (hrs : rm.slots = 0) (hR : rm.frames + 1 ≤ R.frames ∧ 8 + (2 + 11) + rm.locals ≤ R.locals) : CallW R s args RL RX10 204 yX10_play cX10_play 2 (some .int) (Cond.code yX10_play cX10_play 2 (some .int) :: gW) rm 0 0 1 :=
  cwV 1 hC.2.1 (gi_V (gw_t (tb8 (List.mem_of_getElem? (i := 115) rfl)) rfl) (gw_t (tb8 (List.mem_of_getElem? (i := 116) rfl)) rfl) (gw_t (tb8 (List.mem_of_getElem? (i := 117) rfl)) rfl) (gw_t (tb1 (List.mem_of_getElem? (i := 10) rfl)) rfl) (gw_t (tb8 (List.mem_of_getElem? (i := 118) rfl)) rfl)) rfl hrc hrs ⟨rfl, by decide +kernel, by decide +kernel, by decide +kernel⟩ hR
theorem cw_L_207 {R : Room} {p : Program} {s : State} {m : MethodId} {args : Array Value} {D : va_G} {Y : CYs} {rm : Room} (hC : Ctx p s m args RL D Y) (hrc : rm.cells = 0) (hrs : rm.slots = 0) (hR : rm.frames + 1 ≤ R.frames ∧ 8 + (2 + 11) + rm.locals ≤ R.locals) : CallW R s args RL RX10 207 yX10_played cX10_played 2 (some .long) (Cond.code yX10_played cX10_played 2 (some .long) :: gW) rm 0 0 1 :=
  cwV 1 hC.2.1 (gi_V (gw_t (tb8 (List.mem_of_getElem? (i := 125) rfl)) rfl) (gw_t (tb8 (List.mem_of_getElem? (i := 126) rfl)) rfl) (gw_t (tb8 (List.mem_of_getElem? (i := 127) rfl)) rfl) (gw_t (tb1 (List.mem_of_getElem? (i := 10) rfl)) rfl) (gw_t (tb8 (List.mem_of_getElem? (i := 128) rfl)) rfl)) rfl hrc hrs ⟨rfl, by decide +kernel, by decide +kernel, by decide +kernel⟩ hR
theorem cw_L_211 {R : Room} {p : Program} {s : State} {m : MethodId} {args : Array Value} {D : va_G} {Y : CYs} {rm : Room} (hC : Ctx p s m args RL D Y) (hrc : rm.cells = 0) (hrs : rm.slots = 0) (hR : rm.frames + 1 ≤ R.frames ∧ 8 + (8 + 11) + rm.locals ≤ R.locals) : CallW R s args RL RX10 211 yX10_average cX10_average 8 (some .double) (Cond.code yX10_average cX10_average 8 (some .double) :: gW) rm 0 0 3 :=
  cwV 3 hC.2.1 (gi_V (gw_t (tb8 (List.mem_of_getElem? (i := 130) rfl)) rfl) (gw_t (tb8 (List.mem_of_getElem? (i := 131) rfl)) rfl) (gw_t (tb8 (List.mem_of_getElem? (i := 132) rfl)) rfl) (gw_t (tb1 (List.mem_of_getElem? (i := 10) rfl)) rfl) (gw_t (tb8 (List.mem_of_getElem? (i := 133) rfl)) rfl)) rfl hrc hrs ⟨rfl, by decide +kernel, by decide +kernel, by decide +kernel⟩ hR
theorem cw_L_212 {R : Room} {p : Program} {s : State} {m : MethodId} {args : Array Value} {D : va_G} {Y : CYs} {rm : Room} (hC : Ctx p s m args RL D Y) (hrc : rm.cells = 0) (hrs : rm.slots = 0) (hR : rm.frames + 1 ≤ R.frames ∧ 8 + (4 + 11) + rm.locals ≤ R.locals) : CallW R s args RL RX8 212 yX8_digest cX8_digest 4 (some .long) (Cond.code yX8_digest cX8_digest 4 (some .long) :: gW) rm 0 0 0 :=
  cwV 0 hC.2.1 (gi_V (gw_t (tb4 (List.mem_of_getElem? (i := 57) rfl)) rfl) (gw_t (tb4 (List.mem_of_getElem? (i := 58) rfl)) rfl) (gw_t (tb4 (List.mem_of_getElem? (i := 59) rfl)) rfl) (gw_t (tb1 (List.mem_of_getElem? (i := 1) rfl)) rfl) (gw_t (tb4 (List.mem_of_getElem? (i := 60) rfl)) rfl)) rfl hrc hrs ⟨rfl, by decide +kernel, by decide +kernel, by decide +kernel⟩ hR
theorem cw_L_215 {R : Room} {p : Program} {s : State} {m : MethodId} {args : Array Value} {D : va_G} {Y : CYs} {rm : Room} (hC : Ctx p s m args RL D Y) (hrc : rm.cells = 0) (hrs : rm.slots = 0) (hR : rm.frames + 1 ≤ R.frames ∧ 8 + (5 + 11) + rm.locals ≤ R.locals) : CallW R s args RL RX10 215 yX10_digest cX10_digest 5 (some .long) (Cond.code yX10_digest cX10_digest 5 (some .long) :: gW) rm 0 0 0 :=
  cwV 0 hC.2.1 (gi_V (gw_t (tb8 (List.mem_of_getElem? (i := 135) rfl)) rfl) (gw_t (tb8 (List.mem_of_getElem? (i := 136) rfl)) rfl) (gw_t (tb8 (List.mem_of_getElem? (i := 137) rfl)) rfl) (gw_t (tb1 (List.mem_of_getElem? (i := 10) rfl)) rfl) (gw_t (tb8 (List.mem_of_getElem? (i := 138) rfl)) rfl)) rfl hrc hrs ⟨rfl, by decide +kernel, by decide +kernel, by decide +kernel⟩ hR
set_option maxHeartbeats 4000000 in
set_option maxRecDepth 100000 in
theorem law_0 {p : Program} {l : Launch} {e : Env} {s : State} {m : MethodId} {args : Array Value} {below : List Frame} {meth : Method} {c : Code} {H : Heap} {locs : List Loc} {cells slots : Nat} {Q : State → Prop} {D : va_G} {Y : CYs} {cD : ClassId} {b L : Nat} {xs : Nat → Int32} {A : Nat → Prop} {ls : Array Slot} {E Em : Nat → Nat} {qo qd t : Nat} {w : AW} {σ τ : Sta} {f : Nat → Int64} {fd : Nat → UInt64} (hF : LF p l s m args c D Y cD b L xs A) (h : REL w σ τ) (hP : va_P D vwCl (CWl Y cD E Em qo qd σ τ f fd) H) (hD : va_D A (CWl Y cD E Em qo qd σ τ f fd)) (hS : va_S A s.heap H locs) (hl : lv_has ls 9 (LV b qo qd t E Em)) (hj : 6 * t + 6 ≤ L) (hc : cells + 2 ≤ 601024) (hs : slots + 14 ≤ 7293034)
    (kk : ∀ (w : AW) (σ τ : Sta) (f : Nat → Int64) (fd : Nat → UInt64) (H : Heap) (locs : List Loc) (ls : Array Slot), REL w σ τ → va_P D vwCl (CWl Y cD E Em qo qd σ τ f fd) H → va_D A (CWl Y cD E Em qo qd σ τ f fd) → va_S A s.heap H locs → lv_has ls 9 (LV b qo qd t E Em) → W p l e room_1 s m args below meth c H locs (cells + 2) (slots + 14) Q (F0 m 2067 ls [])) : W p l e room_1 s m args below meth c H locs cells slots Q (F0 m 176 ls []) := by
  obtain ⟨hC, hb, hml, hSW, hA, hKD, hX, hbl, hbA, ht, hL⟩ := id hF
  have hx := hC.1
  have hl : lv_has ls 9 [(0, .ref b), (1, .ref (E 0)), (2, .ref (Em 0)), (3, .ref qo), (4, .ref qd), (5, .int (nI (6 * t)))] := hl
  obtain ⟨o, σ', r, τ', g1, g2, hR, ho⟩ := op_1 (fun e2 e3 => og_feed e2 e3 h (xs (6 * t + 1)) (xs (6 * t + 2)) (xs (6 * t + 3)) (xs (6 * t + 4)) (xs (6 * t + 5)))
  obtain ⟨k, f2, hw, hk, hv⟩ : ∃ (k : Int32) (f2 : Nat → Int64), ((∃ v : Int32, o = .inl v ∧ k = 0 ∧ f2 = vp_updL f 0 v.toInt64) ∨ (o = .inr eISE ∧ k = 1 ∧ f = f2)) ∧ gI τ' 0 = k ∧ (k = 0 → f2 0 = r.toInt64) := by
    rcases ho with ⟨rfl, h0⟩ | ⟨rfl, h0⟩
    · exact ⟨0, vp_updL f 0 r.toInt64, Or.inl ⟨r, rfl, rfl, rfl⟩, h0, fun _ => if_pos rfl⟩
    · exact ⟨1, f, Or.inr (⟨rfl, rfl, rfl⟩), h0, fun h => absurd h (by decide)⟩
  refine lv_aload_n hx hb dL_law_176 rfl (lv_at hl 1 rfl) ?_
  refine l_ld (j := 1) hF hS (lv_at hl 0 rfl) (lv_at hl 5 rfl) dL_law_177 dL_law_178 dL_law_180 (by decide) dL_law_181 dL_law_182 (by omega) ?_
  refine l_ld (j := 2) hF hS (lv_at hl 0 rfl) (lv_at hl 5 rfl) dL_law_183 dL_law_184 dL_law_186 (by decide) dL_law_187 dL_law_188 (by omega) ?_
  refine l_ld (j := 3) hF hS (lv_at hl 0 rfl) (lv_at hl 5 rfl) dL_law_189 dL_law_190 dL_law_192 (by decide) dL_law_193 dL_law_194 (by omega) ?_
  refine l_ld (j := 4) hF hS (lv_at hl 0 rfl) (lv_at hl 5 rfl) dL_law_195 dL_law_196 dL_law_198 (by decide) dL_law_199 dL_law_200 (by omega) ?_
  refine l_ld (j := 5) hF hS (lv_at hl 0 rfl) (lv_at hl 5 rfl) dL_law_201 dL_law_202 dL_law_204 (by decide) dL_law_205 dL_law_206 (by omega) ?_
  refine lv_aload_n hx hb dL_law_207 rfl (lv_at hl 3 rfl) ?_
  refine n_SW (Rs := ldA cD qd fd :: wd Y Em τ 0 LM0) (As := [.ref (E 0), .int (xs (6 * t + 1)), .int (xs (6 * t + 2)), .int (xs (6 * t + 3)), .int (xs (6 * t + 4)), .int (xs (6 * t + 5)), .ref qo]) (rest := []) hC hb hml hl.1 hSW hP hD hS hA (fun sz => wL_feed ht g1 hw sz) (csL_feed hC ⟨(Nat.le_of_ble_eq_true rfl), (Nat.le_of_ble_eq_true rfl)⟩) rfl rfl (Nat.le_of_ble_eq_true rfl) dL_law_208 ⟨by show cells + 1 ≤ 601024; omega, by show slots + 6 ≤ 7293034; omega⟩ (fun H locs hP hD hS => ?_)
  have hP := va_P_perm hP (pm_b _ _ _ _)
  have hD := va_D_perm hD (pm_b _ _ _ _)
  refine lv_istore (lv' := [(6, .int k), (0, .ref b), (1, .ref (E 0)), (2, .ref (Em 0)), (3, .ref qo), (4, .ref qd), (5, .int (nI (6 * t)))]) hx hb dL_law_211 hl (by decide) rfl (fun ls hl => ?_)
  refine lv_aload_n hx hb dL_law_213 rfl (lv_at hl 3 rfl) ?_
  refine l_ld (j := 1) hF hS (lv_at hl 1 rfl) (lv_at hl 6 rfl) dL_law_214 dL_law_215 dL_law_217 (by decide) dL_law_218 dL_law_219 (by omega) ?_
  refine l_ld (j := 2) hF hS (lv_at hl 1 rfl) (lv_at hl 6 rfl) dL_law_220 dL_law_221 dL_law_223 (by decide) dL_law_224 dL_law_225 (by omega) ?_
  refine l_ld (j := 3) hF hS (lv_at hl 1 rfl) (lv_at hl 6 rfl) dL_law_226 dL_law_227 dL_law_229 (by decide) dL_law_230 dL_law_231 (by omega) ?_
  refine l_ld (j := 4) hF hS (lv_at hl 1 rfl) (lv_at hl 6 rfl) dL_law_232 dL_law_233 dL_law_235 (by decide) dL_law_236 dL_law_237 (by omega) ?_
  refine l_ld (j := 5) hF hS (lv_at hl 1 rfl) (lv_at hl 6 rfl) dL_law_238 dL_law_239 dL_law_241 (by decide) dL_law_242 dL_law_243 (by omega) ?_
  refine n_VI (Rs := ldA cD qd fd :: loA Y qo f2 :: wd Y E σ' 0 LC) (As := [.int (xs (6 * t + 1)), .int (xs (6 * t + 2)), .int (xs (6 * t + 3)), .int (xs (6 * t + 4)), .int (xs (6 * t + 5))]) (rest := []) hC hb hml hl.1 hSW hP hD hS hA (c_X10_feed lokM0 g2) (cw_L_110 hC rfl rfl ⟨(Nat.le_of_ble_eq_true rfl), (Nat.le_of_ble_eq_true rfl)⟩) (lm_0 []) rfl rfl rfl (Nat.le_of_ble_eq_true rfl) dL_law_244 ⟨by show cells + 1 + 0 ≤ 601024; omega, by show slots + 6 + 0 ≤ 7293034; omega⟩ (fun H locs hP hD hS => ?_)
  refine lv_istore (lv' := [(7, .int r), (6, .int k), (0, .ref b), (1, .ref (E 0)), (2, .ref (Em 0)), (3, .ref qo), (4, .ref qd), (5, .int (nI (6 * t)))]) hx hb dL_law_247 hl (by decide) rfl (fun ls hl => ?_)
  refine lv_aload_n hx hb dL_law_249 rfl (lv_at hl 4 rfl) ?_
  refine n_VI (Rs := ldA cD qd fd :: loA Y qo f2 :: wd Y E σ' 0 LC) (As := []) (rest := []) hC hb hml hl.1 hSW hP hD hS hA (c_X10_thrown lokM0 (show f_X10_thrown τ' = some (gI τ' 0, τ') from rfl)) (cw_L_111 hC rfl rfl ⟨(Nat.le_of_ble_eq_true rfl), (Nat.le_of_ble_eq_true rfl)⟩) (lm_0 []) rfl rfl rfl (Nat.le_of_ble_eq_true rfl) dL_law_250 ⟨by show cells + 1 + 0 ≤ 601024; omega, by show slots + 6 + 0 ≤ 7293034; omega⟩ (fun H locs hP hD hS => ?_)
  refine lv_iload hx hb dL_law_253 (lv_at hl 1 rfl) ?_
  refine lv_icmp_eq (tgt := 260) hx hb dL_law_255 (by decide) (fun c1 => ?_) (fun c1 => absurd hk c1)
  refine lv_iload hx hb dL_law_260 (lv_at hl 1 rfl) ?_
  have fin : W p l e room_1 s m args below meth c H locs (cells + 1 + 0 + 0) (slots + 6 + 0 + 0) Q (F0 m 277 ls []) := by
    refine lv_goto (tgt := 2067) hx hb dL_law_277 (by decide) ?_
    refine W.widen (k := cells + 2) (n := slots + 14) (by omega) (by omega) ?_
    exact kk w σ' τ' f2 fd H locs ls hR (va_P_perm hP (pm_b _ _ _ _).symm) (va_D_perm hD (pm_b _ _ _ _).symm) hS (lv_sub hl [2, 3, 4, 5, 6, 7] rfl)
  refine lv_if_ne (tgt := 277) hx hb dL_law_262 (by decide) (fun _ => fin) (fun c2 => ?_)
  refine lv_aload_n hx hb dL_law_265 rfl (lv_at hl 5 rfl) ?_
  refine lv_iconst (v := 0) hx hb dL_law_266 (by decide) ?_
  refine va_lald hx hb hC.2.2.2.1 hP 1 1 rfl rfl vin0 dL_law_267 ?_
  refine lv_iload hx hb dL_law_268 (lv_at hl 0 rfl) ?_
  refine lv_i2l (v := r.toInt64) hx hb dL_law_270 rfl ?_
  refine W.lcmp hx hb dL_law_271 ?_
  refine lv_if_eq (tgt := 277) hx hb dL_law_272 (by decide) (fun _ => fin) (fun c3 => absurd ?_ c3)
  show lg_cmp (f2 0) r.toInt64 = 0
  rw [hv c2]
  exact lgc _

set_option maxHeartbeats 4000000 in
set_option maxRecDepth 100000 in
theorem law_1 {p : Program} {l : Launch} {e : Env} {s : State} {m : MethodId} {args : Array Value} {below : List Frame} {meth : Method} {c : Code} {H : Heap} {locs : List Loc} {cells slots : Nat} {Q : State → Prop} {D : va_G} {Y : CYs} {cD : ClassId} {b L : Nat} {xs : Nat → Int32} {A : Nat → Prop} {ls : Array Slot} {E Em : Nat → Nat} {qo qd t : Nat} {w : AW} {σ τ : Sta} {f : Nat → Int64} {fd : Nat → UInt64} (hF : LF p l s m args c D Y cD b L xs A) (h : REL w σ τ) (hP : va_P D vwCl (CWl Y cD E Em qo qd σ τ f fd) H) (hD : va_D A (CWl Y cD E Em qo qd σ τ f fd)) (hS : va_S A s.heap H locs) (hl : lv_has ls 9 (LV b qo qd t E Em)) (hj : 6 * t + 6 ≤ L) (hc : cells + 2 ≤ 601024) (hs : slots + 14 ≤ 7293034)
    (kk : ∀ (w : AW) (σ τ : Sta) (f : Nat → Int64) (fd : Nat → UInt64) (H : Heap) (locs : List Loc) (ls : Array Slot), REL w σ τ → va_P D vwCl (CWl Y cD E Em qo qd σ τ f fd) H → va_D A (CWl Y cD E Em qo qd σ τ f fd) → va_S A s.heap H locs → lv_has ls 9 (LV b qo qd t E Em) → W p l e room_1 s m args below meth c H locs (cells + 2) (slots + 14) Q (F0 m 2067 ls [])) : W p l e room_1 s m args below meth c H locs cells slots Q (F0 m 280 ls []) := by
  obtain ⟨hC, hb, hml, hSW, hA, hKD, hX, hbl, hbA, ht, hL⟩ := id hF
  have hx := hC.1
  have hl : lv_has ls 9 [(0, .ref b), (1, .ref (E 0)), (2, .ref (Em 0)), (3, .ref qo), (4, .ref qd), (5, .int (nI (6 * t)))] := hl
  obtain ⟨o, σ', r, τ', g1, g2, hR, ho⟩ := op_1 (fun e2 e3 => og_trim e2 e3 h (xs (6 * t + 1)))
  obtain ⟨k, f2, hw, hk, hv⟩ : ∃ (k : Int32) (f2 : Nat → Int64), ((∃ v : Int32, o = .inl v ∧ k = 0 ∧ f2 = vp_updL f 0 v.toInt64) ∨ (o = .inr eIAE ∧ k = 1 ∧ f = f2)) ∧ gI τ' 0 = k ∧ (k = 0 → f2 0 = r.toInt64) := by
    rcases ho with ⟨rfl, h0⟩ | ⟨rfl, h0⟩
    · exact ⟨0, vp_updL f 0 r.toInt64, Or.inl ⟨r, rfl, rfl, rfl⟩, h0, fun _ => if_pos rfl⟩
    · exact ⟨1, f, Or.inr (⟨rfl, rfl, rfl⟩), h0, fun h => absurd h (by decide)⟩
  refine lv_aload_n hx hb dL_law_280 rfl (lv_at hl 1 rfl) ?_
  refine l_ld (j := 1) hF hS (lv_at hl 0 rfl) (lv_at hl 5 rfl) dL_law_281 dL_law_282 dL_law_284 (by decide) dL_law_285 dL_law_286 (by omega) ?_
  refine lv_aload_n hx hb dL_law_287 rfl (lv_at hl 3 rfl) ?_
  refine n_SW (Rs := ldA cD qd fd :: wd Y Em τ 0 LM0) (As := [.ref (E 0), .int (xs (6 * t + 1)), .ref qo]) (rest := []) hC hb hml hl.1 hSW hP hD hS hA (fun sz => wL_trim ht g1 hw sz) (csL_trim hC ⟨(Nat.le_of_ble_eq_true rfl), (Nat.le_of_ble_eq_true rfl)⟩) rfl rfl (Nat.le_of_ble_eq_true rfl) dL_law_288 ⟨by show cells + 1 ≤ 601024; omega, by show slots + 6 ≤ 7293034; omega⟩ (fun H locs hP hD hS => ?_)
  have hP := va_P_perm hP (pm_b _ _ _ _)
  have hD := va_D_perm hD (pm_b _ _ _ _)
  refine lv_istore (lv' := [(6, .int k), (0, .ref b), (1, .ref (E 0)), (2, .ref (Em 0)), (3, .ref qo), (4, .ref qd), (5, .int (nI (6 * t)))]) hx hb dL_law_291 hl (by decide) rfl (fun ls hl => ?_)
  refine lv_aload_n hx hb dL_law_293 rfl (lv_at hl 3 rfl) ?_
  refine l_ld (j := 1) hF hS (lv_at hl 1 rfl) (lv_at hl 6 rfl) dL_law_294 dL_law_295 dL_law_297 (by decide) dL_law_298 dL_law_299 (by omega) ?_
  refine n_VI (Rs := ldA cD qd fd :: loA Y qo f2 :: wd Y E σ' 0 LC) (As := [.int (xs (6 * t + 1))]) (rest := []) hC hb hml hl.1 hSW hP hD hS hA (c_X10_trim lokM0 g2) (cw_L_118 hC rfl rfl ⟨(Nat.le_of_ble_eq_true rfl), (Nat.le_of_ble_eq_true rfl)⟩) (lm_0 []) rfl rfl rfl (Nat.le_of_ble_eq_true rfl) dL_law_300 ⟨by show cells + 1 + 0 ≤ 601024; omega, by show slots + 6 + 0 ≤ 7293034; omega⟩ (fun H locs hP hD hS => ?_)
  refine lv_istore (lv' := [(7, .int r), (6, .int k), (0, .ref b), (1, .ref (E 0)), (2, .ref (Em 0)), (3, .ref qo), (4, .ref qd), (5, .int (nI (6 * t)))]) hx hb dL_law_303 hl (by decide) rfl (fun ls hl => ?_)
  refine lv_aload_n hx hb dL_law_305 rfl (lv_at hl 4 rfl) ?_
  refine n_VI (Rs := ldA cD qd fd :: loA Y qo f2 :: wd Y E σ' 0 LC) (As := []) (rest := []) hC hb hml hl.1 hSW hP hD hS hA (c_X10_thrown lokM0 (show f_X10_thrown τ' = some (gI τ' 0, τ') from rfl)) (cw_L_111 hC rfl rfl ⟨(Nat.le_of_ble_eq_true rfl), (Nat.le_of_ble_eq_true rfl)⟩) (lm_0 []) rfl rfl rfl (Nat.le_of_ble_eq_true rfl) dL_law_306 ⟨by show cells + 1 + 0 ≤ 601024; omega, by show slots + 6 + 0 ≤ 7293034; omega⟩ (fun H locs hP hD hS => ?_)
  refine lv_iload hx hb dL_law_309 (lv_at hl 1 rfl) ?_
  refine lv_icmp_eq (tgt := 316) hx hb dL_law_311 (by decide) (fun c1 => ?_) (fun c1 => absurd hk c1)
  refine lv_iload hx hb dL_law_316 (lv_at hl 1 rfl) ?_
  have fin : W p l e room_1 s m args below meth c H locs (cells + 1 + 0 + 0) (slots + 6 + 0 + 0) Q (F0 m 333 ls []) := by
    refine lv_goto (tgt := 2067) hx hb dL_law_333 (by decide) ?_
    refine W.widen (k := cells + 2) (n := slots + 14) (by omega) (by omega) ?_
    exact kk w σ' τ' f2 fd H locs ls hR (va_P_perm hP (pm_b _ _ _ _).symm) (va_D_perm hD (pm_b _ _ _ _).symm) hS (lv_sub hl [2, 3, 4, 5, 6, 7] rfl)
  refine lv_if_ne (tgt := 333) hx hb dL_law_318 (by decide) (fun _ => fin) (fun c2 => ?_)
  refine lv_aload_n hx hb dL_law_321 rfl (lv_at hl 5 rfl) ?_
  refine lv_iconst (v := 0) hx hb dL_law_322 (by decide) ?_
  refine va_lald hx hb hC.2.2.2.1 hP 1 1 rfl rfl vin0 dL_law_323 ?_
  refine lv_iload hx hb dL_law_324 (lv_at hl 0 rfl) ?_
  refine lv_i2l (v := r.toInt64) hx hb dL_law_326 rfl ?_
  refine W.lcmp hx hb dL_law_327 ?_
  refine lv_if_eq (tgt := 333) hx hb dL_law_328 (by decide) (fun _ => fin) (fun c3 => absurd ?_ c3)
  show lg_cmp (f2 0) r.toInt64 = 0
  rw [hv c2]
  exact lgc _

set_option maxHeartbeats 4000000 in
set_option maxRecDepth 100000 in
theorem law_2 {p : Program} {l : Launch} {e : Env} {s : State} {m : MethodId} {args : Array Value} {below : List Frame} {meth : Method} {c : Code} {H : Heap} {locs : List Loc} {cells slots : Nat} {Q : State → Prop} {D : va_G} {Y : CYs} {cD : ClassId} {b L : Nat} {xs : Nat → Int32} {A : Nat → Prop} {ls : Array Slot} {E Em : Nat → Nat} {qo qd t : Nat} {w : AW} {σ τ : Sta} {f : Nat → Int64} {fd : Nat → UInt64} (hF : LF p l s m args c D Y cD b L xs A) (h : REL w σ τ) (hP : va_P D vwCl (CWl Y cD E Em qo qd σ τ f fd) H) (hD : va_D A (CWl Y cD E Em qo qd σ τ f fd)) (hS : va_S A s.heap H locs) (hl : lv_has ls 9 (LV b qo qd t E Em)) (hj : 6 * t + 6 ≤ L) (hc : cells + 2 ≤ 601024) (hs : slots + 14 ≤ 7293034)
    (kk : ∀ (w : AW) (σ τ : Sta) (f : Nat → Int64) (fd : Nat → UInt64) (H : Heap) (locs : List Loc) (ls : Array Slot), REL w σ τ → va_P D vwCl (CWl Y cD E Em qo qd σ τ f fd) H → va_D A (CWl Y cD E Em qo qd σ τ f fd) → va_S A s.heap H locs → lv_has ls 9 (LV b qo qd t E Em) → W p l e room_1 s m args below meth c H locs (cells + 2) (slots + 14) Q (F0 m 2067 ls [])) : W p l e room_1 s m args below meth c H locs cells slots Q (F0 m 336 ls []) := by
  obtain ⟨hC, hb, hml, hSW, hA, hKD, hX, hbl, hbA, ht, hL⟩ := id hF
  have hx := hC.1
  have hl : lv_has ls 9 [(0, .ref b), (1, .ref (E 0)), (2, .ref (Em 0)), (3, .ref qo), (4, .ref qd), (5, .int (nI (6 * t)))] := hl
  obtain ⟨w', r, σ', τ', g1, g2, hR⟩ := op_compile h
  refine lv_aload_n hx hb dL_law_336 rfl (lv_at hl 1 rfl) ?_
  have hP := va_P_perm hP (pm_c _ _ _ _)
  have hD := va_D_perm hD (pm_c _ _ _ _)
  refine n_VI (Rs := ldA cD qd fd :: (wd Y Em τ 0 LM0 ++ [loA Y qo f])) (As := []) (rest := []) hC hb hml hl.1 hSW hP hD hS hA (c_X8_compile g1) (cw_L_119 hC rfl rfl ⟨(Nat.le_of_ble_eq_true rfl), (Nat.le_of_ble_eq_true rfl)⟩) lc_0 rfl rfl rfl (Nat.le_of_ble_eq_true rfl) dL_law_337 ⟨by show cells + 0 ≤ 601024; omega, by show slots + 0 ≤ 7293034; omega⟩ (fun H locs hP hD hS => ?_)
  have hP := va_P_perm (va_P_perm hP (pm_c _ _ _ _).symm) (pm_b _ _ _ _)
  have hD := va_D_perm (va_D_perm hD (pm_c _ _ _ _).symm) (pm_b _ _ _ _)
  refine lv_aload_n hx hb dL_law_340 rfl (lv_at hl 2 rfl) ?_
  refine n_VIh (Rs := ldA cD qd fd :: loA Y qo f :: wd Y E σ' 0 LC) (As := []) (rest := [.int r]) hC hb hml hl.1 hSW hP hD hS hA (c_X10_compile lokM0 ht g2) (vx_cwVW 0 hC.2.1 (gi_V (gw_t (tb7 (List.mem_of_getElem? (i := 0) rfl)) rfl) (gw_t (tb7 (List.mem_of_getElem? (i := 1) rfl)) rfl) (gw_t (tb7 (List.mem_of_getElem? (i := 2) rfl)) rfl) (gw_t (tb1 (List.mem_of_getElem? (i := 10) rfl)) rfl) (gw_t (tb7 (List.mem_of_getElem? (i := 3) rfl)) rfl)) rfl rfl rfl ⟨rfl, by decide +kernel, by decide +kernel, by decide +kernel⟩ ⟨(Nat.le_of_ble_eq_true rfl), (Nat.le_of_ble_eq_true rfl)⟩) (lm_0 []) rfl rfl rfl (Nat.le_of_ble_eq_true rfl) dL_law_341 ⟨by show cells + 1 ≤ 601024; omega, by show slots + 8 ≤ 7293034; omega⟩ (fun H locs hP hD hS => ?_)
  refine lv_icmp_eq (tgt := 2067) hx hb dL_law_344 (by decide) (fun _ => ?_) (fun c1 => absurd rfl c1)
  refine W.widen (k := cells + 2) (n := slots + 14) (by omega) (by omega) ?_
  exact kk w' σ' τ' f fd H locs ls hR (va_P_perm hP (pm_b _ _ _ _).symm) (va_D_perm hD (pm_b _ _ _ _).symm) hS hl

set_option maxHeartbeats 4000000 in
set_option maxRecDepth 100000 in
theorem law_3 {p : Program} {l : Launch} {e : Env} {s : State} {m : MethodId} {args : Array Value} {below : List Frame} {meth : Method} {c : Code} {H : Heap} {locs : List Loc} {cells slots : Nat} {Q : State → Prop} {D : va_G} {Y : CYs} {cD : ClassId} {b L : Nat} {xs : Nat → Int32} {A : Nat → Prop} {ls : Array Slot} {E Em : Nat → Nat} {qo qd t : Nat} {w : AW} {σ τ : Sta} {f : Nat → Int64} {fd : Nat → UInt64} (hF : LF p l s m args c D Y cD b L xs A) (h : REL w σ τ) (hP : va_P D vwCl (CWl Y cD E Em qo qd σ τ f fd) H) (hD : va_D A (CWl Y cD E Em qo qd σ τ f fd)) (hS : va_S A s.heap H locs) (hl : lv_has ls 9 (LV b qo qd t E Em)) (hj : 6 * t + 6 ≤ L) (hc : cells + 2 ≤ 601024) (hs : slots + 14 ≤ 7293034)
    (kk : ∀ (w : AW) (σ τ : Sta) (f : Nat → Int64) (fd : Nat → UInt64) (H : Heap) (locs : List Loc) (ls : Array Slot), REL w σ τ → va_P D vwCl (CWl Y cD E Em qo qd σ τ f fd) H → va_D A (CWl Y cD E Em qo qd σ τ f fd) → va_S A s.heap H locs → lv_has ls 9 (LV b qo qd t E Em) → W p l e room_1 s m args below meth c H locs (cells + 2) (slots + 14) Q (F0 m 2067 ls [])) : W p l e room_1 s m args below meth c H locs cells slots Q (F0 m 349 ls []) := by
  obtain ⟨hC, hb, hml, hSW, hA, hKD, hX, hbl, hbA, ht, hL⟩ := id hF
  have hx := hC.1
  have hl : lv_has ls 9 [(0, .ref b), (1, .ref (E 0)), (2, .ref (Em 0)), (3, .ref qo), (4, .ref qd), (5, .int (nI (6 * t)))] := hl
  obtain ⟨r, σ', τ', g1, g2, hR⟩ := op_errorAt h
  refine lv_aload_n hx hb dL_law_349 rfl (lv_at hl 1 rfl) ?_
  have hP := va_P_perm hP (pm_c _ _ _ _)
  have hD := va_D_perm hD (pm_c _ _ _ _)
  refine n_VI (Rs := ldA cD qd fd :: (wd Y Em τ 0 LM0 ++ [loA Y qo f])) (As := []) (rest := []) hC hb hml hl.1 hSW hP hD hS hA (c_X8_errorAt g1) (cw_L_123 hC rfl rfl ⟨(Nat.le_of_ble_eq_true rfl), (Nat.le_of_ble_eq_true rfl)⟩) lc_0 rfl rfl rfl (Nat.le_of_ble_eq_true rfl) dL_law_350 ⟨by show cells + 0 ≤ 601024; omega, by show slots + 0 ≤ 7293034; omega⟩ (fun H locs hP hD hS => ?_)
  have hP := va_P_perm (va_P_perm hP (pm_c _ _ _ _).symm) (pm_b _ _ _ _)
  have hD := va_D_perm (va_D_perm hD (pm_c _ _ _ _).symm) (pm_b _ _ _ _)
  refine lv_aload_n hx hb dL_law_353 rfl (lv_at hl 2 rfl) ?_
  refine n_VI (Rs := ldA cD qd fd :: loA Y qo f :: wd Y E σ' 0 LC) (As := []) (rest := [.int r]) hC hb hml hl.1 hSW hP hD hS hA (c_X10_errorAt lokM0 g2) (cw_L_126 hC rfl rfl ⟨(Nat.le_of_ble_eq_true rfl), (Nat.le_of_ble_eq_true rfl)⟩) (lm_0 []) rfl rfl rfl (Nat.le_of_ble_eq_true rfl) dL_law_354 ⟨by show cells + 0 ≤ 601024; omega, by show slots + 0 ≤ 7293034; omega⟩ (fun H locs hP hD hS => ?_)
  refine lv_icmp_eq (tgt := 2067) hx hb dL_law_357 (by decide) (fun _ => ?_) (fun c1 => absurd rfl c1)
  refine W.widen (k := cells + 2) (n := slots + 14) (by omega) (by omega) ?_
  exact kk w σ' τ' f fd H locs ls hR (va_P_perm hP (pm_b _ _ _ _).symm) (va_D_perm hD (pm_b _ _ _ _).symm) hS hl

set_option maxHeartbeats 4000000 in
set_option maxRecDepth 100000 in
theorem law_4 {p : Program} {l : Launch} {e : Env} {s : State} {m : MethodId} {args : Array Value} {below : List Frame} {meth : Method} {c : Code} {H : Heap} {locs : List Loc} {cells slots : Nat} {Q : State → Prop} {D : va_G} {Y : CYs} {cD : ClassId} {b L : Nat} {xs : Nat → Int32} {A : Nat → Prop} {ls : Array Slot} {E Em : Nat → Nat} {qo qd t : Nat} {w : AW} {σ τ : Sta} {f : Nat → Int64} {fd : Nat → UInt64} (hF : LF p l s m args c D Y cD b L xs A) (h : REL w σ τ) (hP : va_P D vwCl (CWl Y cD E Em qo qd σ τ f fd) H) (hD : va_D A (CWl Y cD E Em qo qd σ τ f fd)) (hS : va_S A s.heap H locs) (hl : lv_has ls 9 (LV b qo qd t E Em)) (hj : 6 * t + 6 ≤ L) (hc : cells + 2 ≤ 601024) (hs : slots + 14 ≤ 7293034)
    (kk : ∀ (w : AW) (σ τ : Sta) (f : Nat → Int64) (fd : Nat → UInt64) (H : Heap) (locs : List Loc) (ls : Array Slot), REL w σ τ → va_P D vwCl (CWl Y cD E Em qo qd σ τ f fd) H → va_D A (CWl Y cD E Em qo qd σ τ f fd) → va_S A s.heap H locs → lv_has ls 9 (LV b qo qd t E Em) → W p l e room_1 s m args below meth c H locs (cells + 2) (slots + 14) Q (F0 m 2067 ls [])) : W p l e room_1 s m args below meth c H locs cells slots Q (F0 m 362 ls []) := by
  obtain ⟨hC, hb, hml, hSW, hA, hKD, hX, hbl, hbA, ht, hL⟩ := id hF
  have hx := hC.1
  have hl : lv_has ls 9 [(0, .ref b), (1, .ref (E 0)), (2, .ref (Em 0)), (3, .ref qo), (4, .ref qd), (5, .int (nI (6 * t)))] := hl
  obtain ⟨o, σ', r, τ', g1, g2, hR, ho⟩ := op_1 (fun e2 e3 => og_count e2 e3 h (xs (6 * t + 1)))
  obtain ⟨k, f2, hw, hk, hv⟩ : ∃ (k : Int32) (f2 : Nat → Int64), ((∃ v : Int32, o = .inl v ∧ k = 0 ∧ f2 = vp_updL f 0 v.toInt64) ∨ (o = .inr eIOB ∧ k = 1 ∧ f = f2)) ∧ gI τ' 0 = k ∧ (k = 0 → f2 0 = r.toInt64) := by
    rcases ho with ⟨rfl, h0⟩ | ⟨rfl, h0⟩
    · exact ⟨0, vp_updL f 0 r.toInt64, Or.inl ⟨r, rfl, rfl, rfl⟩, h0, fun _ => if_pos rfl⟩
    · exact ⟨1, f, Or.inr (⟨rfl, rfl, rfl⟩), h0, fun h => absurd h (by decide)⟩
  refine lv_aload_n hx hb dL_law_362 rfl (lv_at hl 1 rfl) ?_
  refine l_ld (j := 1) hF hS (lv_at hl 0 rfl) (lv_at hl 5 rfl) dL_law_363 dL_law_364 dL_law_366 (by decide) dL_law_367 dL_law_368 (by omega) ?_
  refine lv_aload_n hx hb dL_law_369 rfl (lv_at hl 3 rfl) ?_
  refine n_SW (Rs := ldA cD qd fd :: wd Y Em τ 0 LM0) (As := [.ref (E 0), .int (xs (6 * t + 1)), .ref qo]) (rest := []) hC hb hml hl.1 hSW hP hD hS hA (fun sz => wL_count ht g1 hw sz) (csL_count hC ⟨(Nat.le_of_ble_eq_true rfl), (Nat.le_of_ble_eq_true rfl)⟩) rfl rfl (Nat.le_of_ble_eq_true rfl) dL_law_370 ⟨by show cells + 1 ≤ 601024; omega, by show slots + 6 ≤ 7293034; omega⟩ (fun H locs hP hD hS => ?_)
  have hP := va_P_perm hP (pm_b _ _ _ _)
  have hD := va_D_perm hD (pm_b _ _ _ _)
  refine lv_istore (lv' := [(6, .int k), (0, .ref b), (1, .ref (E 0)), (2, .ref (Em 0)), (3, .ref qo), (4, .ref qd), (5, .int (nI (6 * t)))]) hx hb dL_law_373 hl (by decide) rfl (fun ls hl => ?_)
  refine lv_aload_n hx hb dL_law_375 rfl (lv_at hl 3 rfl) ?_
  refine l_ld (j := 1) hF hS (lv_at hl 1 rfl) (lv_at hl 6 rfl) dL_law_376 dL_law_377 dL_law_379 (by decide) dL_law_380 dL_law_381 (by omega) ?_
  refine n_VI (Rs := ldA cD qd fd :: loA Y qo f2 :: wd Y E σ' 0 LC) (As := [.int (xs (6 * t + 1))]) (rest := []) hC hb hml hl.1 hSW hP hD hS hA (c_X10_count lokM0 g2) (cw_L_129 hC rfl rfl ⟨(Nat.le_of_ble_eq_true rfl), (Nat.le_of_ble_eq_true rfl)⟩) (lm_0 []) rfl rfl rfl (Nat.le_of_ble_eq_true rfl) dL_law_382 ⟨by show cells + 1 + 0 ≤ 601024; omega, by show slots + 6 + 0 ≤ 7293034; omega⟩ (fun H locs hP hD hS => ?_)
  refine lv_istore (lv' := [(7, .int r), (6, .int k), (0, .ref b), (1, .ref (E 0)), (2, .ref (Em 0)), (3, .ref qo), (4, .ref qd), (5, .int (nI (6 * t)))]) hx hb dL_law_385 hl (by decide) rfl (fun ls hl => ?_)
  refine lv_aload_n hx hb dL_law_387 rfl (lv_at hl 4 rfl) ?_
  refine n_VI (Rs := ldA cD qd fd :: loA Y qo f2 :: wd Y E σ' 0 LC) (As := []) (rest := []) hC hb hml hl.1 hSW hP hD hS hA (c_X10_thrown lokM0 (show f_X10_thrown τ' = some (gI τ' 0, τ') from rfl)) (cw_L_111 hC rfl rfl ⟨(Nat.le_of_ble_eq_true rfl), (Nat.le_of_ble_eq_true rfl)⟩) (lm_0 []) rfl rfl rfl (Nat.le_of_ble_eq_true rfl) dL_law_388 ⟨by show cells + 1 + 0 ≤ 601024; omega, by show slots + 6 + 0 ≤ 7293034; omega⟩ (fun H locs hP hD hS => ?_)
  refine lv_iload hx hb dL_law_391 (lv_at hl 1 rfl) ?_
  refine lv_icmp_eq (tgt := 398) hx hb dL_law_393 (by decide) (fun c1 => ?_) (fun c1 => absurd hk c1)
  refine lv_iload hx hb dL_law_398 (lv_at hl 1 rfl) ?_
  have fin : W p l e room_1 s m args below meth c H locs (cells + 1 + 0 + 0) (slots + 6 + 0 + 0) Q (F0 m 415 ls []) := by
    refine lv_goto (tgt := 2067) hx hb dL_law_415 (by decide) ?_
    refine W.widen (k := cells + 2) (n := slots + 14) (by omega) (by omega) ?_
    exact kk w σ' τ' f2 fd H locs ls hR (va_P_perm hP (pm_b _ _ _ _).symm) (va_D_perm hD (pm_b _ _ _ _).symm) hS (lv_sub hl [2, 3, 4, 5, 6, 7] rfl)
  refine lv_if_ne (tgt := 415) hx hb dL_law_400 (by decide) (fun _ => fin) (fun c2 => ?_)
  refine lv_aload_n hx hb dL_law_403 rfl (lv_at hl 5 rfl) ?_
  refine lv_iconst (v := 0) hx hb dL_law_404 (by decide) ?_
  refine va_lald hx hb hC.2.2.2.1 hP 1 1 rfl rfl vin0 dL_law_405 ?_
  refine lv_iload hx hb dL_law_406 (lv_at hl 0 rfl) ?_
  refine lv_i2l (v := r.toInt64) hx hb dL_law_408 rfl ?_
  refine W.lcmp hx hb dL_law_409 ?_
  refine lv_if_eq (tgt := 415) hx hb dL_law_410 (by decide) (fun _ => fin) (fun c3 => absurd ?_ c3)
  show lg_cmp (f2 0) r.toInt64 = 0
  rw [hv c2]
  exact lgc _

set_option maxHeartbeats 4000000 in
set_option maxRecDepth 100000 in
theorem law_5 {p : Program} {l : Launch} {e : Env} {s : State} {m : MethodId} {args : Array Value} {below : List Frame} {meth : Method} {c : Code} {H : Heap} {locs : List Loc} {cells slots : Nat} {Q : State → Prop} {D : va_G} {Y : CYs} {cD : ClassId} {b L : Nat} {xs : Nat → Int32} {A : Nat → Prop} {ls : Array Slot} {E Em : Nat → Nat} {qo qd t : Nat} {w : AW} {σ τ : Sta} {f : Nat → Int64} {fd : Nat → UInt64} (hF : LF p l s m args c D Y cD b L xs A) (h : REL w σ τ) (hP : va_P D vwCl (CWl Y cD E Em qo qd σ τ f fd) H) (hD : va_D A (CWl Y cD E Em qo qd σ τ f fd)) (hS : va_S A s.heap H locs) (hl : lv_has ls 9 (LV b qo qd t E Em)) (hj : 6 * t + 6 ≤ L) (hc : cells + 2 ≤ 601024) (hs : slots + 14 ≤ 7293034)
    (kk : ∀ (w : AW) (σ τ : Sta) (f : Nat → Int64) (fd : Nat → UInt64) (H : Heap) (locs : List Loc) (ls : Array Slot), REL w σ τ → va_P D vwCl (CWl Y cD E Em qo qd σ τ f fd) H → va_D A (CWl Y cD E Em qo qd σ τ f fd) → va_S A s.heap H locs → lv_has ls 9 (LV b qo qd t E Em) → W p l e room_1 s m args below meth c H locs (cells + 2) (slots + 14) Q (F0 m 2067 ls [])) : W p l e room_1 s m args below meth c H locs cells slots Q (F0 m 418 ls []) := by
  obtain ⟨hC, hb, hml, hSW, hA, hKD, hX, hbl, hbA, ht, hL⟩ := id hF
  have hx := hC.1
  have hl : lv_has ls 9 [(0, .ref b), (1, .ref (E 0)), (2, .ref (Em 0)), (3, .ref qo), (4, .ref qd), (5, .int (nI (6 * t)))] := hl
  obtain ⟨o, σ', r, τ', g1, g2, hR, ho⟩ := op_1 (fun e2 e3 => og_test e2 e3 h (xs (6 * t + 1)))
  obtain ⟨k, f2, hw, hk, hv⟩ : ∃ (k : Int32) (f2 : Nat → Int64), ((∃ v : Int32, o = .inl v ∧ k = 0 ∧ f2 = vp_updL f 0 v.toInt64) ∨ (o = .inr eIOB ∧ k = 1 ∧ f = f2)) ∧ gI τ' 0 = k ∧ (k = 0 → f2 0 = r.toInt64) := by
    rcases ho with ⟨rfl, h0⟩ | ⟨rfl, h0⟩
    · exact ⟨0, vp_updL f 0 r.toInt64, Or.inl ⟨r, rfl, rfl, rfl⟩, h0, fun _ => if_pos rfl⟩
    · exact ⟨1, f, Or.inr (⟨rfl, rfl, rfl⟩), h0, fun h => absurd h (by decide)⟩
  refine lv_aload_n hx hb dL_law_418 rfl (lv_at hl 1 rfl) ?_
  refine l_ld (j := 1) hF hS (lv_at hl 0 rfl) (lv_at hl 5 rfl) dL_law_419 dL_law_420 dL_law_422 (by decide) dL_law_423 dL_law_424 (by omega) ?_
  refine lv_aload_n hx hb dL_law_425 rfl (lv_at hl 3 rfl) ?_
  refine n_SW (Rs := ldA cD qd fd :: wd Y Em τ 0 LM0) (As := [.ref (E 0), .int (xs (6 * t + 1)), .ref qo]) (rest := []) hC hb hml hl.1 hSW hP hD hS hA (fun sz => wL_test ht g1 hw sz) (csL_test hC ⟨(Nat.le_of_ble_eq_true rfl), (Nat.le_of_ble_eq_true rfl)⟩) rfl rfl (Nat.le_of_ble_eq_true rfl) dL_law_426 ⟨by show cells + 1 ≤ 601024; omega, by show slots + 6 ≤ 7293034; omega⟩ (fun H locs hP hD hS => ?_)
  have hP := va_P_perm hP (pm_b _ _ _ _)
  have hD := va_D_perm hD (pm_b _ _ _ _)
  refine lv_istore (lv' := [(6, .int k), (0, .ref b), (1, .ref (E 0)), (2, .ref (Em 0)), (3, .ref qo), (4, .ref qd), (5, .int (nI (6 * t)))]) hx hb dL_law_429 hl (by decide) rfl (fun ls hl => ?_)
  refine lv_aload_n hx hb dL_law_431 rfl (lv_at hl 3 rfl) ?_
  refine l_ld (j := 1) hF hS (lv_at hl 1 rfl) (lv_at hl 6 rfl) dL_law_432 dL_law_433 dL_law_435 (by decide) dL_law_436 dL_law_437 (by omega) ?_
  refine n_VIh (Rs := ldA cD qd fd :: loA Y qo f2 :: wd Y E σ' 0 LC) (As := [.int (xs (6 * t + 1))]) (rest := []) hC hb hml hl.1 hSW hP hD hS hA (c_X10_test lokM0 ht g2) (vx_cwVW 1 hC.2.1 (gi_V (gw_t (tb7 (List.mem_of_getElem? (i := 217) rfl)) rfl) (gw_t (tb7 (List.mem_of_getElem? (i := 218) rfl)) rfl) (gw_t (tb7 (List.mem_of_getElem? (i := 219) rfl)) rfl) (gw_t (tb1 (List.mem_of_getElem? (i := 10) rfl)) rfl) (gw_t (tb7 (List.mem_of_getElem? (i := 220) rfl)) rfl)) rfl rfl rfl ⟨rfl, by decide +kernel, by decide +kernel, by decide +kernel⟩ ⟨(Nat.le_of_ble_eq_true rfl), (Nat.le_of_ble_eq_true rfl)⟩) (lm_0 []) rfl rfl rfl (Nat.le_of_ble_eq_true rfl) dL_law_438 ⟨by show cells + 1 + 1 ≤ 601024; omega, by show slots + 6 + 8 ≤ 7293034; omega⟩ (fun H locs hP hD hS => ?_)
  refine lv_istore (lv' := [(7, .int r), (6, .int k), (0, .ref b), (1, .ref (E 0)), (2, .ref (Em 0)), (3, .ref qo), (4, .ref qd), (5, .int (nI (6 * t)))]) hx hb dL_law_441 hl (by decide) rfl (fun ls hl => ?_)
  refine lv_aload_n hx hb dL_law_443 rfl (lv_at hl 4 rfl) ?_
  refine n_VI (Rs := ldA cD qd fd :: loA Y qo f2 :: wd Y E σ' 0 LC) (As := []) (rest := []) hC hb hml hl.1 hSW hP hD hS hA (c_X10_thrown lokM0 (show f_X10_thrown τ' = some (gI τ' 0, τ') from rfl)) (cw_L_111 hC rfl rfl ⟨(Nat.le_of_ble_eq_true rfl), (Nat.le_of_ble_eq_true rfl)⟩) (lm_0 []) rfl rfl rfl (Nat.le_of_ble_eq_true rfl) dL_law_444 ⟨by show cells + 2 + 0 ≤ 601024; omega, by show slots + 14 + 0 ≤ 7293034; omega⟩ (fun H locs hP hD hS => ?_)
  refine lv_iload hx hb dL_law_447 (lv_at hl 1 rfl) ?_
  refine lv_icmp_eq (tgt := 454) hx hb dL_law_449 (by decide) (fun c1 => ?_) (fun c1 => absurd hk c1)
  refine lv_iload hx hb dL_law_454 (lv_at hl 1 rfl) ?_
  have fin : W p l e room_1 s m args below meth c H locs (cells + 1 + 1 + 0) (slots + 6 + 8 + 0) Q (F0 m 471 ls []) := by
    refine lv_goto (tgt := 2067) hx hb dL_law_471 (by decide) ?_
    refine W.widen (k := cells + 2) (n := slots + 14) (by omega) (by omega) ?_
    exact kk w σ' τ' f2 fd H locs ls hR (va_P_perm hP (pm_b _ _ _ _).symm) (va_D_perm hD (pm_b _ _ _ _).symm) hS (lv_sub hl [2, 3, 4, 5, 6, 7] rfl)
  refine lv_if_ne (tgt := 471) hx hb dL_law_456 (by decide) (fun _ => fin) (fun c2 => ?_)
  refine lv_aload_n hx hb dL_law_459 rfl (lv_at hl 5 rfl) ?_
  refine lv_iconst (v := 0) hx hb dL_law_460 (by decide) ?_
  refine va_lald hx hb hC.2.2.2.1 hP 1 1 rfl rfl vin0 dL_law_461 ?_
  refine lv_iload hx hb dL_law_462 (lv_at hl 0 rfl) ?_
  refine lv_i2l (v := r.toInt64) hx hb dL_law_464 rfl ?_
  refine W.lcmp hx hb dL_law_465 ?_
  refine lv_if_eq (tgt := 471) hx hb dL_law_466 (by decide) (fun _ => fin) (fun c3 => absurd ?_ c3)
  show lg_cmp (f2 0) r.toInt64 = 0
  rw [hv c2]
  exact lgc _

set_option maxHeartbeats 4000000 in
set_option maxRecDepth 100000 in
theorem law_6 {p : Program} {l : Launch} {e : Env} {s : State} {m : MethodId} {args : Array Value} {below : List Frame} {meth : Method} {c : Code} {H : Heap} {locs : List Loc} {cells slots : Nat} {Q : State → Prop} {D : va_G} {Y : CYs} {cD : ClassId} {b L : Nat} {xs : Nat → Int32} {A : Nat → Prop} {ls : Array Slot} {E Em : Nat → Nat} {qo qd t : Nat} {w : AW} {σ τ : Sta} {f : Nat → Int64} {fd : Nat → UInt64} (hF : LF p l s m args c D Y cD b L xs A) (h : REL w σ τ) (hP : va_P D vwCl (CWl Y cD E Em qo qd σ τ f fd) H) (hD : va_D A (CWl Y cD E Em qo qd σ τ f fd)) (hS : va_S A s.heap H locs) (hl : lv_has ls 9 (LV b qo qd t E Em)) (hj : 6 * t + 6 ≤ L) (hc : cells + 2 ≤ 601024) (hs : slots + 14 ≤ 7293034)
    (kk : ∀ (w : AW) (σ τ : Sta) (f : Nat → Int64) (fd : Nat → UInt64) (H : Heap) (locs : List Loc) (ls : Array Slot), REL w σ τ → va_P D vwCl (CWl Y cD E Em qo qd σ τ f fd) H → va_D A (CWl Y cD E Em qo qd σ τ f fd) → va_S A s.heap H locs → lv_has ls 9 (LV b qo qd t E Em) → W p l e room_1 s m args below meth c H locs (cells + 2) (slots + 14) Q (F0 m 2067 ls [])) : W p l e room_1 s m args below meth c H locs cells slots Q (F0 m 474 ls []) := by
  obtain ⟨hC, hb, hml, hSW, hA, hKD, hX, hbl, hbA, ht, hL⟩ := id hF
  have hx := hC.1
  have hl : lv_has ls 9 [(0, .ref b), (1, .ref (E 0)), (2, .ref (Em 0)), (3, .ref qo), (4, .ref qd), (5, .int (nI (6 * t)))] := hl
  obtain ⟨r, σ', τ', g1, g2, hR⟩ := op_result h
  refine lv_aload_n hx hb dL_law_474 rfl (lv_at hl 1 rfl) ?_
  have hP := va_P_perm hP (pm_c _ _ _ _)
  have hD := va_D_perm hD (pm_c _ _ _ _)
  refine n_VL (Rs := ldA cD qd fd :: (wd Y Em τ 0 LM0 ++ [loA Y qo f])) (As := []) (rest := []) hC hb hml hl.1 hSW hP hD hS hA (c_X8_result g1) (cw_L_133 hC rfl rfl ⟨(Nat.le_of_ble_eq_true rfl), (Nat.le_of_ble_eq_true rfl)⟩) lc_0 rfl rfl rfl (Nat.le_of_ble_eq_true rfl) dL_law_475 ⟨by show cells + 0 ≤ 601024; omega, by show slots + 0 ≤ 7293034; omega⟩ (fun H locs hP hD hS => ?_)
  have hP := va_P_perm (va_P_perm hP (pm_c _ _ _ _).symm) (pm_b _ _ _ _)
  have hD := va_D_perm (va_D_perm hD (pm_c _ _ _ _).symm) (pm_b _ _ _ _)
  refine lv_aload_n hx hb dL_law_478 rfl (lv_at hl 2 rfl) ?_
  refine n_VL (Rs := ldA cD qd fd :: loA Y qo f :: wd Y E σ' 0 LC) (As := []) (rest := [.long r]) hC hb hml hl.1 hSW hP hD hS hA (c_X10_result lokM0 g2) (cw_L_137 hC rfl rfl ⟨(Nat.le_of_ble_eq_true rfl), (Nat.le_of_ble_eq_true rfl)⟩) (lm_0 []) rfl rfl rfl (Nat.le_of_ble_eq_true rfl) dL_law_479 ⟨by show cells + 0 ≤ 601024; omega, by show slots + 0 ≤ 7293034; omega⟩ (fun H locs hP hD hS => ?_)
  refine W.lcmp hx hb dL_law_482 ?_
  refine lv_if_eq (tgt := 2067) hx hb dL_law_483 (by decide) (fun _ => ?_) (fun c1 => absurd (lgc r) c1)
  refine W.widen (k := cells + 2) (n := slots + 14) (by omega) (by omega) ?_
  exact kk w σ' τ' f fd H locs ls hR (va_P_perm hP (pm_b _ _ _ _).symm) (va_D_perm hD (pm_b _ _ _ _).symm) hS hl

set_option maxHeartbeats 4000000 in
set_option maxRecDepth 100000 in
theorem law_7 {p : Program} {l : Launch} {e : Env} {s : State} {m : MethodId} {args : Array Value} {below : List Frame} {meth : Method} {c : Code} {H : Heap} {locs : List Loc} {cells slots : Nat} {Q : State → Prop} {D : va_G} {Y : CYs} {cD : ClassId} {b L : Nat} {xs : Nat → Int32} {A : Nat → Prop} {ls : Array Slot} {E Em : Nat → Nat} {qo qd t : Nat} {w : AW} {σ τ : Sta} {f : Nat → Int64} {fd : Nat → UInt64} (hF : LF p l s m args c D Y cD b L xs A) (h : REL w σ τ) (hP : va_P D vwCl (CWl Y cD E Em qo qd σ τ f fd) H) (hD : va_D A (CWl Y cD E Em qo qd σ τ f fd)) (hS : va_S A s.heap H locs) (hl : lv_has ls 9 (LV b qo qd t E Em)) (hj : 6 * t + 6 ≤ L) (hc : cells + 2 ≤ 601024) (hs : slots + 14 ≤ 7293034)
    (kk : ∀ (w : AW) (σ τ : Sta) (f : Nat → Int64) (fd : Nat → UInt64) (H : Heap) (locs : List Loc) (ls : Array Slot), REL w σ τ → va_P D vwCl (CWl Y cD E Em qo qd σ τ f fd) H → va_D A (CWl Y cD E Em qo qd σ τ f fd) → va_S A s.heap H locs → lv_has ls 9 (LV b qo qd t E Em) → W p l e room_1 s m args below meth c H locs (cells + 2) (slots + 14) Q (F0 m 2067 ls [])) : W p l e room_1 s m args below meth c H locs cells slots Q (F0 m 488 ls []) := by
  obtain ⟨hC, hb, hml, hSW, hA, hKD, hX, hbl, hbA, ht, hL⟩ := id hF
  have hx := hC.1
  have hl : lv_has ls 9 [(0, .ref b), (1, .ref (E 0)), (2, .ref (Em 0)), (3, .ref qo), (4, .ref qd), (5, .int (nI (6 * t)))] := hl
  obtain ⟨o, σ', r, τ', g1, g2, hR, ho⟩ := op_1 (fun e2 e3 => og_value e2 e3 h (xs (6 * t + 1)) (xs (6 * t + 2)))
  obtain ⟨k, f2, hw, hk, hv⟩ : ∃ (k : Int32) (f2 : Nat → Int64), ((∃ v : Int32, o = .inl v ∧ k = 0 ∧ f2 = vp_updL f 0 v.toInt64) ∨ (o = .inr eIOB ∧ k = 1 ∧ f = f2)) ∧ gI τ' 0 = k ∧ (k = 0 → f2 0 = r.toInt64) := by
    rcases ho with ⟨rfl, h0⟩ | ⟨rfl, h0⟩
    · exact ⟨0, vp_updL f 0 r.toInt64, Or.inl ⟨r, rfl, rfl, rfl⟩, h0, fun _ => if_pos rfl⟩
    · exact ⟨1, f, Or.inr (⟨rfl, rfl, rfl⟩), h0, fun h => absurd h (by decide)⟩
  refine lv_aload_n hx hb dL_law_488 rfl (lv_at hl 1 rfl) ?_
  refine l_ld (j := 1) hF hS (lv_at hl 0 rfl) (lv_at hl 5 rfl) dL_law_489 dL_law_490 dL_law_492 (by decide) dL_law_493 dL_law_494 (by omega) ?_
  refine l_ld (j := 2) hF hS (lv_at hl 0 rfl) (lv_at hl 5 rfl) dL_law_495 dL_law_496 dL_law_498 (by decide) dL_law_499 dL_law_500 (by omega) ?_
  refine lv_aload_n hx hb dL_law_501 rfl (lv_at hl 3 rfl) ?_
  refine n_SW (Rs := ldA cD qd fd :: wd Y Em τ 0 LM0) (As := [.ref (E 0), .int (xs (6 * t + 1)), .int (xs (6 * t + 2)), .ref qo]) (rest := []) hC hb hml hl.1 hSW hP hD hS hA (fun sz => wL_value ht g1 hw sz) (csL_value hC ⟨(Nat.le_of_ble_eq_true rfl), (Nat.le_of_ble_eq_true rfl)⟩) rfl rfl (Nat.le_of_ble_eq_true rfl) dL_law_502 ⟨by show cells + 1 ≤ 601024; omega, by show slots + 6 ≤ 7293034; omega⟩ (fun H locs hP hD hS => ?_)
  have hP := va_P_perm hP (pm_b _ _ _ _)
  have hD := va_D_perm hD (pm_b _ _ _ _)
  refine lv_istore (lv' := [(6, .int k), (0, .ref b), (1, .ref (E 0)), (2, .ref (Em 0)), (3, .ref qo), (4, .ref qd), (5, .int (nI (6 * t)))]) hx hb dL_law_505 hl (by decide) rfl (fun ls hl => ?_)
  refine lv_aload_n hx hb dL_law_507 rfl (lv_at hl 3 rfl) ?_
  refine l_ld (j := 1) hF hS (lv_at hl 1 rfl) (lv_at hl 6 rfl) dL_law_508 dL_law_509 dL_law_511 (by decide) dL_law_512 dL_law_513 (by omega) ?_
  refine l_ld (j := 2) hF hS (lv_at hl 1 rfl) (lv_at hl 6 rfl) dL_law_514 dL_law_515 dL_law_517 (by decide) dL_law_518 dL_law_519 (by omega) ?_
  refine n_VI (Rs := ldA cD qd fd :: loA Y qo f2 :: wd Y E σ' 0 LC) (As := [.int (xs (6 * t + 1)), .int (xs (6 * t + 2))]) (rest := []) hC hb hml hl.1 hSW hP hD hS hA (c_X10_value lokM0 g2) (cw_L_141 hC rfl rfl ⟨(Nat.le_of_ble_eq_true rfl), (Nat.le_of_ble_eq_true rfl)⟩) (lm_0 []) rfl rfl rfl (Nat.le_of_ble_eq_true rfl) dL_law_520 ⟨by show cells + 1 + 0 ≤ 601024; omega, by show slots + 6 + 0 ≤ 7293034; omega⟩ (fun H locs hP hD hS => ?_)
  refine lv_istore (lv' := [(7, .int r), (6, .int k), (0, .ref b), (1, .ref (E 0)), (2, .ref (Em 0)), (3, .ref qo), (4, .ref qd), (5, .int (nI (6 * t)))]) hx hb dL_law_523 hl (by decide) rfl (fun ls hl => ?_)
  refine lv_aload_n hx hb dL_law_525 rfl (lv_at hl 4 rfl) ?_
  refine n_VI (Rs := ldA cD qd fd :: loA Y qo f2 :: wd Y E σ' 0 LC) (As := []) (rest := []) hC hb hml hl.1 hSW hP hD hS hA (c_X10_thrown lokM0 (show f_X10_thrown τ' = some (gI τ' 0, τ') from rfl)) (cw_L_111 hC rfl rfl ⟨(Nat.le_of_ble_eq_true rfl), (Nat.le_of_ble_eq_true rfl)⟩) (lm_0 []) rfl rfl rfl (Nat.le_of_ble_eq_true rfl) dL_law_526 ⟨by show cells + 1 + 0 ≤ 601024; omega, by show slots + 6 + 0 ≤ 7293034; omega⟩ (fun H locs hP hD hS => ?_)
  refine lv_iload hx hb dL_law_529 (lv_at hl 1 rfl) ?_
  refine lv_icmp_eq (tgt := 536) hx hb dL_law_531 (by decide) (fun c1 => ?_) (fun c1 => absurd hk c1)
  refine lv_iload hx hb dL_law_536 (lv_at hl 1 rfl) ?_
  have fin : W p l e room_1 s m args below meth c H locs (cells + 1 + 0 + 0) (slots + 6 + 0 + 0) Q (F0 m 553 ls []) := by
    refine lv_goto (tgt := 2067) hx hb dL_law_553 (by decide) ?_
    refine W.widen (k := cells + 2) (n := slots + 14) (by omega) (by omega) ?_
    exact kk w σ' τ' f2 fd H locs ls hR (va_P_perm hP (pm_b _ _ _ _).symm) (va_D_perm hD (pm_b _ _ _ _).symm) hS (lv_sub hl [2, 3, 4, 5, 6, 7] rfl)
  refine lv_if_ne (tgt := 553) hx hb dL_law_538 (by decide) (fun _ => fin) (fun c2 => ?_)
  refine lv_aload_n hx hb dL_law_541 rfl (lv_at hl 5 rfl) ?_
  refine lv_iconst (v := 0) hx hb dL_law_542 (by decide) ?_
  refine va_lald hx hb hC.2.2.2.1 hP 1 1 rfl rfl vin0 dL_law_543 ?_
  refine lv_iload hx hb dL_law_544 (lv_at hl 0 rfl) ?_
  refine lv_i2l (v := r.toInt64) hx hb dL_law_546 rfl ?_
  refine W.lcmp hx hb dL_law_547 ?_
  refine lv_if_eq (tgt := 553) hx hb dL_law_548 (by decide) (fun _ => fin) (fun c3 => absurd ?_ c3)
  show lg_cmp (f2 0) r.toInt64 = 0
  rw [hv c2]
  exact lgc _

set_option maxHeartbeats 4000000 in
set_option maxRecDepth 100000 in
theorem law_8 {p : Program} {l : Launch} {e : Env} {s : State} {m : MethodId} {args : Array Value} {below : List Frame} {meth : Method} {c : Code} {H : Heap} {locs : List Loc} {cells slots : Nat} {Q : State → Prop} {D : va_G} {Y : CYs} {cD : ClassId} {b L : Nat} {xs : Nat → Int32} {A : Nat → Prop} {ls : Array Slot} {E Em : Nat → Nat} {qo qd t : Nat} {w : AW} {σ τ : Sta} {f : Nat → Int64} {fd : Nat → UInt64} (hF : LF p l s m args c D Y cD b L xs A) (h : REL w σ τ) (hP : va_P D vwCl (CWl Y cD E Em qo qd σ τ f fd) H) (hD : va_D A (CWl Y cD E Em qo qd σ τ f fd)) (hS : va_S A s.heap H locs) (hl : lv_has ls 9 (LV b qo qd t E Em)) (hj : 6 * t + 6 ≤ L) (hc : cells + 2 ≤ 601024) (hs : slots + 14 ≤ 7293034)
    (kk : ∀ (w : AW) (σ τ : Sta) (f : Nat → Int64) (fd : Nat → UInt64) (H : Heap) (locs : List Loc) (ls : Array Slot), REL w σ τ → va_P D vwCl (CWl Y cD E Em qo qd σ τ f fd) H → va_D A (CWl Y cD E Em qo qd σ τ f fd) → va_S A s.heap H locs → lv_has ls 9 (LV b qo qd t E Em) → W p l e room_1 s m args below meth c H locs (cells + 2) (slots + 14) Q (F0 m 2067 ls [])) : W p l e room_1 s m args below meth c H locs cells slots Q (F0 m 556 ls []) := by
  obtain ⟨hC, hb, hml, hSW, hA, hKD, hX, hbl, hbA, ht, hL⟩ := id hF
  have hx := hC.1
  have hl : lv_has ls 9 [(0, .ref b), (1, .ref (E 0)), (2, .ref (Em 0)), (3, .ref qo), (4, .ref qd), (5, .int (nI (6 * t)))] := hl
  obtain ⟨o, σ', r, τ', g1, g2, hR, ho⟩ := op_1 (fun e2 e3 => og_choices e2 e3 h (xs (6 * t + 1)))
  obtain ⟨k, f2, hw, hk, hv⟩ : ∃ (k : Int32) (f2 : Nat → Int64), ((∃ v : Int32, o = .inl v ∧ k = 0 ∧ f2 = vp_updL f 0 v.toInt64) ∨ (o = .inr eIOB ∧ k = 1 ∧ f = f2)) ∧ gI τ' 0 = k ∧ (k = 0 → f2 0 = r.toInt64) := by
    rcases ho with ⟨rfl, h0⟩ | ⟨rfl, h0⟩
    · exact ⟨0, vp_updL f 0 r.toInt64, Or.inl ⟨r, rfl, rfl, rfl⟩, h0, fun _ => if_pos rfl⟩
    · exact ⟨1, f, Or.inr (⟨rfl, rfl, rfl⟩), h0, fun h => absurd h (by decide)⟩
  refine lv_aload_n hx hb dL_law_556 rfl (lv_at hl 1 rfl) ?_
  refine l_ld (j := 1) hF hS (lv_at hl 0 rfl) (lv_at hl 5 rfl) dL_law_557 dL_law_558 dL_law_560 (by decide) dL_law_561 dL_law_562 (by omega) ?_
  refine lv_aload_n hx hb dL_law_563 rfl (lv_at hl 3 rfl) ?_
  refine n_SW (Rs := ldA cD qd fd :: wd Y Em τ 0 LM0) (As := [.ref (E 0), .int (xs (6 * t + 1)), .ref qo]) (rest := []) hC hb hml hl.1 hSW hP hD hS hA (fun sz => wL_choices ht g1 hw sz) (csL_choices hC ⟨(Nat.le_of_ble_eq_true rfl), (Nat.le_of_ble_eq_true rfl)⟩) rfl rfl (Nat.le_of_ble_eq_true rfl) dL_law_564 ⟨by show cells + 1 ≤ 601024; omega, by show slots + 6 ≤ 7293034; omega⟩ (fun H locs hP hD hS => ?_)
  have hP := va_P_perm hP (pm_b _ _ _ _)
  have hD := va_D_perm hD (pm_b _ _ _ _)
  refine lv_istore (lv' := [(6, .int k), (0, .ref b), (1, .ref (E 0)), (2, .ref (Em 0)), (3, .ref qo), (4, .ref qd), (5, .int (nI (6 * t)))]) hx hb dL_law_567 hl (by decide) rfl (fun ls hl => ?_)
  refine lv_aload_n hx hb dL_law_569 rfl (lv_at hl 3 rfl) ?_
  refine l_ld (j := 1) hF hS (lv_at hl 1 rfl) (lv_at hl 6 rfl) dL_law_570 dL_law_571 dL_law_573 (by decide) dL_law_574 dL_law_575 (by omega) ?_
  refine n_VI (Rs := ldA cD qd fd :: loA Y qo f2 :: wd Y E σ' 0 LC) (As := [.int (xs (6 * t + 1))]) (rest := []) hC hb hml hl.1 hSW hP hD hS hA (c_X10_choices lokM0 g2) (cw_L_144 hC rfl rfl ⟨(Nat.le_of_ble_eq_true rfl), (Nat.le_of_ble_eq_true rfl)⟩) (lm_0 []) rfl rfl rfl (Nat.le_of_ble_eq_true rfl) dL_law_576 ⟨by show cells + 1 + 0 ≤ 601024; omega, by show slots + 6 + 0 ≤ 7293034; omega⟩ (fun H locs hP hD hS => ?_)
  refine lv_istore (lv' := [(7, .int r), (6, .int k), (0, .ref b), (1, .ref (E 0)), (2, .ref (Em 0)), (3, .ref qo), (4, .ref qd), (5, .int (nI (6 * t)))]) hx hb dL_law_579 hl (by decide) rfl (fun ls hl => ?_)
  refine lv_aload_n hx hb dL_law_581 rfl (lv_at hl 4 rfl) ?_
  refine n_VI (Rs := ldA cD qd fd :: loA Y qo f2 :: wd Y E σ' 0 LC) (As := []) (rest := []) hC hb hml hl.1 hSW hP hD hS hA (c_X10_thrown lokM0 (show f_X10_thrown τ' = some (gI τ' 0, τ') from rfl)) (cw_L_111 hC rfl rfl ⟨(Nat.le_of_ble_eq_true rfl), (Nat.le_of_ble_eq_true rfl)⟩) (lm_0 []) rfl rfl rfl (Nat.le_of_ble_eq_true rfl) dL_law_582 ⟨by show cells + 1 + 0 ≤ 601024; omega, by show slots + 6 + 0 ≤ 7293034; omega⟩ (fun H locs hP hD hS => ?_)
  refine lv_iload hx hb dL_law_585 (lv_at hl 1 rfl) ?_
  refine lv_icmp_eq (tgt := 592) hx hb dL_law_587 (by decide) (fun c1 => ?_) (fun c1 => absurd hk c1)
  refine lv_iload hx hb dL_law_592 (lv_at hl 1 rfl) ?_
  have fin : W p l e room_1 s m args below meth c H locs (cells + 1 + 0 + 0) (slots + 6 + 0 + 0) Q (F0 m 609 ls []) := by
    refine lv_goto (tgt := 2067) hx hb dL_law_609 (by decide) ?_
    refine W.widen (k := cells + 2) (n := slots + 14) (by omega) (by omega) ?_
    exact kk w σ' τ' f2 fd H locs ls hR (va_P_perm hP (pm_b _ _ _ _).symm) (va_D_perm hD (pm_b _ _ _ _).symm) hS (lv_sub hl [2, 3, 4, 5, 6, 7] rfl)
  refine lv_if_ne (tgt := 609) hx hb dL_law_594 (by decide) (fun _ => fin) (fun c2 => ?_)
  refine lv_aload_n hx hb dL_law_597 rfl (lv_at hl 5 rfl) ?_
  refine lv_iconst (v := 0) hx hb dL_law_598 (by decide) ?_
  refine va_lald hx hb hC.2.2.2.1 hP 1 1 rfl rfl vin0 dL_law_599 ?_
  refine lv_iload hx hb dL_law_600 (lv_at hl 0 rfl) ?_
  refine lv_i2l (v := r.toInt64) hx hb dL_law_602 rfl ?_
  refine W.lcmp hx hb dL_law_603 ?_
  refine lv_if_eq (tgt := 609) hx hb dL_law_604 (by decide) (fun _ => fin) (fun c3 => absurd ?_ c3)
  show lg_cmp (f2 0) r.toInt64 = 0
  rw [hv c2]
  exact lgc _

set_option maxHeartbeats 4000000 in
set_option maxRecDepth 100000 in
theorem law_9 {p : Program} {l : Launch} {e : Env} {s : State} {m : MethodId} {args : Array Value} {below : List Frame} {meth : Method} {c : Code} {H : Heap} {locs : List Loc} {cells slots : Nat} {Q : State → Prop} {D : va_G} {Y : CYs} {cD : ClassId} {b L : Nat} {xs : Nat → Int32} {A : Nat → Prop} {ls : Array Slot} {E Em : Nat → Nat} {qo qd t : Nat} {w : AW} {σ τ : Sta} {f : Nat → Int64} {fd : Nat → UInt64} (hF : LF p l s m args c D Y cD b L xs A) (h : REL w σ τ) (hP : va_P D vwCl (CWl Y cD E Em qo qd σ τ f fd) H) (hD : va_D A (CWl Y cD E Em qo qd σ τ f fd)) (hS : va_S A s.heap H locs) (hl : lv_has ls 9 (LV b qo qd t E Em)) (hj : 6 * t + 6 ≤ L) (hc : cells + 2 ≤ 601024) (hs : slots + 14 ≤ 7293034)
    (kk : ∀ (w : AW) (σ τ : Sta) (f : Nat → Int64) (fd : Nat → UInt64) (H : Heap) (locs : List Loc) (ls : Array Slot), REL w σ τ → va_P D vwCl (CWl Y cD E Em qo qd σ τ f fd) H → va_D A (CWl Y cD E Em qo qd σ τ f fd) → va_S A s.heap H locs → lv_has ls 9 (LV b qo qd t E Em) → W p l e room_1 s m args below meth c H locs (cells + 2) (slots + 14) Q (F0 m 2067 ls [])) : W p l e room_1 s m args below meth c H locs cells slots Q (F0 m 612 ls []) := by
  obtain ⟨hC, hb, hml, hSW, hA, hKD, hX, hbl, hbA, ht, hL⟩ := id hF
  have hx := hC.1
  have hl : lv_has ls 9 [(0, .ref b), (1, .ref (E 0)), (2, .ref (Em 0)), (3, .ref qo), (4, .ref qd), (5, .int (nI (6 * t)))] := hl
  obtain ⟨o, σ', r, τ', g1, g2, hR, ho⟩ := op_1 (fun e2 e3 => og_choice e2 e3 h (xs (6 * t + 1)) (xs (6 * t + 2)) (xs (6 * t + 3)))
  obtain ⟨k, f2, hw, hk, hv⟩ : ∃ (k : Int32) (f2 : Nat → Int64), ((∃ v : Int32, o = .inl v ∧ k = 0 ∧ f2 = vp_updL f 0 v.toInt64) ∨ (o = .inr eIOB ∧ k = 1 ∧ f = f2)) ∧ gI τ' 0 = k ∧ (k = 0 → f2 0 = r.toInt64) := by
    rcases ho with ⟨rfl, h0⟩ | ⟨rfl, h0⟩
    · exact ⟨0, vp_updL f 0 r.toInt64, Or.inl ⟨r, rfl, rfl, rfl⟩, h0, fun _ => if_pos rfl⟩
    · exact ⟨1, f, Or.inr (⟨rfl, rfl, rfl⟩), h0, fun h => absurd h (by decide)⟩
  refine lv_aload_n hx hb dL_law_612 rfl (lv_at hl 1 rfl) ?_
  refine l_ld (j := 1) hF hS (lv_at hl 0 rfl) (lv_at hl 5 rfl) dL_law_613 dL_law_614 dL_law_616 (by decide) dL_law_617 dL_law_618 (by omega) ?_
  refine l_ld (j := 2) hF hS (lv_at hl 0 rfl) (lv_at hl 5 rfl) dL_law_619 dL_law_620 dL_law_622 (by decide) dL_law_623 dL_law_624 (by omega) ?_
  refine l_ld (j := 3) hF hS (lv_at hl 0 rfl) (lv_at hl 5 rfl) dL_law_625 dL_law_626 dL_law_628 (by decide) dL_law_629 dL_law_630 (by omega) ?_
  refine lv_aload_n hx hb dL_law_631 rfl (lv_at hl 3 rfl) ?_
  refine n_SW (Rs := ldA cD qd fd :: wd Y Em τ 0 LM0) (As := [.ref (E 0), .int (xs (6 * t + 1)), .int (xs (6 * t + 2)), .int (xs (6 * t + 3)), .ref qo]) (rest := []) hC hb hml hl.1 hSW hP hD hS hA (fun sz => wL_choice ht g1 hw sz) (csL_choice hC ⟨(Nat.le_of_ble_eq_true rfl), (Nat.le_of_ble_eq_true rfl)⟩) rfl rfl (Nat.le_of_ble_eq_true rfl) dL_law_632 ⟨by show cells + 1 ≤ 601024; omega, by show slots + 6 ≤ 7293034; omega⟩ (fun H locs hP hD hS => ?_)
  have hP := va_P_perm hP (pm_b _ _ _ _)
  have hD := va_D_perm hD (pm_b _ _ _ _)
  refine lv_istore (lv' := [(6, .int k), (0, .ref b), (1, .ref (E 0)), (2, .ref (Em 0)), (3, .ref qo), (4, .ref qd), (5, .int (nI (6 * t)))]) hx hb dL_law_635 hl (by decide) rfl (fun ls hl => ?_)
  refine lv_aload_n hx hb dL_law_637 rfl (lv_at hl 3 rfl) ?_
  refine l_ld (j := 1) hF hS (lv_at hl 1 rfl) (lv_at hl 6 rfl) dL_law_638 dL_law_639 dL_law_641 (by decide) dL_law_642 dL_law_643 (by omega) ?_
  refine l_ld (j := 2) hF hS (lv_at hl 1 rfl) (lv_at hl 6 rfl) dL_law_644 dL_law_645 dL_law_647 (by decide) dL_law_648 dL_law_649 (by omega) ?_
  refine l_ld (j := 3) hF hS (lv_at hl 1 rfl) (lv_at hl 6 rfl) dL_law_650 dL_law_651 dL_law_653 (by decide) dL_law_654 dL_law_655 (by omega) ?_
  refine n_VI (Rs := ldA cD qd fd :: loA Y qo f2 :: wd Y E σ' 0 LC) (As := [.int (xs (6 * t + 1)), .int (xs (6 * t + 2)), .int (xs (6 * t + 3))]) (rest := []) hC hb hml hl.1 hSW hP hD hS hA (c_X10_choice lokM0 g2) (cw_L_148 hC rfl rfl ⟨(Nat.le_of_ble_eq_true rfl), (Nat.le_of_ble_eq_true rfl)⟩) (lm_0 []) rfl rfl rfl (Nat.le_of_ble_eq_true rfl) dL_law_656 ⟨by show cells + 1 + 0 ≤ 601024; omega, by show slots + 6 + 0 ≤ 7293034; omega⟩ (fun H locs hP hD hS => ?_)
  refine lv_istore (lv' := [(7, .int r), (6, .int k), (0, .ref b), (1, .ref (E 0)), (2, .ref (Em 0)), (3, .ref qo), (4, .ref qd), (5, .int (nI (6 * t)))]) hx hb dL_law_659 hl (by decide) rfl (fun ls hl => ?_)
  refine lv_aload_n hx hb dL_law_661 rfl (lv_at hl 4 rfl) ?_
  refine n_VI (Rs := ldA cD qd fd :: loA Y qo f2 :: wd Y E σ' 0 LC) (As := []) (rest := []) hC hb hml hl.1 hSW hP hD hS hA (c_X10_thrown lokM0 (show f_X10_thrown τ' = some (gI τ' 0, τ') from rfl)) (cw_L_111 hC rfl rfl ⟨(Nat.le_of_ble_eq_true rfl), (Nat.le_of_ble_eq_true rfl)⟩) (lm_0 []) rfl rfl rfl (Nat.le_of_ble_eq_true rfl) dL_law_662 ⟨by show cells + 1 + 0 ≤ 601024; omega, by show slots + 6 + 0 ≤ 7293034; omega⟩ (fun H locs hP hD hS => ?_)
  refine lv_iload hx hb dL_law_665 (lv_at hl 1 rfl) ?_
  refine lv_icmp_eq (tgt := 672) hx hb dL_law_667 (by decide) (fun c1 => ?_) (fun c1 => absurd hk c1)
  refine lv_iload hx hb dL_law_672 (lv_at hl 1 rfl) ?_
  have fin : W p l e room_1 s m args below meth c H locs (cells + 1 + 0 + 0) (slots + 6 + 0 + 0) Q (F0 m 689 ls []) := by
    refine lv_goto (tgt := 2067) hx hb dL_law_689 (by decide) ?_
    refine W.widen (k := cells + 2) (n := slots + 14) (by omega) (by omega) ?_
    exact kk w σ' τ' f2 fd H locs ls hR (va_P_perm hP (pm_b _ _ _ _).symm) (va_D_perm hD (pm_b _ _ _ _).symm) hS (lv_sub hl [2, 3, 4, 5, 6, 7] rfl)
  refine lv_if_ne (tgt := 689) hx hb dL_law_674 (by decide) (fun _ => fin) (fun c2 => ?_)
  refine lv_aload_n hx hb dL_law_677 rfl (lv_at hl 5 rfl) ?_
  refine lv_iconst (v := 0) hx hb dL_law_678 (by decide) ?_
  refine va_lald hx hb hC.2.2.2.1 hP 1 1 rfl rfl vin0 dL_law_679 ?_
  refine lv_iload hx hb dL_law_680 (lv_at hl 0 rfl) ?_
  refine lv_i2l (v := r.toInt64) hx hb dL_law_682 rfl ?_
  refine W.lcmp hx hb dL_law_683 ?_
  refine lv_if_eq (tgt := 689) hx hb dL_law_684 (by decide) (fun _ => fin) (fun c3 => absurd ?_ c3)
  show lg_cmp (f2 0) r.toInt64 = 0
  rw [hv c2]
  exact lgc _

set_option maxHeartbeats 4000000 in
set_option maxRecDepth 100000 in
theorem law_10 {p : Program} {l : Launch} {e : Env} {s : State} {m : MethodId} {args : Array Value} {below : List Frame} {meth : Method} {c : Code} {H : Heap} {locs : List Loc} {cells slots : Nat} {Q : State → Prop} {D : va_G} {Y : CYs} {cD : ClassId} {b L : Nat} {xs : Nat → Int32} {A : Nat → Prop} {ls : Array Slot} {E Em : Nat → Nat} {qo qd t : Nat} {w : AW} {σ τ : Sta} {f : Nat → Int64} {fd : Nat → UInt64} (hF : LF p l s m args c D Y cD b L xs A) (h : REL w σ τ) (hP : va_P D vwCl (CWl Y cD E Em qo qd σ τ f fd) H) (hD : va_D A (CWl Y cD E Em qo qd σ τ f fd)) (hS : va_S A s.heap H locs) (hl : lv_has ls 9 (LV b qo qd t E Em)) (hj : 6 * t + 6 ≤ L) (hc : cells + 2 ≤ 601024) (hs : slots + 14 ≤ 7293034)
    (kk : ∀ (w : AW) (σ τ : Sta) (f : Nat → Int64) (fd : Nat → UInt64) (H : Heap) (locs : List Loc) (ls : Array Slot), REL w σ τ → va_P D vwCl (CWl Y cD E Em qo qd σ τ f fd) H → va_D A (CWl Y cD E Em qo qd σ τ f fd) → va_S A s.heap H locs → lv_has ls 9 (LV b qo qd t E Em) → W p l e room_1 s m args below meth c H locs (cells + 2) (slots + 14) Q (F0 m 2067 ls [])) : W p l e room_1 s m args below meth c H locs cells slots Q (F0 m 692 ls []) := by
  obtain ⟨hC, hb, hml, hSW, hA, hKD, hX, hbl, hbA, ht, hL⟩ := id hF
  have hx := hC.1
  have hl : lv_has ls 9 [(0, .ref b), (1, .ref (E 0)), (2, .ref (Em 0)), (3, .ref qo), (4, .ref qd), (5, .int (nI (6 * t)))] := hl
  obtain ⟨o, σ', r, τ', g1, g2, hR, ho⟩ := op_1 (fun e2 e3 => og_gain e2 e3 h (xs (6 * t + 1)) (xs (6 * t + 2)) (xs (6 * t + 3)))
  obtain ⟨k, f2, hw, hk, hv⟩ : ∃ (k : Int32) (f2 : Nat → Int64), ((∃ v : Int64, o = .inl v ∧ k = 0 ∧ f2 = vp_updL f 0 v) ∨ (o = .inr eIOB ∧ k = 1 ∧ f = f2)) ∧ gI τ' 0 = k ∧ (k = 0 → f2 0 = r) := by
    rcases ho with ⟨rfl, h0⟩ | ⟨rfl, h0⟩
    · exact ⟨0, vp_updL f 0 r, Or.inl ⟨r, rfl, rfl, rfl⟩, h0, fun _ => if_pos rfl⟩
    · exact ⟨1, f, Or.inr (⟨rfl, rfl, rfl⟩), h0, fun h => absurd h (by decide)⟩
  refine lv_aload_n hx hb dL_law_692 rfl (lv_at hl 1 rfl) ?_
  refine l_ld (j := 1) hF hS (lv_at hl 0 rfl) (lv_at hl 5 rfl) dL_law_693 dL_law_694 dL_law_696 (by decide) dL_law_697 dL_law_698 (by omega) ?_
  refine l_ld (j := 2) hF hS (lv_at hl 0 rfl) (lv_at hl 5 rfl) dL_law_699 dL_law_700 dL_law_702 (by decide) dL_law_703 dL_law_704 (by omega) ?_
  refine l_ld (j := 3) hF hS (lv_at hl 0 rfl) (lv_at hl 5 rfl) dL_law_705 dL_law_706 dL_law_708 (by decide) dL_law_709 dL_law_710 (by omega) ?_
  refine lv_aload_n hx hb dL_law_711 rfl (lv_at hl 3 rfl) ?_
  refine n_SW (Rs := ldA cD qd fd :: wd Y Em τ 0 LM0) (As := [.ref (E 0), .int (xs (6 * t + 1)), .int (xs (6 * t + 2)), .int (xs (6 * t + 3)), .ref qo]) (rest := []) hC hb hml hl.1 hSW hP hD hS hA (fun sz => wL_gain ht g1 hw sz) (csL_gain hC ⟨(Nat.le_of_ble_eq_true rfl), (Nat.le_of_ble_eq_true rfl)⟩) rfl rfl (Nat.le_of_ble_eq_true rfl) dL_law_712 ⟨by show cells + 1 ≤ 601024; omega, by show slots + 6 ≤ 7293034; omega⟩ (fun H locs hP hD hS => ?_)
  have hP := va_P_perm hP (pm_b _ _ _ _)
  have hD := va_D_perm hD (pm_b _ _ _ _)
  refine lv_istore (lv' := [(6, .int k), (0, .ref b), (1, .ref (E 0)), (2, .ref (Em 0)), (3, .ref qo), (4, .ref qd), (5, .int (nI (6 * t)))]) hx hb dL_law_715 hl (by decide) rfl (fun ls hl => ?_)
  refine lv_aload_n hx hb dL_law_717 rfl (lv_at hl 3 rfl) ?_
  refine l_ld (j := 1) hF hS (lv_at hl 1 rfl) (lv_at hl 6 rfl) dL_law_718 dL_law_719 dL_law_721 (by decide) dL_law_722 dL_law_723 (by omega) ?_
  refine l_ld (j := 2) hF hS (lv_at hl 1 rfl) (lv_at hl 6 rfl) dL_law_724 dL_law_725 dL_law_727 (by decide) dL_law_728 dL_law_729 (by omega) ?_
  refine l_ld (j := 3) hF hS (lv_at hl 1 rfl) (lv_at hl 6 rfl) dL_law_730 dL_law_731 dL_law_733 (by decide) dL_law_734 dL_law_735 (by omega) ?_
  refine n_VL (Rs := ldA cD qd fd :: loA Y qo f2 :: wd Y E σ' 0 LC) (As := [.int (xs (6 * t + 1)), .int (xs (6 * t + 2)), .int (xs (6 * t + 3))]) (rest := []) hC hb hml hl.1 hSW hP hD hS hA (c_X10_gain_ lokM0 g2) (cw_L_151 hC rfl rfl ⟨(Nat.le_of_ble_eq_true rfl), (Nat.le_of_ble_eq_true rfl)⟩) (lm_0 []) rfl rfl rfl (Nat.le_of_ble_eq_true rfl) dL_law_736 ⟨by show cells + 1 + 0 ≤ 601024; omega, by show slots + 6 + 0 ≤ 7293034; omega⟩ (fun H locs hP hD hS => ?_)
  refine lv_lstore (lv' := [(7, .long r), (6, .int k), (0, .ref b), (1, .ref (E 0)), (2, .ref (Em 0)), (3, .ref qo), (4, .ref qd), (5, .int (nI (6 * t)))]) hx hb dL_law_739 hl (by decide) rfl (fun ls hl => ?_)
  refine lv_aload_n hx hb dL_law_741 rfl (lv_at hl 4 rfl) ?_
  refine n_VI (Rs := ldA cD qd fd :: loA Y qo f2 :: wd Y E σ' 0 LC) (As := []) (rest := []) hC hb hml hl.1 hSW hP hD hS hA (c_X10_thrown lokM0 (show f_X10_thrown τ' = some (gI τ' 0, τ') from rfl)) (cw_L_111 hC rfl rfl ⟨(Nat.le_of_ble_eq_true rfl), (Nat.le_of_ble_eq_true rfl)⟩) (lm_0 []) rfl rfl rfl (Nat.le_of_ble_eq_true rfl) dL_law_742 ⟨by show cells + 1 + 0 ≤ 601024; omega, by show slots + 6 + 0 ≤ 7293034; omega⟩ (fun H locs hP hD hS => ?_)
  refine lv_iload hx hb dL_law_745 (lv_at hl 1 rfl) ?_
  refine lv_icmp_eq (tgt := 752) hx hb dL_law_747 (by decide) (fun c1 => ?_) (fun c1 => absurd hk c1)
  refine lv_iload hx hb dL_law_752 (lv_at hl 1 rfl) ?_
  have fin : W p l e room_1 s m args below meth c H locs (cells + 1 + 0 + 0) (slots + 6 + 0 + 0) Q (F0 m 768 ls []) := by
    refine lv_goto (tgt := 2067) hx hb dL_law_768 (by decide) ?_
    refine W.widen (k := cells + 2) (n := slots + 14) (by omega) (by omega) ?_
    exact kk w σ' τ' f2 fd H locs ls hR (va_P_perm hP (pm_b _ _ _ _).symm) (va_D_perm hD (pm_b _ _ _ _).symm) hS (lv_sub hl [2, 3, 4, 5, 6, 7] rfl)
  refine lv_if_ne (tgt := 768) hx hb dL_law_754 (by decide) (fun _ => fin) (fun c2 => ?_)
  refine lv_aload_n hx hb dL_law_757 rfl (lv_at hl 5 rfl) ?_
  refine lv_iconst (v := 0) hx hb dL_law_758 (by decide) ?_
  refine va_lald hx hb hC.2.2.2.1 hP 1 1 rfl rfl vin0 dL_law_759 ?_
  refine lv_lload hx hb dL_law_760 (lv_at hl 0 rfl) ?_
  refine W.lcmp hx hb dL_law_762 ?_
  refine lv_if_eq (tgt := 768) hx hb dL_law_763 (by decide) (fun _ => fin) (fun c3 => absurd ?_ c3)
  show lg_cmp (f2 0) r = 0
  rw [hv c2]
  exact lgc _

set_option maxHeartbeats 4000000 in
set_option maxRecDepth 100000 in
theorem law_11 {p : Program} {l : Launch} {e : Env} {s : State} {m : MethodId} {args : Array Value} {below : List Frame} {meth : Method} {c : Code} {H : Heap} {locs : List Loc} {cells slots : Nat} {Q : State → Prop} {D : va_G} {Y : CYs} {cD : ClassId} {b L : Nat} {xs : Nat → Int32} {A : Nat → Prop} {ls : Array Slot} {E Em : Nat → Nat} {qo qd t : Nat} {w : AW} {σ τ : Sta} {f : Nat → Int64} {fd : Nat → UInt64} (hF : LF p l s m args c D Y cD b L xs A) (h : REL w σ τ) (hP : va_P D vwCl (CWl Y cD E Em qo qd σ τ f fd) H) (hD : va_D A (CWl Y cD E Em qo qd σ τ f fd)) (hS : va_S A s.heap H locs) (hl : lv_has ls 9 (LV b qo qd t E Em)) (hj : 6 * t + 6 ≤ L) (hc : cells + 2 ≤ 601024) (hs : slots + 14 ≤ 7293034)
    (kk : ∀ (w : AW) (σ τ : Sta) (f : Nat → Int64) (fd : Nat → UInt64) (H : Heap) (locs : List Loc) (ls : Array Slot), REL w σ τ → va_P D vwCl (CWl Y cD E Em qo qd σ τ f fd) H → va_D A (CWl Y cD E Em qo qd σ τ f fd) → va_S A s.heap H locs → lv_has ls 9 (LV b qo qd t E Em) → W p l e room_1 s m args below meth c H locs (cells + 2) (slots + 14) Q (F0 m 2067 ls [])) : W p l e room_1 s m args below meth c H locs cells slots Q (F0 m 771 ls []) := by
  obtain ⟨hC, hb, hml, hSW, hA, hKD, hX, hbl, hbA, ht, hL⟩ := id hF
  have hx := hC.1
  have hl : lv_has ls 9 [(0, .ref b), (1, .ref (E 0)), (2, .ref (Em 0)), (3, .ref qo), (4, .ref qd), (5, .int (nI (6 * t)))] := hl
  obtain ⟨o, σ', r, τ', g1, g2, hR, ho⟩ := op_1 (fun e2 e3 => og_branch e2 e3 h (xs (6 * t + 1)) (xs (6 * t + 2)) (xs (6 * t + 3)) (if xs (6 * t + 4) = 0 then 0 else 1))
  obtain ⟨k, f2, hw, hk, hv⟩ : ∃ (k : Int32) (f2 : Nat → Int64), ((∃ v : Int32, o = .inl v ∧ k = 0 ∧ f2 = vp_updL f 0 v.toInt64) ∨ (o = .inr eIOB ∧ k = 1 ∧ f = f2)) ∧ gI τ' 0 = k ∧ (k = 0 → f2 0 = r.toInt64) := by
    rcases ho with ⟨rfl, h0⟩ | ⟨rfl, h0⟩
    · exact ⟨0, vp_updL f 0 r.toInt64, Or.inl ⟨r, rfl, rfl, rfl⟩, h0, fun _ => if_pos rfl⟩
    · exact ⟨1, f, Or.inr (⟨rfl, rfl, rfl⟩), h0, fun h => absurd h (by decide)⟩
  refine lv_aload_n hx hb dL_law_771 rfl (lv_at hl 1 rfl) ?_
  refine l_ld (j := 1) hF hS (lv_at hl 0 rfl) (lv_at hl 5 rfl) dL_law_772 dL_law_773 dL_law_775 (by decide) dL_law_776 dL_law_777 (by omega) ?_
  refine l_ld (j := 2) hF hS (lv_at hl 0 rfl) (lv_at hl 5 rfl) dL_law_778 dL_law_779 dL_law_781 (by decide) dL_law_782 dL_law_783 (by omega) ?_
  refine l_ld (j := 3) hF hS (lv_at hl 0 rfl) (lv_at hl 5 rfl) dL_law_784 dL_law_785 dL_law_787 (by decide) dL_law_788 dL_law_789 (by omega) ?_
  refine l_ld (j := 4) hF hS (lv_at hl 0 rfl) (lv_at hl 5 rfl) dL_law_790 dL_law_791 dL_law_793 (by decide) dL_law_794 dL_law_795 (by omega) ?_
  refine l_bool (p1 := 803) (p2 := 804) hx hb dL_law_796 (by decide) dL_law_799 dL_law_800 (by decide) dL_law_803 rfl ?_
  refine lv_aload_n hx hb dL_law_804 rfl (lv_at hl 3 rfl) ?_
  refine n_SW (Rs := ldA cD qd fd :: wd Y Em τ 0 LM0) (As := [.ref (E 0), .int (xs (6 * t + 1)), .int (xs (6 * t + 2)), .int (xs (6 * t + 3)), .int (if xs (6 * t + 4) = 0 then 0 else 1), .ref qo]) (rest := []) hC hb hml hl.1 hSW hP hD hS hA (fun sz => wL_branch ht g1 hw sz) (csL_branch hC ⟨(Nat.le_of_ble_eq_true rfl), (Nat.le_of_ble_eq_true rfl)⟩) rfl rfl (Nat.le_of_ble_eq_true rfl) dL_law_805 ⟨by show cells + 1 ≤ 601024; omega, by show slots + 6 ≤ 7293034; omega⟩ (fun H locs hP hD hS => ?_)
  have hP := va_P_perm hP (pm_b _ _ _ _)
  have hD := va_D_perm hD (pm_b _ _ _ _)
  refine lv_istore (lv' := [(6, .int k), (0, .ref b), (1, .ref (E 0)), (2, .ref (Em 0)), (3, .ref qo), (4, .ref qd), (5, .int (nI (6 * t)))]) hx hb dL_law_808 hl (by decide) rfl (fun ls hl => ?_)
  refine lv_aload_n hx hb dL_law_810 rfl (lv_at hl 3 rfl) ?_
  refine l_ld (j := 1) hF hS (lv_at hl 1 rfl) (lv_at hl 6 rfl) dL_law_811 dL_law_812 dL_law_814 (by decide) dL_law_815 dL_law_816 (by omega) ?_
  refine l_ld (j := 2) hF hS (lv_at hl 1 rfl) (lv_at hl 6 rfl) dL_law_817 dL_law_818 dL_law_820 (by decide) dL_law_821 dL_law_822 (by omega) ?_
  refine l_ld (j := 3) hF hS (lv_at hl 1 rfl) (lv_at hl 6 rfl) dL_law_823 dL_law_824 dL_law_826 (by decide) dL_law_827 dL_law_828 (by omega) ?_
  refine l_ld (j := 4) hF hS (lv_at hl 1 rfl) (lv_at hl 6 rfl) dL_law_829 dL_law_830 dL_law_832 (by decide) dL_law_833 dL_law_834 (by omega) ?_
  refine l_bool (p1 := 842) (p2 := 843) hx hb dL_law_835 (by decide) dL_law_838 dL_law_839 (by decide) dL_law_842 rfl ?_
  refine n_VI (Rs := ldA cD qd fd :: loA Y qo f2 :: wd Y E σ' 0 LC) (As := [.int (xs (6 * t + 1)), .int (xs (6 * t + 2)), .int (xs (6 * t + 3)), .int (if xs (6 * t + 4) = 0 then 0 else 1)]) (rest := []) hC hb hml hl.1 hSW hP hD hS hA (c_X10_branch_ lokM0 g2) (cw_L_155 hC rfl rfl ⟨(Nat.le_of_ble_eq_true rfl), (Nat.le_of_ble_eq_true rfl)⟩) (lm_0 []) rfl rfl rfl (Nat.le_of_ble_eq_true rfl) dL_law_843 ⟨by show cells + 1 + 0 ≤ 601024; omega, by show slots + 6 + 0 ≤ 7293034; omega⟩ (fun H locs hP hD hS => ?_)
  refine lv_istore (lv' := [(7, .int r), (6, .int k), (0, .ref b), (1, .ref (E 0)), (2, .ref (Em 0)), (3, .ref qo), (4, .ref qd), (5, .int (nI (6 * t)))]) hx hb dL_law_846 hl (by decide) rfl (fun ls hl => ?_)
  refine lv_aload_n hx hb dL_law_848 rfl (lv_at hl 4 rfl) ?_
  refine n_VI (Rs := ldA cD qd fd :: loA Y qo f2 :: wd Y E σ' 0 LC) (As := []) (rest := []) hC hb hml hl.1 hSW hP hD hS hA (c_X10_thrown lokM0 (show f_X10_thrown τ' = some (gI τ' 0, τ') from rfl)) (cw_L_111 hC rfl rfl ⟨(Nat.le_of_ble_eq_true rfl), (Nat.le_of_ble_eq_true rfl)⟩) (lm_0 []) rfl rfl rfl (Nat.le_of_ble_eq_true rfl) dL_law_849 ⟨by show cells + 1 + 0 ≤ 601024; omega, by show slots + 6 + 0 ≤ 7293034; omega⟩ (fun H locs hP hD hS => ?_)
  refine lv_iload hx hb dL_law_852 (lv_at hl 1 rfl) ?_
  refine lv_icmp_eq (tgt := 859) hx hb dL_law_854 (by decide) (fun c1 => ?_) (fun c1 => absurd hk c1)
  refine lv_iload hx hb dL_law_859 (lv_at hl 1 rfl) ?_
  have fin : W p l e room_1 s m args below meth c H locs (cells + 1 + 0 + 0) (slots + 6 + 0 + 0) Q (F0 m 876 ls []) := by
    refine lv_goto (tgt := 2067) hx hb dL_law_876 (by decide) ?_
    refine W.widen (k := cells + 2) (n := slots + 14) (by omega) (by omega) ?_
    exact kk w σ' τ' f2 fd H locs ls hR (va_P_perm hP (pm_b _ _ _ _).symm) (va_D_perm hD (pm_b _ _ _ _).symm) hS (lv_sub hl [2, 3, 4, 5, 6, 7] rfl)
  refine lv_if_ne (tgt := 876) hx hb dL_law_861 (by decide) (fun _ => fin) (fun c2 => ?_)
  refine lv_aload_n hx hb dL_law_864 rfl (lv_at hl 5 rfl) ?_
  refine lv_iconst (v := 0) hx hb dL_law_865 (by decide) ?_
  refine va_lald hx hb hC.2.2.2.1 hP 1 1 rfl rfl vin0 dL_law_866 ?_
  refine lv_iload hx hb dL_law_867 (lv_at hl 0 rfl) ?_
  refine lv_i2l (v := r.toInt64) hx hb dL_law_869 rfl ?_
  refine W.lcmp hx hb dL_law_870 ?_
  refine lv_if_eq (tgt := 876) hx hb dL_law_871 (by decide) (fun _ => fin) (fun c3 => absurd ?_ c3)
  show lg_cmp (f2 0) r.toInt64 = 0
  rw [hv c2]
  exact lgc _

set_option maxHeartbeats 4000000 in
set_option maxRecDepth 100000 in
theorem law_12 {p : Program} {l : Launch} {e : Env} {s : State} {m : MethodId} {args : Array Value} {below : List Frame} {meth : Method} {c : Code} {H : Heap} {locs : List Loc} {cells slots : Nat} {Q : State → Prop} {D : va_G} {Y : CYs} {cD : ClassId} {b L : Nat} {xs : Nat → Int32} {A : Nat → Prop} {ls : Array Slot} {E Em : Nat → Nat} {qo qd t : Nat} {w : AW} {σ τ : Sta} {f : Nat → Int64} {fd : Nat → UInt64} (hF : LF p l s m args c D Y cD b L xs A) (h : REL w σ τ) (hP : va_P D vwCl (CWl Y cD E Em qo qd σ τ f fd) H) (hD : va_D A (CWl Y cD E Em qo qd σ τ f fd)) (hS : va_S A s.heap H locs) (hl : lv_has ls 9 (LV b qo qd t E Em)) (hj : 6 * t + 6 ≤ L) (hc : cells + 2 ≤ 601024) (hs : slots + 14 ≤ 7293034)
    (kk : ∀ (w : AW) (σ τ : Sta) (f : Nat → Int64) (fd : Nat → UInt64) (H : Heap) (locs : List Loc) (ls : Array Slot), REL w σ τ → va_P D vwCl (CWl Y cD E Em qo qd σ τ f fd) H → va_D A (CWl Y cD E Em qo qd σ τ f fd) → va_S A s.heap H locs → lv_has ls 9 (LV b qo qd t E Em) → W p l e room_1 s m args below meth c H locs (cells + 2) (slots + 14) Q (F0 m 2067 ls [])) : W p l e room_1 s m args below meth c H locs cells slots Q (F0 m 879 ls []) := by
  obtain ⟨hC, hb, hml, hSW, hA, hKD, hX, hbl, hbA, ht, hL⟩ := id hF
  have hx := hC.1
  have hl : lv_has ls 9 [(0, .ref b), (1, .ref (E 0)), (2, .ref (Em 0)), (3, .ref qo), (4, .ref qd), (5, .int (nI (6 * t)))] := hl
  obtain ⟨o, σ', r, τ', g1, g2, hR, ho⟩ := op_2 (fun e3 => og_weigh e3 e3 h (xs (6 * t + 1)) (xs (6 * t + 2)))
  obtain ⟨k, f2, hw, hk, hv⟩ : ∃ (k : Int32) (f2 : Nat → Int64), ((∃ v : Int32, o = .inl v ∧ k = 0 ∧ f2 = vp_updL f 0 v.toInt64) ∨ (o = .inr eIOB ∧ k = 1 ∧ f = f2) ∨ (o = .inr eIAE ∧ k = 2 ∧ f = f2)) ∧ gI τ' 0 = k ∧ (k = 0 → f2 0 = r.toInt64) := by
    rcases ho with ⟨rfl, h0⟩ | ⟨rfl, h0⟩ | ⟨rfl, h0⟩
    · exact ⟨0, vp_updL f 0 r.toInt64, Or.inl ⟨r, rfl, rfl, rfl⟩, h0, fun _ => if_pos rfl⟩
    · exact ⟨1, f, Or.inr (Or.inl ⟨rfl, rfl, rfl⟩), h0, fun h => absurd h (by decide)⟩
    · exact ⟨2, f, Or.inr (Or.inr (⟨rfl, rfl, rfl⟩)), h0, fun h => absurd h (by decide)⟩
  refine lv_aload_n hx hb dL_law_879 rfl (lv_at hl 1 rfl) ?_
  refine l_ld (j := 1) hF hS (lv_at hl 0 rfl) (lv_at hl 5 rfl) dL_law_880 dL_law_881 dL_law_883 (by decide) dL_law_884 dL_law_885 (by omega) ?_
  refine l_ld (j := 2) hF hS (lv_at hl 0 rfl) (lv_at hl 5 rfl) dL_law_886 dL_law_887 dL_law_889 (by decide) dL_law_890 dL_law_891 (by omega) ?_
  refine lv_aload_n hx hb dL_law_892 rfl (lv_at hl 3 rfl) ?_
  refine n_SW (Rs := ldA cD qd fd :: wd Y Em τ 0 LM0) (As := [.ref (E 0), .int (xs (6 * t + 1)), .int (xs (6 * t + 2)), .ref qo]) (rest := []) hC hb hml hl.1 hSW hP hD hS hA (fun sz => wL_weigh ht g1 hw sz) (csL_weigh hC ⟨(Nat.le_of_ble_eq_true rfl), (Nat.le_of_ble_eq_true rfl)⟩) rfl rfl (Nat.le_of_ble_eq_true rfl) dL_law_893 ⟨by show cells + 1 ≤ 601024; omega, by show slots + 6 ≤ 7293034; omega⟩ (fun H locs hP hD hS => ?_)
  have hP := va_P_perm hP (pm_b _ _ _ _)
  have hD := va_D_perm hD (pm_b _ _ _ _)
  refine lv_istore (lv' := [(6, .int k), (0, .ref b), (1, .ref (E 0)), (2, .ref (Em 0)), (3, .ref qo), (4, .ref qd), (5, .int (nI (6 * t)))]) hx hb dL_law_896 hl (by decide) rfl (fun ls hl => ?_)
  refine lv_aload_n hx hb dL_law_898 rfl (lv_at hl 3 rfl) ?_
  refine l_ld (j := 1) hF hS (lv_at hl 1 rfl) (lv_at hl 6 rfl) dL_law_899 dL_law_900 dL_law_902 (by decide) dL_law_903 dL_law_904 (by omega) ?_
  refine l_ld (j := 2) hF hS (lv_at hl 1 rfl) (lv_at hl 6 rfl) dL_law_905 dL_law_906 dL_law_908 (by decide) dL_law_909 dL_law_910 (by omega) ?_
  refine n_VI (Rs := ldA cD qd fd :: loA Y qo f2 :: wd Y E σ' 0 LC) (As := [.int (xs (6 * t + 1)), .int (xs (6 * t + 2))]) (rest := []) hC hb hml hl.1 hSW hP hD hS hA (c_X10_weigh lokM0 g2) (cw_L_158 hC rfl rfl ⟨(Nat.le_of_ble_eq_true rfl), (Nat.le_of_ble_eq_true rfl)⟩) (lm_0 []) rfl rfl rfl (Nat.le_of_ble_eq_true rfl) dL_law_911 ⟨by show cells + 1 + 0 ≤ 601024; omega, by show slots + 6 + 0 ≤ 7293034; omega⟩ (fun H locs hP hD hS => ?_)
  refine lv_istore (lv' := [(7, .int r), (6, .int k), (0, .ref b), (1, .ref (E 0)), (2, .ref (Em 0)), (3, .ref qo), (4, .ref qd), (5, .int (nI (6 * t)))]) hx hb dL_law_914 hl (by decide) rfl (fun ls hl => ?_)
  refine lv_aload_n hx hb dL_law_916 rfl (lv_at hl 4 rfl) ?_
  refine n_VI (Rs := ldA cD qd fd :: loA Y qo f2 :: wd Y E σ' 0 LC) (As := []) (rest := []) hC hb hml hl.1 hSW hP hD hS hA (c_X10_thrown lokM0 (show f_X10_thrown τ' = some (gI τ' 0, τ') from rfl)) (cw_L_111 hC rfl rfl ⟨(Nat.le_of_ble_eq_true rfl), (Nat.le_of_ble_eq_true rfl)⟩) (lm_0 []) rfl rfl rfl (Nat.le_of_ble_eq_true rfl) dL_law_917 ⟨by show cells + 1 + 0 ≤ 601024; omega, by show slots + 6 + 0 ≤ 7293034; omega⟩ (fun H locs hP hD hS => ?_)
  refine lv_iload hx hb dL_law_920 (lv_at hl 1 rfl) ?_
  refine lv_icmp_eq (tgt := 927) hx hb dL_law_922 (by decide) (fun c1 => ?_) (fun c1 => absurd hk c1)
  refine lv_iload hx hb dL_law_927 (lv_at hl 1 rfl) ?_
  have fin : W p l e room_1 s m args below meth c H locs (cells + 1 + 0 + 0) (slots + 6 + 0 + 0) Q (F0 m 944 ls []) := by
    refine lv_goto (tgt := 2067) hx hb dL_law_944 (by decide) ?_
    refine W.widen (k := cells + 2) (n := slots + 14) (by omega) (by omega) ?_
    exact kk w σ' τ' f2 fd H locs ls hR (va_P_perm hP (pm_b _ _ _ _).symm) (va_D_perm hD (pm_b _ _ _ _).symm) hS (lv_sub hl [2, 3, 4, 5, 6, 7] rfl)
  refine lv_if_ne (tgt := 944) hx hb dL_law_929 (by decide) (fun _ => fin) (fun c2 => ?_)
  refine lv_aload_n hx hb dL_law_932 rfl (lv_at hl 5 rfl) ?_
  refine lv_iconst (v := 0) hx hb dL_law_933 (by decide) ?_
  refine va_lald hx hb hC.2.2.2.1 hP 1 1 rfl rfl vin0 dL_law_934 ?_
  refine lv_iload hx hb dL_law_935 (lv_at hl 0 rfl) ?_
  refine lv_i2l (v := r.toInt64) hx hb dL_law_937 rfl ?_
  refine W.lcmp hx hb dL_law_938 ?_
  refine lv_if_eq (tgt := 944) hx hb dL_law_939 (by decide) (fun _ => fin) (fun c3 => absurd ?_ c3)
  show lg_cmp (f2 0) r.toInt64 = 0
  rw [hv c2]
  exact lgc _

set_option maxHeartbeats 4000000 in
set_option maxRecDepth 100000 in
theorem law_13 {p : Program} {l : Launch} {e : Env} {s : State} {m : MethodId} {args : Array Value} {below : List Frame} {meth : Method} {c : Code} {H : Heap} {locs : List Loc} {cells slots : Nat} {Q : State → Prop} {D : va_G} {Y : CYs} {cD : ClassId} {b L : Nat} {xs : Nat → Int32} {A : Nat → Prop} {ls : Array Slot} {E Em : Nat → Nat} {qo qd t : Nat} {w : AW} {σ τ : Sta} {f : Nat → Int64} {fd : Nat → UInt64} (hF : LF p l s m args c D Y cD b L xs A) (h : REL w σ τ) (hP : va_P D vwCl (CWl Y cD E Em qo qd σ τ f fd) H) (hD : va_D A (CWl Y cD E Em qo qd σ τ f fd)) (hS : va_S A s.heap H locs) (hl : lv_has ls 9 (LV b qo qd t E Em)) (hj : 6 * t + 6 ≤ L) (hc : cells + 2 ≤ 601024) (hs : slots + 14 ≤ 7293034)
    (kk : ∀ (w : AW) (σ τ : Sta) (f : Nat → Int64) (fd : Nat → UInt64) (H : Heap) (locs : List Loc) (ls : Array Slot), REL w σ τ → va_P D vwCl (CWl Y cD E Em qo qd σ τ f fd) H → va_D A (CWl Y cD E Em qo qd σ τ f fd) → va_S A s.heap H locs → lv_has ls 9 (LV b qo qd t E Em) → W p l e room_1 s m args below meth c H locs (cells + 2) (slots + 14) Q (F0 m 2067 ls [])) : W p l e room_1 s m args below meth c H locs cells slots Q (F0 m 947 ls []) := by
  obtain ⟨hC, hb, hml, hSW, hA, hKD, hX, hbl, hbA, ht, hL⟩ := id hF
  have hx := hC.1
  have hl : lv_has ls 9 [(0, .ref b), (1, .ref (E 0)), (2, .ref (Em 0)), (3, .ref qo), (4, .ref qd), (5, .int (nI (6 * t)))] := hl
  obtain ⟨o, σ', r, τ', g1, g2, hR, ho⟩ := op_2 (fun e3 => og_solve e3 e3 h (xs (6 * t + 1)))
  obtain ⟨k, f2, hw, hk, hv⟩ : ∃ (k : Int32) (f2 : Nat → Int64), ((∃ v : Int32, o = .inl v ∧ k = 0 ∧ f2 = vp_updL f 0 v.toInt64) ∨ (o = .inr eIAE ∧ k = 1 ∧ f = f2) ∨ (o = .inr eISE ∧ k = 2 ∧ f = f2)) ∧ gI τ' 0 = k ∧ (k = 0 → f2 0 = r.toInt64) := by
    rcases ho with ⟨rfl, h0⟩ | ⟨rfl, h0⟩ | ⟨rfl, h0⟩
    · exact ⟨0, vp_updL f 0 r.toInt64, Or.inl ⟨r, rfl, rfl, rfl⟩, h0, fun _ => if_pos rfl⟩
    · exact ⟨1, f, Or.inr (Or.inl ⟨rfl, rfl, rfl⟩), h0, fun h => absurd h (by decide)⟩
    · exact ⟨2, f, Or.inr (Or.inr (⟨rfl, rfl, rfl⟩)), h0, fun h => absurd h (by decide)⟩
  refine lv_aload_n hx hb dL_law_947 rfl (lv_at hl 1 rfl) ?_
  refine l_ld (j := 1) hF hS (lv_at hl 0 rfl) (lv_at hl 5 rfl) dL_law_948 dL_law_949 dL_law_951 (by decide) dL_law_952 dL_law_953 (by omega) ?_
  refine lv_aload_n hx hb dL_law_954 rfl (lv_at hl 3 rfl) ?_
  refine n_SW (Rs := ldA cD qd fd :: wd Y Em τ 0 LM0) (As := [.ref (E 0), .int (xs (6 * t + 1)), .ref qo]) (rest := []) hC hb hml hl.1 hSW hP hD hS hA (fun sz => wL_solve ht g1 hw sz) (csL_solve hC ⟨(Nat.le_of_ble_eq_true rfl), (Nat.le_of_ble_eq_true rfl)⟩) rfl rfl (Nat.le_of_ble_eq_true rfl) dL_law_955 ⟨by show cells + 1 ≤ 601024; omega, by show slots + 6 ≤ 7293034; omega⟩ (fun H locs hP hD hS => ?_)
  have hP := va_P_perm hP (pm_b _ _ _ _)
  have hD := va_D_perm hD (pm_b _ _ _ _)
  refine lv_istore (lv' := [(6, .int k), (0, .ref b), (1, .ref (E 0)), (2, .ref (Em 0)), (3, .ref qo), (4, .ref qd), (5, .int (nI (6 * t)))]) hx hb dL_law_958 hl (by decide) rfl (fun ls hl => ?_)
  refine lv_aload_n hx hb dL_law_960 rfl (lv_at hl 3 rfl) ?_
  refine l_ld (j := 1) hF hS (lv_at hl 1 rfl) (lv_at hl 6 rfl) dL_law_961 dL_law_962 dL_law_964 (by decide) dL_law_965 dL_law_966 (by omega) ?_
  refine n_VI (Rs := ldA cD qd fd :: loA Y qo f2 :: wd Y E σ' 0 LC) (As := [.int (xs (6 * t + 1))]) (rest := []) hC hb hml hl.1 hSW hP hD hS hA (c_X10_solve lokM0 g2) (cw_L_161 hC rfl rfl ⟨(Nat.le_of_ble_eq_true rfl), (Nat.le_of_ble_eq_true rfl)⟩) (lm_0 []) rfl rfl rfl (Nat.le_of_ble_eq_true rfl) dL_law_967 ⟨by show cells + 1 + 0 ≤ 601024; omega, by show slots + 6 + 0 ≤ 7293034; omega⟩ (fun H locs hP hD hS => ?_)
  refine lv_istore (lv' := [(7, .int r), (6, .int k), (0, .ref b), (1, .ref (E 0)), (2, .ref (Em 0)), (3, .ref qo), (4, .ref qd), (5, .int (nI (6 * t)))]) hx hb dL_law_970 hl (by decide) rfl (fun ls hl => ?_)
  refine lv_aload_n hx hb dL_law_972 rfl (lv_at hl 4 rfl) ?_
  refine n_VI (Rs := ldA cD qd fd :: loA Y qo f2 :: wd Y E σ' 0 LC) (As := []) (rest := []) hC hb hml hl.1 hSW hP hD hS hA (c_X10_thrown lokM0 (show f_X10_thrown τ' = some (gI τ' 0, τ') from rfl)) (cw_L_111 hC rfl rfl ⟨(Nat.le_of_ble_eq_true rfl), (Nat.le_of_ble_eq_true rfl)⟩) (lm_0 []) rfl rfl rfl (Nat.le_of_ble_eq_true rfl) dL_law_973 ⟨by show cells + 1 + 0 ≤ 601024; omega, by show slots + 6 + 0 ≤ 7293034; omega⟩ (fun H locs hP hD hS => ?_)
  refine lv_iload hx hb dL_law_976 (lv_at hl 1 rfl) ?_
  refine lv_icmp_eq (tgt := 983) hx hb dL_law_978 (by decide) (fun c1 => ?_) (fun c1 => absurd hk c1)
  refine lv_iload hx hb dL_law_983 (lv_at hl 1 rfl) ?_
  have fin : W p l e room_1 s m args below meth c H locs (cells + 1 + 0 + 0) (slots + 6 + 0 + 0) Q (F0 m 1000 ls []) := by
    refine lv_goto (tgt := 2067) hx hb dL_law_1000 (by decide) ?_
    refine W.widen (k := cells + 2) (n := slots + 14) (by omega) (by omega) ?_
    exact kk w σ' τ' f2 fd H locs ls hR (va_P_perm hP (pm_b _ _ _ _).symm) (va_D_perm hD (pm_b _ _ _ _).symm) hS (lv_sub hl [2, 3, 4, 5, 6, 7] rfl)
  refine lv_if_ne (tgt := 1000) hx hb dL_law_985 (by decide) (fun _ => fin) (fun c2 => ?_)
  refine lv_aload_n hx hb dL_law_988 rfl (lv_at hl 5 rfl) ?_
  refine lv_iconst (v := 0) hx hb dL_law_989 (by decide) ?_
  refine va_lald hx hb hC.2.2.2.1 hP 1 1 rfl rfl vin0 dL_law_990 ?_
  refine lv_iload hx hb dL_law_991 (lv_at hl 0 rfl) ?_
  refine lv_i2l (v := r.toInt64) hx hb dL_law_993 rfl ?_
  refine W.lcmp hx hb dL_law_994 ?_
  refine lv_if_eq (tgt := 1000) hx hb dL_law_995 (by decide) (fun _ => fin) (fun c3 => absurd ?_ c3)
  show lg_cmp (f2 0) r.toInt64 = 0
  rw [hv c2]
  exact lgc _

set_option maxHeartbeats 4000000 in
set_option maxRecDepth 100000 in
theorem law_14 {p : Program} {l : Launch} {e : Env} {s : State} {m : MethodId} {args : Array Value} {below : List Frame} {meth : Method} {c : Code} {H : Heap} {locs : List Loc} {cells slots : Nat} {Q : State → Prop} {D : va_G} {Y : CYs} {cD : ClassId} {b L : Nat} {xs : Nat → Int32} {A : Nat → Prop} {ls : Array Slot} {E Em : Nat → Nat} {qo qd t : Nat} {w : AW} {σ τ : Sta} {f : Nat → Int64} {fd : Nat → UInt64} (hF : LF p l s m args c D Y cD b L xs A) (h : REL w σ τ) (hP : va_P D vwCl (CWl Y cD E Em qo qd σ τ f fd) H) (hD : va_D A (CWl Y cD E Em qo qd σ τ f fd)) (hS : va_S A s.heap H locs) (hl : lv_has ls 9 (LV b qo qd t E Em)) (hj : 6 * t + 6 ≤ L) (hc : cells + 2 ≤ 601024) (hs : slots + 14 ≤ 7293034)
    (kk : ∀ (w : AW) (σ τ : Sta) (f : Nat → Int64) (fd : Nat → UInt64) (H : Heap) (locs : List Loc) (ls : Array Slot), REL w σ τ → va_P D vwCl (CWl Y cD E Em qo qd σ τ f fd) H → va_D A (CWl Y cD E Em qo qd σ τ f fd) → va_S A s.heap H locs → lv_has ls 9 (LV b qo qd t E Em) → W p l e room_1 s m args below meth c H locs (cells + 2) (slots + 14) Q (F0 m 2067 ls [])) : W p l e room_1 s m args below meth c H locs cells slots Q (F0 m 1003 ls []) := by
  obtain ⟨hC, hb, hml, hSW, hA, hKD, hX, hbl, hbA, ht, hL⟩ := id hF
  have hx := hC.1
  have hl : lv_has ls 9 [(0, .ref b), (1, .ref (E 0)), (2, .ref (Em 0)), (3, .ref qo), (4, .ref qd), (5, .int (nI (6 * t)))] := hl
  obtain ⟨o, σ', r, τ', g1, g2, hR, ho⟩ := op_2 (fun e3 => og_takes e3 e3 h (xs (6 * t + 1)) (xs (6 * t + 2)) (xs (6 * t + 3)))
  obtain ⟨k, f2, hw, hk, hv⟩ : ∃ (k : Int32) (f2 : Nat → Int64), ((∃ v : Int32, o = .inl v ∧ k = 0 ∧ f2 = vp_updL f 0 v.toInt64) ∨ (o = .inr eIOB ∧ k = 1 ∧ f = f2) ∨ (o = .inr eIAE ∧ k = 2 ∧ f = f2)) ∧ gI τ' 0 = k ∧ (k = 0 → f2 0 = r.toInt64) := by
    rcases ho with ⟨rfl, h0⟩ | ⟨rfl, h0⟩ | ⟨rfl, h0⟩
    · exact ⟨0, vp_updL f 0 r.toInt64, Or.inl ⟨r, rfl, rfl, rfl⟩, h0, fun _ => if_pos rfl⟩
    · exact ⟨1, f, Or.inr (Or.inl ⟨rfl, rfl, rfl⟩), h0, fun h => absurd h (by decide)⟩
    · exact ⟨2, f, Or.inr (Or.inr (⟨rfl, rfl, rfl⟩)), h0, fun h => absurd h (by decide)⟩
  refine lv_aload_n hx hb dL_law_1003 rfl (lv_at hl 1 rfl) ?_
  refine l_ld (j := 1) hF hS (lv_at hl 0 rfl) (lv_at hl 5 rfl) dL_law_1004 dL_law_1005 dL_law_1007 (by decide) dL_law_1008 dL_law_1009 (by omega) ?_
  refine l_ld (j := 2) hF hS (lv_at hl 0 rfl) (lv_at hl 5 rfl) dL_law_1010 dL_law_1011 dL_law_1013 (by decide) dL_law_1014 dL_law_1015 (by omega) ?_
  refine l_ld (j := 3) hF hS (lv_at hl 0 rfl) (lv_at hl 5 rfl) dL_law_1016 dL_law_1017 dL_law_1019 (by decide) dL_law_1020 dL_law_1021 (by omega) ?_
  refine lv_aload_n hx hb dL_law_1022 rfl (lv_at hl 3 rfl) ?_
  refine n_SW (Rs := ldA cD qd fd :: wd Y Em τ 0 LM0) (As := [.ref (E 0), .int (xs (6 * t + 1)), .int (xs (6 * t + 2)), .int (xs (6 * t + 3)), .ref qo]) (rest := []) hC hb hml hl.1 hSW hP hD hS hA (fun sz => wL_takes ht g1 hw sz) (csL_takes hC ⟨(Nat.le_of_ble_eq_true rfl), (Nat.le_of_ble_eq_true rfl)⟩) rfl rfl (Nat.le_of_ble_eq_true rfl) dL_law_1023 ⟨by show cells + 1 ≤ 601024; omega, by show slots + 6 ≤ 7293034; omega⟩ (fun H locs hP hD hS => ?_)
  have hP := va_P_perm hP (pm_b _ _ _ _)
  have hD := va_D_perm hD (pm_b _ _ _ _)
  refine lv_istore (lv' := [(6, .int k), (0, .ref b), (1, .ref (E 0)), (2, .ref (Em 0)), (3, .ref qo), (4, .ref qd), (5, .int (nI (6 * t)))]) hx hb dL_law_1026 hl (by decide) rfl (fun ls hl => ?_)
  refine lv_aload_n hx hb dL_law_1028 rfl (lv_at hl 3 rfl) ?_
  refine l_ld (j := 1) hF hS (lv_at hl 1 rfl) (lv_at hl 6 rfl) dL_law_1029 dL_law_1030 dL_law_1032 (by decide) dL_law_1033 dL_law_1034 (by omega) ?_
  refine l_ld (j := 2) hF hS (lv_at hl 1 rfl) (lv_at hl 6 rfl) dL_law_1035 dL_law_1036 dL_law_1038 (by decide) dL_law_1039 dL_law_1040 (by omega) ?_
  refine l_ld (j := 3) hF hS (lv_at hl 1 rfl) (lv_at hl 6 rfl) dL_law_1041 dL_law_1042 dL_law_1044 (by decide) dL_law_1045 dL_law_1046 (by omega) ?_
  refine n_VI (Rs := ldA cD qd fd :: loA Y qo f2 :: wd Y E σ' 0 LC) (As := [.int (xs (6 * t + 1)), .int (xs (6 * t + 2)), .int (xs (6 * t + 3))]) (rest := []) hC hb hml hl.1 hSW hP hD hS hA (c_X10_takes lokM0 g2) (cw_L_164 hC rfl rfl ⟨(Nat.le_of_ble_eq_true rfl), (Nat.le_of_ble_eq_true rfl)⟩) (lm_0 []) rfl rfl rfl (Nat.le_of_ble_eq_true rfl) dL_law_1047 ⟨by show cells + 1 + 0 ≤ 601024; omega, by show slots + 6 + 0 ≤ 7293034; omega⟩ (fun H locs hP hD hS => ?_)
  refine lv_istore (lv' := [(7, .int r), (6, .int k), (0, .ref b), (1, .ref (E 0)), (2, .ref (Em 0)), (3, .ref qo), (4, .ref qd), (5, .int (nI (6 * t)))]) hx hb dL_law_1050 hl (by decide) rfl (fun ls hl => ?_)
  refine lv_aload_n hx hb dL_law_1052 rfl (lv_at hl 4 rfl) ?_
  refine n_VI (Rs := ldA cD qd fd :: loA Y qo f2 :: wd Y E σ' 0 LC) (As := []) (rest := []) hC hb hml hl.1 hSW hP hD hS hA (c_X10_thrown lokM0 (show f_X10_thrown τ' = some (gI τ' 0, τ') from rfl)) (cw_L_111 hC rfl rfl ⟨(Nat.le_of_ble_eq_true rfl), (Nat.le_of_ble_eq_true rfl)⟩) (lm_0 []) rfl rfl rfl (Nat.le_of_ble_eq_true rfl) dL_law_1053 ⟨by show cells + 1 + 0 ≤ 601024; omega, by show slots + 6 + 0 ≤ 7293034; omega⟩ (fun H locs hP hD hS => ?_)
  refine lv_iload hx hb dL_law_1056 (lv_at hl 1 rfl) ?_
  refine lv_icmp_eq (tgt := 1063) hx hb dL_law_1058 (by decide) (fun c1 => ?_) (fun c1 => absurd hk c1)
  refine lv_iload hx hb dL_law_1063 (lv_at hl 1 rfl) ?_
  have fin : W p l e room_1 s m args below meth c H locs (cells + 1 + 0 + 0) (slots + 6 + 0 + 0) Q (F0 m 1080 ls []) := by
    refine lv_goto (tgt := 2067) hx hb dL_law_1080 (by decide) ?_
    refine W.widen (k := cells + 2) (n := slots + 14) (by omega) (by omega) ?_
    exact kk w σ' τ' f2 fd H locs ls hR (va_P_perm hP (pm_b _ _ _ _).symm) (va_D_perm hD (pm_b _ _ _ _).symm) hS (lv_sub hl [2, 3, 4, 5, 6, 7] rfl)
  refine lv_if_ne (tgt := 1080) hx hb dL_law_1065 (by decide) (fun _ => fin) (fun c2 => ?_)
  refine lv_aload_n hx hb dL_law_1068 rfl (lv_at hl 5 rfl) ?_
  refine lv_iconst (v := 0) hx hb dL_law_1069 (by decide) ?_
  refine va_lald hx hb hC.2.2.2.1 hP 1 1 rfl rfl vin0 dL_law_1070 ?_
  refine lv_iload hx hb dL_law_1071 (lv_at hl 0 rfl) ?_
  refine lv_i2l (v := r.toInt64) hx hb dL_law_1073 rfl ?_
  refine W.lcmp hx hb dL_law_1074 ?_
  refine lv_if_eq (tgt := 1080) hx hb dL_law_1075 (by decide) (fun _ => fin) (fun c3 => absurd ?_ c3)
  show lg_cmp (f2 0) r.toInt64 = 0
  rw [hv c2]
  exact lgc _

set_option maxHeartbeats 4000000 in
set_option maxRecDepth 100000 in
theorem law_15 {p : Program} {l : Launch} {e : Env} {s : State} {m : MethodId} {args : Array Value} {below : List Frame} {meth : Method} {c : Code} {H : Heap} {locs : List Loc} {cells slots : Nat} {Q : State → Prop} {D : va_G} {Y : CYs} {cD : ClassId} {b L : Nat} {xs : Nat → Int32} {A : Nat → Prop} {ls : Array Slot} {E Em : Nat → Nat} {qo qd t : Nat} {w : AW} {σ τ : Sta} {f : Nat → Int64} {fd : Nat → UInt64} (hF : LF p l s m args c D Y cD b L xs A) (h : REL w σ τ) (hP : va_P D vwCl (CWl Y cD E Em qo qd σ τ f fd) H) (hD : va_D A (CWl Y cD E Em qo qd σ τ f fd)) (hS : va_S A s.heap H locs) (hl : lv_has ls 9 (LV b qo qd t E Em)) (hj : 6 * t + 6 ≤ L) (hc : cells + 2 ≤ 601024) (hs : slots + 14 ≤ 7293034)
    (kk : ∀ (w : AW) (σ τ : Sta) (f : Nat → Int64) (fd : Nat → UInt64) (H : Heap) (locs : List Loc) (ls : Array Slot), REL w σ τ → va_P D vwCl (CWl Y cD E Em qo qd σ τ f fd) H → va_D A (CWl Y cD E Em qo qd σ τ f fd) → va_S A s.heap H locs → lv_has ls 9 (LV b qo qd t E Em) → W p l e room_1 s m args below meth c H locs (cells + 2) (slots + 14) Q (F0 m 2067 ls [])) : W p l e room_1 s m args below meth c H locs cells slots Q (F0 m 1083 ls []) := by
  obtain ⟨hC, hb, hml, hSW, hA, hKD, hX, hbl, hbA, ht, hL⟩ := id hF
  have hx := hC.1
  have hl : lv_has ls 9 [(0, .ref b), (1, .ref (E 0)), (2, .ref (Em 0)), (3, .ref qo), (4, .ref qd), (5, .int (nI (6 * t)))] := hl
  obtain ⟨o, σ', r, τ', g1, g2, hR, ho⟩ := op_2 (fun e3 => og_worth e3 e3 h (xs (6 * t + 1)) (xs (6 * t + 2)) (xs (6 * t + 3)))
  obtain ⟨k, f2, hw, hk, hv⟩ : ∃ (k : Int32) (f2 : Nat → Int64), ((∃ v : Int64, o = .inl v ∧ k = 0 ∧ f2 = vp_updL f 0 v) ∨ (o = .inr eIOB ∧ k = 1 ∧ f = f2) ∨ (o = .inr eIAE ∧ k = 2 ∧ f = f2)) ∧ gI τ' 0 = k ∧ (k = 0 → f2 0 = r) := by
    rcases ho with ⟨rfl, h0⟩ | ⟨rfl, h0⟩ | ⟨rfl, h0⟩
    · exact ⟨0, vp_updL f 0 r, Or.inl ⟨r, rfl, rfl, rfl⟩, h0, fun _ => if_pos rfl⟩
    · exact ⟨1, f, Or.inr (Or.inl ⟨rfl, rfl, rfl⟩), h0, fun h => absurd h (by decide)⟩
    · exact ⟨2, f, Or.inr (Or.inr (⟨rfl, rfl, rfl⟩)), h0, fun h => absurd h (by decide)⟩
  refine lv_aload_n hx hb dL_law_1083 rfl (lv_at hl 1 rfl) ?_
  refine l_ld (j := 1) hF hS (lv_at hl 0 rfl) (lv_at hl 5 rfl) dL_law_1084 dL_law_1085 dL_law_1087 (by decide) dL_law_1088 dL_law_1089 (by omega) ?_
  refine l_ld (j := 2) hF hS (lv_at hl 0 rfl) (lv_at hl 5 rfl) dL_law_1090 dL_law_1091 dL_law_1093 (by decide) dL_law_1094 dL_law_1095 (by omega) ?_
  refine l_ld (j := 3) hF hS (lv_at hl 0 rfl) (lv_at hl 5 rfl) dL_law_1096 dL_law_1097 dL_law_1099 (by decide) dL_law_1100 dL_law_1101 (by omega) ?_
  refine lv_aload_n hx hb dL_law_1102 rfl (lv_at hl 3 rfl) ?_
  refine n_SW (Rs := ldA cD qd fd :: wd Y Em τ 0 LM0) (As := [.ref (E 0), .int (xs (6 * t + 1)), .int (xs (6 * t + 2)), .int (xs (6 * t + 3)), .ref qo]) (rest := []) hC hb hml hl.1 hSW hP hD hS hA (fun sz => wL_worth ht g1 hw sz) (csL_worth hC ⟨(Nat.le_of_ble_eq_true rfl), (Nat.le_of_ble_eq_true rfl)⟩) rfl rfl (Nat.le_of_ble_eq_true rfl) dL_law_1103 ⟨by show cells + 1 ≤ 601024; omega, by show slots + 6 ≤ 7293034; omega⟩ (fun H locs hP hD hS => ?_)
  have hP := va_P_perm hP (pm_b _ _ _ _)
  have hD := va_D_perm hD (pm_b _ _ _ _)
  refine lv_istore (lv' := [(6, .int k), (0, .ref b), (1, .ref (E 0)), (2, .ref (Em 0)), (3, .ref qo), (4, .ref qd), (5, .int (nI (6 * t)))]) hx hb dL_law_1106 hl (by decide) rfl (fun ls hl => ?_)
  refine lv_aload_n hx hb dL_law_1108 rfl (lv_at hl 3 rfl) ?_
  refine l_ld (j := 1) hF hS (lv_at hl 1 rfl) (lv_at hl 6 rfl) dL_law_1109 dL_law_1110 dL_law_1112 (by decide) dL_law_1113 dL_law_1114 (by omega) ?_
  refine l_ld (j := 2) hF hS (lv_at hl 1 rfl) (lv_at hl 6 rfl) dL_law_1115 dL_law_1116 dL_law_1118 (by decide) dL_law_1119 dL_law_1120 (by omega) ?_
  refine l_ld (j := 3) hF hS (lv_at hl 1 rfl) (lv_at hl 6 rfl) dL_law_1121 dL_law_1122 dL_law_1124 (by decide) dL_law_1125 dL_law_1126 (by omega) ?_
  refine n_VL (Rs := ldA cD qd fd :: loA Y qo f2 :: wd Y E σ' 0 LC) (As := [.int (xs (6 * t + 1)), .int (xs (6 * t + 2)), .int (xs (6 * t + 3))]) (rest := []) hC hb hml hl.1 hSW hP hD hS hA (c_X10_worth lokM0 g2) (cw_L_167 hC rfl rfl ⟨(Nat.le_of_ble_eq_true rfl), (Nat.le_of_ble_eq_true rfl)⟩) (lm_0 []) rfl rfl rfl (Nat.le_of_ble_eq_true rfl) dL_law_1127 ⟨by show cells + 1 + 0 ≤ 601024; omega, by show slots + 6 + 0 ≤ 7293034; omega⟩ (fun H locs hP hD hS => ?_)
  refine lv_lstore (lv' := [(7, .long r), (6, .int k), (0, .ref b), (1, .ref (E 0)), (2, .ref (Em 0)), (3, .ref qo), (4, .ref qd), (5, .int (nI (6 * t)))]) hx hb dL_law_1130 hl (by decide) rfl (fun ls hl => ?_)
  refine lv_aload_n hx hb dL_law_1132 rfl (lv_at hl 4 rfl) ?_
  refine n_VI (Rs := ldA cD qd fd :: loA Y qo f2 :: wd Y E σ' 0 LC) (As := []) (rest := []) hC hb hml hl.1 hSW hP hD hS hA (c_X10_thrown lokM0 (show f_X10_thrown τ' = some (gI τ' 0, τ') from rfl)) (cw_L_111 hC rfl rfl ⟨(Nat.le_of_ble_eq_true rfl), (Nat.le_of_ble_eq_true rfl)⟩) (lm_0 []) rfl rfl rfl (Nat.le_of_ble_eq_true rfl) dL_law_1133 ⟨by show cells + 1 + 0 ≤ 601024; omega, by show slots + 6 + 0 ≤ 7293034; omega⟩ (fun H locs hP hD hS => ?_)
  refine lv_iload hx hb dL_law_1136 (lv_at hl 1 rfl) ?_
  refine lv_icmp_eq (tgt := 1143) hx hb dL_law_1138 (by decide) (fun c1 => ?_) (fun c1 => absurd hk c1)
  refine lv_iload hx hb dL_law_1143 (lv_at hl 1 rfl) ?_
  have fin : W p l e room_1 s m args below meth c H locs (cells + 1 + 0 + 0) (slots + 6 + 0 + 0) Q (F0 m 1159 ls []) := by
    refine lv_goto (tgt := 2067) hx hb dL_law_1159 (by decide) ?_
    refine W.widen (k := cells + 2) (n := slots + 14) (by omega) (by omega) ?_
    exact kk w σ' τ' f2 fd H locs ls hR (va_P_perm hP (pm_b _ _ _ _).symm) (va_D_perm hD (pm_b _ _ _ _).symm) hS (lv_sub hl [2, 3, 4, 5, 6, 7] rfl)
  refine lv_if_ne (tgt := 1159) hx hb dL_law_1145 (by decide) (fun _ => fin) (fun c2 => ?_)
  refine lv_aload_n hx hb dL_law_1148 rfl (lv_at hl 5 rfl) ?_
  refine lv_iconst (v := 0) hx hb dL_law_1149 (by decide) ?_
  refine va_lald hx hb hC.2.2.2.1 hP 1 1 rfl rfl vin0 dL_law_1150 ?_
  refine lv_lload hx hb dL_law_1151 (lv_at hl 0 rfl) ?_
  refine W.lcmp hx hb dL_law_1153 ?_
  refine lv_if_eq (tgt := 1159) hx hb dL_law_1154 (by decide) (fun _ => fin) (fun c3 => absurd ?_ c3)
  show lg_cmp (f2 0) r = 0
  rw [hv c2]
  exact lgc _

set_option maxHeartbeats 4000000 in
set_option maxRecDepth 100000 in
theorem law_16 {p : Program} {l : Launch} {e : Env} {s : State} {m : MethodId} {args : Array Value} {below : List Frame} {meth : Method} {c : Code} {H : Heap} {locs : List Loc} {cells slots : Nat} {Q : State → Prop} {D : va_G} {Y : CYs} {cD : ClassId} {b L : Nat} {xs : Nat → Int32} {A : Nat → Prop} {ls : Array Slot} {E Em : Nat → Nat} {qo qd t : Nat} {w : AW} {σ τ : Sta} {f : Nat → Int64} {fd : Nat → UInt64} (hF : LF p l s m args c D Y cD b L xs A) (h : REL w σ τ) (hP : va_P D vwCl (CWl Y cD E Em qo qd σ τ f fd) H) (hD : va_D A (CWl Y cD E Em qo qd σ τ f fd)) (hS : va_S A s.heap H locs) (hl : lv_has ls 9 (LV b qo qd t E Em)) (hj : 6 * t + 6 ≤ L) (hc : cells + 2 ≤ 601024) (hs : slots + 14 ≤ 7293034)
    (kk : ∀ (w : AW) (σ τ : Sta) (f : Nat → Int64) (fd : Nat → UInt64) (H : Heap) (locs : List Loc) (ls : Array Slot), REL w σ τ → va_P D vwCl (CWl Y cD E Em qo qd σ τ f fd) H → va_D A (CWl Y cD E Em qo qd σ τ f fd) → va_S A s.heap H locs → lv_has ls 9 (LV b qo qd t E Em) → W p l e room_1 s m args below meth c H locs (cells + 2) (slots + 14) Q (F0 m 2067 ls [])) : W p l e room_1 s m args below meth c H locs cells slots Q (F0 m 1162 ls []) := by
  obtain ⟨hC, hb, hml, hSW, hA, hKD, hX, hbl, hbA, ht, hL⟩ := id hF
  have hx := hC.1
  have hl : lv_has ls 9 [(0, .ref b), (1, .ref (E 0)), (2, .ref (Em 0)), (3, .ref qo), (4, .ref qd), (5, .int (nI (6 * t)))] := hl
  obtain ⟨o, σ', r, τ', g1, g2, hR, ho⟩ := op_1 (fun e2 e3 => og_brings e2 e3 h (xs (6 * t + 1)) (xs (6 * t + 2)))
  obtain ⟨k, f2, hw, hk, hv⟩ : ∃ (k : Int32) (f2 : Nat → Int64), ((∃ v : Int64, o = .inl v ∧ k = 0 ∧ f2 = vp_updL f 0 v) ∨ (o = .inr eIOB ∧ k = 1 ∧ f = f2)) ∧ gI τ' 0 = k ∧ (k = 0 → f2 0 = r) := by
    rcases ho with ⟨rfl, h0⟩ | ⟨rfl, h0⟩
    · exact ⟨0, vp_updL f 0 r, Or.inl ⟨r, rfl, rfl, rfl⟩, h0, fun _ => if_pos rfl⟩
    · exact ⟨1, f, Or.inr (⟨rfl, rfl, rfl⟩), h0, fun h => absurd h (by decide)⟩
  refine lv_aload_n hx hb dL_law_1162 rfl (lv_at hl 1 rfl) ?_
  refine l_ld (j := 1) hF hS (lv_at hl 0 rfl) (lv_at hl 5 rfl) dL_law_1163 dL_law_1164 dL_law_1166 (by decide) dL_law_1167 dL_law_1168 (by omega) ?_
  refine l_ld (j := 2) hF hS (lv_at hl 0 rfl) (lv_at hl 5 rfl) dL_law_1169 dL_law_1170 dL_law_1172 (by decide) dL_law_1173 dL_law_1174 (by omega) ?_
  refine lv_aload_n hx hb dL_law_1175 rfl (lv_at hl 3 rfl) ?_
  refine n_SW (Rs := ldA cD qd fd :: wd Y Em τ 0 LM0) (As := [.ref (E 0), .int (xs (6 * t + 1)), .int (xs (6 * t + 2)), .ref qo]) (rest := []) hC hb hml hl.1 hSW hP hD hS hA (fun sz => wL_brings ht g1 hw sz) (csL_brings hC ⟨(Nat.le_of_ble_eq_true rfl), (Nat.le_of_ble_eq_true rfl)⟩) rfl rfl (Nat.le_of_ble_eq_true rfl) dL_law_1176 ⟨by show cells + 1 ≤ 601024; omega, by show slots + 6 ≤ 7293034; omega⟩ (fun H locs hP hD hS => ?_)
  have hP := va_P_perm hP (pm_b _ _ _ _)
  have hD := va_D_perm hD (pm_b _ _ _ _)
  refine lv_istore (lv' := [(6, .int k), (0, .ref b), (1, .ref (E 0)), (2, .ref (Em 0)), (3, .ref qo), (4, .ref qd), (5, .int (nI (6 * t)))]) hx hb dL_law_1179 hl (by decide) rfl (fun ls hl => ?_)
  refine lv_aload_n hx hb dL_law_1181 rfl (lv_at hl 3 rfl) ?_
  refine l_ld (j := 1) hF hS (lv_at hl 1 rfl) (lv_at hl 6 rfl) dL_law_1182 dL_law_1183 dL_law_1185 (by decide) dL_law_1186 dL_law_1187 (by omega) ?_
  refine l_ld (j := 2) hF hS (lv_at hl 1 rfl) (lv_at hl 6 rfl) dL_law_1188 dL_law_1189 dL_law_1191 (by decide) dL_law_1192 dL_law_1193 (by omega) ?_
  refine n_VL (Rs := ldA cD qd fd :: loA Y qo f2 :: wd Y E σ' 0 LC) (As := [.int (xs (6 * t + 1)), .int (xs (6 * t + 2))]) (rest := []) hC hb hml hl.1 hSW hP hD hS hA (c_X10_brings lokM0 g2) (cw_L_170 hC rfl rfl ⟨(Nat.le_of_ble_eq_true rfl), (Nat.le_of_ble_eq_true rfl)⟩) (lm_0 []) rfl rfl rfl (Nat.le_of_ble_eq_true rfl) dL_law_1194 ⟨by show cells + 1 + 0 ≤ 601024; omega, by show slots + 6 + 0 ≤ 7293034; omega⟩ (fun H locs hP hD hS => ?_)
  refine lv_lstore (lv' := [(7, .long r), (6, .int k), (0, .ref b), (1, .ref (E 0)), (2, .ref (Em 0)), (3, .ref qo), (4, .ref qd), (5, .int (nI (6 * t)))]) hx hb dL_law_1197 hl (by decide) rfl (fun ls hl => ?_)
  refine lv_aload_n hx hb dL_law_1199 rfl (lv_at hl 4 rfl) ?_
  refine n_VI (Rs := ldA cD qd fd :: loA Y qo f2 :: wd Y E σ' 0 LC) (As := []) (rest := []) hC hb hml hl.1 hSW hP hD hS hA (c_X10_thrown lokM0 (show f_X10_thrown τ' = some (gI τ' 0, τ') from rfl)) (cw_L_111 hC rfl rfl ⟨(Nat.le_of_ble_eq_true rfl), (Nat.le_of_ble_eq_true rfl)⟩) (lm_0 []) rfl rfl rfl (Nat.le_of_ble_eq_true rfl) dL_law_1200 ⟨by show cells + 1 + 0 ≤ 601024; omega, by show slots + 6 + 0 ≤ 7293034; omega⟩ (fun H locs hP hD hS => ?_)
  refine lv_iload hx hb dL_law_1203 (lv_at hl 1 rfl) ?_
  refine lv_icmp_eq (tgt := 1210) hx hb dL_law_1205 (by decide) (fun c1 => ?_) (fun c1 => absurd hk c1)
  refine lv_iload hx hb dL_law_1210 (lv_at hl 1 rfl) ?_
  have fin : W p l e room_1 s m args below meth c H locs (cells + 1 + 0 + 0) (slots + 6 + 0 + 0) Q (F0 m 1226 ls []) := by
    refine lv_goto (tgt := 2067) hx hb dL_law_1226 (by decide) ?_
    refine W.widen (k := cells + 2) (n := slots + 14) (by omega) (by omega) ?_
    exact kk w σ' τ' f2 fd H locs ls hR (va_P_perm hP (pm_b _ _ _ _).symm) (va_D_perm hD (pm_b _ _ _ _).symm) hS (lv_sub hl [2, 3, 4, 5, 6, 7] rfl)
  refine lv_if_ne (tgt := 1226) hx hb dL_law_1212 (by decide) (fun _ => fin) (fun c2 => ?_)
  refine lv_aload_n hx hb dL_law_1215 rfl (lv_at hl 5 rfl) ?_
  refine lv_iconst (v := 0) hx hb dL_law_1216 (by decide) ?_
  refine va_lald hx hb hC.2.2.2.1 hP 1 1 rfl rfl vin0 dL_law_1217 ?_
  refine lv_lload hx hb dL_law_1218 (lv_at hl 0 rfl) ?_
  refine W.lcmp hx hb dL_law_1220 ?_
  refine lv_if_eq (tgt := 1226) hx hb dL_law_1221 (by decide) (fun _ => fin) (fun c3 => absurd ?_ c3)
  show lg_cmp (f2 0) r = 0
  rw [hv c2]
  exact lgc _

set_option maxHeartbeats 4000000 in
set_option maxRecDepth 100000 in
theorem law_17 {p : Program} {l : Launch} {e : Env} {s : State} {m : MethodId} {args : Array Value} {below : List Frame} {meth : Method} {c : Code} {H : Heap} {locs : List Loc} {cells slots : Nat} {Q : State → Prop} {D : va_G} {Y : CYs} {cD : ClassId} {b L : Nat} {xs : Nat → Int32} {A : Nat → Prop} {ls : Array Slot} {E Em : Nat → Nat} {qo qd t : Nat} {w : AW} {σ τ : Sta} {f : Nat → Int64} {fd : Nat → UInt64} (hF : LF p l s m args c D Y cD b L xs A) (h : REL w σ τ) (hP : va_P D vwCl (CWl Y cD E Em qo qd σ τ f fd) H) (hD : va_D A (CWl Y cD E Em qo qd σ τ f fd)) (hS : va_S A s.heap H locs) (hl : lv_has ls 9 (LV b qo qd t E Em)) (hj : 6 * t + 6 ≤ L) (hc : cells + 2 ≤ 601024) (hs : slots + 14 ≤ 7293034)
    (kk : ∀ (w : AW) (σ τ : Sta) (f : Nat → Int64) (fd : Nat → UInt64) (H : Heap) (locs : List Loc) (ls : Array Slot), REL w σ τ → va_P D vwCl (CWl Y cD E Em qo qd σ τ f fd) H → va_D A (CWl Y cD E Em qo qd σ τ f fd) → va_S A s.heap H locs → lv_has ls 9 (LV b qo qd t E Em) → W p l e room_1 s m args below meth c H locs (cells + 2) (slots + 14) Q (F0 m 2067 ls [])) : W p l e room_1 s m args below meth c H locs cells slots Q (F0 m 1229 ls []) := by
  obtain ⟨hC, hb, hml, hSW, hA, hKD, hX, hbl, hbA, ht, hL⟩ := id hF
  have hx := hC.1
  have hl : lv_has ls 9 [(0, .ref b), (1, .ref (E 0)), (2, .ref (Em 0)), (3, .ref qo), (4, .ref qd), (5, .int (nI (6 * t)))] := hl
  obtain ⟨o, σ', r, τ', g1, g2, hR, ho⟩ := op_1 (fun e2 e3 => og_chance e2 e3 h (xs (6 * t + 1)))
  obtain ⟨k, f2, hw, hk, hv⟩ : ∃ (k : Int32) (f2 : Nat → Int64), ((∃ v : Int32, o = .inl v ∧ k = 0 ∧ f2 = vp_updL f 0 v.toInt64) ∨ (o = .inr eIOB ∧ k = 1 ∧ f = f2)) ∧ gI τ' 0 = k ∧ (k = 0 → f2 0 = r.toInt64) := by
    rcases ho with ⟨rfl, h0⟩ | ⟨rfl, h0⟩
    · exact ⟨0, vp_updL f 0 r.toInt64, Or.inl ⟨r, rfl, rfl, rfl⟩, h0, fun _ => if_pos rfl⟩
    · exact ⟨1, f, Or.inr (⟨rfl, rfl, rfl⟩), h0, fun h => absurd h (by decide)⟩
  refine lv_aload_n hx hb dL_law_1229 rfl (lv_at hl 1 rfl) ?_
  refine l_ld (j := 1) hF hS (lv_at hl 0 rfl) (lv_at hl 5 rfl) dL_law_1230 dL_law_1231 dL_law_1233 (by decide) dL_law_1234 dL_law_1235 (by omega) ?_
  refine lv_aload_n hx hb dL_law_1236 rfl (lv_at hl 3 rfl) ?_
  refine n_SW (Rs := ldA cD qd fd :: wd Y Em τ 0 LM0) (As := [.ref (E 0), .int (xs (6 * t + 1)), .ref qo]) (rest := []) hC hb hml hl.1 hSW hP hD hS hA (fun sz => wL_chance ht g1 hw sz) (csL_chance hC ⟨(Nat.le_of_ble_eq_true rfl), (Nat.le_of_ble_eq_true rfl)⟩) rfl rfl (Nat.le_of_ble_eq_true rfl) dL_law_1237 ⟨by show cells + 1 ≤ 601024; omega, by show slots + 6 ≤ 7293034; omega⟩ (fun H locs hP hD hS => ?_)
  have hP := va_P_perm hP (pm_b _ _ _ _)
  have hD := va_D_perm hD (pm_b _ _ _ _)
  refine lv_istore (lv' := [(6, .int k), (0, .ref b), (1, .ref (E 0)), (2, .ref (Em 0)), (3, .ref qo), (4, .ref qd), (5, .int (nI (6 * t)))]) hx hb dL_law_1240 hl (by decide) rfl (fun ls hl => ?_)
  refine lv_aload_n hx hb dL_law_1242 rfl (lv_at hl 3 rfl) ?_
  refine l_ld (j := 1) hF hS (lv_at hl 1 rfl) (lv_at hl 6 rfl) dL_law_1243 dL_law_1244 dL_law_1246 (by decide) dL_law_1247 dL_law_1248 (by omega) ?_
  refine n_VI (Rs := ldA cD qd fd :: loA Y qo f2 :: wd Y E σ' 0 LC) (As := [.int (xs (6 * t + 1))]) (rest := []) hC hb hml hl.1 hSW hP hD hS hA (c_X10_chance lokM0 g2) (cw_L_173 hC rfl rfl ⟨(Nat.le_of_ble_eq_true rfl), (Nat.le_of_ble_eq_true rfl)⟩) (lm_0 []) rfl rfl rfl (Nat.le_of_ble_eq_true rfl) dL_law_1249 ⟨by show cells + 1 + 0 ≤ 601024; omega, by show slots + 6 + 0 ≤ 7293034; omega⟩ (fun H locs hP hD hS => ?_)
  refine lv_istore (lv' := [(7, .int r), (6, .int k), (0, .ref b), (1, .ref (E 0)), (2, .ref (Em 0)), (3, .ref qo), (4, .ref qd), (5, .int (nI (6 * t)))]) hx hb dL_law_1252 hl (by decide) rfl (fun ls hl => ?_)
  refine lv_aload_n hx hb dL_law_1254 rfl (lv_at hl 4 rfl) ?_
  refine n_VI (Rs := ldA cD qd fd :: loA Y qo f2 :: wd Y E σ' 0 LC) (As := []) (rest := []) hC hb hml hl.1 hSW hP hD hS hA (c_X10_thrown lokM0 (show f_X10_thrown τ' = some (gI τ' 0, τ') from rfl)) (cw_L_111 hC rfl rfl ⟨(Nat.le_of_ble_eq_true rfl), (Nat.le_of_ble_eq_true rfl)⟩) (lm_0 []) rfl rfl rfl (Nat.le_of_ble_eq_true rfl) dL_law_1255 ⟨by show cells + 1 + 0 ≤ 601024; omega, by show slots + 6 + 0 ≤ 7293034; omega⟩ (fun H locs hP hD hS => ?_)
  refine lv_iload hx hb dL_law_1258 (lv_at hl 1 rfl) ?_
  refine lv_icmp_eq (tgt := 1265) hx hb dL_law_1260 (by decide) (fun c1 => ?_) (fun c1 => absurd hk c1)
  refine lv_iload hx hb dL_law_1265 (lv_at hl 1 rfl) ?_
  have fin : W p l e room_1 s m args below meth c H locs (cells + 1 + 0 + 0) (slots + 6 + 0 + 0) Q (F0 m 1282 ls []) := by
    refine lv_goto (tgt := 2067) hx hb dL_law_1282 (by decide) ?_
    refine W.widen (k := cells + 2) (n := slots + 14) (by omega) (by omega) ?_
    exact kk w σ' τ' f2 fd H locs ls hR (va_P_perm hP (pm_b _ _ _ _).symm) (va_D_perm hD (pm_b _ _ _ _).symm) hS (lv_sub hl [2, 3, 4, 5, 6, 7] rfl)
  refine lv_if_ne (tgt := 1282) hx hb dL_law_1267 (by decide) (fun _ => fin) (fun c2 => ?_)
  refine lv_aload_n hx hb dL_law_1270 rfl (lv_at hl 5 rfl) ?_
  refine lv_iconst (v := 0) hx hb dL_law_1271 (by decide) ?_
  refine va_lald hx hb hC.2.2.2.1 hP 1 1 rfl rfl vin0 dL_law_1272 ?_
  refine lv_iload hx hb dL_law_1273 (lv_at hl 0 rfl) ?_
  refine lv_i2l (v := r.toInt64) hx hb dL_law_1275 rfl ?_
  refine W.lcmp hx hb dL_law_1276 ?_
  refine lv_if_eq (tgt := 1282) hx hb dL_law_1277 (by decide) (fun _ => fin) (fun c3 => absurd ?_ c3)
  show lg_cmp (f2 0) r.toInt64 = 0
  rw [hv c2]
  exact lgc _

set_option maxHeartbeats 4000000 in
set_option maxRecDepth 100000 in
theorem law_18 {p : Program} {l : Launch} {e : Env} {s : State} {m : MethodId} {args : Array Value} {below : List Frame} {meth : Method} {c : Code} {H : Heap} {locs : List Loc} {cells slots : Nat} {Q : State → Prop} {D : va_G} {Y : CYs} {cD : ClassId} {b L : Nat} {xs : Nat → Int32} {A : Nat → Prop} {ls : Array Slot} {E Em : Nat → Nat} {qo qd t : Nat} {w : AW} {σ τ : Sta} {f : Nat → Int64} {fd : Nat → UInt64} (hF : LF p l s m args c D Y cD b L xs A) (h : REL w σ τ) (hP : va_P D vwCl (CWl Y cD E Em qo qd σ τ f fd) H) (hD : va_D A (CWl Y cD E Em qo qd σ τ f fd)) (hS : va_S A s.heap H locs) (hl : lv_has ls 9 (LV b qo qd t E Em)) (hj : 6 * t + 6 ≤ L) (hc : cells + 2 ≤ 601024) (hs : slots + 14 ≤ 7293034)
    (kk : ∀ (w : AW) (σ τ : Sta) (f : Nat → Int64) (fd : Nat → UInt64) (H : Heap) (locs : List Loc) (ls : Array Slot), REL w σ τ → va_P D vwCl (CWl Y cD E Em qo qd σ τ f fd) H → va_D A (CWl Y cD E Em qo qd σ τ f fd) → va_S A s.heap H locs → lv_has ls 9 (LV b qo qd t E Em) → W p l e room_1 s m args below meth c H locs (cells + 2) (slots + 14) Q (F0 m 2067 ls [])) : W p l e room_1 s m args below meth c H locs cells slots Q (F0 m 1285 ls []) := by
  obtain ⟨hC, hb, hml, hSW, hA, hKD, hX, hbl, hbA, ht, hL⟩ := id hF
  have hx := hC.1
  have hl : lv_has ls 9 [(0, .ref b), (1, .ref (E 0)), (2, .ref (Em 0)), (3, .ref qo), (4, .ref qd), (5, .int (nI (6 * t)))] := hl
  obtain ⟨o, σ', r, τ', g1, g2, hR, ho⟩ := op_1 (fun e2 e3 => og_isWorthHaving e2 e3 h (xs (6 * t + 1)))
  obtain ⟨k, f2, hw, hk, hv⟩ : ∃ (k : Int32) (f2 : Nat → Int64), ((∃ v : Int32, o = .inl v ∧ k = 0 ∧ f2 = vp_updL f 0 (if v = 0 then 0 else 1)) ∨ (o = .inr eIOB ∧ k = 1 ∧ f = f2)) ∧ gI τ' 0 = k ∧ (k = 0 → f2 0 = (if r = 0 then 0 else 1)) := by
    rcases ho with ⟨rfl, h0⟩ | ⟨rfl, h0⟩
    · exact ⟨0, vp_updL f 0 (if r = 0 then 0 else 1), Or.inl ⟨r, rfl, rfl, rfl⟩, h0, fun _ => if_pos rfl⟩
    · exact ⟨1, f, Or.inr (⟨rfl, rfl, rfl⟩), h0, fun h => absurd h (by decide)⟩
  refine lv_aload_n hx hb dL_law_1285 rfl (lv_at hl 1 rfl) ?_
  refine l_ld (j := 1) hF hS (lv_at hl 0 rfl) (lv_at hl 5 rfl) dL_law_1286 dL_law_1287 dL_law_1289 (by decide) dL_law_1290 dL_law_1291 (by omega) ?_
  refine lv_aload_n hx hb dL_law_1292 rfl (lv_at hl 3 rfl) ?_
  refine n_SW (Rs := ldA cD qd fd :: wd Y Em τ 0 LM0) (As := [.ref (E 0), .int (xs (6 * t + 1)), .ref qo]) (rest := []) hC hb hml hl.1 hSW hP hD hS hA (fun sz => wL_isWorthHaving ht g1 hw sz) (csL_isWorthHaving hC ⟨(Nat.le_of_ble_eq_true rfl), (Nat.le_of_ble_eq_true rfl)⟩) rfl rfl (Nat.le_of_ble_eq_true rfl) dL_law_1293 ⟨by show cells + 1 ≤ 601024; omega, by show slots + 6 ≤ 7293034; omega⟩ (fun H locs hP hD hS => ?_)
  have hP := va_P_perm hP (pm_b _ _ _ _)
  have hD := va_D_perm hD (pm_b _ _ _ _)
  refine lv_istore (lv' := [(6, .int k), (0, .ref b), (1, .ref (E 0)), (2, .ref (Em 0)), (3, .ref qo), (4, .ref qd), (5, .int (nI (6 * t)))]) hx hb dL_law_1296 hl (by decide) rfl (fun ls hl => ?_)
  refine lv_aload_n hx hb dL_law_1298 rfl (lv_at hl 3 rfl) ?_
  refine l_ld (j := 1) hF hS (lv_at hl 1 rfl) (lv_at hl 6 rfl) dL_law_1299 dL_law_1300 dL_law_1302 (by decide) dL_law_1303 dL_law_1304 (by omega) ?_
  refine n_VI (Rs := ldA cD qd fd :: loA Y qo f2 :: wd Y E σ' 0 LC) (As := [.int (xs (6 * t + 1))]) (rest := []) hC hb hml hl.1 hSW hP hD hS hA (c_X10_isWorthHaving lokM0 g2) (cw_L_176 hC rfl rfl ⟨(Nat.le_of_ble_eq_true rfl), (Nat.le_of_ble_eq_true rfl)⟩) (lm_0 []) rfl rfl rfl (Nat.le_of_ble_eq_true rfl) dL_law_1305 ⟨by show cells + 1 + 0 ≤ 601024; omega, by show slots + 6 + 0 ≤ 7293034; omega⟩ (fun H locs hP hD hS => ?_)
  refine lv_istore (lv' := [(7, .int r), (6, .int k), (0, .ref b), (1, .ref (E 0)), (2, .ref (Em 0)), (3, .ref qo), (4, .ref qd), (5, .int (nI (6 * t)))]) hx hb dL_law_1308 hl (by decide) rfl (fun ls hl => ?_)
  refine lv_aload_n hx hb dL_law_1310 rfl (lv_at hl 4 rfl) ?_
  refine n_VI (Rs := ldA cD qd fd :: loA Y qo f2 :: wd Y E σ' 0 LC) (As := []) (rest := []) hC hb hml hl.1 hSW hP hD hS hA (c_X10_thrown lokM0 (show f_X10_thrown τ' = some (gI τ' 0, τ') from rfl)) (cw_L_111 hC rfl rfl ⟨(Nat.le_of_ble_eq_true rfl), (Nat.le_of_ble_eq_true rfl)⟩) (lm_0 []) rfl rfl rfl (Nat.le_of_ble_eq_true rfl) dL_law_1311 ⟨by show cells + 1 + 0 ≤ 601024; omega, by show slots + 6 + 0 ≤ 7293034; omega⟩ (fun H locs hP hD hS => ?_)
  refine lv_iload hx hb dL_law_1314 (lv_at hl 1 rfl) ?_
  refine lv_icmp_eq (tgt := 1321) hx hb dL_law_1316 (by decide) (fun c1 => ?_) (fun c1 => absurd hk c1)
  refine lv_iload hx hb dL_law_1321 (lv_at hl 1 rfl) ?_
  have fin : W p l e room_1 s m args below meth c H locs (cells + 1 + 0 + 0) (slots + 6 + 0 + 0) Q (F0 m 1345 ls []) := by
    refine lv_goto (tgt := 2067) hx hb dL_law_1345 (by decide) ?_
    refine W.widen (k := cells + 2) (n := slots + 14) (by omega) (by omega) ?_
    exact kk w σ' τ' f2 fd H locs ls hR (va_P_perm hP (pm_b _ _ _ _).symm) (va_D_perm hD (pm_b _ _ _ _).symm) hS (lv_sub hl [2, 3, 4, 5, 6, 7] rfl)
  refine lv_if_ne (tgt := 1345) hx hb dL_law_1323 (by decide) (fun _ => fin) (fun c2 => ?_)
  refine lv_aload_n hx hb dL_law_1326 rfl (lv_at hl 5 rfl) ?_
  refine lv_iconst (v := 0) hx hb dL_law_1327 (by decide) ?_
  refine va_lald hx hb hC.2.2.2.1 hP 1 1 rfl rfl vin0 dL_law_1328 ?_
  refine lv_iload hx hb dL_law_1329 (lv_at hl 0 rfl) ?_
  refine l_boolL (p1 := 1338) (p2 := 1339) hx hb dL_law_1331 (by decide) dL_law_1334 dL_law_1335 (by decide) dL_law_1338 rfl ?_
  refine W.lcmp hx hb dL_law_1339 ?_
  refine lv_if_eq (tgt := 1345) hx hb dL_law_1340 (by decide) (fun _ => fin) (fun c3 => absurd ?_ c3)
  show lg_cmp (f2 0) (if r = 0 then 0 else 1) = 0
  rw [hv c2]
  exact lgc _

set_option maxHeartbeats 4000000 in
set_option maxRecDepth 100000 in
theorem law_19 {p : Program} {l : Launch} {e : Env} {s : State} {m : MethodId} {args : Array Value} {below : List Frame} {meth : Method} {c : Code} {H : Heap} {locs : List Loc} {cells slots : Nat} {Q : State → Prop} {D : va_G} {Y : CYs} {cD : ClassId} {b L : Nat} {xs : Nat → Int32} {A : Nat → Prop} {ls : Array Slot} {E Em : Nat → Nat} {qo qd t : Nat} {w : AW} {σ τ : Sta} {f : Nat → Int64} {fd : Nat → UInt64} (hF : LF p l s m args c D Y cD b L xs A) (h : REL w σ τ) (hP : va_P D vwCl (CWl Y cD E Em qo qd σ τ f fd) H) (hD : va_D A (CWl Y cD E Em qo qd σ τ f fd)) (hS : va_S A s.heap H locs) (hl : lv_has ls 9 (LV b qo qd t E Em)) (hj : 6 * t + 6 ≤ L) (hc : cells + 2 ≤ 601024) (hs : slots + 14 ≤ 7293034)
    (kk : ∀ (w : AW) (σ τ : Sta) (f : Nat → Int64) (fd : Nat → UInt64) (H : Heap) (locs : List Loc) (ls : Array Slot), REL w σ τ → va_P D vwCl (CWl Y cD E Em qo qd σ τ f fd) H → va_D A (CWl Y cD E Em qo qd σ τ f fd) → va_S A s.heap H locs → lv_has ls 9 (LV b qo qd t E Em) → W p l e room_1 s m args below meth c H locs (cells + 2) (slots + 14) Q (F0 m 2067 ls [])) : W p l e room_1 s m args below meth c H locs cells slots Q (F0 m 1348 ls []) := by
  obtain ⟨hC, hb, hml, hSW, hA, hKD, hX, hbl, hbA, ht, hL⟩ := id hF
  have hx := hC.1
  have hl : lv_has ls 9 [(0, .ref b), (1, .ref (E 0)), (2, .ref (Em 0)), (3, .ref qo), (4, .ref qd), (5, .int (nI (6 * t)))] := hl
  obtain ⟨o, σ', r, τ', g1, g2, hR, ho⟩ := op_3 (op_sweep h (xs (6 * t + 1)) (xs (6 * t + 2)) (xs (6 * t + 3)) (xs (6 * t + 4)))
  obtain ⟨k, f2, hw, hk, hv⟩ : ∃ (k : Int32) (f2 : Nat → Int64), ((∃ v : Int32, o = .inl v ∧ k = 0 ∧ f2 = vp_updL f 0 v.toInt64) ∨ (o = .inr eIOB ∧ k = 1 ∧ f = f2) ∨ (o = .inr eIAE ∧ k = 2 ∧ f = f2) ∨ (o = .inr eISE ∧ k = 3 ∧ f = f2)) ∧ gI τ' 0 = k ∧ (k = 0 → f2 0 = r.toInt64) := by
    rcases ho with ⟨rfl, h0⟩ | ⟨rfl, h0⟩ | ⟨rfl, h0⟩ | ⟨rfl, h0⟩
    · exact ⟨0, vp_updL f 0 r.toInt64, Or.inl ⟨r, rfl, rfl, rfl⟩, h0, fun _ => if_pos rfl⟩
    · exact ⟨1, f, Or.inr (Or.inl ⟨rfl, rfl, rfl⟩), h0, fun h => absurd h (by decide)⟩
    · exact ⟨2, f, Or.inr (Or.inr (Or.inl ⟨rfl, rfl, rfl⟩)), h0, fun h => absurd h (by decide)⟩
    · exact ⟨3, f, Or.inr (Or.inr (Or.inr (⟨rfl, rfl, rfl⟩))), h0, fun h => absurd h (by decide)⟩
  refine lv_aload_n hx hb dL_law_1348 rfl (lv_at hl 1 rfl) ?_
  refine l_ld (j := 1) hF hS (lv_at hl 0 rfl) (lv_at hl 5 rfl) dL_law_1349 dL_law_1350 dL_law_1352 (by decide) dL_law_1353 dL_law_1354 (by omega) ?_
  refine l_ld (j := 2) hF hS (lv_at hl 0 rfl) (lv_at hl 5 rfl) dL_law_1355 dL_law_1356 dL_law_1358 (by decide) dL_law_1359 dL_law_1360 (by omega) ?_
  refine l_ld (j := 3) hF hS (lv_at hl 0 rfl) (lv_at hl 5 rfl) dL_law_1361 dL_law_1362 dL_law_1364 (by decide) dL_law_1365 dL_law_1366 (by omega) ?_
  refine l_ld (j := 4) hF hS (lv_at hl 0 rfl) (lv_at hl 5 rfl) dL_law_1367 dL_law_1368 dL_law_1370 (by decide) dL_law_1371 dL_law_1372 (by omega) ?_
  refine lv_aload_n hx hb dL_law_1373 rfl (lv_at hl 3 rfl) ?_
  refine n_SW (Rs := ldA cD qd fd :: wd Y Em τ 0 LM0) (As := [.ref (E 0), .int (xs (6 * t + 1)), .int (xs (6 * t + 2)), .int (xs (6 * t + 3)), .int (xs (6 * t + 4)), .ref qo]) (rest := []) hC hb hml hl.1 hSW hP hD hS hA (fun sz => wL_sweep ht g1 hw sz) (csL_sweep hC ⟨(Nat.le_of_ble_eq_true rfl), (Nat.le_of_ble_eq_true rfl)⟩) rfl rfl (Nat.le_of_ble_eq_true rfl) dL_law_1374 ⟨by show cells + 1 ≤ 601024; omega, by show slots + 6 ≤ 7293034; omega⟩ (fun H locs hP hD hS => ?_)
  have hP := va_P_perm hP (pm_b _ _ _ _)
  have hD := va_D_perm hD (pm_b _ _ _ _)
  refine lv_istore (lv' := [(6, .int k), (0, .ref b), (1, .ref (E 0)), (2, .ref (Em 0)), (3, .ref qo), (4, .ref qd), (5, .int (nI (6 * t)))]) hx hb dL_law_1377 hl (by decide) rfl (fun ls hl => ?_)
  refine lv_aload_n hx hb dL_law_1379 rfl (lv_at hl 3 rfl) ?_
  refine l_ld (j := 1) hF hS (lv_at hl 1 rfl) (lv_at hl 6 rfl) dL_law_1380 dL_law_1381 dL_law_1383 (by decide) dL_law_1384 dL_law_1385 (by omega) ?_
  refine l_ld (j := 2) hF hS (lv_at hl 1 rfl) (lv_at hl 6 rfl) dL_law_1386 dL_law_1387 dL_law_1389 (by decide) dL_law_1390 dL_law_1391 (by omega) ?_
  refine l_ld (j := 3) hF hS (lv_at hl 1 rfl) (lv_at hl 6 rfl) dL_law_1392 dL_law_1393 dL_law_1395 (by decide) dL_law_1396 dL_law_1397 (by omega) ?_
  refine l_ld (j := 4) hF hS (lv_at hl 1 rfl) (lv_at hl 6 rfl) dL_law_1398 dL_law_1399 dL_law_1401 (by decide) dL_law_1402 dL_law_1403 (by omega) ?_
  refine n_VI (Rs := ldA cD qd fd :: loA Y qo f2 :: wd Y E σ' 0 LC) (As := [.int (xs (6 * t + 1)), .int (xs (6 * t + 2)), .int (xs (6 * t + 3)), .int (xs (6 * t + 4))]) (rest := []) hC hb hml hl.1 hSW hP hD hS hA (c_X10_sweep lokM0 ht g2) (cwV 4 hC.2.1 (gi_V (gw_t (tb8 (List.mem_of_getElem? (i := 82) rfl)) rfl) (gw_t (tb8 (List.mem_of_getElem? (i := 83) rfl)) rfl) (gw_t (tb8 (List.mem_of_getElem? (i := 84) rfl)) rfl) (gw_t (tb1 (List.mem_of_getElem? (i := 10) rfl)) rfl) (gw_t (tb8 (List.mem_of_getElem? (i := 85) rfl)) rfl)) rfl rfl rfl ⟨rfl, by decide +kernel, by decide +kernel, by decide +kernel⟩ ⟨(Nat.le_of_ble_eq_true rfl), (Nat.le_of_ble_eq_true rfl)⟩) (lm_0 []) rfl rfl rfl (Nat.le_of_ble_eq_true rfl) dL_law_1404 ⟨by show cells + 1 + 1 ≤ 601024; omega, by show slots + 6 + 3 ≤ 7293034; omega⟩ (fun H locs hP hD hS => ?_)
  refine lv_istore (lv' := [(7, .int r), (6, .int k), (0, .ref b), (1, .ref (E 0)), (2, .ref (Em 0)), (3, .ref qo), (4, .ref qd), (5, .int (nI (6 * t)))]) hx hb dL_law_1407 hl (by decide) rfl (fun ls hl => ?_)
  refine lv_aload_n hx hb dL_law_1409 rfl (lv_at hl 4 rfl) ?_
  refine n_VI (Rs := ldA cD qd fd :: loA Y qo f2 :: wd Y E σ' 0 LC) (As := []) (rest := []) hC hb hml hl.1 hSW hP hD hS hA (c_X10_thrown lokM0 (show f_X10_thrown τ' = some (gI τ' 0, τ') from rfl)) (cw_L_111 hC rfl rfl ⟨(Nat.le_of_ble_eq_true rfl), (Nat.le_of_ble_eq_true rfl)⟩) (lm_0 []) rfl rfl rfl (Nat.le_of_ble_eq_true rfl) dL_law_1410 ⟨by show cells + 2 + 0 ≤ 601024; omega, by show slots + 9 + 0 ≤ 7293034; omega⟩ (fun H locs hP hD hS => ?_)
  refine lv_iload hx hb dL_law_1413 (lv_at hl 1 rfl) ?_
  refine lv_icmp_eq (tgt := 1420) hx hb dL_law_1415 (by decide) (fun c1 => ?_) (fun c1 => absurd hk c1)
  refine lv_iload hx hb dL_law_1420 (lv_at hl 1 rfl) ?_
  have fin : W p l e room_1 s m args below meth c H locs (cells + 1 + 1 + 0) (slots + 6 + 3 + 0) Q (F0 m 1437 ls []) := by
    refine lv_goto (tgt := 2067) hx hb dL_law_1437 (by decide) ?_
    refine W.widen (k := cells + 2) (n := slots + 14) (by omega) (by omega) ?_
    exact kk w σ' τ' f2 fd H locs ls hR (va_P_perm hP (pm_b _ _ _ _).symm) (va_D_perm hD (pm_b _ _ _ _).symm) hS (lv_sub hl [2, 3, 4, 5, 6, 7] rfl)
  refine lv_if_ne (tgt := 1437) hx hb dL_law_1422 (by decide) (fun _ => fin) (fun c2 => ?_)
  refine lv_aload_n hx hb dL_law_1425 rfl (lv_at hl 5 rfl) ?_
  refine lv_iconst (v := 0) hx hb dL_law_1426 (by decide) ?_
  refine va_lald hx hb hC.2.2.2.1 hP 1 1 rfl rfl vin0 dL_law_1427 ?_
  refine lv_iload hx hb dL_law_1428 (lv_at hl 0 rfl) ?_
  refine lv_i2l (v := r.toInt64) hx hb dL_law_1430 rfl ?_
  refine W.lcmp hx hb dL_law_1431 ?_
  refine lv_if_eq (tgt := 1437) hx hb dL_law_1432 (by decide) (fun _ => fin) (fun c3 => absurd ?_ c3)
  show lg_cmp (f2 0) r.toInt64 = 0
  rw [hv c2]
  exact lgc _

set_option maxHeartbeats 4000000 in
set_option maxRecDepth 100000 in
theorem law_20 {p : Program} {l : Launch} {e : Env} {s : State} {m : MethodId} {args : Array Value} {below : List Frame} {meth : Method} {c : Code} {H : Heap} {locs : List Loc} {cells slots : Nat} {Q : State → Prop} {D : va_G} {Y : CYs} {cD : ClassId} {b L : Nat} {xs : Nat → Int32} {A : Nat → Prop} {ls : Array Slot} {E Em : Nat → Nat} {qo qd t : Nat} {w : AW} {σ τ : Sta} {f : Nat → Int64} {fd : Nat → UInt64} (hF : LF p l s m args c D Y cD b L xs A) (h : REL w σ τ) (hP : va_P D vwCl (CWl Y cD E Em qo qd σ τ f fd) H) (hD : va_D A (CWl Y cD E Em qo qd σ τ f fd)) (hS : va_S A s.heap H locs) (hl : lv_has ls 9 (LV b qo qd t E Em)) (hj : 6 * t + 6 ≤ L) (hc : cells + 2 ≤ 601024) (hs : slots + 14 ≤ 7293034)
    (kk : ∀ (w : AW) (σ τ : Sta) (f : Nat → Int64) (fd : Nat → UInt64) (H : Heap) (locs : List Loc) (ls : Array Slot), REL w σ τ → va_P D vwCl (CWl Y cD E Em qo qd σ τ f fd) H → va_D A (CWl Y cD E Em qo qd σ τ f fd) → va_S A s.heap H locs → lv_has ls 9 (LV b qo qd t E Em) → W p l e room_1 s m args below meth c H locs (cells + 2) (slots + 14) Q (F0 m 2067 ls [])) : W p l e room_1 s m args below meth c H locs cells slots Q (F0 m 1440 ls []) := by
  obtain ⟨hC, hb, hml, hSW, hA, hKD, hX, hbl, hbA, ht, hL⟩ := id hF
  have hx := hC.1
  have hl : lv_has ls 9 [(0, .ref b), (1, .ref (E 0)), (2, .ref (Em 0)), (3, .ref qo), (4, .ref qd), (5, .int (nI (6 * t)))] := hl
  obtain ⟨o, σ', r, τ', g1, g2, hR, ho⟩ := op_2 (fun e3 => og_mix e3 e3 h (xs (6 * t + 1)) (xs (6 * t + 2)) (xs (6 * t + 3)) (xs (6 * t + 4)))
  obtain ⟨k, f2, hw, hk, hv⟩ : ∃ (k : Int32) (f2 : Nat → Int64), ((∃ v : Int64, o = .inl v ∧ k = 0 ∧ f2 = vp_updL f 0 v) ∨ (o = .inr eIOB ∧ k = 1 ∧ f = f2) ∨ (o = .inr eIAE ∧ k = 2 ∧ f = f2)) ∧ gI τ' 0 = k ∧ (k = 0 → f2 0 = r) := by
    rcases ho with ⟨rfl, h0⟩ | ⟨rfl, h0⟩ | ⟨rfl, h0⟩
    · exact ⟨0, vp_updL f 0 r, Or.inl ⟨r, rfl, rfl, rfl⟩, h0, fun _ => if_pos rfl⟩
    · exact ⟨1, f, Or.inr (Or.inl ⟨rfl, rfl, rfl⟩), h0, fun h => absurd h (by decide)⟩
    · exact ⟨2, f, Or.inr (Or.inr (⟨rfl, rfl, rfl⟩)), h0, fun h => absurd h (by decide)⟩
  refine lv_aload_n hx hb dL_law_1440 rfl (lv_at hl 1 rfl) ?_
  refine l_ld (j := 1) hF hS (lv_at hl 0 rfl) (lv_at hl 5 rfl) dL_law_1441 dL_law_1442 dL_law_1444 (by decide) dL_law_1445 dL_law_1446 (by omega) ?_
  refine l_ld (j := 2) hF hS (lv_at hl 0 rfl) (lv_at hl 5 rfl) dL_law_1447 dL_law_1448 dL_law_1450 (by decide) dL_law_1451 dL_law_1452 (by omega) ?_
  refine l_ld (j := 3) hF hS (lv_at hl 0 rfl) (lv_at hl 5 rfl) dL_law_1453 dL_law_1454 dL_law_1456 (by decide) dL_law_1457 dL_law_1458 (by omega) ?_
  refine l_ld (j := 4) hF hS (lv_at hl 0 rfl) (lv_at hl 5 rfl) dL_law_1459 dL_law_1460 dL_law_1462 (by decide) dL_law_1463 dL_law_1464 (by omega) ?_
  refine lv_aload_n hx hb dL_law_1465 rfl (lv_at hl 3 rfl) ?_
  refine n_SW (Rs := ldA cD qd fd :: wd Y Em τ 0 LM0) (As := [.ref (E 0), .int (xs (6 * t + 1)), .int (xs (6 * t + 2)), .int (xs (6 * t + 3)), .int (xs (6 * t + 4)), .ref qo]) (rest := []) hC hb hml hl.1 hSW hP hD hS hA (fun sz => wL_mix ht g1 hw sz) (csL_mix hC ⟨(Nat.le_of_ble_eq_true rfl), (Nat.le_of_ble_eq_true rfl)⟩) rfl rfl (Nat.le_of_ble_eq_true rfl) dL_law_1466 ⟨by show cells + 1 ≤ 601024; omega, by show slots + 6 ≤ 7293034; omega⟩ (fun H locs hP hD hS => ?_)
  have hP := va_P_perm hP (pm_b _ _ _ _)
  have hD := va_D_perm hD (pm_b _ _ _ _)
  refine lv_istore (lv' := [(6, .int k), (0, .ref b), (1, .ref (E 0)), (2, .ref (Em 0)), (3, .ref qo), (4, .ref qd), (5, .int (nI (6 * t)))]) hx hb dL_law_1469 hl (by decide) rfl (fun ls hl => ?_)
  refine lv_aload_n hx hb dL_law_1471 rfl (lv_at hl 3 rfl) ?_
  refine l_ld (j := 1) hF hS (lv_at hl 1 rfl) (lv_at hl 6 rfl) dL_law_1472 dL_law_1473 dL_law_1475 (by decide) dL_law_1476 dL_law_1477 (by omega) ?_
  refine l_ld (j := 2) hF hS (lv_at hl 1 rfl) (lv_at hl 6 rfl) dL_law_1478 dL_law_1479 dL_law_1481 (by decide) dL_law_1482 dL_law_1483 (by omega) ?_
  refine l_ld (j := 3) hF hS (lv_at hl 1 rfl) (lv_at hl 6 rfl) dL_law_1484 dL_law_1485 dL_law_1487 (by decide) dL_law_1488 dL_law_1489 (by omega) ?_
  refine l_ld (j := 4) hF hS (lv_at hl 1 rfl) (lv_at hl 6 rfl) dL_law_1490 dL_law_1491 dL_law_1493 (by decide) dL_law_1494 dL_law_1495 (by omega) ?_
  refine n_VL (Rs := ldA cD qd fd :: loA Y qo f2 :: wd Y E σ' 0 LC) (As := [.int (xs (6 * t + 1)), .int (xs (6 * t + 2)), .int (xs (6 * t + 3)), .int (xs (6 * t + 4))]) (rest := []) hC hb hml hl.1 hSW hP hD hS hA (c_X10_mix lokM0 g2) (cw_L_183 hC rfl rfl ⟨(Nat.le_of_ble_eq_true rfl), (Nat.le_of_ble_eq_true rfl)⟩) (lm_0 []) rfl rfl rfl (Nat.le_of_ble_eq_true rfl) dL_law_1496 ⟨by show cells + 1 + 0 ≤ 601024; omega, by show slots + 6 + 0 ≤ 7293034; omega⟩ (fun H locs hP hD hS => ?_)
  refine lv_lstore (lv' := [(7, .long r), (6, .int k), (0, .ref b), (1, .ref (E 0)), (2, .ref (Em 0)), (3, .ref qo), (4, .ref qd), (5, .int (nI (6 * t)))]) hx hb dL_law_1499 hl (by decide) rfl (fun ls hl => ?_)
  refine lv_aload_n hx hb dL_law_1501 rfl (lv_at hl 4 rfl) ?_
  refine n_VI (Rs := ldA cD qd fd :: loA Y qo f2 :: wd Y E σ' 0 LC) (As := []) (rest := []) hC hb hml hl.1 hSW hP hD hS hA (c_X10_thrown lokM0 (show f_X10_thrown τ' = some (gI τ' 0, τ') from rfl)) (cw_L_111 hC rfl rfl ⟨(Nat.le_of_ble_eq_true rfl), (Nat.le_of_ble_eq_true rfl)⟩) (lm_0 []) rfl rfl rfl (Nat.le_of_ble_eq_true rfl) dL_law_1502 ⟨by show cells + 1 + 0 ≤ 601024; omega, by show slots + 6 + 0 ≤ 7293034; omega⟩ (fun H locs hP hD hS => ?_)
  refine lv_iload hx hb dL_law_1505 (lv_at hl 1 rfl) ?_
  refine lv_icmp_eq (tgt := 1512) hx hb dL_law_1507 (by decide) (fun c1 => ?_) (fun c1 => absurd hk c1)
  refine lv_iload hx hb dL_law_1512 (lv_at hl 1 rfl) ?_
  have fin : W p l e room_1 s m args below meth c H locs (cells + 1 + 0 + 0) (slots + 6 + 0 + 0) Q (F0 m 1528 ls []) := by
    refine lv_goto (tgt := 2067) hx hb dL_law_1528 (by decide) ?_
    refine W.widen (k := cells + 2) (n := slots + 14) (by omega) (by omega) ?_
    exact kk w σ' τ' f2 fd H locs ls hR (va_P_perm hP (pm_b _ _ _ _).symm) (va_D_perm hD (pm_b _ _ _ _).symm) hS (lv_sub hl [2, 3, 4, 5, 6, 7] rfl)
  refine lv_if_ne (tgt := 1528) hx hb dL_law_1514 (by decide) (fun _ => fin) (fun c2 => ?_)
  refine lv_aload_n hx hb dL_law_1517 rfl (lv_at hl 5 rfl) ?_
  refine lv_iconst (v := 0) hx hb dL_law_1518 (by decide) ?_
  refine va_lald hx hb hC.2.2.2.1 hP 1 1 rfl rfl vin0 dL_law_1519 ?_
  refine lv_lload hx hb dL_law_1520 (lv_at hl 0 rfl) ?_
  refine W.lcmp hx hb dL_law_1522 ?_
  refine lv_if_eq (tgt := 1528) hx hb dL_law_1523 (by decide) (fun _ => fin) (fun c3 => absurd ?_ c3)
  show lg_cmp (f2 0) r = 0
  rw [hv c2]
  exact lgc _

set_option maxHeartbeats 4000000 in
set_option maxRecDepth 100000 in
theorem law_21 {p : Program} {l : Launch} {e : Env} {s : State} {m : MethodId} {args : Array Value} {below : List Frame} {meth : Method} {c : Code} {H : Heap} {locs : List Loc} {cells slots : Nat} {Q : State → Prop} {D : va_G} {Y : CYs} {cD : ClassId} {b L : Nat} {xs : Nat → Int32} {A : Nat → Prop} {ls : Array Slot} {E Em : Nat → Nat} {qo qd t : Nat} {w : AW} {σ τ : Sta} {f : Nat → Int64} {fd : Nat → UInt64} (hF : LF p l s m args c D Y cD b L xs A) (h : REL w σ τ) (hP : va_P D vwCl (CWl Y cD E Em qo qd σ τ f fd) H) (hD : va_D A (CWl Y cD E Em qo qd σ τ f fd)) (hS : va_S A s.heap H locs) (hl : lv_has ls 9 (LV b qo qd t E Em)) (hj : 6 * t + 6 ≤ L) (hc : cells + 2 ≤ 601024) (hs : slots + 14 ≤ 7293034)
    (kk : ∀ (w : AW) (σ τ : Sta) (f : Nat → Int64) (fd : Nat → UInt64) (H : Heap) (locs : List Loc) (ls : Array Slot), REL w σ τ → va_P D vwCl (CWl Y cD E Em qo qd σ τ f fd) H → va_D A (CWl Y cD E Em qo qd σ τ f fd) → va_S A s.heap H locs → lv_has ls 9 (LV b qo qd t E Em) → W p l e room_1 s m args below meth c H locs (cells + 2) (slots + 14) Q (F0 m 2067 ls [])) : W p l e room_1 s m args below meth c H locs cells slots Q (F0 m 1531 ls []) := by
  obtain ⟨hC, hb, hml, hSW, hA, hKD, hX, hbl, hbA, ht, hL⟩ := id hF
  have hx := hC.1
  have hl : lv_has ls 9 [(0, .ref b), (1, .ref (E 0)), (2, .ref (Em 0)), (3, .ref qo), (4, .ref qd), (5, .int (nI (6 * t)))] := hl
  obtain ⟨o, σ', r, τ', g1, g2, hR, ho⟩ := op_1 (fun e2 e3 => og_bestMix e2 e3 h (xs (6 * t + 1)) (xs (6 * t + 2)) (((xs (6 * t + 3)).toInt64 <<< ((32 : Int32).toInt64 &&& 63)) ||| ((xs (6 * t + 4)).toInt64 &&& 4294967295)))
  obtain ⟨k, f2, hw, hk, hv⟩ : ∃ (k : Int32) (f2 : Nat → Int64), ((∃ v : Int32, o = .inl v ∧ k = 0 ∧ f2 = vp_updL f 0 v.toInt64) ∨ (o = .inr eIOB ∧ k = 1 ∧ f = f2)) ∧ gI τ' 0 = k ∧ (k = 0 → f2 0 = r.toInt64) := by
    rcases ho with ⟨rfl, h0⟩ | ⟨rfl, h0⟩
    · exact ⟨0, vp_updL f 0 r.toInt64, Or.inl ⟨r, rfl, rfl, rfl⟩, h0, fun _ => if_pos rfl⟩
    · exact ⟨1, f, Or.inr (⟨rfl, rfl, rfl⟩), h0, fun h => absurd h (by decide)⟩
  refine lv_aload_n hx hb dL_law_1531 rfl (lv_at hl 1 rfl) ?_
  refine l_ld (j := 1) hF hS (lv_at hl 0 rfl) (lv_at hl 5 rfl) dL_law_1532 dL_law_1533 dL_law_1535 (by decide) dL_law_1536 dL_law_1537 (by omega) ?_
  refine l_ld (j := 2) hF hS (lv_at hl 0 rfl) (lv_at hl 5 rfl) dL_law_1538 dL_law_1539 dL_law_1541 (by decide) dL_law_1542 dL_law_1543 (by omega) ?_
  refine l_ld (j := 3) hF hS (lv_at hl 0 rfl) (lv_at hl 5 rfl) dL_law_1544 dL_law_1545 dL_law_1547 (by decide) dL_law_1548 dL_law_1549 (by omega) ?_
  refine lv_i2l (v := (xs (6 * t + 3)).toInt64) hx hb dL_law_1550 rfl ?_
  refine lv_bipush (v := 32) hx hb dL_law_1551 (by decide) ?_
  refine lv_lshl (v := (xs (6 * t + 3)).toInt64 <<< ((32 : Int32).toInt64 &&& 63)) hx hb dL_law_1553 rfl ?_
  refine l_ld (j := 4) hF hS (lv_at hl 0 rfl) (lv_at hl 5 rfl) dL_law_1554 dL_law_1555 dL_law_1557 (by decide) dL_law_1558 dL_law_1559 (by omega) ?_
  refine lv_i2l (v := (xs (6 * t + 4)).toInt64) hx hb dL_law_1560 rfl ?_
  refine lv_ldc2 (v := 4294967295) hx hb hC.2.2.1 (hC.2.1 (Cond.constantLong RL 184 4294967295) (gw_t (tb8 (List.mem_of_getElem? (i := 141) rfl)) rfl)) dL_law_1561 ?_
  refine lv_land hx hb dL_law_1564 ?_
  refine lv_lor hx hb dL_law_1565 ?_
  refine lv_aload_n hx hb dL_law_1566 rfl (lv_at hl 3 rfl) ?_
  refine n_SW (Rs := ldA cD qd fd :: wd Y Em τ 0 LM0) (As := [.ref (E 0), .int (xs (6 * t + 1)), .int (xs (6 * t + 2)), .long (((xs (6 * t + 3)).toInt64 <<< ((32 : Int32).toInt64 &&& 63)) ||| ((xs (6 * t + 4)).toInt64 &&& 4294967295)), .ref qo]) (rest := []) hC hb hml hl.1 hSW hP hD hS hA (fun sz => wL_bestMix ht g1 hw sz) (csL_bestMix hC ⟨(Nat.le_of_ble_eq_true rfl), (Nat.le_of_ble_eq_true rfl)⟩) rfl rfl (Nat.le_of_ble_eq_true rfl) dL_law_1567 ⟨by show cells + 1 ≤ 601024; omega, by show slots + 6 ≤ 7293034; omega⟩ (fun H locs hP hD hS => ?_)
  have hP := va_P_perm hP (pm_b _ _ _ _)
  have hD := va_D_perm hD (pm_b _ _ _ _)
  refine lv_istore (lv' := [(6, .int k), (0, .ref b), (1, .ref (E 0)), (2, .ref (Em 0)), (3, .ref qo), (4, .ref qd), (5, .int (nI (6 * t)))]) hx hb dL_law_1570 hl (by decide) rfl (fun ls hl => ?_)
  refine lv_aload_n hx hb dL_law_1572 rfl (lv_at hl 3 rfl) ?_
  refine l_ld (j := 1) hF hS (lv_at hl 1 rfl) (lv_at hl 6 rfl) dL_law_1573 dL_law_1574 dL_law_1576 (by decide) dL_law_1577 dL_law_1578 (by omega) ?_
  refine l_ld (j := 2) hF hS (lv_at hl 1 rfl) (lv_at hl 6 rfl) dL_law_1579 dL_law_1580 dL_law_1582 (by decide) dL_law_1583 dL_law_1584 (by omega) ?_
  refine l_ld (j := 3) hF hS (lv_at hl 1 rfl) (lv_at hl 6 rfl) dL_law_1585 dL_law_1586 dL_law_1588 (by decide) dL_law_1589 dL_law_1590 (by omega) ?_
  refine lv_i2l (v := (xs (6 * t + 3)).toInt64) hx hb dL_law_1591 rfl ?_
  refine lv_bipush (v := 32) hx hb dL_law_1592 (by decide) ?_
  refine lv_lshl (v := (xs (6 * t + 3)).toInt64 <<< ((32 : Int32).toInt64 &&& 63)) hx hb dL_law_1594 rfl ?_
  refine l_ld (j := 4) hF hS (lv_at hl 1 rfl) (lv_at hl 6 rfl) dL_law_1595 dL_law_1596 dL_law_1598 (by decide) dL_law_1599 dL_law_1600 (by omega) ?_
  refine lv_i2l (v := (xs (6 * t + 4)).toInt64) hx hb dL_law_1601 rfl ?_
  refine lv_ldc2 (v := 4294967295) hx hb hC.2.2.1 (hC.2.1 (Cond.constantLong RL 184 4294967295) (gw_t (tb8 (List.mem_of_getElem? (i := 141) rfl)) rfl)) dL_law_1602 ?_
  refine lv_land hx hb dL_law_1605 ?_
  refine lv_lor hx hb dL_law_1606 ?_
  refine n_VI (Rs := ldA cD qd fd :: loA Y qo f2 :: wd Y E σ' 0 LC) (As := [.int (xs (6 * t + 1)), .int (xs (6 * t + 2)), .long (((xs (6 * t + 3)).toInt64 <<< ((32 : Int32).toInt64 &&& 63)) ||| ((xs (6 * t + 4)).toInt64 &&& 4294967295))]) (rest := []) hC hb hml hl.1 hSW hP hD hS hA (c_X10_bestMix lokM0 g2) (cw_L_189 hC rfl rfl ⟨(Nat.le_of_ble_eq_true rfl), (Nat.le_of_ble_eq_true rfl)⟩) (lm_0 []) rfl rfl rfl (Nat.le_of_ble_eq_true rfl) dL_law_1607 ⟨by show cells + 1 + 0 ≤ 601024; omega, by show slots + 6 + 0 ≤ 7293034; omega⟩ (fun H locs hP hD hS => ?_)
  refine lv_istore (lv' := [(7, .int r), (6, .int k), (0, .ref b), (1, .ref (E 0)), (2, .ref (Em 0)), (3, .ref qo), (4, .ref qd), (5, .int (nI (6 * t)))]) hx hb dL_law_1610 hl (by decide) rfl (fun ls hl => ?_)
  refine lv_aload_n hx hb dL_law_1612 rfl (lv_at hl 4 rfl) ?_
  refine n_VI (Rs := ldA cD qd fd :: loA Y qo f2 :: wd Y E σ' 0 LC) (As := []) (rest := []) hC hb hml hl.1 hSW hP hD hS hA (c_X10_thrown lokM0 (show f_X10_thrown τ' = some (gI τ' 0, τ') from rfl)) (cw_L_111 hC rfl rfl ⟨(Nat.le_of_ble_eq_true rfl), (Nat.le_of_ble_eq_true rfl)⟩) (lm_0 []) rfl rfl rfl (Nat.le_of_ble_eq_true rfl) dL_law_1613 ⟨by show cells + 1 + 0 ≤ 601024; omega, by show slots + 6 + 0 ≤ 7293034; omega⟩ (fun H locs hP hD hS => ?_)
  refine lv_iload hx hb dL_law_1616 (lv_at hl 1 rfl) ?_
  refine lv_icmp_eq (tgt := 1623) hx hb dL_law_1618 (by decide) (fun c1 => ?_) (fun c1 => absurd hk c1)
  refine lv_iload hx hb dL_law_1623 (lv_at hl 1 rfl) ?_
  have fin : W p l e room_1 s m args below meth c H locs (cells + 1 + 0 + 0) (slots + 6 + 0 + 0) Q (F0 m 1640 ls []) := by
    refine lv_goto (tgt := 2067) hx hb dL_law_1640 (by decide) ?_
    refine W.widen (k := cells + 2) (n := slots + 14) (by omega) (by omega) ?_
    exact kk w σ' τ' f2 fd H locs ls hR (va_P_perm hP (pm_b _ _ _ _).symm) (va_D_perm hD (pm_b _ _ _ _).symm) hS (lv_sub hl [2, 3, 4, 5, 6, 7] rfl)
  refine lv_if_ne (tgt := 1640) hx hb dL_law_1625 (by decide) (fun _ => fin) (fun c2 => ?_)
  refine lv_aload_n hx hb dL_law_1628 rfl (lv_at hl 5 rfl) ?_
  refine lv_iconst (v := 0) hx hb dL_law_1629 (by decide) ?_
  refine va_lald hx hb hC.2.2.2.1 hP 1 1 rfl rfl vin0 dL_law_1630 ?_
  refine lv_iload hx hb dL_law_1631 (lv_at hl 0 rfl) ?_
  refine lv_i2l (v := r.toInt64) hx hb dL_law_1633 rfl ?_
  refine W.lcmp hx hb dL_law_1634 ?_
  refine lv_if_eq (tgt := 1640) hx hb dL_law_1635 (by decide) (fun _ => fin) (fun c3 => absurd ?_ c3)
  show lg_cmp (f2 0) r.toInt64 = 0
  rw [hv c2]
  exact lgc _

set_option maxHeartbeats 4000000 in
set_option maxRecDepth 100000 in
theorem law_22 {p : Program} {l : Launch} {e : Env} {s : State} {m : MethodId} {args : Array Value} {below : List Frame} {meth : Method} {c : Code} {H : Heap} {locs : List Loc} {cells slots : Nat} {Q : State → Prop} {D : va_G} {Y : CYs} {cD : ClassId} {b L : Nat} {xs : Nat → Int32} {A : Nat → Prop} {ls : Array Slot} {E Em : Nat → Nat} {qo qd t : Nat} {w : AW} {σ τ : Sta} {f : Nat → Int64} {fd : Nat → UInt64} (hF : LF p l s m args c D Y cD b L xs A) (h : REL w σ τ) (hP : va_P D vwCl (CWl Y cD E Em qo qd σ τ f fd) H) (hD : va_D A (CWl Y cD E Em qo qd σ τ f fd)) (hS : va_S A s.heap H locs) (hl : lv_has ls 9 (LV b qo qd t E Em)) (hj : 6 * t + 6 ≤ L) (hc : cells + 2 ≤ 601024) (hs : slots + 14 ≤ 7293034)
    (kk : ∀ (w : AW) (σ τ : Sta) (f : Nat → Int64) (fd : Nat → UInt64) (H : Heap) (locs : List Loc) (ls : Array Slot), REL w σ τ → va_P D vwCl (CWl Y cD E Em qo qd σ τ f fd) H → va_D A (CWl Y cD E Em qo qd σ τ f fd) → va_S A s.heap H locs → lv_has ls 9 (LV b qo qd t E Em) → W p l e room_1 s m args below meth c H locs (cells + 2) (slots + 14) Q (F0 m 2067 ls [])) : W p l e room_1 s m args below meth c H locs cells slots Q (F0 m 1643 ls []) := by
  obtain ⟨hC, hb, hml, hSW, hA, hKD, hX, hbl, hbA, ht, hL⟩ := id hF
  have hx := hC.1
  have hl : lv_has ls 9 [(0, .ref b), (1, .ref (E 0)), (2, .ref (Em 0)), (3, .ref qo), (4, .ref qd), (5, .int (nI (6 * t)))] := hl
  obtain ⟨o, σ', r, τ', g1, g2, hR, ho⟩ := op_1 (fun e2 e3 => og_drop e2 e3 h (xs (6 * t + 1)))
  obtain ⟨k, f2, hw, hk, hv⟩ : ∃ (k : Int32) (f2 : Nat → Int64), ((∃ v : Int32, o = .inl v ∧ k = 0 ∧ f2 = vp_updL f 0 v.toInt64) ∨ (o = .inr eIOB ∧ k = 1 ∧ f = f2)) ∧ gI τ' 0 = k ∧ (k = 0 → f2 0 = r.toInt64) := by
    rcases ho with ⟨rfl, h0⟩ | ⟨rfl, h0⟩
    · exact ⟨0, vp_updL f 0 r.toInt64, Or.inl ⟨r, rfl, rfl, rfl⟩, h0, fun _ => if_pos rfl⟩
    · exact ⟨1, f, Or.inr (⟨rfl, rfl, rfl⟩), h0, fun h => absurd h (by decide)⟩
  refine lv_aload_n hx hb dL_law_1643 rfl (lv_at hl 1 rfl) ?_
  refine l_ld (j := 1) hF hS (lv_at hl 0 rfl) (lv_at hl 5 rfl) dL_law_1644 dL_law_1645 dL_law_1647 (by decide) dL_law_1648 dL_law_1649 (by omega) ?_
  refine lv_aload_n hx hb dL_law_1650 rfl (lv_at hl 3 rfl) ?_
  refine n_SW (Rs := ldA cD qd fd :: wd Y Em τ 0 LM0) (As := [.ref (E 0), .int (xs (6 * t + 1)), .ref qo]) (rest := []) hC hb hml hl.1 hSW hP hD hS hA (fun sz => wL_drop ht g1 hw sz) (csL_drop hC ⟨(Nat.le_of_ble_eq_true rfl), (Nat.le_of_ble_eq_true rfl)⟩) rfl rfl (Nat.le_of_ble_eq_true rfl) dL_law_1651 ⟨by show cells + 1 ≤ 601024; omega, by show slots + 6 ≤ 7293034; omega⟩ (fun H locs hP hD hS => ?_)
  have hP := va_P_perm hP (pm_b _ _ _ _)
  have hD := va_D_perm hD (pm_b _ _ _ _)
  refine lv_istore (lv' := [(6, .int k), (0, .ref b), (1, .ref (E 0)), (2, .ref (Em 0)), (3, .ref qo), (4, .ref qd), (5, .int (nI (6 * t)))]) hx hb dL_law_1654 hl (by decide) rfl (fun ls hl => ?_)
  refine lv_aload_n hx hb dL_law_1656 rfl (lv_at hl 3 rfl) ?_
  refine l_ld (j := 1) hF hS (lv_at hl 1 rfl) (lv_at hl 6 rfl) dL_law_1657 dL_law_1658 dL_law_1660 (by decide) dL_law_1661 dL_law_1662 (by omega) ?_
  refine n_VI (Rs := ldA cD qd fd :: loA Y qo f2 :: wd Y E σ' 0 LC) (As := [.int (xs (6 * t + 1))]) (rest := []) hC hb hml hl.1 hSW hP hD hS hA (c_X10_drop lokM0 g2) (cw_L_192 hC rfl rfl ⟨(Nat.le_of_ble_eq_true rfl), (Nat.le_of_ble_eq_true rfl)⟩) (lm_0 []) rfl rfl rfl (Nat.le_of_ble_eq_true rfl) dL_law_1663 ⟨by show cells + 1 + 0 ≤ 601024; omega, by show slots + 6 + 0 ≤ 7293034; omega⟩ (fun H locs hP hD hS => ?_)
  refine lv_istore (lv' := [(7, .int r), (6, .int k), (0, .ref b), (1, .ref (E 0)), (2, .ref (Em 0)), (3, .ref qo), (4, .ref qd), (5, .int (nI (6 * t)))]) hx hb dL_law_1666 hl (by decide) rfl (fun ls hl => ?_)
  refine lv_aload_n hx hb dL_law_1668 rfl (lv_at hl 4 rfl) ?_
  refine n_VI (Rs := ldA cD qd fd :: loA Y qo f2 :: wd Y E σ' 0 LC) (As := []) (rest := []) hC hb hml hl.1 hSW hP hD hS hA (c_X10_thrown lokM0 (show f_X10_thrown τ' = some (gI τ' 0, τ') from rfl)) (cw_L_111 hC rfl rfl ⟨(Nat.le_of_ble_eq_true rfl), (Nat.le_of_ble_eq_true rfl)⟩) (lm_0 []) rfl rfl rfl (Nat.le_of_ble_eq_true rfl) dL_law_1669 ⟨by show cells + 1 + 0 ≤ 601024; omega, by show slots + 6 + 0 ≤ 7293034; omega⟩ (fun H locs hP hD hS => ?_)
  refine lv_iload hx hb dL_law_1672 (lv_at hl 1 rfl) ?_
  refine lv_icmp_eq (tgt := 1679) hx hb dL_law_1674 (by decide) (fun c1 => ?_) (fun c1 => absurd hk c1)
  refine lv_iload hx hb dL_law_1679 (lv_at hl 1 rfl) ?_
  have fin : W p l e room_1 s m args below meth c H locs (cells + 1 + 0 + 0) (slots + 6 + 0 + 0) Q (F0 m 1696 ls []) := by
    refine lv_goto (tgt := 2067) hx hb dL_law_1696 (by decide) ?_
    refine W.widen (k := cells + 2) (n := slots + 14) (by omega) (by omega) ?_
    exact kk w σ' τ' f2 fd H locs ls hR (va_P_perm hP (pm_b _ _ _ _).symm) (va_D_perm hD (pm_b _ _ _ _).symm) hS (lv_sub hl [2, 3, 4, 5, 6, 7] rfl)
  refine lv_if_ne (tgt := 1696) hx hb dL_law_1681 (by decide) (fun _ => fin) (fun c2 => ?_)
  refine lv_aload_n hx hb dL_law_1684 rfl (lv_at hl 5 rfl) ?_
  refine lv_iconst (v := 0) hx hb dL_law_1685 (by decide) ?_
  refine va_lald hx hb hC.2.2.2.1 hP 1 1 rfl rfl vin0 dL_law_1686 ?_
  refine lv_iload hx hb dL_law_1687 (lv_at hl 0 rfl) ?_
  refine lv_i2l (v := r.toInt64) hx hb dL_law_1689 rfl ?_
  refine W.lcmp hx hb dL_law_1690 ?_
  refine lv_if_eq (tgt := 1696) hx hb dL_law_1691 (by decide) (fun _ => fin) (fun c3 => absurd ?_ c3)
  show lg_cmp (f2 0) r.toInt64 = 0
  rw [hv c2]
  exact lgc _

set_option maxHeartbeats 4000000 in
set_option maxRecDepth 100000 in
theorem law_23 {p : Program} {l : Launch} {e : Env} {s : State} {m : MethodId} {args : Array Value} {below : List Frame} {meth : Method} {c : Code} {H : Heap} {locs : List Loc} {cells slots : Nat} {Q : State → Prop} {D : va_G} {Y : CYs} {cD : ClassId} {b L : Nat} {xs : Nat → Int32} {A : Nat → Prop} {ls : Array Slot} {E Em : Nat → Nat} {qo qd t : Nat} {w : AW} {σ τ : Sta} {f : Nat → Int64} {fd : Nat → UInt64} (hF : LF p l s m args c D Y cD b L xs A) (h : REL w σ τ) (hP : va_P D vwCl (CWl Y cD E Em qo qd σ τ f fd) H) (hD : va_D A (CWl Y cD E Em qo qd σ τ f fd)) (hS : va_S A s.heap H locs) (hl : lv_has ls 9 (LV b qo qd t E Em)) (hj : 6 * t + 6 ≤ L) (hc : cells + 2 ≤ 601024) (hs : slots + 14 ≤ 7293034)
    (kk : ∀ (w : AW) (σ τ : Sta) (f : Nat → Int64) (fd : Nat → UInt64) (H : Heap) (locs : List Loc) (ls : Array Slot), REL w σ τ → va_P D vwCl (CWl Y cD E Em qo qd σ τ f fd) H → va_D A (CWl Y cD E Em qo qd σ τ f fd) → va_S A s.heap H locs → lv_has ls 9 (LV b qo qd t E Em) → W p l e room_1 s m args below meth c H locs (cells + 2) (slots + 14) Q (F0 m 2067 ls [])) : W p l e room_1 s m args below meth c H locs cells slots Q (F0 m 1699 ls []) := by
  obtain ⟨hC, hb, hml, hSW, hA, hKD, hX, hbl, hbA, ht, hL⟩ := id hF
  have hx := hC.1
  have hl : lv_has ls 9 [(0, .ref b), (1, .ref (E 0)), (2, .ref (Em 0)), (3, .ref qo), (4, .ref qd), (5, .int (nI (6 * t)))] := hl
  obtain ⟨o, σ', r, τ', g1, g2, hR, ho⟩ := op_2 (fun e3 => og_reach e3 e3 h (xs (6 * t + 1)) (if xs (6 * t + 2) = 0 then 0 else 1))
  obtain ⟨k, f2, hw, hk, hv⟩ : ∃ (k : Int32) (f2 : Nat → Int64), ((∃ v : Int32, o = .inl v ∧ k = 0 ∧ f2 = vp_updL f 0 v.toInt64) ∨ (o = .inr eIAE ∧ k = 1 ∧ f = f2) ∨ (o = .inr eISE ∧ k = 2 ∧ f = f2)) ∧ gI τ' 0 = k ∧ (k = 0 → f2 0 = r.toInt64) := by
    rcases ho with ⟨rfl, h0⟩ | ⟨rfl, h0⟩ | ⟨rfl, h0⟩
    · exact ⟨0, vp_updL f 0 r.toInt64, Or.inl ⟨r, rfl, rfl, rfl⟩, h0, fun _ => if_pos rfl⟩
    · exact ⟨1, f, Or.inr (Or.inl ⟨rfl, rfl, rfl⟩), h0, fun h => absurd h (by decide)⟩
    · exact ⟨2, f, Or.inr (Or.inr (⟨rfl, rfl, rfl⟩)), h0, fun h => absurd h (by decide)⟩
  refine lv_aload_n hx hb dL_law_1699 rfl (lv_at hl 1 rfl) ?_
  refine l_ld (j := 1) hF hS (lv_at hl 0 rfl) (lv_at hl 5 rfl) dL_law_1700 dL_law_1701 dL_law_1703 (by decide) dL_law_1704 dL_law_1705 (by omega) ?_
  refine l_ld (j := 2) hF hS (lv_at hl 0 rfl) (lv_at hl 5 rfl) dL_law_1706 dL_law_1707 dL_law_1709 (by decide) dL_law_1710 dL_law_1711 (by omega) ?_
  refine l_bool (p1 := 1719) (p2 := 1720) hx hb dL_law_1712 (by decide) dL_law_1715 dL_law_1716 (by decide) dL_law_1719 rfl ?_
  refine lv_aload_n hx hb dL_law_1720 rfl (lv_at hl 3 rfl) ?_
  refine n_SW (Rs := ldA cD qd fd :: wd Y Em τ 0 LM0) (As := [.ref (E 0), .int (xs (6 * t + 1)), .int (if xs (6 * t + 2) = 0 then 0 else 1), .ref qo]) (rest := []) hC hb hml hl.1 hSW hP hD hS hA (fun sz => wL_reach ht g1 hw sz) (csL_reach hC ⟨(Nat.le_of_ble_eq_true rfl), (Nat.le_of_ble_eq_true rfl)⟩) rfl rfl (Nat.le_of_ble_eq_true rfl) dL_law_1721 ⟨by show cells + 1 ≤ 601024; omega, by show slots + 6 ≤ 7293034; omega⟩ (fun H locs hP hD hS => ?_)
  have hP := va_P_perm hP (pm_b _ _ _ _)
  have hD := va_D_perm hD (pm_b _ _ _ _)
  refine lv_istore (lv' := [(6, .int k), (0, .ref b), (1, .ref (E 0)), (2, .ref (Em 0)), (3, .ref qo), (4, .ref qd), (5, .int (nI (6 * t)))]) hx hb dL_law_1724 hl (by decide) rfl (fun ls hl => ?_)
  refine lv_aload_n hx hb dL_law_1726 rfl (lv_at hl 3 rfl) ?_
  refine l_ld (j := 1) hF hS (lv_at hl 1 rfl) (lv_at hl 6 rfl) dL_law_1727 dL_law_1728 dL_law_1730 (by decide) dL_law_1731 dL_law_1732 (by omega) ?_
  refine l_ld (j := 2) hF hS (lv_at hl 1 rfl) (lv_at hl 6 rfl) dL_law_1733 dL_law_1734 dL_law_1736 (by decide) dL_law_1737 dL_law_1738 (by omega) ?_
  refine l_bool (p1 := 1746) (p2 := 1747) hx hb dL_law_1739 (by decide) dL_law_1742 dL_law_1743 (by decide) dL_law_1746 rfl ?_
  refine n_VI (Rs := ldA cD qd fd :: loA Y qo f2 :: wd Y E σ' 0 LC) (As := [.int (xs (6 * t + 1)), .int (if xs (6 * t + 2) = 0 then 0 else 1)]) (rest := []) hC hb hml hl.1 hSW hP hD hS hA (c_X10_reach lokM0 g2) (cw_L_196 hC rfl rfl ⟨(Nat.le_of_ble_eq_true rfl), (Nat.le_of_ble_eq_true rfl)⟩) (lm_0 []) rfl rfl rfl (Nat.le_of_ble_eq_true rfl) dL_law_1747 ⟨by show cells + 1 + 0 ≤ 601024; omega, by show slots + 6 + 0 ≤ 7293034; omega⟩ (fun H locs hP hD hS => ?_)
  refine lv_istore (lv' := [(7, .int r), (6, .int k), (0, .ref b), (1, .ref (E 0)), (2, .ref (Em 0)), (3, .ref qo), (4, .ref qd), (5, .int (nI (6 * t)))]) hx hb dL_law_1750 hl (by decide) rfl (fun ls hl => ?_)
  refine lv_aload_n hx hb dL_law_1752 rfl (lv_at hl 4 rfl) ?_
  refine n_VI (Rs := ldA cD qd fd :: loA Y qo f2 :: wd Y E σ' 0 LC) (As := []) (rest := []) hC hb hml hl.1 hSW hP hD hS hA (c_X10_thrown lokM0 (show f_X10_thrown τ' = some (gI τ' 0, τ') from rfl)) (cw_L_111 hC rfl rfl ⟨(Nat.le_of_ble_eq_true rfl), (Nat.le_of_ble_eq_true rfl)⟩) (lm_0 []) rfl rfl rfl (Nat.le_of_ble_eq_true rfl) dL_law_1753 ⟨by show cells + 1 + 0 ≤ 601024; omega, by show slots + 6 + 0 ≤ 7293034; omega⟩ (fun H locs hP hD hS => ?_)
  refine lv_iload hx hb dL_law_1756 (lv_at hl 1 rfl) ?_
  refine lv_icmp_eq (tgt := 1763) hx hb dL_law_1758 (by decide) (fun c1 => ?_) (fun c1 => absurd hk c1)
  refine lv_iload hx hb dL_law_1763 (lv_at hl 1 rfl) ?_
  have fin : W p l e room_1 s m args below meth c H locs (cells + 1 + 0 + 0) (slots + 6 + 0 + 0) Q (F0 m 1780 ls []) := by
    refine lv_goto (tgt := 2067) hx hb dL_law_1780 (by decide) ?_
    refine W.widen (k := cells + 2) (n := slots + 14) (by omega) (by omega) ?_
    exact kk w σ' τ' f2 fd H locs ls hR (va_P_perm hP (pm_b _ _ _ _).symm) (va_D_perm hD (pm_b _ _ _ _).symm) hS (lv_sub hl [2, 3, 4, 5, 6, 7] rfl)
  refine lv_if_ne (tgt := 1780) hx hb dL_law_1765 (by decide) (fun _ => fin) (fun c2 => ?_)
  refine lv_aload_n hx hb dL_law_1768 rfl (lv_at hl 5 rfl) ?_
  refine lv_iconst (v := 0) hx hb dL_law_1769 (by decide) ?_
  refine va_lald hx hb hC.2.2.2.1 hP 1 1 rfl rfl vin0 dL_law_1770 ?_
  refine lv_iload hx hb dL_law_1771 (lv_at hl 0 rfl) ?_
  refine lv_i2l (v := r.toInt64) hx hb dL_law_1773 rfl ?_
  refine W.lcmp hx hb dL_law_1774 ?_
  refine lv_if_eq (tgt := 1780) hx hb dL_law_1775 (by decide) (fun _ => fin) (fun c3 => absurd ?_ c3)
  show lg_cmp (f2 0) r.toInt64 = 0
  rw [hv c2]
  exact lgc _

set_option maxHeartbeats 4000000 in
set_option maxRecDepth 100000 in
theorem law_24 {p : Program} {l : Launch} {e : Env} {s : State} {m : MethodId} {args : Array Value} {below : List Frame} {meth : Method} {c : Code} {H : Heap} {locs : List Loc} {cells slots : Nat} {Q : State → Prop} {D : va_G} {Y : CYs} {cD : ClassId} {b L : Nat} {xs : Nat → Int32} {A : Nat → Prop} {ls : Array Slot} {E Em : Nat → Nat} {qo qd t : Nat} {w : AW} {σ τ : Sta} {f : Nat → Int64} {fd : Nat → UInt64} (hF : LF p l s m args c D Y cD b L xs A) (h : REL w σ τ) (hP : va_P D vwCl (CWl Y cD E Em qo qd σ τ f fd) H) (hD : va_D A (CWl Y cD E Em qo qd σ τ f fd)) (hS : va_S A s.heap H locs) (hl : lv_has ls 9 (LV b qo qd t E Em)) (hj : 6 * t + 6 ≤ L) (hc : cells + 2 ≤ 601024) (hs : slots + 14 ≤ 7293034)
    (kk : ∀ (w : AW) (σ τ : Sta) (f : Nat → Int64) (fd : Nat → UInt64) (H : Heap) (locs : List Loc) (ls : Array Slot), REL w σ τ → va_P D vwCl (CWl Y cD E Em qo qd σ τ f fd) H → va_D A (CWl Y cD E Em qo qd σ τ f fd) → va_S A s.heap H locs → lv_has ls 9 (LV b qo qd t E Em) → W p l e room_1 s m args below meth c H locs (cells + 2) (slots + 14) Q (F0 m 2067 ls [])) : W p l e room_1 s m args below meth c H locs cells slots Q (F0 m 1783 ls []) := by
  obtain ⟨hC, hb, hml, hSW, hA, hKD, hX, hbl, hbA, ht, hL⟩ := id hF
  have hx := hC.1
  have hl : lv_has ls 9 [(0, .ref b), (1, .ref (E 0)), (2, .ref (Em 0)), (3, .ref qo), (4, .ref qd), (5, .int (nI (6 * t)))] := hl
  obtain ⟨r, σ', τ', g1, g2, hR⟩ := op_seed h (((xs (6 * t + 1)).toInt64 <<< ((32 : Int32).toInt64 &&& 63)) ||| ((xs (6 * t + 2)).toInt64 &&& 4294967295))
  refine lv_aload_n hx hb dL_law_1783 rfl (lv_at hl 1 rfl) ?_
  refine l_ld (j := 1) hF hS (lv_at hl 0 rfl) (lv_at hl 5 rfl) dL_law_1784 dL_law_1785 dL_law_1787 (by decide) dL_law_1788 dL_law_1789 (by omega) ?_
  refine lv_i2l (v := (xs (6 * t + 1)).toInt64) hx hb dL_law_1790 rfl ?_
  refine lv_bipush (v := 32) hx hb dL_law_1791 (by decide) ?_
  refine lv_lshl (v := (xs (6 * t + 1)).toInt64 <<< ((32 : Int32).toInt64 &&& 63)) hx hb dL_law_1793 rfl ?_
  refine l_ld (j := 2) hF hS (lv_at hl 0 rfl) (lv_at hl 5 rfl) dL_law_1794 dL_law_1795 dL_law_1797 (by decide) dL_law_1798 dL_law_1799 (by omega) ?_
  refine lv_i2l (v := (xs (6 * t + 2)).toInt64) hx hb dL_law_1800 rfl ?_
  refine lv_ldc2 (v := 4294967295) hx hb hC.2.2.1 (hC.2.1 (Cond.constantLong RL 184 4294967295) (gw_t (tb8 (List.mem_of_getElem? (i := 141) rfl)) rfl)) dL_law_1801 ?_
  refine lv_land hx hb dL_law_1804 ?_
  refine lv_lor hx hb dL_law_1805 ?_
  have hP := va_P_perm hP (pm_c _ _ _ _)
  have hD := va_D_perm hD (pm_c _ _ _ _)
  refine n_VL (Rs := ldA cD qd fd :: (wd Y Em τ 0 LM0 ++ [loA Y qo f])) (As := [.long (((xs (6 * t + 1)).toInt64 <<< ((32 : Int32).toInt64 &&& 63)) ||| ((xs (6 * t + 2)).toInt64 &&& 4294967295))]) (rest := []) hC hb hml hl.1 hSW hP hD hS hA (c_X8_seed g1) (cw_L_197 hC rfl rfl ⟨(Nat.le_of_ble_eq_true rfl), (Nat.le_of_ble_eq_true rfl)⟩) lc_0 rfl rfl rfl (Nat.le_of_ble_eq_true rfl) dL_law_1806 ⟨by show cells + 0 ≤ 601024; omega, by show slots + 0 ≤ 7293034; omega⟩ (fun H locs hP hD hS => ?_)
  have hP := va_P_perm (va_P_perm hP (pm_c _ _ _ _).symm) (pm_b _ _ _ _)
  have hD := va_D_perm (va_D_perm hD (pm_c _ _ _ _).symm) (pm_b _ _ _ _)
  refine lv_aload_n hx hb dL_law_1809 rfl (lv_at hl 2 rfl) ?_
  refine l_ld (j := 1) hF hS (lv_at hl 0 rfl) (lv_at hl 5 rfl) dL_law_1810 dL_law_1811 dL_law_1813 (by decide) dL_law_1814 dL_law_1815 (by omega) ?_
  refine lv_i2l (v := (xs (6 * t + 1)).toInt64) hx hb dL_law_1816 rfl ?_
  refine lv_bipush (v := 32) hx hb dL_law_1817 (by decide) ?_
  refine lv_lshl (v := (xs (6 * t + 1)).toInt64 <<< ((32 : Int32).toInt64 &&& 63)) hx hb dL_law_1819 rfl ?_
  refine l_ld (j := 2) hF hS (lv_at hl 0 rfl) (lv_at hl 5 rfl) dL_law_1820 dL_law_1821 dL_law_1823 (by decide) dL_law_1824 dL_law_1825 (by omega) ?_
  refine lv_i2l (v := (xs (6 * t + 2)).toInt64) hx hb dL_law_1826 rfl ?_
  refine lv_ldc2 (v := 4294967295) hx hb hC.2.2.1 (hC.2.1 (Cond.constantLong RL 184 4294967295) (gw_t (tb8 (List.mem_of_getElem? (i := 141) rfl)) rfl)) dL_law_1827 ?_
  refine lv_land hx hb dL_law_1830 ?_
  refine lv_lor hx hb dL_law_1831 ?_
  refine n_VL (Rs := ldA cD qd fd :: loA Y qo f :: wd Y E σ' 0 LC) (As := [.long (((xs (6 * t + 1)).toInt64 <<< ((32 : Int32).toInt64 &&& 63)) ||| ((xs (6 * t + 2)).toInt64 &&& 4294967295))]) (rest := [.long r]) hC hb hml hl.1 hSW hP hD hS hA (c_X10_seed lokM0 g2) (cw_L_201 hC rfl rfl ⟨(Nat.le_of_ble_eq_true rfl), (Nat.le_of_ble_eq_true rfl)⟩) (lm_0 []) rfl rfl rfl (Nat.le_of_ble_eq_true rfl) dL_law_1832 ⟨by show cells + 0 ≤ 601024; omega, by show slots + 0 ≤ 7293034; omega⟩ (fun H locs hP hD hS => ?_)
  refine W.lcmp hx hb dL_law_1835 ?_
  refine lv_if_eq (tgt := 2067) hx hb dL_law_1836 (by decide) (fun _ => ?_) (fun c1 => absurd (lgc r) c1)
  refine W.widen (k := cells + 2) (n := slots + 14) (by omega) (by omega) ?_
  exact kk w σ' τ' f fd H locs ls hR (va_P_perm hP (pm_b _ _ _ _).symm) (va_D_perm hD (pm_b _ _ _ _).symm) hS hl

set_option maxHeartbeats 4000000 in
set_option maxRecDepth 100000 in
theorem law_25 {p : Program} {l : Launch} {e : Env} {s : State} {m : MethodId} {args : Array Value} {below : List Frame} {meth : Method} {c : Code} {H : Heap} {locs : List Loc} {cells slots : Nat} {Q : State → Prop} {D : va_G} {Y : CYs} {cD : ClassId} {b L : Nat} {xs : Nat → Int32} {A : Nat → Prop} {ls : Array Slot} {E Em : Nat → Nat} {qo qd t : Nat} {w : AW} {σ τ : Sta} {f : Nat → Int64} {fd : Nat → UInt64} (hF : LF p l s m args c D Y cD b L xs A) (h : REL w σ τ) (hP : va_P D vwCl (CWl Y cD E Em qo qd σ τ f fd) H) (hD : va_D A (CWl Y cD E Em qo qd σ τ f fd)) (hS : va_S A s.heap H locs) (hl : lv_has ls 9 (LV b qo qd t E Em)) (hj : 6 * t + 6 ≤ L) (hc : cells + 2 ≤ 601024) (hs : slots + 14 ≤ 7293034)
    (kk : ∀ (w : AW) (σ τ : Sta) (f : Nat → Int64) (fd : Nat → UInt64) (H : Heap) (locs : List Loc) (ls : Array Slot), REL w σ τ → va_P D vwCl (CWl Y cD E Em qo qd σ τ f fd) H → va_D A (CWl Y cD E Em qo qd σ τ f fd) → va_S A s.heap H locs → lv_has ls 9 (LV b qo qd t E Em) → W p l e room_1 s m args below meth c H locs (cells + 2) (slots + 14) Q (F0 m 2067 ls [])) : W p l e room_1 s m args below meth c H locs cells slots Q (F0 m 1841 ls []) := by
  obtain ⟨hC, hb, hml, hSW, hA, hKD, hX, hbl, hbA, ht, hL⟩ := id hF
  have hx := hC.1
  have hl : lv_has ls 9 [(0, .ref b), (1, .ref (E 0)), (2, .ref (Em 0)), (3, .ref qo), (4, .ref qd), (5, .int (nI (6 * t)))] := hl
  obtain ⟨o, σ', r, τ', g1, g2, hR, ho⟩ := op_1 (fun e2 e3 => og_play e2 e3 h (xs (6 * t + 1)))
  obtain ⟨k, f2, hw, hk, hv⟩ : ∃ (k : Int32) (f2 : Nat → Int64), ((∃ v : Int32, o = .inl v ∧ k = 0 ∧ f2 = vp_updL f 0 v.toInt64) ∨ (o = .inr eIOB ∧ k = 1 ∧ f = f2)) ∧ gI τ' 0 = k ∧ (k = 0 → f2 0 = r.toInt64) := by
    rcases ho with ⟨rfl, h0⟩ | ⟨rfl, h0⟩
    · exact ⟨0, vp_updL f 0 r.toInt64, Or.inl ⟨r, rfl, rfl, rfl⟩, h0, fun _ => if_pos rfl⟩
    · exact ⟨1, f, Or.inr (⟨rfl, rfl, rfl⟩), h0, fun h => absurd h (by decide)⟩
  refine lv_aload_n hx hb dL_law_1841 rfl (lv_at hl 1 rfl) ?_
  refine l_ld (j := 1) hF hS (lv_at hl 0 rfl) (lv_at hl 5 rfl) dL_law_1842 dL_law_1843 dL_law_1845 (by decide) dL_law_1846 dL_law_1847 (by omega) ?_
  refine lv_aload_n hx hb dL_law_1848 rfl (lv_at hl 3 rfl) ?_
  refine n_SW (Rs := ldA cD qd fd :: wd Y Em τ 0 LM0) (As := [.ref (E 0), .int (xs (6 * t + 1)), .ref qo]) (rest := []) hC hb hml hl.1 hSW hP hD hS hA (fun sz => wL_play ht g1 hw sz) (csL_play hC ⟨(Nat.le_of_ble_eq_true rfl), (Nat.le_of_ble_eq_true rfl)⟩) rfl rfl (Nat.le_of_ble_eq_true rfl) dL_law_1849 ⟨by show cells + 1 ≤ 601024; omega, by show slots + 6 ≤ 7293034; omega⟩ (fun H locs hP hD hS => ?_)
  have hP := va_P_perm hP (pm_b _ _ _ _)
  have hD := va_D_perm hD (pm_b _ _ _ _)
  refine lv_istore (lv' := [(6, .int k), (0, .ref b), (1, .ref (E 0)), (2, .ref (Em 0)), (3, .ref qo), (4, .ref qd), (5, .int (nI (6 * t)))]) hx hb dL_law_1852 hl (by decide) rfl (fun ls hl => ?_)
  refine lv_aload_n hx hb dL_law_1854 rfl (lv_at hl 3 rfl) ?_
  refine l_ld (j := 1) hF hS (lv_at hl 1 rfl) (lv_at hl 6 rfl) dL_law_1855 dL_law_1856 dL_law_1858 (by decide) dL_law_1859 dL_law_1860 (by omega) ?_
  refine n_VI (Rs := ldA cD qd fd :: loA Y qo f2 :: wd Y E σ' 0 LC) (As := [.int (xs (6 * t + 1))]) (rest := []) hC hb hml hl.1 hSW hP hD hS hA (c_X10_play lokM0 g2) (cw_L_204 hC rfl rfl ⟨(Nat.le_of_ble_eq_true rfl), (Nat.le_of_ble_eq_true rfl)⟩) (lm_0 []) rfl rfl rfl (Nat.le_of_ble_eq_true rfl) dL_law_1861 ⟨by show cells + 1 + 0 ≤ 601024; omega, by show slots + 6 + 0 ≤ 7293034; omega⟩ (fun H locs hP hD hS => ?_)
  refine lv_istore (lv' := [(7, .int r), (6, .int k), (0, .ref b), (1, .ref (E 0)), (2, .ref (Em 0)), (3, .ref qo), (4, .ref qd), (5, .int (nI (6 * t)))]) hx hb dL_law_1864 hl (by decide) rfl (fun ls hl => ?_)
  refine lv_aload_n hx hb dL_law_1866 rfl (lv_at hl 4 rfl) ?_
  refine n_VI (Rs := ldA cD qd fd :: loA Y qo f2 :: wd Y E σ' 0 LC) (As := []) (rest := []) hC hb hml hl.1 hSW hP hD hS hA (c_X10_thrown lokM0 (show f_X10_thrown τ' = some (gI τ' 0, τ') from rfl)) (cw_L_111 hC rfl rfl ⟨(Nat.le_of_ble_eq_true rfl), (Nat.le_of_ble_eq_true rfl)⟩) (lm_0 []) rfl rfl rfl (Nat.le_of_ble_eq_true rfl) dL_law_1867 ⟨by show cells + 1 + 0 ≤ 601024; omega, by show slots + 6 + 0 ≤ 7293034; omega⟩ (fun H locs hP hD hS => ?_)
  refine lv_iload hx hb dL_law_1870 (lv_at hl 1 rfl) ?_
  refine lv_icmp_eq (tgt := 1877) hx hb dL_law_1872 (by decide) (fun c1 => ?_) (fun c1 => absurd hk c1)
  refine lv_iload hx hb dL_law_1877 (lv_at hl 1 rfl) ?_
  have fin : W p l e room_1 s m args below meth c H locs (cells + 1 + 0 + 0) (slots + 6 + 0 + 0) Q (F0 m 1894 ls []) := by
    refine lv_goto (tgt := 2067) hx hb dL_law_1894 (by decide) ?_
    refine W.widen (k := cells + 2) (n := slots + 14) (by omega) (by omega) ?_
    exact kk w σ' τ' f2 fd H locs ls hR (va_P_perm hP (pm_b _ _ _ _).symm) (va_D_perm hD (pm_b _ _ _ _).symm) hS (lv_sub hl [2, 3, 4, 5, 6, 7] rfl)
  refine lv_if_ne (tgt := 1894) hx hb dL_law_1879 (by decide) (fun _ => fin) (fun c2 => ?_)
  refine lv_aload_n hx hb dL_law_1882 rfl (lv_at hl 5 rfl) ?_
  refine lv_iconst (v := 0) hx hb dL_law_1883 (by decide) ?_
  refine va_lald hx hb hC.2.2.2.1 hP 1 1 rfl rfl vin0 dL_law_1884 ?_
  refine lv_iload hx hb dL_law_1885 (lv_at hl 0 rfl) ?_
  refine lv_i2l (v := r.toInt64) hx hb dL_law_1887 rfl ?_
  refine W.lcmp hx hb dL_law_1888 ?_
  refine lv_if_eq (tgt := 1894) hx hb dL_law_1889 (by decide) (fun _ => fin) (fun c3 => absurd ?_ c3)
  show lg_cmp (f2 0) r.toInt64 = 0
  rw [hv c2]
  exact lgc _

set_option maxHeartbeats 4000000 in
set_option maxRecDepth 100000 in
theorem law_26 {p : Program} {l : Launch} {e : Env} {s : State} {m : MethodId} {args : Array Value} {below : List Frame} {meth : Method} {c : Code} {H : Heap} {locs : List Loc} {cells slots : Nat} {Q : State → Prop} {D : va_G} {Y : CYs} {cD : ClassId} {b L : Nat} {xs : Nat → Int32} {A : Nat → Prop} {ls : Array Slot} {E Em : Nat → Nat} {qo qd t : Nat} {w : AW} {σ τ : Sta} {f : Nat → Int64} {fd : Nat → UInt64} (hF : LF p l s m args c D Y cD b L xs A) (h : REL w σ τ) (hP : va_P D vwCl (CWl Y cD E Em qo qd σ τ f fd) H) (hD : va_D A (CWl Y cD E Em qo qd σ τ f fd)) (hS : va_S A s.heap H locs) (hl : lv_has ls 9 (LV b qo qd t E Em)) (hj : 6 * t + 6 ≤ L) (hc : cells + 2 ≤ 601024) (hs : slots + 14 ≤ 7293034)
    (kk : ∀ (w : AW) (σ τ : Sta) (f : Nat → Int64) (fd : Nat → UInt64) (H : Heap) (locs : List Loc) (ls : Array Slot), REL w σ τ → va_P D vwCl (CWl Y cD E Em qo qd σ τ f fd) H → va_D A (CWl Y cD E Em qo qd σ τ f fd) → va_S A s.heap H locs → lv_has ls 9 (LV b qo qd t E Em) → W p l e room_1 s m args below meth c H locs (cells + 2) (slots + 14) Q (F0 m 2067 ls [])) : W p l e room_1 s m args below meth c H locs cells slots Q (F0 m 1897 ls []) := by
  obtain ⟨hC, hb, hml, hSW, hA, hKD, hX, hbl, hbA, ht, hL⟩ := id hF
  have hx := hC.1
  have hl : lv_has ls 9 [(0, .ref b), (1, .ref (E 0)), (2, .ref (Em 0)), (3, .ref qo), (4, .ref qd), (5, .int (nI (6 * t)))] := hl
  obtain ⟨o, σ', r, τ', g1, g2, hR, ho⟩ := op_1 (fun e2 e3 => og_played e2 e3 h (xs (6 * t + 1)))
  obtain ⟨k, f2, hw, hk, hv⟩ : ∃ (k : Int32) (f2 : Nat → Int64), ((∃ v : Int64, o = .inl v ∧ k = 0 ∧ f2 = vp_updL f 0 v) ∨ (o = .inr eIOB ∧ k = 1 ∧ f = f2)) ∧ gI τ' 0 = k ∧ (k = 0 → f2 0 = r) := by
    rcases ho with ⟨rfl, h0⟩ | ⟨rfl, h0⟩
    · exact ⟨0, vp_updL f 0 r, Or.inl ⟨r, rfl, rfl, rfl⟩, h0, fun _ => if_pos rfl⟩
    · exact ⟨1, f, Or.inr (⟨rfl, rfl, rfl⟩), h0, fun h => absurd h (by decide)⟩
  refine lv_aload_n hx hb dL_law_1897 rfl (lv_at hl 1 rfl) ?_
  refine l_ld (j := 1) hF hS (lv_at hl 0 rfl) (lv_at hl 5 rfl) dL_law_1898 dL_law_1899 dL_law_1901 (by decide) dL_law_1902 dL_law_1903 (by omega) ?_
  refine lv_aload_n hx hb dL_law_1904 rfl (lv_at hl 3 rfl) ?_
  refine n_SW (Rs := ldA cD qd fd :: wd Y Em τ 0 LM0) (As := [.ref (E 0), .int (xs (6 * t + 1)), .ref qo]) (rest := []) hC hb hml hl.1 hSW hP hD hS hA (fun sz => wL_played ht g1 hw sz) (csL_played hC ⟨(Nat.le_of_ble_eq_true rfl), (Nat.le_of_ble_eq_true rfl)⟩) rfl rfl (Nat.le_of_ble_eq_true rfl) dL_law_1905 ⟨by show cells + 1 ≤ 601024; omega, by show slots + 6 ≤ 7293034; omega⟩ (fun H locs hP hD hS => ?_)
  have hP := va_P_perm hP (pm_b _ _ _ _)
  have hD := va_D_perm hD (pm_b _ _ _ _)
  refine lv_istore (lv' := [(6, .int k), (0, .ref b), (1, .ref (E 0)), (2, .ref (Em 0)), (3, .ref qo), (4, .ref qd), (5, .int (nI (6 * t)))]) hx hb dL_law_1908 hl (by decide) rfl (fun ls hl => ?_)
  refine lv_aload_n hx hb dL_law_1910 rfl (lv_at hl 3 rfl) ?_
  refine l_ld (j := 1) hF hS (lv_at hl 1 rfl) (lv_at hl 6 rfl) dL_law_1911 dL_law_1912 dL_law_1914 (by decide) dL_law_1915 dL_law_1916 (by omega) ?_
  refine n_VL (Rs := ldA cD qd fd :: loA Y qo f2 :: wd Y E σ' 0 LC) (As := [.int (xs (6 * t + 1))]) (rest := []) hC hb hml hl.1 hSW hP hD hS hA (c_X10_played lokM0 g2) (cw_L_207 hC rfl rfl ⟨(Nat.le_of_ble_eq_true rfl), (Nat.le_of_ble_eq_true rfl)⟩) (lm_0 []) rfl rfl rfl (Nat.le_of_ble_eq_true rfl) dL_law_1917 ⟨by show cells + 1 + 0 ≤ 601024; omega, by show slots + 6 + 0 ≤ 7293034; omega⟩ (fun H locs hP hD hS => ?_)
  refine lv_lstore (lv' := [(7, .long r), (6, .int k), (0, .ref b), (1, .ref (E 0)), (2, .ref (Em 0)), (3, .ref qo), (4, .ref qd), (5, .int (nI (6 * t)))]) hx hb dL_law_1920 hl (by decide) rfl (fun ls hl => ?_)
  refine lv_aload_n hx hb dL_law_1922 rfl (lv_at hl 4 rfl) ?_
  refine n_VI (Rs := ldA cD qd fd :: loA Y qo f2 :: wd Y E σ' 0 LC) (As := []) (rest := []) hC hb hml hl.1 hSW hP hD hS hA (c_X10_thrown lokM0 (show f_X10_thrown τ' = some (gI τ' 0, τ') from rfl)) (cw_L_111 hC rfl rfl ⟨(Nat.le_of_ble_eq_true rfl), (Nat.le_of_ble_eq_true rfl)⟩) (lm_0 []) rfl rfl rfl (Nat.le_of_ble_eq_true rfl) dL_law_1923 ⟨by show cells + 1 + 0 ≤ 601024; omega, by show slots + 6 + 0 ≤ 7293034; omega⟩ (fun H locs hP hD hS => ?_)
  refine lv_iload hx hb dL_law_1926 (lv_at hl 1 rfl) ?_
  refine lv_icmp_eq (tgt := 1933) hx hb dL_law_1928 (by decide) (fun c1 => ?_) (fun c1 => absurd hk c1)
  refine lv_iload hx hb dL_law_1933 (lv_at hl 1 rfl) ?_
  have fin : W p l e room_1 s m args below meth c H locs (cells + 1 + 0 + 0) (slots + 6 + 0 + 0) Q (F0 m 1949 ls []) := by
    refine lv_goto (tgt := 2067) hx hb dL_law_1949 (by decide) ?_
    refine W.widen (k := cells + 2) (n := slots + 14) (by omega) (by omega) ?_
    exact kk w σ' τ' f2 fd H locs ls hR (va_P_perm hP (pm_b _ _ _ _).symm) (va_D_perm hD (pm_b _ _ _ _).symm) hS (lv_sub hl [2, 3, 4, 5, 6, 7] rfl)
  refine lv_if_ne (tgt := 1949) hx hb dL_law_1935 (by decide) (fun _ => fin) (fun c2 => ?_)
  refine lv_aload_n hx hb dL_law_1938 rfl (lv_at hl 5 rfl) ?_
  refine lv_iconst (v := 0) hx hb dL_law_1939 (by decide) ?_
  refine va_lald hx hb hC.2.2.2.1 hP 1 1 rfl rfl vin0 dL_law_1940 ?_
  refine lv_lload hx hb dL_law_1941 (lv_at hl 0 rfl) ?_
  refine W.lcmp hx hb dL_law_1943 ?_
  refine lv_if_eq (tgt := 1949) hx hb dL_law_1944 (by decide) (fun _ => fin) (fun c3 => absurd ?_ c3)
  show lg_cmp (f2 0) r = 0
  rw [hv c2]
  exact lgc _

set_option maxHeartbeats 4000000 in
set_option maxRecDepth 100000 in
theorem law_27 {p : Program} {l : Launch} {e : Env} {s : State} {m : MethodId} {args : Array Value} {below : List Frame} {meth : Method} {c : Code} {H : Heap} {locs : List Loc} {cells slots : Nat} {Q : State → Prop} {D : va_G} {Y : CYs} {cD : ClassId} {b L : Nat} {xs : Nat → Int32} {A : Nat → Prop} {ls : Array Slot} {E Em : Nat → Nat} {qo qd t : Nat} {w : AW} {σ τ : Sta} {f : Nat → Int64} {fd : Nat → UInt64} (hF : LF p l s m args c D Y cD b L xs A) (h : REL w σ τ) (hP : va_P D vwCl (CWl Y cD E Em qo qd σ τ f fd) H) (hD : va_D A (CWl Y cD E Em qo qd σ τ f fd)) (hS : va_S A s.heap H locs) (hl : lv_has ls 9 (LV b qo qd t E Em)) (hj : 6 * t + 6 ≤ L) (hc : cells + 2 ≤ 601024) (hs : slots + 14 ≤ 7293034)
    (kk : ∀ (w : AW) (σ τ : Sta) (f : Nat → Int64) (fd : Nat → UInt64) (H : Heap) (locs : List Loc) (ls : Array Slot), REL w σ τ → va_P D vwCl (CWl Y cD E Em qo qd σ τ f fd) H → va_D A (CWl Y cD E Em qo qd σ τ f fd) → va_S A s.heap H locs → lv_has ls 9 (LV b qo qd t E Em) → W p l e room_1 s m args below meth c H locs (cells + 2) (slots + 14) Q (F0 m 2067 ls [])) : W p l e room_1 s m args below meth c H locs cells slots Q (F0 m 1952 ls []) := by
  obtain ⟨hC, hb, hml, hSW, hA, hKD, hX, hbl, hbA, ht, hL⟩ := id hF
  have hx := hC.1
  have hl : lv_has ls 9 [(0, .ref b), (1, .ref (E 0)), (2, .ref (Em 0)), (3, .ref qo), (4, .ref qd), (5, .int (nI (6 * t)))] := hl
  obtain ⟨o, σ', r, τ', g1, g2, hR, ho⟩ := op_2 (fun e3 => og_average e3 e3 h (xs (6 * t + 1)) (xs (6 * t + 2)) (xs (6 * t + 3)))
  obtain ⟨k, f2, hw, hk, hv⟩ : ∃ (k : Int32) (f2 : Nat → UInt64), ((∃ v : UInt64, o = .inl v ∧ k = 0 ∧ f2 = vf_upd fd 0 v) ∨ (o = .inr eIOB ∧ k = 1 ∧ fd = f2) ∨ (o = .inr eIAE ∧ k = 2 ∧ fd = f2)) ∧ gI τ' 0 = k ∧ (k = 0 → f2 0 = r) := by
    rcases ho with ⟨rfl, h0⟩ | ⟨rfl, h0⟩ | ⟨rfl, h0⟩
    · exact ⟨0, vf_upd fd 0 r, Or.inl ⟨r, rfl, rfl, rfl⟩, h0, fun _ => if_pos rfl⟩
    · exact ⟨1, fd, Or.inr (Or.inl ⟨rfl, rfl, rfl⟩), h0, fun h => absurd h (by decide)⟩
    · exact ⟨2, fd, Or.inr (Or.inr (⟨rfl, rfl, rfl⟩)), h0, fun h => absurd h (by decide)⟩
  refine lv_aload_n hx hb dL_law_1952 rfl (lv_at hl 1 rfl) ?_
  refine l_ld (j := 1) hF hS (lv_at hl 0 rfl) (lv_at hl 5 rfl) dL_law_1953 dL_law_1954 dL_law_1956 (by decide) dL_law_1957 dL_law_1958 (by omega) ?_
  refine l_ld (j := 2) hF hS (lv_at hl 0 rfl) (lv_at hl 5 rfl) dL_law_1959 dL_law_1960 dL_law_1962 (by decide) dL_law_1963 dL_law_1964 (by omega) ?_
  refine l_ld (j := 3) hF hS (lv_at hl 0 rfl) (lv_at hl 5 rfl) dL_law_1965 dL_law_1966 dL_law_1968 (by decide) dL_law_1969 dL_law_1970 (by omega) ?_
  refine lv_aload hx hb dL_law_1971 (lv_at hl 4 rfl) ?_
  have hP := va_P_perm hP (pm_d _ _ _ _)
  have hD := va_D_perm hD (pm_d _ _ _ _)
  refine n_SWd (cD := cD) (Rs := loA Y qo f :: wd Y Em τ 0 LM0) (As := [.ref (E 0), .int (xs (6 * t + 1)), .int (xs (6 * t + 2)), .int (xs (6 * t + 3)), .ref qd]) (rest := []) hC hKD hb hml hl.1 hSW hP hD hS hA (fun sz => wL_average ht g1 hw sz) (csL_average hC ⟨(Nat.le_of_ble_eq_true rfl), (Nat.le_of_ble_eq_true rfl)⟩) rfl rfl (Nat.le_of_ble_eq_true rfl) dL_law_1973 ⟨by show cells + 1 ≤ 601024; omega, by show slots + 6 ≤ 7293034; omega⟩ (fun H locs hP hD hS => ?_)
  have hP := va_P_perm hP (pm_d _ _ _ _)
  have hD := va_D_perm hD (pm_d _ _ _ _)
  have hP := va_P_perm hP (pm_b _ _ _ _)
  have hD := va_D_perm hD (pm_b _ _ _ _)
  refine lv_istore (lv' := [(6, .int k), (0, .ref b), (1, .ref (E 0)), (2, .ref (Em 0)), (3, .ref qo), (4, .ref qd), (5, .int (nI (6 * t)))]) hx hb dL_law_1976 hl (by decide) rfl (fun ls hl => ?_)
  refine lv_aload_n hx hb dL_law_1978 rfl (lv_at hl 3 rfl) ?_
  refine l_ld (j := 1) hF hS (lv_at hl 1 rfl) (lv_at hl 6 rfl) dL_law_1979 dL_law_1980 dL_law_1982 (by decide) dL_law_1983 dL_law_1984 (by omega) ?_
  refine l_ld (j := 2) hF hS (lv_at hl 1 rfl) (lv_at hl 6 rfl) dL_law_1985 dL_law_1986 dL_law_1988 (by decide) dL_law_1989 dL_law_1990 (by omega) ?_
  refine l_ld (j := 3) hF hS (lv_at hl 1 rfl) (lv_at hl 6 rfl) dL_law_1991 dL_law_1992 dL_law_1994 (by decide) dL_law_1995 dL_law_1996 (by omega) ?_
  refine n_VD (Rs := ldA cD qd f2 :: loA Y qo f :: wd Y E σ' 0 LC) (As := [.int (xs (6 * t + 1)), .int (xs (6 * t + 2)), .int (xs (6 * t + 3))]) (rest := []) hC hb hml hl.1 hSW hP hD hS hA (c_X10_average lokM0 g2) (cw_L_211 hC rfl rfl ⟨(Nat.le_of_ble_eq_true rfl), (Nat.le_of_ble_eq_true rfl)⟩) (lm_0 []) rfl rfl rfl (Nat.le_of_ble_eq_true rfl) dL_law_1997 ⟨by show cells + 1 + 0 ≤ 601024; omega, by show slots + 6 + 0 ≤ 7293034; omega⟩ (fun H locs hP hD hS => ?_)
  refine lv_dstore (lv' := [(7, .double r), (6, .int k), (0, .ref b), (1, .ref (E 0)), (2, .ref (Em 0)), (3, .ref qo), (4, .ref qd), (5, .int (nI (6 * t)))]) hx hb dL_law_2000 hl (by decide) rfl (fun ls hl => ?_)
  refine lv_aload_n hx hb dL_law_2002 rfl (lv_at hl 4 rfl) ?_
  refine n_VI (Rs := ldA cD qd f2 :: loA Y qo f :: wd Y E σ' 0 LC) (As := []) (rest := []) hC hb hml hl.1 hSW hP hD hS hA (c_X10_thrown lokM0 (show f_X10_thrown τ' = some (gI τ' 0, τ') from rfl)) (cw_L_111 hC rfl rfl ⟨(Nat.le_of_ble_eq_true rfl), (Nat.le_of_ble_eq_true rfl)⟩) (lm_0 []) rfl rfl rfl (Nat.le_of_ble_eq_true rfl) dL_law_2003 ⟨by show cells + 1 + 0 ≤ 601024; omega, by show slots + 6 + 0 ≤ 7293034; omega⟩ (fun H locs hP hD hS => ?_)
  refine lv_iload hx hb dL_law_2006 (lv_at hl 1 rfl) ?_
  refine lv_icmp_eq (tgt := 2013) hx hb dL_law_2008 (by decide) (fun c1 => ?_) (fun c1 => absurd hk c1)
  refine lv_iload hx hb dL_law_2013 (lv_at hl 1 rfl) ?_
  have fin : W p l e room_1 s m args below meth c H locs (cells + 1 + 0 + 0) (slots + 6 + 0 + 0) Q (F0 m 2050 ls []) := by
    refine lv_goto (tgt := 2067) hx hb dL_law_2050 (by decide) ?_
    refine W.widen (k := cells + 2) (n := slots + 14) (by omega) (by omega) ?_
    exact kk w σ' τ' f f2 H locs ls hR (va_P_perm hP (pm_b _ _ _ _).symm) (va_D_perm hD (pm_b _ _ _ _).symm) hS (lv_sub hl [2, 3, 4, 5, 6, 7] rfl)
  refine lv_if_ne (tgt := 2050) hx hb dL_law_2015 (by decide) (fun _ => fin) (fun c2 => ?_)
  refine lv_aload hx hb dL_law_2018 (lv_at hl 6 rfl) ?_
  refine lv_iconst (v := 0) hx hb dL_law_2020 (by decide) ?_
  refine va_dald hx hb hKD hP 0 4 rfl rfl vin0 dL_law_2021 ?_
  rw [show f2 (Int32.toNatClampNeg 0) = r from hv c2]
  refine lv_dload hx hb dL_law_2022 (lv_at hl 0 rfl) ?_
  refine lv_dcmp hx hb dL_law_2024 ?_
  refine lv_if_eq (tgt := 2050) hx hb dL_law_2025 (by decide) (fun _ => fin) (fun c3 => ?_)
  refine lv_aload hx hb dL_law_2028 (lv_at hl 6 rfl) ?_
  refine lv_iconst (v := 0) hx hb dL_law_2030 (by decide) ?_
  refine va_dald hx hb hKD hP 0 4 rfl rfl vin0 dL_law_2031 ?_
  rw [show f2 (Int32.toNatClampNeg 0) = r from hv c2]
  refine lv_aload hx hb dL_law_2032 (lv_at hl 6 rfl) ?_
  refine lv_iconst (v := 0) hx hb dL_law_2034 (by decide) ?_
  refine va_dald hx hb hKD hP 0 4 rfl rfl vin0 dL_law_2035 ?_
  rw [show f2 (Int32.toNatClampNeg 0) = r from hv c2]
  refine lv_dcmp hx hb dL_law_2036 ?_
  refine lv_if_eq (tgt := 2048) hx hb dL_law_2037 (by decide) (fun c4 => absurd c4 c3) (fun _ => ?_)
  refine lv_dload hx hb dL_law_2040 (lv_at hl 0 rfl) ?_
  refine lv_dload hx hb dL_law_2042 (lv_at hl 0 rfl) ?_
  refine lv_dcmp hx hb dL_law_2044 ?_
  refine lv_if_ne (tgt := 2050) hx hb dL_law_2045 (by decide) (fun _ => fin) (fun c4 => absurd c4 c3)

set_option maxHeartbeats 4000000 in
set_option maxRecDepth 100000 in
theorem law_28 {p : Program} {l : Launch} {e : Env} {s : State} {m : MethodId} {args : Array Value} {below : List Frame} {meth : Method} {c : Code} {H : Heap} {locs : List Loc} {cells slots : Nat} {Q : State → Prop} {D : va_G} {Y : CYs} {cD : ClassId} {b L : Nat} {xs : Nat → Int32} {A : Nat → Prop} {ls : Array Slot} {E Em : Nat → Nat} {qo qd t : Nat} {w : AW} {σ τ : Sta} {f : Nat → Int64} {fd : Nat → UInt64} (hF : LF p l s m args c D Y cD b L xs A) (h : REL w σ τ) (hP : va_P D vwCl (CWl Y cD E Em qo qd σ τ f fd) H) (hD : va_D A (CWl Y cD E Em qo qd σ τ f fd)) (hS : va_S A s.heap H locs) (hl : lv_has ls 9 (LV b qo qd t E Em)) (hj : 6 * t + 6 ≤ L) (hc : cells + 2 ≤ 601024) (hs : slots + 14 ≤ 7293034)
    (kk : ∀ (w : AW) (σ τ : Sta) (f : Nat → Int64) (fd : Nat → UInt64) (H : Heap) (locs : List Loc) (ls : Array Slot), REL w σ τ → va_P D vwCl (CWl Y cD E Em qo qd σ τ f fd) H → va_D A (CWl Y cD E Em qo qd σ τ f fd) → va_S A s.heap H locs → lv_has ls 9 (LV b qo qd t E Em) → W p l e room_1 s m args below meth c H locs (cells + 2) (slots + 14) Q (F0 m 2067 ls [])) : W p l e room_1 s m args below meth c H locs cells slots Q (F0 m 2053 ls []) := by
  obtain ⟨hC, hb, hml, hSW, hA, hKD, hX, hbl, hbA, ht, hL⟩ := id hF
  have hx := hC.1
  have hl : lv_has ls 9 [(0, .ref b), (1, .ref (E 0)), (2, .ref (Em 0)), (3, .ref qo), (4, .ref qd), (5, .int (nI (6 * t)))] := hl
  obtain ⟨r, σ', τ', g1, g2, hR⟩ := op_digest h
  refine lv_aload_n hx hb dL_law_2053 rfl (lv_at hl 1 rfl) ?_
  have hP := va_P_perm hP (pm_c _ _ _ _)
  have hD := va_D_perm hD (pm_c _ _ _ _)
  refine n_VL (Rs := ldA cD qd fd :: (wd Y Em τ 0 LM0 ++ [loA Y qo f])) (As := []) (rest := []) hC hb hml hl.1 hSW hP hD hS hA (c_X8_digest g1) (cw_L_212 hC rfl rfl ⟨(Nat.le_of_ble_eq_true rfl), (Nat.le_of_ble_eq_true rfl)⟩) lc_0 rfl rfl rfl (Nat.le_of_ble_eq_true rfl) dL_law_2054 ⟨by show cells + 0 ≤ 601024; omega, by show slots + 0 ≤ 7293034; omega⟩ (fun H locs hP hD hS => ?_)
  have hP := va_P_perm (va_P_perm hP (pm_c _ _ _ _).symm) (pm_b _ _ _ _)
  have hD := va_D_perm (va_D_perm hD (pm_c _ _ _ _).symm) (pm_b _ _ _ _)
  refine lv_aload_n hx hb dL_law_2057 rfl (lv_at hl 2 rfl) ?_
  refine n_VL (Rs := ldA cD qd fd :: loA Y qo f :: wd Y E σ' 0 LC) (As := []) (rest := [.long r]) hC hb hml hl.1 hSW hP hD hS hA (c_X10_digest lokM0 g2) (cw_L_215 hC rfl rfl ⟨(Nat.le_of_ble_eq_true rfl), (Nat.le_of_ble_eq_true rfl)⟩) (lm_0 []) rfl rfl rfl (Nat.le_of_ble_eq_true rfl) dL_law_2058 ⟨by show cells + 0 ≤ 601024; omega, by show slots + 0 ≤ 7293034; omega⟩ (fun H locs hP hD hS => ?_)
  refine W.lcmp hx hb dL_law_2061 ?_
  refine lv_if_eq (tgt := 2067) hx hb dL_law_2062 (by decide) (fun _ => ?_) (fun c1 => absurd (lgc r) c1)
  refine W.widen (k := cells + 2) (n := slots + 14) (by omega) (by omega) ?_
  exact kk w σ' τ' f fd H locs ls hR (va_P_perm hP (pm_b _ _ _ _).symm) (va_D_perm hD (pm_b _ _ _ _).symm) hS hl
