/-! THE CLAIM OUT OF ONE WALK OF THE LAW'S BODY. Your part is whole_start (and what it stands on); all else here is the same for every law, but numbers. -/
def R_law : String := "MarkovBenchLaw"
def lw_P (b : Addr) (xs : List Int32) (args : Array Value) (s : State) : Prop := args = #[.ref b] ∧ s.IntsAt b xs ∧ xs.length ≤ 3072 ∧ (Jvm.Cond.and given_1 narrow_1).before args s = true
/-- what a walk over the start with the record d0 says of its end, said of the start itself -/
theorem lw_closed {s t : State} {o : Outcome} {d0 : Drawn} {L : List Loc} {k n : Nat} (hd0 : s.drawn.sameBut d0 lw_cs) (hv : ∃ v, o = .returned v) (hW : (s.setDrawn d0).WarmedH t.vm) (hs : (s.setDrawn d0).sameButNew ({ t with vm := s.vm } : State) L k n) : State.butDraws s t lw_cs (fun t1 => Framed s o t1 L k n) := by
  have h2 : t.drawn = d0 := congrArg State.drawn hs.1
  refine ⟨⟨hv, hW, State.sameButNew.setDrawn hs s.drawn⟩, ?_, by decide⟩
  rw [h2]
  exact hd0
def lw_Q (_ : Array Value) (s : State) (o : Outcome) (t : State) : Prop := o = .returned (some (.int 1)) ∧ State.butDraws s t lw_cs (fun t1 => Framed s o t1 [] 601024 7293034)
def lw_Z (below : List Frame) (a : Array Value) (s : State) : State → Prop := fun t => ∃ o, t.status = .running ∧ Ended t below o ∧ lw_Q a s o t
/-- the law's own end, with 1 on the stack, nothing written that was there before, its room as the claim has it; d0: the record of draws at this point (at the entry s.drawn: begin with 'refine W.base ?_' and 'have hd0 := Drawn.sameBut.refl s.drawn lw_cs') -/
theorem lw_ret {p : Program} {l : Launch} {e : Env} {s : State} {m : MethodId} {below : List Frame} {meth : Method} {c : Code} {b : Nat} {d0 : Drawn} (hd0 : s.drawn.sameBut d0 lw_cs) (hx : p.tables.exec = Jvm.exec) (hb : c.code = code) (hr : meth.sig.returnType = ret) (hlocks : meth.locks = false) {pc : Nat} {H : Heap} {ls : Array Slot} (hdg : decode code pc = .ok (.ireturn, 1)) : W p l e room_1 (s.setDrawn d0) m #[Value.ref b] below meth c H [] 601024 7293034 (lw_Z below #[Value.ref b] s) (F0 m pc ls [.int 1]) := by
  intro T hT X
  obtain ⟨fs, hret, hrun, hended, hW, hframe⟩ := X.leave (v := some (.int 1)) (hlocks := hlocks) (fun h => by rw [hr] at h; cases h)
  have hmeth' : T.vm.method? m = some meth := X.method'
  refine ⟨T.setFrames fs, ?_, .returned (some (.int 1)), hrun, hended, rfl, lw_closed hd0 ⟨_, rfl⟩ hW hframe⟩
  jvm_step X.here [X.here.top, hx, hb, hdg, hmeth', hr, ret, narrow_b1]
  (try refine ⟨rfl, ?_⟩); (try refine ⟨rfl, ?_⟩)
  first | (intro acts; rw [hret _ acts rfl rfl rfl]) | rw [hret _ _ rfl rfl rfl]
  exact Steps.refl _
/-- what holds at the law's entry: the machine, the code, the tables' words (any of lw_tbl by 'hts w (by decide +kernel)'), the script of L ints xs at the cell b, what the Statement gives of the start (any of its parts by flat_of_before) -/
def lw_At (p : Program) (s : State) (m : MethodId) (meth : Method) (c : Code) (b L : Nat) (xs : Nat → Int32) : Prop :=
  p.tables.exec = Jvm.exec ∧ c.code = code ∧ meth.sig.returnType = ret ∧ c.maxLocals = 9 ∧ s.vm.findClass R_law = some m.cls ∧ (∀ w ∈ lw_tbl, w.before #[Value.ref b] s = true) ∧ va_X b L xs s s.heap ∧ b < s.heap.size ∧ meth.locks = false ∧ (Jvm.Cond.and given_1 narrow_1).before #[Value.ref b] s = true

theorem PcB_blind {h0 : Nat} {Y : CYs} {D : va_G} {sz : Nat} : FrameBlind (PcB h0 Y D sz) := fun a U g mk q => by
  obtain ⟨q0, q1, qP, qK, qD, qN, qS, qA⟩ := q
  exact ⟨q0, q1, qP, va_K.moved (u := U) (U := U.calling g mk a) (Vm.Alike.refl U.vm) qK, qD, NW.same (s := U) (U := U.calling g mk a) rfl qN, SW.same (u := U) (U := U.calling g mk a) rfl qS, va_AO.moved (u := U) (U := U.calling g mk a) (Vm.Alike.refl U.vm) qA⟩
section CV
variable {p : Program} {l : Launch} {e : Env} {R : Room} {s : State} {m : MethodId} {args : Array Value} {below : List Frame} {meth : Method} {c : Code} {H : Heap} {locs : List Loc} {cells slots mc ms : Nat} {Q : State → Prop}
variable {D : va_G} {Y : CYs} {own : String} {cc bytes : ByteArray} {pc nL maxL n index q : Nat} {ls : Array Slot} {st rest As : List Value} {y : MethodName} {rm : Room} {A : Nat → Prop} {Rs C0 : va_W}
theorem n_CV {S : Type} {post : S → Prop} {B : Nat → S → State → Prop} {Pc : Nat → Array Value → State → Prop} (hC : Ctx p s m args own D Y) (hb : c.code = cc) (hml : c.maxLocals = nL) (hls : ls.size = nL) (hP : va_P D vwCl (Rs ++ C0) H) (hD : va_D A (Rs ++ C0)) (hS : va_S A s.heap H locs) (hA : ∀ q, s.heap.size ≤ q → A q)
    (hM : ∀ sz, Met l y (Cond.code y bytes maxL none :: gW) rm (Pc sz) (va_Qv post (B sz) (va_A C0 sz)) mc ms (va_A C0 sz)) (hp : PreS s H (Pc H.size) (.ref q :: As))
    (cw : CallB R s args own index y bytes maxL none (Cond.code y bytes maxL none :: gW) rm mc ms n ∧ y.name = "<init>" ∧ (Cond.instanceMethod y).before args s = true)
    (hn : As.length = n) (hst : st = As.reverse ++ .ref q :: rest) (hcat : (rest.map fun v => v.category).sum ≤ 8) (hdg : decode cc pc = .ok (.invokespecial index, 3)) (hf : cells + mc ≤ R.cells ∧ slots + ms ≤ R.slots)
    (kk : ∀ (u : S) (t : State) (H1 : Heap) (locs1 : List Loc), t.heap = H1 → post u → B H.size u t → (∀ q : Nat, q < H.size → ¬ va_A C0 H.size q → H1[q]? = H[q]?) → va_S A s.heap H1 locs1 → W p l e R s m args below meth c H1 locs1 (cells + mc) (slots + ms) Q (F0 m (pc + 3) ls rest)) : W p l e R s m args below meth c H locs cells slots Q (F0 m pc ls st) := by
  subst hst
  have run : va_Run p l e R s m args below meth c H locs cells slots mc ms (F0 m pc ls (As.reverse ++ .ref q :: rest)) rest (va_Qv post (B H.size) (va_A C0 H.size) (Value.ref q :: As).toArray) (va_A C0 H.size) :=
    va_runI (As := As) (rest := rest) ⟨hC.1, hb, hml, hC.2.2.1, hC.2.1⟩ (hM H.size) cw hp rfl hn hls rfl (lv_room (ls := ls) hcat) hdg hf
  exact va_callv run hS (fun q _ h => tl_free hD hS hA q h) (fun q h => tl_free hD hS hA q h) (fun u t H1 locs1 ht hvm hw hB hz1 hk1 hS1 => kk u t H1 locs1 ht hw hB hk1 hS1)
end CV
theorem pm_s {α : Type} (d o : α) (M C : List α) : (((C ++ M) ++ [o]) ++ [d]).Perm ((d :: M) ++ (o :: C)) :=
  List.perm_append_comm.trans (List.Perm.cons d ((List.Perm.of_eq (by simp)).trans ((List.perm_append_comm (l₁ := C) (l₂ := M ++ [o])).trans (List.Perm.of_eq (by simp)))))
set_option maxHeartbeats 4000000 in
set_option maxRecDepth 100000 in
theorem whole_start {p : Program} {e : Env} {s : State} {m : MethodId} {below : List Frame} {meth : Method} {c : Code} (l : Launch) (hflags : l.flags = flags0) {b L : Nat} {xs : Nat → Int32} (hL : L ≤ 3072) (C0 : lw_At p s m meth c b L xs) : W p l e room_1 s m #[Value.ref b] below meth c s.heap [] 0 0 (lw_Z below #[Value.ref b] s) (entryFrame m ([Value.ref b] : List Value).toArray 9) := by
  obtain ⟨hx, hb, hr, hml, hown, hts, hX, hbl, hlk, hgv⟩ := C0
  have hs := flat_of_before _ hgv
  have ht : ∀ w ∈ tables_1, w.before #[Value.ref b] s = true := fun w h => hts w (List.mem_append_right _ h)
  have hg : ∀ w ∈ gW, w.before #[Value.ref b] s = true := fun w h => hts w (List.mem_filter.mp h).1
  obtain ⟨D, Y, hK⟩ := start_K ht hg
  have hC : Ctx p s m #[Value.ref b] RL D Y := ⟨hx, hg, hown, hK, start_NW hs ht⟩
  have hSW : SW (fun q => s.heap.size ≤ q) s s.heap := start_SW hs ht
  have hAO : va_AO "MarkovBench$Strategy" s := va_AO.of (A := #[Value.ref b]) (ht (.arrayOver (.object "MarkovBench$Strategy")) (by decide +kernel))
  have hst : l.stackTraces = false := by
    unfold Launch.stackTraces
    rw [hflags]
    decide +kernel
  have hb : c.code = cL_law := hb
  generalize hAe : (fun q => s.heap.size ≤ q) = A at hSW
  have hA : ∀ q : Nat, s.heap.size ≤ q → A q := fun q h => by rw [← hAe]; exact h
  have hbA : ¬ A b := fun h => by rw [← hAe] at h; exact Nat.not_le.mpr hbl h
  have hl := lv_entry [Value.ref b] (n := 9) (Nat.le_of_ble_eq_true rfl)
  rw [lg_entry_eq]
  suffices key : ∀ ls : Array Slot, lv_has ls 9 [(0, .ref b)] → W p l e room_1 s m #[Value.ref b] below meth c s.heap [] 0 0 (lw_Z below #[Value.ref b] s) (F0 m 0 ls []) from key _ hl
  intro ls hl
  have hS : va_S A s.heap s.heap [] := va_S.rf
  have hP : va_P D vwCl ([] : va_W) s.heap := fun k q h => (by cases h)
  have hD : va_D A ([] : va_W) := ⟨fun i j p q h => (by cases h), fun k q h => (by cases h)⟩
  refine n_new (ci := 8) (fs := [.null, .int 0, .null, .null, .null, .null, .null, .null, .null, .null, .null, .int 0, .int 0, .long 0]) hC hb inGX8 tyX8 tyX8_ok (gw_t (tb1 (List.mem_of_getElem? (i := 26) rfl)) rfl) (gw_t (tb1 (List.mem_of_getElem? (i := 27) rfl)) rfl) (gw_t (tb1 (List.mem_of_getElem? (i := 1) rfl)) rfl) hP hD hS hA rfl (fun j hj => match j, hj with | 0, _ => rfl | 1, _ => rfl | 2, _ => rfl | 3, _ => rfl | 4, _ => rfl | 5, _ => rfl | 6, _ => rfl | 7, _ => rfl | 8, _ => rfl | 9, _ => rfl | 10, _ => rfl | 11, _ => rfl | 12, _ => rfl | 13, _ => rfl | n + 14, h => absurd h (by omega)) (Nat.le_of_ble_eq_true rfl) (Nat.le_of_ble_eq_true rfl) dL_law_0 (fun h0 H hP hD hS => ?_)
  have hP : va_P D vwCl (([] : va_W) ++ n0_X8 h0) H := hP
  have hD : va_D A (([] : va_W) ++ n0_X8 h0) := hD
  refine lv_dup hx hb dL_law_3 rfl ?_
  have hR_X8 : rn_X8.frames + 1 ≤ room_1.frames ∧ 8 + (2 + 11) + rn_X8.locals ≤ room_1.locals := ⟨(Nat.le_of_ble_eq_true rfl), (Nat.le_of_ble_eq_true rfl)⟩
  refine n_CV (Rs := []) (C0 := n0_X8 h0) (As := []) (rest := [.ref h0]) (Pc := PcB h0 Y D) hC hb hml hl.1 hP hD hS hA (fun sz => c_X8_init sz) ⟨PcB_blind, fun U hU hW => by
    obtain ⟨q0, q1, qP, qK, qD, qN, qS⟩ := tl_pre (As := [.ref h0]) hC hSW hP hD hS hA U hU hW
    exact ⟨q0, q1, qP, qK, qD, qN, qS, va_AO.moved hW.alike hAO⟩⟩ (cwI 0 hC.2.1 (gi_law (gw_t (tb1 (List.mem_of_getElem? (i := 30) rfl)) rfl)) rfl rfl rfl (hC.2.1 (Cond.initialized RX8) (gw_t (tb1 (List.mem_of_getElem? (i := 1) rfl)) rfl)) (hC.2.1 (Cond.methodLink RL 101 yX8_init) (gw_t (tb1 (List.mem_of_getElem? (i := 28) rfl)) rfl)) (hC.2.1 (Cond.instanceMethod yX8_init) (gw_t (tb1 (List.mem_of_getElem? (i := 29) rfl)) rfl)) rfl (by decide +kernel) hR_X8) rfl rfl (Nat.le_of_ble_eq_true rfl) dL_law_4 ⟨(Nat.le_of_ble_eq_true rfl), (Nat.le_of_ble_eq_true rfl)⟩ (fun E t H1 locs ht1 hE hB hk hS1 => ?_)
  obtain ⟨hP1, -, hD1⟩ := hB
  rw [ht1] at hP1
  obtain ⟨hP, hD⟩ := tl_join hP hD hS hA hk hP1 hD1
  have hS := hS1
  refine lv_astore_n (lv' := [(1, .ref h0), (0, .ref b)]) hx hb dL_law_7 rfl hl (by decide) rfl (fun ls hl => ?_)
  refine n_new (ci := 10) (fs := [.int 0, .null, .null, .int 0, .int 0, .null, .null, .null, .int 0, .null, .int 0, .null, .null, .null, .null, .int 0, .null, .null, .int 0, .int 0, .null, .null, .null, .null, .null, .null, .int 0, .null, .null, .int 0, .int 0, .int 0, .int 0, .int 0, .int 0, .int 0, .long 0, .int 0, .null, .null, .null, .null, .null, .null, .null, .null, .null, .int 0, .null, .null, .null, .null, .null, .null, .null, .long 0, .null]) hC hb inGX10 tyX10 tyX10_ok (gw_t (tb6 (List.mem_of_getElem? (i := 34) rfl)) rfl) (gw_t (tb6 (List.mem_of_getElem? (i := 35) rfl)) rfl) (gw_t (tb1 (List.mem_of_getElem? (i := 10) rfl)) rfl) hP hD hS hA rfl (fun j hj => match j, hj with | 0, _ => rfl | 1, _ => rfl | 2, _ => rfl | 3, _ => rfl | 4, _ => rfl | 5, _ => rfl | 6, _ => rfl | 7, _ => rfl | 8, _ => rfl | 9, _ => rfl | 10, _ => rfl | 11, _ => rfl | 12, _ => rfl | 13, _ => rfl | 14, _ => rfl | 15, _ => rfl | 16, _ => rfl | 17, _ => rfl | 18, _ => rfl | 19, _ => rfl | 20, _ => rfl | 21, _ => rfl | 22, _ => rfl | 23, _ => rfl | 24, _ => rfl | 25, _ => rfl | 26, _ => rfl | 27, _ => rfl | 28, _ => rfl | 29, _ => rfl | 30, _ => rfl | 31, _ => rfl | 32, _ => rfl | 33, _ => rfl | 34, _ => rfl | 35, _ => rfl | 36, _ => rfl | 37, _ => rfl | 38, _ => rfl | 39, _ => rfl | 40, _ => rfl | 41, _ => rfl | 42, _ => rfl | 43, _ => rfl | 44, _ => rfl | 45, _ => rfl | 46, _ => rfl | 47, _ => rfl | 48, _ => rfl | 49, _ => rfl | 50, _ => rfl | 51, _ => rfl | 52, _ => rfl | 53, _ => rfl | 54, _ => rfl | 55, _ => rfl | 56, _ => rfl | n + 57, h => absurd h (by omega)) (Nat.le_of_ble_eq_true rfl) (Nat.le_of_ble_eq_true rfl) dL_law_8 (fun h1 H hP hD hS => ?_)
  have hP : va_P D vwCl (([] ++ wd Y E σC0 0 LC) ++ n0_X10 h1) H := hP
  have hD : va_D A (([] ++ wd Y E σC0 0 LC) ++ n0_X10 h1) := hD
  refine lv_dup hx hb dL_law_11 rfl ?_
  have hR_X10 : rm_X10_init.frames + 1 ≤ room_1.frames ∧ 8 + (5 + 11) + rm_X10_init.locals ≤ room_1.locals := ⟨(Nat.le_of_ble_eq_true rfl), (Nat.le_of_ble_eq_true rfl)⟩
  refine n_CV (Rs := [] ++ wd Y E σC0 0 LC) (C0 := n0_X10 h1) (As := []) (rest := [.ref h1]) (Pc := fun sz => PcN (n0_X10 h1) Y D sz [.ref h1]) hC hb hml hl.1 hP hD hS hA (fun sz => c_X10_init sz) ⟨PcN_blind, tl_pre hC hSW hP hD hS hA⟩ (cwI 0 hC.2.1 (gi_law (gw_t (tb6 (List.mem_of_getElem? (i := 38) rfl)) rfl)) rfl rfl rfl (hC.2.1 (Cond.initialized RX10) (gw_t (tb1 (List.mem_of_getElem? (i := 10) rfl)) rfl)) (hC.2.1 (Cond.methodLink RL 104 yX10_init) (gw_t (tb6 (List.mem_of_getElem? (i := 36) rfl)) rfl)) (hC.2.1 (Cond.instanceMethod yX10_init) (gw_t (tb6 (List.mem_of_getElem? (i := 37) rfl)) rfl)) rfl (by decide +kernel) hR_X10) rfl rfl (Nat.le_of_ble_eq_true rfl) dL_law_12 ⟨(Nat.le_of_ble_eq_true rfl), (Nat.le_of_ble_eq_true rfl)⟩ (fun u t H1 locs ht1 hu hB hk hS1 => ?_)
  obtain ⟨Em, g⟩ := u
  obtain ⟨hEm, hgk⟩ := hu
  obtain ⟨hP1, -, hD1⟩ := hB
  rw [ht1] at hP1
  obtain ⟨hP, hD⟩ := tl_join hP hD hS hA hk hP1 hD1
  have hS := hS1
  refine lv_astore_n (lv' := [(2, .ref h1), (1, .ref h0), (0, .ref b)]) hx hb dL_law_15 rfl hl (by decide) rfl (fun ls hl => ?_)
  refine lv_iconst (v := 1) hx hb dL_law_16 (by decide) ?_
  refine n_arrJ (N' := 1) hC hb hP hD hS hA (by decide) (by decide) (Nat.le_of_ble_eq_true rfl) (Nat.le_of_ble_eq_true rfl) (Nat.le_of_ble_eq_true rfl) dL_law_17 (fun qo H hP hD hS => ?_)
  refine lv_astore_n (lv' := [(3, .ref qo), (2, .ref h1), (1, .ref h0), (0, .ref b)]) hx hb dL_law_19 rfl hl (by decide) rfl (fun ls hl => ?_)
  refine lv_iconst (v := 1) hx hb dL_law_20 (by decide) ?_
  refine va_newa (atype := .double) (ty := .double) (N' := 1) (a0 := (1, .inr (.inr (.inr (.inl (fun _ => 0)))))) hx hb (ht (.arrayClass .double) (by decide +kernel)) rfl hK hP hD hS hA (fun _ => rfl) (by decide) (by decide) (Nat.le_of_ble_eq_true rfl) (Nat.le_of_ble_eq_true rfl) (Nat.le_of_ble_eq_true rfl) dL_law_21 (fun qd cD H hKD hP hD hS => ?_)
  refine lv_astore (lv' := [(4, .ref qd), (3, .ref qo), (2, .ref h1), (1, .ref h0), (0, .ref b)]) hx hb dL_law_23 hl (by decide) rfl (fun ls hl => ?_)
  refine lv_iconst (v := 0) hx hb dL_law_25 (by decide) ?_
  refine lv_istore (lv' := [(5, .int 0), (4, .ref qd), (3, .ref qo), (2, .ref h1), (1, .ref h0), (0, .ref b)]) hx hb dL_law_26 hl (by decide) rfl (fun ls hl => ?_)
  have hEz : E 0 = h0 := hE
  have hEmz : Em 0 = h1 := hEm
  have hSz := hS
  have hlz : lv_has ls 9 [(5, .int 0), (4, .ref qd), (3, .ref qo), (2, .ref (Em 0)), (1, .ref (E 0)), (0, .ref b)] := by rw [hEz, hEmz]; exact hl
  have hPz : va_P D vwCl (CWl Y cD E Em qo qd σC0 (sJ τN 1 g) (fun _ => 0) (fun _ => 0)) H := va_P_perm hP (pm_s _ _ _ _)
  have hDz : va_D A (CWl Y cD E Em qo qd σC0 (sJ τN 1 g) (fun _ => 0) (fun _ => 0)) := va_D_perm hD (pm_s _ _ _ _)
  have hF : LF p l s m #[Value.ref b] c D Y cD b L xs A := ⟨hC, hb, hml, hSW, hA, hKD, hX, hbl, hbA, hst, hL⟩
  refine law_loop (K0 := 146) (S0 := 264398) (Nat.le_of_ble_eq_true rfl) (Nat.le_of_ble_eq_true rfl) hF (fun H locs ls cells slots hS hc hs => ?_) 513 0 wE σC0 (sJ τN 1 g) (fun _ => 0) (fun _ => 0) H locs ls (Nat.le_of_ble_eq_true rfl) (by omega) (rel0 hgk) hPz hDz hSz (lv_sub hlz [5, 4, 3, 2, 1, 0] rfl)
  refine lv_iconst (v := 1) hx hb dL_law_2073 (by decide) ?_
  refine va_forget (fun q hq => by
    have h1 := hS.2.2 q hq
    rw [← hAe] at h1
    exact h1) ?_
  refine W.widen (k := 601024) (n := 7293034) hc hs ?_
  exact lw_ret (Drawn.sameBut.refl s.drawn lw_cs) hx hb hr hlk dL_law_2074
