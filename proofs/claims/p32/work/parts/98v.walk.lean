/-! THE CLAIM OUT OF ONE WALK OF THE LAW'S BODY. Your part is whole_start (and what it stands on); all else here is the same for every law, but numbers. -/
def R_law : String := "MarkovBenchLaw"
def lw_P (b : Addr) (xs : List Int32) (args : Array Value) (s : State) : Prop := args = #[.ref b] ∧ s.IntsAt b xs ∧ xs.length ≤ 260 ∧ (Jvm.Cond.and given_1 narrow_1).before args s = true
def lw_Q (_ : Array Value) (s : State) (o : Outcome) (t : State) : Prop := o = .returned (some (.int 1)) ∧ Framed s o t [] 600086 7301442
def lw_Z (below : List Frame) (a : Array Value) (s : State) : State → Prop := fun t => ∃ o, t.status = .running ∧ Ended t below o ∧ lw_Q a s o t
/-- the law's own end, with 1 on the stack, nothing written that was there before, its room as the claim has it -/
theorem lw_ret {p : Program} {l : Launch} {e : Env} {s : State} {m : MethodId} {below : List Frame} {meth : Method} {c : Code} {b : Nat} (hx : p.tables.exec = Jvm.exec) (hb : c.code = code) (hr : meth.sig.returnType = ret) (hlocks : meth.locks = false) {pc : Nat} {H : Heap} {ls : Array Slot} (hdg : decode code pc = .ok (.ireturn, 1)) : W p l e room_1 s m #[Value.ref b] below meth c H [] 600086 7301442 (lw_Z below #[Value.ref b] s) (F0 m pc ls [.int 1]) := by
  intro T hT X
  obtain ⟨fs, hret, hrun, hended, hW, hframe⟩ := X.leave (v := some (.int 1)) (hlocks := hlocks) (fun h => by rw [hr] at h; cases h)
  have hmeth' : T.vm.method? m = some meth := X.method'
  refine ⟨T.setFrames fs, ?_, .returned (some (.int 1)), hrun, hended, rfl, ⟨_, rfl⟩, hW, hframe⟩
  jvm_step X.here [X.here.top, hx, hb, hdg, hmeth', hr, ret, narrow_b1]
  (try refine ⟨rfl, ?_⟩); (try refine ⟨rfl, ?_⟩)
  first | (intro acts; rw [hret _ acts rfl rfl rfl]) | rw [hret _ _ rfl rfl rfl]
  exact Steps.refl _
/-- what holds at the law's entry: the machine, the code, the tables' words (any of lw_tbl by 'hts w (by decide +kernel)'), the script of L ints xs at the cell b, what the Statement gives of the start (any of its parts by flat_of_before) -/
def lw_At (p : Program) (s : State) (m : MethodId) (meth : Method) (c : Code) (b L : Nat) (xs : Nat → Int32) : Prop :=
  p.tables.exec = Jvm.exec ∧ c.code = code ∧ meth.sig.returnType = ret ∧ c.maxLocals = 18 ∧ s.vm.findClass R_law = some m.cls ∧ (∀ w ∈ lw_tbl, w.before #[Value.ref b] s = true) ∧ va_X b L xs s s.heap ∧ b < s.heap.size ∧ meth.locks = false ∧ (Jvm.Cond.and given_1 narrow_1).before #[Value.ref b] s = true

theorem PcB_blind {h0 : Nat} {Y : CYs} {D : va_G} {sz : Nat} : FrameBlind (PcB h0 Y D sz) := fun a U g mk q => by
  obtain ⟨q0, q1, qP, qK, qD, qN, qS, qA⟩ := q
  exact ⟨q0, q1, qP, va_K.moved (u := U) (U := U.calling g mk a) (Vm.Alike.refl U.vm) qK, qD, NW.same (s := U) (U := U.calling g mk a) rfl qN, SW.same (u := U) (U := U.calling g mk a) rfl qS, va_AO.moved (u := U) (U := U.calling g mk a) (Vm.Alike.refl U.vm) qA⟩
section CV
variable {p : Program} {l : Launch} {e : Env} {R : Room} {s : State} {m : MethodId} {args : Array Value} {below : List Frame} {meth : Method} {c : Code} {H : Heap} {locs : List Loc} {cells slots mc ms : Nat} {Q : State → Prop}
variable {D : va_G} {Y : CYs} {own : String} {cc bytes : ByteArray} {pc nL maxL n index q : Nat} {ls : Array Slot} {st rest As : List Value} {y : MethodName} {rm : Room} {A : Nat → Prop} {Rs C0 : va_W}
theorem n_CV {S : Type} {post : S → Prop} {B : Nat → S → State → Prop} {Pc : Nat → Array Value → State → Prop} (hC : Ctx p s m args own D Y) (hb : c.code = cc) (hml : c.maxLocals = nL) (hls : ls.size = nL) (hP : va_P D vwCl (Rs ++ C0) H) (hD : va_D A (Rs ++ C0)) (hS : va_S A s.heap H locs) (hA : ∀ q, s.heap.size ≤ q → A q)
    (hM : ∀ sz, Met l y (Cond.code y bytes maxL none :: gW) rm (Pc sz) (va_Qv post (B sz) (va_A C0 sz)) mc ms (va_A C0 sz)) (hp : PreS s H (Pc H.size) (.ref q :: As))
    (cw : CallB R s args own index y bytes maxL none (Cond.code y bytes maxL none :: gW) rm mc ms n ∧ y.name = "<init>" ∧ (Cond.instanceMethod y).before args s = true)
    (hn : As.length = n) (hst : st = As.reverse ++ .ref q :: rest) (hcat : (rest.map fun v => v.category).sum ≤ 8) (hdg : decode cc pc = .ok (.invokespecial index, 3)) (hf : cells + mc ≤ R.cells ∧ slots + ms ≤ R.slots)
    (kk : ∀ (u : S) (t : State) (H1 : Heap) (locs1 : List Loc), t.heap = H1 → post u → B H.size u t → (∀ q : Nat, q < H.size → ¬ va_A C0 H.size q → H1[q]? = H[q]?) → va_S A s.heap H1 locs1 → W p l e R s m args below meth c H1 locs1 (cells + mc) (slots + ms) Q (F0 m (pc + 3) ls rest)) : W p l e R s m args below meth c H locs cells slots Q (F0 m pc ls st) := by
  subst hst
  have run : va_Run p l e R s m args below meth c H locs cells slots mc ms (F0 m pc ls (As.reverse ++ .ref q :: rest)) rest (va_Qv post (B H.size) (va_A C0 H.size) (Value.ref q :: As).toArray) (va_A C0 H.size) :=
    va_runI (As := As) (rest := rest) ⟨hC.1, hb, hml, hC.2.2.1, hC.2.1⟩ (hM H.size) cw hp rfl hn hls rfl (lv_room (ls := ls) hcat) hdg hf
  exact va_callv run hS (fun q _ h => tl_free hD hS hA q h) (fun q h => tl_free hD hS hA q h) (fun u t H1 locs1 ht hvm hw hB hz1 hk1 hS1 => kk u t H1 locs1 ht hw hB hk1 hS1)
end CV
set_option maxHeartbeats 4000000 in
set_option maxRecDepth 100000 in
theorem whole_start {p : Program} {e : Env} {s : State} {m : MethodId} {below : List Frame} {meth : Method} {c : Code} (l : Launch) (hflags : l.flags = flags0) {b L : Nat} {xs : Nat → Int32} (hL : L ≤ 260) (C0 : lw_At p s m meth c b L xs) : W p l e room_1 s m #[Value.ref b] below meth c s.heap [] 0 0 (lw_Z below #[Value.ref b] s) (entryFrame m ([Value.ref b] : List Value).toArray 18) := by
  obtain ⟨hx, hb, hr, hml, hown, hts, hX, hbl, hlk, hgv⟩ := C0
  have hs := flat_of_before _ hgv
  have ht : ∀ w ∈ tables_1, w.before #[Value.ref b] s = true := fun w h => hts w (List.mem_append_right _ h)
  have hg : ∀ w ∈ gW, w.before #[Value.ref b] s = true := start_g hts
  obtain ⟨D, Y, hK⟩ := start_K ht hg
  have hC : Ctx p s m #[Value.ref b] RL D Y := ⟨hx, hg, hown, hK, start_NW ht⟩
  have hSW : SW (fun q => s.heap.size ≤ q) s s.heap := start_SW hs ht
  have hAO : va_AO "MarkovBench$Strategy" s := va_AO.of (A := #[Value.ref b]) (ht (.arrayOver (.object "MarkovBench$Strategy")) (tb2 (List.mem_of_getElem? (i := 44) rfl)))
  have hb : c.code = cL_law := hb
  generalize hAe : (fun q => s.heap.size ≤ q) = A at hSW
  have hA : ∀ q : Nat, s.heap.size ≤ q → A q := fun q h => by rw [← hAe]; exact h
  have hbA : ¬ A b := fun h => by rw [← hAe] at h; exact Nat.not_le.mpr hbl h
  have hSC : SCR b L xs A s s.heap := ⟨hX, hbl, hbA⟩
  have hF : GF p s m #[Value.ref b] meth c RL cL_law 18 ret D Y A := ⟨hC, hb, hml, hr, hlk, hSW, hA⟩
  have hl := lv_entry [Value.ref b] (n := 18) (Nat.le_of_ble_eq_true rfl)
  rw [lg_entry_eq]
  suffices key : ∀ ls : Array Slot, lv_has ls 18 [(0, .ref b)] → W p l e room_1 s m #[Value.ref b] below meth c s.heap [] 0 0 (lw_Z below #[Value.ref b] s) (F0 m 0 ls []) from key _ hl
  intro ls hl
  have hS : va_S A s.heap s.heap [] := va_S.rf
  have hP : va_P D vwCl ([] : va_W) s.heap := fun k q h => (by cases h)
  have hD : va_D A ([] : va_W) := ⟨fun i j p q h => (by cases h), fun k q h => (by cases h)⟩
  refine n_new (ci := 10) (fs := [.null, .int 0, .null, .null, .null, .null, .null, .null, .null, .null, .null, .int 0, .int 0, .long 0]) hC hb inGX8 tyX8 tyX8_ok (gw_t (tb1 (List.mem_of_getElem? (i := 30) rfl)) rfl) (gw_t (tb1 (List.mem_of_getElem? (i := 31) rfl)) rfl) (gw_t (tb1 (List.mem_of_getElem? (i := 1) rfl)) rfl) hP hD hS hA rfl (fun j hj => match j, hj with | 0, _ => rfl | 1, _ => rfl | 2, _ => rfl | 3, _ => rfl | 4, _ => rfl | 5, _ => rfl | 6, _ => rfl | 7, _ => rfl | 8, _ => rfl | 9, _ => rfl | 10, _ => rfl | 11, _ => rfl | 12, _ => rfl | 13, _ => rfl | n + 14, h => absurd h (by omega)) (Nat.le_of_ble_eq_true rfl) (Nat.le_of_ble_eq_true rfl) dL_law_0 (fun h0 H hP hD hS => ?_)
  have hP : va_P D vwCl (([] : va_W) ++ n0_X8 h0) H := hP
  have hD : va_D A (([] : va_W) ++ n0_X8 h0) := hD
  refine lv_dup hx hb dL_law_3 rfl ?_
  refine n_CV (Rs := []) (C0 := n0_X8 h0) (As := []) (rest := [.ref h0]) (Pc := PcB h0 Y D) hC hb hml hl.1 hP hD hS hA (fun sz => c_X8_init sz) ⟨PcB_blind, fun U hU hW => by
    obtain ⟨q0, q1, qP, qK, qD, qN, qS⟩ := tl_pre (As := [.ref h0]) hC hSW hP hD hS hA U hU hW
    exact ⟨q0, q1, qP, qK, qD, qN, qS, va_AO.moved hW.alike hAO⟩⟩ (cwI 0 hC.2.1 (gi_law (gw_t (tb1 (List.mem_of_getElem? (i := 34) rfl)) rfl)) rfl rfl rfl (hC.2.1 (Cond.initialized RX8) (gw_t (tb1 (List.mem_of_getElem? (i := 1) rfl)) rfl)) (hC.2.1 (Cond.methodLink RL 37 yX8_init) (gw_t (tb1 (List.mem_of_getElem? (i := 32) rfl)) rfl)) (hC.2.1 (Cond.instanceMethod yX8_init) (gw_t (tb1 (List.mem_of_getElem? (i := 33) rfl)) rfl)) rfl (by decide +kernel) ⟨(Nat.le_of_ble_eq_true rfl), (Nat.le_of_ble_eq_true rfl)⟩) rfl rfl (Nat.le_of_ble_eq_true rfl) dL_law_4 ⟨(Nat.le_of_ble_eq_true rfl), (Nat.le_of_ble_eq_true rfl)⟩ (fun E t H1 locs ht1 hE hB hk hS1 => ?_)
  have hE : E 0 = h0 := hE
  obtain ⟨hP1, -, hD1⟩ := hB
  rw [ht1] at hP1
  obtain ⟨hP, hD⟩ := tl_join hP hD hS hA hk hP1 hD1
  have hS := hS1
  have hP : va_P D vwCl (wd Y E σC0 0 LC) H1 := hP
  have hD : va_D A (wd Y E σC0 0 LC) := hD
  refine lv_astore_n (lv' := [(1, .ref h0), (0, .ref b)]) hx hb dL_law_7 rfl hl (by decide) rfl (fun ls hl => ?_)
  have hl : lv_has ls 18 [(1, .ref (E 0)), (0, .ref b)] := by rw [hE]; exact hl
  refine n_new (ci := 11) (fs := [.int 0, .int 0, .int 0, .int 0, .int 0, .int 0, .int 0, .int 0, .int 0, .null, .int 0]) hC hb inGX9 tyX9 tyX9_ok (gw_t (tb3 (List.mem_of_getElem? (i := 162) rfl)) rfl) (gw_t (tb3 (List.mem_of_getElem? (i := 163) rfl)) rfl) (gw_t (tb1 (List.mem_of_getElem? (i := 10) rfl)) rfl) hP hD hS hA rfl (fun j hj => match j, hj with | 0, _ => rfl | 1, _ => rfl | 2, _ => rfl | 3, _ => rfl | 4, _ => rfl | 5, _ => rfl | 6, _ => rfl | 7, _ => rfl | 8, _ => rfl | 9, _ => rfl | 10, _ => rfl | n + 11, h => absurd h (by omega)) (Nat.le_of_ble_eq_true rfl) (Nat.le_of_ble_eq_true rfl) dL_law_8 (fun hk H hP hD hS => ?_)
  have hP : va_P D vwCl (wd Y E σC0 0 LC ++ ([(hk, .inr (11, [.int 0, .int 0, .int 0, .int 0, .int 0, .int 0, .int 0, .int 0, .int 0, .null, .int 0]))] : va_W)) H := hP
  have hD : va_D A (wd Y E σC0 0 LC ++ ([(hk, .inr (11, [.int 0, .int 0, .int 0, .int 0, .int 0, .int 0, .int 0, .int 0, .int 0, .null, .int 0]))] : va_W)) := hD
  refine lv_dup hx hb dL_law_11 rfl ?_
  refine lv_aload_n hx hb dL_law_12 rfl (lv_at hl 1 rfl) ?_
  refine lv_iconst (v := 0) hx hb dL_law_13 (by decide) ?_
  refine g_v (Rs := wd Y E σC0 0 LC) (C0 := ([(hk, .inr (11, [.int 0, .int 0, .int 0, .int 0, .int 0, .int 0, .int 0, .int 0, .int 0, .null, .int 0]))] : va_W)) (As := [.ref hk, .ref b, .int 0]) hF hP hD hS SCR_ok (X_at (Rs := wd Y E σC0 0 LC) (C0 := ([(hk, .inr (11, [.int 0, .int 0, .int 0, .int 0, .int 0, .int 0, .int 0, .int 0, .int 0, .null, .int 0]))] : va_W)) SCR_ok hF hSC hD hS) (rI (As := [.ref b, .int 0]) (rest := [.ref hk]) hF hl (c_X9_init hL _) (cwI 2 hC.2.1 (gi_law (gw_t (tb3 (List.mem_of_getElem? (i := 166) rfl)) rfl)) rfl rfl rfl (hC.2.1 (Cond.initialized RX9) (gw_t (tb1 (List.mem_of_getElem? (i := 10) rfl)) rfl)) (hC.2.1 (Cond.methodLink RL 40 yX9_init) (gw_t (tb3 (List.mem_of_getElem? (i := 164) rfl)) rfl)) (hC.2.1 (Cond.instanceMethod yX9_init) (gw_t (tb3 (List.mem_of_getElem? (i := 165) rfl)) rfl)) rfl (by decide +kernel) ⟨(Nat.le_of_ble_eq_true rfl), (Nat.le_of_ble_eq_true rfl)⟩) rfl rfl (Nat.le_of_ble_eq_true rfl) dL_law_14 ⟨(Nat.le_of_ble_eq_true rfl), (Nat.le_of_ble_eq_true rfl)⟩) (fun u H locs hw hP hD hS => ?_)
  obtain ⟨v, gg, mm⟩ := u
  obtain ⟨nn, ff, pp, qq, bk, aj, bb, jp, go, hw⟩ := hw
  have hw : WKr v nn ff pp qq bk aj bb jp go := hw
  have hP : va_P D vwCl (wd Y E σC0 0 LC ++ ([(hk, .inr (11, wkO v gg mm))] : va_W)) H := hP
  have hD : va_D A (wd Y E σC0 0 LC ++ ([(hk, .inr (11, wkO v gg mm))] : va_W)) := hD
  refine lv_astore_n (lv' := [(2, .ref hk), (1, .ref (E 0)), (0, .ref b)]) hx hb dL_law_17 rfl hl (by decide) rfl (fun ls hl => ?_)
  refine lv_aload_n hx hb dL_law_18 rfl (lv_at hl 1 rfl) ?_
  refine lv_aload_n hx hb dL_law_19 rfl (lv_at hl 0 rfl) ?_
  obtain ⟨an, aa, haa, hTx⟩ := text_any (l := l) (D := D) (Y := Y) (h := hk) (g := gg) (mm := mm) hw
  refine g_r (Rs := wd Y E σC0 0 LC) (C0 := ([(hk, .inr (11, wkO v gg mm))] : va_W)) (As := [.ref hk]) hF hP hD hS XN_ok trivial (rV (As := []) (rest := [.ref (E 0)]) hF hl (hTx _) (cwV 0 hC.2.1 (gi_V (gw_t (tb3 (List.mem_of_getElem? (i := 236) rfl)) rfl) (gw_t (tb3 (List.mem_of_getElem? (i := 237) rfl)) rfl) (gw_t (tb3 (List.mem_of_getElem? (i := 238) rfl)) rfl) (gw_t (tb1 (List.mem_of_getElem? (i := 10) rfl)) rfl) (gw_t (tb3 (List.mem_of_getElem? (i := 239) rfl)) rfl)) rfl rfl rfl ⟨rfl, by decide +kernel, by decide +kernel, by decide +kernel⟩ ⟨(Nat.le_of_ble_eq_true rfl), (Nat.le_of_ble_eq_true rfl)⟩) (va_recv hC.2.2.2.1 (ci := 11) (q0 := 0) (tl_P (Rs := wd Y E σC0 0 LC) (C0 := ([(hk, .inr (11, wkO v gg mm))] : va_W)) hP) rfl rfl) rfl rfl (Nat.le_of_ble_eq_true rfl) dL_law_20 ⟨(Nat.le_of_ble_eq_true rfl), (Nat.le_of_ble_eq_true rfl)⟩) (fun r u H locs hp hP hD hS => ?_)
  obtain ⟨uv, uf⟩ := u
  obtain ⟨hfb, hT⟩ := hp
  have hT : ∀ j, j < (txt ff nn an aa bb go pp qq bk (100 - pp - qq) jp).length → uf j = nI ((txt ff nn an aa bb go pp qq bk (100 - pp - qq) jp).getD j 0) := hT
  obtain ⟨h0, h1, h2, h3, h4, h5, h6, h8, h7, a1, a2, a3, a4, a5, a6, a7, a8, a9, a10⟩ := id hw
  have hok : TX (txt ff nn an aa bb go pp qq bk (100 - pp - qq) jp) 400 := txt_ok (by omega) (by omega) haa (by omega) (fun g e => Nat.lt_trans (a10 g e) (by decide)) (by omega) (by omega) (by omega) (by omega) (by omega)
  have hP : va_P D vwCl (([(hk, .inr (11, wkO v gg mm)), (r, .inr (0, [.ref uv, .int 0, .int 0, .int 0])), (uv, .inl (Y.2.2.1.1, (txt ff nn an aa bb go pp qq bk (100 - pp - qq) jp).length, .inl uf))] : va_W) ++ wd Y E σC0 0 LC) H := va_P_perm hP List.perm_append_comm
  have hD : va_D A (([(hk, .inr (11, wkO v gg mm)), (r, .inr (0, [.ref uv, .int 0, .int 0, .int 0])), (uv, .inl (Y.2.2.1.1, (txt ff nn an aa bb go pp qq bk (100 - pp - qq) jp).length, .inl uf))] : va_W) ++ wd Y E σC0 0 LC) := va_D_perm hD List.perm_append_comm
  refine g_i (Rs := ([(hk, .inr (11, wkO v gg mm)), (r, .inr (0, [.ref uv, .int 0, .int 0, .int 0])), (uv, .inl (Y.2.2.1.1, (txt ff nn an aa bb go pp qq bk (100 - pp - qq) jp).length, .inl uf))] : va_W)) (C0 := wd Y E σC0 0 LC) (As := [.ref (E 0), .ref r]) hF hP hD hS STA_ok (sta_of (Rs := ([(hk, .inr (11, wkO v gg mm)), (r, .inr (0, [.ref uv, .int 0, .int 0, .int 0])), (uv, .inl (Y.2.2.1.1, (txt ff nn an aa bb go pp qq bk (100 - pp - qq) jp).length, .inl uf))] : va_W)) (C0 := wd Y E σC0 0 LC) hC hP hD 1 2 rfl rfl) (rS (As := [.ref (E 0), .ref r]) (rest := []) hF hl (c_L_compile (sb_of hT hok.1) hok.2 rfl a1 a2 haa (by omega) (fun g e => Nat.lt_trans (a10 g e) (by decide)) a3 a4 (by omega) (by omega) a6 a9 _) ⟨callB_of 2 hC.2.1 (gi_law (gw_t (tb5 (List.mem_of_getElem? (i := 15) rfl)) rfl)) rfl rfl rfl (hC.2.1 (Cond.initialized RL) (gw_t (tb1 (List.mem_of_getElem? (i := 0) rfl)) rfl)) (hC.2.1 (Cond.methodLink RL 47 yL_compile) (gw_t (tb5 (List.mem_of_getElem? (i := 13) rfl)) rfl)) ⟨by decide +kernel, by decide +kernel, by decide +kernel⟩ ⟨(Nat.le_of_ble_eq_true rfl), (Nat.le_of_ble_eq_true rfl)⟩, hC.2.1 (Cond.static yL_compile) (gw_t (tb5 (List.mem_of_getElem? (i := 14) rfl)) rfl)⟩ rfl rfl (Nat.le_of_ble_eq_true rfl) dL_law_23 ⟨(Nat.le_of_ble_eq_true rfl), (Nat.le_of_ble_eq_true rfl)⟩) (fun r0 u H locs hp hP hD hS => ?_)
  obtain ⟨hp1, w, g1, g2, g3, g4, g5, g6, g7⟩ := hp
  have hp1 : r0 = 0 := hp1
  subst hp1
  have hP : va_P D vwCl (wd Y E u 0 LC) H := tl_P (Rs := ([(hk, .inr (11, wkO v gg mm)), (r, .inr (0, [.ref uv, .int 0, .int 0, .int 0])), (uv, .inl (Y.2.2.1.1, (txt ff nn an aa bb go pp qq bk (100 - pp - qq) jp).length, .inl uf))] : va_W)) (C0 := wd Y E u 0 LC) hP
  have hD : va_D A (wd Y E u 0 LC) := tl_D (Rs := ([(hk, .inr (11, wkO v gg mm)), (r, .inr (0, [.ref uv, .int 0, .int 0, .int 0])), (uv, .inl (Y.2.2.1.1, (txt ff nn an aa bb go pp qq bk (100 - pp - qq) jp).length, .inl uf))] : va_W)) (C0 := wd Y E u 0 LC) hD
  refine lv_if_eq (tgt := 31) hx hb dL_law_26 (by decide) (fun c1 => ?_) (fun c1 => False.elim (c1 rfl))
  refine lv_iconst (v := 2) hx hb dL_law_31 (by decide) ?_
  refine lv_aload_n hx hb dL_law_32 rfl (lv_at hl 2 rfl) ?_
  refine lv_iconst (v := 5) hx hb dL_law_33 (by decide) ?_
  refine lv_topi (fun x2 ex2 => ?_)
  have ex2 : x2 = nI 5 := ex2.trans (rfl)
  subst ex2
  have hP0 : va_P D vwCl ((wd Y E u 0 LC) ++ []) H := by rw [List.append_nil]; exact hP
  have hD0 : va_D A ((wd Y E u 0 LC) ++ []) := by rw [List.append_nil]; exact hD
  refine g_i (Rs := wd Y E u 0 LC) (C0 := []) (As := [.ref b, .int (nI 5)]) hF hP0 hD0 hS SCR_ok (X_at (Rs := wd Y E u 0 LC) (C0 := []) SCR_ok hF hSC hD0 hS) (rS (As := [.ref b, .int (nI 5)]) (rest := [.int 2]) hF hl (c_L_cell (kx := 5) hL (by decide) _) ⟨callB_of 2 hC.2.1 (gi_law (gw_t (tb3 (List.mem_of_getElem? (i := 172) rfl)) rfl)) rfl rfl rfl (hC.2.1 (Cond.initialized RL) (gw_t (tb1 (List.mem_of_getElem? (i := 0) rfl)) rfl)) (hC.2.1 (Cond.methodLink RL 50 yL_cell) (gw_t (tb5 (List.mem_of_getElem? (i := 12) rfl)) rfl)) ⟨by decide +kernel, by decide +kernel, by decide +kernel⟩ ⟨(Nat.le_of_ble_eq_true rfl), (Nat.le_of_ble_eq_true rfl)⟩, hC.2.1 (Cond.static yL_cell) (gw_t (tb3 (List.mem_of_getElem? (i := 171) rfl)) rfl)⟩ rfl rfl (Nat.le_of_ble_eq_true rfl) dL_law_34 ⟨(Nat.le_of_ble_eq_true rfl), (Nat.le_of_ble_eq_true rfl)⟩) (fun xr u_ H locs hp5 hP hD hS => ?_)
  have hP : va_P D vwCl (wd Y E u 0 LC) H := by rw [← List.append_nil (wd Y E u 0 LC)]; exact hP
  have hD : va_D A (wd Y E u 0 LC) := by rw [← List.append_nil (wd Y E u 0 LC)]; exact hD
  refine lv_bipush (v := 10) hx hb dL_law_37 (by decide) ?_
  refine lv_topi (fun x3 ex3 => ?_)
  have ex3 : x3 = nI 10 := ex3.trans (rfl)
  subst ex3
  have hP0 : va_P D vwCl ((wd Y E u 0 LC) ++ []) H := by rw [List.append_nil]; exact hP
  have hD0 : va_D A ((wd Y E u 0 LC) ++ []) := by rw [List.append_nil]; exact hD
  refine g_i (Rs := wd Y E u 0 LC) (C0 := []) (As := [.int xr, .int (nI 10)]) hF hP0 hD0 hS XN_ok trivial (rS (As := [.int xr, .int (nI 10)]) (rest := [.int 2]) hF hl (c_L_below (xv := xr) (k1 := 10) (by decide) (by decide) _) ⟨callB_of 2 hC.2.1 (gi_law (gw_t (tb3 (List.mem_of_getElem? (i := 176) rfl)) rfl)) rfl rfl rfl (hC.2.1 (Cond.initialized RL) (gw_t (tb1 (List.mem_of_getElem? (i := 0) rfl)) rfl)) (hC.2.1 (Cond.methodLink RL 54 yL_below) (gw_t (tb5 (List.mem_of_getElem? (i := 11) rfl)) rfl)) ⟨by decide +kernel, by decide +kernel, by decide +kernel⟩ ⟨(Nat.le_of_ble_eq_true rfl), (Nat.le_of_ble_eq_true rfl)⟩, hC.2.1 (Cond.static yL_below) (gw_t (tb3 (List.mem_of_getElem? (i := 175) rfl)) rfl)⟩ rfl rfl (Nat.le_of_ble_eq_true rfl) dL_law_39 ⟨(Nat.le_of_ble_eq_true rfl), (Nat.le_of_ble_eq_true rfl)⟩) (fun xr2 u_ H locs hp6 hP hD hS => ?_)
  have hP : va_P D vwCl (wd Y E u 0 LC) H := by rw [← List.append_nil (wd Y E u 0 LC)]; exact hP
  have hD : va_D A (wd Y E u 0 LC) := by rw [← List.append_nil (wd Y E u 0 LC)]; exact hD
  obtain ⟨j, hj, hp6⟩ := hp6
  have hp6 : xr2 = nI j := hp6
  subst hp6
  refine lv_iadd hx hb dL_law_42 ?_
  refine lv_topi (fun x4 ex4 => ?_)
  have ex4 : x4 = nI (2 + j) := ex4.trans (show nI 2 + nI j = nI (2 + j) from nI_add _ _)
  subst ex4
  refine lv_istore_n (lv' := [(3, .int (nI (2 + j))), (2, .ref hk), (1, .ref (E 0)), (0, .ref b)]) hx hb dL_law_43 rfl hl (by decide) rfl (fun ls hl => ?_)
  refine lv_iconst (v := 0) hx hb dL_law_44 (by decide) ?_
  refine lv_istore (lv' := [(4, .int 0), (3, .int (nI (2 + j))), (2, .ref hk), (1, .ref (E 0)), (0, .ref b)]) hx hb dL_law_45 hl (by decide) rfl (fun ls hl => ?_)
  refine W.widen (k := 1188 + 0) (n := 163568 + 3 * 0) (by decide) (by decide) ?_
  refine lw_k (w := w) (st := 2 + j) hF g1 g5 hSC hL g3 (by omega) (by omega) (fun σ wts H locs ls hI hP hD hS hl => ?_) 4 0 rfl u (fun _ _ => 0) H locs ls (SI_0 g2 g6 g7) hP hD hS (lv_sub hl [0, 4, 3, 1] rfl)
  obtain ⟨σ3, e3⟩ := lb2 g1 g3 g5 (by omega) hI
  have hLF : LFr p s m #[Value.ref b] c D Y E [] A := ⟨hC, hb, hml, fun τ => rs_D (Rs := []) hD τ, hSW, hA⟩
  refine c_LB2 (Rs := []) (σ := σ) (o := ((), σ3)) hLF ⟨(Nat.le_of_ble_eq_true rfl), (Nat.le_of_ble_eq_true rfl)⟩ (fun H locs ls hP hS => ?_) e3 hP hS (lv_sub hl [2, 3] rfl)
  refine va_forget (fun q hq => by
      have h1 := hS.2.2 q hq
      rw [← hAe] at h1
      exact h1) ?_
  refine W.widen (k := 600086) (n := 7301442) (Nat.le_of_ble_eq_true rfl) (Nat.le_of_ble_eq_true rfl) ?_
  exact lw_ret hx hb hr hlk dL_law_719
