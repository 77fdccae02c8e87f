theorem WRb.moved {D : va_G} {a : Nat} {u U : State} {H : Heap} (hvm : u.vm.Alike U.vm) (h : WRb D a u H) : WRb D a U H := by
  obtain ⟨kX, h1, h2⟩ := h
  obtain ⟨k', hk', he⟩ := hvm.2.2 _ _ h1
  refine ⟨k', hk', ?_⟩
  rw [h2, he]
  rfl
theorem WRc.lt {D : va_G} {a : Nat} {x : Int32 × Int32} {H : Heap} (h : WRc D a x H) : a < H.size := by
  obtain ⟨fs, h1, h2, h3, h4⟩ := h
  exact vx_lt h4 (k := 0) rfl
section WRH
variable {p : Program} {l : Launch} {e : Env} {R : Room} {s : State} {m : MethodId} {args : Array Value} {below : List Frame} {meth : Method} {c : Code} {H : Heap} {locs : List Loc} {cells slots : Nat} {Q : State → Prop}
variable {D : va_G} {Y : CYs} {E : Nat → Nat} {σ σ1 σ2 : Sta} {L : List Dsc} {own C : String} {cc bytes : ByteArray} {pc nL maxL n index a : Nat} {ret rc : Option FieldType} {ls : Array Slot} {st rest As : List Value} {y : MethodName} {rm : Room} {lv : List (Nat × Value)} {x : Int32 × Int32}
theorem cwWI (hC : Ctx p s m args RX10 D Y) (hR : 5 + 1 ≤ R.frames ∧ 8 + (3 + 11) + 80 ≤ R.locals) : va_CN R s args RX10 224 yX9_init "MarkovBenchModel" cX9_init 3 none (Cond.code yX9_init cX9_init 3 none :: gW) { frames := 5, cells := 0, slots := 0, locals := 80 } 0 0 2 ∧ yX9_init.name = "<init>" ∧ (Cond.instanceMethod yX9_init).before args s = true :=
  ⟨va_cnB 2 hC.2.1 (gi_law (gw_t (tb7 (List.mem_of_getElem? (i := 63) rfl)) rfl)) rfl rfl rfl (hC.2.2.2.2.1 (Cond.methodLinkNest RX10 224 yX9_init "MarkovBenchModel") (List.mem_of_getElem? (i := 61) rfl)) (hC.2.1 (Cond.initialized RX9) (gw_t (tb1 (List.mem_of_getElem? (i := 24) rfl)) rfl)) ⟨by decide +kernel, by decide +kernel, by decide +kernel⟩ hR, rfl, hC.2.1 _ (gw_t (tb7 (List.mem_of_getElem? (i := 62) rfl)) rfl)⟩
theorem vx_athrow {cc : ByteArray} {pc : Nat} (hexec : p.tables.exec = Jvm.exec) (hb : c.code = cc) {q : Addr} (hdg : decode cc pc = .ok (.athrow, 1)) (k : vx_W p l e R s m args below meth c H locs cells slots Q (F0 m pc ls rest) q) : W p l e R s m args below meth c H locs cells slots Q (F0 m pc ls (.ref q :: rest)) := by
  intro T hT X
  obtain ⟨t, st, hq⟩ := k T hT X
  refine ⟨t, ?_, hq⟩
  have hdg' : decode c.code pc = .ok (.athrow, 1) := by rw [hb]; exact hdg
  jvm_step X.here [X.here.top, hexec, hdg', athrow.wp_sem]
  exact st
/-- new Wrong .. -/
theorem x_newW (hF : Fr p s m args meth c RX10 cc nL rc D Y E L) (hP : va_P D vwCl (wd Y E σ 0 L) H) (hS : va_S (AF E L.length s.heap.size) s.heap H locs) (hdg : decode cc pc = .ok (.new 222, 3)) (hc : cells + 1 ≤ R.cells) (hs : slots + 8 ≤ R.slots)
    (kk : ∀ (a : Nat) (H1 : Heap), va_P D vwCl (wd Y E σ 0 L) H1 → va_S (AF E L.length s.heap.size) s.heap H1 locs → s.heap.size ≤ a → (∀ (k : Nat) (q : Nat × va_E), (wd Y E σ 0 L)[k]? = some q → q.1 ≠ a) → WRb D a s H1 → W p l e R s m args below meth c H1 locs (cells + 1) (slots + 8) Q (F0 m (pc + 3) ls (.ref a :: rest))) :
    W p l e R s m args below meth c H locs cells slots Q (F0 m pc ls rest) := by
  obtain ⟨hC, hb, hml, hr, hlk, hD, hSW⟩ := hF
  have hKn := hC.2.2.2.1.1 9 _ rfl
  refine W.newcK hC.1 hb hC.2.2.1 (hC.2.1 (.classLink RX10 222 RX9) (gw_t (tb7 (List.mem_of_getElem? (i := 4) rfl)) rfl)) (hC.2.1 (.instantiable RX9 8) (gw_t (tb7 (List.mem_of_getElem? (i := 53) rfl)) rfl)) (hC.2.1 (.initialized RX9) (gw_t (tb1 (List.mem_of_getElem? (i := 24) rfl)) rfl)) rfl hdg hc hs hKn.2.1 rfl fun H1 kC hkC e1 z1 o1 => ?_
  exact kk H.size H1 (hP.kept fun k q hk => o1 _ (vx_lt hP hk)) ⟨Nat.le_trans hS.1 (by omega), fun x h1 h2 => (o1 x (Nat.lt_of_lt_of_le h1 hS.1)).trans (hS.2.1 x h1 h2), hS.2.2⟩ hS.1 (fun k q hk he => absurd (vx_lt hP hk) (by rw [he]; exact Nat.lt_irrefl _)) ⟨kC, hkC, e1⟩
/-- .. its constructor -/
theorem x_initW (ht : l.stackTraces = false) (hF : Fr p s m args meth c RX10 cc nL rc D Y E L) (hl : lv_has ls nL lv) (hP : va_P D vwCl (wd Y E σ 0 L) H) (hS : va_S (AF E L.length s.heap.size) s.heap H locs) (ha : s.heap.size ≤ a) (hne : ∀ (k : Nat) (q : Nat × va_E), (wd Y E σ 0 L)[k]? = some q → q.1 ≠ a) (hB : WRb D a s H)
    (hst : st = .int x.2 :: .int x.1 :: .ref a :: rest) (hcat : (rest.map fun v => v.category).sum ≤ 8) (hdg : decode cc pc = .ok (.invokespecial 224, 3)) (hR : 5 + 1 ≤ R.frames ∧ 8 + (3 + 11) + 80 ≤ R.locals) (hf : cells ≤ R.cells ∧ slots ≤ R.slots)
    (kk : ∀ (H1 : Heap) (locs1 : List Loc), va_P D vwCl (wd Y E σ 0 L) H1 → va_S (AF E L.length s.heap.size) s.heap H1 locs1 → WRc D a x H1 → W p l e R s m args below meth c H1 locs1 cells slots Q (F0 m (pc + 3) ls rest)) :
    W p l e R s m args below meth c H locs cells slots Q (F0 m pc ls st) := by
  obtain ⟨hC, hb, hml, hr, hlk, hD, hSW⟩ := hF
  subst hst
  have hAF : ∀ q, AFa a H.size q → AF E L.length s.heap.size q := fun q h => h.elim (fun h => Or.inr (by rw [h]; exact ha)) (fun h => Or.inr (Nat.le_trans hS.1 h))
  refine va_callv (va_runIN (As := [.int x.1, .int x.2]) (rest := rest) (b := a) ⟨hC.1, hb, hml, hC.2.2.1, hC.2.1⟩ (c_X9_init (D := D) (Y := Y) (a := a) (x := x) ht H.size) (cwWI hC hR) ⟨PcW_blind, fun U hU hW => ⟨rfl, by rw [hU], by rw [hU]; exact hB.moved hW.alike, va_K.moved hW.alike hC.2.2.2.1, NW.warm hW hC.2.2.2.2, by rw [hU]; exact ((hSW.kept hS.2.1).warm hW).narrow hAF⟩⟩ rfl rfl hl.1 rfl (lv_room (ls := ls) hcat) hdg hf) hS (fun q _ h => hAF q h) hAF (fun u t H1 locs1 ht hvm hw hB hz hk hS1 => ?_)
  refine kk H1 locs1 (hP.kept fun k q hq => hk _ (vx_lt hP hq) (fun h => h.elim (fun h => hne k q hq h) (fun h => absurd (vx_lt hP hq) (Nat.not_lt.mpr h)))) hS1 (by rw [← ht]; exact hB)
/-- throw it -/
theorem x_throwW (hF : Fr p s m args meth c own cc nL rc D Y E L) (hP : va_P D vwCl (wd Y E σ 0 L) H) (hS : va_S (AF E L.length s.heap.size) s.heap H locs) (hWc : WRc D a x H) (htab : ∀ x ∈ c.exceptionTable.toList, False) (hdg : decode cc pc = .ok (.athrow, 1)) :
    W p l e R s m args below meth c H locs 1 8 (QTw below args s L Y D E x σ) (F0 m pc ls (.ref a :: rest)) := by
  obtain ⟨hC, hb, hml, hr, hlk, hD, hSW⟩ := hF
  obtain ⟨fs, f1, f2, f3, f4⟩ := id hWc
  obtain ⟨r, h1, cell, b1, b2, b3, b4⟩ := f4 0 _ rfl
  have hKn := hC.2.2.2.1.1 9 _ rfl
  refine vx_athrow hC.1 hb hdg (vx_out (E := eWR) (fun x hx => (htab x hx).elim) hlk b1 b3 (by rw [b2]; exact hKn.2.1) (fun t2 ht2 hvm2 => ⟨σ, rfl, ⟨rfl, ⟨by rw [ht2]; exact hP, va_K.moved hvm2 hC.2.2.2.1, hD σ⟩, by rw [ht2]; exact hWc⟩, hS.F ht2⟩) hS.2.2 (Nat.le_refl _) (Nat.le_refl _))
theorem x_VTw {q ci N : Nat} {T : u_T} {fs : List (Nat × Nat)} (hF : Fr p s m args meth c own cc nL rc D Y E L) (hl : lv_has ls nL lv) (hP : va_P D vwCl (wd Y E σ 0 L) H) (hS : va_S (AF E L.length s.heap.size) s.heap H locs)
    (hM : MWT l y (Cond.code y bytes maxL ret :: gW) rm L Y D E (.ref (E q) :: As) σ x σ2) (cw : CallW R s args own C index y bytes maxL ret (Cond.code y bytes maxL ret :: gW) rm 1 8 n)
    (hq : L[q]? = some (0, ci, fs)) (hc : vwCl[ci]? = some (C, T, N)) (hn : As.length = n) (hst : st = As.reverse ++ .ref (E q) :: rest) (hcat : (rest.map fun v => v.category).sum ≤ 8) (hdg : decode cc pc = .ok (.invokevirtual index, 3)) (hf : 0 + 1 ≤ R.cells ∧ 0 + 8 ≤ R.slots) (htab : ∀ x ∈ c.exceptionTable.toList, False) :
    W p l e R s m args below meth c H locs 0 0 (QTw below args s L Y D E x σ2) (F0 m pc ls st) := by
  obtain ⟨hC, hb, hml, hr, hlk, hD, hSW⟩ := hF
  subst hst
  refine vx_callv (vx_runV (As := As) (rest := rest) ⟨hC.1, hb, hml, hC.2.2.1, hC.2.1⟩ (hM H.size) cw ⟨PcC_blind, va_recv hC.2.2.2.1 hP hc (wd_at hq), pre_of hC hP hD hSW hS⟩ rfl hn hl.1 rfl (lv_room (ls := ls) hcat) hdg hf) hS (fun q _ h => AF_le hS.1 h) (fun q h => AF_le hS.1 h) (fun q _ h => AF_le hS.1 h) (fun E' ce q9 u t H1 locs1 ht hvm hu hB hz hk hS1 hcell hcv hcl => ?_) (fun u t H1 locs1 ht hvm hw hB hz hk hS1 => hw.elim)
  subst hu
  obtain ⟨hE, hB, hW⟩ := hB
  have hE : E' = eWR := hE
  subst hE
  exact vx_out (fun x hx => (htab x hx).elim) hlk hcell hcv hcl (fun t2 ht2 hvm2 => ⟨u, rfl, ⟨rfl, ⟨by rw [ht2, ← ht]; exact hB.1, va_K.moved hvm2 hC.2.2.2.1, hD u⟩, by rw [ht2, ← ht]; exact hW⟩, hS1.F ht2⟩) hS1.2.2 (Nat.le_refl _) (Nat.le_refl _)
/-- a call that throws into the method's only handler -/
theorem x_VTc {q ci N hp kc : Nat} {T : u_T} {fs : List (Nat × Nat)} {te : ExceptionTableEntry} (hF : Fr p s m args meth c own cc nL rc D Y E L) (hl : lv_has ls nL lv) (hP : va_P D vwCl (wd Y E σ 0 L) H) (hS : va_S (AF E L.length s.heap.size) s.heap H locs)
    (hM : MWT l y (Cond.code y bytes maxL ret :: gW) rm L Y D E (.ref (E q) :: As) σ x σ2) (cw : CallW R s args own C index y bytes maxL ret (Cond.code y bytes maxL ret :: gW) rm 1 8 n)
    (hq : L[q]? = some (0, ci, fs)) (hc : vwCl[ci]? = some (C, T, N)) (hn : As.length = n) (hst : st = As.reverse ++ .ref (E q) :: rest) (hcat : (rest.map fun v => v.category).sum ≤ 8) (hdg : decode cc pc = .ok (.invokevirtual index, 3)) (hf : 0 + 1 ≤ R.cells ∧ 0 + 8 ≤ R.slots)
    (htab : c.exceptionTable.toList = [te]) (hcov : covers te pc = true) (h0 : te.catchType = kc) (hk0 : kc ≠ 0) (hlink : (Cond.classLink own kc eWR) ∈ gW) (hhp : te.handlerPc = hp)
    (kk : ∀ (q9 : Nat) (H1 : Heap) (locs1 : List Loc), va_P D vwCl (wd Y E σ2 0 L) H1 → va_S (AF E L.length s.heap.size) s.heap H1 locs1 → WRc D q9 x H1 → W p l e R s m args below meth c H1 locs1 1 8 Q (F0 m hp ls [.ref q9])) :
    W p l e R s m args below meth c H locs 0 0 Q (F0 m pc ls st) := by
  obtain ⟨hC, hb, hml, hr, hlk, hD, hSW⟩ := hF
  subst hst
  refine vx_callv (vx_runV (As := As) (rest := rest) ⟨hC.1, hb, hml, hC.2.2.1, hC.2.1⟩ (hM H.size) cw ⟨PcC_blind, va_recv hC.2.2.2.1 hP hc (wd_at hq), pre_of hC hP hD hSW hS⟩ rfl hn hl.1 rfl (lv_room (ls := ls) hcat) hdg hf) hS (fun q _ h => AF_le hS.1 h) (fun q h => AF_le hS.1 h) (fun q _ h => AF_le hS.1 h) (fun E' ce q9 u t H1 locs1 ht hvm hu hB hz hk hS1 hcell hcv hcl => ?_) (fun u t H1 locs1 ht hvm hw hB hz hk hS1 => hw.elim)
  subst hu
  obtain ⟨hE, hB, hW⟩ := hB
  have hE : E' = eWR := hE
  subst hE
  subst hhp
  refine vx_catch (name := eWR) (E := eWR) hC.2.2.1 [] te [] (by rw [htab]; rfl) (fun z hz => nomatch hz) hcov (by rw [h0]; exact hk0) (by rw [h0]; exact hC.2.1 _ hlink) (va_Nw.use rfl (hC.2.2.2.2.2.1 (.castable eWR eWR) (by decide +kernel))) hcell hcv hcl ?_
  exact kk q9 H1 locs1 (by rw [← ht]; exact hB.1) hS1 (by rw [← ht]; exact hW)
/-- .. a Wrong thrown here, caught here -/
theorem x_throwC {hp kc : Nat} {te : ExceptionTableEntry} (hF : Fr p s m args meth c own cc nL rc D Y E L) (hP : va_P D vwCl (wd Y E σ 0 L) H) (hS : va_S (AF E L.length s.heap.size) s.heap H locs) (hWc : WRc D a x H) (hdg : decode cc pc = .ok (.athrow, 1))
    (htab : c.exceptionTable.toList = [te]) (hcov : covers te pc = true) (h0 : te.catchType = kc) (hk0 : kc ≠ 0) (hlink : (Cond.classLink own kc eWR) ∈ gW) (hhp : te.handlerPc = hp)
    (kk : W p l e R s m args below meth c H locs cells slots Q (F0 m hp ls [.ref a])) : W p l e R s m args below meth c H locs cells slots Q (F0 m pc ls (.ref a :: rest)) := by
  obtain ⟨hC, hb, hml, hr, hlk, hD, hSW⟩ := hF
  obtain ⟨fs, f1, f2, f3, f4⟩ := id hWc
  obtain ⟨r, h1, cell, b1, b2, b3, b4⟩ := f4 0 _ rfl
  have hKn := hC.2.2.2.1.1 9 _ rfl
  subst hhp
  exact vx_athrow hC.1 hb hdg (vx_catch (name := eWR) (E := eWR) hC.2.2.1 [] te [] (by rw [htab]; rfl) (fun z hz => nomatch hz) hcov (by rw [h0]; exact hk0) (by rw [h0]; exact hC.2.1 _ hlink) (va_Nw.use rfl (hC.2.2.2.2.2.1 (.castable eWR eWR) (by decide +kernel))) b1 b3 (by rw [b2]; exact hKn.2.1) kk)
/-- the fields of a Wrong that was caught -/
theorem x_getWe (hF : Fr p s m args meth c RX10 cc nL rc D Y E L) (hWc : WRc D a x H) (hdg : decode cc pc = .ok (.getfield 348, 3))
    (kk : W p l e R s m args below meth c H locs cells slots Q (F0 m (pc + 3) ls (.int x.1 :: rest))) : W p l e R s m args below meth c H locs cells slots Q (F0 m pc ls (.ref a :: rest)) := by
  obtain ⟨hC, hb, hml, hr, hlk, hD, hSW⟩ := hF
  obtain ⟨fs, f1, f2, f3, f4⟩ := hWc
  exact va_getN (ref := RX9) (T := TX9) (N := 8) (ci := 9) (host := "MarkovBenchModel") hC.1 hb hC.2.1 inGX9 hC.2.2.1 hC.2.2.2.1 f4 0 rfl rfl 6 (by decide) (va_Nw.use rfl (hC.2.2.2.2.1 (Cond.fieldLinkNest RX10 348 RX9 "error" "I" "MarkovBenchModel") (List.mem_of_getElem? (i := 62) rfl))) (fun _ h9 => h9) f2 hdg kk
theorem x_getWp (hF : Fr p s m args meth c RX10 cc nL rc D Y E L) (hWc : WRc D a x H) (hdg : decode cc pc = .ok (.getfield 351, 3))
    (kk : W p l e R s m args below meth c H locs cells slots Q (F0 m (pc + 3) ls (.int x.2 :: rest))) : W p l e R s m args below meth c H locs cells slots Q (F0 m pc ls (.ref a :: rest)) := by
  obtain ⟨hC, hb, hml, hr, hlk, hD, hSW⟩ := hF
  obtain ⟨fs, f1, f2, f3, f4⟩ := hWc
  exact va_getN (ref := RX9) (T := TX9) (N := 8) (ci := 9) (host := "MarkovBenchModel") hC.1 hb hC.2.1 inGX9 hC.2.2.1 hC.2.2.2.1 f4 0 rfl rfl 7 (by decide) (va_Nw.use rfl (hC.2.2.2.2.1 (Cond.fieldLinkNest RX10 351 RX9 "place" "I" "MarkovBenchModel") (List.mem_of_getElem? (i := 63) rfl))) (fun _ h9 => h9) f3 hdg kk
/-- wrong(): a new Wrong is answered -/
theorem x_retR (hF : Fr p s m args meth c own cc nL (some (.object C)) D Y E L) (hP : va_P D vwCl (wd Y E σ 0 L) H) (hS : va_S (AF E L.length s.heap.size) s.heap H locs) (hWc : WRc D a x H) (hdg : decode cc pc = .ok (.areturn, 1)) : W p l e R s m args below meth c H locs 1 8 (MQ below (QRw L Y D E s.heap.size x σ) args s 1 8 (AF E L.length s.heap.size)) (F0 m pc ls [.ref a]) := by
  obtain ⟨hC, hb, hml, hr, hlk, hD, hSW⟩ := hF
  exact W.aret hC.1 hb hr (Or.inl ⟨_, rfl⟩) (Or.inr ⟨_, rfl⟩) (fun t ht hW => ⟨⟨(), a, rfl, trivial, ⟨by rw [ht]; exact hP, va_K.moved hW.alike hC.2.2.2.1, hD σ⟩, by rw [ht]; exact hWc⟩, hS.F ht⟩) hS.2.2 hdg hlk
theorem x_VR {q ci N : Nat} {T : u_T} {fs : List (Nat × Nat)} (hF : Fr p s m args meth c own cc nL rc D Y E L) (hl : lv_has ls nL lv) (hP : va_P D vwCl (wd Y E σ 0 L) H) (hS : va_S (AF E L.length s.heap.size) s.heap H locs)
    (hM : MR l y (Cond.code y bytes maxL ret :: gW) rm L Y D E (.ref (E q) :: As) σ x) (cw : CallW R s args own C index y bytes maxL ret (Cond.code y bytes maxL ret :: gW) rm 1 8 n)
    (hq : L[q]? = some (0, ci, fs)) (hc : vwCl[ci]? = some (C, T, N)) (hn : As.length = n) (hst : st = As.reverse ++ .ref (E q) :: rest) (hcat : (rest.map fun v => v.category).sum ≤ 8) (hdg : decode cc pc = .ok (.invokevirtual index, 3)) (hf : 0 + 1 ≤ R.cells ∧ 0 + 8 ≤ R.slots)
    (kk : ∀ (a : Nat) (H1 : Heap) (locs1 : List Loc), va_P D vwCl (wd Y E σ 0 L) H1 → va_S (AF E L.length s.heap.size) s.heap H1 locs1 → WRc D a x H1 → W p l e R s m args below meth c H1 locs1 1 8 Q (F0 m (pc + 3) ls (.ref a :: rest))) :
    W p l e R s m args below meth c H locs 0 0 Q (F0 m pc ls st) := by
  obtain ⟨hC, hb, hml, hr, hlk, hD, hSW⟩ := hF
  subst hst
  refine va_callr (va_runV (As := As) (rest := rest) ⟨hC.1, hb, hml, hC.2.2.1, hC.2.1⟩ (hM H.size) cw ⟨PcC_blind, va_recv hC.2.2.2.1 hP hc (wd_at hq), pre_of hC hP hD hSW hS⟩ rfl hn hl.1 rfl (lv_room (ls := ls) hcat) hdg hf) hS (fun q _ h => AF_le hS.1 h) (fun q h => AF_le hS.1 h) (fun u a t H1 locs1 ht hvm hw hB hz hk hS1 => ?_)
  exact kk a H1 locs1 (by rw [← ht]; exact hB.1.1) hS1 (by rw [← ht]; exact hB.2)
theorem x_iretW {v : Int32} {o : (Int32 ⊕ (Int32 × Int32)) × Sta} {fr lo : Nat} (hF : Fr p s m args meth c own cc nL (some .int) D Y E L) (hP : va_P D vwCl (wd Y E σ 0 L) H) (hS : va_S (AF E L.length s.heap.size) s.heap H locs) (h : some (.inl v, σ) = some o) (hdg : decode cc pc = .ok (.ireturn, 1)) : W p l e (rmw fr lo o) s m args below meth c H locs 0 0 (QwI below args s L Y D E o) (F0 m pc ls [.int v]) := by
  cases h
  exact x_iret hF hP hS rfl hdg
theorem x_lretW {v : Int64} {o : (Int64 ⊕ (Int32 × Int32)) × Sta} {fr lo : Nat} (hF : Fr p s m args meth c own cc nL (some .long) D Y E L) (hP : va_P D vwCl (wd Y E σ 0 L) H) (hS : va_S (AF E L.length s.heap.size) s.heap H locs) (h : some (.inl v, σ) = some o) (hdg : decode cc pc = .ok (.lreturn, 1)) : W p l e (rmw fr lo o) s m args below meth c H locs 0 0 (QwL below args s L Y D E o) (F0 m pc ls [.long v]) := by
  cases h
  exact x_lret hF hP hS rfl hdg
theorem x_vretW {o : (Unit ⊕ (Int32 × Int32)) × Sta} {fr lo : Nat} (hF : Fr p s m args meth c own cc nL none D Y E L) (hP : va_P D vwCl (wd Y E σ 0 L) H) (hS : va_S (AF E L.length s.heap.size) s.heap H locs) (h : some (.inl (), σ) = some o) (hdg : decode cc pc = .ok (.return_, 1)) : W p l e (rmw fr lo o) s m args below meth c H locs 0 0 (QwV below args s L Y D E o) (F0 m pc ls []) := by
  cases h
  exact x_vret hF hP hS rfl hdg
end WRH
theorem Met_ofH {l : Launch} {y : MethodName} {cc : ByteArray} {nL mc ms : Nat} {ret : Option FieldType} {hh : List (Nat × Nat × Nat × Nat)} {rm : Room} {L : List Dsc} {Y : CYs} {D : va_G} {E : Nat → Nat} {As : List Value} {σ : Sta} {Qc : Nat → Array Value → State → Outcome → State → Prop}
    (hy : plainName y.cls = true) (hn : (lg_sl As).length ≤ nL)
    (body : ∀ p e s m args below meth c, Fr p s m args meth c y.cls cc nL ret D Y E L → va_P D vwCl (wd Y E σ 0 L) s.heap → c.exceptionTable.toList = tableOf hh → ∀ ls, lv_has ls nL (lv_args 0 As) →
      W p l e rm s m args below meth c s.heap [] 0 0 (MQ below (Qc s.heap.size) args s mc ms (AF E L.length s.heap.size)) (F0 m 0 ls [])) (sz : Nat) :
    Met l y (Cond.codeWith y cc nL ret hh :: gW) rm (PcC L Y D E σ sz As) (Qc sz) mc ms (AF E L.length sz) := by
  refine va_MetW (cc := cc) (maxL := nL) (ret := ret) (hh := hh) hy rfl ?_
  intro p e s m args below meth c s₁ B hml hv
  obtain ⟨rfl, hsz, hP, hK, hD0, hN, hSW⟩ := hv
  have hts := atoms_spec (ws := Cond.codeWith y cc nL ret hh :: gW) B.pre
  have htab := vx_table (x := y) B (hts _ List.mem_cons_self)
  have hown : s.vm.findClass y.cls = some m.cls := findClass_of_methodNamed B.named
  subst hsz
  have hl := lv_entry As (n := nL) hn
  rw [lg_entry_eq]
  exact body p e s m _ below meth c ⟨⟨B.exec, fun w h => hts w (List.mem_cons_of_mem _ h), hown, hK, hN⟩, B.bytes, hml, B.returns, B.notSynchronized, fun τ => wd_DA hD0, hSW⟩ hP htab _ hl
theorem Met_of1 {l : Launch} {y : MethodName} {cc : ByteArray} {nL mc ms : Nat} {ret : Option FieldType} {rm : Room} {L : List Dsc} {Y : CYs} {D : va_G} {E : Nat → Nat} {As : List Value} {σ : Sta} {Qc : Nat → Array Value → State → Outcome → State → Prop}
    (hy : plainName y.cls = true) (hn : (lg_sl As).length ≤ nL)
    (body : ∀ p e s m args below meth c, Fr p s m args meth c y.cls cc nL ret D Y E L → va_P D vwCl (wd Y E σ 0 L) s.heap → ∀ ls, lv_has ls nL (lv_args 0 As) →
      W p l e rm s m args below meth c s.heap [] 0 0 (MQ below (Qc s.heap.size) args s mc ms (AF E L.length s.heap.size)) (F0 m 0 ls [])) (sz : Nat) :
    Met l y (Cond.code y cc nL ret :: gW) rm (PcC L Y D E σ sz As) (Qc sz) mc ms (AF E L.length sz) := by
  refine Met.ofW (cc := cc) (maxL := nL) (ret := ret) hy rfl ?_
  intro p e s m args below meth c s₁ B hml hv
  obtain ⟨rfl, hsz, hP, hK, hD0, hN, hSW⟩ := hv
  have hts := atoms_spec (ws := Cond.code y cc nL ret :: gW) B.pre
  have hown : s.vm.findClass y.cls = some m.cls := findClass_of_methodNamed B.named
  subst hsz
  have hl := lv_entry As (n := nL) hn
  rw [lg_entry_eq]
  exact body p e s m _ below meth c ⟨⟨B.exec, fun w h => hts w (List.mem_cons_of_mem _ h), hown, hK, hN⟩, B.bytes, hml, B.returns, B.notSynchronized, fun τ => wd_DA hD0, hSW⟩ hP _ hl
def bnr {β : Type} (a : Option (Int32 × Int32)) (k : Int32 × Int32 → Option β) : Option β := match a with
  | none => none
  | some x => k x
theorem of_bnr {β : Type} {a : Option (Int32 × Int32)} {k : Int32 × Int32 → Option β} {o : β} (h : bnr a k = some o) : ∃ x, a = some x ∧ k x = some o := by
  cases a with
  | none => cases h
  | some q => exact ⟨q, rfl, h⟩
