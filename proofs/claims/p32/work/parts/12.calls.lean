abbrev PcC (L : List Dsc) (Y : CYs) (D : va_G) (E : Nat → Nat) (σ : Sta) (sz : Nat) (As : List Value) : Array Value → State → Prop :=
  va_Pc As (fun U => U.heap.size = sz ∧ va_P D vwCl (wd Y E σ 0 L) U.heap ∧ va_K D vwCl (tysY Y) U ∧ va_D (fun _ => True) (wd Y E σ 0 L) ∧ NW U ∧ SW (AF E L.length sz) U U.heap)
def AtC (L : List Dsc) (Y : CYs) (D : va_G) (E : Nat → Nat) (A : Nat → Prop) (σ : Sta) (t : State) : Prop :=
  va_P D vwCl (wd Y E σ 0 L) t.heap ∧ va_K D vwCl (tysY Y) t ∧ va_D A (wd Y E σ 0 L)
def QI (L : List Dsc) (Y : CYs) (D : va_G) (E : Nat → Nat) (sz : Nat) (o : Int32 × Sta) : Array Value → State → Outcome → State → Prop :=
  va_Qi (fun r u => r = o.1 ∧ u = o.2) (AtC L Y D E (AF E L.length sz)) (AF E L.length sz)
def QL (L : List Dsc) (Y : CYs) (D : va_G) (E : Nat → Nat) (sz : Nat) (o : Int64 × Sta) : Array Value → State → Outcome → State → Prop :=
  va_Ql (fun r u => r = o.1 ∧ u = o.2) (AtC L Y D E (AF E L.length sz)) (AF E L.length sz)
def QV (L : List Dsc) (Y : CYs) (D : va_G) (E : Nat → Nat) (sz : Nat) (o : Unit × Sta) : Array Value → State → Outcome → State → Prop :=
  va_Qv (fun u => u = o.2) (AtC L Y D E (AF E L.length sz)) (AF E L.length sz)
/-- contracts: a method that answers o.1 and leaves the state o.2 -/
def MI (l : Launch) (y : MethodName) (ws : List Cond) (rm : Room) (L : List Dsc) (Y : CYs) (D : va_G) (E : Nat → Nat) (As : List Value) (σ : Sta) (o : Int32 × Sta) : Prop :=
  ∀ sz, Met l y ws rm (PcC L Y D E σ sz As) (QI L Y D E sz o) 0 0 (AF E L.length sz)
def ML (l : Launch) (y : MethodName) (ws : List Cond) (rm : Room) (L : List Dsc) (Y : CYs) (D : va_G) (E : Nat → Nat) (As : List Value) (σ : Sta) (o : Int64 × Sta) : Prop :=
  ∀ sz, Met l y ws rm (PcC L Y D E σ sz As) (QL L Y D E sz o) 0 0 (AF E L.length sz)
def MV (l : Launch) (y : MethodName) (ws : List Cond) (rm : Room) (L : List Dsc) (Y : CYs) (D : va_G) (E : Nat → Nat) (As : List Value) (σ : Sta) (o : Unit × Sta) : Prop :=
  ∀ sz, Met l y ws rm (PcC L Y D E σ sz As) (QV L Y D E sz o) 0 0 (AF E L.length sz)
theorem PcC_blind {L : List Dsc} {Y : CYs} {D : va_G} {E : Nat → Nat} {σ : Sta} {sz : Nat} {As : List Value} : FrameBlind (PcC L Y D E σ sz As) := fun a U g mk q => by
  obtain ⟨q0, q1, qP, qK, qD, qN, qS⟩ := q
  exact ⟨q0, q1, qP, va_K.moved (u := U) (U := U.calling g mk a) (Vm.Alike.refl U.vm) qK, qD, NW.same (s := U) (U := U.calling g mk a) rfl qN, SW.same (u := U) (U := U.calling g mk a) rfl qS⟩
/-- what stands through a method's body -/
def Fr (p : Program) (s : State) (m : MethodId) (args : Array Value) (meth : Method) (c : Code) (own : String) (cc : ByteArray) (nL : Nat) (ret : Option FieldType) (D : va_G) (Y : CYs) (E : Nat → Nat) (L : List Dsc) : Prop :=
  Ctx p s m args own D Y ∧ c.code = cc ∧ c.maxLocals = nL ∧ meth.sig.returnType = ret ∧ meth.locks = false ∧ (∀ τ, va_D (AF E L.length s.heap.size) (wd Y E τ 0 L)) ∧ SW (AF E L.length s.heap.size) s s.heap
theorem Met_of {l : Launch} {y : MethodName} {cc : ByteArray} {nL : Nat} {ret : Option FieldType} {rm : Room} {L : List Dsc} {Y : CYs} {D : va_G} {E : Nat → Nat} {As : List Value} {σ : Sta} {Qc : Nat → Array Value → State → Outcome → State → Prop}
    (hy : plainName y.cls = true) (hn : (lg_sl As).length ≤ nL)
    (body : ∀ p e s m args below meth c, Fr p s m args meth c y.cls cc nL ret D Y E L → va_P D vwCl (wd Y E σ 0 L) s.heap → ∀ ls, lv_has ls nL (lv_args 0 As) →
      W p l e rm s m args below meth c s.heap [] 0 0 (MQ below (Qc s.heap.size) args s 0 0 (AF E L.length s.heap.size)) (F0 m 0 ls [])) (sz : Nat) :
    Met l y (Cond.code y cc nL ret :: gW) rm (PcC L Y D E σ sz As) (Qc sz) 0 0 (AF E L.length sz) := by
  refine Met.ofW (cc := cc) (maxL := nL) (ret := ret) hy rfl ?_
  intro p e s m args below meth c s₁ B hml hv
  obtain ⟨rfl, hsz, hP, hK, hD0, hN, hSW⟩ := hv
  have hts := atoms_spec (ws := Cond.code y cc nL ret :: gW) B.pre
  have hown : s.vm.findClass y.cls = some m.cls := findClass_of_methodNamed B.named
  subst hsz
  have hl := lv_entry As (n := nL) hn
  rw [lg_entry_eq]
  exact body p e s m _ below meth c ⟨⟨B.exec, fun w h => hts w (List.mem_cons_of_mem _ h), hown, hK, hN⟩, B.bytes, hml, B.returns, B.notSynchronized, fun τ => wd_DA hD0, hSW⟩ hP _ hl
section CLS
variable {p : Program} {l : Launch} {e : Env} {R : Room} {s : State} {m : MethodId} {args : Array Value} {below : List Frame} {meth : Method} {c : Code} {H : Heap} {locs : List Loc} {cells slots : Nat} {Q : State → Prop}
variable {D : va_G} {Y : CYs} {E : Nat → Nat} {σ σ1 : Sta} {L : List Dsc} {own C : String} {cc bytes : ByteArray} {pc nL maxL n index : Nat} {ret rc : Option FieldType} {ls : Array Slot} {st rest As : List Value} {y : MethodName} {rm : Room} {lv : List (Nat × Value)}
theorem gi_V (h1 : Cond.methodLink own index y ∈ gW) (h2 : Cond.instanceMethod y ∈ gW) (h3 : Cond.selects C y y ∈ gW) (h4 : Cond.initialized C ∈ gW) {b : Cond} (h5 : b ∈ gW) : GoodIn gW (wsV own index C y (b :: gW)) := fun w hw => by
  have hg : ∀ w, w ∈ gW → w ∈ gW ∧ ((w.onTables && w.keeps) = true ∨ ∃ ty, w = .arrayClass ty) := fun w h => ⟨h, good_of_word (gW_good _ h)⟩
  unfold wsV at hw
  rcases List.mem_append.mp hw with h | h
  · simp only [List.mem_cons, List.not_mem_nil, or_false] at h
    rcases h with rfl | rfl | rfl | rfl
    · exact hg _ h1
    · exact hg _ h2
    · exact hg _ h3
    · exact hg _ h4
  · exact gi_law h5 w h
theorem gi_S (h1 : Cond.methodLink own index y ∈ gW) (h2 : Cond.static y ∈ gW) (h4 : Cond.initialized own ∈ gW) {b : Cond} (h5 : b ∈ gW) : GoodIn gW (wsS own index y (b :: gW)) := fun w hw => by
  have hg : ∀ w, w ∈ gW → w ∈ gW ∧ ((w.onTables && w.keeps) = true ∨ ∃ ty, w = .arrayClass ty) := fun w h => ⟨h, good_of_word (gW_good _ h)⟩
  unfold wsS at hw
  rcases List.mem_append.mp hw with h | h
  · simp only [List.mem_cons, List.not_mem_nil, or_false] at h
    rcases h with rfl | rfl | rfl
    · exact hg _ h1
    · exact hg _ h2
    · exact hg _ h4
  · exact gi_law h5 w h
theorem pre_of (hC : Ctx p s m args own D Y) (hP : va_P D vwCl (wd Y E σ 0 L) H) (hD : ∀ τ, va_D (AF E L.length s.heap.size) (wd Y E τ 0 L)) (hSW : SW (AF E L.length s.heap.size) s s.heap) (hS : va_S (AF E L.length s.heap.size) s.heap H locs) : ∀ U : State, U.heap = H → s.WarmedH U.vm → PcC L Y D E σ H.size As As.toArray U := fun U hU hW =>
  ⟨rfl, by rw [hU], by rw [hU]; exact hP, va_K.moved hW.alike hC.2.2.2.1, (hD σ).weaken (fun _ _ _ _ => trivial), NW.warm hW hC.2.2.2.2, by rw [hU]; exact ((hSW.kept hS.2.1).warm hW).narrow (fun q h => AF_le hS.1 h)⟩
theorem behindC (hC : Ctx p s m args own D Y) {t : State} {H1 : Heap} (ht : t.heap = H1) (hB : AtC L Y D E (AF E L.length H.size) σ1 t) : va_P D vwCl (wd Y E σ1 0 L) H1 := by
  rw [← ht]
  exact hB.1
theorem x_VI {q ci N : Nat} {T : u_T} {fs : List (Nat × Nat)} {r : Int32} {σ2 : Sta} (hF : Fr p s m args meth c own cc nL rc D Y E L) (hl : lv_has ls nL lv) (hP : va_P D vwCl (wd Y E σ 0 L) H) (hS : va_S (AF E L.length s.heap.size) s.heap H locs)
    (hM : MI l y (Cond.code y bytes maxL ret :: gW) rm L Y D E (.ref (E q) :: As) σ (r, σ2)) (cw : CallW R s args own C index y bytes maxL ret (Cond.code y bytes maxL ret :: gW) rm 0 0 n)
    (hq : L[q]? = some (0, ci, fs)) (hc : vwCl[ci]? = some (C, T, N)) (hn : As.length = n) (hst : st = As.reverse ++ .ref (E q) :: rest) (hcat : (rest.map fun v => v.category).sum ≤ 8) (hdg : decode cc pc = .ok (.invokevirtual index, 3)) (hf : cells ≤ R.cells ∧ slots ≤ R.slots)
    (kk : ∀ (H1 : Heap) (locs1 : List Loc), va_P D vwCl (wd Y E σ2 0 L) H1 → va_S (AF E L.length s.heap.size) s.heap H1 locs1 → W p l e R s m args below meth c H1 locs1 cells slots Q (F0 m (pc + 3) ls (.int r :: rest))) : W p l e R s m args below meth c H locs cells slots Q (F0 m pc ls st) := by
  obtain ⟨hC, hb, hml, hr, hlk, hD, hSW⟩ := hF
  subst hst
  refine va_calli (va_runV (As := As) (rest := rest) ⟨hC.1, hb, hml, hC.2.2.1, hC.2.1⟩ (hM H.size) cw ⟨PcC_blind, va_recv hC.2.2.2.1 hP hc (wd_at hq), pre_of hC hP hD hSW hS⟩ rfl hn hl.1 rfl (lv_room (ls := ls) hcat) hdg hf) hS (fun q _ h => AF_le hS.1 h) (fun q h => AF_le hS.1 h) (fun r1 u t H1 locs1 ht hvm hw hB hz hk hS1 => ?_)
  obtain ⟨rfl, rfl⟩ := hw
  exact kk H1 locs1 (behindC (H := H) hC ht hB) hS1
theorem x_VL {q ci N : Nat} {T : u_T} {fs : List (Nat × Nat)} {r : Int64} {σ2 : Sta} (hF : Fr p s m args meth c own cc nL rc D Y E L) (hl : lv_has ls nL lv) (hP : va_P D vwCl (wd Y E σ 0 L) H) (hS : va_S (AF E L.length s.heap.size) s.heap H locs)
    (hM : ML l y (Cond.code y bytes maxL ret :: gW) rm L Y D E (.ref (E q) :: As) σ (r, σ2)) (cw : CallW R s args own C index y bytes maxL ret (Cond.code y bytes maxL ret :: gW) rm 0 0 n)
    (hq : L[q]? = some (0, ci, fs)) (hc : vwCl[ci]? = some (C, T, N)) (hn : As.length = n) (hst : st = As.reverse ++ .ref (E q) :: rest) (hcat : (rest.map fun v => v.category).sum ≤ 8) (hdg : decode cc pc = .ok (.invokevirtual index, 3)) (hf : cells ≤ R.cells ∧ slots ≤ R.slots)
    (kk : ∀ (H1 : Heap) (locs1 : List Loc), va_P D vwCl (wd Y E σ2 0 L) H1 → va_S (AF E L.length s.heap.size) s.heap H1 locs1 → W p l e R s m args below meth c H1 locs1 cells slots Q (F0 m (pc + 3) ls (.long r :: rest))) : W p l e R s m args below meth c H locs cells slots Q (F0 m pc ls st) := by
  obtain ⟨hC, hb, hml, hr, hlk, hD, hSW⟩ := hF
  subst hst
  refine va_calll (va_runV (As := As) (rest := rest) ⟨hC.1, hb, hml, hC.2.2.1, hC.2.1⟩ (hM H.size) cw ⟨PcC_blind, va_recv hC.2.2.2.1 hP hc (wd_at hq), pre_of hC hP hD hSW hS⟩ rfl hn hl.1 rfl (lv_room (ls := ls) hcat) hdg hf) hS (fun q _ h => AF_le hS.1 h) (fun q h => AF_le hS.1 h) (fun r1 u t H1 locs1 ht hvm hw hB hz hk hS1 => ?_)
  obtain ⟨rfl, rfl⟩ := hw
  exact kk H1 locs1 (behindC (H := H) hC ht hB) hS1
theorem x_VV {q ci N : Nat} {T : u_T} {fs : List (Nat × Nat)} {σ2 : Sta} (hF : Fr p s m args meth c own cc nL rc D Y E L) (hl : lv_has ls nL lv) (hP : va_P D vwCl (wd Y E σ 0 L) H) (hS : va_S (AF E L.length s.heap.size) s.heap H locs)
    (hM : MV l y (Cond.code y bytes maxL ret :: gW) rm L Y D E (.ref (E q) :: As) σ ((), σ2)) (cw : CallW R s args own C index y bytes maxL ret (Cond.code y bytes maxL ret :: gW) rm 0 0 n)
    (hq : L[q]? = some (0, ci, fs)) (hc : vwCl[ci]? = some (C, T, N)) (hn : As.length = n) (hst : st = As.reverse ++ .ref (E q) :: rest) (hcat : (rest.map fun v => v.category).sum ≤ 8) (hdg : decode cc pc = .ok (.invokevirtual index, 3)) (hf : cells ≤ R.cells ∧ slots ≤ R.slots)
    (kk : ∀ (H1 : Heap) (locs1 : List Loc), va_P D vwCl (wd Y E σ2 0 L) H1 → va_S (AF E L.length s.heap.size) s.heap H1 locs1 → W p l e R s m args below meth c H1 locs1 cells slots Q (F0 m (pc + 3) ls rest)) : W p l e R s m args below meth c H locs cells slots Q (F0 m pc ls st) := by
  obtain ⟨hC, hb, hml, hr, hlk, hD, hSW⟩ := hF
  subst hst
  refine va_callv (va_runV (As := As) (rest := rest) ⟨hC.1, hb, hml, hC.2.2.1, hC.2.1⟩ (hM H.size) cw ⟨PcC_blind, va_recv hC.2.2.2.1 hP hc (wd_at hq), pre_of hC hP hD hSW hS⟩ rfl hn hl.1 rfl (lv_room (ls := ls) hcat) hdg hf) hS (fun q _ h => AF_le hS.1 h) (fun q h => AF_le hS.1 h) (fun u t H1 locs1 ht hvm hw hB hz hk hS1 => ?_)
  subst hw
  exact kk H1 locs1 (behindC (H := H) hC ht hB) hS1
theorem x_SI {r : Int32} {σ2 : Sta} (hF : Fr p s m args meth c own cc nL rc D Y E L) (hl : lv_has ls nL lv) (hP : va_P D vwCl (wd Y E σ 0 L) H) (hS : va_S (AF E L.length s.heap.size) s.heap H locs)
    (hM : MI l y (Cond.code y bytes maxL ret :: gW) rm L Y D E As σ (r, σ2)) (cw : CallB R s args own index y bytes maxL ret (Cond.code y bytes maxL ret :: gW) rm 0 0 n ∧ (Cond.static y).before args s = true)
    (hn : As.length = n) (hst : st = As.reverse ++ rest) (hcat : (rest.map fun v => v.category).sum ≤ 8) (hdg : decode cc pc = .ok (.invokestatic index, 3)) (hf : cells ≤ R.cells ∧ slots ≤ R.slots)
    (kk : ∀ (H1 : Heap) (locs1 : List Loc), va_P D vwCl (wd Y E σ2 0 L) H1 → va_S (AF E L.length s.heap.size) s.heap H1 locs1 → W p l e R s m args below meth c H1 locs1 cells slots Q (F0 m (pc + 3) ls (.int r :: rest))) : W p l e R s m args below meth c H locs cells slots Q (F0 m pc ls st) := by
  obtain ⟨hC, hb, hml, hr, hlk, hD, hSW⟩ := hF
  subst hst
  refine va_calli (va_runS (As := As) (rest := rest) ⟨hC.1, hb, hml, hC.2.2.1, hC.2.1⟩ (hM H.size) cw ⟨PcC_blind, pre_of hC hP hD hSW hS⟩ rfl hn hl.1 rfl (lv_room (ls := ls) hcat) hdg hf) hS (fun q _ h => AF_le hS.1 h) (fun q h => AF_le hS.1 h) (fun r1 u t H1 locs1 ht hvm hw hB hz hk hS1 => ?_)
  obtain ⟨rfl, rfl⟩ := hw
  exact kk H1 locs1 (behindC (H := H) hC ht hB) hS1
theorem x_SL {r : Int64} {σ2 : Sta} (hF : Fr p s m args meth c own cc nL rc D Y E L) (hl : lv_has ls nL lv) (hP : va_P D vwCl (wd Y E σ 0 L) H) (hS : va_S (AF E L.length s.heap.size) s.heap H locs)
    (hM : ML l y (Cond.code y bytes maxL ret :: gW) rm L Y D E As σ (r, σ2)) (cw : CallB R s args own index y bytes maxL ret (Cond.code y bytes maxL ret :: gW) rm 0 0 n ∧ (Cond.static y).before args s = true)
    (hn : As.length = n) (hst : st = As.reverse ++ rest) (hcat : (rest.map fun v => v.category).sum ≤ 8) (hdg : decode cc pc = .ok (.invokestatic index, 3)) (hf : cells ≤ R.cells ∧ slots ≤ R.slots)
    (kk : ∀ (H1 : Heap) (locs1 : List Loc), va_P D vwCl (wd Y E σ2 0 L) H1 → va_S (AF E L.length s.heap.size) s.heap H1 locs1 → W p l e R s m args below meth c H1 locs1 cells slots Q (F0 m (pc + 3) ls (.long r :: rest))) : W p l e R s m args below meth c H locs cells slots Q (F0 m pc ls st) := by
  obtain ⟨hC, hb, hml, hr, hlk, hD, hSW⟩ := hF
  subst hst
  refine va_calll (va_runS (As := As) (rest := rest) ⟨hC.1, hb, hml, hC.2.2.1, hC.2.1⟩ (hM H.size) cw ⟨PcC_blind, pre_of hC hP hD hSW hS⟩ rfl hn hl.1 rfl (lv_room (ls := ls) hcat) hdg hf) hS (fun q _ h => AF_le hS.1 h) (fun q h => AF_le hS.1 h) (fun r1 u t H1 locs1 ht hvm hw hB hz hk hS1 => ?_)
  obtain ⟨rfl, rfl⟩ := hw
  exact kk H1 locs1 (behindC (H := H) hC ht hB) hS1
theorem x_SNI {host : String} {r : Int32} {σ2 : Sta} (hF : Fr p s m args meth c own cc nL rc D Y E L) (hl : lv_has ls nL lv) (hP : va_P D vwCl (wd Y E σ 0 L) H) (hS : va_S (AF E L.length s.heap.size) s.heap H locs)
    (hM : MI l y (Cond.code y bytes maxL ret :: gW) rm L Y D E As σ (r, σ2)) (cw : va_CN R s args own index y host bytes maxL ret (Cond.code y bytes maxL ret :: gW) rm 0 0 n ∧ (Cond.static y).before args s = true)
    (hn : As.length = n) (hst : st = As.reverse ++ rest) (hcat : (rest.map fun v => v.category).sum ≤ 8) (hdg : decode cc pc = .ok (.invokestatic index, 3)) (hf : cells ≤ R.cells ∧ slots ≤ R.slots)
    (kk : ∀ (H1 : Heap) (locs1 : List Loc), va_P D vwCl (wd Y E σ2 0 L) H1 → va_S (AF E L.length s.heap.size) s.heap H1 locs1 → W p l e R s m args below meth c H1 locs1 cells slots Q (F0 m (pc + 3) ls (.int r :: rest))) : W p l e R s m args below meth c H locs cells slots Q (F0 m pc ls st) := by
  obtain ⟨hC, hb, hml, hr, hlk, hD, hSW⟩ := hF
  subst hst
  refine va_calli (va_runSN (As := As) (rest := rest) ⟨hC.1, hb, hml, hC.2.2.1, hC.2.1⟩ (hM H.size) ⟨cw.1, cw.2, trivial⟩ ⟨PcC_blind, pre_of hC hP hD hSW hS⟩ rfl hn hl.1 rfl (lv_room (ls := ls) hcat) hdg hf) hS (fun q _ h => AF_le hS.1 h) (fun q h => AF_le hS.1 h) (fun r1 u t H1 locs1 ht hvm hw hB hz hk hS1 => ?_)
  obtain ⟨rfl, rfl⟩ := hw
  exact kk H1 locs1 (behindC (H := H) hC ht hB) hS1
theorem x_SNL {host : String} {r : Int64} {σ2 : Sta} (hF : Fr p s m args meth c own cc nL rc D Y E L) (hl : lv_has ls nL lv) (hP : va_P D vwCl (wd Y E σ 0 L) H) (hS : va_S (AF E L.length s.heap.size) s.heap H locs)
    (hM : ML l y (Cond.code y bytes maxL ret :: gW) rm L Y D E As σ (r, σ2)) (cw : va_CN R s args own index y host bytes maxL ret (Cond.code y bytes maxL ret :: gW) rm 0 0 n ∧ (Cond.static y).before args s = true)
    (hn : As.length = n) (hst : st = As.reverse ++ rest) (hcat : (rest.map fun v => v.category).sum ≤ 8) (hdg : decode cc pc = .ok (.invokestatic index, 3)) (hf : cells ≤ R.cells ∧ slots ≤ R.slots)
    (kk : ∀ (H1 : Heap) (locs1 : List Loc), va_P D vwCl (wd Y E σ2 0 L) H1 → va_S (AF E L.length s.heap.size) s.heap H1 locs1 → W p l e R s m args below meth c H1 locs1 cells slots Q (F0 m (pc + 3) ls (.long r :: rest))) : W p l e R s m args below meth c H locs cells slots Q (F0 m pc ls st) := by
  obtain ⟨hC, hb, hml, hr, hlk, hD, hSW⟩ := hF
  subst hst
  refine va_calll (va_runSN (As := As) (rest := rest) ⟨hC.1, hb, hml, hC.2.2.1, hC.2.1⟩ (hM H.size) ⟨cw.1, cw.2, trivial⟩ ⟨PcC_blind, pre_of hC hP hD hSW hS⟩ rfl hn hl.1 rfl (lv_room (ls := ls) hcat) hdg hf) hS (fun q _ h => AF_le hS.1 h) (fun q h => AF_le hS.1 h) (fun r1 u t H1 locs1 ht hvm hw hB hz hk hS1 => ?_)
  obtain ⟨rfl, rfl⟩ := hw
  exact kk H1 locs1 (behindC (H := H) hC ht hB) hS1
theorem x_iret {v : Int32} {o : Int32 × Sta} (hF : Fr p s m args meth c own cc nL (some .int) D Y E L) (hP : va_P D vwCl (wd Y E σ 0 L) H) (hS : va_S (AF E L.length s.heap.size) s.heap H locs) (h : some (v, σ) = some o) (hdg : decode cc pc = .ok (.ireturn, 1)) : W p l e R s m args below meth c H locs cells slots (MQ below (QI L Y D E s.heap.size o) args s cells slots (AF E L.length s.heap.size)) (F0 m pc ls [.int v]) := by
  obtain ⟨hC, hb, hml, hr, hlk, hD, hSW⟩ := hF
  cases h
  exact W.iret hC.1 hb hr (fun t ht hW => ⟨⟨v, σ, rfl, ⟨rfl, rfl⟩, by rw [ht]; exact hP, va_K.moved hW.alike hC.2.2.2.1, hD σ⟩, hS.F ht⟩) hS.2.2 hdg hlk
theorem x_zret {v : Int32} {o : Int32 × Sta} (hF : Fr p s m args meth c own cc nL (some .boolean) D Y E L) (hP : va_P D vwCl (wd Y E σ 0 L) H) (hS : va_S (AF E L.length s.heap.size) s.heap H locs) (hv : narrow .boolean (.int v) = .int v) (h : some (v, σ) = some o) (hdg : decode cc pc = .ok (.ireturn, 1)) : W p l e R s m args below meth c H locs cells slots (MQ below (QI L Y D E s.heap.size o) args s cells slots (AF E L.length s.heap.size)) (F0 m pc ls [.int v]) := by
  obtain ⟨hC, hb, hml, hr, hlk, hD, hSW⟩ := hF
  cases h
  exact W.zret hC.1 hb hr hv (fun t ht hW => ⟨⟨v, σ, rfl, ⟨rfl, rfl⟩, by rw [ht]; exact hP, va_K.moved hW.alike hC.2.2.2.1, hD σ⟩, hS.F ht⟩) hS.2.2 hdg hlk
theorem x_lret {v : Int64} {o : Int64 × Sta} (hF : Fr p s m args meth c own cc nL (some .long) D Y E L) (hP : va_P D vwCl (wd Y E σ 0 L) H) (hS : va_S (AF E L.length s.heap.size) s.heap H locs) (h : some (v, σ) = some o) (hdg : decode cc pc = .ok (.lreturn, 1)) : W p l e R s m args below meth c H locs cells slots (MQ below (QL L Y D E s.heap.size o) args s cells slots (AF E L.length s.heap.size)) (F0 m pc ls [.long v]) := by
  obtain ⟨hC, hb, hml, hr, hlk, hD, hSW⟩ := hF
  cases h
  exact W.lret hC.1 hb hr (fun t ht hW => ⟨⟨v, σ, rfl, ⟨rfl, rfl⟩, by rw [ht]; exact hP, va_K.moved hW.alike hC.2.2.2.1, hD σ⟩, hS.F ht⟩) hS.2.2 hdg hlk
theorem x_vret {o : Unit × Sta} (hF : Fr p s m args meth c own cc nL none D Y E L) (hP : va_P D vwCl (wd Y E σ 0 L) H) (hS : va_S (AF E L.length s.heap.size) s.heap H locs) (h : some ((), σ) = some o) (hdg : decode cc pc = .ok (.return_, 1)) : W p l e R s m args below meth c H locs cells slots (MQ below (QV L Y D E s.heap.size o) args s cells slots (AF E L.length s.heap.size)) (F0 m pc ls []) := by
  obtain ⟨hC, hb, hml, hr, hlk, hD, hSW⟩ := hF
  cases h
  exact W.vret hC.1 hb hr (fun t ht hW => ⟨⟨σ, rfl, rfl, by rw [ht]; exact hP, va_K.moved hW.alike hC.2.2.2.1, hD σ⟩, hS.F ht⟩) hS.2.2 hdg hlk
theorem of_t {α : Type} {c : Prop} [Decidable c] {K1 K2 : Option α} {o : α} (h : (if c then K1 else K2) = some o) (hc : c) : K1 = some o := by
  rw [if_pos hc] at h; exact h
theorem of_f {α : Type} {c : Prop} [Decidable c] {K1 K2 : Option α} {o : α} (h : (if c then K1 else K2) = some o) (hc : ¬ c) : K2 = some o := by
  rw [if_neg hc] at h; exact h
end CLS
abbrev WI (p : Program) (l : Launch) (e : Env) (R : Room) (s : State) (m : MethodId) (args : Array Value) (below : List Frame) (meth : Method) (c : Code) (L : List Dsc) (Y : CYs) (D : va_G) (E : Nat → Nat) (o : Int32 × Sta) (H : Heap) (locs : List Loc) (g : JFrame) : Prop :=
  W p l e R s m args below meth c H locs 0 0 (MQ below (QI L Y D E s.heap.size o) args s 0 0 (AF E L.length s.heap.size)) g
abbrev WL (p : Program) (l : Launch) (e : Env) (R : Room) (s : State) (m : MethodId) (args : Array Value) (below : List Frame) (meth : Method) (c : Code) (L : List Dsc) (Y : CYs) (D : va_G) (E : Nat → Nat) (o : Int64 × Sta) (H : Heap) (locs : List Loc) (g : JFrame) : Prop :=
  W p l e R s m args below meth c H locs 0 0 (MQ below (QL L Y D E s.heap.size o) args s 0 0 (AF E L.length s.heap.size)) g
abbrev WV (p : Program) (l : Launch) (e : Env) (R : Room) (s : State) (m : MethodId) (args : Array Value) (below : List Frame) (meth : Method) (c : Code) (L : List Dsc) (Y : CYs) (D : va_G) (E : Nat → Nat) (o : Unit × Sta) (H : Heap) (locs : List Loc) (g : JFrame) : Prop :=
  W p l e R s m args below meth c H locs 0 0 (MQ below (QV L Y D E s.heap.size o) args s 0 0 (AF E L.length s.heap.size)) g
def FU : Nat := 1000000000
