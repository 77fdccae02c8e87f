/-! Methods that may throw: what they answer is a value or the name of an exception. -/
abbrev eISE : String := "java/lang/IllegalStateException"
abbrev eIAE : String := "java/lang/IllegalArgumentException"
abbrev eIOB : String := "java/lang/IndexOutOfBoundsException"
def bnx {α β : Type} (a : Option ((α ⊕ String) × Sta)) (k : α → Sta → Option ((β ⊕ String) × Sta)) : Option ((β ⊕ String) × Sta) := match a with
  | none => none
  | some (.inl r, σ) => k r σ
  | some (.inr X, σ) => some (.inr X, σ)
theorem of_bnx {α β : Type} {a : Option ((α ⊕ String) × Sta)} {k : α → Sta → Option ((β ⊕ String) × Sta)} {o : (β ⊕ String) × Sta} (h : bnx a k = some o) : (∃ r σ, a = some (.inl r, σ) ∧ k r σ = some o) ∨ ∃ X σ, a = some (.inr X, σ) ∧ o = (.inr X, σ) := by
  cases a with
  | none => cases h
  | some q =>
    obtain ⟨q1, q2⟩ := q
    cases q1 with
    | inl r => exact Or.inl ⟨r, q2, rfl, h⟩
    | inr X => exact Or.inr ⟨X, q2, rfl, (Option.some.inj h).symm⟩
def XCx (L : List Dsc) (Y : CYs) (D : va_G) (E : Nat → Nat) (A : Nat → Prop) (X : String) (σ : Sta) : String × Addr → State → State → Prop :=
  vx_X (fun u : Sta => u = σ) (fun E' u t => E'.1 = X ∧ AtC L Y D E A u t) A
def QN (L : List Dsc) (Y : CYs) (D : va_G) (E : Nat → Nat) (sz : Nat) : Array Value → State → Outcome → State → Prop :=
  va_Qv (fun _ : Sta => False) (AtC L Y D E (AF E L.length sz)) (AF E L.length sz)
def QD (L : List Dsc) (Y : CYs) (D : va_G) (E : Nat → Nat) (sz : Nat) (o : UInt64 × Sta) : Array Value → State → Outcome → State → Prop :=
  va_Qd (fun r u => r = o.1 ∧ u = o.2) (AtC L Y D E (AF E L.length sz)) (AF E L.length sz)
def MD (l : Launch) (y : MethodName) (ws : List Cond) (rm : Room) (L : List Dsc) (Y : CYs) (D : va_G) (E : Nat → Nat) (As : List Value) (σ : Sta) (o : UInt64 × Sta) : Prop :=
  ∀ sz, Met l y ws rm (PcC L Y D E σ sz As) (QD L Y D E sz o) 0 0 (AF E L.length sz)
def MXT (l : Launch) (y : MethodName) (ws : List Cond) (rm : Room) (L : List Dsc) (Y : CYs) (D : va_G) (E : Nat → Nat) (As : List Value) (σ : Sta) (X : String) (σ2 : Sta) : Prop :=
  ∀ sz, vx_Met l y ws rm (PcC L Y D E σ sz As) (QN L Y D E sz) (XCx L Y D E (AF E L.length sz) X σ2) 1 6 (AF E L.length sz)
abbrev QT (below : List Frame) (args : Array Value) (s : State) (L : List Dsc) (Y : CYs) (D : va_G) (E : Nat → Nat) (X : String) (σ2 : Sta) : State → Prop :=
  vx_MQ below (QN L Y D E s.heap.size) (XCx L Y D E (AF E L.length s.heap.size) X σ2) args s 1 6 (AF E L.length s.heap.size)
def QmI (below : List Frame) (args : Array Value) (s : State) (L : List Dsc) (Y : CYs) (D : va_G) (E : Nat → Nat) (o : (Int32 ⊕ String) × Sta) : State → Prop := match o with
  | (.inl r, u) => MQ below (QI L Y D E s.heap.size (r, u)) args s 0 0 (AF E L.length s.heap.size)
  | (.inr X, u) => QT below args s L Y D E X u
def QmL (below : List Frame) (args : Array Value) (s : State) (L : List Dsc) (Y : CYs) (D : va_G) (E : Nat → Nat) (o : (Int64 ⊕ String) × Sta) : State → Prop := match o with
  | (.inl r, u) => MQ below (QL L Y D E s.heap.size (r, u)) args s 0 0 (AF E L.length s.heap.size)
  | (.inr X, u) => QT below args s L Y D E X u
def QmV (below : List Frame) (args : Array Value) (s : State) (L : List Dsc) (Y : CYs) (D : va_G) (E : Nat → Nat) (o : (Unit ⊕ String) × Sta) : State → Prop := match o with
  | (.inl r, u) => MQ below (QV L Y D E s.heap.size (r, u)) args s 0 0 (AF E L.length s.heap.size)
  | (.inr X, u) => QT below args s L Y D E X u
def QmD (below : List Frame) (args : Array Value) (s : State) (L : List Dsc) (Y : CYs) (D : va_G) (E : Nat → Nat) (o : (UInt64 ⊕ String) × Sta) : State → Prop := match o with
  | (.inl r, u) => MQ below (QD L Y D E s.heap.size (r, u)) args s 0 0 (AF E L.length s.heap.size)
  | (.inr X, u) => QT below args s L Y D E X u
abbrev rmx {α : Type} (fr lo : Nat) (o : (α ⊕ String) × Sta) : Room := { frames := fr, cells := match o with | (.inl _, _) => 0 | (.inr _, _) => 1, slots := match o with | (.inl _, _) => 0 | (.inr _, _) => 6, locals := lo }
def MXI (l : Launch) (y : MethodName) (ws : List Cond) (fr lo : Nat) (L : List Dsc) (Y : CYs) (D : va_G) (E : Nat → Nat) (As : List Value) (σ : Sta) (o : (Int32 ⊕ String) × Sta) : Prop := match o with
  | (.inl r, u) => MI l y ws { frames := fr, cells := 0, slots := 0, locals := lo } L Y D E As σ (r, u)
  | (.inr X, u) => MXT l y ws { frames := fr, cells := 1, slots := 6, locals := lo } L Y D E As σ X u
def MXL (l : Launch) (y : MethodName) (ws : List Cond) (fr lo : Nat) (L : List Dsc) (Y : CYs) (D : va_G) (E : Nat → Nat) (As : List Value) (σ : Sta) (o : (Int64 ⊕ String) × Sta) : Prop := match o with
  | (.inl r, u) => ML l y ws { frames := fr, cells := 0, slots := 0, locals := lo } L Y D E As σ (r, u)
  | (.inr X, u) => MXT l y ws { frames := fr, cells := 1, slots := 6, locals := lo } L Y D E As σ X u
def MXV (l : Launch) (y : MethodName) (ws : List Cond) (fr lo : Nat) (L : List Dsc) (Y : CYs) (D : va_G) (E : Nat → Nat) (As : List Value) (σ : Sta) (o : (Unit ⊕ String) × Sta) : Prop := match o with
  | (.inl r, u) => MV l y ws { frames := fr, cells := 0, slots := 0, locals := lo } L Y D E As σ (r, u)
  | (.inr X, u) => MXT l y ws { frames := fr, cells := 1, slots := 6, locals := lo } L Y D E As σ X u
def MXD (l : Launch) (y : MethodName) (ws : List Cond) (fr lo : Nat) (L : List Dsc) (Y : CYs) (D : va_G) (E : Nat → Nat) (As : List Value) (σ : Sta) (o : (UInt64 ⊕ String) × Sta) : Prop := match o with
  | (.inl r, u) => MD l y ws { frames := fr, cells := 0, slots := 0, locals := lo } L Y D E As σ (r, u)
  | (.inr X, u) => MXT l y ws { frames := fr, cells := 1, slots := 6, locals := lo } L Y D E As σ X u
theorem MXT_of {l : Launch} {y : MethodName} {cc : ByteArray} {nL : Nat} {ret : Option FieldType} {rm : Room} {L : List Dsc} {Y : CYs} {D : va_G} {E : Nat → Nat} {As : List Value} {σ σ2 : Sta} {X : String}
    (hy : plainName y.cls = true) (hn : (lg_sl As).length ≤ nL)
    (body : ∀ p e s m args below meth c, Fr p s m args meth c y.cls cc nL ret D Y E L → va_P D vwCl (wd Y E σ 0 L) s.heap → (∀ x ∈ c.exceptionTable.toList, False) → ∀ ls, lv_has ls nL (lv_args 0 As) →
      W p l e rm s m args below meth c s.heap [] 0 0 (QT below args s L Y D E X σ2) (F0 m 0 ls [])) :
    MXT l y (Cond.code y cc nL ret :: gW) rm L Y D E As σ X σ2 := by
  intro sz
  refine vx_ofW (cc := cc) (maxL := nL) (ret := ret) hy rfl ?_
  intro p e s m args below meth c s₁ B hml ht hv
  obtain ⟨rfl, hsz, hP, hK, hD0, hN, hSW⟩ := hv
  have hts := atoms_spec (ws := Cond.code y cc nL ret :: gW) B.pre
  have hown : s.vm.findClass y.cls = some m.cls := findClass_of_methodNamed B.named
  subst hsz
  have hl := lv_entry As (n := nL) hn
  rw [lg_entry_eq]
  exact body p e s m _ below meth c ⟨⟨B.exec, fun w h => hts w (List.mem_cons_of_mem _ h), hown, hK, hN⟩, B.bytes, hml, B.returns, B.notSynchronized, fun τ => wd_DA hD0, hSW⟩ hP ht _ hl
theorem Met_ofXI {l : Launch} {y : MethodName} {cc : ByteArray} {nL fr lo : Nat} {ret : Option FieldType} {L : List Dsc} {Y : CYs} {D : va_G} {E : Nat → Nat} {As : List Value} {σ : Sta} {o : (Int32 ⊕ String) × Sta}
    (hy : plainName y.cls = true) (hn : (lg_sl As).length ≤ nL)
    (body : ∀ p e s m args below meth c, Fr p s m args meth c y.cls cc nL ret D Y E L → va_P D vwCl (wd Y E σ 0 L) s.heap → (∀ X u, o = (.inr X, u) → ∀ x ∈ c.exceptionTable.toList, False) → ∀ ls, lv_has ls nL (lv_args 0 As) →
      W p l e (rmx fr lo o) s m args below meth c s.heap [] 0 0 (QmI below args s L Y D E o) (F0 m 0 ls [])) :
    MXI l y (Cond.code y cc nL ret :: gW) fr lo L Y D E As σ o := by
  obtain ⟨o1, u⟩ := o
  cases o1 with
  | inl r => exact fun sz => Met_of (Qc := fun sz => QI L Y D E sz (r, u)) hy hn (fun p e s m args below meth c hF hP ls hl => body p e s m args below meth c hF hP (fun X u h => (nomatch (congrArg Prod.fst h))) ls hl) sz
  | inr X => exact MXT_of hy hn (fun p e s m args below meth c hF hP ht ls hl => body p e s m args below meth c hF hP (fun _ _ _ => ht) ls hl)
theorem Met_ofXL {l : Launch} {y : MethodName} {cc : ByteArray} {nL fr lo : Nat} {ret : Option FieldType} {L : List Dsc} {Y : CYs} {D : va_G} {E : Nat → Nat} {As : List Value} {σ : Sta} {o : (Int64 ⊕ String) × Sta}
    (hy : plainName y.cls = true) (hn : (lg_sl As).length ≤ nL)
    (body : ∀ p e s m args below meth c, Fr p s m args meth c y.cls cc nL ret D Y E L → va_P D vwCl (wd Y E σ 0 L) s.heap → (∀ X u, o = (.inr X, u) → ∀ x ∈ c.exceptionTable.toList, False) → ∀ ls, lv_has ls nL (lv_args 0 As) →
      W p l e (rmx fr lo o) s m args below meth c s.heap [] 0 0 (QmL below args s L Y D E o) (F0 m 0 ls [])) :
    MXL l y (Cond.code y cc nL ret :: gW) fr lo L Y D E As σ o := by
  obtain ⟨o1, u⟩ := o
  cases o1 with
  | inl r => exact fun sz => Met_of (Qc := fun sz => QL L Y D E sz (r, u)) hy hn (fun p e s m args below meth c hF hP ls hl => body p e s m args below meth c hF hP (fun X u h => (nomatch (congrArg Prod.fst h))) ls hl) sz
  | inr X => exact MXT_of hy hn (fun p e s m args below meth c hF hP ht ls hl => body p e s m args below meth c hF hP (fun _ _ _ => ht) ls hl)
theorem Met_ofXV {l : Launch} {y : MethodName} {cc : ByteArray} {nL fr lo : Nat} {ret : Option FieldType} {L : List Dsc} {Y : CYs} {D : va_G} {E : Nat → Nat} {As : List Value} {σ : Sta} {o : (Unit ⊕ String) × Sta}
    (hy : plainName y.cls = true) (hn : (lg_sl As).length ≤ nL)
    (body : ∀ p e s m args below meth c, Fr p s m args meth c y.cls cc nL ret D Y E L → va_P D vwCl (wd Y E σ 0 L) s.heap → (∀ X u, o = (.inr X, u) → ∀ x ∈ c.exceptionTable.toList, False) → ∀ ls, lv_has ls nL (lv_args 0 As) →
      W p l e (rmx fr lo o) s m args below meth c s.heap [] 0 0 (QmV below args s L Y D E o) (F0 m 0 ls [])) :
    MXV l y (Cond.code y cc nL ret :: gW) fr lo L Y D E As σ o := by
  obtain ⟨o1, u⟩ := o
  cases o1 with
  | inl r => exact fun sz => Met_of (Qc := fun sz => QV L Y D E sz (r, u)) hy hn (fun p e s m args below meth c hF hP ls hl => body p e s m args below meth c hF hP (fun X u h => (nomatch (congrArg Prod.fst h))) ls hl) sz
  | inr X => exact MXT_of hy hn (fun p e s m args below meth c hF hP ht ls hl => body p e s m args below meth c hF hP (fun _ _ _ => ht) ls hl)
theorem Met_ofXD {l : Launch} {y : MethodName} {cc : ByteArray} {nL fr lo : Nat} {ret : Option FieldType} {L : List Dsc} {Y : CYs} {D : va_G} {E : Nat → Nat} {As : List Value} {σ : Sta} {o : (UInt64 ⊕ String) × Sta}
    (hy : plainName y.cls = true) (hn : (lg_sl As).length ≤ nL)
    (body : ∀ p e s m args below meth c, Fr p s m args meth c y.cls cc nL ret D Y E L → va_P D vwCl (wd Y E σ 0 L) s.heap → (∀ X u, o = (.inr X, u) → ∀ x ∈ c.exceptionTable.toList, False) → ∀ ls, lv_has ls nL (lv_args 0 As) →
      W p l e (rmx fr lo o) s m args below meth c s.heap [] 0 0 (QmD below args s L Y D E o) (F0 m 0 ls [])) :
    MXD l y (Cond.code y cc nL ret :: gW) fr lo L Y D E As σ o := by
  obtain ⟨o1, u⟩ := o
  cases o1 with
  | inl r => exact fun sz => Met_of (Qc := fun sz => QD L Y D E sz (r, u)) hy hn (fun p e s m args below meth c hF hP ls hl => body p e s m args below meth c hF hP (fun X u h => (nomatch (congrArg Prod.fst h))) ls hl) sz
  | inr X => exact MXT_of hy hn (fun p e s m args below meth c hF hP ht ls hl => body p e s m args below meth c hF hP (fun _ _ _ => ht) ls hl)
abbrev nsX : List String := ["java/lang/RuntimeException","java/lang/Exception"]
def TWs (X : String) (ik ic : Nat) : Prop := Bundle.fit X = true ∧ Cond.classLink "MarkovBench" ik X ∈ gW ∧ Cond.initialized X ∈ gW ∧ (∀ w ∈ (vx_atS "MarkovBench" ic X nsX).filter goodWord, w ∈ tables_1) ∧ (∀ w ∈ (vx_atS "MarkovBench" ic X nsX).filter (fun w => !goodWord w), w ∈ nwx) ∧ ∀ w ∈ Cond.classLink "MarkovBench" ik X :: Cond.initialized X :: vx_atS "MarkovBench" ic X nsX, vx_ot w = true
section THX
variable {p : Program} {l : Launch} {e : Env} {R : Room} {s : State} {m : MethodId} {args : Array Value} {below : List Frame} {meth : Method} {c : Code} {H : Heap} {locs : List Loc} {cells slots : Nat} {Q : State → Prop}
variable {D : va_G} {Y : CYs} {E : Nat → Nat} {σ σ1 σ2 : Sta} {L : List Dsc} {own C X : String} {cc bytes : ByteArray} {pc nL maxL n index ik is ic : Nat} {ret rc : Option FieldType} {ls : Array Slot} {st rest As : List Value} {y : MethodName} {rm : Room} {lv : List (Nat × Value)}
theorem x_thr {text : String} (ht : l.stackTraces = false) (hF : Fr p s m args meth c "MarkovBench" cc nL rc D Y E L) (hl : lv_has ls nL lv) (hP : va_P D vwCl (wd Y E σ 0 L) H) (hS : va_S (AF E L.length s.heap.size) s.heap H locs) (hT : TWs X ik ic) (hm : (is, text) ∈ msgs) (htab : ∀ x ∈ c.exceptionTable.toList, False)
    (d0 : decode cc pc = .ok (.new ik, 3)) (d3 : decode cc (pc + 3) = .ok (.dup, 1)) (d4 : decode cc (pc + 4) = .ok (.ldc is, 2)) (d6 : decode cc (pc + 6) = .ok (.invokespecial ic, 3)) (d9 : decode cc (pc + 9) = .ok (.athrow, 1))
    (hR : 5 < R.frames ∧ 82 ≤ R.locals) (hRc : 0 + 1 ≤ R.cells) (hRs : 0 + 6 ≤ R.slots) : W p l e R s m args below meth c H locs 0 0 (QT below args s L Y D E X σ) (F0 m pc ls []) := by
  obtain ⟨hC, hb, hml, hr, hlk, hD, hSW⟩ := hF
  obtain ⟨t1, t2, t3, t4, t5, t6⟩ := hT
  obtain ⟨sa, hsa⟩ := hSW.2.1 _ hm
  refine vx_throwS (names := nsX) (A := AF E L.length s.heap.size) hC.1 hb ht hC.2.2.1 t1 (by decide +kernel) (hC.2.1 _ t2) (hC.2.1 _ t3) hsa (vx_hat (fun w hw => hC.2.1 w (gw_t (t4 w hw) (List.mem_filter.mp hw).2)) t5 (fun w hw => va_Nw.use (nest_on (List.all_eq_true.mp nwx_nest w hw)) (hC.2.2.2.2.2.1 w hw))) t6 hSW.2.2.1 hSW.2.2.2.1 hS (hl.1.trans hml.symm) d0 d3 d4 d6 d9 (fun x hx => (htab x hx).elim) hR.1 hR.2 hRc hRs hlk (fun t hvm h1 h2 _ => ⟨σ, rfl, ⟨rfl, hP.kept (fun k q hk => h2 _ (vx_lt hP hk)), va_K.moved hvm hC.2.2.2.1, hD σ⟩, Nat.le_trans hS.1 h1, fun q h3 h4 => by rw [h2 q (Nat.lt_of_lt_of_le h3 hS.1)]; exact hS.2.1 q h3 h4⟩) hS.2.2 (Nat.le_refl _) (Nat.le_refl _)
theorem x_thrW {text : String} (ht : l.stackTraces = false) (hF : Fr p s m args meth c "MarkovBench" cc nL rc D Y E L) (hl : lv_has ls nL lv) (hP : va_P D vwCl (wd Y E σ 0 L) H) (hS : va_S (AF E L.length s.heap.size) s.heap H locs) (hT : TWs X ik ic) (hm : (is, text) ∈ msgs) (htab : ∀ x ∈ c.exceptionTable.toList, False)
    (d0 : decode cc pc = .ok (.new ik, 3)) (d3 : decode cc (pc + 3) = .ok (.dup, 1)) (d4 : decode cc (pc + 4) = .ok (.ldc_w is, 3)) (d7 : decode cc (pc + 7) = .ok (.invokespecial ic, 3)) (d10 : decode cc (pc + 10) = .ok (.athrow, 1))
    (hR : 5 < R.frames ∧ 82 ≤ R.locals) (hRc : 0 + 1 ≤ R.cells) (hRs : 0 + 6 ≤ R.slots) : W p l e R s m args below meth c H locs 0 0 (QT below args s L Y D E X σ) (F0 m pc ls []) := by
  obtain ⟨hC, hb, hml, hr, hlk, hD, hSW⟩ := hF
  obtain ⟨t1, t2, t3, t4, t5, t6⟩ := hT
  obtain ⟨sa, hsa⟩ := hSW.2.1 _ hm
  refine vx_throwSW (names := nsX) (A := AF E L.length s.heap.size) hC.1 hb ht hC.2.2.1 t1 (by decide +kernel) (hC.2.1 _ t2) (hC.2.1 _ t3) hsa (vx_hat (fun w hw => hC.2.1 w (gw_t (t4 w hw) (List.mem_filter.mp hw).2)) t5 (fun w hw => va_Nw.use (nest_on (List.all_eq_true.mp nwx_nest w hw)) (hC.2.2.2.2.2.1 w hw))) t6 hSW.2.2.1 hSW.2.2.2.1 hS (hl.1.trans hml.symm) d0 d3 d4 d7 d10 (fun x hx => (htab x hx).elim) hR.1 hR.2 hRc hRs hlk (fun t hvm h1 h2 _ => ⟨σ, rfl, ⟨rfl, hP.kept (fun k q hk => h2 _ (vx_lt hP hk)), va_K.moved hvm hC.2.2.2.1, hD σ⟩, Nat.le_trans hS.1 h1, fun q h3 h4 => by rw [h2 q (Nat.lt_of_lt_of_le h3 hS.1)]; exact hS.2.1 q h3 h4⟩) hS.2.2 (Nat.le_refl _) (Nat.le_refl _)
theorem x_VT {q ci N : Nat} {T : u_T} {fs : List (Nat × Nat)} (hF : Fr p s m args meth c own cc nL rc D Y E L) (hl : lv_has ls nL lv) (hP : va_P D vwCl (wd Y E σ 0 L) H) (hS : va_S (AF E L.length s.heap.size) s.heap H locs)
    (hM : MXT l y (Cond.code y bytes maxL ret :: gW) rm L Y D E (.ref (E q) :: As) σ X σ2) (cw : CallW R s args own C index y bytes maxL ret (Cond.code y bytes maxL ret :: gW) rm 1 6 n)
    (hq : L[q]? = some (0, ci, fs)) (hc : vwCl[ci]? = some (C, T, N)) (hn : As.length = n) (hst : st = As.reverse ++ .ref (E q) :: rest) (hcat : (rest.map fun v => v.category).sum ≤ 8) (hdg : decode cc pc = .ok (.invokevirtual index, 3)) (hf : 0 + 1 ≤ R.cells ∧ 0 + 6 ≤ R.slots) (htab : ∀ x ∈ c.exceptionTable.toList, False) :
    W p l e R s m args below meth c H locs 0 0 (QT below args s L Y D E X σ2) (F0 m pc ls st) := by
  obtain ⟨hC, hb, hml, hr, hlk, hD, hSW⟩ := hF
  subst hst
  refine vx_callv (vx_runV (As := As) (rest := rest) ⟨hC.1, hb, hml, hC.2.2.1, hC.2.1⟩ (hM H.size) cw ⟨PcC_blind, va_recv hC.2.2.2.1 hP hc (wd_at hq), pre_of hC hP hD hSW hS⟩ rfl hn hl.1 rfl (lv_room (ls := ls) hcat) hdg hf) hS (fun q _ h => AF_le hS.1 h) (fun q h => AF_le hS.1 h) (fun q _ h => AF_le hS.1 h) (fun E' ce q9 u t H1 locs1 ht hvm hu hB hz hk hS1 hcell hcv hcl => ?_) (fun u t H1 locs1 ht hvm hw hB hz hk hS1 => hw.elim)
  subst hu
  obtain ⟨hE, hB⟩ := hB
  have hE : E' = X := hE
  subst hE
  exact vx_out (fun x hx => (htab x hx).elim) hlk hcell hcv hcl (fun t2 ht2 hvm2 => ⟨u, rfl, ⟨rfl, by rw [ht2, ← ht]; exact hB.1, va_K.moved hvm2 hC.2.2.2.1, hD u⟩, hS1.F ht2⟩) hS1.2.2 (Nat.le_refl _) (Nat.le_refl _)
theorem x_iretX {v : Int32} {o : (Int32 ⊕ String) × Sta} {fr lo : Nat} (hF : Fr p s m args meth c own cc nL (some .int) D Y E L) (hP : va_P D vwCl (wd Y E σ 0 L) H) (hS : va_S (AF E L.length s.heap.size) s.heap H locs) (h : some (.inl v, σ) = some o) (hdg : decode cc pc = .ok (.ireturn, 1)) : W p l e (rmx fr lo o) s m args below meth c H locs 0 0 (QmI below args s L Y D E o) (F0 m pc ls [.int v]) := by
  cases h
  exact x_iret hF hP hS rfl hdg
theorem x_zretX {v : Int32} {o : (Int32 ⊕ String) × Sta} {fr lo : Nat} (hF : Fr p s m args meth c own cc nL (some .boolean) D Y E L) (hP : va_P D vwCl (wd Y E σ 0 L) H) (hS : va_S (AF E L.length s.heap.size) s.heap H locs) (hv : narrow .boolean (.int v) = .int v) (h : some (.inl v, σ) = some o) (hdg : decode cc pc = .ok (.ireturn, 1)) : W p l e (rmx fr lo o) s m args below meth c H locs 0 0 (QmI below args s L Y D E o) (F0 m pc ls [.int v]) := by
  cases h
  exact x_zret hF hP hS hv rfl hdg
theorem x_lretX {v : Int64} {o : (Int64 ⊕ String) × Sta} {fr lo : Nat} (hF : Fr p s m args meth c own cc nL (some .long) D Y E L) (hP : va_P D vwCl (wd Y E σ 0 L) H) (hS : va_S (AF E L.length s.heap.size) s.heap H locs) (h : some (.inl v, σ) = some o) (hdg : decode cc pc = .ok (.lreturn, 1)) : W p l e (rmx fr lo o) s m args below meth c H locs 0 0 (QmL below args s L Y D E o) (F0 m pc ls [.long v]) := by
  cases h
  exact x_lret hF hP hS rfl hdg
theorem x_vretX {o : (Unit ⊕ String) × Sta} {fr lo : Nat} (hF : Fr p s m args meth c own cc nL none D Y E L) (hP : va_P D vwCl (wd Y E σ 0 L) H) (hS : va_S (AF E L.length s.heap.size) s.heap H locs) (h : some (.inl (), σ) = some o) (hdg : decode cc pc = .ok (.return_, 1)) : W p l e (rmx fr lo o) s m args below meth c H locs 0 0 (QmV below args s L Y D E o) (F0 m pc ls []) := by
  cases h
  exact x_vret hF hP hS rfl hdg
theorem x_dret {v : UInt64} {o : UInt64 × Sta} (hF : Fr p s m args meth c own cc nL (some .double) D Y E L) (hP : va_P D vwCl (wd Y E σ 0 L) H) (hS : va_S (AF E L.length s.heap.size) s.heap H locs) (h : some (v, σ) = some o) (hdg : decode cc pc = .ok (.dreturn, 1)) : W p l e R s m args below meth c H locs cells slots (MQ below (QD L Y D E s.heap.size o) args s cells slots (AF E L.length s.heap.size)) (F0 m pc ls [.double v]) := by
  obtain ⟨hC, hb, hml, hr, hlk, hD, hSW⟩ := hF
  cases h
  exact W.dret hC.1 hb hr (fun t ht hW => ⟨⟨v, σ, rfl, ⟨rfl, rfl⟩, by rw [ht]; exact hP, va_K.moved hW.alike hC.2.2.2.1, hD σ⟩, hS.F ht⟩) hS.2.2 hdg hlk
theorem x_dretX {v : UInt64} {o : (UInt64 ⊕ String) × Sta} {fr lo : Nat} (hF : Fr p s m args meth c own cc nL (some .double) D Y E L) (hP : va_P D vwCl (wd Y E σ 0 L) H) (hS : va_S (AF E L.length s.heap.size) s.heap H locs) (h : some (.inl v, σ) = some o) (hdg : decode cc pc = .ok (.dreturn, 1)) : W p l e (rmx fr lo o) s m args below meth c H locs 0 0 (QmD below args s L Y D E o) (F0 m pc ls [.double v]) := by
  cases h
  exact x_dret hF hP hS rfl hdg
end THX
set_option maxRecDepth 100000 in
theorem twISE : TWs eISE 85 89 := ⟨by decide +kernel, gw_t (tb4 (List.mem_of_getElem? (i := 85) rfl)) rfl, gw_t (tb1 (List.mem_of_getElem? (i := 20) rfl)) rfl, by decide +kernel, by decide +kernel, by decide +kernel⟩
set_option maxRecDepth 100000 in
theorem twIAE : TWs eIAE 281 285 := ⟨by decide +kernel, gw_t (tb4 (List.mem_of_getElem? (i := 169) rfl)) rfl, gw_t (tb1 (List.mem_of_getElem? (i := 21) rfl)) rfl, by decide +kernel, by decide +kernel, by decide +kernel⟩
set_option maxRecDepth 100000 in
theorem twIOB : TWs eIOB 135 139 := ⟨by decide +kernel, gw_t (tb4 (List.mem_of_getElem? (i := 193) rfl)) rfl, gw_t (tb1 (List.mem_of_getElem? (i := 25) rfl)) rfl, by decide +kernel, by decide +kernel, by decide +kernel⟩
