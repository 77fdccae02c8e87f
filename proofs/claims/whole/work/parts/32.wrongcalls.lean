set_option maxHeartbeats 4000000 in
set_option maxRecDepth 100000 in
/-- Wrong(error, place) -/
theorem c_X9_init {l : Launch} {D : va_G} {Y : CYs} {a : Nat} {x : Int32 × Int32} (ht : l.stackTraces = false) (sz : Nat) : Met l yX9_init (Cond.code yX9_init cX9_init 3 none :: gW) { frames := 5, cells := 0, slots := 0, locals := 80 } (PcW Y D a x sz) (QcW D a x sz) 0 0 (AFa a sz) := by
  refine Met.ofW (cc := cX9_init) (maxL := 3) (ret := none) (by decide) rfl ?_
  intro p e s m args below meth c s₁ B hml hv
  obtain ⟨rfl, hsz, hB, hK, hN, hSW⟩ := hv
  have hts := atoms_spec (ws := Cond.code yX9_init cX9_init 3 none :: gW) B.pre
  have hown : s.vm.findClass RX9 = some m.cls := findClass_of_methodNamed B.named
  have hin : meth.name = "<init>" := (name_of_methodNamed B.named B.method).1
  have hlk := B.notSynchronized
  subst hsz
  have hl := lv_entry [.ref a, .int x.1, .int x.2] (n := 3) (Nat.le_of_ble_eq_true rfl)
  rw [lg_entry_eq]
  generalize (lg_sl [.ref a, .int x.1, .int x.2] ++ List.replicate (3 - (lg_sl [.ref a, .int x.1, .int x.2]).length) Slot.unset).toArray = ls at hl ⊢
  have hl : lv_has ls 3 [(0, .ref a), (1, .int x.1), (2, .int x.2)] := hl
  have hx := B.exec
  have hb := B.bytes
  have hC : Ctx p s m [Value.ref a, Value.int x.1, Value.int x.2].toArray RX9 D Y := ⟨hx, fun w h => hts w (List.mem_cons_of_mem _ h), hown, hK, hN⟩
  refine lv_aload_n hx hb dX9_init_0 rfl (lv_at hl 0 rfl) ?_
  refine w_sup hC hb ht hSW hB (hl.1.trans hml.symm) dX9_init_1 ⟨Nat.le_of_ble_eq_true rfl, Nat.le_of_ble_eq_true rfl⟩ (fun H1 locs1 fs hfs hP hS => ?_)
  have hD : va_D (AFa a s.heap.size) [((a, .inr (9, fs)) : Nat × va_E)] := by
    refine ⟨fun i j p q hp hq _ => ?_, fun k q hk => ?_⟩
    · have h1 := (List.getElem?_eq_some_iff.mp hp).1
      have h2 := (List.getElem?_eq_some_iff.mp hq).1
      simp at h1 h2
      omega
    · cases k with
      | zero => cases hk; exact Or.inl rfl
      | succ k => cases hk
  refine lv_aload_n hx hb dX9_init_4 rfl (lv_at hl 0 rfl) ?_
  refine lv_iload_n hx hb dX9_init_5 rfl (lv_at hl 1 rfl) ?_
  refine va_putF (ci := 9) (v := .int x.1) (ty := .int) (C := RX9) (T := TX9) (N := 8) hx hb hC.2.1 inGX9 tyX9 tyX9_ok nmX9 hown hK hP hD hS 0 rfl rfl 6 (by decide) (hC.2.1 (.fieldLink RX9 7 "MarkovBenchModel$Wrong" "error" "I") (gw_t (tb7 (List.mem_of_getElem? (i := 71) rfl)) rfl)) (fun _ h9 => h9) rfl hin rfl (by decide +kernel) rfl rfl (by omega) dX9_init_6 (fun H locs hP hD hS => ?_)
  refine lv_aload_n hx hb dX9_init_9 rfl (lv_at hl 0 rfl) ?_
  refine lv_iload_n hx hb dX9_init_10 rfl (lv_at hl 2 rfl) ?_
  refine va_putF (ci := 9) (v := .int x.2) (ty := .int) (C := RX9) (T := TX9) (N := 8) hx hb hC.2.1 inGX9 tyX9 tyX9_ok nmX9 hown hK hP hD hS 0 rfl rfl 7 (by decide) (hC.2.1 (.fieldLink RX9 13 "MarkovBenchModel$Wrong" "place" "I") (gw_t (tb7 (List.mem_of_getElem? (i := 73) rfl)) rfl)) (fun _ h9 => h9) rfl hin rfl (by decide +kernel) rfl rfl (by rw [List.length_set]; omega) dX9_init_11 (fun H locs hP hD hS => ?_)
  exact W.vret hx hb B.returns (fun t ht hW => ⟨⟨(), rfl, trivial, (fs.set 6 (.int x.1)).set 7 (.int x.2), by simp [hfs], by simp [hfs], by simp [hfs], by rw [ht]; exact hP⟩, hS.F ht⟩) hS.2.2 dX9_init_14 hlk
def bnw {α β : Type} (a : Option ((α ⊕ (Int32 × Int32)) × Sta)) (k : α → Sta → Option ((β ⊕ (Int32 × Int32)) × Sta)) : Option ((β ⊕ (Int32 × Int32)) × Sta) := match a with
  | none => none
  | some (.inl r, σ) => k r σ
  | some (.inr X, σ) => some (.inr X, σ)
theorem of_bnw {α β : Type} {a : Option ((α ⊕ (Int32 × Int32)) × Sta)} {k : α → Sta → Option ((β ⊕ (Int32 × Int32)) × Sta)} {o : (β ⊕ (Int32 × Int32)) × Sta} (h : bnw a k = some o) : (∃ r σ, a = some (.inl r, σ) ∧ k r σ = some o) ∨ ∃ X σ, a = some (.inr X, σ) ∧ o = (.inr X, σ) := by
  cases a with
  | none => cases h
  | some q =>
    obtain ⟨q1, q2⟩ := q
    cases q1 with
    | inl r => exact Or.inl ⟨r, q2, rfl, h⟩
    | inr X => exact Or.inr ⟨X, q2, rfl, (Option.some.inj h).symm⟩
/-- .. and a handler -/
def bnc {α β : Type} (a : Option ((α ⊕ (Int32 × Int32)) × Sta)) (k : α → Sta → Option β) (kx : Int32 × Int32 → Sta → Option β) : Option β := match a with
  | none => none
  | some (.inl r, σ) => k r σ
  | some (.inr X, σ) => kx X σ
theorem of_bnc {α β : Type} {a : Option ((α ⊕ (Int32 × Int32)) × Sta)} {k : α → Sta → Option β} {kx : Int32 × Int32 → Sta → Option β} {o : β} (h : bnc a k kx = some o) : (∃ r σ, a = some (.inl r, σ) ∧ k r σ = some o) ∨ ∃ X σ, a = some (.inr X, σ) ∧ kx X σ = some o := by
  cases a with
  | none => cases h
  | some q =>
    obtain ⟨q1, q2⟩ := q
    cases q1 with
    | inl r => exact Or.inl ⟨r, q2, rfl, h⟩
    | inr X => exact Or.inr ⟨X, q2, rfl, h⟩
def XCw (L : List Dsc) (Y : CYs) (D : va_G) (E : Nat → Nat) (A : Nat → Prop) (x : Int32 × Int32) (σ : Sta) : String × Addr → State → State → Prop :=
  vx_X (fun u : Sta => u = σ) (fun E' u t => E'.1 = eWR ∧ AtC L Y D E A u t ∧ WRc D E'.2 x t.heap) A
def MWT (l : Launch) (y : MethodName) (ws : List Cond) (rm : Room) (L : List Dsc) (Y : CYs) (D : va_G) (E : Nat → Nat) (As : List Value) (σ : Sta) (x : Int32 × Int32) (σ2 : Sta) : Prop :=
  ∀ sz, vx_Met l y ws rm (PcC L Y D E σ sz As) (QN L Y D E sz) (XCw L Y D E (AF E L.length sz) x σ2) 1 8 (AF E L.length sz)
abbrev QTw (below : List Frame) (args : Array Value) (s : State) (L : List Dsc) (Y : CYs) (D : va_G) (E : Nat → Nat) (x : Int32 × Int32) (σ2 : Sta) : State → Prop :=
  vx_MQ below (QN L Y D E s.heap.size) (XCw L Y D E (AF E L.length s.heap.size) x σ2) args s 1 8 (AF E L.length s.heap.size)
def QwI (below : List Frame) (args : Array Value) (s : State) (L : List Dsc) (Y : CYs) (D : va_G) (E : Nat → Nat) (o : (Int32 ⊕ (Int32 × Int32)) × Sta) : State → Prop := match o with
  | (.inl r, u) => MQ below (QI L Y D E s.heap.size (r, u)) args s 0 0 (AF E L.length s.heap.size)
  | (.inr X, u) => QTw below args s L Y D E X u
def QwL (below : List Frame) (args : Array Value) (s : State) (L : List Dsc) (Y : CYs) (D : va_G) (E : Nat → Nat) (o : (Int64 ⊕ (Int32 × Int32)) × Sta) : State → Prop := match o with
  | (.inl r, u) => MQ below (QL L Y D E s.heap.size (r, u)) args s 0 0 (AF E L.length s.heap.size)
  | (.inr X, u) => QTw below args s L Y D E X u
def QwV (below : List Frame) (args : Array Value) (s : State) (L : List Dsc) (Y : CYs) (D : va_G) (E : Nat → Nat) (o : (Unit ⊕ (Int32 × Int32)) × Sta) : State → Prop := match o with
  | (.inl r, u) => MQ below (QV L Y D E s.heap.size (r, u)) args s 0 0 (AF E L.length s.heap.size)
  | (.inr X, u) => QTw below args s L Y D E X u
abbrev rmw {α : Type} (fr lo : Nat) (o : (α ⊕ (Int32 × Int32)) × Sta) : Room := { frames := fr, cells := match o with | (.inl _, _) => 0 | (.inr _, _) => 1, slots := match o with | (.inl _, _) => 0 | (.inr _, _) => 8, locals := lo }
def MWI (l : Launch) (y : MethodName) (ws : List Cond) (fr lo : Nat) (L : List Dsc) (Y : CYs) (D : va_G) (E : Nat → Nat) (As : List Value) (σ : Sta) (o : (Int32 ⊕ (Int32 × Int32)) × Sta) : Prop := match o with
  | (.inl r, u) => MI l y ws { frames := fr, cells := 0, slots := 0, locals := lo } L Y D E As σ (r, u)
  | (.inr X, u) => MWT l y ws { frames := fr, cells := 1, slots := 8, locals := lo } L Y D E As σ X u
def MWL (l : Launch) (y : MethodName) (ws : List Cond) (fr lo : Nat) (L : List Dsc) (Y : CYs) (D : va_G) (E : Nat → Nat) (As : List Value) (σ : Sta) (o : (Int64 ⊕ (Int32 × Int32)) × Sta) : Prop := match o with
  | (.inl r, u) => ML l y ws { frames := fr, cells := 0, slots := 0, locals := lo } L Y D E As σ (r, u)
  | (.inr X, u) => MWT l y ws { frames := fr, cells := 1, slots := 8, locals := lo } L Y D E As σ X u
def MWV (l : Launch) (y : MethodName) (ws : List Cond) (fr lo : Nat) (L : List Dsc) (Y : CYs) (D : va_G) (E : Nat → Nat) (As : List Value) (σ : Sta) (o : (Unit ⊕ (Int32 × Int32)) × Sta) : Prop := match o with
  | (.inl r, u) => MV l y ws { frames := fr, cells := 0, slots := 0, locals := lo } L Y D E As σ (r, u)
  | (.inr X, u) => MWT l y ws { frames := fr, cells := 1, slots := 8, locals := lo } L Y D E As σ X u
theorem MWT_of {l : Launch} {y : MethodName} {cc : ByteArray} {nL : Nat} {ret : Option FieldType} {rm : Room} {L : List Dsc} {Y : CYs} {D : va_G} {E : Nat → Nat} {As : List Value} {σ σ2 : Sta} {X : Int32 × Int32}
    (hy : plainName y.cls = true) (hn : (lg_sl As).length ≤ nL)
    (body : ∀ p e s m args below meth c, Fr p s m args meth c y.cls cc nL ret D Y E L → va_P D vwCl (wd Y E σ 0 L) s.heap → (∀ x ∈ c.exceptionTable.toList, False) → ∀ ls, lv_has ls nL (lv_args 0 As) →
      W p l e rm s m args below meth c s.heap [] 0 0 (QTw below args s L Y D E X σ2) (F0 m 0 ls [])) :
    MWT l y (Cond.code y cc nL ret :: gW) rm L Y D E As σ X σ2 := by
  intro sz
  refine vx_ofW (cc := cc) (maxL := nL) (ret := ret) hy rfl ?_
  intro p e s m args below meth c s₁ B hml ht hv
  obtain ⟨rfl, hsz, hP, hK, hD0, hN, hSW⟩ := hv
  have hts := atoms_spec (ws := Cond.code y cc nL ret :: gW) B.pre
  have hown : s.vm.findClass y.cls = some m.cls := findClass_of_methodNamed B.named
  subst hsz
  have hl := lv_entry As (n := nL) hn
  rw [lg_entry_eq]
  exact body p e s m _ below meth c ⟨⟨B.exec, fun w h => hts w (List.mem_cons_of_mem _ h), hown, hK, hN⟩, B.bytes, hml, B.returns, B.notSynchronized, fun τ => wd_DA hD0, hSW⟩ hP ht _ hl
theorem Met_ofWI {l : Launch} {y : MethodName} {cc : ByteArray} {nL fr lo : Nat} {ret : Option FieldType} {L : List Dsc} {Y : CYs} {D : va_G} {E : Nat → Nat} {As : List Value} {σ : Sta} {o : (Int32 ⊕ (Int32 × Int32)) × Sta}
    (hy : plainName y.cls = true) (hn : (lg_sl As).length ≤ nL)
    (body : ∀ p e s m args below meth c, Fr p s m args meth c y.cls cc nL ret D Y E L → va_P D vwCl (wd Y E σ 0 L) s.heap → (∀ X u, o = (.inr X, u) → ∀ x ∈ c.exceptionTable.toList, False) → ∀ ls, lv_has ls nL (lv_args 0 As) →
      W p l e (rmw fr lo o) s m args below meth c s.heap [] 0 0 (QwI below args s L Y D E o) (F0 m 0 ls [])) :
    MWI l y (Cond.code y cc nL ret :: gW) fr lo L Y D E As σ o := by
  obtain ⟨o1, u⟩ := o
  cases o1 with
  | inl r => exact fun sz => Met_of (Qc := fun sz => QI L Y D E sz (r, u)) hy hn (fun p e s m args below meth c hF hP ls hl => body p e s m args below meth c hF hP (fun X u h => (nomatch (congrArg Prod.fst h))) ls hl) sz
  | inr X => exact MWT_of hy hn (fun p e s m args below meth c hF hP ht ls hl => body p e s m args below meth c hF hP (fun _ _ _ => ht) ls hl)
theorem Met_ofWL {l : Launch} {y : MethodName} {cc : ByteArray} {nL fr lo : Nat} {ret : Option FieldType} {L : List Dsc} {Y : CYs} {D : va_G} {E : Nat → Nat} {As : List Value} {σ : Sta} {o : (Int64 ⊕ (Int32 × Int32)) × Sta}
    (hy : plainName y.cls = true) (hn : (lg_sl As).length ≤ nL)
    (body : ∀ p e s m args below meth c, Fr p s m args meth c y.cls cc nL ret D Y E L → va_P D vwCl (wd Y E σ 0 L) s.heap → (∀ X u, o = (.inr X, u) → ∀ x ∈ c.exceptionTable.toList, False) → ∀ ls, lv_has ls nL (lv_args 0 As) →
      W p l e (rmw fr lo o) s m args below meth c s.heap [] 0 0 (QwL below args s L Y D E o) (F0 m 0 ls [])) :
    MWL l y (Cond.code y cc nL ret :: gW) fr lo L Y D E As σ o := by
  obtain ⟨o1, u⟩ := o
  cases o1 with
  | inl r => exact fun sz => Met_of (Qc := fun sz => QL L Y D E sz (r, u)) hy hn (fun p e s m args below meth c hF hP ls hl => body p e s m args below meth c hF hP (fun X u h => (nomatch (congrArg Prod.fst h))) ls hl) sz
  | inr X => exact MWT_of hy hn (fun p e s m args below meth c hF hP ht ls hl => body p e s m args below meth c hF hP (fun _ _ _ => ht) ls hl)
theorem Met_ofWV {l : Launch} {y : MethodName} {cc : ByteArray} {nL fr lo : Nat} {ret : Option FieldType} {L : List Dsc} {Y : CYs} {D : va_G} {E : Nat → Nat} {As : List Value} {σ : Sta} {o : (Unit ⊕ (Int32 × Int32)) × Sta}
    (hy : plainName y.cls = true) (hn : (lg_sl As).length ≤ nL)
    (body : ∀ p e s m args below meth c, Fr p s m args meth c y.cls cc nL ret D Y E L → va_P D vwCl (wd Y E σ 0 L) s.heap → (∀ X u, o = (.inr X, u) → ∀ x ∈ c.exceptionTable.toList, False) → ∀ ls, lv_has ls nL (lv_args 0 As) →
      W p l e (rmw fr lo o) s m args below meth c s.heap [] 0 0 (QwV below args s L Y D E o) (F0 m 0 ls [])) :
    MWV l y (Cond.code y cc nL ret :: gW) fr lo L Y D E As σ o := by
  obtain ⟨o1, u⟩ := o
  cases o1 with
  | inl r => exact fun sz => Met_of (Qc := fun sz => QV L Y D E sz (r, u)) hy hn (fun p e s m args below meth c hF hP ls hl => body p e s m args below meth c hF hP (fun X u h => (nomatch (congrArg Prod.fst h))) ls hl) sz
  | inr X => exact MWT_of hy hn (fun p e s m args below meth c hF hP ht ls hl => body p e s m args below meth c hF hP (fun _ _ _ => ht) ls hl)
/-- a method that answers a new Wrong -/
def QRw (L : List Dsc) (Y : CYs) (D : va_G) (E : Nat → Nat) (sz : Nat) (x : Int32 × Int32) (σ : Sta) : Array Value → State → Outcome → State → Prop :=
  va_Qr (fun _ : Unit => True) (fun _ a t => AtC L Y D E (AF E L.length sz) σ t ∧ WRc D a x t.heap) (AF E L.length sz)
def MR (l : Launch) (y : MethodName) (ws : List Cond) (rm : Room) (L : List Dsc) (Y : CYs) (D : va_G) (E : Nat → Nat) (As : List Value) (σ : Sta) (x : Int32 × Int32) : Prop :=
  ∀ sz, Met l y ws rm (PcC L Y D E σ sz As) (QRw L Y D E sz x σ) 1 8 (AF E L.length sz)
