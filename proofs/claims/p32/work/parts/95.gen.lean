/-! Contracts over a world of cells, with what else a start may say; answers that are only bounded. -/
def XOK (X : (Nat → Prop) → State → Heap → Prop) : Prop :=
  (∀ (A : Nat → Prop) (U : State) (H H1 : Heap), X A U H → (∀ a : Nat, a < H.size → ¬ A a → H1[a]? = H[a]?) → X A U H1) ∧
  (∀ (A B : Nat → Prop) (U : State) (H : Heap), X A U H → (∀ x, B x → A x) → X B U H) ∧
  (∀ (A : Nat → Prop) (u U : State) (H : Heap), u.vm.Alike U.vm → X A u H → X A U H)
def XN : (Nat → Prop) → State → Heap → Prop := fun _ _ _ => True
theorem XN_ok : XOK XN := ⟨fun _ _ _ _ _ _ => trivial, fun _ _ _ _ _ _ => trivial, fun _ _ _ _ _ _ => trivial⟩
theorem STA_ok {N : Nat} {bs : List Int32} {a v : Nat} : XOK (STA N bs a v) := ⟨fun _ _ _ _ h hq => h.kept hq, fun _ _ _ _ h hAB => h.narrow hAB, fun _ _ _ _ hvm h => h.moved hvm⟩
def AtX {S : Type} (Y : CYs) (D : va_G) (A : Nat → Prop) (W1 : S → va_W) (u : S) (t : State) : Prop :=
  va_P D vwCl (W1 u) t.heap ∧ va_K D vwCl (tysY Y) t ∧ va_D A (W1 u)
def AtR {S : Type} (Y : CYs) (D : va_G) (A : Nat → Prop) (post : S → Nat → Prop) (W1 : S → Nat → va_W) (u : S) (a : Nat) (t : State) : Prop :=
  post u a ∧ va_P D vwCl (W1 u a) t.heap ∧ va_K D vwCl (tysY Y) t ∧ va_D A (W1 u a)
abbrev GI {S : Type} (post : Int32 → S → Prop) (W1 : S → va_W) (Y : CYs) (D : va_G) (A : Nat → Prop) : Array Value → State → Outcome → State → Prop := va_Qi post (AtX Y D A W1) A
abbrev GV {S : Type} (post : S → Prop) (W1 : S → va_W) (Y : CYs) (D : va_G) (A : Nat → Prop) : Array Value → State → Outcome → State → Prop := va_Qv post (AtX Y D A W1) A
abbrev GR {S : Type} (post : S → Nat → Prop) (W1 : S → Nat → va_W) (Y : CYs) (D : va_G) (A : Nat → Prop) : Array Value → State → Outcome → State → Prop := va_Qr (fun _ : S => True) (AtR Y D A post W1) A
abbrev PcE (X : (Nat → Prop) → State → Heap → Prop) (W0 : va_W) (Y : CYs) (D : va_G) (sz : Nat) (As : List Value) : Array Value → State → Prop :=
  va_Pc As (fun U => U.heap.size = sz ∧ va_P D vwCl W0 U.heap ∧ va_K D vwCl (tysY Y) U ∧ va_D (fun _ => True) W0 ∧ NW U ∧ SW (va_A W0 sz) U U.heap ∧ X (va_A W0 sz) U U.heap)
theorem PcE_blind {X : (Nat → Prop) → State → Heap → Prop} (hX : XOK X) {W0 : va_W} {Y : CYs} {D : va_G} {sz : Nat} {As : List Value} : FrameBlind (PcE X W0 Y D sz As) := fun a U g mk q => by
  obtain ⟨q0, q1, qP, qK, qD, qN, qS, qX⟩ := q
  exact ⟨q0, q1, qP, va_K.moved (u := U) (U := U.calling g mk a) (Vm.Alike.refl U.vm) qK, qD, NW.same (s := U) (U := U.calling g mk a) rfl qN, SW.same (u := U) (U := U.calling g mk a) rfl qS, hX.2.2 _ U (U.calling g mk a) _ (Vm.Alike.refl U.vm) qX⟩
/-- what stands through a method's body -/
def GF (p : Program) (s : State) (m : MethodId) (args : Array Value) (meth : Method) (c : Code) (own : String) (cc : ByteArray) (nL : Nat) (ret : Option FieldType) (D : va_G) (Y : CYs) (A : Nat → Prop) : Prop :=
  Ctx p s m args own D Y ∧ c.code = cc ∧ c.maxLocals = nL ∧ meth.sig.returnType = ret ∧ meth.locks = false ∧ SW A s s.heap ∧ ∀ q, s.heap.size ≤ q → A q
theorem Met_ofE {l : Launch} {y : MethodName} {cc : ByteArray} {nL : Nat} {ret : Option FieldType} {rm : Room} {Y : CYs} {D : va_G} {As : List Value} {W0 : va_W} {X : (Nat → Prop) → State → Heap → Prop} {Qc : (Nat → Prop) → Array Value → State → Outcome → State → Prop} {mc ms : Nat}
    (hy : plainName y.cls = true) (hn : (lg_sl As).length ≤ nL)
    (body : ∀ p e s m args below meth c A, GF p s m args meth c y.cls cc nL ret D Y A → X A s s.heap → meth.name = y.name → va_P D vwCl W0 s.heap → va_D A W0 → va_S A s.heap s.heap [] → ∀ ls, lv_has ls nL (lv_args 0 As) →
      W p l e rm s m args below meth c s.heap [] 0 0 (MQ below (Qc A) args s mc ms A) (F0 m 0 ls [])) (sz : Nat) :
    Met l y (Cond.code y cc nL ret :: gW) rm (PcE X W0 Y D sz As) (Qc (va_A W0 sz)) mc ms (va_A W0 sz) := by
  refine Met.ofW (cc := cc) (maxL := nL) (ret := ret) hy rfl ?_
  intro p e s m args below meth c s₁ B hml hv
  obtain ⟨rfl, hsz, hP, hK, hD0, hN, hSW, hX⟩ := hv
  have hts := atoms_spec (ws := Cond.code y cc nL ret :: gW) B.pre
  have hown : s.vm.findClass y.cls = some m.cls := findClass_of_methodNamed B.named
  have hin : meth.name = y.name := (name_of_methodNamed B.named B.method).1
  subst hsz
  have hl := lv_entry As (n := nL) hn
  rw [lg_entry_eq]
  exact body p e s m _ below meth c (va_A W0 s.heap.size) ⟨⟨B.exec, fun w h => hts w (List.mem_cons_of_mem _ h), hown, hK, hN⟩, B.bytes, hml, B.returns, B.notSynchronized, hSW, fun q h => Or.inr h⟩ hX hin hP (hD0.self (sz := s.heap.size)) va_S.rf _ hl
section GX
variable {p : Program} {l : Launch} {e : Env} {R : Room} {s : State} {m : MethodId} {args : Array Value} {below : List Frame} {meth : Method} {c : Code} {H : Heap} {locs : List Loc} {cells slots mc ms kc ks : Nat} {Q : State → Prop}
variable {D : va_G} {Y : CYs} {own C host owner : String} {cc bytes : ByteArray} {pc nL maxL n index : Nat} {ret rc : Option FieldType} {ls : Array Slot} {st rest As : List Value} {y y0 : MethodName} {rm : Room} {A free : Nat → Prop} {Rs C0 : va_W} {lv : List (Nat × Value)} {a : Nat} {ws1 : List Cond} {Pc : Array Value → State → Prop} {Qc : Array Value → State → Outcome → State → Prop} {X X1 : (Nat → Prop) → State → Heap → Prop} {S : Type}
/-- what else the caller has goes to the callee -/
theorem X_at (hX : XOK X1) (hF : GF p s m args meth c own cc nL rc D Y A) (hx : X1 A s s.heap) (hD : va_D A (Rs ++ C0)) (hS : va_S A s.heap H locs) : X1 (va_A C0 H.size) s H :=
  hX.2.1 _ _ _ _ (hX.1 _ _ _ _ hx hS.2.1) (fun x hx => tl_free hD hS hF.2.2.2.2.2.2 x hx)
theorem pre_E (hF : GF p s m args meth c own cc nL rc D Y A) (hP : va_P D vwCl (Rs ++ C0) H) (hD : va_D A (Rs ++ C0)) (hS : va_S A s.heap H locs) (hX : XOK X1) (hx1 : X1 (va_A C0 H.size) s H) : PreS s H (PcE X1 C0 Y D H.size As) As := by
  obtain ⟨hC, hb, hml, hr, hlk, hSW, hA⟩ := hF
  exact ⟨PcE_blind hX, fun U hU hW => ⟨rfl, by rw [hU], by rw [hU]; exact tl_P hP, va_K.moved hW.alike hC.2.2.2.1, (tl_D hD).weaken (fun _ _ _ _ => trivial), NW.warm hW hC.2.2.2.2, by rw [hU]; exact ((hSW.kept hS.2.1).warm hW).narrow (fun x hx => tl_free hD hS hA x hx), by rw [hU]; exact hX.2.2 _ _ _ _ hW.alike hx1⟩⟩
theorem g_i {post : Int32 → S → Prop} {W1 : S → va_W} (hF : GF p s m args meth c own cc nL rc D Y A) (hP : va_P D vwCl (Rs ++ C0) H) (hD : va_D A (Rs ++ C0)) (hS : va_S A s.heap H locs) (hX : XOK X1) (hx1 : X1 (va_A C0 H.size) s H)
    (run : PreS s H (PcE X1 C0 Y D H.size As) As → va_Run p l e R s m args below meth c H locs cells slots mc ms (F0 m pc ls st) rest (GI post W1 Y D (va_A C0 H.size) As.toArray) (va_A C0 H.size))
    (kk : ∀ (r : Int32) (u : S) (H1 : Heap) (locs1 : List Loc), post r u → va_P D vwCl (Rs ++ W1 u) H1 → va_D A (Rs ++ W1 u) → va_S A s.heap H1 locs1 → W p l e R s m args below meth c H1 locs1 (cells + mc) (slots + ms) Q (F0 m (pc + 3) ls (.int r :: rest))) : W p l e R s m args below meth c H locs cells slots Q (F0 m pc ls st) := by
  have hA := hF.2.2.2.2.2.2
  refine va_calli (run (pre_E hF hP hD hS hX hx1)) hS (fun q _ h => tl_free hD hS hA q h) (fun q h => tl_free hD hS hA q h) (fun r u t H1 locs1 ht hvm hw hB hz hk hS1 => ?_)
  obtain ⟨hP1, -, hD1⟩ := hB
  rw [ht] at hP1
  obtain ⟨hP2, hD2⟩ := tl_join hP hD hS hA hk hP1 hD1
  exact kk r u H1 locs1 hw hP2 hD2 hS1
theorem g_v {post : S → Prop} {W1 : S → va_W} (hF : GF p s m args meth c own cc nL rc D Y A) (hP : va_P D vwCl (Rs ++ C0) H) (hD : va_D A (Rs ++ C0)) (hS : va_S A s.heap H locs) (hX : XOK X1) (hx1 : X1 (va_A C0 H.size) s H)
    (run : PreS s H (PcE X1 C0 Y D H.size As) As → va_Run p l e R s m args below meth c H locs cells slots mc ms (F0 m pc ls st) rest (GV post W1 Y D (va_A C0 H.size) As.toArray) (va_A C0 H.size))
    (kk : ∀ (u : S) (H1 : Heap) (locs1 : List Loc), post u → va_P D vwCl (Rs ++ W1 u) H1 → va_D A (Rs ++ W1 u) → va_S A s.heap H1 locs1 → W p l e R s m args below meth c H1 locs1 (cells + mc) (slots + ms) Q (F0 m (pc + 3) ls rest)) : W p l e R s m args below meth c H locs cells slots Q (F0 m pc ls st) := by
  have hA := hF.2.2.2.2.2.2
  refine va_callv (run (pre_E hF hP hD hS hX hx1)) hS (fun q _ h => tl_free hD hS hA q h) (fun q h => tl_free hD hS hA q h) (fun u t H1 locs1 ht hvm hw hB hz hk hS1 => ?_)
  obtain ⟨hP1, -, hD1⟩ := hB
  rw [ht] at hP1
  obtain ⟨hP2, hD2⟩ := tl_join hP hD hS hA hk hP1 hD1
  exact kk u H1 locs1 hw hP2 hD2 hS1
theorem g_r {post : S → Nat → Prop} {W1 : S → Nat → va_W} (hF : GF p s m args meth c own cc nL rc D Y A) (hP : va_P D vwCl (Rs ++ C0) H) (hD : va_D A (Rs ++ C0)) (hS : va_S A s.heap H locs) (hX : XOK X1) (hx1 : X1 (va_A C0 H.size) s H)
    (run : PreS s H (PcE X1 C0 Y D H.size As) As → va_Run p l e R s m args below meth c H locs cells slots mc ms (F0 m pc ls st) rest (GR post W1 Y D (va_A C0 H.size) As.toArray) (va_A C0 H.size))
    (kk : ∀ (r : Nat) (u : S) (H1 : Heap) (locs1 : List Loc), post u r → va_P D vwCl (Rs ++ W1 u r) H1 → va_D A (Rs ++ W1 u r) → va_S A s.heap H1 locs1 → W p l e R s m args below meth c H1 locs1 (cells + mc) (slots + ms) Q (F0 m (pc + 3) ls (.ref r :: rest))) : W p l e R s m args below meth c H locs cells slots Q (F0 m pc ls st) := by
  have hA := hF.2.2.2.2.2.2
  refine va_callr (run (pre_E hF hP hD hS hX hx1)) hS (fun q _ h => tl_free hD hS hA q h) (fun q h => tl_free hD hS hA q h) (fun u r t H1 locs1 ht hvm hw hB hz hk hS1 => ?_)
  obtain ⟨hw1, hP1, -, hD1⟩ := hB
  rw [ht] at hP1
  obtain ⟨hP2, hD2⟩ := tl_join hP hD hS hA hk hP1 hD1
  exact kk r u H1 locs1 hw1 hP2 hD2 hS1
theorem rV (hF : GF p s m args meth c own cc nL rc D Y A) (hl : lv_has ls nL lv) (hM : Met l y ws1 rm Pc Qc mc ms free) (cw : CallW R s args own C index y bytes maxL ret ws1 rm mc ms n) (hcell : ∃ cell : Cell, H[a]? = some cell ∧ cell.vm.isStatics = false ∧ s.vm.findClass C = some cell.cls)
    (hn : As.length = n) (hst : st = As.reverse ++ .ref a :: rest) (hcat : (rest.map fun v => v.category).sum ≤ 8) (hdg : decode cc pc = .ok (.invokevirtual index, 3)) (hf : cells + mc ≤ R.cells ∧ slots + ms ≤ R.slots) (hp : PreS s H Pc (.ref a :: As)) :
    va_Run p l e R s m args below meth c H locs cells slots mc ms (F0 m pc ls st) rest (Qc (Value.ref a :: As).toArray) free := by
  subst hst
  obtain ⟨hC, hb, hml, hr, hlk, hSW, hA⟩ := hF
  exact va_runV (As := As) (rest := rest) ⟨hC.1, hb, hml, hC.2.2.1, hC.2.1⟩ hM cw ⟨hp.1, hcell, hp.2⟩ rfl hn hl.1 rfl (lv_room (ls := ls) hcat) hdg hf
theorem rU (hF : GF p s m args meth c own cc nL rc D Y A) (hl : lv_has ls nL lv) (hM : Met l y ws1 rm Pc Qc mc ms free) (cw : va_CU R s args own C owner index y0 y bytes maxL ret ws1 rm mc ms n) (hcell : ∃ cell : Cell, H[a]? = some cell ∧ cell.vm.isStatics = false ∧ s.vm.findClass C = some cell.cls)
    (hn : As.length = n) (hst : st = As.reverse ++ .ref a :: rest) (hcat : (rest.map fun v => v.category).sum ≤ 8) (hdg : decode cc pc = .ok (.invokevirtual index, 3)) (hf : cells + mc ≤ R.cells ∧ slots + ms ≤ R.slots) (hp : PreS s H Pc (.ref a :: As)) :
    va_Run p l e R s m args below meth c H locs cells slots mc ms (F0 m pc ls st) rest (Qc (Value.ref a :: As).toArray) free := by
  subst hst
  obtain ⟨hC, hb, hml, hr, hlk, hSW, hA⟩ := hF
  exact va_runU (As := As) (rest := rest) ⟨hC.1, hb, hml, hC.2.2.1, hC.2.1⟩ hM cw ⟨hp.1, hcell, hp.2⟩ rfl hn hl.1 rfl (lv_room (ls := ls) hcat) hdg hf
theorem rS (hF : GF p s m args meth c own cc nL rc D Y A) (hl : lv_has ls nL lv) (hM : Met l y ws1 rm Pc Qc mc ms free) (cw : CallB R s args own index y bytes maxL ret ws1 rm mc ms n ∧ (Cond.static y).before args s = true)
    (hn : As.length = n) (hst : st = As.reverse ++ rest) (hcat : (rest.map fun v => v.category).sum ≤ 8) (hdg : decode cc pc = .ok (.invokestatic index, 3)) (hf : cells + mc ≤ R.cells ∧ slots + ms ≤ R.slots) (hp : PreS s H Pc As) :
    va_Run p l e R s m args below meth c H locs cells slots mc ms (F0 m pc ls st) rest (Qc As.toArray) free := by
  subst hst
  obtain ⟨hC, hb, hml, hr, hlk, hSW, hA⟩ := hF
  exact va_runS (As := As) (rest := rest) ⟨hC.1, hb, hml, hC.2.2.1, hC.2.1⟩ hM cw hp rfl hn hl.1 rfl (lv_room (ls := ls) hcat) hdg hf
theorem rSN (hF : GF p s m args meth c own cc nL rc D Y A) (hl : lv_has ls nL lv) (hM : Met l y ws1 rm Pc Qc mc ms free) (cw : va_CN R s args own index y host bytes maxL ret ws1 rm mc ms n ∧ (Cond.static y).before args s = true)
    (hn : As.length = n) (hst : st = As.reverse ++ rest) (hcat : (rest.map fun v => v.category).sum ≤ 8) (hdg : decode cc pc = .ok (.invokestatic index, 3)) (hf : cells + mc ≤ R.cells ∧ slots + ms ≤ R.slots) (hp : PreS s H Pc As) :
    va_Run p l e R s m args below meth c H locs cells slots mc ms (F0 m pc ls st) rest (Qc As.toArray) free := by
  subst hst
  obtain ⟨hC, hb, hml, hr, hlk, hSW, hA⟩ := hF
  exact va_runSN (As := As) (rest := rest) ⟨hC.1, hb, hml, hC.2.2.1, hC.2.1⟩ hM ⟨cw.1, cw.2, trivial⟩ hp rfl hn hl.1 rfl (lv_room (ls := ls) hcat) hdg hf
theorem rI (hF : GF p s m args meth c own cc nL rc D Y A) (hl : lv_has ls nL lv) (hM : Met l y ws1 rm Pc Qc mc ms free) (cw : CallB R s args own index y bytes maxL none ws1 rm mc ms n ∧ y.name = "<init>" ∧ (Cond.instanceMethod y).before args s = true)
    (hn : As.length = n) (hst : st = As.reverse ++ .ref a :: rest) (hcat : (rest.map fun v => v.category).sum ≤ 8) (hdg : decode cc pc = .ok (.invokespecial index, 3)) (hf : cells + mc ≤ R.cells ∧ slots + ms ≤ R.slots) (hp : PreS s H Pc (.ref a :: As)) :
    va_Run p l e R s m args below meth c H locs cells slots mc ms (F0 m pc ls st) rest (Qc (Value.ref a :: As).toArray) free := by
  subst hst
  obtain ⟨hC, hb, hml, hr, hlk, hSW, hA⟩ := hF
  exact va_runI (As := As) (rest := rest) ⟨hC.1, hb, hml, hC.2.2.1, hC.2.1⟩ hM cw hp rfl hn hl.1 rfl (lv_room (ls := ls) hcat) hdg hf
theorem rSU {cC : ClassId} (hat : ClassAt s C cC) (hF : GF p s m args meth c own cc nL rc D Y A) (hl : lv_has ls nL lv) (hM : Met l y ws1 rm Pc Qc mc ms free) (cw : va_CS R s args own index y bytes maxL ret ws1 rm mc ms n) (hcell : ∃ cell : Cell, H[a]? = some cell ∧ cell.vm.isStatics = false ∧ s.vm.findClass C = some cell.cls)
    (hn : As.length = n) (hst : st = As.reverse ++ .ref a :: rest) (hcat : (rest.map fun v => v.category).sum ≤ 8) (hdg : decode cc pc = .ok (.invokespecial index, 3)) (hf : cells + mc ≤ R.cells ∧ slots + ms ≤ R.slots) (hp : PreS s H Pc (.ref a :: As)) :
    va_Run p l e R s m args below meth c H locs cells slots mc ms (F0 m pc ls st) rest (Qc (Value.ref a :: As).toArray) free := by
  subst hst
  obtain ⟨hC, hb, hml, hr, hlk, hSW, hA⟩ := hF
  exact va_runSU (As := As) (rest := rest) hat ⟨hC.1, hb, hml, hC.2.2.1, hC.2.1⟩ hM cw ⟨hp.1, hcell, hp.2⟩ rfl hn hl.1 rfl (lv_room (ls := ls) hcat) hdg hf
theorem g_iret {post : Int32 → S → Prop} {W1 : S → va_W} {x : Int32} {ty : FieldType} (u : S) (hF : GF p s m args meth c own cc nL (some ty) D Y A) (hv : narrow ty (.int x) = .int x) (hp : post x u) (hP : va_P D vwCl (W1 u) H) (hD : va_D A (W1 u)) (hS : va_S A s.heap H locs) (hdg : decode cc pc = .ok (.ireturn, 1)) (hc : cells ≤ mc) (hs : slots ≤ ms) :
    W p l e R s m args below meth c H locs cells slots (MQ below (GI post W1 Y D A) args s mc ms A) (F0 m pc ls [.int x]) := by
  obtain ⟨hC, hb, hml, hr, hlk, hSW, hA⟩ := hF
  refine W.widen hc hs ?_
  exact W.zret hC.1 hb hr hv (fun t ht hW => ⟨⟨x, u, rfl, hp, by rw [ht]; exact hP, va_K.moved hW.alike hC.2.2.2.1, hD⟩, hS.F ht⟩) hS.2.2 hdg hlk
theorem g_vret {post : S → Prop} {W1 : S → va_W} (u : S) (hF : GF p s m args meth c own cc nL none D Y A) (hp : post u) (hP : va_P D vwCl (W1 u) H) (hD : va_D A (W1 u)) (hS : va_S A s.heap H locs) (hdg : decode cc pc = .ok (.return_, 1)) (hc : cells ≤ mc) (hs : slots ≤ ms) :
    W p l e R s m args below meth c H locs cells slots (MQ below (GV post W1 Y D A) args s mc ms A) (F0 m pc ls []) := by
  obtain ⟨hC, hb, hml, hr, hlk, hSW, hA⟩ := hF
  refine W.widen hc hs ?_
  exact W.vret hC.1 hb hr (fun t ht hW => ⟨⟨u, rfl, hp, by rw [ht]; exact hP, va_K.moved hW.alike hC.2.2.2.1, hD⟩, hS.F ht⟩) hS.2.2 hdg hlk
theorem g_aret {post : S → Nat → Prop} {W1 : S → Nat → va_W} {rt : FieldType} (u : S) (r : Nat) (hF : GF p s m args meth c own cc nL (some rt) D Y A) (hrt : (∃ n, rt = .object n) ∨ ∃ t, rt = .array t) (hp : post u r) (hP : va_P D vwCl (W1 u r) H) (hD : va_D A (W1 u r)) (hS : va_S A s.heap H locs) (hdg : decode cc pc = .ok (.areturn, 1)) (hc : cells ≤ mc) (hs : slots ≤ ms) :
    W p l e R s m args below meth c H locs cells slots (MQ below (GR post W1 Y D A) args s mc ms A) (F0 m pc ls [.ref r]) := by
  obtain ⟨hC, hb, hml, hr, hlk, hSW, hA⟩ := hF
  refine W.widen hc hs ?_
  exact W.aret hC.1 hb hr hrt (Or.inr ⟨r, rfl⟩) (fun t ht hW => ⟨⟨u, r, rfl, trivial, hp, by rw [ht]; exact hP, va_K.moved hW.alike hC.2.2.2.1, hD⟩, hS.F ht⟩) hS.2.2 hdg hlk
/-- a private method's selection on an object of a subclass -/
theorem sel_priv {C : String} {n : Nat} (hins : (Cond.instantiable C n).before args s = true) (hsame : (Cond.sameMethod y.cls y.cls y.name y.desc).before args s = true) (hpriv : (Cond.privateMethod y).before args s = true) (hinst : (Cond.instanceMethod y).before args s = true) : (Cond.selects C y y).before args s = true := by
  obtain ⟨c1, k1, hc, hk, -, hniab, -, -⟩ := Cond.instantiable_spec hins
  obtain ⟨mk, methM, hnamed, hmethM, -, -⟩ := Cond.instanceMethod_spec hinst
  obtain ⟨cn, ck, r1, hcn, hck, hni, hf, hn1⟩ := Cond.sameMethod_found hsame
  have hy : (⟨y.cls, y.name, y.desc⟩ : MethodName) = y := rfl
  rw [hy, hnamed] at hn1
  have e1 : mk = r1 := Option.some.inj hn1
  subst e1
  have hcls : mk.cls = cn := Option.some.inj ((findClass_of_methodNamed hnamed).symm.trans hcn)
  have hsel : selectMethod {} s.vm c1 mk = .method mk := selectMethod_private hmethM (Cond.privateMethod_at hpriv mk methM hnamed hmethM)
  simp only [Cond.before, Cond.holds, Cond.value, hc, hf, hnamed, hsel, hcls, hck]
  simp
  exact hni
end GX
