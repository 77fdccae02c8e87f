/-! Constructors: rows over a list of cells. -/
section NR
variable {p : Program} {l : Launch} {e : Env} {R : Room} {s : State} {m : MethodId} {args : Array Value} {below : List Frame} {meth : Method} {c : Code} {H : Heap} {locs : List Loc} {cells slots : Nat} {Q : State → Prop}
variable {D : va_G} {Y : CYs} {own : String} {cc : ByteArray} {pc : Nat} {ls : Array Slot} {rest : List Value} {A : Nat → Prop} {H0 : Heap} {ws : va_W}
theorem n_arrI (hC : Ctx p s m args own D Y) (hb : c.code = cc) (hP : va_P D vwCl ws H) (hD : va_D A ws) (hS : va_S A H0 H locs) (hA : ∀ q, H0.size ≤ q → A q) {n : Int32} {N' : Nat} (hn : ¬ n < 0) (hN : n.toNatClampNeg = N') (hbytes : N' * 4 ≤ 536870912) (hc : cells + 1 ≤ R.cells) (hs : slots + N' ≤ R.slots) (hdg : decode cc pc = .ok (.newarray .int, 2))
    (kk : ∀ (q : Nat) (H1 : Heap), va_P D vwCl (ws ++ [(q, .inl (Y.1, N', .inl (fun _ => 0)))]) H1 → va_D A (ws ++ [(q, .inl (Y.1, N', .inl (fun _ => 0)))]) → va_S A H0 H1 locs → W p l e R s m args below meth c H1 locs (cells + 1) (slots + N') Q (F0 m (pc + 2) ls (.ref q :: rest))) : W p l e R s m args below meth c H locs cells slots Q (F0 m pc ls (.int n :: rest)) := by
  refine va_newa (atype := .int) (ty := .int) (a0 := (N', .inl (fun _ => 0))) hC.1 hb (hC.2.1 (.arrayClass .int) (gw_t (tb1 (List.mem_of_getElem? (i := 60) rfl)) rfl)) rfl hC.2.2.2.1 hP hD hS hA (fun _ => rfl) hn hN hbytes hc hs hdg (fun q cA H1 hK1 hP1 hD1 hS1 => ?_)
  obtain ⟨k1, k2⟩ := hK1.2 5 (cA, .int) rfl
  obtain ⟨k3, k4⟩ := hC.2.2.2.1.2 0 (Y.1, .int) rfl
  have hcA : cA = Y.1 := Option.some.inj ((show s.vm.findClass _ = some cA from k2).symm.trans (show s.vm.findClass _ = some Y.1 from k4))
  subst hcA
  exact kk q H1 hP1 hD1 hS1
theorem n_arrJ (hC : Ctx p s m args own D Y) (hb : c.code = cc) (hP : va_P D vwCl ws H) (hD : va_D A ws) (hS : va_S A H0 H locs) (hA : ∀ q, H0.size ≤ q → A q) {n : Int32} {N' : Nat} (hn : ¬ n < 0) (hN : n.toNatClampNeg = N') (hbytes : N' * 8 ≤ 536870912) (hc : cells + 1 ≤ R.cells) (hs : slots + N' ≤ R.slots) (hdg : decode cc pc = .ok (.newarray .long, 2))
    (kk : ∀ (q : Nat) (H1 : Heap), va_P D vwCl (ws ++ [(q, .inl (Y.2.1, N', .inr (.inl (fun _ => 0))))]) H1 → va_D A (ws ++ [(q, .inl (Y.2.1, N', .inr (.inl (fun _ => 0))))]) → va_S A H0 H1 locs → W p l e R s m args below meth c H1 locs (cells + 1) (slots + N') Q (F0 m (pc + 2) ls (.ref q :: rest))) : W p l e R s m args below meth c H locs cells slots Q (F0 m pc ls (.int n :: rest)) := by
  refine va_newa (atype := .long) (ty := .long) (a0 := (N', .inr (.inl (fun _ => 0)))) hC.1 hb (hC.2.1 (.arrayClass .long) (gw_t (tb1 (List.mem_of_getElem? (i := 61) rfl)) rfl)) rfl hC.2.2.2.1 hP hD hS hA (fun _ => rfl) hn hN hbytes hc hs hdg (fun q cA H1 hK1 hP1 hD1 hS1 => ?_)
  obtain ⟨k1, k2⟩ := hK1.2 5 (cA, .long) rfl
  obtain ⟨k3, k4⟩ := hC.2.2.2.1.2 1 (Y.2.1, .long) rfl
  have hcA : cA = Y.2.1 := Option.some.inj ((show s.vm.findClass _ = some cA from k2).symm.trans (show s.vm.findClass _ = some Y.2.1 from k4))
  subst hcA
  exact kk q H1 hP1 hD1 hS1
theorem n_arrB (hC : Ctx p s m args own D Y) (hb : c.code = cc) (hP : va_P D vwCl ws H) (hD : va_D A ws) (hS : va_S A H0 H locs) (hA : ∀ q, H0.size ≤ q → A q) {n : Int32} {N' : Nat} (hn : ¬ n < 0) (hN : n.toNatClampNeg = N') (hbytes : N' * 1 ≤ 536870912) (hc : cells + 1 ≤ R.cells) (hs : slots + N' ≤ R.slots) (hdg : decode cc pc = .ok (.newarray .byte, 2))
    (kk : ∀ (q : Nat) (H1 : Heap), va_P D vwCl (ws ++ [(q, .inl (Y.2.2.1.1, N', .inl (fun _ => 0)))]) H1 → va_D A (ws ++ [(q, .inl (Y.2.2.1.1, N', .inl (fun _ => 0)))]) → va_S A H0 H1 locs → W p l e R s m args below meth c H1 locs (cells + 1) (slots + N') Q (F0 m (pc + 2) ls (.ref q :: rest))) : W p l e R s m args below meth c H locs cells slots Q (F0 m pc ls (.int n :: rest)) := by
  refine va_newa (atype := .byte) (ty := .byte) (a0 := (N', .inl (fun _ => 0))) hC.1 hb (hC.2.1 (.arrayClass .byte) (gw_t (tb2 (List.mem_of_getElem? (i := 191) rfl)) rfl)) rfl hC.2.2.2.1 hP hD hS hA (fun _ => rfl) hn hN hbytes hc hs hdg (fun q cA H1 hK1 hP1 hD1 hS1 => ?_)
  obtain ⟨k1, k2⟩ := hK1.2 5 (cA, .byte) rfl
  obtain ⟨k3, k4⟩ := hC.2.2.2.1.2 2 (Y.2.2.1.1, .byte) rfl
  have hcA : cA = Y.2.2.1.1 := Option.some.inj ((show s.vm.findClass _ = some cA from k2).symm.trans (show s.vm.findClass _ = some Y.2.2.1.1 from k4))
  subst hcA
  exact kk q H1 hP1 hD1 hS1
/-- a field of a new object is set: final, or not -/
theorem n_putF {ref C : String} {T : u_T} {N ci index a : Nat} {fs : List Value} {v : Value} {ty : FieldType} (hC : Ctx p s m args own D Y) (hb : c.code = cc) (hP : va_P D vwCl ws H) (hD : va_D A ws) (hS : va_S A H0 H locs) (hin : ∀ w ∈ u_ws C T N, w ∈ gW) (ty0 : Nat → FieldType) (hty : ∀ k, k < N → parseFieldDescriptor (T k).2.2.1 = some (ty0 k)) (hnm : ∀ a, a < N → ∀ b, b < N → a ≠ b → (T a).2.1 ≠ (T b).2.1) (q0 : Nat) (he : ws[q0]? = some (a, .inr (ci, fs))) (hc : vwCl[ci]? = some (C, T, N)) (i : Nat) (hi : i < N) (hlink : Cond.fieldLink own index ref (T i).2.1 (T i).2.2.1 ∈ gW) (hsame : (T i).1 = ref) (hfin : (T i).2.2.2 = true) (hin2 : meth.name = "<init>") (hdecl : (T i).1 = own) (hd : ty0 i = ty) (hn : narrow ty v = v) (hfit : fits ty v = true) (hl : i < fs.length) (hdg : decode cc pc = .ok (.putfield index, 3))
    (kk : ∀ (H1 : Heap) (locs1 : List Loc), va_P D vwCl (ws.set q0 (a, .inr (ci, fs.set i v))) H1 → va_D A (ws.set q0 (a, .inr (ci, fs.set i v))) → va_S A H0 H1 locs1 → W p l e R s m args below meth c H1 locs1 cells slots Q (F0 m (pc + 3) ls rest)) : W p l e R s m args below meth c H locs cells slots Q (F0 m pc ls (v :: .ref a :: rest)) :=
  va_putF hC.1 hb hC.2.1 hin ty0 hty hnm hC.2.2.1 hC.2.2.2.1 hP hD hS q0 he hc i hi (hC.2.1 _ hlink) (fun x h => by rw [← hsame]; exact h) hfin hin2 hdecl (by rw [hty i hi, hd]) hn hfit hl hdg kk
theorem n_put {ref C : String} {T : u_T} {N ci index a : Nat} {fs : List Value} {v : Value} {ty : FieldType} (hC : Ctx p s m args own D Y) (hb : c.code = cc) (hP : va_P D vwCl ws H) (hD : va_D A ws) (hS : va_S A H0 H locs) (hin : ∀ w ∈ u_ws C T N, w ∈ gW) (ty0 : Nat → FieldType) (hty : ∀ k, k < N → parseFieldDescriptor (T k).2.2.1 = some (ty0 k)) (hnm : ∀ a, a < N → ∀ b, b < N → a ≠ b → (T a).2.1 ≠ (T b).2.1) (q0 : Nat) (he : ws[q0]? = some (a, .inr (ci, fs))) (hc : vwCl[ci]? = some (C, T, N)) (i : Nat) (hi : i < N) (hlink : Cond.fieldLink own index ref (T i).2.1 (T i).2.2.1 ∈ gW) (hsame : (T i).1 = ref) (hfin : (T i).2.2.2 = false) (hd : ty0 i = ty) (hn : narrow ty v = v) (hfit : fits ty v = true) (hl : i < fs.length) (hdg : decode cc pc = .ok (.putfield index, 3))
    (kk : ∀ (H1 : Heap) (locs1 : List Loc), va_P D vwCl (ws.set q0 (a, .inr (ci, fs.set i v))) H1 → va_D A (ws.set q0 (a, .inr (ci, fs.set i v))) → va_S A H0 H1 locs1 → W p l e R s m args below meth c H1 locs1 cells slots Q (F0 m (pc + 3) ls rest)) : W p l e R s m args below meth c H locs cells slots Q (F0 m pc ls (v :: .ref a :: rest)) :=
  va_put hC.1 hb hC.2.1 hin ty0 hty hnm hC.2.2.1 hC.2.2.2.1 hP hD hS q0 he hc i hi (hC.2.1 _ hlink) (fun x h => by rw [← hsame]; exact h) hfin (by rw [hty i hi, hd]) hn hfit hl hdg kk
theorem n_obj {index a : Nat} (hC : Ctx p s m args own D Y) (hb : c.code = cc) (hml : ls.size = c.maxLocals) (hlink : Cond.methodLink own index Lib.objectInit ∈ gW) (hdg : decode cc pc = .ok (.invokespecial index, 3)) (hf : 1 ≤ R.frames) (hlo : (rest.map fun v => v.category).sum + 12 ≤ R.locals)
    (kk : W p l e R s m args below meth c H locs cells slots Q (F0 m (pc + 3) ls rest)) : W p l e R s m args below meth c H locs cells slots Q (F0 m pc ls (.ref a :: rest)) :=
  W.objInit hC.1 hb hC.2.2.1 (hC.2.1 _ hlink) (hC.2.1 (.instanceMethod Lib.objectInit) (gw_t (tb1 (List.mem_of_getElem? (i := 36) rfl)) rfl)) (hC.2.1 (.code Lib.objectInit ⟨#[0xb1]⟩ 1 none) (gw_t (tb1 (List.mem_of_getElem? (i := 37) rfl)) rfl)) rfl hml rfl hdg hf (by show 2 * 0 + _ + 12 ≤ _; omega) kk
end NR
/-- what a constructor begins with -/
abbrev PcN (W0 : va_W) (Y : CYs) (D : va_G) (sz : Nat) (As : List Value) : Array Value → State → Prop :=
  va_Pc As (fun U => U.heap.size = sz ∧ va_P D vwCl W0 U.heap ∧ va_K D vwCl (tysY Y) U ∧ va_D (fun _ => True) W0 ∧ NW U ∧ SW (va_A W0 sz) U U.heap)
def AtN (Y : CYs) (D : va_G) (A : Nat → Prop) (W1 : (Nat → Nat) → va_W) (u : Nat → Nat) (t : State) : Prop :=
  va_P D vwCl (W1 u) t.heap ∧ va_K D vwCl (tysY Y) t ∧ va_D A (W1 u)
abbrev QN1 (W0 : va_W) (W1 : (Nat → Nat) → va_W) (Y : CYs) (D : va_G) (sz : Nat) : Array Value → State → Outcome → State → Prop :=
  va_Qv (fun _ : Nat → Nat => True) (AtN Y D (va_A W0 sz) W1) (va_A W0 sz)
theorem Met_ofN {l : Launch} {y : MethodName} {cc : ByteArray} {nL : Nat} {rm : Room} {Y : CYs} {D : va_G} {As : List Value} {W0 : va_W} {Qc : Nat → Array Value → State → Outcome → State → Prop} {mc ms : Nat}
    (hy : plainName y.cls = true) (hyi : y.name = "<init>") (hn : (lg_sl As).length ≤ nL)
    (body : ∀ p e s m args below meth c, Ctx p s m args y.cls D Y → c.code = cc → c.maxLocals = nL → meth.sig.returnType = none → meth.locks = false → meth.name = "<init>" → SW (va_A W0 s.heap.size) s s.heap → va_P D vwCl W0 s.heap → va_D (va_A W0 s.heap.size) W0 → ∀ ls, lv_has ls nL (lv_args 0 As) →
      W p l e rm s m args below meth c s.heap [] 0 0 (MQ below (Qc s.heap.size) args s mc ms (va_A W0 s.heap.size)) (F0 m 0 ls [])) (sz : Nat) :
    Met l y (Cond.code y cc nL none :: gW) rm (PcN W0 Y D sz As) (Qc sz) mc ms (va_A W0 sz) := by
  refine Met.ofW (cc := cc) (maxL := nL) (ret := none) hy rfl ?_
  intro p e s m args below meth c s₁ B hml hv
  obtain ⟨rfl, hsz, hP, hK, hD0, hN, hSW⟩ := hv
  have hts := atoms_spec (ws := Cond.code y cc nL none :: gW) B.pre
  have hown : s.vm.findClass y.cls = some m.cls := findClass_of_methodNamed B.named
  have hin : meth.name = y.name := (name_of_methodNamed B.named B.method).1
  subst hsz
  have hl := lv_entry As (n := nL) hn
  rw [lg_entry_eq]
  exact body p e s m _ below meth c ⟨B.exec, fun w h => hts w (List.mem_cons_of_mem _ h), hown, hK, hN⟩ B.bytes hml B.returns B.notSynchronized (hin.trans hyi) hSW hP (hD0.self (sz := s.heap.size)) _ hl
