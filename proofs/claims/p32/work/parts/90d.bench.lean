/-! The class's own constructor. -/
theorem nd_range : ∀ l : List Nat, l.Nodup → va_nd l = true
  | [], _ => rfl
  | a :: l, h => by
    obtain ⟨h1, h2⟩ := List.nodup_cons.mp h
    show (decide (a ∉ l) && va_nd l) = true
    rw [decide_eq_true h1, nd_range l h2]
    rfl
theorem map_range {α : Type} (l r : List α) : (List.range l.length).map (fun i => (l ++ r)[i]?) = l.map some := by
  apply List.ext_getElem
  · simp
  · intro i h1 h2
    have h3 : i < l.length := by simpa using h1
    simp [List.getElem?_append_left h3]
section NB
variable {p : Program} {l : Launch} {e : Env} {R : Room} {s : State} {m : MethodId} {args : Array Value} {below : List Frame} {meth : Method} {c : Code} {H : Heap} {locs : List Loc} {cells slots mc ms : Nat} {Q : State → Prop}
variable {D : va_G} {Y : CYs} {own : String} {cc bytes : ByteArray} {pc nL maxL index n : Nat} {ls : Array Slot} {st rest As : List Value} {A : Nat → Prop} {H0 : Heap} {ws : va_W} {y : MethodName} {rm : Room} {q : Nat} {e0 : va_E} {W1 : (Nat → Nat) → va_W} {host : String}
/-- the constructor of the object that was made last -/
theorem n_ctor (hC : Ctx p s m args own D Y) (hb : c.code = cc) (hml : c.maxLocals = nL) (hls : ls.size = nL) (hSW : SW A s s.heap) (hP : va_P D vwCl (ws ++ [(q, e0)]) H) (hD : va_D A (ws ++ [(q, e0)])) (hS : va_S A s.heap H locs) (hA : ∀ q, s.heap.size ≤ q → A q)
    (hM : ∀ sz, Met l y (Cond.code y bytes maxL none :: gW) rm (PcN [(q, e0)] Y D sz (.ref q :: As)) (QN1 [(q, e0)] W1 Y D sz) mc ms (va_A [(q, e0)] sz))
    (cw : (CallB R s args own index y bytes maxL none (Cond.code y bytes maxL none :: gW) rm mc ms n ∧ y.name = "<init>" ∧ (Cond.instanceMethod y).before args s = true) ∨ (va_CN R s args own index y host bytes maxL none (Cond.code y bytes maxL none :: gW) rm mc ms n ∧ y.name = "<init>" ∧ (Cond.instanceMethod y).before args s = true))
    (hn : As.length = n) (hst : st = As.reverse ++ .ref q :: rest) (hcat : (rest.map fun v => v.category).sum ≤ 8) (hdg : decode cc pc = .ok (.invokespecial index, 3)) (hf : cells + mc ≤ R.cells ∧ slots + ms ≤ R.slots)
    (kk : ∀ (u : Nat → Nat) (H1 : Heap) (locs1 : List Loc), va_P D vwCl (ws ++ W1 u) H1 → va_D A (ws ++ W1 u) → va_S A s.heap H1 locs1 → W p l e R s m args below meth c H1 locs1 (cells + mc) (slots + ms) Q (F0 m (pc + 3) ls rest)) : W p l e R s m args below meth c H locs cells slots Q (F0 m pc ls st) := by
  have hg : (ws ++ [(q, e0)])[ws.length]? = some (q, e0) := by simp
  exact n_call hC hb hml hls hSW hP hD hS hA hM cw [ws.length] (List.range ws.length) (by simp [hg]) (by simp [hg]) (map_range ws [(q, e0)]) (nd_range _ List.nodup_range) rfl (fun i hi h => by
    have h1 := List.mem_range.mp hi
    have h2 := List.mem_singleton.mp h
    omega) hn hst hcat hdg hf kk
theorem n_new {C : String} {T : u_T} {N ci : Nat} {fs : List Value} (hC : Ctx p s m args own D Y) (hb : c.code = cc) (hin : ∀ w ∈ u_ws C T N, w ∈ gW) (ty : Nat → FieldType) (hty : ∀ k, k < N → parseFieldDescriptor (T k).2.2.1 = some (ty k)) (hcl : Cond.classLink own index C ∈ gW) (hinst : Cond.instantiable C N ∈ gW) (hini : Cond.initialized C ∈ gW)
    (hP : va_P D vwCl ws H) (hD : va_D A ws) (hS : va_S A H0 H locs) (hA : ∀ q, H0.size ≤ q → A q) (hc : vwCl[ci]? = some (C, T, N)) (hfs : ∀ j, j < N → defaultValue (ty j) = vp_V fs j) (hcells : cells + 1 ≤ R.cells) (hslots : slots + N ≤ R.slots) (hdg : decode cc pc = .ok (.new index, 3))
    (kk : ∀ (q : Nat) (H1 : Heap), va_P D vwCl (ws ++ [(q, .inr (ci, fs))]) H1 → va_D A (ws ++ [(q, .inr (ci, fs))]) → va_S A H0 H1 locs → W p l e R s m args below meth c H1 locs (cells + 1) (slots + N) Q (F0 m (pc + 3) ls (.ref q :: rest))) : W p l e R s m args below meth c H locs cells slots Q (F0 m pc ls rest) :=
  va_new hC.1 hb hC.2.1 hin ty hty hC.2.2.1 (hC.2.1 _ hcl) (hC.2.1 _ hinst) (hC.2.1 _ hini) hC.2.2.2.1 hP hD hS hA hc hfs hcells hslots hdg kk
theorem n_get {ref C : String} {T : u_T} {N ci a : Nat} {fs : List Value} {v : Value} (hC : Ctx p s m args own D Y) (hb : c.code = cc) (hP : va_P D vwCl ws H) (hin : ∀ w ∈ u_ws C T N, w ∈ gW) (q0 : Nat) (he : ws[q0]? = some (a, .inr (ci, fs))) (hc : vwCl[ci]? = some (C, T, N)) (i : Nat) (hi : i < N) (hv : fs[i]? = some v) (hlink : Cond.fieldLink own index ref (T i).2.1 (T i).2.2.1 ∈ gW) (hsame : (T i).1 = ref) (hdg : decode cc pc = .ok (.getfield index, 3))
    (kk : W p l e R s m args below meth c H locs cells slots Q (F0 m (pc + 3) ls (v :: rest))) : W p l e R s m args below meth c H locs cells slots Q (F0 m pc ls (.ref a :: rest)) :=
  va_get hC.1 hb hC.2.1 hin hC.2.2.1 hC.2.2.2.1 hP q0 he hc i hi (hC.2.1 _ hlink) (fun x h => by rw [← hsame]; exact h) hv hdg kk
theorem n_newq (hC : Ctx p s m args own D Y) (hb : c.code = cc) (hover : va_AO "MarkovBench$Strategy" s) (hlink : Cond.classLink own index "MarkovBench$Strategy" ∈ gW) (hP : va_P D vwCl ws H) (hD : va_D A ws) (hS : va_S A H0 H locs) (hA : ∀ q, H0.size ≤ q → A q) {n : Int32} {N' : Nat} (hn : ¬ n < 0) (hN : n.toNatClampNeg = N') (hbytes : N' * 4 ≤ 536870912) (hc : cells + 1 ≤ R.cells) (hs : slots + N' ≤ R.slots) (hdg : decode cc pc = .ok (.anewarray index, 3))
    (kk : ∀ (q : Nat) (H1 : Heap), va_P D vwCl (ws ++ [(q, .inl (Y.2.2.2, N', .inr (.inr (.inr (.inr (fun _ => none))))))]) H1 → va_D A (ws ++ [(q, .inl (Y.2.2.2, N', .inr (.inr (.inr (.inr (fun _ => none))))))]) → va_S A H0 H1 locs → W p l e R s m args below meth c H1 locs (cells + 1) (slots + N') Q (F0 m (pc + 3) ls (.ref q :: rest))) : W p l e R s m args below meth c H locs cells slots Q (F0 m pc ls (.int n :: rest)) := by
  refine va_newq hC.1 hb hC.2.2.1 (hC.2.1 _ hlink) hover hC.2.2.2.1 hP hD hS hA hn hN hbytes hc hs hdg (fun q cA H1 hK1 hP1 hD1 hS1 => ?_)
  obtain ⟨k1, kA, cp, k2, k3, k4, k5⟩ := hK1.2 5 (cA, .object "MarkovBench$Strategy") rfl
  obtain ⟨j1, jA, cq, j2, j3, j4, j5⟩ := hC.2.2.2.1.2 3 (Y.2.2.2, .object "MarkovBench$Strategy") rfl
  have hcA : cA = Y.2.2.2 := Option.some.inj ((show s.vm.findClass _ = some cA from k5).symm.trans (show s.vm.findClass _ = some Y.2.2.2 from j5))
  subst hcA
  exact kk q H1 hP1 hD1 hS1
end NB
