/-! Constructors: one calls another. -/
theorem PcN_blind {W0 : va_W} {Y : CYs} {D : va_G} {sz : Nat} {As : List Value} : FrameBlind (PcN W0 Y D sz As) := fun a U g mk q => by
  obtain ⟨q0, q1, qP, qK, qD, qN, qS⟩ := q
  exact ⟨q0, q1, qP, va_K.moved (u := U) (U := U.calling g mk a) (Vm.Alike.refl U.vm) qK, qD, NW.same (s := U) (U := U.calling g mk a) rfl qN, SW.same (u := U) (U := U.calling g mk a) rfl qS⟩
section NC
variable {p : Program} {l : Launch} {e : Env} {R : Room} {s : State} {m : MethodId} {args : Array Value} {below : List Frame} {meth : Method} {c : Code} {H : Heap} {locs : List Loc} {cells slots mc ms : Nat} {Q : State → Prop}
variable {D : va_G} {Y : CYs} {own : String} {cc bytes : ByteArray} {pc nL maxL index n : Nat} {ls : Array Slot} {st rest As : List Value} {A : Nat → Prop} {ws : va_W} {y : MethodName} {rm : Room} {q : Nat} {e0 : va_E} {W1 : (Nat → Nat) → va_W} {host : String}
theorem n_call (hC : Ctx p s m args own D Y) (hb : c.code = cc) (hml : c.maxLocals = nL) (hls : ls.size = nL) (hSW : SW A s s.heap) (hP : va_P D vwCl (ws ++ [(q, e0)]) H) (hD : va_D A (ws ++ [(q, e0)])) (hS : va_S A s.heap H locs) (hA : ∀ q, s.heap.size ≤ q → A q)
    (hM : ∀ sz, Met l y (Cond.code y bytes maxL none :: gW) rm (PcN [(q, e0)] Y D sz (.ref q :: As)) (QN1 [(q, e0)] W1 Y D sz) mc ms (va_A [(q, e0)] sz))
    (cw : (CallB R s args own index y bytes maxL none (Cond.code y bytes maxL none :: gW) rm mc ms n ∧ y.name = "<init>" ∧ (Cond.instanceMethod y).before args s = true) ∨ (va_CN R s args own index y host bytes maxL none (Cond.code y bytes maxL none :: gW) rm mc ms n ∧ y.name = "<init>" ∧ (Cond.instanceMethod y).before args s = true))
    (isC isR : List Nat) (hc1 : isC.map (fun i => (ws ++ [(q, e0)])[i]?) = [(q, e0)].map some) (hc0 : isC.filterMap (fun i => (ws ++ [(q, e0)])[i]?) = [(q, e0)]) (hr1 : isR.map (fun i => (ws ++ [(q, e0)])[i]?) = ws.map some) (hnd : va_nd isR = true) (hndC : va_nd isC = true) (hdis : ∀ i ∈ isR, i ∉ isC)
    (hn : As.length = n) (hst : st = As.reverse ++ .ref q :: rest) (hcat : (rest.map fun v => v.category).sum ≤ 8) (hdg : decode cc pc = .ok (.invokespecial index, 3)) (hf : cells + mc ≤ R.cells ∧ slots + ms ≤ R.slots)
    (kk : ∀ (u : Nat → Nat) (H1 : Heap) (locs1 : List Loc), va_P D vwCl (ws ++ W1 u) H1 → va_D A (ws ++ W1 u) → va_S A s.heap H1 locs1 → W p l e R s m args below meth c H1 locs1 (cells + mc) (slots + ms) Q (F0 m (pc + 3) ls rest)) : W p l e R s m args below meth c H locs cells slots Q (F0 m pc ls st) := by
  subst hst
  have hPc := hP.sub (ws' := [(q, e0)]) isC hc0
  have hDc := hD.sub (ws' := [(q, e0)]) isC hndC hc1
  have hFc := va_free (wc := [(q, e0)]) hD hS hA isC hc1
  have hp : PreS s H (PcN [(q, e0)] Y D H.size (.ref q :: As)) (.ref q :: As) := ⟨PcN_blind, fun U hU hW => ⟨rfl, by rw [hU], by rw [hU]; exact hPc, va_K.moved hW.alike hC.2.2.2.1, hDc.weaken (fun _ _ _ _ => trivial), NW.warm hW hC.2.2.2.2, by rw [hU]; exact ((hSW.kept hS.2.1).warm hW).narrow (fun x hx => hFc x hx)⟩⟩
  have run : va_Run p l e R s m args below meth c H locs cells slots mc ms (F0 m pc ls (As.reverse ++ .ref q :: rest)) rest (QN1 [(q, e0)] W1 Y D H.size (Value.ref q :: As).toArray) (va_A [(q, e0)] H.size) := by
    rcases cw with cw | cw
    · exact va_runI (As := As) (rest := rest) ⟨hC.1, hb, hml, hC.2.2.1, hC.2.1⟩ (hM H.size) cw hp rfl hn hls rfl (lv_room (ls := ls) hcat) hdg hf
    · exact va_runIN (As := As) (rest := rest) ⟨hC.1, hb, hml, hC.2.2.1, hC.2.1⟩ (hM H.size) cw hp rfl hn hls rfl (lv_room (ls := ls) hcat) hdg hf
  refine va_callv run hS (fun q _ h => hFc q h) hFc (fun u t H1 locs1 ht hvm hw hB hz1 hk1 hS1 => ?_)
  obtain ⟨hP1, hK1, hD1⟩ := hB
  rw [ht] at hP1
  obtain ⟨hP2, hD2⟩ := va_join (wr := ws) (w1 := W1 u) hP hD isC isR hc1 hr1 hnd hdis hk1 hFc hP1 hD1
  exact kk u H1 locs1 hP2 hD2 hS1
end NC
