/-! Wrong: its constructor; methods of the reference that throw it or catch it. -/
theorem wsSup_in : ∀ w ∈ wsSup, (w ∈ tables_1 ∧ goodWord w = true) ∨ w ∈ nwx ∨ w = .isRef (.static Bundle.tN "UNASSIGNED_STACK" Bundle.steD) ∨ w = .isRef (.static Bundle.tN "SUPPRESSED_SENTINEL" Bundle.listD) ∨ w = .laysStatic Bundle.tN "UNASSIGNED_STACK" Bundle.steD ∨ w = .laysStatic Bundle.tN "SUPPRESSED_SENTINEL" Bundle.listD := by decide +kernel
/-- a new Wrong, not yet made -/
def WRb (D : va_G) (a : Nat) (U : State) (H : Heap) : Prop := ∃ kX, U.vm.classes[D.1 9]? = some kX ∧ H[a]? = some (blank (D.1 9) kX)
/-- a Wrong: its error, its place -/
def WRc (D : va_G) (a : Nat) (x : Int32 × Int32) (H : Heap) : Prop := ∃ fs : List Value, fs.length = 8 ∧ fs[6]? = some (.int x.1) ∧ fs[7]? = some (.int x.2) ∧ va_P D vwCl [(a, .inr (9, fs))] H
theorem WRc.kept {D : va_G} {a : Nat} {x : Int32 × Int32} {H H1 : Heap} (h : WRc D a x H) (hq : H1[a]? = H[a]?) : WRc D a x H1 := by
  obtain ⟨fs, h1, h2, h3, h4⟩ := h
  refine ⟨fs, h1, h2, h3, h4.kept (fun k q hk => ?_)⟩
  cases k with
  | zero => cases hk; exact hq
  | succ k => cases hk
abbrev AFa (a sz : Nat) : Nat → Prop := fun q => q = a ∨ sz ≤ q
abbrev PcW (Y : CYs) (D : va_G) (a : Nat) (x : Int32 × Int32) (sz : Nat) : Array Value → State → Prop :=
  va_Pc [.ref a, .int x.1, .int x.2] (fun U => U.heap.size = sz ∧ WRb D a U U.heap ∧ va_K D vwCl (tysY Y) U ∧ NW U ∧ SW (AFa a sz) U U.heap)
theorem PcW_blind {Y : CYs} {D : va_G} {a : Nat} {x : Int32 × Int32} {sz : Nat} : FrameBlind (PcW Y D a x sz) := fun a U g mk q => by
  obtain ⟨q0, q1, qP, qK, qN, qS⟩ := q
  exact ⟨q0, q1, qP, va_K.moved (u := U) (U := U.calling g mk a) (Vm.Alike.refl U.vm) qK, NW.same (s := U) (U := U.calling g mk a) rfl qN, SW.same (u := U) (U := U.calling g mk a) rfl qS⟩
def QcW (D : va_G) (a : Nat) (x : Int32 × Int32) (sz : Nat) : Array Value → State → Outcome → State → Prop :=
  va_Qv (fun _ : Unit => True) (fun _ t => WRc D a x t.heap) (AFa a sz)
section WRG
variable {p : Program} {l : Launch} {e : Env} {R : Room} {s : State} {m : MethodId} {args : Array Value} {below : List Frame} {meth : Method} {c : Code} {H : Heap} {locs : List Loc} {cells slots : Nat} {Q : State → Prop}
variable {D : va_G} {Y : CYs} {E : Nat → Nat} {σ σ1 σ2 : Sta} {L : List Dsc} {own C : String} {cc bytes : ByteArray} {pc nL maxL n index a : Nat} {ret rc : Option FieldType} {ls : Array Slot} {st rest As : List Value} {y : MethodName} {rm : Room} {lv : List (Nat × Value)} {x : Int32 × Int32} {A : Nat → Prop}
theorem wsSup_at (hC : Ctx p s m args own D Y) (hSW : SW A s s.heap) : ∀ w ∈ wsSup, w.before args s = true := by
  intro w hw
  rcases wsSup_in w hw with ⟨h1, h2⟩ | h | rfl | rfl | rfl | rfl
  · exact hC.2.1 w (gw_t h1 h2)
  · exact va_Nw.use (nest_on (List.all_eq_true.mp nwx_nest w h)) (hC.2.2.2.2.2.1 w h)
  · exact vx_isRefq hSW.2.2.1.1
  · exact vx_isRefq hSW.2.2.2.1.1
  · exact hSW.2.2.1.2.word
  · exact hSW.2.2.2.1.2.word
/-- super() of Wrong -/
theorem w_sup (hC : Ctx p s m args eWR D Y) (hb : c.code = cc) (ht : l.stackTraces = false) (hSW : SW A s s.heap) (hB : WRb D a s s.heap) (hml : ls.size = c.maxLocals) (hd : decode cc pc = .ok (.invokespecial 1, 3)) (hR : 4 < R.frames ∧ 75 ≤ R.locals)
    (kk : ∀ (H1 : Heap) (locs1 : List Loc) (fs : List Value), fs.length = 8 → va_P D vwCl [(a, .inr (9, fs))] H1 → va_S (AFa a s.heap.size) s.heap H1 locs1 → W p l e R s m args below meth c H1 locs1 cells slots Q (F0 m (pc + 3) ls [])) :
    W p l e R s m args below meth c s.heap [] cells slots Q (F0 m pc ls [.ref a]) := by
  intro T hT X
  obtain ⟨kX, hkX, hcell⟩ := hB
  have hKn := hC.2.2.2.1.1 9 _ rfl
  obtain ⟨hSl, hfc, kC, hkC, hord⟩ := hKn
  cases Option.some.inj (hkX.symm.trans hkC)
  have htr : e.platform.stackTraces = false := (show e.platform.stackTraces = l.stackTraces by rw [X.admits.platform]).trans ht
  have hcT : T.heap[a]? = some (freshCell (D.1 9) kX) := by rw [hT]; exact hcell
  obtain ⟨V, ce, L1, X2, hL, hlt, hVh, hce1, hce2, hce3, hst⟩ := w_superMade (c := c) X hC.1 htr hC.2.2.1 (wsSup_at hC hSW) (fun z hz => nomatch hz) hfc hkX hord hcT (fun b cb hb1 hb2 hba => by subst hba; cases Option.some.inj (hb1.symm.trans hcell); cases hb2) (g := F0 m pc ls [.ref a]) rfl hml rfl (by rw [hb]; exact hd) hR.1 (by have := lv_room (ls := ls) (m := m) (pc := pc) (st := []) (rest := [.ref a]) (by decide); simp only [List.map_nil, List.sum_nil] at this ⊢; omega)
  have hbo : t_OB a (D.1 9) 8 (D.2 9) s.heap (fun k => defaultValue (tyX9 k)) := u_born (ws := gW) (C := RX9) (T := TX9) tyX9 hC.2.1 inGX9 ⟨hSl, hfc, kX, hkX, hord⟩ hkX hcell tyX9_ok
  obtain ⟨cell0, b1, b2, b3, b4⟩ := hbo
  cases Option.some.inj (b1.symm.trans hcell)
  have hsz : ∀ k, k < 8 → D.2 9 k < ce.slots.size := fun k hk => by rw [hce3]; exact (Array.getElem?_eq_some_iff.mp (b4 k hk)).1
  have hH : (V.setCell a ce).heap = s.heap.setIfInBounds a ce := by
    show V.heap.setIfInBounds a ce = _
    rw [hVh, hT]
  obtain ⟨t, r1, r2⟩ := kk (V.setCell a ce).heap ([] ++ L1) ((List.range 8).map fun k => ce.slots.getD (D.2 9 k) .null) (by simp) (fun k q hk => by
      cases k with
      | succ k => cases hk
      | zero =>
        cases hk
        refine ⟨_, rfl, ce, ?_, hce1, hce2, fun k hk => ?_⟩
        · rw [hH, Array.getElem?_setIfInBounds]
          have : a < s.heap.size := by rw [← hT, ← hVh]; exact hlt
          simp [this]
        · have h1 := hsz k hk
          rw [Array.getElem?_eq_getElem h1]
          simp [vp_V, hk, h1]) ⟨by rw [hH]; simp, fun q h1 h2 => by rw [hH, Array.getElem?_setIfInBounds, if_neg (fun e => h2 (Or.inl e.symm))], fun z hz => Or.inl (hL z (by simpa using hz))⟩ (V.setCell a ce) rfl X2
  exact ⟨t, hst _ r1, r2⟩
end WRG
