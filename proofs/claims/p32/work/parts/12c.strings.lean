/-- contracts that speak of a String, too -/
def MIs (l : Launch) (y : MethodName) (ws : List Cond) (rm : Room) (L : List Dsc) (Y : CYs) (D : va_G) (E : Nat → Nat) (N : Nat) (bs : List Int32) (a v : Nat) (As : List Value) (σ : Sta) (o : Int32 × Sta) : Prop :=
  ∀ sz, Met l y ws rm (fun w U => PcC L Y D E σ sz As w U ∧ STA N bs a v (AF E L.length sz) U U.heap) (QI L Y D E sz o) 0 0 (AF E L.length sz)
theorem Mets_of {l : Launch} {y : MethodName} {cc : ByteArray} {nL : Nat} {ret : Option FieldType} {rm : Room} {L : List Dsc} {Y : CYs} {D : va_G} {E : Nat → Nat} {N : Nat} {bs : List Int32} {a v : Nat} {As : List Value} {σ : Sta} {Qc : Nat → Array Value → State → Outcome → State → Prop}
    (hy : plainName y.cls = true) (hn : (lg_sl As).length ≤ nL)
    (body : ∀ p e s m args below meth c, Fr p s m args meth c y.cls cc nL ret D Y E L → STA N bs a v (AF E L.length s.heap.size) s s.heap → va_P D vwCl (wd Y E σ 0 L) s.heap → ∀ ls, lv_has ls nL (lv_args 0 As) →
      W p l e rm s m args below meth c s.heap [] 0 0 (MQ below (Qc s.heap.size) args s 0 0 (AF E L.length s.heap.size)) (F0 m 0 ls [])) (sz : Nat) :
    Met l y (Cond.code y cc nL ret :: gW) rm (fun w U => PcC L Y D E σ sz As w U ∧ STA N bs a v (AF E L.length sz) U U.heap) (Qc sz) 0 0 (AF E L.length sz) := by
  refine Met.ofW (cc := cc) (maxL := nL) (ret := ret) hy rfl ?_
  intro p e s m args below meth c s₁ B hml hv
  obtain ⟨⟨rfl, hsz, hP, hK, hD0, hN, hSW⟩, hST⟩ := hv
  have hts := atoms_spec (ws := Cond.code y cc nL ret :: gW) B.pre
  have hown : s.vm.findClass y.cls = some m.cls := findClass_of_methodNamed B.named
  subst hsz
  have hl := lv_entry As (n := nL) hn
  rw [lg_entry_eq]
  exact body p e s m _ below meth c ⟨⟨B.exec, fun w h => hts w (List.mem_cons_of_mem _ h), hown, hK, hN⟩, B.bytes, hml, B.returns, B.notSynchronized, fun τ => wd_DA hD0, hSW⟩ hST hP _ hl
section STS
variable {p : Program} {l : Launch} {e : Env} {R : Room} {s : State} {m : MethodId} {args : Array Value} {below : List Frame} {meth : Method} {c : Code} {H : Heap} {locs : List Loc} {cells slots : Nat} {Q : State → Prop}
variable {D : va_G} {Y : CYs} {E : Nat → Nat} {σ σ2 : Sta} {L : List Dsc} {own : String} {cc bytes : ByteArray} {pc nL maxL n index : Nat} {ret rc : Option FieldType} {ls : Array Slot} {st rest As : List Value} {y : MethodName} {rm : Room} {lv : List (Nat × Value)} {N : Nat} {bs : List Int32} {a v : Nat} {r : Int32}
theorem PcS_blind {sz : Nat} {As : List Value} : FrameBlind (fun w U => PcC L Y D E σ sz As w U ∧ STA N bs a v (AF E L.length sz) U U.heap) := fun w U g mk q =>
  ⟨PcC_blind w U g mk q.1, q.2.moved (u := U) (U := U.calling g mk w) (Vm.Alike.refl U.vm)⟩
theorem x_VIs (hF : Fr p s m args meth c own cc nL rc D Y E L) (hST : STA N bs a v (AF E L.length s.heap.size) s s.heap) (hl : lv_has ls nL lv) (hP : va_P D vwCl (wd Y E σ 0 L) H) (hS : va_S (AF E L.length s.heap.size) s.heap H locs)
    (hM : MIs l y (Cond.code y bytes maxL ret :: gW) rm L Y D E N bs a v (.ref a :: As) σ (r, σ2)) (cw : CallW R s args own "java/lang/String" index y bytes maxL ret (Cond.code y bytes maxL ret :: gW) rm 0 0 n)
    (hn : As.length = n) (hst : st = As.reverse ++ .ref a :: rest) (hcat : (rest.map fun v => v.category).sum ≤ 8) (hdg : decode cc pc = .ok (.invokevirtual index, 3)) (hf : cells ≤ R.cells ∧ slots ≤ R.slots)
    (kk : ∀ (H1 : Heap) (locs1 : List Loc), va_P D vwCl (wd Y E σ2 0 L) H1 → va_S (AF E L.length s.heap.size) s.heap H1 locs1 → W p l e R s m args below meth c H1 locs1 cells slots Q (F0 m (pc + 3) ls (.int r :: rest))) : W p l e R s m args below meth c H locs cells slots Q (F0 m pc ls st) := by
  obtain ⟨hC, hb, hml, hr, hlk, hD, hSW⟩ := hF
  subst hst
  have hcell : ∃ cell : Cell, H[a]? = some cell ∧ cell.vm.isStatics = false ∧ s.vm.findClass "java/lang/String" = some cell.cls := by
    obtain ⟨cell, h1, h2, h3, -⟩ := hST.1.kept hS.2.1
    exact ⟨cell, h1, h2, h3⟩
  refine va_calli (va_runV (As := As) (rest := rest) ⟨hC.1, hb, hml, hC.2.2.1, hC.2.1⟩ (hM H.size) cw ⟨PcS_blind, hcell, fun U hU hW => ⟨pre_of hC hP hD hSW hS U hU hW, by rw [hU]; exact ((hST.kept hS.2.1).moved hW.alike).narrow (fun q h => AF_le hS.1 h)⟩⟩ rfl hn hl.1 rfl (lv_room (ls := ls) hcat) hdg hf) hS (fun q _ h => AF_le hS.1 h) (fun q h => AF_le hS.1 h) (fun r1 u t H1 locs1 ht hvm hw hB hz hk hS1 => ?_)
  obtain ⟨rfl, rfl⟩ := hw
  exact kk H1 locs1 (behindC (H := H) hC ht hB) hS1
theorem x_SIs (hF : Fr p s m args meth c own cc nL rc D Y E L) (hST : STA N bs a v (AF E L.length s.heap.size) s s.heap) (hl : lv_has ls nL lv) (hP : va_P D vwCl (wd Y E σ 0 L) H) (hS : va_S (AF E L.length s.heap.size) s.heap H locs)
    (hM : MIs l y (Cond.code y bytes maxL ret :: gW) rm L Y D E N bs a v As σ (r, σ2)) (cw : CallB R s args own index y bytes maxL ret (Cond.code y bytes maxL ret :: gW) rm 0 0 n ∧ (Cond.static y).before args s = true)
    (hn : As.length = n) (hst : st = As.reverse ++ rest) (hcat : (rest.map fun v => v.category).sum ≤ 8) (hdg : decode cc pc = .ok (.invokestatic index, 3)) (hf : cells ≤ R.cells ∧ slots ≤ R.slots)
    (kk : ∀ (H1 : Heap) (locs1 : List Loc), va_P D vwCl (wd Y E σ2 0 L) H1 → va_S (AF E L.length s.heap.size) s.heap H1 locs1 → W p l e R s m args below meth c H1 locs1 cells slots Q (F0 m (pc + 3) ls (.int r :: rest))) : W p l e R s m args below meth c H locs cells slots Q (F0 m pc ls st) := by
  obtain ⟨hC, hb, hml, hr, hlk, hD, hSW⟩ := hF
  subst hst
  refine va_calli (va_runS (As := As) (rest := rest) ⟨hC.1, hb, hml, hC.2.2.1, hC.2.1⟩ (hM H.size) cw ⟨PcS_blind, fun U hU hW => ⟨pre_of hC hP hD hSW hS U hU hW, by rw [hU]; exact ((hST.kept hS.2.1).moved hW.alike).narrow (fun q h => AF_le hS.1 h)⟩⟩ rfl hn hl.1 rfl (lv_room (ls := ls) hcat) hdg hf) hS (fun q _ h => AF_le hS.1 h) (fun q h => AF_le hS.1 h) (fun r1 u t H1 locs1 ht hvm hw hB hz hk hS1 => ?_)
  obtain ⟨rfl, rfl⟩ := hw
  exact kk H1 locs1 (behindC (H := H) hC ht hB) hS1
theorem x_nret {x : Int32} {ty : FieldType} {o : Int32 × Sta} (hF : Fr p s m args meth c own cc nL (some ty) D Y E L) (hP : va_P D vwCl (wd Y E σ 0 L) H) (hS : va_S (AF E L.length s.heap.size) s.heap H locs) (hv : narrow ty (.int x) = .int x) (h : some (x, σ) = some o) (hdg : decode cc pc = .ok (.ireturn, 1)) : W p l e R s m args below meth c H locs cells slots (MQ below (QI L Y D E s.heap.size o) args s cells slots (AF E L.length s.heap.size)) (F0 m pc ls [.int x]) := by
  obtain ⟨hC, hb, hml, hr, hlk, hD, hSW⟩ := hF
  cases h
  exact W.zret hC.1 hb hr hv (fun t ht hW => ⟨⟨x, σ, rfl, ⟨rfl, rfl⟩, by rw [ht]; exact hP, va_K.moved hW.alike hC.2.2.2.1, hD σ⟩, hS.F ht⟩) hS.2.2 hdg hlk
end STS
theorem nchar {x : Int32} (h : ¬ ¬ (x.toUInt32.toUInt16.toUInt32.toInt32 = x)) : narrow .char (.int x) = .int x := by
  have h := Decidable.not_not.mp h
  show Value.int (x.toUInt32.toUInt16.toUInt32.toInt32) = _
  rw [h]
theorem nbyte {x : Int32} (h : ¬ ¬ (x.toInt8.toInt32 = x)) : narrow .byte (.int x) = .int x := by
  have h := Decidable.not_not.mp h
  show Value.int (x.toInt8.toInt32) = _
  rw [h]
theorem zq_of {C n d : String} {A : Nat → Prop} {U : State} {H : Heap} (h : va_Zq C n d A U H) : ∃ r : Option Nat, va_Z C n d (va_rf r) A U H := by
  rcases h with h | ⟨t, h⟩
  · exact ⟨none, h⟩
  · exact ⟨some t, h⟩
