/-! Arrays of int[]: rows of their own (the narrow kit has none); the walk's cells. -/
section MN
/-- new int[100][2], i of its rows made: what the machine has then -/
def mnOut (cA : ClassId) (h0 i : Nat) : Cell := arrV cA 100 (fun j => if j < i then .ref (h0 + 1 + j) else .null)
def mnSt (T : State) (cA cI : ClassId) : Nat → State
  | 0 => T.pushCell (mnOut cA T.heap.size 0)
  | i + 1 => ((mnSt T cA cI i).pushCell (arrV cI 2 (fun _ => .int 0))).setCell T.heap.size (mnOut cA T.heap.size (i + 1))
theorem mnOut_set (cA : ClassId) (h0 i : Nat) : (mnOut cA h0 i).setSlot i (.ref (h0 + 1 + i)) = mnOut cA h0 (i + 1) := by
  unfold mnOut
  rw [arrV_store]
  congr 1
  funext j
  show (if j = i then Value.ref (h0 + 1 + i) else (if j < i then Value.ref (h0 + 1 + j) else .null)) = (if j < i + 1 then Value.ref (h0 + 1 + j) else .null)
  by_cases q : j = i
  · rw [if_pos q, if_pos (by omega), q]
  · rw [if_neg q]
    by_cases q2 : j < i
    · rw [if_pos q2, if_pos (by omega)]
    · rw [if_neg q2, if_neg (by omega)]
theorem mnOut_0 (cA : ClassId) (h0 : Nat) : mnOut cA h0 0 = arrV cA 100 (fun _ => .null) := congrArg (arrV cA 100) (funext fun j => if_neg (Nat.not_lt_zero _))
theorem mn_repl (c : ClassId) (n : Nat) (v : Value) : ({ cls := c, slots := Array.replicate n v, vm := .none } : Cell) = arrV c n (fun _ => v) := by
  unfold arrV
  congr 1
  apply Array.ext
  · simp
  · intro i h1 h2
    simp
theorem mnSt_sz (T : State) (cA cI : ClassId) : ∀ i, (mnSt T cA cI i).heap.size = T.heap.size + 1 + i ∧ (mnSt T cA cI i).heap[T.heap.size]? = some (mnOut cA T.heap.size i) ∧ (mnSt T cA cI i).vm = T.vm ∧ (mnSt T cA cI i).slotsUsed = T.slotsUsed + 100 + 2 * i ∧ ∀ q : Nat, q < T.heap.size → (mnSt T cA cI i).heap[q]? = T.heap[q]?
  | 0 => ⟨by simp [mnSt], by simp [mnSt], rfl, by simp [mnSt, mnOut, arrV_size], fun q hq => State.heap_pushCell_of_lt _ _ hq⟩
  | i + 1 => by
    obtain ⟨a, b, d, u, o⟩ := mnSt_sz T cA cI i
    have hlt : T.heap.size < (mnSt T cA cI i).heap.size := by omega
    have hb' : ((mnSt T cA cI i).pushCell (arrV cI 2 (fun _ => .int 0))).heap[T.heap.size]? = some (mnOut cA T.heap.size i) := by rw [State.heap_pushCell_of_lt (h := hlt)]; exact b
    refine ⟨?_, State.heap_setCell_self hb', by simp [mnSt, d], ?_, fun q hq => ?_⟩
    · simp [mnSt, State.setCell, a]
      omega
    · simp [mnSt, u, arrV_size]
      omega
    · show (((mnSt T cA cI i).pushCell (arrV cI 2 (fun _ => .int 0))).setCell T.heap.size _).heap[q]? = _
      have hq2 : q < (mnSt T cA cI i).heap.size := by omega
      rw [State.heap_setCell_other (Nat.ne_of_gt hq), State.heap_pushCell_of_lt (h := hq2)]
      exact o q hq
theorem mnSt_top (T : State) (f : JFrame) (cA cI : ClassId) : ∀ i, mnSt (T.setTop f) cA cI i = (mnSt T cA cI i).setTop f
  | 0 => rfl
  | i + 1 => by simp only [mnSt, mnSt_top T f cA cI i, State.heap_setTop, State.pushCell_setTop, State.setCell_setTop]
theorem mn_wp {E : CtlPost} {e : Env} {d : Bool} {acts : List Action} {s : State} {c comp cc : ClassId} {k kc : Class} (hk : s.vm.classes[c]? = some k) (hkind : k.kind = .array comp (.array .int)) (hkc : s.vm.classes[comp]? = some kc) (hkindc : kc.kind = .array cc .int)
    (hl : ¬ 100 > e.platform.arrayLengthLimit) (hh : ¬ 400 > e.platform.maxHeapBytes) (hc : s.heap.size + 101 ≤ e.platform.maxCells) (hs : s.slotsUsed + 300 ≤ e.platform.maxSlots)
    {Q : Addr → Pre} (hq : ∀ d' acts', Q s.heap.size d' acts' (mnSt s c comp 100)) : wp (multianewarray.make c [100, 2]) Q E e d acts s := by
  have n100 : ((100 : Int32)).toNatClampNeg = 100 := rfl
  have n2 : ((2 : Int32)).toNatClampNeg = 2 := rfl
  have z100 : ¬ ((100 : Int32)) < 0 := by decide
  have z2 : ¬ ((2 : Int32)) < 0 := by decide
  have hfind : (([2] : List Int32).find? (· < 0)) = none := by decide
  rw [multianewarray.make]
  simp only [wp_bind', W.ite, z100, if_false, wp_pure', W.theClass, hk, hkind, Option.some.injEq, exists_eq_left']
  rw [n100]
  refine W.newArray_of hk hkind hl (by show ¬ 100 * 4 > _; exact hh) (by omega) (by omega) rfl (fun acts1 => ?_)
  simp only [hfind]
  rw [ite_self, wp_bind', Std.Legacy.Range.forIn_eq_forIn_range']
  have hsz : ([:100] : Std.Legacy.Range).size = 100 := by simp [Std.Legacy.Range.size]
  rw [hsz]
  show wp (forIn (List.range' 0 100 1) PUnit.unit _) _ E e d acts1 _
  refine wp_forIn_inv (fun rest s' => ∃ i, i ≤ 100 ∧ rest = List.range' i (100 - i) ∧ s' = mnSt s c comp i) _ _ ⟨0, Nat.zero_le _, rfl, ?_⟩ ?_ ?_
  · show s.pushCell _ = s.pushCell (mnOut c s.heap.size 0)
    rw [mnOut_0]
    exact congrArg (State.pushCell s) (mn_repl c 100 .null)
  · rintro x rest s' d' acts' Q' ⟨i, hi, hl', rfl⟩ hnext
    have hlt : i < 100 := by
      rcases Nat.lt_or_ge i 100 with h | h
      · exact h
      · rw [show 100 - i = 0 by omega] at hl'
        simp at hl'
    obtain ⟨rfl, hrest⟩ : x = i ∧ rest = List.range' (i + 1) (100 - (i + 1)) := by
      rw [show 100 - i = (100 - (i + 1)) + 1 by omega, List.range'_succ] at hl'
      exact ⟨(List.cons.inj hl').1, (List.cons.inj hl').2⟩
    obtain ⟨f1, f2, f3, f4, -⟩ := mnSt_sz s c comp x
    have hlt0 : s.heap.size < (mnSt s c comp x).heap.size := by omega
    simp only [wp_bind']
    rw [multianewarray.make]
    simp only [wp_bind', W.ite, z2, if_false, wp_pure', W.theClass, f3, hkc, hkindc, Option.some.injEq, exists_eq_left']
    rw [n2]
    refine W.newArray_of (by rw [f3]; exact hkc) hkindc (by omega) (by show ¬ 2 * 4 > _; omega) (by omega) (by omega) rfl (fun acts2 => ?_)
    simp only [wp_bind', W.writeLoc, wp_pure']
    refine ⟨mnOut c s.heap.size x, by rw [State.heap_pushCell_of_lt (h := hlt0)]; exact f2, by unfold mnOut arrV; simp, by unfold mnOut; rw [arrV_size]; exact hlt, ?_, hnext _ _ _ ⟨x + 1, hlt, hrest, ?_⟩⟩
    · show State.fitsSlot _ c .none x _ = true
      simp [State.fitsSlot, State.slotType?, f3, hk, hkind, fits]
    · show _ = ((mnSt s c comp x).pushCell _).setCell s.heap.size (mnOut c s.heap.size (x + 1))
      rw [← mnOut_set, f1]
      congr 2
  · rintro s' d' acts' ⟨i, hi, hl', rfl⟩
    have hiN : i = 100 := by
      rcases Nat.lt_or_ge i 100 with h | h
      · rw [show 100 - i = (100 - (i + 1)) + 1 by omega, List.range'_succ] at hl'
        cases hl'
      · omega
    subst hiN
    simp only [wp_pure']
    exact hq _ _
variable {p : Program} {l : Launch} {e : Env} {R : Room} {s : State} {m : MethodId} {args : Array Value} {below : List Frame} {meth : Method} {c : Code} {H : Heap} {locs : List Loc} {cells slots : Nat} {Q : State → Prop}
variable {D : va_G} {Y : CYs} {own : String} {cc : ByteArray} {pc : Nat} {ls : Array Slot} {rest : List Value} {A : Nat → Prop} {H0 : Heap} {ws : va_W}
theorem mn_stand {T : State} (X : Stand p l e R s m args below meth c T locs cells slots) (cA cI : ClassId) : ∀ i, Stand p l e R s m args below meth c (mnSt T cA cI i) (locs ++ (List.range i).map fun j => ⟨T.heap.size, j⟩) (cells + 1 + i) (slots + 100 + 2 * i)
  | 0 => by
    have h := X.pushed (mnOut cA T.heap.size 0)
    rw [show (mnOut cA T.heap.size 0).slots.size = 100 from arrV_size _ _ _] at h
    simpa [mnSt] using h
  | i + 1 => by
    have Xi := mn_stand X cA cI i
    obtain ⟨f1, f2, -⟩ := mnSt_sz T cA cI i
    have hlt : T.heap.size < (mnSt T cA cI i).heap.size := by omega
    have hcell : ((mnSt T cA cI i).pushCell (arrV cI 2 (fun _ => .int 0))).heap[T.heap.size]? = some (mnOut cA T.heap.size i) := by rw [State.heap_pushCell_of_lt (h := hlt)]; exact f2
    have h := (Xi.pushed (arrV cI 2 (fun _ => .int 0))).stored hcell i (.ref (T.heap.size + 1 + i))
    rw [arrV_size, mnOut_set] at h
    have e2 : (locs ++ (List.range (i + 1)).map fun j => (⟨T.heap.size, j⟩ : Loc)) = (locs ++ (List.range i).map fun j => (⟨T.heap.size, j⟩ : Loc)) ++ [⟨T.heap.size, i⟩] := by simp [List.range_succ, List.append_assoc]
    rw [e2, show slots + 100 + 2 * (i + 1) = slots + 100 + 2 * i + 2 by omega]
    exact h
/-- what stands of int[][] when one has been made before -/
theorem aoa_spec {U : State} (h : aoa U) : ∃ (x a : ClassId) (k : Class), U.vm.findClass (FieldType.array .int).toString = some x ∧ U.vm.classes[a]? = some k ∧ k.kind = .array x (.array .int) ∧ U.vm.findClass ("[" ++ (FieldType.array .int).toString) = some a := by
  unfold aoa Cond.before Cond.holds at h
  simp only [Cond.value, beq_iff_eq] at h
  obtain ⟨x, hx1, hx2⟩ := Option.bind_eq_some_iff.mp h
  obtain ⟨a, ha1, ha2⟩ := Option.bind_eq_some_iff.mp hx2
  obtain ⟨k, hk1, hk2⟩ := Option.map_eq_some_iff.mp ha2
  obtain ⟨hlt, hp, -⟩ := Array.findIdx?_eq_some_iff_getElem.mp ha1
  rw [(Array.getElem?_eq_some_iff.mp hk1).2] at hp
  refine ⟨x, a, k, hx1, hk1, ?_⟩
  revert hk2 hp
  cases k.kind with
  | array y ty =>
    intro hk2 hp
    simp only [Bool.and_eq_true, decide_eq_true_eq] at hk2
    have hy : y = x := by simpa using hp
    exact ⟨by rw [hy, hk2.1], hk2.2⟩
  | _ =>
    intro hk2 hp
    simp at hk2
/-- the class of int[][] and that of its rows -/
theorem aoa_cls (hC : Ctx p s m args own D Y) : ∃ kA kI cI, s.vm.classes[Y.2.2.1.2]? = some kA ∧ kA.kind = .array Y.1 (.array .int) ∧ s.vm.classes[Y.1]? = some kI ∧ kI.kind = .array cI .int ∧ s.vm.findClass ("[" ++ (FieldType.array .int).toString) = some Y.2.2.1.2 := by
  obtain ⟨comp, cA, kA, hcomp, hkA, hkindA, hnameA⟩ := aoa_spec hC.2.2.2.2.2
  have e1 : cA = Y.2.2.1.2 := Option.some.inj (hnameA.symm.trans (show s.vm.findClass _ = some Y.2.2.1.2 from (hC.2.2.2.1.2 4 _ rfl).2))
  have e2 : comp = Y.1 := Option.some.inj (hcomp.symm.trans (show s.vm.findClass _ = some Y.1 from (hC.2.2.2.1.2 0 _ rfl).2))
  subst e1
  subst e2
  obtain ⟨-, kI, h1, cI, h2⟩ := (hC.2.2.2.1.2 0 _ rfl).1 0 (fun _ => .int 0)
  exact ⟨kA, kI, cI, hkA, hkindA, h1, h2, hnameA⟩
theorem n_mna {index : Nat} (hC : Ctx p s m args own D Y) (hb : c.code = cc) (hcl : Cond.classLink own index "[[I" ∈ gW) (hP : va_P D vwCl ws H) (hD : va_D A ws) (hS : va_S A H0 H locs) (hA : ∀ q, H0.size ≤ q → A q) (hc : cells + 101 ≤ R.cells) (hs : slots + 300 ≤ R.slots) (hdg : decode cc pc = .ok (.multianewarray index 2, 4))
    (kk : ∀ (q : Nat) (f : Nat → Option Nat) (H1 : Heap) (locs1 : List Loc), va_P D vwCl (ws ++ [(q, .inl (Y.2.2.1.2, 100, .inr (.inr (.inr (.inr f)))))]) H1 → va_D A (ws ++ [(q, .inl (Y.2.2.1.2, 100, .inr (.inr (.inr (.inr f)))))]) → va_S A H0 H1 locs1 → W p l e R s m args below meth c H1 locs1 (cells + 101) (slots + 300) Q (F0 m (pc + 4) ls (.ref q :: rest))) : W p l e R s m args below meth c H locs cells slots Q (F0 m pc ls (.int 2 :: .int 100 :: rest)) := by
  obtain ⟨kA, kI, cI, hkA, hkindA, hkI, hkindI, hnm⟩ := aoa_cls hC
  intro T hT X
  subst hT
  have hpl : e.platform.magicAccessors = ({} : Platform).magicAccessors := by rw [X.admits.platform]
  have hclink : (Cond.classLink own index ("[" ++ (FieldType.array .int).toString)).before args s = true := hC.2.1 _ hcl
  obtain ⟨c0, hfc0, hcl0⟩ := Cond.classLink_spec hC.2.2.1 hclink e.platform hpl
  cases hnm.symm.trans hfc0
  obtain ⟨hg₁, hwarm₁, hready₁⟩ := State.classEntry (e := e) X.warmed hcl0
  generalize T.vm.noted m.cls index (.cls Y.2.2.1.2) = vm₁ at hg₁ hwarm₁ hready₁
  have hal : s.vm.Alike vm₁ := hwarm₁.alike
  obtain ⟨kA₁, hkA₁, heA⟩ := hal.2.2 _ _ hkA
  obtain ⟨kI₁, hkI₁, heI⟩ := hal.2.2 _ _ hkI
  have hkindA₁ : kA₁.kind = .array Y.1 (.array .int) := by rw [heA]; exact hkindA
  have hkindI₁ : kI₁.kind = .array cI .int := by rw [heI]; exact hkindI
  have X₁ := X.noted hwarm₁
  obtain ⟨hr1, hr2⟩ := X.roomAbove (a := 101) (b := 300) hc hs
  have XF := mn_stand X₁ Y.2.2.1.2 Y.1 100
  obtain ⟨g1, g2, g3, g4, g5⟩ := mnSt_sz (T.setVm vm₁) Y.2.2.1.2 Y.1 100
  have hgrid : (mnSt (T.setVm vm₁) Y.2.2.1.2 Y.1 100).heap[T.heap.size]? = some (vp_cell Y.2.2.1.2 (100, .inr (.inr (.inr (.inr (fun j => if j < 100 then some (T.heap.size + 1 + j) else none)))))) := by
    rw [vp_cell_q]
    refine g2.trans (congrArg some (congrArg (arrV Y.2.2.1.2 100) (funext fun j => ?_)))
    show (if j < 100 then Value.ref (T.heap.size + 1 + j) else .null) = va_rf (if j < 100 then some (T.heap.size + 1 + j) else none)
    split <;> rfl
  have hP1 : va_P D vwCl (ws ++ [(T.heap.size, .inl (Y.2.2.1.2, 100, .inr (.inr (.inr (.inr (fun j => if j < 100 then some (T.heap.size + 1 + j) else none))))))]) (mnSt (T.setVm vm₁) Y.2.2.1.2 Y.1 100).heap := by
    intro k q hk
    by_cases hlt : k < ws.length
    · rw [List.getElem?_append_left hlt] at hk
      exact (hP k q hk).kept (g5 q.1 (hP k q hk).lt)
    · rw [List.getElem?_append_right (Nat.le_of_not_lt hlt)] at hk
      obtain ⟨hk0, hk1⟩ := List.getElem?_eq_some_iff.mp hk
      have hk2 : k - ws.length = 0 := by
        have : k - ws.length < 1 := hk0
        omega
      rw [hk2] at hk
      cases hk
      exact hgrid
  have hD1 : va_D A (ws ++ [(T.heap.size, .inl (Y.2.2.1.2, 100, .inr (.inr (.inr (.inr (fun j => if j < 100 then some (T.heap.size + 1 + j) else none))))))]) := by
    rw [va_D_iff] at hD ⊢
    obtain ⟨d1, d2⟩ := hD
    refine ⟨?_, fun q hq => ?_⟩
    · rw [List.map_append]
      refine List.nodup_append.mpr ⟨d1, by simp, fun a ha b hb' hab => ?_⟩
      obtain ⟨q, hq1, hq2⟩ := List.mem_map.mp ha
      obtain ⟨i, hi⟩ := List.mem_iff_getElem?.mp hq1
      have hl := (hP i q hi).lt
      have hb2 : b = T.heap.size := by simpa using hb'
      omega
    · rcases List.mem_append.mp hq with h | h
      · exact d2 q h
      · rw [List.mem_singleton.mp h]
        exact hA _ hS.1
  have hS1 : va_S A H0 (mnSt (T.setVm vm₁) Y.2.2.1.2 Y.1 100).heap (locs ++ (List.range 100).map fun j => ⟨T.heap.size, j⟩) := by
    refine ⟨by rw [g1]; exact Nat.le_trans hS.1 (by show T.heap.size ≤ T.heap.size + 1 + 100; omega), fun q h1 h2 => (g5 q (Nat.lt_of_lt_of_le h1 hS.1)).trans (hS.2.1 q h1 h2), fun q hq => ?_⟩
    rcases List.mem_append.mp hq with h | h
    · exact hS.2.2 q h
    · obtain ⟨j, -, rfl⟩ := List.mem_map.mp h
      exact hA _ hS.1
  obtain ⟨t', a1, b1⟩ := kk T.heap.size _ _ _ hP1 hD1 hS1 (mnSt (T.setVm vm₁) Y.2.2.1.2 Y.1 100) rfl (by rw [show cells + 101 = cells + 1 + 100 by omega, show slots + 300 = slots + 100 + 2 * 100 by omega]; exact XF)
  refine ⟨t', ?_, b1⟩
  have hl : ¬ 100 > e.platform.arrayLengthLimit := by rw [Launch.admits_arrayLengthLimit X.admits]; omega
  have hh : ¬ 400 > e.platform.maxHeapBytes := by rw [Launch.admits_maxHeapBytes X.admits]; omega
  jvm_step X.here [hC.1, hb, hdg]
  simp only [multianewarray.sem, wp_bind', W.resolveClassAt_links (State.method?_setTop (F0 m pc ls (.int 2 :: .int 100 :: rest)) X.here.top) hg₁]
  rw [W.popN, if_neg (by decide)]
  refine ⟨F0 m pc ls (.int 2 :: .int 100 :: rest), State.topJava?_setTop' (s := T.setVm vm₁) (F0 m pc ls (.int 2 :: .int 100 :: rest)) X.here.top, [.int 100, .int 2], rest, rfl, rfl, ?_⟩
  simp only [List.mapM_cons, List.mapM_nil, wp_bind', wp_pure']
  refine mn_wp (k := kA₁) (kc := kI₁) (comp := Y.1) (cc := cI) hkA₁ hkindA₁ hkI₁ hkindI₁ hl hh (by show T.heap.size + 101 ≤ _; omega) (by show T.slotsUsed + 300 ≤ _; omega) (fun d' acts' => ?_)
  have eS : ((T.setTop (F0 m pc ls (.int 2 :: .int 100 :: rest))).setVm vm₁).setTop { F0 m pc ls (.int 2 :: .int 100 :: rest) with stack := rest } = (T.setVm vm₁).setTop { F0 m pc ls (.int 2 :: .int 100 :: rest) with stack := rest } := by
    show ((T.setVm vm₁).setTop _).setTop _ = _
    rw [State.setTop_setTop]
  rw [eS, mnSt_top]
  simp only [wp_bind', W.mark, W.pushRef, State.topJava?_setTop' _ XF.here.top, Option.some.injEq, exists_eq_left', State.setTop_setTop, State.heap_setTop]
  intro acts
  simp [jvm, XF.here.top]
  exact a1
/-- a row of int[][] is read -/
theorem n_aald {a n q0 r : Nat} {f : Nat → Option Nat} {i : Int32} (hC : Ctx p s m args own D Y) (hb : c.code = cc) (hP : va_P D vwCl ws H) (ha : ws[q0]? = some (a, .inl (Y.2.2.1.2, n, .inr (.inr (.inr (.inr f)))))) (hin : vp_in i n) (hr : f i.toNatClampNeg = some r) (hdg : decode cc pc = .ok (.aaload, 1))
    (kk : W p l e R s m args below meth c H locs cells slots Q (F0 m (pc + 1) ls (.ref r :: rest))) : W p l e R s m args below meth c H locs cells slots Q (F0 m pc ls (.int i :: .ref a :: rest)) := by
  have hlt : i.toNatClampNeg < n := Nat.not_le.mp fun q => hin (Or.inr q)
  refine W.aald (v := va_rf (f i.toNatClampNeg)) (ty := .array .int) hC.1 hb (hP q0 _ ha) ((hC.2.2.2.1.2 4 _ rfl).1 n (fun j => va_rf (f j))) rfl (fun q => by cases q) (by show ¬ (i < 0 ∨ (arrV _ _ _).slots.size ≤ _); rw [arrV_size]; exact hin) (by show (arrV _ _ _).slots[_]? = _; rw [arrV_read _ _ hlt]) rfl rfl hdg ?_
  rw [hr]
  exact kk
/-- a row is stored into an int[][] -/
theorem n_aast {a n q0 qk v k2 : Nat} {f : Nat → Option Nat} {x : Nat → Int32} {i : Int32} (hC : Ctx p s m args own D Y) (hb : c.code = cc) (hP : va_P D vwCl ws H) (hD : va_D A ws) (hS : va_S A H0 H locs) (ha : ws[q0]? = some (a, .inl (Y.2.2.1.2, n, .inr (.inr (.inr (.inr f)))))) (hv : ws[qk]? = some (v, .inl (Y.1, k2, .inl x))) (hin : vp_in i n) (hdg : decode cc pc = .ok (.aastore, 1))
    (kk : ∀ (H1 : Heap) (locs1 : List Loc), va_P D vwCl (ws.set q0 (a, .inl (Y.2.2.1.2, n, .inr (.inr (.inr (.inr (va_up f i.toNatClampNeg (some v)))))))) H1 → va_D A (ws.set q0 (a, .inl (Y.2.2.1.2, n, .inr (.inr (.inr (.inr (va_up f i.toNatClampNeg (some v)))))))) → va_S A H0 H1 locs1 → W p l e R s m args below meth c H1 locs1 cells slots Q (F0 m (pc + 1) ls rest)) : W p l e R s m args below meth c H locs cells slots Q (F0 m pc ls (.ref v :: .int i :: .ref a :: rest)) := by
  have hlt : i.toNatClampNeg < n := Nat.not_le.mp fun q => hin (Or.inr q)
  have h0 : ¬ i < 0 := fun q => hin (Or.inl q)
  obtain ⟨kA, kI, cI, hkA, hkindA, hkI, hkindI, hnm⟩ := aoa_cls hC
  have hself : s.vm.assignable Y.1 Y.1 = true := by
    show s.vm.assignableAux (255 + 1) Y.1 Y.1 = true
    rw [Vm.assignableAux]
    simp only [beq_self_eq_true, Bool.true_or]
  refine W.aast hC.1 hb (hP q0 _ ha) (fun q h => by cases h) (fun h => by cases h) hkA hkindA rfl hkI ⟨h0, by show _ < (arrV _ _ _).slots.size; rw [arrV_size]; exact hlt⟩ (hP qk _ hv) (fun q h => by cases h) hkI hself rfl rfl hdg fun H1 e z oq => ?_
  refine kk H1 _ (hP.set hD ha ?_ oq) (hD.set ha) (hS.put z oq (hD.2 q0 _ ha))
  show H1[a]? = some (vp_cell _ _)
  rw [e]
  rw [vp_cell_q, vp_cell_q, arrV_store]
  congr 2
  funext q
  by_cases hq : q = i.toNatClampNeg
  · subst hq
    simp [updV, va_up, va_rf]
  · simp [updV, va_up, hq]
end MN
