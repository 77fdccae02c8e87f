/-! Calls over a list of cells: what is called has the list's tail. -/
theorem va_P_perm {D : va_G} {cl : List vw_C} {ws ws' : va_W} {H : Heap} (h : va_P D cl ws H) (p : ws.Perm ws') : va_P D cl ws' H := fun k q hk => by
  obtain ⟨i, hi⟩ := List.mem_iff_getElem?.mp (p.mem_iff.mpr (List.mem_of_getElem? hk))
  exact h i q hi
theorem va_D_iff {A : Nat → Prop} {ws : va_W} : va_D A ws ↔ (ws.map Prod.fst).Nodup ∧ ∀ q ∈ ws, A q.1 := by
  constructor
  · intro h
    refine ⟨?_, fun q hq => ?_⟩
    · unfold List.Nodup
      rw [List.pairwise_map, List.pairwise_iff_getElem]
      intro i j hi hj hij e
      have := h.1 i j _ _ (List.getElem?_eq_getElem hi) (List.getElem?_eq_getElem hj) e
      omega
    · obtain ⟨i, hi⟩ := List.mem_iff_getElem?.mp hq
      exact h.2 i q hi
  · rintro ⟨h1, h2⟩
    unfold List.Nodup at h1
    rw [List.pairwise_map, List.pairwise_iff_getElem] at h1
    refine ⟨fun i j p q hp hq e => ?_, fun k q hk => h2 q (List.mem_of_getElem? hk)⟩
    obtain ⟨hi, rfl⟩ := List.getElem?_eq_some_iff.mp hp
    obtain ⟨hj, rfl⟩ := List.getElem?_eq_some_iff.mp hq
    rcases Nat.lt_trichotomy i j with c | c | c
    · exact absurd e (h1 i j hi hj c)
    · exact c
    · exact absurd e.symm (h1 j i hj hi c)
theorem va_D_perm {A : Nat → Prop} {ws ws' : va_W} (h : va_D A ws) (p : ws.Perm ws') : va_D A ws' := by
  obtain ⟨h1, h2⟩ := va_D_iff.mp h
  exact va_D_iff.mpr ⟨(p.map Prod.fst).nodup_iff.mp h1, fun q hq => h2 q (p.mem_iff.mpr hq)⟩
theorem tl_map {α : Type} (Rs C0 : List α) : ((List.range C0.length).map (· + Rs.length)).map (fun i => (Rs ++ C0)[i]?) = C0.map some := by
  apply List.ext_getElem
  · simp
  · intro i h1 h2
    have h3 : i < C0.length := by simpa using h1
    simp [List.getElem?_append_right, h3]
theorem tl_nd {α : Type} (Rs C0 : List α) : va_nd ((List.range C0.length).map (· + Rs.length)) = true := by
  refine nd_range _ ?_
  unfold List.Nodup
  rw [List.pairwise_map]
  exact (List.nodup_range (n := C0.length)).imp (fun h e => h (by omega))
theorem AF_wd {Y : CYs} {E : Nat → Nat} {σ : Sta} {L : List Dsc} {sz : Nat} : AF E L.length sz = va_A (wd Y E σ 0 L) sz := by
  funext q
  refine propext ⟨fun h1 => ?_, fun h1 => ?_⟩
  · rcases h1 with ⟨k, hk, rfl⟩ | h1
    · have h2 := wd_get (Y := Y) (E := E) (σ := σ) (q := 0) (List.getElem?_eq_getElem hk)
      rw [Nat.zero_add] at h2
      exact Or.inl ⟨k, _, h2⟩
    · exact Or.inr h1
  · rcases h1 with ⟨k, e, h1⟩ | h1
    · by_cases hk : k < L.length
      · have h2 := wd_get (Y := Y) (E := E) (σ := σ) (q := 0) (List.getElem?_eq_getElem hk)
        rw [h1, Nat.zero_add] at h2
        exact Or.inl ⟨k, hk, congrArg Prod.fst (Option.some.inj h2)⟩
      · rw [wd_none (List.getElem?_eq_none (Nat.le_of_not_lt hk))] at h1
        cases h1
    · exact Or.inr h1
def AtW (Y : CYs) (D : va_G) (A : Nat → Prop) (W1 : va_W) (_ : Unit) (t : State) : Prop :=
  va_P D vwCl W1 t.heap ∧ va_K D vwCl (tysY Y) t ∧ va_D A W1
def QNi (W0 W1 : va_W) (Y : CYs) (D : va_G) (sz : Nat) (r : Int32) : Array Value → State → Outcome → State → Prop :=
  va_Qi (fun x (_ : Unit) => x = r) (AtW Y D (va_A W0 sz) W1) (va_A W0 sz)
section LW
variable {p : Program} {l : Launch} {e : Env} {R : Room} {s : State} {m : MethodId} {args : Array Value} {below : List Frame} {meth : Method} {c : Code} {H : Heap} {locs : List Loc} {cells slots mc ms : Nat} {Q : State → Prop}
variable {D : va_G} {Y : CYs} {E : Nat → Nat} {σ σ2 : Sta} {L : List Dsc} {own C : String} {cc bytes : ByteArray} {pc nL maxL n index : Nat} {ret rc : Option FieldType} {ls : Array Slot} {st rest As : List Value} {y : MethodName} {rm : Room} {A : Nat → Prop} {Rs C0 C1 : va_W} {hh : List (Nat × Nat × Nat × Nat)}
theorem tl_free (hD : va_D A (Rs ++ C0)) (hS : va_S A s.heap H locs) (hA : ∀ q, s.heap.size ≤ q → A q) : ∀ q, va_A C0 H.size q → A q := va_free (wc := C0) hD hS hA _ (tl_map Rs C0)
theorem tl_join {H1 : Heap} (hP : va_P D vwCl (Rs ++ C0) H) (hD : va_D A (Rs ++ C0)) (hS : va_S A s.heap H locs) (hA : ∀ q, s.heap.size ≤ q → A q) (hk : ∀ q : Nat, q < H.size → ¬ va_A C0 H.size q → H1[q]? = H[q]?) (hP1 : va_P D vwCl C1 H1) (hD1 : va_D (va_A C0 H.size) C1) : va_P D vwCl (Rs ++ C1) H1 ∧ va_D A (Rs ++ C1) :=
  va_join (wr := Rs) (w1 := C1) hP hD ((List.range C0.length).map (· + Rs.length)) (List.range Rs.length) (tl_map Rs C0) (map_range Rs C0) (nd_range _ List.nodup_range) (fun i hi h => by
    have h1 := List.mem_range.mp hi
    obtain ⟨j, -, h2⟩ := List.mem_map.mp h
    have h3 : j + Rs.length = i := h2
    omega) hk (tl_free hD hS hA) hP1 hD1
theorem tl_P (hP : va_P D vwCl (Rs ++ C0) H) : va_P D vwCl C0 H := hP.sub _ (fm_map (tl_map Rs C0))
theorem tl_D (hD : va_D A (Rs ++ C0)) : va_D A C0 := hD.sub _ (tl_nd Rs C0) (tl_map Rs C0)
theorem tl_pre (hC : Ctx p s m args own D Y) (hSW : SW A s s.heap) (hP : va_P D vwCl (Rs ++ C0) H) (hD : va_D A (Rs ++ C0)) (hS : va_S A s.heap H locs) (hA : ∀ q, s.heap.size ≤ q → A q) : ∀ U : State, U.heap = H → s.WarmedH U.vm → PcN C0 Y D H.size As As.toArray U := fun U hU hW =>
  ⟨rfl, by rw [hU], by rw [hU]; exact tl_P hP, va_K.moved hW.alike hC.2.2.2.1, (tl_D hD).weaken (fun _ _ _ _ => trivial), NW.warm hW hC.2.2.2.2, by rw [hU]; exact ((hSW.kept hS.2.1).warm hW).narrow (fun x hx => tl_free hD hS hA x hx)⟩
theorem PcC_N {sz : Nat} : PcC L Y D E σ sz As = PcN (wd Y E σ 0 L) Y D sz As := by
  unfold PcC PcN
  rw [AF_wd (Y := Y) (σ := σ)]
theorem tl_back {H1 : Heap} {t : State} (hP : va_P D vwCl (Rs ++ wd Y E σ 0 L) H) (hD : va_D A (Rs ++ wd Y E σ 0 L)) (hS : va_S A s.heap H locs) (hA : ∀ q, s.heap.size ≤ q → A q) (ht : t.heap = H1) (hB : AtC L Y D E (AF E L.length H.size) σ2 t) (hk : ∀ q : Nat, q < H.size → ¬ AF E L.length H.size q → H1[q]? = H[q]?) : va_P D vwCl (Rs ++ wd Y E σ2 0 L) H1 ∧ va_D A (Rs ++ wd Y E σ2 0 L) := by
  obtain ⟨hP1, -, hD1⟩ := hB
  rw [ht] at hP1
  rw [AF_wd (Y := Y) (σ := σ)] at hD1
  exact tl_join hP hD hS hA (fun q h1 h2 => hk q h1 (by rw [AF_wd (Y := Y) (σ := σ)]; exact h2)) hP1 hD1
theorem tl_AF (hD : va_D A (Rs ++ wd Y E σ 0 L)) (hS : va_S A s.heap H locs) (hA : ∀ q, s.heap.size ≤ q → A q) : ∀ q, AF E L.length H.size q → A q := fun q h => tl_free hD hS hA q (by rw [← AF_wd (Y := Y) (σ := σ)]; exact h)
theorem n_VI {q ci N : Nat} {T : u_T} {fs : List (Nat × Nat)} {r : Int32} (hC : Ctx p s m args own D Y) (hb : c.code = cc) (hml : c.maxLocals = nL) (hls : ls.size = nL) (hSW : SW A s s.heap) (hP : va_P D vwCl (Rs ++ wd Y E σ 0 L) H) (hD : va_D A (Rs ++ wd Y E σ 0 L)) (hS : va_S A s.heap H locs) (hA : ∀ q, s.heap.size ≤ q → A q)
    (hM : ∀ sz, Met l y (Cond.code y bytes maxL ret :: gW) rm (PcC L Y D E σ sz (.ref (E q) :: As)) (QI L Y D E sz (r, σ2)) mc ms (AF E L.length sz)) (cw : CallW R s args own C index y bytes maxL ret (Cond.code y bytes maxL ret :: gW) rm mc ms n)
    (hq : L[q]? = some (0, ci, fs)) (hc : vwCl[ci]? = some (C, T, N)) (hn : As.length = n) (hst : st = As.reverse ++ .ref (E q) :: rest) (hcat : (rest.map fun v => v.category).sum ≤ 8) (hdg : decode cc pc = .ok (.invokevirtual index, 3)) (hf : cells + mc ≤ R.cells ∧ slots + ms ≤ R.slots)
    (kk : ∀ (H1 : Heap) (locs1 : List Loc), va_P D vwCl (Rs ++ wd Y E σ2 0 L) H1 → va_D A (Rs ++ wd Y E σ2 0 L) → va_S A s.heap H1 locs1 → W p l e R s m args below meth c H1 locs1 (cells + mc) (slots + ms) Q (F0 m (pc + 3) ls (.int r :: rest))) : W p l e R s m args below meth c H locs cells slots Q (F0 m pc ls st) := by
  subst hst
  refine va_calli (va_runV (As := As) (rest := rest) ⟨hC.1, hb, hml, hC.2.2.1, hC.2.1⟩ (hM H.size) cw ⟨PcC_blind, va_recv hC.2.2.2.1 (tl_P hP) hc (wd_at hq), by rw [PcC_N]; exact tl_pre hC hSW hP hD hS hA⟩ rfl hn hls rfl (lv_room (ls := ls) hcat) hdg hf) hS (fun q _ h => tl_AF hD hS hA q h) (fun q h => tl_AF hD hS hA q h) (fun r1 u t H1 locs1 ht hvm hw hB hz hk hS1 => ?_)
  obtain ⟨rfl, rfl⟩ := hw
  obtain ⟨hP1, hD1⟩ := tl_back hP hD hS hA ht hB hk
  exact kk H1 locs1 hP1 hD1 hS1
theorem n_VL {q ci N : Nat} {T : u_T} {fs : List (Nat × Nat)} {r : Int64} (hC : Ctx p s m args own D Y) (hb : c.code = cc) (hml : c.maxLocals = nL) (hls : ls.size = nL) (hSW : SW A s s.heap) (hP : va_P D vwCl (Rs ++ wd Y E σ 0 L) H) (hD : va_D A (Rs ++ wd Y E σ 0 L)) (hS : va_S A s.heap H locs) (hA : ∀ q, s.heap.size ≤ q → A q)
    (hM : ∀ sz, Met l y (Cond.code y bytes maxL ret :: gW) rm (PcC L Y D E σ sz (.ref (E q) :: As)) (QL L Y D E sz (r, σ2)) mc ms (AF E L.length sz)) (cw : CallW R s args own C index y bytes maxL ret (Cond.code y bytes maxL ret :: gW) rm mc ms n)
    (hq : L[q]? = some (0, ci, fs)) (hc : vwCl[ci]? = some (C, T, N)) (hn : As.length = n) (hst : st = As.reverse ++ .ref (E q) :: rest) (hcat : (rest.map fun v => v.category).sum ≤ 8) (hdg : decode cc pc = .ok (.invokevirtual index, 3)) (hf : cells + mc ≤ R.cells ∧ slots + ms ≤ R.slots)
    (kk : ∀ (H1 : Heap) (locs1 : List Loc), va_P D vwCl (Rs ++ wd Y E σ2 0 L) H1 → va_D A (Rs ++ wd Y E σ2 0 L) → va_S A s.heap H1 locs1 → W p l e R s m args below meth c H1 locs1 (cells + mc) (slots + ms) Q (F0 m (pc + 3) ls (.long r :: rest))) : W p l e R s m args below meth c H locs cells slots Q (F0 m pc ls st) := by
  subst hst
  refine va_calll (va_runV (As := As) (rest := rest) ⟨hC.1, hb, hml, hC.2.2.1, hC.2.1⟩ (hM H.size) cw ⟨PcC_blind, va_recv hC.2.2.2.1 (tl_P hP) hc (wd_at hq), by rw [PcC_N]; exact tl_pre hC hSW hP hD hS hA⟩ rfl hn hls rfl (lv_room (ls := ls) hcat) hdg hf) hS (fun q _ h => tl_AF hD hS hA q h) (fun q h => tl_AF hD hS hA q h) (fun r1 u t H1 locs1 ht hvm hw hB hz hk hS1 => ?_)
  obtain ⟨rfl, rfl⟩ := hw
  obtain ⟨hP1, hD1⟩ := tl_back hP hD hS hA ht hB hk
  exact kk H1 locs1 hP1 hD1 hS1
end LW
