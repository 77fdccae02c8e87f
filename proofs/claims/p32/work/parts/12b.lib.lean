section LIB
variable {p : Program} {l : Launch} {e : Env} {R : Room} {s : State} {m : MethodId} {args : Array Value} {below : List Frame} {meth : Method} {c : Code} {H : Heap} {locs : List Loc} {cells slots : Nat} {Q : State → Prop}
variable {D : va_G} {Y : CYs} {E : Nat → Nat} {σ : Sta} {L : List Dsc} {own : String} {cc : ByteArray} {pc nL index : Nat} {rc : Option FieldType} {ls : Array Slot} {rest : List Value} {lv : List (Nat × Value)}
theorem x_copyI {q0 q1 n0 n1 : Nat} {z0 z1 : List (Nat × Nat)} {sp dp n : Int32} (hL : Lok L) (hF : Fr p s m args meth c own cc nL rc D Y E L) (hl : lv_has ls nL lv) (hP : va_P D vwCl (wd Y E σ 0 L) H) (hS : va_S (AF E L.length s.heap.size) s.heap H locs)
    (hlink : Cond.methodLink own index arraycopyName ∈ gW) (hnat : Cond.native arraycopyName ∈ gW) (hstat : Cond.static arraycopyName ∈ gW) (hini : Cond.initialized "java/lang/System" ∈ gW) (h0 : L[q0]? = some (1, n0, z0)) (h1 : L[q1]? = some (1, n1, z1))
    (hg : ¬ (sp < 0 ∨ dp < 0 ∨ n < 0 ∨ n0 < sp.toNatClampNeg + n.toNatClampNeg ∨ n1 < dp.toNatClampNeg + n.toNatClampNeg)) (hframes : 1 ≤ R.frames) (hlocals : (rest.map fun v => v.category).sum + (nativeFrameWords "java/lang/System" "arraycopy" 5 + 11) ≤ R.locals) (hdg : decode cc pc = .ok (.invokestatic index, 3))
    (kk : ∀ (H1 : Heap) (locs1 : List Loc) (τ : Sta), τ = sA σ q1 (va_cpy (gA σ q0) (gA σ q1) sp.toNatClampNeg dp.toNatClampNeg n.toNatClampNeg) → va_P D vwCl (wd Y E τ 0 L) H1 → va_S (AF E L.length s.heap.size) s.heap H1 locs1 → W p l e R s m args below meth c H1 locs1 cells slots Q (F0 m (pc + 3) ls rest)) : W p l e R s m args below meth c H locs cells slots Q (F0 m pc ls (.int n :: .int dp :: .ref (E q1) :: .int sp :: .ref (E q0) :: rest)) := by
  obtain ⟨hC, hb, hml, hr, hlk, hD, hSW⟩ := hF
  simp only [not_or, Nat.not_lt] at hg
  obtain ⟨g1, g2, g3, g4, g5⟩ := hg
  refine va_copyi hC.1 hb (by rw [hml]; exact hl.1.symm) hC.2.2.1 (hC.2.1 _ hlink) (hC.2.1 _ hnat) (hC.2.1 _ hstat) (hC.2.1 _ hini) hC.2.2.2.1 hP (hD σ) hS q0 q1 0 0 (wd_at h0) (wd_at h1) rfl rfl rfl g1 g2 g3 g4 g5 (fun _ _ => rfl) hframes hlocals hdg (fun H1 locs1 k1 _ k3 => ?_)
  rw [wd_sA hL h1] at k1
  exact kk H1 locs1 _ rfl k1 k3
theorem x_copyJ {q0 q1 n0 n1 : Nat} {z0 z1 : List (Nat × Nat)} {sp dp n : Int32} (hL : Lok L) (hF : Fr p s m args meth c own cc nL rc D Y E L) (hl : lv_has ls nL lv) (hP : va_P D vwCl (wd Y E σ 0 L) H) (hS : va_S (AF E L.length s.heap.size) s.heap H locs)
    (hlink : Cond.methodLink own index arraycopyName ∈ gW) (hnat : Cond.native arraycopyName ∈ gW) (hstat : Cond.static arraycopyName ∈ gW) (hini : Cond.initialized "java/lang/System" ∈ gW) (h0 : L[q0]? = some (2, n0, z0)) (h1 : L[q1]? = some (2, n1, z1))
    (hg : ¬ (sp < 0 ∨ dp < 0 ∨ n < 0 ∨ n0 < sp.toNatClampNeg + n.toNatClampNeg ∨ n1 < dp.toNatClampNeg + n.toNatClampNeg)) (hframes : 1 ≤ R.frames) (hlocals : (rest.map fun v => v.category).sum + (nativeFrameWords "java/lang/System" "arraycopy" 5 + 11) ≤ R.locals) (hdg : decode cc pc = .ok (.invokestatic index, 3))
    (kk : ∀ (H1 : Heap) (locs1 : List Loc) (τ : Sta), τ = sJ σ q1 (va_cpy (gJ σ q0) (gJ σ q1) sp.toNatClampNeg dp.toNatClampNeg n.toNatClampNeg) → va_P D vwCl (wd Y E τ 0 L) H1 → va_S (AF E L.length s.heap.size) s.heap H1 locs1 → W p l e R s m args below meth c H1 locs1 cells slots Q (F0 m (pc + 3) ls rest)) : W p l e R s m args below meth c H locs cells slots Q (F0 m pc ls (.int n :: .int dp :: .ref (E q1) :: .int sp :: .ref (E q0) :: rest)) := by
  obtain ⟨hC, hb, hml, hr, hlk, hD, hSW⟩ := hF
  simp only [not_or, Nat.not_lt] at hg
  obtain ⟨g1, g2, g3, g4, g5⟩ := hg
  refine va_copyl hC.1 hb (by rw [hml]; exact hl.1.symm) hC.2.2.1 (hC.2.1 _ hlink) (hC.2.1 _ hnat) (hC.2.1 _ hstat) (hC.2.1 _ hini) hC.2.2.2.1 hP (hD σ) hS q0 q1 1 1 (wd_at h0) (wd_at h1) rfl rfl rfl g1 g2 g3 g4 g5 (fun _ _ => rfl) hframes hlocals hdg (fun H1 locs1 k1 _ k3 => ?_)
  rw [wd_sJ hL h1] at k1
  exact kk H1 locs1 _ rfl k1 k3
theorem x_SV {σ2 : Sta} {bytes : ByteArray} {maxL n : Nat} {ret : Option FieldType} {y : MethodName} {rm : Room} {As st : List Value} (hF : Fr p s m args meth c own cc nL rc D Y E L) (hl : lv_has ls nL lv) (hP : va_P D vwCl (wd Y E σ 0 L) H) (hS : va_S (AF E L.length s.heap.size) s.heap H locs)
    (hM : MV l y (Cond.code y bytes maxL ret :: gW) rm L Y D E As σ ((), σ2)) (cw : CallB R s args own index y bytes maxL ret (Cond.code y bytes maxL ret :: gW) rm 0 0 n ∧ (Cond.static y).before args s = true)
    (hn : As.length = n) (hst : st = As.reverse ++ rest) (hcat : (rest.map fun v => v.category).sum ≤ 8) (hdg : decode cc pc = .ok (.invokestatic index, 3)) (hf : cells ≤ R.cells ∧ slots ≤ R.slots)
    (kk : ∀ (H1 : Heap) (locs1 : List Loc), va_P D vwCl (wd Y E σ2 0 L) H1 → va_S (AF E L.length s.heap.size) s.heap H1 locs1 → W p l e R s m args below meth c H1 locs1 cells slots Q (F0 m (pc + 3) ls rest)) : W p l e R s m args below meth c H locs cells slots Q (F0 m pc ls st) := by
  obtain ⟨hC, hb, hml, hr, hlk, hD, hSW⟩ := hF
  subst hst
  refine va_callv (va_runS (As := As) (rest := rest) ⟨hC.1, hb, hml, hC.2.2.1, hC.2.1⟩ (hM H.size) cw ⟨PcC_blind, pre_of hC hP hD hSW hS⟩ rfl hn hl.1 rfl (lv_room (ls := ls) hcat) hdg hf) hS (fun q _ h => AF_le hS.1 h) (fun q h => AF_le hS.1 h) (fun u t H1 locs1 ht hvm hw hB hz hk hS1 => ?_)
  subst hw
  exact kk H1 locs1 (behindC (H := H) hC ht hB) hS1
end LIB
