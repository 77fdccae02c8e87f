abbrev tysY (Y : CYs) : List (ClassId × FieldType) := [(Y.1, .int), (Y.2.1, .long), (Y.2.2.1.1, .byte), (Y.2.2.2, .object "MarkovBench$Strategy"), (Y.2.2.1.2, .array .int)]
def isNest : Cond → Bool
  | .fieldLinkNest _ _ _ _ _ _ => true
  | .methodLinkNest _ _ _ _ => true
  | .castable _ _ => true
  | _ => false
/-- arrays of int[] have been made before -/
def aoa (U : State) : Prop := (Cond.arrayOver (.array .int)).before #[] U = true
theorem aoa.same {s U : State} (hvm : s.vm = U.vm) (h : aoa s) : aoa U := by
  unfold aoa Cond.before Cond.holds at *
  simp only [Cond.value] at *
  rw [← hvm]
  exact h
theorem aoa.warm {s U : State} (hW : s.WarmedH U.vm) (h : aoa s) : aoa U := by
  have h1 : aoa (s.setVm U.vm) := by
    unfold aoa
    rw [Cond.arrayOver_setVmC hW.alike]
    exact h
  exact aoa.same rfl h1
def NW (U : State) : Prop := (∀ w ∈ nws, va_Nw w U) ∧ aoa U
theorem nws_nest : nws.all isNest = true := by decide +kernel
theorem nest_on {w : Cond} (h : isNest w = true) : w.onTables = true := by
  cases w <;> first | rfl | (simp [isNest] at h)
theorem nest_warm {s U : State} {w : Cond} (hW : s.WarmedH U.vm) (h1 : isNest w = true) (h2 : va_Nw w s) : va_Nw w U := by
  cases w <;> first | exact va_Nw.warmF hW h2 | exact va_Nw.warmM hW h2 | exact va_Nw.warmC hW h2 | (simp [isNest] at h1)
theorem NW.warm {s U : State} (hW : s.WarmedH U.vm) (h : NW s) : NW U :=
  ⟨fun w hw => nest_warm hW (List.all_eq_true.mp nws_nest w hw) (h.1 w hw), h.2.warm hW⟩
theorem NW.same {s U : State} (hvm : s.vm = U.vm) (h : NW s) : NW U :=
  ⟨fun w hw => va_Nw.same (nest_on (List.all_eq_true.mp nws_nest w hw)) hvm (h.1 w hw), h.2.same hvm⟩
def Ctx (p : Program) (s : State) (m : MethodId) (args : Array Value) (own : String) (D : va_G) (Y : CYs) : Prop :=
  p.tables.exec = Jvm.exec ∧ (∀ w ∈ gW, w.before args s = true) ∧ s.vm.findClass own = some m.cls ∧ va_K D vwCl (tysY Y) s ∧ NW s
theorem gi_one {a b : Cond} (h : b ∈ gW) : GoodIn (a :: gW) (b :: gW) := fun w hw => by
  rcases List.mem_cons.mp hw with e | h1
  · subst e
    exact ⟨List.mem_cons_of_mem _ h, good_of_word (gW_good _ h)⟩
  · exact ⟨List.mem_cons_of_mem _ h1, good_of_word (gW_good _ h1)⟩
theorem gi_law {b : Cond} (h : b ∈ gW) : GoodIn gW (b :: gW) := fun w hw => by
  rcases List.mem_cons.mp hw with e | h1
  · subst e
    exact ⟨h, good_of_word (gW_good _ h)⟩
  · exact ⟨h1, good_of_word (gW_good _ h1)⟩
section RWS
variable {p : Program} {l : Launch} {e : Env} {R : Room} {s : State} {m : MethodId} {args : Array Value} {below : List Frame} {meth : Method} {c : Code} {H : Heap} {locs : List Loc} {cells slots : Nat} {Q : State → Prop}
variable {D : va_G} {Y : CYs} {E : Nat → Nat} {σ : Sta} {L : List Dsc} {own : String} {cc : ByteArray} {pc : Nat} {ls : Array Slot} {rest : List Value} {A : Nat → Prop} {H0 : Heap}
theorem wd_at {q : Nat} {d : Dsc} (hq : L[q]? = some d) : (wd Y E σ 0 L)[q]? = some (E q, cv Y E σ q d) := by
  have h := wd_get (Y := Y) (E := E) (σ := σ) (q := 0) hq
  rw [Nat.zero_add] at h
  exact h
theorem x_getI {ref C : String} {T : u_T} {N ci index q z : Nat} {fs : List (Nat × Nat)} (hC : Ctx p s m args own D Y) (hb : c.code = cc) (hP : va_P D vwCl (wd Y E σ 0 L) H) (hin : ∀ w ∈ u_ws C T N, w ∈ gW) (hq : L[q]? = some (0, ci, fs)) (hc : vwCl[ci]? = some (C, T, N)) (i : Nat) (hi : i < N) (hf : fs[i]? = some (0, z)) (hlink : Cond.fieldLink own index ref (T i).2.1 (T i).2.2.1 ∈ gW) (hsame : (T i).1 = ref) (hdg : decode cc pc = .ok (.getfield index, 3))
    (kk : W p l e R s m args below meth c H locs cells slots Q (F0 m (pc + 3) ls (.int (gI σ (64 * q + i)) :: rest))) : W p l e R s m args below meth c H locs cells slots Q (F0 m pc ls (.ref (E q) :: rest)) :=
  va_get hC.1 hb hC.2.1 hin hC.2.2.1 hC.2.2.2.1 hP q (wd_at hq) hc i hi (hC.2.1 _ hlink) (fun x h => by rw [← hsame]; exact h) (fvs_get hf) hdg kk
theorem x_getL {ref C : String} {T : u_T} {N ci index q z : Nat} {fs : List (Nat × Nat)} (hC : Ctx p s m args own D Y) (hb : c.code = cc) (hP : va_P D vwCl (wd Y E σ 0 L) H) (hin : ∀ w ∈ u_ws C T N, w ∈ gW) (hq : L[q]? = some (0, ci, fs)) (hc : vwCl[ci]? = some (C, T, N)) (i : Nat) (hi : i < N) (hf : fs[i]? = some (1, z)) (hlink : Cond.fieldLink own index ref (T i).2.1 (T i).2.2.1 ∈ gW) (hsame : (T i).1 = ref) (hdg : decode cc pc = .ok (.getfield index, 3))
    (kk : W p l e R s m args below meth c H locs cells slots Q (F0 m (pc + 3) ls (.long (gL σ (64 * q + i)) :: rest))) : W p l e R s m args below meth c H locs cells slots Q (F0 m pc ls (.ref (E q) :: rest)) :=
  va_get hC.1 hb hC.2.1 hin hC.2.2.1 hC.2.2.2.1 hP q (wd_at hq) hc i hi (hC.2.1 _ hlink) (fun x h => by rw [← hsame]; exact h) (fvs_get hf) hdg kk
theorem x_getR {ref C : String} {T : u_T} {N ci index q z : Nat} {fs : List (Nat × Nat)} (hC : Ctx p s m args own D Y) (hb : c.code = cc) (hP : va_P D vwCl (wd Y E σ 0 L) H) (hin : ∀ w ∈ u_ws C T N, w ∈ gW) (hq : L[q]? = some (0, ci, fs)) (hc : vwCl[ci]? = some (C, T, N)) (i : Nat) (hi : i < N) (hf : fs[i]? = some (2, z)) (hlink : Cond.fieldLink own index ref (T i).2.1 (T i).2.2.1 ∈ gW) (hsame : (T i).1 = ref) (hdg : decode cc pc = .ok (.getfield index, 3))
    (kk : W p l e R s m args below meth c H locs cells slots Q (F0 m (pc + 3) ls (.ref (E z) :: rest))) : W p l e R s m args below meth c H locs cells slots Q (F0 m pc ls (.ref (E q) :: rest)) :=
  va_get hC.1 hb hC.2.1 hin hC.2.2.1 hC.2.2.2.1 hP q (wd_at hq) hc i hi (hC.2.1 _ hlink) (fun x h => by rw [← hsame]; exact h) (fvs_get hf) hdg kk
theorem x_getIN {ref C host : String} {T : u_T} {N ci index q z : Nat} {fs : List (Nat × Nat)} (hC : Ctx p s m args own D Y) (hb : c.code = cc) (hP : va_P D vwCl (wd Y E σ 0 L) H) (hin : ∀ w ∈ u_ws C T N, w ∈ gW) (hq : L[q]? = some (0, ci, fs)) (hc : vwCl[ci]? = some (C, T, N)) (i : Nat) (hi : i < N) (hf : fs[i]? = some (0, z)) (hlink : Cond.fieldLinkNest own index ref (T i).2.1 (T i).2.2.1 host ∈ nws) (hsame : (T i).1 = ref) (hdg : decode cc pc = .ok (.getfield index, 3))
    (kk : W p l e R s m args below meth c H locs cells slots Q (F0 m (pc + 3) ls (.int (gI σ (64 * q + i)) :: rest))) : W p l e R s m args below meth c H locs cells slots Q (F0 m pc ls (.ref (E q) :: rest)) :=
  va_getN hC.1 hb hC.2.1 hin hC.2.2.1 hC.2.2.2.1 hP q (wd_at hq) hc i hi (va_Nw.use rfl (hC.2.2.2.2.1 _ hlink)) (fun x h => by rw [← hsame]; exact h) (fvs_get hf) hdg kk
theorem x_getLN {ref C host : String} {T : u_T} {N ci index q z : Nat} {fs : List (Nat × Nat)} (hC : Ctx p s m args own D Y) (hb : c.code = cc) (hP : va_P D vwCl (wd Y E σ 0 L) H) (hin : ∀ w ∈ u_ws C T N, w ∈ gW) (hq : L[q]? = some (0, ci, fs)) (hc : vwCl[ci]? = some (C, T, N)) (i : Nat) (hi : i < N) (hf : fs[i]? = some (1, z)) (hlink : Cond.fieldLinkNest own index ref (T i).2.1 (T i).2.2.1 host ∈ nws) (hsame : (T i).1 = ref) (hdg : decode cc pc = .ok (.getfield index, 3))
    (kk : W p l e R s m args below meth c H locs cells slots Q (F0 m (pc + 3) ls (.long (gL σ (64 * q + i)) :: rest))) : W p l e R s m args below meth c H locs cells slots Q (F0 m pc ls (.ref (E q) :: rest)) :=
  va_getN hC.1 hb hC.2.1 hin hC.2.2.1 hC.2.2.2.1 hP q (wd_at hq) hc i hi (va_Nw.use rfl (hC.2.2.2.2.1 _ hlink)) (fun x h => by rw [← hsame]; exact h) (fvs_get hf) hdg kk
theorem x_getRN {ref C host : String} {T : u_T} {N ci index q z : Nat} {fs : List (Nat × Nat)} (hC : Ctx p s m args own D Y) (hb : c.code = cc) (hP : va_P D vwCl (wd Y E σ 0 L) H) (hin : ∀ w ∈ u_ws C T N, w ∈ gW) (hq : L[q]? = some (0, ci, fs)) (hc : vwCl[ci]? = some (C, T, N)) (i : Nat) (hi : i < N) (hf : fs[i]? = some (2, z)) (hlink : Cond.fieldLinkNest own index ref (T i).2.1 (T i).2.2.1 host ∈ nws) (hsame : (T i).1 = ref) (hdg : decode cc pc = .ok (.getfield index, 3))
    (kk : W p l e R s m args below meth c H locs cells slots Q (F0 m (pc + 3) ls (.ref (E z) :: rest))) : W p l e R s m args below meth c H locs cells slots Q (F0 m pc ls (.ref (E q) :: rest)) :=
  va_getN hC.1 hb hC.2.1 hin hC.2.2.1 hC.2.2.2.1 hP q (wd_at hq) hc i hi (va_Nw.use rfl (hC.2.2.2.2.1 _ hlink)) (fun x h => by rw [← hsame]; exact h) (fvs_get hf) hdg kk
theorem x_putI {ref C : String} {T : u_T} {N ci index q z : Nat} {fs : List (Nat × Nat)} {x : Int32} {ty : FieldType} (hL : Lok L) (hC : Ctx p s m args own D Y) (hb : c.code = cc) (hP : va_P D vwCl (wd Y E σ 0 L) H) (hD : ∀ τ, va_D A (wd Y E τ 0 L)) (hS : va_S A H0 H locs) (hin : ∀ w ∈ u_ws C T N, w ∈ gW) (ty0 : Nat → FieldType) (hty : ∀ k, k < N → parseFieldDescriptor (T k).2.2.1 = some (ty0 k)) (hnm : ∀ a, a < N → ∀ b, b < N → a ≠ b → (T a).2.1 ≠ (T b).2.1) (hq : L[q]? = some (0, ci, fs)) (hc : vwCl[ci]? = some (C, T, N)) (i : Nat) (hi : i < N) (hf : fs[i]? = some (0, z)) (hlink : Cond.fieldLink own index ref (T i).2.1 (T i).2.2.1 ∈ gW) (hsame : (T i).1 = ref) (hfin : (T i).2.2.2 = false) (hd : ty0 i = ty) (hn : narrow ty (.int x) = .int x) (hfit : fits ty (.int x) = true) (hdg : decode cc pc = .ok (.putfield index, 3))
    (kk : ∀ (H1 : Heap) (locs1 : List Loc) (τ : Sta), τ = sI σ (64 * q + i) x → va_P D vwCl (wd Y E τ 0 L) H1 → va_S A H0 H1 locs1 → W p l e R s m args below meth c H1 locs1 cells slots Q (F0 m (pc + 3) ls rest)) : W p l e R s m args below meth c H locs cells slots Q (F0 m pc ls (.int x :: .ref (E q) :: rest)) :=
  va_put hC.1 hb hC.2.1 hin ty0 hty hnm hC.2.2.1 hC.2.2.2.1 hP (hD σ) hS q (wd_at hq) hc i hi (hC.2.1 _ hlink) (fun x h => by rw [← hsame]; exact h) hfin (by rw [hty i hi, hd]) hn hfit (by rw [fvs_len]; exact (List.getElem?_eq_some_iff.mp hf).1) hdg (fun H1 locs1 h1 _ h3 => by
    rw [wd_sI hL hq hf] at h1
    exact kk H1 locs1 _ rfl h1 h3)
theorem x_putL {ref C : String} {T : u_T} {N ci index q z : Nat} {fs : List (Nat × Nat)} {x : Int64} (hL : Lok L) (hC : Ctx p s m args own D Y) (hb : c.code = cc) (hP : va_P D vwCl (wd Y E σ 0 L) H) (hD : ∀ τ, va_D A (wd Y E τ 0 L)) (hS : va_S A H0 H locs) (hin : ∀ w ∈ u_ws C T N, w ∈ gW) (ty0 : Nat → FieldType) (hty : ∀ k, k < N → parseFieldDescriptor (T k).2.2.1 = some (ty0 k)) (hnm : ∀ a, a < N → ∀ b, b < N → a ≠ b → (T a).2.1 ≠ (T b).2.1) (hq : L[q]? = some (0, ci, fs)) (hc : vwCl[ci]? = some (C, T, N)) (i : Nat) (hi : i < N) (hf : fs[i]? = some (1, z)) (hlink : Cond.fieldLink own index ref (T i).2.1 (T i).2.2.1 ∈ gW) (hsame : (T i).1 = ref) (hfin : (T i).2.2.2 = false) (hd : ty0 i = .long) (hdg : decode cc pc = .ok (.putfield index, 3))
    (kk : ∀ (H1 : Heap) (locs1 : List Loc) (τ : Sta), τ = sL σ (64 * q + i) x → va_P D vwCl (wd Y E τ 0 L) H1 → va_S A H0 H1 locs1 → W p l e R s m args below meth c H1 locs1 cells slots Q (F0 m (pc + 3) ls rest)) : W p l e R s m args below meth c H locs cells slots Q (F0 m pc ls (.long x :: .ref (E q) :: rest)) :=
  va_put hC.1 hb hC.2.1 hin ty0 hty hnm hC.2.2.1 hC.2.2.2.1 hP (hD σ) hS q (wd_at hq) hc i hi (hC.2.1 _ hlink) (fun x h => by rw [← hsame]; exact h) hfin (by rw [hty i hi, hd]) rfl rfl (by rw [fvs_len]; exact (List.getElem?_eq_some_iff.mp hf).1) hdg (fun H1 locs1 h1 _ h3 => by
    rw [wd_sL hL hq hf] at h1
    exact kk H1 locs1 _ rfl h1 h3)
theorem x_putIN {ref C host : String} {T : u_T} {N ci index q z : Nat} {fs : List (Nat × Nat)} {x : Int32} {ty : FieldType} (hL : Lok L) (hC : Ctx p s m args own D Y) (hb : c.code = cc) (hP : va_P D vwCl (wd Y E σ 0 L) H) (hD : ∀ τ, va_D A (wd Y E τ 0 L)) (hS : va_S A H0 H locs) (hin : ∀ w ∈ u_ws C T N, w ∈ gW) (ty0 : Nat → FieldType) (hty : ∀ k, k < N → parseFieldDescriptor (T k).2.2.1 = some (ty0 k)) (hnm : ∀ a, a < N → ∀ b, b < N → a ≠ b → (T a).2.1 ≠ (T b).2.1) (hq : L[q]? = some (0, ci, fs)) (hc : vwCl[ci]? = some (C, T, N)) (i : Nat) (hi : i < N) (hf : fs[i]? = some (0, z)) (hlink : Cond.fieldLinkNest own index ref (T i).2.1 (T i).2.2.1 host ∈ nws) (hsame : (T i).1 = ref) (hfin : (T i).2.2.2 = false) (hd : ty0 i = ty) (hn : narrow ty (.int x) = .int x) (hfit : fits ty (.int x) = true) (hdg : decode cc pc = .ok (.putfield index, 3))
    (kk : ∀ (H1 : Heap) (locs1 : List Loc) (τ : Sta), τ = sI σ (64 * q + i) x → va_P D vwCl (wd Y E τ 0 L) H1 → va_S A H0 H1 locs1 → W p l e R s m args below meth c H1 locs1 cells slots Q (F0 m (pc + 3) ls rest)) : W p l e R s m args below meth c H locs cells slots Q (F0 m pc ls (.int x :: .ref (E q) :: rest)) :=
  va_putN hC.1 hb hC.2.1 hin ty0 hty hnm hC.2.2.1 hC.2.2.2.1 hP (hD σ) hS q (wd_at hq) hc i hi (va_Nw.use rfl (hC.2.2.2.2.1 _ hlink)) (fun x h => by rw [← hsame]; exact h) hfin (by rw [hty i hi, hd]) hn hfit (by rw [fvs_len]; exact (List.getElem?_eq_some_iff.mp hf).1) hdg (fun H1 locs1 h1 _ h3 => by
    rw [wd_sI hL hq hf] at h1
    exact kk H1 locs1 _ rfl h1 h3)
theorem x_putLN {ref C host : String} {T : u_T} {N ci index q z : Nat} {fs : List (Nat × Nat)} {x : Int64} (hL : Lok L) (hC : Ctx p s m args own D Y) (hb : c.code = cc) (hP : va_P D vwCl (wd Y E σ 0 L) H) (hD : ∀ τ, va_D A (wd Y E τ 0 L)) (hS : va_S A H0 H locs) (hin : ∀ w ∈ u_ws C T N, w ∈ gW) (ty0 : Nat → FieldType) (hty : ∀ k, k < N → parseFieldDescriptor (T k).2.2.1 = some (ty0 k)) (hnm : ∀ a, a < N → ∀ b, b < N → a ≠ b → (T a).2.1 ≠ (T b).2.1) (hq : L[q]? = some (0, ci, fs)) (hc : vwCl[ci]? = some (C, T, N)) (i : Nat) (hi : i < N) (hf : fs[i]? = some (1, z)) (hlink : Cond.fieldLinkNest own index ref (T i).2.1 (T i).2.2.1 host ∈ nws) (hsame : (T i).1 = ref) (hfin : (T i).2.2.2 = false) (hd : ty0 i = .long) (hdg : decode cc pc = .ok (.putfield index, 3))
    (kk : ∀ (H1 : Heap) (locs1 : List Loc) (τ : Sta), τ = sL σ (64 * q + i) x → va_P D vwCl (wd Y E τ 0 L) H1 → va_S A H0 H1 locs1 → W p l e R s m args below meth c H1 locs1 cells slots Q (F0 m (pc + 3) ls rest)) : W p l e R s m args below meth c H locs cells slots Q (F0 m pc ls (.long x :: .ref (E q) :: rest)) :=
  va_putN hC.1 hb hC.2.1 hin ty0 hty hnm hC.2.2.1 hC.2.2.2.1 hP (hD σ) hS q (wd_at hq) hc i hi (va_Nw.use rfl (hC.2.2.2.2.1 _ hlink)) (fun x h => by rw [← hsame]; exact h) hfin (by rw [hty i hi, hd]) rfl rfl (by rw [fvs_len]; exact (List.getElem?_eq_some_iff.mp hf).1) hdg (fun H1 locs1 h1 _ h3 => by
    rw [wd_sL hL hq hf] at h1
    exact kk H1 locs1 _ rfl h1 h3)
theorem x_iald {q n : Nat} {z : List (Nat × Nat)} (hC : Ctx p s m args own D Y) (hb : c.code = cc) (hP : va_P D vwCl (wd Y E σ 0 L) H) (hq : L[q]? = some (1, n, z)) {i : Int32} (hin : ¬ (i < 0 ∨ n ≤ i.toNatClampNeg)) (hdg : decode cc pc = .ok (.iaload, 1))
    (kk : W p l e R s m args below meth c H locs cells slots Q (F0 m (pc + 1) ls (.int (gA σ q i.toNatClampNeg) :: rest))) : W p l e R s m args below meth c H locs cells slots Q (F0 m pc ls (.int i :: .ref (E q) :: rest)) :=
  va_iald hC.1 hb hC.2.2.2.1 hP q 0 (wd_at hq) rfl hin hdg kk
theorem x_lald {q n : Nat} {z : List (Nat × Nat)} (hC : Ctx p s m args own D Y) (hb : c.code = cc) (hP : va_P D vwCl (wd Y E σ 0 L) H) (hq : L[q]? = some (2, n, z)) {i : Int32} (hin : ¬ (i < 0 ∨ n ≤ i.toNatClampNeg)) (hdg : decode cc pc = .ok (.laload, 1))
    (kk : W p l e R s m args below meth c H locs cells slots Q (F0 m (pc + 1) ls (.long (gJ σ q i.toNatClampNeg) :: rest))) : W p l e R s m args below meth c H locs cells slots Q (F0 m pc ls (.int i :: .ref (E q) :: rest)) :=
  va_lald hC.1 hb hC.2.2.2.1 hP q 1 (wd_at hq) rfl hin hdg kk
theorem x_aald {q n : Nat} {z : List (Nat × Nat)} (hC : Ctx p s m args own D Y) (hb : c.code = cc) (hP : va_P D vwCl (wd Y E σ 0 L) H) (hq : L[q]? = some (4, n, z)) {i : Int32} (hin : ¬ (i < 0 ∨ n ≤ i.toNatClampNeg)) (hdg : decode cc pc = .ok (.aaload, 1))
    (kk : ∀ d : Nat, d = gP σ i.toNatClampNeg → W p l e R s m args below meth c H locs cells slots Q (F0 m (pc + 1) ls (.ref (E (41 + 5 * d)) :: rest))) : W p l e R s m args below meth c H locs cells slots Q (F0 m pc ls (.int i :: .ref (E q) :: rest)) :=
  va_aldq hC.1 hb hC.2.2.2.1 hP q 3 (wd_at hq) rfl hin hdg (kk _ rfl)
theorem x_iast {q n : Nat} {z : List (Nat × Nat)} (hL : Lok L) (hC : Ctx p s m args own D Y) (hb : c.code = cc) (hP : va_P D vwCl (wd Y E σ 0 L) H) (hD : ∀ τ, va_D A (wd Y E τ 0 L)) (hS : va_S A H0 H locs) (hq : L[q]? = some (1, n, z)) {i x : Int32} (hin : ¬ (i < 0 ∨ n ≤ i.toNatClampNeg)) (hdg : decode cc pc = .ok (.iastore, 1))
    (kk : ∀ (H1 : Heap) (locs1 : List Loc) (τ : Sta), τ = sA σ q (upd (gA σ q) i.toNatClampNeg x) → va_P D vwCl (wd Y E τ 0 L) H1 → va_S A H0 H1 locs1 → W p l e R s m args below meth c H1 locs1 cells slots Q (F0 m (pc + 1) ls rest)) : W p l e R s m args below meth c H locs cells slots Q (F0 m pc ls (.int x :: .int i :: .ref (E q) :: rest)) :=
  va_iast hC.1 hb hC.2.2.2.1 hP (hD σ) hS q 0 (wd_at hq) rfl hin hdg (fun H1 locs1 h1 _ h3 => by
    rw [wd_sA hL hq] at h1
    exact kk H1 locs1 _ rfl h1 h3)
theorem x_last {q n : Nat} {z : List (Nat × Nat)} (hL : Lok L) (hC : Ctx p s m args own D Y) (hb : c.code = cc) (hP : va_P D vwCl (wd Y E σ 0 L) H) (hD : ∀ τ, va_D A (wd Y E τ 0 L)) (hS : va_S A H0 H locs) (hq : L[q]? = some (2, n, z)) {i : Int32} {x : Int64} (hin : ¬ (i < 0 ∨ n ≤ i.toNatClampNeg)) (hdg : decode cc pc = .ok (.lastore, 1))
    (kk : ∀ (H1 : Heap) (locs1 : List Loc) (τ : Sta), τ = sJ σ q (vp_updL (gJ σ q) i.toNatClampNeg x) → va_P D vwCl (wd Y E τ 0 L) H1 → va_S A H0 H1 locs1 → W p l e R s m args below meth c H1 locs1 cells slots Q (F0 m (pc + 1) ls rest)) : W p l e R s m args below meth c H locs cells slots Q (F0 m pc ls (.long x :: .int i :: .ref (E q) :: rest)) :=
  va_last hC.1 hb hC.2.2.2.1 hP (hD σ) hS q 1 (wd_at hq) rfl hin hdg (fun H1 locs1 h1 _ h3 => by
    rw [wd_sJ hL hq] at h1
    exact kk H1 locs1 _ rfl h1 h3)
theorem x_alen {q t n : Nat} {z : List (Nat × Nat)} {v : Int32} (hC : Ctx p s m args own D Y) (hb : c.code = cc) (hP : va_P D vwCl (wd Y E σ 0 L) H) (hq : L[q]? = some (t, n, z)) (ht : t = 1 ∨ t = 2 ∨ t = 3 ∨ t = 4) (hv : Int32.ofNat n = v) (hdg : decode cc pc = .ok (.arraylength, 1))
    (kk : W p l e R s m args below meth c H locs cells slots Q (F0 m (pc + 1) ls (.int v :: rest))) : W p l e R s m args below meth c H locs cells slots Q (F0 m pc ls (.ref (E q) :: rest)) := by
  rcases ht with rfl | rfl | rfl | rfl
  · exact va_alen hC.1 hb hC.2.2.2.1 hP q 0 (wd_at hq) rfl hv hdg kk
  · exact va_alen hC.1 hb hC.2.2.2.1 hP q 1 (wd_at hq) rfl hv hdg kk
  · exact va_alen hC.1 hb hC.2.2.2.1 hP q 2 (wd_at hq) rfl hv hdg kk
  · exact va_alen hC.1 hb hC.2.2.2.1 hP q 3 (wd_at hq) rfl hv hdg kk
end RWS
