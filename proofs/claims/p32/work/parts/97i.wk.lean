/-! The walk's text (by wip/p32/wk3.py). -/
theorem sta_of {p : Program} {s : State} {m : MethodId} {args : Array Value} {own : String} {D : va_G} {Y : CYs} {A : Nat → Prop} {H : Heap} {Rs C0 : va_W} {r v N : Nat} {f : Nat → Int32} (hC : Ctx p s m args own D Y) (hP : va_P D vwCl (Rs ++ C0) H) (hD : va_D A (Rs ++ C0)) (i1 i2 : Nat) (h1 : Rs[i1]? = some (r, .inr (0, [.ref v, .int 0, .int 0, .int 0]))) (h2 : Rs[i2]? = some (v, .inl (Y.2.2.1.1, N, .inl f))) : STA N ((List.range N).map f) r v (va_A C0 H.size) s H := by
  have l1 := (List.getElem?_eq_some_iff.mp h1).1
  have l2 := (List.getElem?_eq_some_iff.mp h2).1
  have g1 : (Rs ++ C0)[i1]? = some (r, .inr (0, [.ref v, .int 0, .int 0, .int 0])) := by rw [List.getElem?_append_left l1]; exact h1
  have g2 : (Rs ++ C0)[i2]? = some (v, .inl (Y.2.2.1.1, N, .inl f)) := by rw [List.getElem?_append_left l2]; exact h2
  have apart : ∀ (i : Nat) (q : Nat × va_E), i < Rs.length → (Rs ++ C0)[i]? = some q → ¬ va_A C0 H.size q.1 := fun i q hi hq h => by
    rcases h with ⟨k, e, hk⟩ | h
    · have hk2 : (Rs ++ C0)[Rs.length + k]? = some (q.1, e) := by rw [List.getElem?_append_right (by omega), Nat.add_sub_cancel_left]; exact hk
      have := hD.1 i (Rs.length + k) q (q.1, e) hq hk2 rfl
      omega
    · have := (hP i q hq).lt
      omega
  have a1 : ¬ va_A C0 H.size r := apart i1 _ l1 g1
  have a2 : ¬ va_A C0 H.size v := apart i2 _ l2 g2
  obtain ⟨cell, c1, c2, c3⟩ := va_recv hC.2.2.2.1 hP (q0 := i1) (ci := 0) rfl g1
  obtain ⟨rr, e1, cl, q1, q2, q3, q4⟩ := hP i1 _ g1
  have hrr : rr = (RJ0, TJ0, 4) := (Option.some.inj (e1.symm.trans (rfl : vwCl[0]? = some (RJ0, TJ0, 4))))
  subst hrr
  obtain ⟨hS, hfc, kC, hkC, hkind⟩ := hC.2.2.2.1.1 0 _ rfl
  have fld : ∀ (k : Nat) (x : Value), k < 4 → [Value.ref v, .int 0, .int 0, .int 0][k]? = some x → va_OF (TJ0 k).1 (TJ0 k).2.1 (TJ0 k).2.2.1 x r (va_A C0 H.size) s H := fun k x hk hx => by
    obtain ⟨cf, kf, fi, fd, hi, hsl⟩ := hS k hk
    refine ⟨cf, kf, fi, fd, cl, hi, (u_facts hfc hkC (u_lays hC.2.1 inGJ0 hk) hi).1, q1, (by rw [q3]; exact fun h => nomatch h), ?_, a1⟩
    rw [hsl, q4 k hk]
    unfold vp_V
    rw [List.getD_eq_getElem?_getD, hx]
    rfl
  refine ⟨⟨cell, c1, c2, c3, a1⟩, fld 1 (.int 0) (by decide) rfl, fld 0 (.ref v) (by decide) rfl, ⟨vp_cell Y.2.2.1.1 (N, .inl f), hP i2 _ g2, (hC.2.2.2.1.2 2 _ rfl).1 N (fun j => .int (f j)), fun h => by (cases h), ?_, ?_, fun j hj => ?_, a2⟩⟩
  · show N ≤ (arrV _ _ _).slots.size
    rw [arrV_size]
    exact Nat.le_refl _
  · show (arrV _ _ _).slots.size.toInt32 = _
    rw [arrV_size]
  · show (arrV _ _ _).slots[j]? = some (Value.int (((List.range N).map f).getD j 0))
    rw [arrV_read _ _ hj, List.getD_eq_getElem?_getD, List.getElem?_map, List.getElem?_range hj]
    rfl
theorem ge128 {t : List Nat} (h : ∀ x ∈ t, x < 128) : ∀ j, j < t.length → t.getD j 0 < 128 := fun j hj => by
  rw [List.getD_eq_getElem?_getD, List.getElem?_eq_getElem hj]
  exact h _ (List.getElem_mem hj)
theorem sb_of {t : List Nat} {f : Nat → Int32} (h : ∀ j, j < t.length → f j = nI (t.getD j 0)) (hb : ∀ x ∈ t, x < 128) : SB ((List.range t.length).map f) t := by
  refine ⟨fun j hj => ?_, ge128 hb⟩
  rw [← h j hj, List.getD_eq_getElem?_getD, List.getElem?_map, List.getElem?_range hj]
  rfl
theorem dg128 {k : Nat} (hk : k < 100) : ∀ x ∈ dg k, x < 128 := fun x hx => by
  unfold dg at hx
  split at hx
  · have := List.mem_singleton.mp hx
    omega
  · rcases List.mem_cons.mp hx with h | h
    · omega
    · have := List.mem_singleton.mp h
      omega
theorem ap128 {t w : List Nat} (h : ∀ x ∈ t, x < 128) (h2 : ∀ x ∈ w, x < 128) : ∀ x ∈ t ++ w, x < 128 := fun x hx => (List.mem_append.mp hx).elim (h x) (h2 x)
theorem ng0 : ∀ k : Nat, k < 100 → 0 < k → ¬ 0 ≤ -nI k := by decide
theorem CT_nil : CT [] 16 (fun _ => 0) := ⟨Nat.zero_le _, by decide, FB_0, fun j hj => absurd hj (Nat.not_lt_zero _)⟩
set_option maxRecDepth 20000 in
theorem sbw_0 : SB bW0 wN0 := ⟨by decide +kernel, by decide +kernel⟩
set_option maxRecDepth 20000 in
theorem sbw_1 : SB bW1 wN1 := ⟨by decide +kernel, by decide +kernel⟩
set_option maxRecDepth 20000 in
theorem sbw_2 : SB bW2 wN2 := ⟨by decide +kernel, by decide +kernel⟩
set_option maxRecDepth 20000 in
theorem sbw_3 : SB bW3 wN3 := ⟨by decide +kernel, by decide +kernel⟩
theorem w128_3 : ∀ x ∈ wN3, x < 128 := by decide +kernel
set_option maxRecDepth 20000 in
theorem sbw_4 : SB bW4 wN4 := ⟨by decide +kernel, by decide +kernel⟩
theorem w128_4 : ∀ x ∈ wN4, x < 128 := by decide +kernel
set_option maxRecDepth 20000 in
theorem sbw_5 : SB bW5 wN5 := ⟨by decide +kernel, by decide +kernel⟩
set_option maxRecDepth 20000 in
theorem sbw_6 : SB bW6 wN6 := ⟨by decide +kernel, by decide +kernel⟩
set_option maxRecDepth 20000 in
theorem sbw_7 : SB bW7 wN7 := ⟨by decide +kernel, by decide +kernel⟩
theorem w128_7 : ∀ x ∈ wN7, x < 128 := by decide +kernel
set_option maxRecDepth 20000 in
theorem sbw_8 : SB bW8 wN8 := ⟨by decide +kernel, by decide +kernel⟩
theorem w128_8 : ∀ x ∈ wN8, x < 128 := by decide +kernel
set_option maxRecDepth 20000 in
theorem sbw_9 : SB bW9 wN9 := ⟨by decide +kernel, by decide +kernel⟩
set_option maxRecDepth 20000 in
theorem sbw_10 : SB bW10 wN10 := ⟨by decide +kernel, by decide +kernel⟩
set_option maxRecDepth 20000 in
theorem sbw_11 : SB bW11 wN11 := ⟨by decide +kernel, by decide +kernel⟩
set_option maxRecDepth 20000 in
theorem sbw_12 : SB bW12 wN12 := ⟨by decide +kernel, by decide +kernel⟩
set_option maxRecDepth 20000 in
theorem sbw_13 : SB bW13 wN13 := ⟨by decide +kernel, by decide +kernel⟩
set_option maxRecDepth 20000 in
theorem sbw_14 : SB bW14 wN14 := ⟨by decide +kernel, by decide +kernel⟩
set_option maxRecDepth 20000 in
theorem sbw_15 : SB bW15 wN15 := ⟨by decide +kernel, by decide +kernel⟩
set_option maxRecDepth 20000 in
theorem sbw_16 : SB bW16 wN16 := ⟨by decide +kernel, by decide +kernel⟩
