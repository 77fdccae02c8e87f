/-! Numbers as texts; a builder's String (by wip/p32/sb.py). -/
theorem ng10 : ∀ k : Nat, k < 100 → (-nI k ≤ -10 ↔ 10 ≤ k) := by decide
theorem ng100 : ∀ k : Nat, k < 100 → ¬ -nI k ≤ 10 * -10 := by decide
theorem ngm100 : ∀ k : Nat, k < 100 → -100 < -nI k := by decide
theorem ng9 : ∀ k : Nat, k < 100 → (-9 ≤ -nI k ↔ k < 10) := by decide
theorem dg_1 {k : Nat} (h : k < 10) : dg k = [48 + k] := if_pos h
theorem dg_2 {k : Nat} (h : ¬ k < 10) : dg k = [48 + k / 10, 48 + k % 10] := if_neg h
theorem dg_ln (k : Nat) : (dg k).length ≤ 2 := by
  unfold dg
  split
  · exact Nat.le_succ 1
  · exact Nat.le_refl 2
theorem FB_up {f : Nat → Int32} {i x : Nat} (h : FB f) (hx : x < 128) : FB (upd f i (nI x)) := fun j => by
  unfold upd
  split
  · exact fit_b x hx
  · exact h j
theorem gc_1 {f : Nat → Int32} {n0 k0 : Nat} (hk : k0 < 100) (h : k0 < 10) (hf : FB f) : FB (upd f n0 (nI (48 + k0 % 10))) ∧ (∀ j, j < n0 → upd f n0 (nI (48 + k0 % 10)) j = f j) ∧ ∀ j, j < (dg k0).length → upd f n0 (nI (48 + k0 % 10)) (n0 + j) = nI ((dg k0).getD j 0) := by
  refine ⟨FB_up hf (by omega), fun j hj => if_neg (show ¬ j = n0 by omega), fun j hj => ?_⟩
  rw [dg_1 h] at hj ⊢
  have hj' : j < 1 := hj
  obtain rfl : j = 0 := by omega
  rw [Nat.mod_eq_of_lt h]
  exact if_pos rfl
theorem gc_2 {f : Nat → Int32} {n0 k0 : Nat} (hk : k0 < 100) (h : ¬ k0 < 10) (hf : FB f) : FB (upd (upd f (n0 + 1) (nI (48 + k0 % 10))) n0 (nI (48 + k0 / 10))) ∧ (∀ j, j < n0 → upd (upd f (n0 + 1) (nI (48 + k0 % 10))) n0 (nI (48 + k0 / 10)) j = f j) ∧ ∀ j, j < (dg k0).length → upd (upd f (n0 + 1) (nI (48 + k0 % 10))) n0 (nI (48 + k0 / 10)) (n0 + j) = nI ((dg k0).getD j 0) := by
  refine ⟨FB_up (FB_up hf (by omega)) (by omega), fun j hj => (if_neg (show ¬ j = n0 by omega)).trans (if_neg (show ¬ j = n0 + 1 by omega)), fun j hj => ?_⟩
  rw [dg_2 h] at hj ⊢
  have hj' : j < 2 := hj
  rcases (by omega : j = 0 ∨ j = 1) with rfl | rfl
  · exact if_pos rfl
  · exact (if_neg (show ¬ n0 + 1 = n0 by omega)).trans (if_pos rfl)
theorem fit_cell {cA : ClassId} {mm : Nat} {f : Nat → Int32} (hf : FB f) : ∀ (i : Nat) (v : Value), (vp_cell cA (mm, .inl f)).slots[i]? = some v → fits .byte v = true := fun i v h => by
  have h1 : (arrV cA mm (fun j => .int (f j))).slots[i]? = some v := h
  by_cases q : i < mm
  · rw [arrV_read _ _ q] at h1
    cases h1
    exact hf i
  · rw [Array.getElem?_eq_none (by rw [arrV_size]; omega)] at h1
    cases h1
theorem gi_O {own C : String} {index : Nat} {x y : MethodName} (h1 : Cond.methodLink own index x ∈ gW) (h2 : Cond.sameMethod x.cls x.cls x.name x.desc ∈ gW) (h3 : Cond.instanceMethod x ∈ gW) (h4 : Cond.selects C x y ∈ gW) (h5 : Cond.instanceMethod y ∈ gW) (h6 : Cond.initialized y.cls ∈ gW) {b : Cond} (h7 : b ∈ gW) : GoodIn gW (va_wsO own index C x.cls x y (b :: gW)) := fun w hw => by
  have hg : ∀ w, w ∈ gW → w ∈ gW ∧ ((w.onTables && w.keeps) = true ∨ ∃ ty, w = .arrayClass ty) := fun w h => ⟨h, good_of_word (gW_good _ h)⟩
  unfold va_wsO at hw
  rcases List.mem_append.mp hw with h | h
  · simp only [List.mem_cons, List.not_mem_nil, or_false] at h
    rcases h with rfl | rfl | rfl | rfl | rfl | rfl
    · exact hg _ h1
    · exact hg _ h2
    · exact hg _ h3
    · exact hg _ h4
    · exact hg _ h5
    · exact hg _ h6
  · exact gi_law h7 w h
