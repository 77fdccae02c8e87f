/-! From the tokens that were read to the parser; the class's readProgram. -/
def wl : List Nat := [6382195, 1634497391, 6385252, 25711, 103, 1734437230, 26479, 1735352684, 104, 26990, 1786080624, 7168376, 7170414, 1836021349, 7366002, 1919251316, 7562612, 29807, 7758194, 119, 2003330414, 120, 121]
theorem wl_ok : ∀ a ∈ wl, kwS (lN a) bKW 256 0 = nI (kwn a) ∧ kwn a < 300 := fun a ha => by
  rcases List.mem_cons.mp ha with rfl | ha
  · exact ⟨kw_abs, by decide⟩
  rcases List.mem_cons.mp ha with rfl | ha
  · exact ⟨kw_also, by decide⟩
  rcases List.mem_cons.mp ha with rfl | ha
  · exact ⟨kw_and, by decide⟩
  rcases List.mem_cons.mp ha with rfl | ha
  · exact ⟨kw_do, by decide⟩
  rcases List.mem_cons.mp ha with rfl | ha
  · exact ⟨kw_g, by decide⟩
  rcases List.mem_cons.mp ha with rfl | ha
  · exact ⟨kw_gain, by decide⟩
  rcases List.mem_cons.mp ha with rfl | ha
  · exact ⟨kw_go, by decide⟩
  rcases List.mem_cons.mp ha with rfl | ha
  · exact ⟨kw_goal, by decide⟩
  rcases List.mem_cons.mp ha with rfl | ha
  · exact ⟨kw_h, by decide⟩
  rcases List.mem_cons.mp ha with rfl | ha
  · exact ⟨kw_in, by decide⟩
  rcases List.mem_cons.mp ha with rfl | ha
  · exact ⟨kw_jump, by decide⟩
  rcases List.mem_cons.mp ha with rfl | ha
  · exact ⟨kw_max, by decide⟩
  rcases List.mem_cons.mp ha with rfl | ha
  · exact ⟨kw_min, by decide⟩
  rcases List.mem_cons.mp ha with rfl | ha
  · exact ⟨kw_move, by decide⟩
  rcases List.mem_cons.mp ha with rfl | ha
  · exact ⟨kw_per, by decide⟩
  rcases List.mem_cons.mp ha with rfl | ha
  · exact ⟨kw_rest, by decide⟩
  rcases List.mem_cons.mp ha with rfl | ha
  · exact ⟨kw_set, by decide⟩
  rcases List.mem_cons.mp ha with rfl | ha
  · exact ⟨kw_to, by decide⟩
  rcases List.mem_cons.mp ha with rfl | ha
  · exact ⟨kw_var, by decide⟩
  rcases List.mem_cons.mp ha with rfl | ha
  · exact ⟨kw_w, by decide⟩
  rcases List.mem_cons.mp ha with rfl | ha
  · exact ⟨kw_when, by decide⟩
  rcases List.mem_cons.mp ha with rfl | ha
  · exact ⟨kw_x, by decide⟩
  rcases List.mem_cons.mp ha with rfl | ha
  · exact ⟨kw_y, by decide⟩
  exact absurd ha List.not_mem_nil
abbrev okT (t : Tk) : Prop := (t.1 = 1000 ∧ t.2 ∈ wl) ∨ t.1 < 300
theorem okT_e {t : Tk} (h : okT t) : kC t = nI (pk t).1 ∧ (pk t).1 < 300 ∧ (pk t).2 = t.2 := by
  obtain ⟨a, b⟩ := t
  rcases h with ⟨q, h⟩ | h
  · have q' : a = 1000 := q
    subst q'
    have hm := wl_ok b h
    exact ⟨hm.1, hm.2, rfl⟩
  · have h' : a < 300 := h
    have q : a ≠ 1000 := by omega
    have e : (a == 1000) = false := beq_false_of_ne q
    have ep : pk (a, b) = (a, b) := by
      show (bif a == 1000 then (kwn b, b) else (a, b)) = (a, b)
      rw [e]
      rfl
    rw [ep]
    exact ⟨if_neg q, h', rfl⟩
theorem TKs_pk {σ : Sta} : ∀ (T : List Tk) (m : Nat), TKs σ m T → (∀ t ∈ T, okT t) → ∀ j, j < T.length → gA σ 11 (m + j) = nI ((T.map pk).getD j (0, 0)).1 ∧ gJ σ 13 (m + j) = lN ((T.map pk).getD j (0, 0)).2 ∧ ((T.map pk).getD j (0, 0)).1 < 300
  | [], _, _, _, j, h => absurd h (Nat.not_lt_zero _)
  | t :: r, m, h, ha, j, hj => by
    obtain ⟨h1, h2, h3⟩ := h
    obtain ⟨e1, e2, e3⟩ := okT_e (ha t List.mem_cons_self)
    cases j with
    | zero => exact ⟨h1.trans e1, by show gJ σ 13 m = lN (pk t).2; rw [e3]; exact h2, e2⟩
    | succ j =>
      have hj' : j + 1 < r.length + 1 := hj
      have := TKs_pk r (m + 1) h3 (fun t ht => ha t (List.mem_cons_of_mem _ ht)) j (by omega)
      rw [show m + 1 + j = m + (j + 1) by omega] at this
      exact this
theorem Sf_of {K V : Nat → Nat} {M : Nat} : ∀ (l : List Tk) (t : Nat), (∀ j, j < l.length → K (t + j) = (l.getD j (0, 0)).1 ∧ V (t + j) = (l.getD j (0, 0)).2) → t + l.length = M → Sf K V M t l
  | [], t, _, h => h
  | p :: r, t, h, hl => by
    have hl' : t + (r.length + 1) = M := hl
    have h0 := h 0 (Nat.succ_pos _)
    refine ⟨by omega, h0.1, h0.2, Sf_of r (t + 1) (fun j hj => ?_) (by omega)⟩
    have := h (j + 1) (Nat.succ_lt_succ hj)
    rw [show t + 1 + j = t + (j + 1) by omega]
    exact this
