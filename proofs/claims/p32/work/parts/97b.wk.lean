/-! The walk's cells: its object, the rows' row, the rows (by wip/p32/wk.py). -/
abbrev xy (x y : Nat) : Nat → Int32 := upd (upd (fun _ => 0) 0 (nI x)) 1 (nI y)
abbrev rwC (Y : CYs) (r : Nat × Nat × Nat) : Nat × va_E := (r.1, .inl (Y.1, 2, .inl (xy r.2.1 r.2.2)))
abbrev rwW (Y : CYs) (rs : List (Nat × Nat × Nat)) : va_W := rs.map (rwC Y)
abbrev wkO (v : Nat → Int32) (g n : Nat) : List Value := [.int (v 0), .int (v 1), .int (v 2), .int (v 3), .int (v 4), .int (v 5), .int (v 6), .int (v 7), .int (v 8), .ref g, .int (nI n)]
abbrev wkW (Y : CYs) (h g : Nat) (v : Nat → Int32) (fg : Nat → Option Nat) (rs : List (Nat × Nat × Nat)) : va_W := (h, .inr (11, wkO v g rs.length)) :: (g, .inl (Y.2.2.1.2, 100, .inr (.inr (.inr (.inr fg))))) :: rwW Y rs
def WKv (n bk jp : Nat) (v : Nat → Int32) : Prop := v 0 = nI n ∧ v 4 = nI bk ∧ v 8 = nI jp ∧ n < 22 ∧ bk < 6 ∧ jp < 22
def WKi (n : Nat) (fg : Nat → Option Nat) (rs : List (Nat × Nat × Nat)) : Prop := (∀ (i : Nat) (r : Nat × Nat × Nat), rs[i]? = some r → fg i = some r.1 ∧ r.2.1 ≤ n ∧ r.2.2 ≤ 3) ∧ ∀ (i j : Nat) (r r' : Nat × Nat × Nat), i < j → rs[i]? = some r → rs[j]? = some r' → r.2 ≠ r'.2
theorem WKi_len {n : Nat} {fg : Nat → Option Nat} {rs : List (Nat × Nat × Nat)} (hn : n < 22) (h : WKi n fg rs) : rs.length ≤ 88 := by
  have hg : ∀ i, i < rs.length → ∃ r, rs[i]? = some r ∧ rs.getD i (0, 0, 0) = r := fun i hi => ⟨rs[i], List.getElem?_eq_getElem hi, by rw [List.getD_eq_getElem?_getD, List.getElem?_eq_getElem hi]; rfl⟩
  have := php (4 * (n + 1)) rs.length (fun i => 4 * (rs.getD i (0, 0, 0)).2.1 + (rs.getD i (0, 0, 0)).2.2) (fun i hi => by
    obtain ⟨r, r1, r2⟩ := hg i hi
    obtain ⟨-, a, b⟩ := h.1 i r r1
    show 4 * (rs.getD i (0, 0, 0)).2.1 + (rs.getD i (0, 0, 0)).2.2 < _
    rw [r2]
    omega) (fun i j hij hj e => by
    obtain ⟨r, r1, r2⟩ := hg i (by omega)
    obtain ⟨q, q1, q2⟩ := hg j hj
    have e : 4 * (rs.getD i (0, 0, 0)).2.1 + (rs.getD i (0, 0, 0)).2.2 = 4 * (rs.getD j (0, 0, 0)).2.1 + (rs.getD j (0, 0, 0)).2.2 := e
    rw [r2, q2] at e
    obtain ⟨-, a, b⟩ := h.1 i r r1
    obtain ⟨-, a', b'⟩ := h.1 j q q1
    exact h.2 i j r q hij r1 q1 (Prod.ext (by omega) (by omega)))
  omega
theorem WKi_nil (n : Nat) (fg : Nat → Option Nat) : WKi n fg [] := ⟨fun i r h => by simp at h, fun i j r r' _ h => by simp at h⟩
theorem WKi_app {n q x y : Nat} {fg : Nat → Option Nat} {rs : List (Nat × Nat × Nat)} (h : WKi n fg rs) (hx : x ≤ n) (hy : y ≤ 3) (hne : ∀ (j : Nat) (rj : Nat × Nat × Nat), rs[j]? = some rj → rj.2 ≠ (x, y)) : WKi n (va_up fg rs.length (some q)) (rs ++ [(q, x, y)]) := by
  have key : ∀ (i : Nat) (r : Nat × Nat × Nat), (rs ++ [(q, x, y)])[i]? = some r → (i < rs.length ∧ rs[i]? = some r) ∨ (i = rs.length ∧ r = (q, x, y)) := fun i r hi => by
    by_cases hl : i < rs.length
    · rw [List.getElem?_append_left hl] at hi
      exact Or.inl ⟨hl, hi⟩
    · rw [List.getElem?_append_right (Nat.le_of_not_lt hl)] at hi
      have h1 := (List.getElem?_eq_some_iff.mp hi).1
      have h2 : i - rs.length < 1 := h1
      have h3 : i = rs.length := by omega
      subst h3
      rw [Nat.sub_self] at hi
      exact Or.inr ⟨rfl, (Option.some.inj hi).symm⟩
  refine ⟨fun i r hi => ?_, fun i j r r' hij hi hj => ?_⟩
  · rcases key i r hi with ⟨a, b⟩ | ⟨rfl, rfl⟩
    · obtain ⟨c1, c2, c3⟩ := h.1 i r b
      refine ⟨?_, c2, c3⟩
      unfold va_up
      rw [if_neg (by omega)]
      exact c1
    · exact ⟨by unfold va_up; rw [if_pos rfl], hx, hy⟩
  · rcases key i r hi with ⟨a, b⟩ | ⟨rfl, rfl⟩
    · rcases key j r' hj with ⟨a', b'⟩ | ⟨rfl, rfl⟩
      · exact h.2 i j r r' hij b b'
      · exact hne i r b
    · rcases key j r' hj with ⟨a', b'⟩ | ⟨rfl, rfl⟩
      · omega
      · omega
theorem wk_row {Y : CYs} {a b : Nat × va_E} {rs : List (Nat × Nat × Nat)} {i a0 x y : Nat} (h : rs[i]? = some (a0, x, y)) : (a :: b :: rwW Y rs)[i + 2]? = some (a0, .inl (Y.1, 2, .inl (xy x y))) := by
  show (rwW Y rs)[i]? = _
  rw [List.getElem?_map, h]
  rfl
theorem wk_rowT {Y : CYs} {a b : Nat × va_E} {T : va_W} {rs : List (Nat × Nat × Nat)} {i a0 x y : Nat} (h : rs[i]? = some (a0, x, y)) : (a :: b :: (rwW Y rs ++ T))[i + 2]? = some (a0, .inl (Y.1, 2, .inl (xy x y))) := by
  show (rwW Y rs ++ T)[i]? = _
  have hl := (List.getElem?_eq_some_iff.mp h).1
  rw [List.getElem?_append_left (by rw [List.length_map]; exact hl), List.getElem?_map, h]
  rfl
theorem wk_last {Y : CYs} {a b z : Nat × va_E} {rs : List (Nat × Nat × Nat)} : (a :: b :: (rwW Y rs ++ [z]))[rs.length + 2]? = some z := by
  show (rwW Y rs ++ [z])[rs.length]? = _
  rw [List.getElem?_append_right (by rw [List.length_map]; exact Nat.le_refl _), List.length_map, Nat.sub_self]
  rfl
theorem wk_set {Y : CYs} {a b z z' : Nat × va_E} {rs : List (Nat × Nat × Nat)} : (a :: b :: (rwW Y rs ++ [z])).set (rs.length + 2) z' = a :: b :: (rwW Y rs ++ [z']) := by
  show a :: b :: (rwW Y rs ++ [z]).set rs.length z' = _
  rw [List.set_append_right _ _ (by rw [List.length_map]; exact Nat.le_refl _), List.length_map, Nat.sub_self]
  rfl
theorem wk_app {Y : CYs} {h g : Nat} {v : Nat → Int32} {fg : Nat → Option Nat} {rs : List (Nat × Nat × Nat)} {r : Nat × Nat × Nat} : wkW Y h g v fg (rs ++ [r]) = (h, .inr (11, wkO v g (rs.length + 1))) :: (g, .inl (Y.2.2.1.2, 100, .inr (.inr (.inr (.inr fg))))) :: (rwW Y rs ++ [rwC Y r]) := by
  unfold wkW rwW
  rw [List.map_append, List.length_append]
  rfl
theorem va_P_pre {D : va_G} {cl : List vw_C} {a b z : Nat × va_E} {T : va_W} {H : Heap} (h : va_P D cl (a :: b :: (T ++ [z])) H) : va_P D cl (a :: b :: T) H := fun k q hk => by
  have hl := (List.getElem?_eq_some_iff.mp hk).1
  refine h k q ?_
  rw [show (a :: b :: (T ++ [z])) = (a :: b :: T) ++ [z] from rfl, List.getElem?_append_left hl]
  exact hk
theorem va_D_pre {A : Nat → Prop} {a b z : Nat × va_E} {T : va_W} (h : va_D A (a :: b :: (T ++ [z]))) : va_D A (a :: b :: T) := by
  have key : ∀ (k : Nat) (q : Nat × va_E), (a :: b :: T)[k]? = some q → (a :: b :: (T ++ [z]))[k]? = some q := fun k q hk => by
    have hl := (List.getElem?_eq_some_iff.mp hk).1
    rw [show (a :: b :: (T ++ [z])) = (a :: b :: T) ++ [z] from rfl, List.getElem?_append_left hl]
    exact hk
  exact ⟨fun i j p q hp hq e => h.1 i j p q (key i p hp) (key j q hq) e, fun k q hq => h.2 k q (key k q hq)⟩
theorem rm4 : ∀ x : Nat, x < 22 → nI x - nI x / 4 * 4 = nI (x % 4) := by decide
theorem v_0 : vp_in 0 2 := by
  unfold vp_in
  decide
theorem v_1 : vp_in 1 2 := by
  unfold vp_in
  decide
