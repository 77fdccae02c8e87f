/-! What a builder holds; the String's own small methods (by wip/p32/sb.py). -/
def capN (q m : Nat) : Nat := m + (if q - m < m + 2 then m + 2 else q - m)
theorem cp0 {α : Type} {f g : Nat → α} {n j : Nat} (h : j < n) : va_cpy f g 0 0 n j = f j := by
  unfold va_cpy
  rw [if_pos (by omega), show 0 + (j - 0) = j by omega]
theorem cpL {α : Type} {f g : Nat → α} {b n j : Nat} (h : j < b) : va_cpy f g 0 b n j = g j := by
  unfold va_cpy
  rw [if_neg (by omega)]
theorem cpR {α : Type} {f g : Nat → α} {b n j : Nat} (h : j < n) : va_cpy f g 0 b n (b + j) = f j := by
  unfold va_cpy
  rw [if_pos (by omega), show 0 + (b + j - b) = j by omega]
def lok0 : Lok ([] : List Dsc) := fun k d h => by cases h
theorem k_coder (N : Nat) (bs : List Int32) (σ : Sta) : f_J0_coder_7d493 N bs σ = some (0, σ) := rfl
theorem cE_coder {l : Launch} {D : va_G} {Y : CYs} {N : Nat} {bs : List Int32} {a v : Nat} (sz : Nat) : Met l yJ0_coder_7d493 (Cond.code yJ0_coder_7d493 cJ0_coder_7d493 1 (some .byte) :: gW) rm_J0_coder_7d493 (PcE (STA N bs a v) [] Y D sz [.ref a]) (GI (S := Sta) (fun x u => x = 0 ∧ u = σC0) (fun _ => []) Y D (va_A [] sz)) 0 0 (va_A [] sz) := MIs_E (c_J0_coder_7d493 (E := fun _ => 0) lok0 (k_coder N bs σC0)) sz
theorem cE_length {l : Launch} {D : va_G} {Y : CYs} {N : Nat} {bs : List Int32} {a v : Nat} (sz : Nat) : Met l yJ0_length_8abf5 (Cond.code yJ0_length_8abf5 cJ0_length_8abf5 1 (some .int) :: gW) rm_J0_length_8abf5 (PcE (STA N bs a v) [] Y D sz [.ref a]) (GI (S := Sta) (fun x u => x = nI N ∧ u = σC0) (fun _ => []) Y D (va_A [] sz)) 0 0 (va_A [] sz) := MIs_E (c_J0_length_8abf5 (E := fun _ => 0) lok0 (j_len (sb_shr0 _) σC0)) sz
theorem sta_cell {N : Nat} {bs : List Int32} {a v : Nat} {A : Nat → Prop} {s : State} {H : Heap} {locs : List Loc} (h : STA N bs a v A s s.heap) (hS : va_S A s.heap H locs) : ∃ cell : Cell, H[a]? = some cell ∧ cell.vm.isStatics = false ∧ s.vm.findClass "java/lang/String" = some cell.cls := by
  obtain ⟨cell, h1, h2, h3, -⟩ := h.1.kept hS.2.1
  exact ⟨cell, h1, h2, h3⟩
theorem nar_b : ∀ x : Nat, x < 128 → vp_nar .byte (nI x) = nI x := by decide
theorem fit_b : ∀ x : Nat, x < 128 → fits .byte (.int (nI x)) = true := by decide
/-- the bytes f, m of them, begin with the text t -/
def CT (t : List Nat) (m : Nat) (f : Nat → Int32) : Prop := t.length ≤ m ∧ m ≤ 802 ∧ FB f ∧ ∀ j, j < t.length → f j = nI (t.getD j 0)
theorem gd_l {t w : List Nat} {j : Nat} (h : j < t.length) : (t ++ w).getD j 0 = t.getD j 0 := by
  rw [List.getD_eq_getElem?_getD, List.getD_eq_getElem?_getD, List.getElem?_append_left h]
theorem gd_r {t w : List Nat} {j : Nat} : (t ++ w).getD (t.length + j) 0 = w.getD j 0 := by
  rw [List.getD_eq_getElem?_getD, List.getD_eq_getElem?_getD, List.getElem?_append_right (by omega), Nat.add_sub_cancel_left]
theorem CT_app {t w : List Nat} {m m' : Nat} {f f' : Nat → Int32} (h : CT t m f) (h1 : t.length + w.length ≤ m') (h2 : m' ≤ 802) (h3 : FB f') (h4 : ∀ j, j < t.length → f' j = f j) (h5 : ∀ j, j < w.length → f' (t.length + j) = nI (w.getD j 0)) : CT (t ++ w) m' f' := by
  refine ⟨by rw [List.length_append]; exact h1, h2, h3, fun j hj => ?_⟩
  rw [List.length_append] at hj
  by_cases q : j < t.length
  · rw [h4 j q, h.2.2.2 j q, gd_l q]
  · obtain ⟨i, rfl⟩ : ∃ i, j = t.length + i := ⟨j - t.length, by omega⟩
    rw [h5 i (by omega), gd_r]
theorem FB_bs {bs : List Int32} {N b : Nat} {f : Nat → Int32} (h : ∀ j, j < N → fits .byte (.int (bs.getD j 0)) = true) (hf : FB f) : FB (va_cpy (fun j => bs.getD j 0) f 0 b N) := fun i => by
  unfold va_cpy
  split
  · exact h _ (by omega)
  · exact hf _
/-- the bytes of a String are those of the text w -/
def SB (bs : List Int32) (w : List Nat) : Prop := (∀ j, j < w.length → bs.getD j 0 = nI (w.getD j 0)) ∧ ∀ j, j < w.length → w.getD j 0 < 128
