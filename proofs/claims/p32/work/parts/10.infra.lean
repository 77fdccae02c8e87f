/-! The state of a world of cells with fixed places: numbers by place and field; rows of numbers by place. -/
abbrev Sta : Type := (Nat → Int32) × (Nat → Int64) × (Nat → Nat → Int32) × (Nat → Nat → Int64) × (Nat → Nat)
def gI (σ : Sta) (k : Nat) : Int32 := σ.1 k
def gL (σ : Sta) (k : Nat) : Int64 := σ.2.1 k
def gA (σ : Sta) (q : Nat) : Nat → Int32 := σ.2.2.1 q
def gJ (σ : Sta) (q : Nat) : Nat → Int64 := σ.2.2.2.1 q
def gP (σ : Sta) (i : Nat) : Nat := σ.2.2.2.2 i
def sI (σ : Sta) (k : Nat) (v : Int32) : Sta := (va_up σ.1 k v, σ.2)
def sL (σ : Sta) (k : Nat) (v : Int64) : Sta := (σ.1, va_up σ.2.1 k v, σ.2.2)
def sA (σ : Sta) (q : Nat) (f : Nat → Int32) : Sta := (σ.1, σ.2.1, va_up σ.2.2.1 q f, σ.2.2.2)
def sJ (σ : Sta) (q : Nat) (f : Nat → Int64) : Sta := (σ.1, σ.2.1, σ.2.2.1, va_up σ.2.2.2.1 q f, σ.2.2.2.2)
def sP (σ : Sta) (i d : Nat) : Sta := (σ.1, σ.2.1, σ.2.2.1, σ.2.2.2.1, va_up σ.2.2.2.2 i d)
/-- a cell: 0 an object (class, fields: 0 int, 1 long, 2 a reference to a place), 1 int[], 2 long[], 3 boolean[], 4 the row of strategies -/
abbrev Dsc : Type := Nat × Nat × List (Nat × Nat)
abbrev CYs : Type := ClassId × ClassId × (ClassId × ClassId) × ClassId
def fv (E : Nat → Nat) (σ : Sta) (k : Nat) (d : Nat × Nat) : Value := match d.1 with
  | 0 => .int (gI σ k)
  | 1 => .long (gL σ k)
  | _ => .ref (E d.2)
def fvs (E : Nat → Nat) (σ : Sta) : Nat → List (Nat × Nat) → List Value
  | _, [] => []
  | k, d :: r => fv E σ k d :: fvs E σ (k + 1) r
def cv (Y : CYs) (E : Nat → Nat) (σ : Sta) (q : Nat) (d : Dsc) : va_E := match d.1 with
  | 0 => .inr (d.2.1, fvs E σ (64 * q) d.2.2)
  | 1 => .inl (Y.1, d.2.1, .inl (gA σ q))
  | 2 => .inl (Y.2.1, d.2.1, .inr (.inl (gJ σ q)))
  | 3 => .inl (Y.2.2.1.1, d.2.1, .inl (gA σ q))
  | _ => .inl (Y.2.2.2, d.2.1, .inr (.inr (.inr (.inr (fun i => some (E (41 + 5 * gP σ i)))))))
def wd (Y : CYs) (E : Nat → Nat) (σ : Sta) : Nat → List Dsc → va_W
  | _, [] => []
  | q, d :: r => (E q, cv Y E σ q d) :: wd Y E σ (q + 1) r
theorem wd_get {Y : CYs} {E : Nat → Nat} {σ : Sta} : ∀ {L : List Dsc} {q k : Nat} {d : Dsc}, L[k]? = some d → (wd Y E σ q L)[k]? = some (E (q + k), cv Y E σ (q + k) d)
  | [], q, k, d, h => by simp at h
  | d0 :: r, q, 0, d, h => by
    simp at h
    subst h
    rfl
  | d0 :: r, q, k + 1, d, h => by
    have h1 := wd_get (Y := Y) (E := E) (σ := σ) (L := r) (q := q + 1) (k := k) (d := d) (by simpa using h)
    rw [show q + (k + 1) = q + 1 + k by omega]
    exact h1
theorem wd_none {Y : CYs} {E : Nat → Nat} {σ : Sta} : ∀ {L : List Dsc} {q k : Nat}, L[k]? = none → (wd Y E σ q L)[k]? = none
  | [], q, k, h => by simp [wd]
  | d0 :: r, q, 0, h => by simp at h
  | d0 :: r, q, k + 1, h => by
    have h1 := wd_none (Y := Y) (E := E) (σ := σ) (L := r) (q := q + 1) (k := k) (by simpa using h)
    exact h1
theorem wd_len {Y : CYs} {E : Nat → Nat} {σ : Sta} : ∀ {L : List Dsc} {q : Nat}, (wd Y E σ q L).length = L.length
  | [], q => rfl
  | d0 :: r, q => by
    show (wd Y E σ (q + 1) r).length + 1 = r.length + 1
    rw [wd_len]
/-- a cell is set: what it is then, and all others as they were -/
theorem wd_set {Y : CYs} {E : Nat → Nat} {σ σ' : Sta} {L : List Dsc} {j : Nat} {dj : Dsc} {e : va_E} (hj : L[j]? = some dj) (he : cv Y E σ' j dj = e) (ho : ∀ k d, L[k]? = some d → k ≠ j → cv Y E σ' k d = cv Y E σ k d) : (wd Y E σ 0 L).set j (E j, e) = wd Y E σ' 0 L := by
  apply List.ext_getElem?
  intro i
  rw [List.getElem?_set]
  by_cases hij : j = i
  · subst hij
    rw [if_pos rfl]
    have h1 := wd_get (Y := Y) (E := E) (σ := σ') (q := 0) hj
    rw [Nat.zero_add] at h1
    have hl : j < (wd Y E σ 0 L).length := by
      rw [wd_len]
      exact (List.getElem?_eq_some_iff.mp hj).1
    rw [h1, if_pos hl, he]
  · rw [if_neg hij]
    cases hd : L[i]? with
    | none => rw [wd_none hd, wd_none hd]
    | some d =>
      have h1 := wd_get (Y := Y) (E := E) (σ := σ) (q := 0) hd
      have h2 := wd_get (Y := Y) (E := E) (σ := σ') (q := 0) hd
      rw [Nat.zero_add] at h1 h2
      rw [h1, h2, ho i d hd (fun h => hij h.symm)]
theorem fvs_congr {E : Nat → Nat} {σ σ' : Sta} : ∀ {fs : List (Nat × Nat)} {b : Nat}, (∀ x, b ≤ x → x < b + fs.length → gI σ' x = gI σ x ∧ gL σ' x = gL σ x) → fvs E σ' b fs = fvs E σ b fs
  | [], b, h => rfl
  | d :: r, b, h => by
    have h0 := h b (Nat.le_refl _) (by simp)
    have h1 := fvs_congr (E := E) (σ := σ) (σ' := σ') (fs := r) (b := b + 1) (fun x h1 h2 => h x (by omega) (by simp only [List.length_cons]; omega))
    show fv E σ' b d :: fvs E σ' (b + 1) r = fv E σ b d :: fvs E σ (b + 1) r
    rw [h1]
    unfold fv
    rw [h0.1, h0.2]
theorem fvs_get {E : Nat → Nat} {σ : Sta} : ∀ {fs : List (Nat × Nat)} {b i : Nat} {d : Nat × Nat}, fs[i]? = some d → (fvs E σ b fs)[i]? = some (fv E σ (b + i) d)
  | [], b, i, d, h => by simp at h
  | d0 :: r, b, 0, d, h => by
    simp at h
    subst h
    rfl
  | d0 :: r, b, i + 1, d, h => by
    have h1 := fvs_get (E := E) (σ := σ) (fs := r) (b := b + 1) (i := i) (d := d) (by simpa using h)
    rw [show b + (i + 1) = b + 1 + i by omega]
    exact h1
theorem fvs_len {E : Nat → Nat} {σ : Sta} : ∀ {fs : List (Nat × Nat)} {b : Nat}, (fvs E σ b fs).length = fs.length
  | [], b => rfl
  | d :: r, b => by
    show (fvs E σ (b + 1) r).length + 1 = r.length + 1
    rw [fvs_len]
theorem gI_sI (σ : Sta) (k : Nat) (v : Int32) (j : Nat) : gI (sI σ k v) j = if j = k then v else gI σ j := rfl
theorem gL_sL (σ : Sta) (k : Nat) (v : Int64) (j : Nat) : gL (sL σ k v) j = if j = k then v else gL σ j := rfl
theorem gA_sA (σ : Sta) (k : Nat) (v : Nat → Int32) (j : Nat) : gA (sA σ k v) j = if j = k then v else gA σ j := rfl
theorem gJ_sJ (σ : Sta) (k : Nat) (v : Nat → Int64) (j : Nat) : gJ (sJ σ k v) j = if j = k then v else gJ σ j := rfl
theorem gP_sP (σ : Sta) (k v j : Nat) : gP (sP σ k v) j = if j = k then v else gP σ j := rfl
theorem fvs_set {E : Nat → Nat} {σ σ' : Sta} {v : Value} : ∀ {fs : List (Nat × Nat)} {b i : Nat} {d : Nat × Nat}, fs[i]? = some d → fv E σ' (b + i) d = v → (∀ x, x ≠ b + i → gI σ' x = gI σ x ∧ gL σ' x = gL σ x) → (fvs E σ b fs).set i v = fvs E σ' b fs
  | [], b, i, d, h, hv, ho => by simp at h
  | d0 :: r, b, 0, d, h, hv, ho => by
    simp at h
    subst h
    show v :: fvs E σ (b + 1) r = fv E σ' b d0 :: fvs E σ' (b + 1) r
    rw [fvs_congr (E := E) (σ := σ) (σ' := σ') (fs := r) (b := b + 1) (fun x h1 _ => ho x (by omega)), ← hv, Nat.add_zero]
  | d0 :: r, b, i + 1, d, h, hv, ho => by
    have h1 := fvs_set (E := E) (σ := σ) (σ' := σ') (v := v) (fs := r) (b := b + 1) (i := i) (d := d) (by simpa using h) (by rw [show b + 1 + i = b + (i + 1) by omega]; exact hv) (fun x hx => ho x (by omega))
    show fv E σ b d0 :: (fvs E σ (b + 1) r).set i v = fv E σ' b d0 :: fvs E σ' (b + 1) r
    rw [h1]
    have h0 := ho b (by omega)
    unfold fv
    rw [h0.1, h0.2]
/-- every object has at most 64 fields -/
def Lok (L : List Dsc) : Prop := ∀ (k : Nat) (d : Dsc), L[k]? = some d → d.2.2.length ≤ 64
theorem Lok_of {L : List Dsc} (h : L.all (fun d => decide (d.2.2.length ≤ 64)) = true) : Lok L := fun k d hk => by
  have h1 := List.all_eq_true.mp h d (List.mem_of_getElem? hk)
  exact of_decide_eq_true h1
theorem cv_same {Y : CYs} {E : Nat → Nat} {σ σ' : Sta} {k : Nat} {d : Dsc} (hd : d.2.2.length ≤ 64) (h1 : ∀ x, 64 * k ≤ x → x < 64 * k + 64 → gI σ' x = gI σ x ∧ gL σ' x = gL σ x) (h2 : gA σ' k = gA σ k) (h3 : gJ σ' k = gJ σ k) (h4 : ∀ i, gP σ' i = gP σ i) : cv Y E σ' k d = cv Y E σ k d := by
  unfold cv
  rw [fvs_congr (E := E) (σ := σ) (σ' := σ') (fs := d.2.2) (b := 64 * k) (fun x a b => h1 x a (by omega)), h2, h3]
  simp only [h4]
theorem wd_sI {Y : CYs} {E : Nat → Nat} {σ : Sta} {L : List Dsc} (hL : Lok L) {q ci i z : Nat} {fs : List (Nat × Nat)} (hq : L[q]? = some (0, ci, fs)) (hf : fs[i]? = some (0, z)) (v : Int32) : (wd Y E σ 0 L).set q (E q, .inr (ci, (fvs E σ (64 * q) fs).set i (.int v))) = wd Y E (sI σ (64 * q + i) v) 0 L := by
  have hi : i < 64 := Nat.lt_of_lt_of_le (List.getElem?_eq_some_iff.mp hf).1 (hL q _ hq)
  refine wd_set hq ?_ (fun k d hk hne => ?_)
  · show Sum.inr (ci, fvs E (sI σ (64 * q + i) v) (64 * q) fs) = _
    rw [fvs_set (E := E) (σ := σ) (σ' := sI σ (64 * q + i) v) hf (by show Value.int (gI (sI σ (64 * q + i) v) (64 * q + i)) = _; rw [gI_sI, if_pos rfl]) (fun x hx => ⟨by rw [gI_sI, if_neg hx], rfl⟩)]
  · exact cv_same (hL k d hk) (fun x h1 h2 => ⟨by rw [gI_sI, if_neg (by omega)], rfl⟩) rfl rfl (fun _ => rfl)
theorem wd_sL {Y : CYs} {E : Nat → Nat} {σ : Sta} {L : List Dsc} (hL : Lok L) {q ci i z : Nat} {fs : List (Nat × Nat)} (hq : L[q]? = some (0, ci, fs)) (hf : fs[i]? = some (1, z)) (v : Int64) : (wd Y E σ 0 L).set q (E q, .inr (ci, (fvs E σ (64 * q) fs).set i (.long v))) = wd Y E (sL σ (64 * q + i) v) 0 L := by
  have hi : i < 64 := Nat.lt_of_lt_of_le (List.getElem?_eq_some_iff.mp hf).1 (hL q _ hq)
  refine wd_set hq ?_ (fun k d hk hne => ?_)
  · show Sum.inr (ci, fvs E (sL σ (64 * q + i) v) (64 * q) fs) = _
    rw [fvs_set (E := E) (σ := σ) (σ' := sL σ (64 * q + i) v) hf (by show Value.long (gL (sL σ (64 * q + i) v) (64 * q + i)) = _; rw [gL_sL, if_pos rfl]) (fun x hx => ⟨rfl, by rw [gL_sL, if_neg hx]⟩)]
  · exact cv_same (hL k d hk) (fun x h1 h2 => ⟨rfl, by rw [gL_sL, if_neg (by omega)]⟩) rfl rfl (fun _ => rfl)
theorem wd_sA {Y : CYs} {E : Nat → Nat} {σ : Sta} {L : List Dsc} (hL : Lok L) {q n : Nat} {z : List (Nat × Nat)} (hq : L[q]? = some (1, n, z)) (f : Nat → Int32) : (wd Y E σ 0 L).set q (E q, .inl (Y.1, n, .inl f)) = wd Y E (sA σ q f) 0 L := by
  refine wd_set hq ?_ (fun k d hk hne => ?_)
  · show Sum.inl (Y.1, n, Sum.inl (gA (sA σ q f) q)) = _
    rw [gA_sA, if_pos rfl]
  · exact cv_same (hL k d hk) (fun x h1 h2 => ⟨rfl, rfl⟩) (by rw [gA_sA, if_neg hne]) rfl (fun _ => rfl)
theorem wd_sZ {Y : CYs} {E : Nat → Nat} {σ : Sta} {L : List Dsc} (hL : Lok L) {q n : Nat} {z : List (Nat × Nat)} (hq : L[q]? = some (3, n, z)) (f : Nat → Int32) : (wd Y E σ 0 L).set q (E q, .inl (Y.2.2.1.1, n, .inl f)) = wd Y E (sA σ q f) 0 L := by
  refine wd_set hq ?_ (fun k d hk hne => ?_)
  · show Sum.inl (Y.2.2.1.1, n, Sum.inl (gA (sA σ q f) q)) = _
    rw [gA_sA, if_pos rfl]
  · exact cv_same (hL k d hk) (fun x h1 h2 => ⟨rfl, rfl⟩) (by rw [gA_sA, if_neg hne]) rfl (fun _ => rfl)
theorem wd_sJ {Y : CYs} {E : Nat → Nat} {σ : Sta} {L : List Dsc} (hL : Lok L) {q n : Nat} {z : List (Nat × Nat)} (hq : L[q]? = some (2, n, z)) (f : Nat → Int64) : (wd Y E σ 0 L).set q (E q, .inl (Y.2.1, n, .inr (.inl f))) = wd Y E (sJ σ q f) 0 L := by
  refine wd_set hq ?_ (fun k d hk hne => ?_)
  · show Sum.inl (Y.2.1, n, Sum.inr (Sum.inl (gJ (sJ σ q f) q))) = _
    rw [gJ_sJ, if_pos rfl]
  · exact cv_same (hL k d hk) (fun x h1 h2 => ⟨rfl, rfl⟩) rfl (by rw [gJ_sJ, if_neg hne]) (fun _ => rfl)
/-- what may change: the world's cells, and what is new -/
def AF (E : Nat → Nat) (n sz : Nat) : Nat → Prop := fun q => (∃ k, k < n ∧ q = E k) ∨ sz ≤ q
theorem wd_D {Y : CYs} {E : Nat → Nat} {σ σ' : Sta} {L : List Dsc} {A : Nat → Prop} (h : va_D A (wd Y E σ 0 L)) : va_D A (wd Y E σ' 0 L) := by
  have key : ∀ (i : Nat) (p : Nat × va_E), (wd Y E σ' 0 L)[i]? = some p → ∃ p', (wd Y E σ 0 L)[i]? = some p' ∧ p'.1 = p.1 := by
    intro i p hp
    cases hd : L[i]? with
    | none => rw [wd_none hd] at hp; cases hp
    | some d =>
      rw [wd_get hd] at hp
      exact ⟨_, wd_get hd, by rw [← Option.some.inj hp]⟩
  refine ⟨fun i j p q hp hq e => ?_, fun k q hq => ?_⟩
  · obtain ⟨p', a1, a2⟩ := key i p hp
    obtain ⟨q', b1, b2⟩ := key j q hq
    exact h.1 i j p' q' a1 b1 (by rw [a2, b2, e])
  · obtain ⟨q', b1, b2⟩ := key k q hq
    rw [← b2]
    exact h.2 k q' b1
theorem wd_DA {Y : CYs} {E : Nat → Nat} {σ σ' : Sta} {L : List Dsc} {A : Nat → Prop} {sz : Nat} (h : va_D A (wd Y E σ 0 L)) : va_D (AF E L.length sz) (wd Y E σ' 0 L) := by
  refine (wd_D (σ' := σ') h).weaken (fun k q hk _ => ?_)
  cases hd : L[k]? with
  | none => rw [wd_none hd] at hk; cases hk
  | some d =>
    rw [wd_get hd] at hk
    rw [← Option.some.inj hk, Nat.zero_add]
    exact Or.inl ⟨k, (List.getElem?_eq_some_iff.mp hd).1, rfl⟩
theorem AF_le {E : Nat → Nat} {n a b : Nat} (h : a ≤ b) {q : Nat} (hq : AF E n b q) : AF E n a q := hq.elim Or.inl (fun h2 => Or.inr (Nat.le_trans h h2))
/-- guards of what a method needs -/
theorem of_gd {α : Type} {c : Prop} [Decidable c] {K : Option α} {o : α} (h : (if c then none else K) = some o) : ¬ c ∧ K = some o := by
  by_cases hc : c
  · rw [if_pos hc] at h; cases h
  · rw [if_neg hc] at h; exact ⟨hc, h⟩
def bnd {α β : Type} (a : Option (α × Sta)) (k : α → Sta → Option β) : Option β := match a with
  | none => none
  | some q => k q.1 q.2
theorem of_bnd {α β : Type} {a : Option (α × Sta)} {k : α → Sta → Option β} {o : β} (h : bnd a k = some o) : ∃ r σ, a = some (r, σ) ∧ k r σ = some o := by
  cases a with
  | none => cases h
  | some q => exact ⟨q.1, q.2, rfl, h⟩
def lt {α β : Type} (a : α) (k : α → β) : β := k a
theorem of_lt {α β : Type} {a : α} {k : α → Option β} {o : β} (h : lt a k = some o) {x : α} (hx : x = a) : k x = some o := by
  subst hx
  exact h
