/-! Finding states; the branches of a choice. -/
theorem php : ∀ (N m : Nat) (f : Nat → Nat), (∀ i, i < m → f i < N) → (∀ i j, i < j → j < m → f i ≠ f j) → m ≤ N
  | 0, m, f, h, _ => by
    by_cases q : 0 < m
    · exact absurd (h 0 q) (Nat.not_lt_zero _)
    · omega
  | N + 1, 0, _, _, _ => Nat.zero_le _
  | N + 1, m + 1, f, h, hd => by
    have := php N m (fun i => if f i = N then f m else f i) (fun i hi => by
      show (if f i = N then f m else f i) < N
      have h1 := h i (by omega)
      have h2 := h m (by omega)
      have h3 := hd i m hi (by omega)
      by_cases q : f i = N
      · rw [if_pos q]
        omega
      · rw [if_neg q]
        omega) (fun i j hij hj => by
      show (if f i = N then f m else f i) ≠ (if f j = N then f m else f j)
      have h1 := hd i j hij (by omega)
      have h2 := hd i m (by omega) (by omega)
      have h3 := hd j m hj (by omega)
      by_cases q : f i = N
      · rw [if_pos q, if_neg (by omega)]
        exact fun e => h3 e.symm
      · rw [if_neg q]
        by_cases q2 : f j = N
        · rw [if_pos q2]
          exact h2
        · rw [if_neg q2]
          exact h1)
    omega
def SM (σ : Sta) (i : Nat) : Prop := gA σ 32 (i * 6) = gA σ 37 0 ∧ gA σ 32 (i * 6 + 1) = gA σ 37 1
def ES (n ns : Nat) (σ : Sta) : Prop := gI σ 322 = nI ns ∧ gI σ 329 = 0 ∧ (∀ i, i < ns → ∃ x y, x ≤ n ∧ y < 4 ∧ VS σ i x y) ∧ ∀ i j, i < j → j < ns → ¬ (gA σ 32 (i * 6) = gA σ 32 (j * 6) ∧ gA σ 32 (i * 6 + 1) = gA σ 32 (j * 6 + 1))
theorem ES_le {n ns : Nat} {σ : Sta} (hn : n < 22) (h : ES n ns σ) : ns ≤ 88 := by
  have := php (4 * (n + 1)) ns (fun i => 4 * (gA σ 32 (i * 6)).toNatClampNeg + (gA σ 32 (i * 6 + 1)).toNatClampNeg) (fun i hi => by
    obtain ⟨x, y, h1, h2, h3, h4⟩ := h.2.2.1 i hi
    show 4 * (gA σ 32 (i * 6)).toNatClampNeg + (gA σ 32 (i * 6 + 1)).toNatClampNeg < _
    rw [h3, h4, nI_clamp (by omega), nI_clamp (by omega)]
    omega) (fun i j hij hj e => by
    obtain ⟨x, y, h1, h2, h3, h4⟩ := h.2.2.1 i (by omega)
    obtain ⟨x', y', g1, g2, g3, g4⟩ := h.2.2.1 j hj
    have e' : 4 * (gA σ 32 (i * 6)).toNatClampNeg + (gA σ 32 (i * 6 + 1)).toNatClampNeg = 4 * (gA σ 32 (j * 6)).toNatClampNeg + (gA σ 32 (j * 6 + 1)).toNatClampNeg := e
    rw [h3, h4, g3, g4, nI_clamp (by omega), nI_clamp (by omega), nI_clamp (by omega), nI_clamp (by omega)] at e'
    refine h.2.2.2 i j hij hj ?_
    rw [h3, h4, g3, g4]
    exact ⟨by rw [show x = x' by omega], by rw [show y = y' by omega]⟩)
  omega
section PN
variable {n ns : Nat} {σ : Sta}
theorem x_same {i : Nat} (hi : i < 100) (h : gI σ 192 = nI 2) (k2 : Int32 → Sta → Option (Int32 × Sta)) : (SM σ i → f_X5_placeOfNext_14 k2 FU (nI i) 1 0 σ = some (nI i, σ)) ∧ (¬ SM σ i → f_X5_placeOfNext_14 k2 FU (nI i) 1 0 σ = k2 (nI (i + 1)) σ) := by
  obtain ⟨F, hF⟩ : ∃ k, FU = k + 1 + 1 + 1 := ⟨999999997, rfl⟩
  have e1 : ∀ s0 : Int32, f_X5_placeOfNext_54 k2 (f_X5_placeOfNext_14 k2 (F + 1 + 1)) (nI i) 0 s0 σ = f_X5_placeOfNext_14 k2 (F + 1 + 1) (nI i) s0 (nI 1) σ := fun _ => rfl
  have e2 : ∀ s0 : Int32, f_X5_placeOfNext_54 k2 (f_X5_placeOfNext_14 k2 (F + 1)) (nI i) (nI 1) s0 σ = f_X5_placeOfNext_14 k2 (F + 1) (nI i) s0 (nI 2) σ := fun _ => rfl
  have h0 : f_X5_placeOfNext_14 k2 FU (nI i) 1 0 σ = if gA σ 32 (i * 6) = gA σ 37 0 then f_X5_placeOfNext_14 k2 (F + 1 + 1) (nI i) 1 (nI 1) σ else f_X5_placeOfNext_14 k2 (F + 1 + 1) (nI i) 0 (nI 1) σ := by
    rw [hF, f_X5_placeOfNext_14, h, if_neg (by decide), if_neg (by decide), show (6 : Int32) = nI 6 from rfl, pk_mul, Int32.add_zero, if_neg (nI_in (by omega) (by decide)), if_neg (show ¬ ((0 : Int32) < 0 ∨ 6 ≤ (0 : Int32).toNatClampNeg) by decide), nI_clamp (by omega), e1, e1]
    rfl
  have h1 : f_X5_placeOfNext_14 k2 (F + 1 + 1) (nI i) 1 (nI 1) σ = if gA σ 32 (i * 6 + 1) = gA σ 37 1 then f_X5_placeOfNext_14 k2 (F + 1) (nI i) 1 (nI 2) σ else f_X5_placeOfNext_14 k2 (F + 1) (nI i) 0 (nI 2) σ := by
    rw [f_X5_placeOfNext_14, h, if_neg (by decide), if_neg (by decide), show (6 : Int32) = nI 6 from rfl, pk_mul, nI_add, if_neg (nI_in (by omega) (by decide)), if_neg (nI_in (by decide) (by decide)), nI_clamp (by omega), nI_clamp (by omega), e2, e2]
  have h1' : f_X5_placeOfNext_14 k2 (F + 1 + 1) (nI i) 0 (nI 1) σ = k2 (nI (i + 1)) σ := by
    unfold f_X5_placeOfNext_14 f_X5_placeOfNext_61
    rw [h, if_neg (by decide), if_pos rfl, if_pos rfl, lt_e, nI_1]
  have h2 : f_X5_placeOfNext_14 k2 (F + 1) (nI i) 1 (nI 2) σ = some (nI i, σ) := by
    unfold f_X5_placeOfNext_14 f_X5_placeOfNext_61
    rw [h, if_pos (by decide), if_neg (by decide)]
  have h2' : f_X5_placeOfNext_14 k2 (F + 1) (nI i) 0 (nI 2) σ = k2 (nI (i + 1)) σ := by
    unfold f_X5_placeOfNext_14 f_X5_placeOfNext_61
    rw [h, if_pos (by decide), if_pos rfl, lt_e, nI_1]
  refine ⟨fun hs => ?_, fun hs => ?_⟩
  · rw [h0, if_pos hs.1, h1, if_pos hs.2, h2]
  · rw [h0]
    by_cases q : gA σ 32 (i * 6) = gA σ 37 0
    · rw [if_pos q, h1, if_neg (fun e => hs ⟨q, e⟩), h2']
    · rw [if_neg q, h1']
theorem x_place (h : gI σ 192 = nI 2) (h2 : gI σ 322 = nI ns) (hns : ns ≤ 100) : ∀ (m i n : Nat), i + m = ns → m < n → ∃ p, f_X5_placeOfNext_2 n (nI i) σ = some (nI p, σ) ∧ i ≤ p ∧ p ≤ ns ∧ (∀ j, i ≤ j → j < p → ¬ SM σ j) ∧ (p < ns → SM σ p)
  | _, _, 0, _, hn => absurd hn (Nat.not_lt_zero _)
  | 0, i, n + 1, hi, hn => by
    refine ⟨ns, ?_, by omega, Nat.le_refl _, fun j h1 h2 => by omega, fun h => absurd h (Nat.lt_irrefl _)⟩
    rw [f_X5_placeOfNext_2, h2, if_pos (nI_le (by omega) (by omega))]
  | m + 1, i, n + 1, hi, hn => by
    rw [f_X5_placeOfNext_2, h2, if_neg (nI_ge (by omega) (by omega))]
    obtain ⟨s1, s2⟩ := x_same (σ := σ) (i := i) (by omega) h (f_X5_placeOfNext_2 n)
    by_cases q : SM σ i
    · exact ⟨i, s1 q, Nat.le_refl _, by omega, fun j h1 h2 => by omega, fun _ => q⟩
    · obtain ⟨p, e1, e2, e3, e4, e5⟩ := x_place h h2 hns m (i + 1) n (by omega) (by omega)
      refine ⟨p, (s2 q).trans e1, by omega, e3, fun j h1 h2 => ?_, e5⟩
      by_cases qj : j = i
      · subst qj
        exact q
      · exact e4 j (by omega) h2
def addN (σ : Sta) (ns : Nat) : Sta := sI (sA σ 32 (va_cpy (gA σ 37) (gA σ 32) 0 (ns * 6) 6)) 322 (nI (ns + 1))
theorem x_add (h2 : gI σ 322 = nI ns) (hns : ns < 100) : f_X5_addNext σ = some (1, addN σ ns) := by
  unfold f_X5_addNext addN
  rw [h2, if_pos (show nI ns < 100 from nI_lt hns (by decide)), show (6 : Int32) = nI 6 from rfl, pk_mul, nI_clamp (show 6 < 2 ^ 31 by decide), nI_clamp (show ns * 6 < 2 ^ 31 by omega), if_neg (fun e => by
    rcases e with e | e | e | e | e
    · exact absurd e (by decide)
    · exact nI_pos (by omega) e
    · exact absurd e (by decide)
    · exact absurd e (by decide)
    · omega), lt_e, lt_e, gI_sA, h2, nI_1]
  rfl
def cI1 : Nat → Prop := fun q => q = 322
def cA1 : Nat → Prop := fun q => q = 32 ∨ q = 35 ∨ q = 37
def Kc (σ σ' : Sta) : Prop := Kp cI1 n0 cA1 k18 σ σ'
theorem Kc_x {σ' : Sta} (h : Kc σ σ') : Kx σ σ' := h.mono (fun _ e => Or.inl e) (fun _ e => e) (fun k e => by unfold cA1 at e; unfold xA; omega) (fun _ e => Or.inl e)
theorem Kc_n {σ' : Sta} (h : KN σ σ') : Kc σ σ' := h.mono (fun _ e => e.elim) (fun _ e => e) (fun k e => by unfold k37 at e; unfold cA1; omega) (fun _ e => e)
def FS (ns : Nat) (σ σ' : Sta) : Prop := ∀ j, j < 6 * ns → gA σ' 32 j = gA σ 32 j
def FT (m : Nat) (σ σ' : Sta) : Prop := ∀ j, j < m → gA σ' 35 j = gA σ 35 j
theorem VS_f {σ' : Sta} {s x y : Nat} (h : FS ns σ σ') (hs : s < ns) (hv : VS σ s x y) : VS σ' s x y := by
  unfold VS
  rw [h (s * 6) (by omega), h (s * 6 + 1) (by omega)]
  exact hv
theorem ES_n {σ' : Sta} (hk : KN σ σ') (h : ES n ns σ) : ES n ns σ' := by
  unfold ES VS
  rw [hk.1 322 (fun e => e), hk.1 329 (fun e => e), hk.2.2.1 32 (by unfold k37; decide)]
  exact h
/-- a state is found, or added -/
theorem x_find {x y : Nat} (hn : n < 22) (h192 : gI σ 192 = nI 2) (h : ES n ns σ) (hx : x ≤ n) (hy : y < 4) (e0 : gA σ 37 0 = nI x) (e1 : gA σ 37 1 = nI y) :
    ∃ p, f_X5_placeOfNext σ = some (nI p, σ) ∧ ((p < ns ∧ nI p ≠ gI σ 322) ∨ (p = ns ∧ nI p = gI σ 322 ∧ f_X5_addNext σ = some (1, addN σ ns) ∧ ES n (ns + 1) (addN σ ns) ∧ FS ns σ (addN σ ns) ∧ ns < 88)) := by
  have h88 := ES_le hn h
  obtain ⟨h1, h2, h3, h4⟩ := h
  obtain ⟨p, g1, g2, g3, g4, g5⟩ := x_place h192 h1 (by omega) ns 0 FU (by omega) (Nat.lt_of_le_of_lt h88 (FU_lt (by decide)))
  refine ⟨p, g1, ?_⟩
  by_cases q : p < ns
  · exact Or.inl ⟨q, by rw [h1]; exact nI_neq (by omega) (by omega) (by omega)⟩
  · obtain rfl : p = ns := by omega
    have hF : FS p σ (addN σ p) := fun j hj => by
      show va_cpy (gA σ 37) (gA σ 32) 0 (p * 6) 6 j = _
      rw [cpy_at, if_neg (by omega)]
    have hE : ES n (p + 1) (addN σ p) := by
      have at0 : gA (addN σ p) 32 (p * 6) = nI x := by
        show va_cpy (gA σ 37) (gA σ 32) 0 (p * 6) 6 (p * 6) = _
        rw [cpy_at, if_pos ⟨Nat.le_refl _, by omega⟩, Nat.sub_self]
        exact e0
      have at1 : gA (addN σ p) 32 (p * 6 + 1) = nI y := by
        show va_cpy (gA σ 37) (gA σ 32) 0 (p * 6) 6 (p * 6 + 1) = _
        rw [cpy_at, if_pos ⟨by omega, by omega⟩, show 0 + (p * 6 + 1 - p * 6) = 1 by omega]
        exact e1
      refine ⟨rfl, h2, fun i hi => ?_, fun i j hij hj => ?_⟩
      · by_cases q2 : i = p
        · subst q2
          exact ⟨x, y, hx, hy, at0, at1⟩
        · obtain ⟨x', y', a, b, c⟩ := h3 i (by omega)
          exact ⟨x', y', a, b, VS_f hF (by omega) c⟩
      · by_cases q2 : j = p
        · subst q2
          rw [at0, at1, hF (i * 6) (by omega), hF (i * 6 + 1) (by omega), ← e0, ← e1]
          exact g4 i (Nat.zero_le _) hij
        · rw [hF (i * 6) (by omega), hF (i * 6 + 1) (by omega), hF (j * 6) (by omega), hF (j * 6 + 1) (by omega)]
          exact h4 i j hij (by omega)
    have h88' := ES_le hn hE
    exact Or.inr ⟨rfl, h1.symm, x_add h1 (by omega), hE, hF, by omega⟩
end PN
