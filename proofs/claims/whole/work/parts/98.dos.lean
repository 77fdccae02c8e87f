/-! The form of a program: where its commands stand. -/
/-- no command begins there -/
def NS (K : Nat → Nat) (t t' : Nat) : Prop := t ≤ t' ∧ ∀ j, t ≤ j → j < t' → K j ≠ 6
theorem NS.app {K : Nat → Nat} {a b d : Nat} (h : NS K a b) (h2 : NS K b d) : NS K a d := ⟨Nat.le_trans h.1 h2.1, fun j h3 h4 => by
  rcases Nat.lt_or_ge j b with q | q
  · exact h.2 j h3 q
  · exact h2.2 j q h4⟩
theorem NS.one {K : Nat → Nat} {a : Nat} (h : K a ≠ 6) : NS K a (a + 1) := ⟨Nat.le_succ a, fun j h1 h2 => by
  have : j = a := by omega
  rw [this]; exact h⟩
theorem NS.nil {K : Nat → Nat} {a : Nat} : NS K a a := ⟨Nat.le_refl a, fun j h1 h2 => by omega⟩
theorem opL6 {k : Nat} (h : opL k < 5) : k ≠ 6 := fun e => by
  rw [e] at h
  exact absurd h (by decide)
theorem NS_GL {K : Nat → Nat} {P : Nat → Nat → Prop} {op Z : Nat → Prop} {L : Nat} (hP : ∀ x y, P x y → NS K x y) (ho : ∀ x, op x → K x ≠ 6) : ∀ q t t', GL P op Z L q t t' → NS K t t'
  | 0, t, t', h => by
    have e : t' = t := h.1
    rw [e]
    exact NS.nil
  | q + 1, t, t', h => by
    rcases h with ⟨_, e⟩ | ⟨h1, _, t1, h2, h3⟩
    · rw [e]
      exact NS.nil
    · exact (NS.one (ho t h1)).app ((hP _ _ h2).app (NS_GL hP ho q t1 t' h3))
theorem NS_GX {K : Nat → Nat} {L : Nat} : ∀ n l d t t', GX K L n l d t t' → NS K t t'
  | 0, _, _, _, _, h => h.elim
  | n + 1, l, d, t, t', h => by
    unfold GX at h
    by_cases q : l < 5
    · rw [if_pos q] at h
      obtain ⟨t1, h1, h2⟩ := h
      exact (NS_GX n _ _ _ _ h1).app (NS_GL (fun x y e => NS_GX n _ _ _ _ e) (fun x e => opL6 (by rw [e]; exact q)) _ _ _ h2)
    · rw [if_neg q] at h
      by_cases q5 : l = 5
      · rw [if_pos q5] at h
        exact NS_GX n _ _ _ _ h
      · rw [if_neg q5] at h
        by_cases q6 : l = 6
        · rw [if_pos q6] at h
          obtain ⟨_, h⟩ := h
          rcases h with ⟨h1, h2⟩ | ⟨h1, _, h2⟩ | ⟨h1, h2⟩ | ⟨h1, h2⟩ | ⟨h1, h2⟩
          · rw [h2]
            exact NS.one (by omega)
          · exact (NS.one (by omega)).app (NS_GX n _ _ _ _ h2)
          · exact NS_GX n _ _ _ _ h2
          · exact (NS.one (by omega)).app (NS_GX n _ _ _ _ h2)
          · exact (NS.one (by omega)).app (NS_GX n _ _ _ _ h2)
        · rw [if_neg q6] at h
          obtain ⟨h1, _, _, t1, h2, _, h3⟩ := h
          have h4 := (NS.one (K := K) (a := t) (by omega)).app (NS_GX n _ _ _ _ h2)
          rcases h3 with ⟨_, h5, h6⟩ | ⟨_, h5, t2, h6, _, h7, h8⟩
          · rw [h6]
            exact h4.app (NS.one (by omega))
          · rw [h8]
            exact h4.app ((NS.one (by omega)).app ((NS_GX n _ _ _ _ h6).app (NS.one (by omega))))
theorem NS_GW {K : Nat → Nat} {t t' : Nat} (h : GW K t t') : NS K t t' := by
  rcases h with ⟨h1, h2, h3⟩ | ⟨h1, h3⟩
  · rw [h3]
    exact (NS.one (by omega)).app (NS.one (by omega))
  · rw [h3]
    exact NS.one (by omega)
theorem NS_GS {K : Nat → Nat} : ∀ n s e, GS K n s e → NS K s e
  | 0, _, _, h => h.elim
  | n + 1, s, e, h => by
    obtain ⟨h1, h2, x, _, h3, h4⟩ := h
    have h5 := (NS.one (K := K) (a := s) (by omega)).app ((NS.one (K := K) (a := s + 1) (by omega)).app (NS_GX _ _ _ _ _ h3))
    rcases h4 with ⟨_, h6⟩ | ⟨h6, h7⟩
    · rw [h6]
      exact h5
    · exact h5.app ((NS.one (by omega)).app (NS_GS n _ _ h7))
theorem NS_GB1 {K : Nat → Nat} {s e : Nat} (h : GB1 K s e) : NS K s e := by
  obtain ⟨h1, h2, h3⟩ := h
  have h4 := (NS.one (K := K) (a := s) (by omega)).app (NS.one (K := K) (a := s + 1) (by omega))
  rcases h3 with ⟨_, h5⟩ | ⟨h5, n, _, h6⟩
  · rw [h5]
    exact h4
  · exact h4.app ((NS.one (K := K) (a := s + 2) (by omega)).app (NS_GS _ _ _ h6))
theorem NS_GB {K : Nat → Nat} : ∀ n s e, GB K n s e → NS K s e
  | 0, _, _, h => h.elim
  | n + 1, s, e, h => by
    obtain ⟨x, _, h1, h2⟩ := h
    rcases h2 with ⟨_, h3⟩ | ⟨h3, h4⟩
    · rw [h3]
      exact NS_GB1 h1
    · exact (NS_GB1 h1).app ((NS.one (by omega)).app (NS_GB n _ _ h4))
theorem NS_GI {K : Nat → Nat} {s e : Nat} (h : GI K s e) : NS K (s + 1) e ∧ (K s = 6 → K (s + 1) = 200) := by
  rcases h with ⟨h0, h1, h2, a, _, h3, h4, b, _, h5, h6, c, _, h7, h8, h9⟩ | ⟨h0, h1, a, h2, h3, b, _, h4, h5, h6⟩ | ⟨h0, b, _, h1, h2, h3⟩ | ⟨h0, h1, h2, b, _, h3, n, x, _, h4, h5, h6⟩
  · refine ⟨?_, fun e => by omega⟩
    rw [h9]
    exact (NS.one (K := K) (a := s + 1) (by omega)).app ((NS.one (K := K) (a := s + 2) (by omega)).app ((NS_GW h3).app ((NS.one (K := K) (a := a) (by omega)).app ((NS_GW h5).app ((NS.one (K := K) (a := b) (by omega)).app ((NS_GW h7).app (NS.one (K := K) (a := c) (by omega))))))))
  · refine ⟨?_, fun e => by omega⟩
    rw [h6]
    have h8 : NS K a (b + 1) := (NS.one (by omega)).app ((NS_GX _ _ _ _ _ h4).app (NS.one (by omega)))
    rcases h2 with ⟨_, h7⟩ | ⟨h7, h9, h10⟩
    · rw [h7] at h8
      exact (NS.one (by omega)).app h8
    · rw [h10] at h8
      exact (NS.one (K := K) (a := s + 1) (by omega)).app ((NS.one (K := K) (a := s + 2) (by omega)).app ((NS.one (K := K) (a := s + 3) (by omega)).app h8))
  · refine ⟨?_, fun e => by omega⟩
    rw [h3]
    exact (NS_GX _ _ _ _ _ h1).app (NS.one (by omega))
  · refine ⟨?_, fun _ => h1⟩
    rw [h6]
    exact (NS.one (K := K) (a := s + 1) (by omega)).app ((NS.one (K := K) (a := s + 2) (by omega)).app ((NS_GX _ _ _ _ _ h3).app ((NS_GB _ _ _ h4).app (NS.one (K := K) (a := x) (by omega)))))
theorem GPN_do {K : Nat → Nat} : ∀ n s e, GPN K n s e → ∀ j, s ≤ j → j < e → K j = 6 → K (j + 1) = 200
  | 0, s, e, h, j, h1, h2, h3 => by
    have h4 : e = s := h
    omega
  | n + 1, s, e, h, j, h1, h2, h3 => by
    obtain ⟨x, h4, h5, h6⟩ := h
    obtain ⟨h7, h8⟩ := NS_GI h5
    by_cases q : j = s
    · rw [q] at h3 ⊢
      exact h8 h3
    · rcases Nat.lt_or_ge j x with q2 | q2
      · exact absurd h3 (h7.2 j (by omega) q2)
      · exact GPN_do n x e h6 j q2 h2 h3
/-- how many commands begin before j -/
def dc (K : Nat → Nat) : Nat → Nat
  | 0 => 0
  | n + 1 => dc K n + (if K n = 6 then 1 else 0)
theorem dc_ns {K : Nat → Nat} {a : Nat} : ∀ n, NS K a (a + n) → dc K (a + n) = dc K a
  | 0, _ => rfl
  | n + 1, h => by
    have h1 := dc_ns n ⟨by omega, fun j h2 h3 => h.2 j h2 (by omega)⟩
    show dc K (a + n) + (if K (a + n) = 6 then 1 else 0) = _
    rw [if_neg (h.2 (a + n) (by omega) (by omega)), h1]
    rfl
theorem dc_ns' {K : Nat → Nat} {a b : Nat} (h : NS K a b) : dc K b = dc K a := by
  obtain ⟨n, rfl⟩ : ∃ n, b = a + n := ⟨b - a, by have := h.1; omega⟩
  exact dc_ns n h
theorem dc_mono {K : Nat → Nat} {a : Nat} : ∀ n, dc K a ≤ dc K (a + n)
  | 0 => Nat.le_refl _
  | n + 1 => Nat.le_trans (dc_mono n) (Nat.le_add_right _ _)
theorem dc_lt {K : Nat → Nat} {a b : Nat} (h : a < b) (hk : K a = 6) : dc K a < dc K b := by
  obtain ⟨n, rfl⟩ : ∃ n, b = a + 1 + n := ⟨b - a - 1, by omega⟩
  have h1 : dc K (a + 1) = dc K a + 1 := by
    show dc K a + (if K a = 6 then 1 else 0) = _
    rw [if_pos hk]
  have := dc_mono (K := K) (a := a + 1) n
  omega
theorem dc_inj {K : Nat → Nat} {a b : Nat} (ha : K a = 6) (hb : K b = 6) (h : dc K a = dc K b) : a = b := by
  rcases Nat.lt_trichotomy a b with q | q | q
  · have := dc_lt q ha
    omega
  · exact q
  · have := dc_lt q hb
    omega
theorem dc_le {K : Nat → Nat} : ∀ n, dc K n ≤ n
  | 0 => Nat.le_refl _
  | n + 1 => by
    have := dc_le (K := K) n
    show dc K n + (if K n = 6 then 1 else 0) ≤ n + 1
    by_cases q : K n = 6
    · rw [if_pos q]; omega
    · rw [if_neg q]; omega
