/-! Expressions: what they yield on both sides. -/
theorem nI_in2 {c N : Nat} (h : c < N) (hc : c < 2 ^ 31) : ¬ (nI c < 0 ∨ N ≤ c) := fun q => by
  rcases q with q | q
  · exact nI_pos hc q
  · omega
/-- heights: an expression begins with h numbers on the pile and ends with h' -/
def hOk (nv : Nat) : XL → Nat → Nat → Prop
  | [], h, h' => h = h'
  | p :: l, h, h' => (p.1 < 2 ∧ h < 60 ∧ (p.1 = 1 → ∃ v : Nat, v < nv ∧ p.2 = lN v) ∧ hOk nv l (h + 1) h') ∨ (2 ≤ p.1 ∧ p.1 < 17 ∧ 2 ≤ h ∧ hOk nv l (h - 1) h') ∨ (17 ≤ p.1 ∧ p.1 < 20 ∧ 1 ≤ h ∧ hOk nv l h h')
def XC (σ : Sta) : Nat → XL → Prop
  | _, [] => True
  | b, p :: l => gA σ 14 b = cOp p.1 ∧ (p.1 < 2 → gJ σ 15 b = p.2) ∧ XC σ (b + 1) l
def XM (τ : Sta) : Nat → XL → Prop
  | s, [] => gA τ 19 s = 50
  | s, p :: l => gA τ 19 s = mOp p.1 ∧ (p.1 < 2 → gJ τ 20 s = p.2) ∧ XM τ (s + 1) l
def k18 : Nat → Prop := fun q => q = 18
def k27 : Nat → Prop := fun q => q = 27
theorem XC_kp {σ σ' : Sta} (h : Kp n0 n0 n0 k18 σ σ') : ∀ (l : XL) (b : Nat), XC σ b l → XC σ' b l
  | [], _, _ => True.intro
  | p :: l, b, ⟨h1, h2, h3⟩ => ⟨by rw [h.2.2.1 _ id]; exact h1, fun e => by rw [h.2.2.2.1 _ (by unfold k18; omega)]; exact h2 e, XC_kp h l (b + 1) h3⟩
theorem XM_kp {τ τ' : Sta} (h : Kp n0 n0 n0 k27 τ τ') : ∀ (l : XL) (s : Nat), XM τ s l → XM τ' s l
  | [], _, h1 => by unfold XM at *; rw [h.2.2.1 _ id]; exact h1
  | p :: l, s, ⟨h1, h2, h3⟩ => ⟨by rw [h.2.2.1 _ id]; exact h1, fun e => by rw [h.2.2.2.1 _ (by unfold k27; omega)]; exact h2 e, XM_kp h l (s + 1) h3⟩
theorem cOp_un {o : Nat} (h1 : 17 ≤ o) (h2 : o < 20) : o = 17 ∨ o = 18 ∨ o = 19 := by omega
theorem isUn (σ : Sta) : ∀ o, o < 20 → f_X0_isUnary (cOp o) σ = some (if 17 ≤ o then 1 else 0, σ)
  | 0, _ | 1, _ | 2, _ | 3, _ | 4, _ | 5, _ | 6, _ | 7, _ | 8, _ | 9, _ | 10, _ | 11, _ | 12, _ | 13, _ | 14, _ | 15, _ | 16, _ | 17, _ | 18, _ | 19, _ => rfl
  | n + 20, h => absurd h (by omega)
theorem cOp_274 : ∀ o, o < 20 → (cOp o = 274 ↔ o = 0) := by decide
theorem cOp_273 : ∀ o, o < 20 → (cOp o = 273 ↔ o = 1) := by decide
theorem mOp_50 : ∀ o, o < 20 → ¬ mOp o = 50 := by decide
theorem mOp_1 : ∀ o, o < 20 → (1 < mOp o ↔ 2 ≤ o) := by decide
theorem mOp_40 : ∀ o, o < 20 → (mOp o < 40 ↔ o < 17) := by decide
theorem mOp_0 : ∀ o, o < 20 → (mOp o = 0 ↔ o = 0) := by decide
theorem e_eval {nv s : Nat} (hs : s < 100) (hnv : nv ≤ 6) : ∀ (l : XL) (i j h e n n' : Nat) (e' : Int32) (σ τ : Sta), hOk nv l h 1 → XC σ i l → XM τ j l → i + l.length = e → e ≤ 1500 → j + l.length < 3004 → e' = nI e → l.length < n → l.length < n' → h ≤ 60 → (∀ k, k < h → gJ σ 18 k = gJ τ 27 k) →
    (∀ v, v < nv → gA σ 32 (s * 6 + v) = gA τ 21 (6 * s + v)) → ∀ x : Nat, x < 1500 → gA σ 17 x = e' →
    ∃ r σ' τ', f_X0_reckon_25 n (nI x) (nI (s * 6)) (nI h) (nI i) σ = some (r, σ') ∧ f_X10_worthOf_5 n' (nI s) (nI h) (nI j) τ = some (r, τ') ∧ Kp n0 n0 n0 k18 σ σ' ∧ Kp n0 n0 n0 k27 τ τ'
  | _, _, _, _, _, 0, _, _, _, _, _, _, _, _, _, _, _, hn, _, _, _, _, _, _, _ => absurd hn (Nat.not_lt_zero _)
  | _, _, _, _, _, _ + 1, 0, _, _, _, _, _, _, _, _, _, _, _, hn, _, _, _, _, _, _ => absurd hn (Nat.not_lt_zero _)
  | [], i, j, h, e, n + 1, n' + 1, e', σ, τ, hh, hc, hm, hie, he, hj, he', hn, hn', h60, hp, hv, x, hx, hxe => by
    have hh1 : h = 1 := hh
    have hie' : i + 0 = e := hie
    have hj' : j + 0 < 3004 := hj
    refine ⟨gJ τ 27 0, σ, τ, ?_, ?_, Kp.rfl', Kp.rfl'⟩
    · rw [f_X0_reckon_25, if_neg (nI_in (by omega) (by omega)), nI_clamp (by omega), hxe, he', if_pos (nI_le (by omega) (by omega)), hh1, if_neg (by decide), if_neg (by decide), show ((0 : Int32).toNatClampNeg) = 0 from rfl, hp 0 (by omega)]
      rfl
    · rw [f_X10_worthOf_5, if_neg (nI_in (by omega) (by omega)), nI_clamp (by omega), show gA τ 19 j = 50 from hm, if_pos rfl, if_neg (by decide)]
      rfl
  | (o, y) :: l, i, j, h, e, n + 1, n' + 1, e', σ, τ, hh, hc, hm, hie, he, hj, he', hn, hn', h60, hp, hv, x, hx, hxe => by
    have hie' : i + (l.length + 1) = e := hie
    have hj' : j + (l.length + 1) < 3004 := hj
    have hn1 : l.length < n := Nat.lt_of_succ_lt_succ hn
    have hn1' : l.length < n' := Nat.lt_of_succ_lt_succ hn'
    obtain ⟨c1', c2', c3⟩ := hc
    obtain ⟨m1', m2', m3⟩ := hm
    have c1 : gA σ 14 i = cOp o := c1'
    have c2 : o < 2 → gJ σ 15 i = y := c2'
    have m1 : gA τ 19 j = mOp o := m1'
    have m2 : o < 2 → gJ τ 20 j = y := m2'
    have ho : o < 20 := by
      rcases hh with ⟨a, _⟩ | ⟨_, a, _⟩ | ⟨_, a, _⟩ <;> omega
    have go : ∀ (h2 : Nat) (v : Int64), hOk nv l h2 1 → h2 ≤ 60 → 1 ≤ h2 → h2 - 1 ≤ h → ∃ r σ' τ', f_X0_reckon_25 n (nI x) (nI (s * 6)) (nI h2) (nI (i + 1)) (sJ σ 18 (vp_updL (gJ σ 18) (h2 - 1) v)) = some (r, σ') ∧ f_X10_worthOf_5 n' (nI s) (nI h2) (nI (j + 1)) (sJ τ 27 (vp_updL (gJ τ 27) (h2 - 1) v)) = some (r, τ') ∧ Kp n0 n0 n0 k18 σ σ' ∧ Kp n0 n0 n0 k27 τ τ' := fun h2 v q1 q2 q3 q4 => by
      have K1 : Kp n0 n0 n0 k18 σ (sJ σ 18 (vp_updL (gJ σ 18) (h2 - 1) v)) := Kp.sJ rfl Kp.rfl'
      have K2 : Kp n0 n0 n0 k27 τ (sJ τ 27 (vp_updL (gJ τ 27) (h2 - 1) v)) := Kp.sJ rfl Kp.rfl'
      obtain ⟨r, σ', τ', e1, e2, e3, e4⟩ := e_eval hs hnv l (i + 1) (j + 1) h2 e n n' e' _ _ q1 (XC_kp K1 l _ c3) (XM_kp K2 l _ m3) (by omega) he (by omega) he' hn1 hn1' q2 (fun k hk => by
        rw [gJ_sJ, if_pos rfl, gJ_sJ, if_pos rfl, updL_at, updL_at]
        by_cases hkk : k = h2 - 1
        · rw [if_pos hkk, if_pos hkk]
        · rw [if_neg hkk, if_neg hkk]; exact hp k (by omega)) hv x hx hxe
      exact ⟨r, σ', τ', e1, e2, K1.trans e3, K2.trans e4⟩
    rw [f_X0_reckon_25, if_neg (nI_in (by omega) (by omega)), nI_clamp (by omega), hxe, he', if_neg (nI_ge (by omega) (by omega)), if_neg (nI_in (by omega) (by omega)), nI_clamp (n := i) (by omega), lt_e (gA σ 14 i), c1, f_X10_worthOf_5, if_neg (nI_in (by omega) (by omega)), if_neg (nI_in (by omega) (by omega)), nI_clamp (n := j) (by omega), m1, if_neg (mOp_50 o ho), lt_e (mOp o)]
    rcases hh with ⟨a1, a2, a3, a4⟩ | ⟨a1, a2, a3, a4⟩ | ⟨a1, a2, a3, a4⟩
    · have a1' : o < 2 := a1
      have hg := go (h + 1)
      rw [if_neg (show ¬ 1 < mOp o from fun q => by have := (mOp_1 o ho).mp q; omega)]
      unfold f_X0_push f_X0_reckon_188 f_X10_worthOf_71 f_X10_worthOf_180
      by_cases h0 : o = 0
      · rw [if_pos ((cOp_274 o ho).mpr h0), if_pos ((mOp_0 o ho).mpr h0), if_neg (nI_in2 (c := i) (N := 1500) (by omega) (by omega)), if_neg (nI_in2 (c := j) (N := 3004) (by omega) (by omega)), if_pos (by rw [nI_ltL (by omega) (by decide)]; omega), if_neg (nI_in (c := h) (N := 60) (by omega) (by omega)), if_neg (nI_in (c := h) (N := 64) (by omega) (by omega))]
        simp only [lt_e, bnd_s, nI_1]
        rw [nI_clamp (n := h) (by omega), c2 a1, m2 a1]
        exact hg y a4 (by omega) (by omega) (by omega)
      · have h1 : o = 1 := by omega
        obtain ⟨v, v1, v2⟩ := a3 h1
        have v2' : y = lN v := v2
        rw [if_neg (show ¬ cOp o = 274 from fun q => h0 ((cOp_274 o ho).mp q)), if_pos ((cOp_273 o ho).mpr h1), if_neg (show ¬ mOp o = 0 from fun q => h0 ((mOp_0 o ho).mp q)), if_neg (nI_in2 (c := i) (N := 1500) (by omega) (by omega)), if_neg (nI_in2 (c := j) (N := 3004) (by omega) (by omega)), lt_e, c2 a1, m2 a1, v2', lN_i, nI_add, e_entry (by omega) (by omega), bnd_s, if_pos (show nI h < 60 by rw [nI_ltL (by omega) (by decide)]; omega), if_neg (nI_in (c := h) (N := 60) (by omega) (by omega)), nI_Lmul, nI_add, if_neg (nI_in (c := 6 * s + v) (N := 600) (by omega) (by omega)), if_neg (nI_in (c := h) (N := 64) (by omega) (by omega))]
        simp only [lt_e, bnd_s, nI_1]
        rw [nI_clamp (n := h) (by omega), nI_clamp (n := 6 * s + v) (by omega), hv v v1]
        exact hg _ a4 (by omega) (by omega) (by omega)
    · have a1' : 2 ≤ o := a1
      have a2' : o < 17 := a2
      obtain ⟨v, b1, b2⟩ := e_bin a1' a2' (gJ τ 27 (h - 2)) (gJ τ 27 (h - 1)) σ τ
      have hg := go (h - 1) v a4 (by omega) (by omega) (by omega)
      unfold f_X0_reckon_188 f_X10_worthOf_180
      rw [if_neg (fun q => by have := (cOp_274 o ho).mp q; omega), if_neg (fun q => by have := (cOp_273 o ho).mp q; omega), isUn σ o ho, if_neg (show ¬ 17 ≤ o by omega), bnd_s, ite00, if_neg (by rw [nI_ltL (by omega) (by decide)]; omega), lt_e, pk_m1' (by omega), nI_subL (by omega), if_neg (nI_in (by omega) (by omega)), if_neg (nI_in (by omega) (by omega)), nI_clamp (n := h - 1 - 1) (by omega), nI_clamp (n := h - 1) (by omega), hp (h - 1 - 1) (by omega), hp (h - 1) (by omega), show h - 1 - 1 = h - 2 by omega, b1, bnd_s, if_neg (by
          intro q
          rcases q with q | q
          · exact nI_pos (by omega) q
          · omega), lt_e, lt_e, nI_1]
      rw [if_pos ((mOp_1 o ho).mpr a1'), if_pos ((mOp_40 o ho).mpr a2'), lt_e, nI_subL (by omega), if_neg (nI_in (by omega) (by omega)), if_neg (nI_in (by omega) (by omega)), nI_clamp (n := h - 1 - 1) (by omega), nI_clamp (n := h - 1) (by omega), show h - 1 - 1 = h - 2 by omega, b2, bnd_s, if_neg (by
          intro q
          rcases q with q | q
          · exact nI_pos (by omega) q
          · omega), lt_e, lt_e, nI_1]
      exact hg
    · have a1' : 17 ≤ o := a1
      have a2' : o < 20 := a2
      have hg := fun v => go h v a4 (by omega) (by omega) (by omega)
      unfold f_X0_reckon_188 f_X10_worthOf_138 f_X10_worthOf_146 f_X10_worthOf_180
      rw [if_neg (fun q => by have := (cOp_274 o ho).mp q; omega), if_neg (fun q => by have := (cOp_273 o ho).mp q; omega), isUn σ o ho, if_pos a1', bnd_s, ite10, if_neg (by rw [nI_ltL (by omega) (by decide)]; omega), nI_subL (by omega), if_neg (nI_in (by omega) (by omega)), nI_clamp (n := h - 1) (by omega), hp (h - 1) (by omega), if_pos ((mOp_1 o ho).mpr (by omega)), if_neg (show ¬ mOp o < 40 from fun q => by have := (mOp_40 o ho).mp q; omega), if_neg (nI_in2 (c := h - 1) (N := 64) (by omega) (by omega)), lt_e]
      have hgd : ¬ (nI (h - 1) < 0 ∨ 60 ≤ h - 1) := fun q => by
        rcases q with q | q
        · exact nI_pos (by omega) q
        · omega
      have hgd2 : ¬ (nI (h - 1) < 0 ∨ 64 ≤ h - 1) := nI_in2 (by omega) (by omega)
      simp only [if_neg hgd2, lt_e, nI_1]
      generalize gJ τ 27 (h - 1) = z
      rcases cOp_un a1' a2' with rfl | rfl | rfl
      · rw [show f_X0_unary (cOp 17) z σ = if lg_cmp z 0 = 0 then some (1, σ) else some (0, σ) from rfl, if_pos (show mOp 17 = 40 from rfl)]
        by_cases hz : lg_cmp z 0 = 0
        · rw [if_pos hz, if_pos hz, bnd_s, if_neg hgd]
          exact hg 1
        · rw [if_neg hz, if_neg hz, bnd_s, if_neg hgd]
          exact hg 0
      · rw [show f_X0_unary (cOp 18) z σ = some (-z, σ) from rfl, if_neg (show ¬ mOp 18 = 40 by decide), if_pos (show mOp 18 = 41 from rfl), bnd_s, if_neg hgd]
        exact hg (-z)
      · rw [show f_X0_unary (cOp 19) z σ = some (if 0 < z then z else -z, σ) from rfl, if_neg (show ¬ mOp 19 = 40 by decide), if_neg (show ¬ mOp 19 = 41 by decide), bnd_s, if_neg hgd]
        by_cases hz : 0 < z
        · rw [if_pos hz, if_pos ((lg_cmp_ge _ _).mpr (Int64.le_of_lt hz))]
          exact hg z
        · rw [if_neg hz]
          by_cases hz0 : z = 0
          · rw [if_pos ((lg_cmp_ge _ _).mpr (by rw [hz0]; decide)), hz0]
            exact hg 0
          · rw [if_neg (fun q => by
              have q1 := (lg_cmp_ge _ _).mp q
              rw [fa_le64] at q1
              rw [fa_lt64] at hz
              exact hz0 ((fa_eq64 _ _).mpr (by omega)))]
            exact hg (-z)
