/-! One token, and all of them. -/
section LY
variable {tl : Nat} {B : Nat → Nat} {σ : Sta}
theorem e_sym1 {i m c : Nat} {b : Int32} (hi : i < 1500) (hc : c < 256) (hm : gI σ 67 = nI m) (hm2 : m < 1501) (hp : ∀ τ, f_X7_kindOfPair (nI c) b τ = some (279, τ)) : f_X7_readSymbol_21 (nI i) (nI c) b σ = some (nI (i + 1), putC σ m (kC (lsy c, 0)) (nI i) (lN 0)) := by
  obtain ⟨h1, h2, h3⟩ := sy_tab c hc
  unfold f_X7_readSymbol_21
  rw [hp, bnd_s, if_pos rfl, h2, c_sym hc, bnd_s, show kC (lsy c, 0) = nI (lsy c) from if_neg h3, ← h1]
  unfold f_X7_readSymbol_72
  by_cases q : ixS bS1 ((nI c).toInt8.toInt32) 12 0 < 0
  · rw [if_pos q, if_pos q, e_put hm hm2, bnd_s, nI_1]
    rfl
  · rw [if_neg q, if_neg q, e_put hm hm2, bnd_s, nI_1]
    rfl
theorem e_sym2 {i m k : Nat} {a b : Int32} (hi : i < 1500) (hk : nI k ≠ 279) (hk2 : k ≠ 1000) (hm : gI σ 67 = nI m) (hm2 : m < 1501) (hp : ∀ τ, f_X7_kindOfPair a b τ = some (nI k, τ)) : f_X7_readSymbol_21 (nI i) a b σ = some (nI (i + 2), putC σ m (kC (k, 0)) (nI i) (lN 0)) := by
  unfold f_X7_readSymbol_21
  rw [hp, bnd_s, if_neg hk, show kC (k, 0) = nI k from if_neg hk2, e_put hm hm2, bnd_s]
  show some (nI i + 2, _) = _
  rw [show nI i + 2 = nI (i + 2) from nI_add i 2]
  rfl
theorem e_symN {i c : Nat} (hT : TB1 tl B σ) (htl : tl ≤ 1500) (hi : i < tl) (hc : B i = c) : f_X7_readSymbol (nI tl) (nI i) σ = f_X7_readSymbol_21 (nI i) (nI c) (if i + 1 < tl then nI (B (i + 1)) else 0) σ := by
  unfold f_X7_readSymbol
  rw [if_neg (nI_in (by omega) (by omega)), lt_e, nI_clamp (by omega), (hT i hi).1, hc, nI_1]
  by_cases q : i + 1 < tl
  · rw [if_neg (nI_ge (by omega) (by omega)), if_pos q, if_neg (nI_in (by omega) (by omega)), nI_clamp (by omega), (hT _ q).1]
  · rw [if_pos (nI_le (by omega) (by omega)), if_neg q]
theorem nI_neq {a b : Nat} (ha : a < 2 ^ 31) (hb : b < 2 ^ 31) (h : a ≠ b) : nI a ≠ nI b := fun e => h ((nI_eq ha hb).mp e)
/-- one blank, or one token -/
theorem e_one (hT : TB1 tl B σ) (htl : tl ≤ 1500) {i m c : Nat} {r : List Nat} (hl : AtB B tl i (c :: r)) (hm : gI σ 67 = nI m) (hm2 : m < 1501) :
    ∃ j l' σ', AtB B tl j l' ∧ i < j ∧ f_X7_readOne (nI tl) (nI i) σ = some (nI j, σ') ∧ ((σ' = σ ∧ lx (c :: r) 0 0 0 = lx l' 0 0 0) ∨ ∃ t p, σ' = putC σ m (kC t) p (lN t.2) ∧ lx (c :: r) 0 0 0 = t :: lx l' 0 0 0) := by
  obtain ⟨h1, h2, h3⟩ := hl
  obtain ⟨t1, t2⟩ := hT i h1
  rw [h2] at t1 t2
  have e32 : nI c = 32 ↔ c = 32 := nI_eq (b := 32) (by omega) (by decide)
  have e10 : nI c = 10 ↔ c = 10 := nI_eq (b := 10) (by omega) (by decide)
  have gd : ¬ (nI i < 0 ∨ 1500 ≤ (nI i).toNatClampNeg) := nI_in (by omega) (by omega)
  rw [lx_0]
  unfold f_X7_readOne f_X7_readOne_19 ld
  rw [if_neg gd, lt_e, nI_clamp (by omega), t1]
  by_cases q0 : c = 32
  · rw [if_pos (e32.mpr q0), nI_1]
    refine ⟨i + 1, r, σ, h3, by omega, rfl, Or.inl ⟨rfl, ?_⟩⟩
    subst q0
    rfl
  rw [if_neg (fun e => q0 (e32.mp e))]
  by_cases q1 : c = 10
  · rw [if_pos (e10.mpr q1), nI_1]
    refine ⟨i + 1, r, σ, h3, by omega, rfl, Or.inl ⟨rfl, ?_⟩⟩
    subst q1
    rfl
  rw [if_neg (fun e => q1 (e10.mp e)), c_letter t2, bnd_s, show (c == 32 || c == 10) = false by simp [q0, q1], cond_false]
  have hlen := AtB_len _ _ (show AtB B tl i (c :: r) from ⟨h1, h2, h3⟩)
  by_cases q2 : 97 ≤ c ∧ c ≤ 122
  · rw [if_pos q2, if_neg (show ¬ (1 : Int32) = 0 by decide), lal_i.mpr q2, cond_true]
    obtain ⟨j, a', l', g1, g2, g3, g4⟩ := e_wordC hT htl (st := i) (c :: r) i FU 0 ⟨h1, h2, h3⟩ (Nat.lt_of_le_of_lt (by omega : (c :: r).length ≤ 1500) (FU_lt (by decide))) (Nat.le_refl _)
    have g3' : lx r 1 c 1 = wtk a' (j - i) :: lx l' 0 0 0 := by
      rw [← g3, Nat.sub_self, lx_ww (by rw [lal_i.mpr q2]; rfl), Nat.zero_mul, Nat.zero_add]
    have hij : i < j := g2.2 c r rfl (by rw [lal_i.mpr q2]; rfl)
    have hj : j ≤ tl := by have := AtB_len _ _ g1; omega
    unfold f_X7_readWord
    rw [show (0 : Int64) = lN 0 from rfl, g4, e_wtok (by omega) (by omega) hm hm2, bnd_s]
    exact ⟨j, l', _, g1, hij, rfl, Or.inr ⟨wtk a' (j - i), nI i, rfl, g3'⟩⟩
  rw [if_neg q2, if_pos (show (0 : Int32) = 0 from rfl), c_digit t2, bnd_s]
  have nal : lal c = false := by
    cases hq : lal c with
    | true => exact absurd (lal_i.mp hq) q2
    | false => rfl
  rw [nal, cond_false]
  by_cases q3 : 48 ≤ c ∧ c ≤ 57
  · rw [if_pos q3, if_neg (show ¬ (1 : Int32) = 0 by decide), ldg_i.mpr q3, cond_true]
    obtain ⟨j, a', l', g1, g2, g3, g4⟩ := e_numC hT htl (st := i) (c :: r) i FU 0 ⟨h1, h2, h3⟩ (Nat.lt_of_le_of_lt (by omega : (c :: r).length ≤ 1500) (FU_lt (by decide))) (Nat.le_refl _)
    have g3' : lx r 2 (c - 48) 1 = ntk a' (j - i) :: lx l' 0 0 0 := by
      rw [← g3, Nat.sub_self, lx_nn (ldg_i.mpr q3), Nat.zero_mul, Nat.zero_add]
    have hij : i < j := g2.2 c r rfl (ldg_i.mpr q3)
    have hj : j ≤ tl := by have := AtB_len _ _ g1; omega
    unfold f_X7_readNumber
    rw [show (0 : Int64) = lN 0 from rfl, g4, e_ntok (by omega) (by omega) hm hm2, bnd_s]
    exact ⟨j, l', _, g1, hij, rfl, Or.inr ⟨ntk a' (j - i), nI i, rfl, g3'⟩⟩
  rw [if_neg q3, if_pos (show (0 : Int32) = 0 from rfl), e_symN hT htl h1 h2]
  have ndg : ldg c = false := by
    cases hq : ldg c with
    | true => exact absurd (ldg_i.mp hq) q3
    | false => rfl
  rw [ndg, cond_false]
  have n60 : nI c = 60 ↔ c = 60 := nI_eq (b := 60) (by omega) (by decide)
  have n62 : nI c = 62 ↔ c = 62 := nI_eq (b := 62) (by omega) (by decide)
  -- what stands behind
  by_cases p0 : c = 60
  · subst p0
    show ∃ j l' σ', AtB B tl j l' ∧ i < j ∧ bnd _ _ = some (nI j, σ') ∧ ((σ' = σ ∧ lx r 3 0 0 = _) ∨ ∃ t p, σ' = _ ∧ lx r 3 0 0 = _)
    cases r with
    | nil =>
      have hi : i + 1 = tl := h3
      rw [if_neg (by omega), e_sym1 (by omega) (by decide) hm hm2 (fun τ => by rw [e_pairC]; rfl), bnd_s]
      exact ⟨i + 1, [], _, h3, by omega, rfl, Or.inr ⟨(60, 0), nI i, rfl, rfl⟩⟩
    | cons c2 r2 =>
      obtain ⟨k1, k2, k3⟩ := h3
      have u2 := (hT _ k1).2
      rw [k2] at u2
      rw [if_pos k1, k2]
      have m61 : nI c2 = 61 ↔ c2 = 61 := nI_eq (b := 61) (by omega) (by decide)
      have m62 : nI c2 = 62 ↔ c2 = 62 := nI_eq (b := 62) (by omega) (by decide)
      by_cases w1 : c2 = 61
      · subst w1
        rw [e_sym2 (k := 275) (by omega) (by decide) (by decide) hm hm2 (fun τ => by rw [e_pairC]; rfl), bnd_s]
        exact ⟨i + 2, r2, _, k3, by omega, rfl, Or.inr ⟨(275, 0), nI i, rfl, rfl⟩⟩
      · by_cases w2 : c2 = 62
        · subst w2
          rw [e_sym2 (k := 277) (by omega) (by decide) (by decide) hm hm2 (fun τ => by rw [e_pairC]; rfl), bnd_s]
          exact ⟨i + 2, r2, _, k3, by omega, rfl, Or.inr ⟨(277, 0), nI i, rfl, rfl⟩⟩
        · rw [e_sym1 (by omega) (by decide) hm hm2 (fun τ => by rw [e_pairC, if_neg (fun e => w1 (m61.mp e.2)), if_neg (fun e => w1 (m61.mp e.2)), if_neg (fun e => w2 (m62.mp e.2))]), bnd_s]
          refine ⟨i + 1, c2 :: r2, _, ⟨k1, k2, k3⟩, by omega, rfl, Or.inr ⟨(60, 0), nI i, rfl, ?_⟩⟩
          show (bif c2 == 61 then _ else bif c2 == 62 then _ else _) = _
          rw [show (c2 == 61) = false by simp [w1], show (c2 == 62) = false by simp [w2]]
          rfl
  rw [show (c == 60) = false by simp [p0], cond_false]
  by_cases p1 : c = 62
  · subst p1
    show ∃ j l' σ', AtB B tl j l' ∧ i < j ∧ bnd _ _ = some (nI j, σ') ∧ ((σ' = σ ∧ lx r 4 0 0 = _) ∨ ∃ t p, σ' = _ ∧ lx r 4 0 0 = _)
    cases r with
    | nil =>
      have hi : i + 1 = tl := h3
      rw [if_neg (by omega), e_sym1 (by omega) (by decide) hm hm2 (fun τ => by rw [e_pairC]; rfl), bnd_s]
      exact ⟨i + 1, [], _, h3, by omega, rfl, Or.inr ⟨(62, 0), nI i, rfl, rfl⟩⟩
    | cons c2 r2 =>
      obtain ⟨k1, k2, k3⟩ := h3
      have u2 := (hT _ k1).2
      rw [k2] at u2
      rw [if_pos k1, k2]
      have m61 : nI c2 = 61 ↔ c2 = 61 := nI_eq (b := 61) (by omega) (by decide)
      by_cases w1 : c2 = 61
      · subst w1
        rw [e_sym2 (k := 276) (by omega) (by decide) (by decide) hm hm2 (fun τ => by rw [e_pairC]; rfl), bnd_s]
        exact ⟨i + 2, r2, _, k3, by omega, rfl, Or.inr ⟨(276, 0), nI i, rfl, rfl⟩⟩
      · rw [e_sym1 (by omega) (by decide) hm hm2 (fun τ => by rw [e_pairC, if_neg (fun e => w1 (m61.mp e.2)), if_neg (fun e => w1 (m61.mp e.2)), if_neg (fun e => absurd e.1 (by decide))]), bnd_s]
        refine ⟨i + 1, c2 :: r2, _, ⟨k1, k2, k3⟩, by omega, rfl, Or.inr ⟨(62, 0), nI i, rfl, ?_⟩⟩
        show (bif c2 == 61 then _ else _) = _
        rw [show (c2 == 61) = false by simp [w1]]
        rfl
  rw [show (c == 62) = false by simp [p1], cond_false, e_sym1 (by omega) t2 hm hm2 (fun τ => by rw [e_pairC, if_neg (fun e => p0 (n60.mp e.1)), if_neg (fun e => p1 (n62.mp e.1)), if_neg (fun e => p0 (n60.mp e.1))]), bnd_s]
  exact ⟨i + 1, r, _, h3, by omega, rfl, Or.inr ⟨(lsy c, 0), nI i, rfl, rfl⟩⟩
theorem TKs_c {σ' : Sta} : ∀ (l : List Tk) (m : Nat), (∀ j, m ≤ j → j < m + l.length → gA σ' 11 j = gA σ 11 j ∧ gJ σ' 13 j = gJ σ 13 j) → TKs σ m l → TKs σ' m l
  | [], _, _, _ => True.intro
  | t :: r, m, h, ⟨h1, h2, h3⟩ => by
    have a := h m (Nat.le_refl _) (by show m < m + (r.length + 1); omega)
    exact ⟨by rw [a.1]; exact h1, by rw [a.2]; exact h2, TKs_c r (m + 1) (fun j b c => h j (by omega) (by show j < m + (r.length + 1); omega)) h3⟩
theorem putC_o {m j : Nat} (hj : j ≠ m) (c p : Int32) (v : Int64) : gA (putC σ m c p v) 11 j = gA σ 11 j ∧ gJ (putC σ m c p v) 13 j = gJ σ 13 j := by
  constructor
  · show upd (gA σ 11) m c j = _
    rw [upd_at, if_neg hj]
  · show vp_updL (gJ σ 13) m v j = _
    rw [updL_at, if_neg hj]
theorem putC_s (m : Nat) (c p : Int32) (v : Int64) : gA (putC σ m c p v) 11 m = c ∧ gJ (putC σ m c p v) 13 m = v := by
  constructor
  · show upd (gA σ 11) m c m = _
    rw [upd_at, if_pos rfl]
  · show vp_updL (gJ σ 13) m v m = _
    rw [updL_at, if_pos rfl]
theorem e_readE {tl m : Nat} (hm : gI σ 67 = nI m) (hm2 : m < 1501) : ∃ σ', f_X7_read_37 (nI tl) σ = some ((), σ') ∧ KtC σ σ' ∧ gI σ' 67 = nI (m + 1) ∧ TKs σ' m [(278, 0)] ∧ ∀ j, j < m → gA σ' 11 j = gA σ 11 j ∧ gJ σ' 13 j = gJ σ 13 j := by
  refine ⟨putC σ m 278 (nI tl) 0, ?_, KtC_put σ m _ _ _, rfl, ⟨(putC_s m _ _ _).1, (putC_s m _ _ _).2, True.intro⟩, fun j hj => putC_o (by omega) _ _ _⟩
  unfold f_X7_read_37
  rw [e_put hm hm2, bnd_s]
end LY
theorem e_readL {tl : Nat} {B : Nat → Nat} (htl : tl ≤ 1500) : ∀ (N i m cnt n : Nat) (l : List Nat) (σ : Sta), l.length ≤ N → l.length < n → AtB B tl i l → TB1 tl B σ → gI σ 67 = nI m → m ≤ cnt → cnt ≤ i →
    ∃ σ', f_X7_read_10 n (nI tl) (nI i) (nI cnt) σ = some ((), σ') ∧ KtC σ σ' ∧ gI σ' 67 = nI (m + (lx l 0 0 0).length + 1) ∧ TKs σ' m (lx l 0 0 0 ++ [(278, 0)]) ∧ ∀ j, j < m → gA σ' 11 j = gA σ 11 j ∧ gJ σ' 13 j = gJ σ 13 j
  | _, _, _, _, 0, _, _, _, hn, _, _, _, _, _ => absurd hn (Nat.not_lt_zero _)
  | N, i, m, cnt, n + 1, [], σ, hN, hn, hl, hT, hm, hmc, hci => by
    have hi : i = tl := hl
    have key := e_readE (tl := tl) hm (by omega)
    rw [f_X7_read_10]
    by_cases q : 1500 ≤ cnt
    · rw [if_pos (show (1500 : Int32) ≤ nI cnt from nI_le (a := 1500) q (by omega))]
      exact key
    · rw [if_neg (show ¬ (1500 : Int32) ≤ nI cnt from nI_ge (b := 1500) (by omega) (by decide)), if_pos (nI_le (by omega) (by omega))]
      exact key
  | 0, i, m, cnt, n + 1, c :: r, σ, hN, hn, hl, hT, hm, hmc, hci => absurd hN (Nat.not_succ_le_zero _)
  | N + 1, i, m, cnt, n + 1, c :: r, σ, hN, hn, hl, hT, hm, hmc, hci => by
    have hlen := AtB_len _ _ hl
    have hlen' : i + (r.length + 1) = tl := hlen
    have hN' : r.length ≤ N := Nat.le_of_succ_le_succ hN
    have hn' : r.length < n := Nat.lt_of_succ_lt_succ hn
    obtain ⟨j, l', σ1, g1, g2, g3, g4⟩ := e_one hT htl hl hm (by omega)
    have hl2 := AtB_len _ _ g1
    rw [f_X7_read_10, if_neg (show ¬ (1500 : Int32) ≤ nI cnt from nI_ge (b := 1500) (by omega) (by decide)), if_neg (nI_ge (by omega) (by omega)), g3, bnd_s, lt_e, nI_1]
    rcases g4 with ⟨rfl, e⟩ | ⟨t, p, rfl, e⟩
    · rw [e]
      exact e_readL htl N j m (cnt + 1) n l' σ1 (by omega) (by omega) g1 hT hm (by omega) (by omega)
    · obtain ⟨σ', k1, k2, k3, k4, k5⟩ := e_readL htl N j (m + 1) (cnt + 1) n l' (putC σ m (kC t) p (lN t.2)) (by omega) (by omega) g1 (TB1_k hT (KtC_put σ m _ _ _)) rfl (by omega) (by omega)
      obtain ⟨s1, s2⟩ := putC_s (σ := σ) m (kC t) p (lN t.2)
      rw [e]
      refine ⟨σ', k1, (KtC_put σ m _ _ _).trans k2, ?_, ⟨?_, ?_, k4⟩, fun j hj => ?_⟩
      · rw [k3]
        show nI (m + 1 + (lx l' 0 0 0).length + 1) = nI (m + ((lx l' 0 0 0).length + 1) + 1)
        rw [show m + 1 + (lx l' 0 0 0).length + 1 = m + ((lx l' 0 0 0).length + 1) + 1 by omega]
      · rw [(k5 m (by omega)).1, s1]
      · rw [(k5 m (by omega)).2, s2]
      · obtain ⟨a1, a2⟩ := putC_o (σ := σ) (show j ≠ m by omega) (kC t) p (lN t.2)
        obtain ⟨b1, b2⟩ := k5 j (by omega)
        exact ⟨b1.trans a1, b2.trans a2⟩
/-- the tape, read -/
theorem e_readT {tl : Nat} {B : Nat → Nat} {l : List Nat} {σ : Sta} (htl : tl ≤ 1500) (hl : AtB B tl 0 l) (hT : TB1 tl B σ) :
    ∃ σ', f_X7_read (nI tl) σ = some ((), σ') ∧ KtC σ σ' ∧ gI σ' 67 = nI ((lx l 0 0 0).length + 1) ∧ TKs σ' 0 (lx l 0 0 0 ++ [(278, 0)]) := by
  have hlen := AtB_len _ _ hl
  obtain ⟨σ', k1, k2, k3, k4, -⟩ := e_readL htl l.length 0 0 0 FU l (sI σ 67 0) (Nat.le_refl _) (Nat.lt_of_le_of_lt (by omega : l.length ≤ 1500) (FU_lt (by decide))) hl hT rfl (Nat.le_refl _) (Nat.le_refl _)
  refine ⟨σ', ?_, Kp.trans (Kp.sI rfl Kp.rfl') k2, by rw [k3, Nat.zero_add], k4⟩
  unfold f_X7_read
  rw [lt_e]
  exact k1
