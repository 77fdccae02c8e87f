/-! drop and reach -/
/-- the world of the class, but that the row of strategies is another -/
def shP (σ : Sta) (f : Nat → Nat) : Sta := (σ.1, σ.2.1, σ.2.2.1, σ.2.2.2.1, f)
theorem sP_shP (σ : Sta) (f : Nat → Nat) (i d : Nat) : sP (shP σ f) i d = shP σ (va_up f i d) := rfl
theorem shP_self (σ : Sta) : shP σ (gP σ) = σ := rfl
theorem e_drop14 {kp s dv : Nat} (hs : s < kp) (hk : kp ≤ 12) : ∀ (m k n : Nat) (σ : Sta) (f : Nat → Nat), k + m + 1 = kp → m < n → gI σ 11 = nI kp → (∀ i, i < 13 → f i < 13) →
    ∃ f', f_X8_drop_14 n dv (nI k) (shP σ f) = some (.inl (nI (kp - 1)), sI (shP σ f') 11 (nI (kp - 1))) ∧ (∀ i, f' i = if i = kp - 1 then dv else if k ≤ i ∧ i < kp - 1 then f (i + 1) else f i)
  | _, _, 0, _, _, _, hn, _, _ => absurd hn (Nat.not_lt_zero _)
  | 0, k, n + 1, σ, f, hkm, hn, h11, hf => by
    refine ⟨va_up f (kp - 1) dv, ?_, fun i => ?_⟩
    · rw [f_X8_drop_14, show gI (shP σ f) 11 = nI kp from h11, nI_1, if_pos (nI_le (by omega) (by omega)), lt_e, gI_sI, if_pos rfl, nI_subL (by omega), if_neg (nI_in (by omega) (by omega)), lt_e, nI_clamp (by omega), gI_sP, gI_sI, if_pos rfl]
      rfl
    · show (if i = kp - 1 then dv else f i) = _
      by_cases h1 : i = kp - 1
      · rw [if_pos h1, if_pos h1]
      · rw [if_neg h1, if_neg h1, if_neg (by omega)]
  | m + 1, k, n + 1, σ, f, hkm, hn, h11, hf => by
    have hf1 := hf (k + 1) (by omega)
    obtain ⟨f', e1, e2⟩ := e_drop14 (dv := dv) hs hk m (k + 1) n σ (va_up f k (f (k + 1))) (by omega) (by omega) h11 (fun i hi => by
      show (if i = k then f (k + 1) else f i) < 13
      by_cases h1 : i = k
      · rw [if_pos h1]; exact hf1
      · rw [if_neg h1]; exact hf i hi)
    refine ⟨f', ?_, fun i => ?_⟩
    · rw [← e1, f_X8_drop_14, show gI (shP σ f) 11 = nI kp from h11, nI_1, if_neg (nI_ge (by omega) (by omega)), if_neg (nI_in (by omega) (by omega)), nI_clamp (n := k + 1) (by omega), if_neg (show ¬ 13 ≤ gP (shP σ f) (k + 1) from Nat.not_le.mpr hf1), lt_e, if_neg (nI_in (by omega) (by omega)), lt_e, lt_e, nI_clamp (by omega)]
      rfl
    · rw [e2 i]
      show (if i = kp - 1 then dv else if k + 1 ≤ i ∧ i < kp - 1 then (if i + 1 = k then f (k + 1) else f (i + 1)) else (if i = k then f (k + 1) else f i)) = _
      by_cases h1 : i = kp - 1
      · rw [if_pos h1, if_pos h1]
      · rw [if_neg h1, if_neg h1]
        by_cases h2 : k + 1 ≤ i ∧ i < kp - 1
        · rw [if_pos h2, if_neg (show ¬ i + 1 = k by omega), if_pos (show k ≤ i ∧ i < kp - 1 by omega)]
        · rw [if_neg h2]
          by_cases h3 : i = k
          · rw [if_pos h3, if_pos (show k ≤ i ∧ i < kp - 1 by omega), h3]
          · rw [if_neg h3, if_neg (show ¬ (k ≤ i ∧ i < kp - 1) by omega)]
def dr1 (τ : Sta) (s c : Nat) : Sta := sA τ 30 (va_cpy (gA τ 30) (gA τ 30) (s + 1) s c)
def dr2 (τ : Sta) (s c : Nat) : Sta := sA τ 34 (va_cpy (gA τ 34) (gA τ 34) (s + 1) s c)
def dr3 (τ : Sta) (s c : Nat) : Sta := sJ τ 33 (va_cpy (gJ τ 33) (gJ τ 33) (3 * (s + 1)) (3 * s) (3 * c))
def dr4 (τ : Sta) (s c : Nat) : Sta := sA τ 31 (va_cpy (gA τ 31) (gA τ 31) (3100 * (s + 1)) (3100 * s) (3100 * c))
def dr5 (τ : Sta) (s c : Nat) : Sta := sJ τ 32 (va_cpy (gJ τ 32) (gJ τ 32) (3100 * (s + 1)) (3100 * s) (3100 * c))
def drM (τ : Sta) (s c : Nat) : Sta := dr5 (dr4 (dr3 (dr2 (dr1 τ s c) s c) s c) s c) s c
theorem e_dropM {τ : Sta} {kp s : Nat} (hs : s < kp) (hk : kp ≤ 12) (h47 : gI τ 47 = nI kp) : ∃ τ', f_X10_drop (nI s) τ = some (nI (kp - 1), τ') ∧ Kp (fun q => q = 0 ∨ q = 47) n0 kAM kJM τ τ' ∧ gI τ' 0 = 0 ∧ gI τ' 47 = nI (kp - 1) ∧
    (∀ j, gA τ' 30 j = if s ≤ j ∧ j < s + (kp - 1 - s) then gA τ 30 (j + 1) else gA τ 30 j) ∧ (∀ j, gA τ' 34 j = if s ≤ j ∧ j < s + (kp - 1 - s) then gA τ 34 (j + 1) else gA τ 34 j) ∧
    (∀ j, gJ τ' 33 j = if 3 * s ≤ j ∧ j < 3 * s + 3 * (kp - 1 - s) then gJ τ 33 (j + 3) else gJ τ 33 j) ∧ (∀ j, gA τ' 31 j = if 3100 * s ≤ j ∧ j < 3100 * s + 3100 * (kp - 1 - s) then gA τ 31 (j + 3100) else gA τ 31 j) ∧
    (∀ j, gJ τ' 32 j = if 3100 * s ≤ j ∧ j < 3100 * s + 3100 * (kp - 1 - s) then gJ τ 32 (j + 3100) else gJ τ 32 j) := by
  have g1 : ∀ a b c : Nat, ∀ N : Nat, a + c ≤ N → b + c ≤ N → N < 100000 → ¬ (nI a < 0 ∨ nI b < 0 ∨ nI c < 0 ∨ N < (nI a).toNatClampNeg + (nI c).toNatClampNeg ∨ N < (nI b).toNatClampNeg + (nI c).toNatClampNeg) := fun a b c N h1 h2 h3 e => by
    rw [nI_clamp (by omega), nI_clamp (by omega), nI_clamp (by omega)] at e
    rcases e with e | e | e | e | e
    · exact nI_pos (by omega) e
    · exact nI_pos (by omega) e
    · exact nI_pos (by omega) e
    · omega
    · omega
  have h0 : gI (sI τ 0 0) 47 = nI kp := by rw [gI_sI, if_neg (by decide)]; exact h47
  unfold f_X10_drop
  rw [lt_e, e_mStr_in h0 hk hs, bnd_s, ite10, lt_e, lt_e, h0, gI_sI, if_pos rfl, nI_subL (by omega), pk_sub (by omega), nI_1, if_neg (g1 _ _ _ _ (by omega) (by omega) (by omega)), lt_e, if_neg (g1 _ _ _ _ (by omega) (by omega) (by omega)), lt_e, nI_Lmul, nI_Lmul, nI_Lmul, if_neg (g1 _ _ _ _ (by omega) (by omega) (by omega)), lt_e, nI_Lmul, nI_Lmul, nI_Lmul, if_neg (g1 _ _ _ _ (by omega) (by omega) (by omega)), lt_e, if_neg (g1 _ _ _ _ (by omega) (by omega) (by omega)), lt_e]
  rw [nI_clamp (n := s + 1) (by omega), nI_clamp (n := s) (by omega), nI_clamp (n := kp - 1 - s) (by omega), nI_clamp (n := 3 * (s + 1)) (by omega), nI_clamp (n := 3 * s) (by omega), nI_clamp (n := 3 * (kp - 1 - s)) (by omega), nI_clamp (n := 3100 * (s + 1)) (by omega), nI_clamp (n := 3100 * s) (by omega), nI_clamp (n := 3100 * (kp - 1 - s)) (by omega)]
  refine ⟨drM (sI (sI τ 0 0) 47 (nI (kp - 1))) s (kp - 1 - s), ?_, Kp.sJ (Or.inl rfl) (Kp.sA (Or.inr (Or.inl rfl)) (Kp.sJ (Or.inr (Or.inl rfl)) (Kp.sA (Or.inr (Or.inr rfl)) (Kp.sA (Or.inl rfl) (Kp.sI (Or.inr rfl) (Kp.sI (Or.inl rfl) Kp.rfl')))))), rfl, ?_, fun j => ?_, fun j => ?_, fun j => ?_, fun j => ?_, fun j => ?_⟩
  · rfl
  · rfl
  · simp only [drM, dr1, dr2, dr3, dr4, dr5, gA_sA, gA_sJ, gJ_sA, gJ_sJ, gA_sI, gJ_sI, Nat.reduceEqDiff, ↓reduceIte, cpy_at]
    by_cases h : s ≤ j ∧ j < s + (kp - 1 - s)
    · rw [if_pos h, if_pos h, show s + 1 + (j - s) = j + 1 by omega]
    · rw [if_neg h, if_neg h]
  · simp only [drM, dr1, dr2, dr3, dr4, dr5, gA_sA, gA_sJ, gJ_sA, gJ_sJ, gA_sI, gJ_sI, Nat.reduceEqDiff, ↓reduceIte, cpy_at]
    by_cases h : s ≤ j ∧ j < s + (kp - 1 - s)
    · rw [if_pos h, if_pos h, show s + 1 + (j - s) = j + 1 by omega]
    · rw [if_neg h, if_neg h]
  · simp only [drM, dr1, dr2, dr3, dr4, dr5, gA_sA, gA_sJ, gJ_sA, gJ_sJ, gA_sI, gJ_sI, Nat.reduceEqDiff, ↓reduceIte, cpy_at]
    by_cases h : 3 * s ≤ j ∧ j < 3 * s + 3 * (kp - 1 - s)
    · rw [if_pos h, if_pos h, show 3 * (s + 1) + (j - 3 * s) = j + 3 by omega]
    · rw [if_neg h, if_neg h]
  · simp only [drM, dr1, dr2, dr3, dr4, dr5, gA_sA, gA_sJ, gJ_sA, gJ_sJ, gA_sI, gJ_sI, Nat.reduceEqDiff, ↓reduceIte, cpy_at]
    by_cases h : 3100 * s ≤ j ∧ j < 3100 * s + 3100 * (kp - 1 - s)
    · rw [if_pos h, if_pos h, show 3100 * (s + 1) + (j - 3100 * s) = j + 3100 by omega]
    · rw [if_neg h, if_neg h]
  · simp only [drM, dr1, dr2, dr3, dr4, dr5, gA_sA, gA_sJ, gJ_sA, gJ_sJ, gA_sI, gJ_sI, Nat.reduceEqDiff, ↓reduceIte, cpy_at]
    by_cases h : 3100 * s ≤ j ∧ j < 3100 * s + 3100 * (kp - 1 - s)
    · rw [if_pos h, if_pos h, show 3100 * (s + 1) + (j - 3100 * s) = j + 3100 by omega]
    · rw [if_neg h, if_neg h]
theorem op_drop {w : AW} {σ τ : Sta} (h : REL w σ τ) (a : Int32) : OP w (f_X8_drop a σ) (f_X10_drop a τ) eIOB "" "" := by
  have hw := h.1
  have h1 := hw.1
  have h2 := hw.2.1
  obtain ⟨kp, k1, k2, k3, k4, k5, k6⟩ := h.2.2.2.2.2.1
  rcases ix_cases a (n := kp) (by omega) with ⟨s, hs, rfl⟩ | ha
  · have hd := k5.1 s (by omega)
    obtain ⟨f', e1, e2⟩ := e_drop14 (dv := gP σ s) hs k1 (kp - 1 - s) s FU σ (gP σ) (by omega) (FU_lt (by omega)) k2 k5.1
    obtain ⟨τ', m1, m2, m3, m4, m5, m6, m7, m8, m9⟩ := e_dropM hs k1 k3
    have hx : f_X8_drop (nI s) σ = some (.inl (nI (kp - 1)), sI (shP σ f') 11 (nI (kp - 1))) := by
      unfold f_X8_drop
      rw [e_cStr_in k2 k1 hs, bnx_l, if_neg (nI_in (c := s) (N := 13) (by omega) (by omega)), nI_clamp (n := s) (by omega), if_neg (show ¬ 13 ≤ gP σ s by omega), lt_e]
      exact e1
    have hRx : RELx w (sI (shP σ f') 11 (nI (kp - 1))) τ' := by
      have h3 : RELx w (sI σ 11 (nI (kp - 1))) τ' := RELx_fr h (Kp.sI (I := fun q => q = 11) (L := n0) (A := n0) (J := n0) rfl Kp.rfl') m2 (fun q e => by omega) (fun _ e => e.elim) (fun _ e => e.elim) (fun _ e => e.elim) (fun q e => by omega) (fun _ e => e.elim) (fun q e => by unfold kAM at e; omega) (fun q e => by unfold kJM at e; omega)
      exact h3
    have hf : ∀ i, i < 13 → ∃ j, j < 13 ∧ f' i = gP σ j ∧ j = (if i = kp - 1 then s else if s ≤ i ∧ i < kp - 1 then i + 1 else i) := fun i hi => by
      rw [e2 i]
      by_cases h3 : i = kp - 1
      · rw [if_pos h3, if_pos h3]; exact ⟨s, by omega, rfl, rfl⟩
      · rw [if_neg h3, if_neg h3]
        by_cases h4 : s ≤ i ∧ i < kp - 1
        · rw [if_pos h4, if_pos h4]; exact ⟨i + 1, by omega, rfl, rfl⟩
        · rw [if_neg h4, if_neg h4]; exact ⟨i, hi, rfl, rfl⟩
    refine OP.in _ hx m1 (hRx.rel ⟨kp - 1, by omega, by rw [gI_sI, if_pos rfl], m4, fun h3 => k4 (by omega), ⟨fun i hi => ?_, fun i j hi hj e => ?_, k5.2.2⟩, fun i hi => ?_⟩) m3
    · obtain ⟨j, j1, j2, _⟩ := hf i hi
      show f' i < 13
      rw [j2]
      exact k5.1 j j1
    · obtain ⟨i', i1, i2, i3⟩ := hf i hi
      obtain ⟨j', j1, j2, j3⟩ := hf j hj
      have e' : f' i = f' j := e
      rw [i2, j2] at e'
      have h9 := k5.2.1 i' j' i1 j1 e'
      rw [i3, j3] at h9
      by_cases q1 : i = kp - 1
      · by_cases q2 : j = kp - 1
        · omega
        · rw [if_pos q1, if_neg q2] at h9
          by_cases q3 : s ≤ j ∧ j < kp - 1
          · rw [if_pos q3] at h9; omega
          · rw [if_neg q3] at h9; omega
      · by_cases q2 : j = kp - 1
        · rw [if_neg q1, if_pos q2] at h9
          by_cases q3 : s ≤ i ∧ i < kp - 1
          · rw [if_pos q3] at h9; omega
          · rw [if_neg q3] at h9; omega
        · rw [if_neg q1, if_neg q2] at h9
          by_cases q3 : s ≤ i ∧ i < kp - 1
          · by_cases q4 : s ≤ j ∧ j < kp - 1
            · rw [if_pos q3, if_pos q4] at h9; omega
            · rw [if_pos q3, if_neg q4] at h9; omega
          · by_cases q4 : s ≤ j ∧ j < kp - 1
            · rw [if_neg q3, if_pos q4] at h9; omega
            · rw [if_neg q3, if_neg q4] at h9; omega
    · have hK : ∀ st T W B P, StrC w (f' i) st T W B P σ → StrC w (f' i) st T W B P (sI (shP σ f') 11 (nI (kp - 1))) := fun st T W B P h3 => by
        unfold StrC at *
        rw [gI_sI, if_neg (by omega), gI_sI, if_neg (by omega)]
        exact h3
      have he : f' i = if s ≤ i then gP σ (i + 1) else gP σ i := by
        rw [e2 i, if_neg (by omega)]
        by_cases h4 : s ≤ i
        · rw [if_pos (by omega), if_pos h4]
        · rw [if_neg (by omega), if_neg h4]
      by_cases h4 : s ≤ i
      · rw [if_pos h4] at he
        obtain ⟨st, T, W, B, P, s1, s2, s3, s4, s5⟩ := k6 (i + 1) (by omega)
        refine ⟨st, T, W, B, P, s1, s2, s3, hK st T W B P (by rw [he]; exact s4), ?_, fun n t h5 h6 => ?_, fun n t h5 h6 => ?_, fun g hg => ?_, ?_⟩
        · rw [m5, if_pos (by omega)]; exact s5.1
        · rw [m8, if_pos (by omega), show 3100 * i + 100 * (n + 1) + t + 3100 = 3100 * (i + 1) + 100 * (n + 1) + t by omega]; exact s5.2.1 n t h5 h6
        · rw [m9, if_pos (by omega), show 3100 * i + 100 * n + t + 3100 = 3100 * (i + 1) + 100 * n + t by omega]; exact s5.2.2.1 n t h5 h6
        · rw [m7, if_pos (by omega), show 3 * i + g + 3 = 3 * (i + 1) + g by omega]; exact s5.2.2.2.1 g hg
        · rw [m6, if_pos (by omega)]; exact s5.2.2.2.2
      · rw [if_neg h4] at he
        obtain ⟨st, T, W, B, P, s1, s2, s3, s4, s5⟩ := k6 i (by omega)
        refine ⟨st, T, W, B, P, s1, s2, s3, hK st T W B P (by rw [he]; exact s4), ?_, fun n t h5 h6 => ?_, fun n t h5 h6 => ?_, fun g hg => ?_, ?_⟩
        · rw [m5, if_neg (by omega)]; exact s5.1
        · rw [m8, if_neg (by omega)]; exact s5.2.1 n t h5 h6
        · rw [m9, if_neg (by omega)]; exact s5.2.2.1 n t h5 h6
        · rw [m7, if_neg (by omega)]; exact s5.2.2.2.1 g hg
        · rw [m6, if_neg (by omega)]; exact s5.2.2.2.2
  · have h0 := REL_th h 0
    unfold f_X8_drop f_X10_drop
    rw [lt_e, e_cStr_out k2 ha, bnx_r, e_mStr_out (by rw [gI_sI, if_neg (by decide)]; exact k3) k1 ha, bnd_s, ite00, e_failM, bnd_s]
    exact OP.e1 rfl rfl (REL_fail h 0 1) (th_0 _ _)
