/-! The class: what a strategy brings, its chance. -/
theorem aStepG_congr {w : AW} (hw : AWok w) {T : Nat → Int32} (hT : TV w T) {B B' : Nat → Int64} {g t : Nat} (ht : t < aNs w) (h : ∀ u, u < aNs w → B u = B' u) : aStepG w T B g t = aStepG w T B' g t := by
  unfold aStepG
  rcases hT t ht with ⟨h1, h2⟩ | ⟨c, h1, h2⟩
  · rw [h2, if_pos m1neg, if_pos m1neg]
  · have h3 := (hw.2.2.2.1 t ht).1
    rw [h2, if_neg (nI_pos (by omega)), if_neg (nI_pos (by omega)), nI_clamp (by omega), aLater_congr hw ht h1 h]
theorem aStepP_congr {w : AW} (hw : AWok w) {T : Nat → Int32} (hT : TV w T) {B B' : Nat → Int64} {t : Nat} (ht : t < aNs w) (h : ∀ u, u < aNs w → B u = B' u) : aStepP w T B t = aStepP w T B' t := by
  unfold aStepP
  rcases hT t ht with ⟨h1, h2⟩ | ⟨c, h1, h2⟩
  · rw [h2, if_pos m1neg, if_pos m1neg, h t ht]
  · have h3 := (hw.2.2.2.1 t ht).1
    rw [h2, if_neg (nI_pos (by omega)), if_neg (nI_pos (by omega)), nI_clamp (by omega), aLater_congr hw ht h1 h]
theorem e_later0 {w : AW} {σ : Sta} (hw : AWok w) (h : AC w σ) {s c q N : Nat} (hs : s < aNs w) (hc : c < aCh w s) (hN : aNs w ≤ N) (hN2 : N < 2 ^ 31) : f_X2_later q N 0 (nI s) (nI c) σ = some (aLater w (gJ σ q) s c, σ) := by
  have h1 := e_later hw h (q := q) (fr := 0) hs hc (by omega) hN2
  rw [aLater_congr hw (g := gJ σ q) hs hc (fun t _ => by rw [Nat.zero_add])] at h1
  exact h1
theorem e_expected0 {w : AW} {σ : Sta} (hw : AWok w) (h : AM w σ) {s c q N : Nat} (hs : s < aNs w) (hc : c < aCh w s) (hN : aNs w ≤ N) (hN2 : N < 2 ^ 31) : f_X10_expected (nI (16 * s + c)) q N 0 σ = some (aLater w (gJ σ q) s c, σ) := by
  have h1 := e_expected hw h (q := q) (fr := 0) hs hc (by omega) hN2
  rw [aLater_congr hw (g := gJ σ q) hs hc (fun t _ => by rw [Nat.zero_add])] at h1
  exact h1
theorem e_stepOn (σ : Sta) : f_X2_stepOn σ = some ((), sJ σ 38 (va_cpy (gJ σ 39) (gJ σ 38) 0 0 100)) := by
  unfold f_X2_stepOn
  rw [if_neg (by decide), lt_e]
  rfl
theorem e_takenIn {d s i : Nat} {σ : Sta} (hs : s < 100) (hi : i < 30) : f_X6_takenIn d (nI s) (nI (i + 1)) σ = some (gA σ (41 + 5 * d + 2) (i * 100 + s), σ) := by
  unfold f_X6_takenIn
  rw [nI_pred, nI_mulL, nI_add, e_entry (by omega) (by omega), bnd_s]
def kB : Nat → Prop := fun q => q = 38 ∨ q = 39
theorem AC_B {w : AW} {σ σ1 : Sta} {I L : Nat → Prop} (h : Kp I L n0 kB σ σ1) (hI : ¬ I 322 ∧ ¬ I 197 ∧ ¬ I 192) (h0 : AC w σ) : AC w σ1 :=
  AC_kp h hI ⟨id, id, id, id, id, id, id⟩ (by unfold kB; omega) h0
theorem nneg1 : ¬ (0 : Int32) ≤ -1 := by decide
theorem e_gain21 {w : AW} {T : Nat → Int32} (hw : AWok w) (hT : TV w T) {d i g : Nat} (hi : i < 30) (hg : g < aNg w) {k10 : Int32 → Int32 → Sta → Option (Int64 × Sta)} : ∀ (m s n : Nat) (σ : Sta), s + m = aNs w → m < n → AC w σ →
    (∀ t, t < aNs w → gA σ (41 + 5 * d + 2) (i * 100 + t) = T t) → (∀ t, t < s → gJ σ 39 t = aStepG w T (gJ σ 38) g t) →
    ∃ σ', f_X2_gainOfAll_21 d k10 n (nI g) (nI (i + 1)) (nI s) σ = k10 (nI g) (nI (i + 2)) σ' ∧ Kp n0 n0 n0 kB σ σ' ∧ (∀ t, t < aNs w → gJ σ' 38 t = aStepG w T (gJ σ 38) g t)
  | _, _, 0, _, _, hn, _, _, _ => absurd hn (Nat.not_lt_zero _)
  | 0, s, n + 1, σ, hk, hn, h, hA, hN => by
    have h2 := hw.1
    refine ⟨sJ σ 38 (va_cpy (gJ σ 39) (gJ σ 38) 0 0 100), ?_, Kp.sJ (Or.inl rfl) Kp.rfl', fun t ht => ?_⟩
    · rw [f_X2_gainOfAll_21, h.1, if_pos (nI_le (by omega) (by omega)), e_stepOn, bnd_s, lt_e, nI_1]
    · rw [gJ_sJ, if_pos rfl, cpy_at, if_pos (by omega), show 0 + (t - 0) = t by omega]
      exact hN t (by omega)
  | m + 1, s, n + 1, σ, hk, hn, h, hA, hN => by
    have h2 := hw.1
    have hs : s < aNs w := by omega
    have hK : Kp n0 n0 n0 kB σ (sJ σ 39 (vp_updL (gJ σ 39) s (aStepG w T (gJ σ 38) g s))) := Kp.sJ (Or.inr rfl) Kp.rfl'
    have e38 : gJ (sJ σ 39 (vp_updL (gJ σ 39) s (aStepG w T (gJ σ 38) g s))) 38 = gJ σ 38 := by rw [gJ_sJ, if_neg (by decide)]
    obtain ⟨σ', e1, e2, e3⟩ := e_gain21 hw hT (d := d) hi hg (k10 := k10) m (s + 1) n _ (by omega) (by omega) (AC_B hK ⟨id, id, id⟩ h) (fun t ht => hA t ht) (fun t ht => by
      rw [e38, gJ_sJ, if_pos rfl, updL_at]
      by_cases h4 : t = s
      · rw [if_pos h4, h4]
      · rw [if_neg h4]; exact hN t (by omega))
    rw [e38] at e3
    refine ⟨σ', ?_, hK.trans e2, e3⟩
    rw [← e1, f_X2_gainOfAll_21, h.1, if_neg (nI_ge (by omega) (by omega)), e_takenIn (by omega) hi, bnd_s, hA s hs]
    unfold f_X2_gainOfAll_87
    have hv : aStepG w T (gJ σ 38) g s = if T s < 0 then 0 else 10000 * aGn w s ((T s).toNatClampNeg) g + aLater w (gJ σ 38) s ((T s).toNatClampNeg) := rfl
    rcases hT s hs with ⟨h5, h6⟩ | ⟨c, h5, h6⟩
    · rw [h6, if_pos m1neg] at hv
      rw [h6, if_neg nneg1, if_neg (nI_in (by omega) (by omega)), lt_e, lt_e, nI_1, nI_clamp (by omega), hv]
    · have h7 := (hw.2.2.2.1 s hs).1
      rw [h6, if_neg (nI_pos (by omega)), nI_clamp (by omega)] at hv
      rw [h6, if_pos (nI_pos' (by omega)), e_gainOf hw h hs h5 hg, bnd_s, e_later0 hw h hs h5 (by omega) (by omega), bnd_s, if_neg (nI_in (by omega) (by omega)), lt_e, lt_e, nI_1, nI_clamp (by omega), hv]
theorem e_gain10 {w : AW} {T : Nat → Nat → Int32} (hw : AWok w) (h0 : 0 < aNs w) {d g st : Nat} (hst : st ≤ 30) (hT : ∀ n, n < st → TV w (T n)) (hg : g < aNg w) : ∀ (m i n : Nat) (σ : Sta), i + m = st → m < n → AC w σ → gI σ (64 * (41 + 5 * d) + 1) = nI st →
    (∀ n t, n < st → t < aNs w → gA σ (41 + 5 * d + 2) (n * 100 + t) = T n t) → (∀ t, t < aNs w → gJ σ 38 t = aFolG w T g i t) →
    ∃ σ', f_X2_gainOfAll_10 d n (nI g) (nI (i + 1)) σ = some (aFolG w T g st 0, σ') ∧ Kp n0 n0 n0 kB σ σ'
  | _, _, 0, _, _, hn, _, _, _, _ => absurd hn (Nat.not_lt_zero _)
  | 0, i, n + 1, σ, hk, hn, h, hS, hA, hB => by
    refine ⟨σ, ?_, Kp.rfl'⟩
    rw [f_X2_gainOfAll_10, hS, if_pos (nI_lt (by omega) (by omega)), if_neg (by decide), show ((0 : Int32).toNatClampNeg) = 0 from rfl, hB 0 h0, show i = st by omega]
  | m + 1, i, n + 1, σ, hk, hn, h, hS, hA, hB => by
    have h2 := hw.1
    obtain ⟨σ1, e1, e2, e3⟩ := e_gain21 hw (hT i (by omega)) (d := d) (i := i) (by omega) hg (k10 := f_X2_gainOfAll_10 d n) (aNs w) 0 FU σ (by omega) (FU_lt (by omega)) h (fun t ht => hA i t (by omega) ht) (fun t ht => absurd ht (Nat.not_lt_zero _))
    obtain ⟨σ', g1, g2⟩ := e_gain10 hw h0 hst hT hg m (i + 1) n σ1 (by omega) (by omega) (AC_B e2 ⟨id, id, id⟩ h) (by rw [e2.1 _ id]; exact hS) (fun n t h3 h4 => by rw [e2.2.2.1 _ id]; exact hA n t h3 h4) (fun t ht => by
      rw [e3 t ht]
      exact aStepG_congr hw (hT i (by omega)) ht hB)
    refine ⟨σ', ?_, e2.trans g2⟩
    rw [f_X2_gainOfAll_10, hS, if_neg (nI_nlt (by omega) (by omega))]
    exact e1.trans g1
theorem e_gainOfAll {w : AW} {T : Nat → Nat → Int32} (hw : AWok w) (h0 : 0 < aNs w) {d g st : Nat} {σ : Sta} (hst : st ≤ 30) (hT : ∀ n, n < st → TV w (T n)) (hg : g < aNg w) (h : AC w σ) (hS : gI σ (64 * (41 + 5 * d) + 1) = nI st)
    (hA : ∀ n t, n < st → t < aNs w → gA σ (41 + 5 * d + 2) (n * 100 + t) = T n t) : ∃ σ', f_X2_gainOfAll d (nI g) σ = some (aFolG w T g st 0, σ') ∧ Kp n0 n0 n0 kB σ σ' := by
  have h2 := hw.1
  have hK : Kp n0 n0 n0 kB σ (fillJ σ 38 0 100 (fun _ => 0)) := Kp.sJ (Or.inl rfl) Kp.rfl'
  obtain ⟨σ', g1, g2⟩ := e_gain10 hw h0 (d := d) hst hT hg st 0 FU (fillJ σ 38 0 100 (fun _ => 0)) (by omega) (FU_lt (by omega)) (AC_B hK ⟨id, id, id⟩ h) hS hA (fun t ht => by
    unfold fillJ
    rw [gJ_sJ, if_pos rfl, if_pos (by omega)]
    rfl)
  refine ⟨σ', ?_, hK.trans g2⟩
  unfold f_X2_gainOfAll
  rw [e_fillJ (by omega), bnd_s]
  exact g1
theorem e_isGoal {w : AW} {σ : Sta} (hw : AWok w) (h : AC w σ) {s : Nat} (hs : s < aNs w) : f_X5_isGoal (nI s) σ = some (if aGl w s = true then 1 else 0, σ) := by
  have h2 := hw.1
  have h3 := (hw.2.2.2.1 s hs).1
  unfold f_X5_isGoal f_X5_isGoal_16
  rw [e_entry (by omega) (by omega), bnd_s, h.2.2.2.1 s hs]
  by_cases h1 : aGl w s = true
  · rw [if_pos h1, if_neg nneg1, if_pos h1, if_neg (by decide)]
  · rw [if_neg h1, if_pos (nI_pos' (by omega)), if_neg h1, if_neg (by decide)]
theorem e_startChances_l {w : AW} {T : Nat → Nat → Int32} (hw : AWok w) : ∀ (m s n : Nat) (σ : Sta), s + m = aNs w → m < n → AC w σ → (∀ t, t < s → gJ σ 38 t = aFolP w T 0 t) →
    ∃ σ', f_X2_startChances_2 n (nI s) σ = some ((), σ') ∧ Kp n0 n0 n0 kB σ σ' ∧ (∀ t, t < aNs w → gJ σ' 38 t = aFolP w T 0 t)
  | _, _, 0, _, _, hn, _, _ => absurd hn (Nat.not_lt_zero _)
  | 0, s, n + 1, σ, hk, hn, h, hN => by
    have h2 := hw.1
    refine ⟨σ, ?_, Kp.rfl', fun t ht => hN t (by omega)⟩
    rw [f_X2_startChances_2, h.1, if_pos (nI_le (by omega) (by omega))]
  | m + 1, s, n + 1, σ, hk, hn, h, hN => by
    have h2 := hw.1
    have hs : s < aNs w := by omega
    have hK : Kp n0 n0 n0 kB σ (sJ σ 38 (vp_updL (gJ σ 38) s (aFolP w T 0 s))) := Kp.sJ (Or.inl rfl) Kp.rfl'
    obtain ⟨σ', e1, e2, e3⟩ := e_startChances_l (T := T) hw m (s + 1) n _ (by omega) (by omega) (AC_B hK ⟨id, id, id⟩ h) (fun t ht => by
      rw [gJ_sJ, if_pos rfl, updL_at]
      by_cases h4 : t = s
      · rw [if_pos h4, h4]
      · rw [if_neg h4]; exact hN t (by omega))
    refine ⟨σ', ?_, hK.trans e2, e3⟩
    rw [← e1, f_X2_startChances_2, h.1, if_neg (nI_ge (by omega) (by omega)), e_isGoal hw h hs, bnd_s]
    unfold f_X2_startChances_36
    have hv : aFolP w T 0 s = if aGl w s = true then 1000000 else 0 := rfl
    by_cases h5 : aGl w s = true
    · rw [if_pos h5] at hv
      rw [if_pos h5, if_neg (by decide), if_neg (nI_in (by omega) (by omega)), lt_e, lt_e, nI_1, nI_clamp (by omega), hv]
    · rw [if_neg h5] at hv
      rw [if_neg h5, if_pos rfl, if_neg (nI_in (by omega) (by omega)), lt_e, lt_e, nI_1, nI_clamp (by omega), hv]
theorem e_startChances {w : AW} {T : Nat → Nat → Int32} (hw : AWok w) {σ : Sta} (h : AC w σ) : ∃ σ', f_X2_startChances σ = some ((), σ') ∧ Kp n0 n0 n0 kB σ σ' ∧ (∀ t, t < aNs w → gJ σ' 38 t = aFolP w T 0 t) := by
  have h2 := hw.1
  exact e_startChances_l hw (aNs w) 0 FU σ (by omega) (FU_lt (by omega)) h (fun t ht => absurd ht (Nat.not_lt_zero _))
theorem e_chance16 {w : AW} {T : Nat → Int32} (hw : AWok w) (hT : TV w T) {d i : Nat} (hi : i < 30) {k6 : Int32 → Sta → Option (Int32 × Sta)} : ∀ (m s n : Nat) (σ : Sta), s + m = aNs w → m < n → AC w σ →
    (∀ t, t < aNs w → gA σ (41 + 5 * d + 2) (i * 100 + t) = T t) → (∀ t, t < s → gJ σ 39 t = aStepP w T (gJ σ 38) t) →
    ∃ σ', f_X2_chanceOfAll_16 d k6 n (nI (i + 1)) (nI s) σ = k6 (nI (i + 2)) σ' ∧ Kp n0 n0 n0 kB σ σ' ∧ (∀ t, t < aNs w → gJ σ' 38 t = aStepP w T (gJ σ 38) t)
  | _, _, 0, _, _, hn, _, _, _ => absurd hn (Nat.not_lt_zero _)
  | 0, s, n + 1, σ, hk, hn, h, hA, hN => by
    have h2 := hw.1
    refine ⟨sJ σ 38 (va_cpy (gJ σ 39) (gJ σ 38) 0 0 100), ?_, Kp.sJ (Or.inl rfl) Kp.rfl', fun t ht => ?_⟩
    · rw [f_X2_chanceOfAll_16, h.1, if_pos (nI_le (by omega) (by omega)), e_stepOn, bnd_s, lt_e, nI_1]
    · rw [gJ_sJ, if_pos rfl, cpy_at, if_pos (by omega), show 0 + (t - 0) = t by omega]
      exact hN t (by omega)
  | m + 1, s, n + 1, σ, hk, hn, h, hA, hN => by
    have h2 := hw.1
    have hs : s < aNs w := by omega
    have hK : Kp n0 n0 n0 kB σ (sJ σ 39 (vp_updL (gJ σ 39) s (aStepP w T (gJ σ 38) s))) := Kp.sJ (Or.inr rfl) Kp.rfl'
    have e38 : gJ (sJ σ 39 (vp_updL (gJ σ 39) s (aStepP w T (gJ σ 38) s))) 38 = gJ σ 38 := by rw [gJ_sJ, if_neg (by decide)]
    obtain ⟨σ', e1, e2, e3⟩ := e_chance16 hw hT (d := d) hi (k6 := k6) m (s + 1) n _ (by omega) (by omega) (AC_B hK ⟨id, id, id⟩ h) (fun t ht => hA t ht) (fun t ht => by
      rw [e38, gJ_sJ, if_pos rfl, updL_at]
      by_cases h4 : t = s
      · rw [if_pos h4, h4]
      · rw [if_neg h4]; exact hN t (by omega))
    rw [e38] at e3
    refine ⟨σ', ?_, hK.trans e2, e3⟩
    rw [← e1, f_X2_chanceOfAll_16, h.1, if_neg (nI_ge (by omega) (by omega)), e_takenIn (by omega) hi, bnd_s, hA s hs]
    unfold f_X2_chanceOfAll_66
    have hv : aStepP w T (gJ σ 38) s = if T s < 0 then gJ σ 38 s else aLater w (gJ σ 38) s ((T s).toNatClampNeg) := rfl
    rcases hT s hs with ⟨h5, h6⟩ | ⟨c, h5, h6⟩
    · rw [h6, if_pos m1neg] at hv
      rw [h6, if_neg nneg1, if_neg (nI_in (by omega) (by omega)), if_neg (nI_in (by omega) (by omega)), lt_e, lt_e, nI_1, nI_clamp (by omega), hv]
    · have h7 := (hw.2.2.2.1 s hs).1
      rw [h6, if_neg (nI_pos (by omega)), nI_clamp (by omega)] at hv
      rw [h6, if_pos (nI_pos' (by omega)), e_later0 hw h hs h5 (by omega) (by omega), bnd_s, if_neg (nI_in (by omega) (by omega)), lt_e, lt_e, nI_1, nI_clamp (by omega), hv]
theorem e_chance6 {w : AW} {T : Nat → Nat → Int32} (hw : AWok w) (h0 : 0 < aNs w) {d st : Nat} (hst : st ≤ 30) (hT : ∀ n, n < st → TV w (T n)) : ∀ (m i n : Nat) (σ : Sta), i + m = st → m < n → AC w σ → gI σ (64 * (41 + 5 * d) + 1) = nI st →
    (∀ n t, n < st → t < aNs w → gA σ (41 + 5 * d + 2) (n * 100 + t) = T n t) → (∀ t, t < aNs w → gJ σ 38 t = aFolP w T i t) →
    ∃ σ', f_X2_chanceOfAll_6 d n (nI (i + 1)) σ = some ((aFolP w T st 0).toInt32, σ') ∧ Kp n0 n0 n0 kB σ σ'
  | _, _, 0, _, _, hn, _, _, _, _ => absurd hn (Nat.not_lt_zero _)
  | 0, i, n + 1, σ, hk, hn, h, hS, hA, hB => by
    refine ⟨σ, ?_, Kp.rfl'⟩
    rw [f_X2_chanceOfAll_6, hS, if_pos (nI_lt (by omega) (by omega)), if_neg (by decide), show ((0 : Int32).toNatClampNeg) = 0 from rfl, hB 0 h0, show i = st by omega]
  | m + 1, i, n + 1, σ, hk, hn, h, hS, hA, hB => by
    have h2 := hw.1
    obtain ⟨σ1, e1, e2, e3⟩ := e_chance16 hw (hT i (by omega)) (d := d) (i := i) (by omega) (k6 := f_X2_chanceOfAll_6 d n) (aNs w) 0 FU σ (by omega) (FU_lt (by omega)) h (fun t ht => hA i t (by omega) ht) (fun t ht => absurd ht (Nat.not_lt_zero _))
    obtain ⟨σ', g1, g2⟩ := e_chance6 hw h0 hst hT m (i + 1) n σ1 (by omega) (by omega) (AC_B e2 ⟨id, id, id⟩ h) (by rw [e2.1 _ id]; exact hS) (fun n t h3 h4 => by rw [e2.2.2.1 _ id]; exact hA n t h3 h4) (fun t ht => by
      rw [e3 t ht]
      exact aStepP_congr hw (hT i (by omega)) ht hB)
    refine ⟨σ', ?_, e2.trans g2⟩
    rw [f_X2_chanceOfAll_6, hS, if_neg (nI_nlt (by omega) (by omega))]
    exact e1.trans g1
theorem e_chanceOfAll {w : AW} {T : Nat → Nat → Int32} (hw : AWok w) (h0 : 0 < aNs w) {d st : Nat} {σ : Sta} (hst : st ≤ 30) (hT : ∀ n, n < st → TV w (T n)) (h : AC w σ) (hS : gI σ (64 * (41 + 5 * d) + 1) = nI st)
    (hA : ∀ n t, n < st → t < aNs w → gA σ (41 + 5 * d + 2) (n * 100 + t) = T n t) : ∃ σ', f_X2_chanceOfAll d σ = some ((aFolP w T st 0).toInt32, σ') ∧ Kp n0 n0 n0 kB σ σ' := by
  obtain ⟨σ1, e1, e2, e3⟩ := e_startChances (T := T) hw h
  obtain ⟨σ', g1, g2⟩ := e_chance6 hw h0 (d := d) hst hT st 0 FU σ1 (by omega) (FU_lt (by omega)) (AC_B e2 ⟨id, id, id⟩ h) (by rw [e2.1 _ id]; exact hS) (fun n t h3 h4 => by rw [e2.2.2.1 _ id]; exact hA n t h3 h4) e3
  refine ⟨σ', ?_, e2.trans g2⟩
  unfold f_X2_chanceOfAll
  rw [e1, bnd_s]
  exact g1
/-- a strategy's row as it is told by numbers: its steps, what it takes, is worth, brings, its chance -/
def StrC (w : AW) (d st : Nat) (T : Nat → Nat → Int32) (W : Nat → Nat → Int64) (B : Nat → Int64) (P : Int32) (σ : Sta) : Prop :=
  gI σ (64 * (41 + 5 * d) + 1) = nI st ∧ (∀ n t, n < st → t < aNs w → gA σ (41 + 5 * d + 2) (n * 100 + t) = T n t) ∧ (∀ n t, n ≤ st → t < aNs w → gJ σ (41 + 5 * d + 3) (n * 100 + t) = W n t) ∧ (∀ g, g < aNg w → gJ σ (41 + 5 * d + 4) g = B g) ∧ gI σ (64 * (41 + 5 * d) + 5) = P
def kIs (d : Nat) : Nat → Prop := fun q => q = 64 * (41 + 5 * d) + 5
def kJs (d : Nat) : Nat → Prop := fun q => q = 38 ∨ q = 39 ∨ q = 41 + 5 * d + 3 ∨ q = 41 + 5 * d + 4
def kJt (d : Nat) : Nat → Prop := fun q => q = 38 ∨ q = 39 ∨ q = 41 + 5 * d + 4
theorem AC_str {w : AW} {σ σ1 : Sta} {d : Nat} (h : Kp (kIs d) n0 (kA d) (kJs d) σ σ1) (h0 : AC w σ) : AC w σ1 :=
  AC_kp h ⟨by unfold kIs; omega, by unfold kIs; omega, by unfold kIs; omega⟩ ⟨by unfold kA; omega, by unfold kA; omega, by unfold kA; omega, by unfold kA; omega, by unfold kA; omega, by unfold kA; omega, by unfold kA; omega⟩ (by unfold kJs; omega) h0
theorem kJt_s {d : Nat} {σ σ1 : Sta} (h : Kp (kIs d) n0 (kA d) (kJt d) σ σ1) : Kp (kIs d) n0 (kA d) (kJs d) σ σ1 :=
  h.mono (fun _ e => e) (fun _ e => e) (fun _ e => e) (fun _ e => e.elim Or.inl (fun e => Or.inr (e.elim Or.inl (fun e => Or.inr (Or.inr e)))))
theorem kB_s {d : Nat} {σ σ1 : Sta} (h : Kp n0 n0 n0 kB σ σ1) : Kp (kIs d) n0 (kA d) (kJt d) σ σ1 :=
  h.mono (fun _ e => e.elim) (fun _ e => e.elim) (fun _ e => e.elim) (fun _ e => e.elim Or.inl (fun e => Or.inr (Or.inl e)))
theorem e_plan50 {w : AW} {T : Nat → Nat → Int32} {W : Nat → Nat → Int64} (hw : AWok w) (h0 : 0 < aNs w) {d st : Nat} (hst : st ≤ 30) (hT : ∀ n, n < st → TV w (T n)) : ∀ (m g n : Nat) (σ : Sta), g + m = aNg w → m < n → AC w σ → gI σ (64 * (41 + 5 * d) + 1) = nI st →
    (∀ n t, n < st → t < aNs w → gA σ (41 + 5 * d + 2) (n * 100 + t) = T n t) → (∀ n t, n ≤ st → t < aNs w → gJ σ (41 + 5 * d + 3) (n * 100 + t) = W n t) → (∀ j, j < g → gJ σ (41 + 5 * d + 4) j = aFolG w T j st 0) →
    ∃ σ', f_X2_plan_50 d n (nI g) σ = some ((), σ') ∧ Kp (kIs d) n0 (kA d) (kJt d) σ σ' ∧ StrC w d st T W (fun j => aFolG w T j st 0) ((aFolP w T st 0).toInt32) σ'
  | _, _, 0, _, _, hn, _, _, _, _, _ => absurd hn (Nat.not_lt_zero _)
  | 0, g, n + 1, σ, hk, hn, h, hS, hA, hW, hB => by
    have h2 := hw.2.1
    obtain ⟨σ1, e1, e2⟩ := e_chanceOfAll hw h0 (d := d) hst hT h hS hA
    refine ⟨sI σ1 (64 * (41 + 5 * d) + 5) ((aFolP w T st 0).toInt32), ?_, Kp.sI rfl (kB_s e2), ?_, fun n t h3 h4 => ?_, fun n t h3 h4 => ?_, fun j hj => ?_, ?_⟩
    · rw [f_X2_plan_50, h.2.1, if_pos (nI_le (by omega) (by omega)), e1, bnd_s, lt_e]
    · rw [gI_sI, if_neg (by omega), e2.1 _ id]; exact hS
    · rw [gA_sI, e2.2.2.1 _ id]; exact hA n t h3 h4
    · rw [gJ_sI, e2.2.2.2.1 _ (by unfold kB; omega)]; exact hW n t h3 h4
    · rw [gJ_sI, e2.2.2.2.1 _ (by unfold kB; omega)]; exact hB j (by omega)
    · rw [gI_sI, if_pos rfl]
  | m + 1, g, n + 1, σ, hk, hn, h, hS, hA, hW, hB => by
    have h2 := hw.2.1
    obtain ⟨σ1, e1, e2⟩ := e_gainOfAll hw h0 (d := d) (g := g) hst hT (by omega) h hS hA
    have hK : Kp (kIs d) n0 (kA d) (kJt d) σ (sJ σ1 (41 + 5 * d + 4) (vp_updL (gJ σ1 (41 + 5 * d + 4)) g (aFolG w T g st 0))) := Kp.sJ (Or.inr (Or.inr rfl)) (kB_s e2)
    obtain ⟨σ', g1, g2, g3⟩ := e_plan50 (W := W) hw h0 hst hT m (g + 1) n _ (by omega) (by omega) (AC_str (kJt_s hK) h) (by rw [gI_sJ, e2.1 _ id]; exact hS) (fun n t h3 h4 => by rw [gA_sJ, e2.2.2.1 _ id]; exact hA n t h3 h4)
      (fun n t h3 h4 => by rw [gJ_sJ, if_neg (by omega), e2.2.2.2.1 _ (by unfold kB; omega)]; exact hW n t h3 h4)
      (fun j hj => by
        rw [gJ_sJ, if_pos rfl, updL_at]
        by_cases h4 : j = g
        · rw [if_pos h4, h4]
        · rw [if_neg h4, e2.2.2.2.1 _ (by unfold kB; omega)]; exact hB j (by omega))
    refine ⟨σ', ?_, hK.trans g2, g3⟩
    rw [← g1, f_X2_plan_50, h.2.1, if_neg (nI_ge (by omega) (by omega)), e1, bnd_s, if_neg (nI_in (by omega) (by omega)), lt_e, lt_e, nI_1, nI_clamp (by omega)]
/-- a strategy is made -/
theorem e_plan {w : AW} {wt : Nat → Int32} (hw : AWok w) (h0 : 0 < aNs w) {d st : Nat} {σ : Sta} (hst : st ≤ 30) (h : AC w σ) (hS : gI σ (64 * (41 + 5 * d) + 1) = nI st) (hg : ∀ g, g < aNg w → gA σ (41 + 5 * d + 1) g = wt g) (hz : ∀ t, t < 100 → gJ σ (41 + 5 * d + 3) t = 0) :
    ∃ σ', f_X2_plan d σ = some ((), σ') ∧ Kp (kIs d) n0 (kA d) (kJs d) σ σ' ∧ StrC w d st (aTake w wt) (aWorth w wt) (fun j => aFolG w (aTake w wt) j st 0) ((aFolP w (aTake w wt) st 0).toInt32) σ' ∧ (∀ t, t < 100 → gJ σ' (41 + 5 * d + 3) t = 0) := by
  have h2 := hw.1
  have h3 := hw.2.1
  obtain ⟨σ1, e1, e2, e3⟩ := e_plan2 (wt := wt) hw (d := d) hst st 0 FU σ (by omega) (FU_lt (by omega)) h hS ⟨hg, fun n t h4 _ => absurd h4 (Nat.not_lt_zero _), fun n t h4 ht => by
    rw [show n * 100 + t = t by omega, show n = 0 by omega]; exact hz t (by omega), fun t ht => absurd ht (Nat.not_lt_zero _), hz⟩
  have hK : Kp (kIs d) n0 (kA d) (kJs d) σ σ1 := e2.mono (fun _ e => e.elim) (fun _ e => e.elim) (fun _ e => e) (fun _ e => Or.inr (Or.inr (Or.inl e)))
  obtain ⟨σ', g1, g2, g3⟩ := e_plan50 (T := aTake w wt) (W := aWorth w wt) hw h0 (d := d) hst (fun n _ => aTake_v hw wt n) (aNg w) 0 FU σ1 (by omega) (FU_lt (by omega)) (AC_str hK h) (by rw [e2.1 _ id]; exact hS) e3.2.1 e3.2.2.1 (fun j hj => absurd hj (Nat.not_lt_zero _))
  refine ⟨σ', ?_, hK.trans (kJt_s g2), g3, fun t ht => by rw [g2.2.2.2.1 _ (by unfold kJt; omega)]; exact e3.2.2.2.2 t ht⟩
  unfold f_X2_plan
  exact e1.trans g1
