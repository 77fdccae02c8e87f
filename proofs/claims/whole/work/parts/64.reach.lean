/-! reach -/
def aExt (least : Bool) (f : Nat → Int64) : Nat → Nat → Int64 → Int64
  | 0, _, e => e
  | m + 1, k, e => aExt least f m (k + 1) (if k = 0 ∨ (least = true ∧ f k < e) ∨ (least = false ∧ e < f k) then f k else e)
theorem aExt_congr {f g : Nat → Int64} (least : Bool) : ∀ (m k : Nat) (e : Int64), (∀ j, k ≤ j → j < k + m → f j = g j) → aExt least f m k e = aExt least g m k e
  | 0, _, _, _ => rfl
  | m + 1, k, e, h => by
    unfold aExt
    rw [h k (Nat.le_refl _) (by omega), aExt_congr least m (k + 1) _ (fun j h1 h2 => h j (by omega) (by omega))]
/-- with a choice at least, what it begins with is the same to it -/
theorem aExt_0 {f : Nat → Int64} (least : Bool) (m : Nat) (e e' : Int64) : aExt least f (m + 1) 0 e = aExt least f (m + 1) 0 e' := by
  unfold aExt
  rw [if_pos (Or.inl rfl), if_pos (Or.inl rfl)]
def aGl0 (w : AW) (t : Nat) : Int64 := if aGl w t = true then 1000000 else 0
def aR (w : AW) (least : Bool) : Nat → Nat → Int64
  | 0 => aGl0 w
  | n + 1 => fun s => aExt least (aLater w (aR w least n) s) (aCh w s) 0 (aR w least n s)
theorem aR_0 {w : AW} {least : Bool} {s : Nat} (h : aCh w s = 0) : ∀ n, aR w least n s = aGl0 w s
  | 0 => rfl
  | n + 1 => by
    show aExt least _ (aCh w s) 0 (aR w least n s) = _
    rw [h, aR_0 h n]
    rfl
theorem aR_s {w : AW} {least : Bool} (n s : Nat) : aExt least (aLater w (aR w least n) s) (aCh w s) 0 (aGl0 w s) = aR w least (n + 1) s := by
  show _ = aExt least _ (aCh w s) 0 (aR w least n s)
  cases hc : aCh w s with
  | zero =>
    show aGl0 w s = aR w least n s
    rw [aR_0 hc]
  | succ m => exact aExt_0 least m _ _
theorem e_ext_l {w : AW} {σ : Sta} (hw : AWok w) (h : AC w σ) {s : Nat} {b : Int32} (hs : s < aNs w) : ∀ (m k n : Nat) (e : Int64), k + m = aCh w s → m < n →
    f_X2_extremeIn_10 n (nI s) b e (nI k) σ = some (aExt (decide (b ≠ 0)) (aLater w (gJ σ 38) s) m k e, σ)
  | _, _, 0, _, _, hn => absurd hn (Nat.not_lt_zero _)
  | 0, k, n + 1, e, hk, hn => by
    have h1 := hw.1
    have h3 := (hw.2.2.2.1 s hs).1
    rw [f_X2_extremeIn_10, if_neg (nI_in (by omega) (by omega)), nI_clamp (by omega), if_pos (AC_le hw h hs (by omega) (by omega))]
    rfl
  | m + 1, k, n + 1, e, hk, hn => by
    have h1 := hw.1
    have h3 := (hw.2.2.2.1 s hs).1
    have ih := fun e => e_ext_l (b := b) hw h hs m (k + 1) n e (by omega) (by omega)
    rw [f_X2_extremeIn_10, if_neg (nI_in (by omega) (by omega)), nI_clamp (by omega), if_neg (AC_nle hw h hs (by omega)), e_later0 hw h hs (by omega) (by omega) (by omega), bnd_s, aExt]
    unfold f_X2_extremeIn_64 f_X2_extremeIn_67
    rw [lt_e, lt_e, nI_1, ih, ih]
    by_cases hk0 : k = 0
    · rw [if_pos (by rw [hk0]; rfl), if_pos (Or.inl hk0)]
    · rw [if_neg (nI_ne0 (by omega) (by omega))]
      by_cases hb : b = 0
      · rw [if_pos hb]
        by_cases h4 : e < aLater w (gJ σ 38) s k
        · rw [if_neg (fun q => Int64.not_le.mpr h4 ((lg_cmp_le _ _).mp q)), if_pos (Or.inr (Or.inr ⟨by simp [hb], h4⟩))]
        · rw [if_pos ((lg_cmp_le _ _).mpr (Int64.not_lt.mp h4)), if_neg (fun q => by
            rcases q with q | q | q
            · exact hk0 q
            · simp [hb] at q
            · exact h4 q.2)]
      · rw [if_neg hb]
        by_cases h4 : aLater w (gJ σ 38) s k < e
        · rw [if_neg (fun q => Int64.not_le.mpr h4 ((lg_cmp_ge _ _).mp q)), if_pos (Or.inr (Or.inl ⟨by simp [hb], h4⟩))]
        · rw [if_pos ((lg_cmp_ge _ _).mpr (Int64.not_lt.mp h4)), if_neg (fun q => by
            rcases q with q | q | q
            · exact hk0 q
            · exact h4 q.2
            · simp [hb] at q)]
theorem e_ext14 {w : AW} (hw : AWok w) {st i : Nat} {b : Int32} {k6 : Int32 → Int32 → Int32 → Sta → Option (Int32 × Sta)} : ∀ (m s n : Nat) (σ : Sta), s + m = aNs w → m < n → AC w σ →
    (∀ t, t < aNs w → gJ σ 38 t = aR w (decide (b ≠ 0)) i t) → (∀ t, t < s → gJ σ 39 t = aR w (decide (b ≠ 0)) (i + 1) t) →
    ∃ σ', f_X2_extremeChance_14 k6 n (nI st) b (nI (i + 1)) (nI s) σ = k6 (nI st) b (nI (i + 2)) σ' ∧ Kp n0 n0 n0 kB σ σ' ∧ (∀ t, t < aNs w → gJ σ' 38 t = aR w (decide (b ≠ 0)) (i + 1) t)
  | _, _, 0, _, _, hn, _, _, _ => absurd hn (Nat.not_lt_zero _)
  | 0, s, n + 1, σ, hk, hn, h, hB, hN => by
    have h2 := hw.1
    refine ⟨sJ σ 38 (va_cpy (gJ σ 39) (gJ σ 38) 0 0 100), ?_, Kp.sJ (Or.inl rfl) Kp.rfl', fun t ht => ?_⟩
    · rw [f_X2_extremeChance_14, h.1, if_pos (nI_le (by omega) (by omega)), e_stepOn, bnd_s, lt_e, nI_1]
    · rw [gJ_sJ, if_pos rfl, cpy_at, if_pos (by omega), show 0 + (t - 0) = t by omega]
      exact hN t (by omega)
  | m + 1, s, n + 1, σ, hk, hn, h, hB, hN => by
    have h2 := hw.1
    have hs : s < aNs w := by omega
    have hch := (hw.2.2.2.1 s hs).1
    have hK : Kp n0 n0 n0 kB σ (sJ σ 39 (vp_updL (gJ σ 39) s (aR w (decide (b ≠ 0)) (i + 1) s))) := Kp.sJ (Or.inr rfl) Kp.rfl'
    obtain ⟨σ', e1, e2, e3⟩ := e_ext14 (st := st) (k6 := k6) hw m (s + 1) n _ (by omega) (by omega) (AC_B hK ⟨id, id, id⟩ h) (fun t ht => by rw [gJ_sJ, if_neg (by decide)]; exact hB t ht) (fun t ht => by
      rw [gJ_sJ, if_pos rfl, updL_at]
      by_cases h4 : t = s
      · rw [if_pos h4, h4]
      · rw [if_neg h4]; exact hN t (by omega))
    refine ⟨σ', ?_, hK.trans e2, e3⟩
    have hx : f_X2_extremeIn (nI s) b σ = some (aR w (decide (b ≠ 0)) (i + 1) s, σ) := by
      unfold f_X2_extremeIn
      rw [if_neg (nI_in (by omega) (by omega)), lt_e, nI_clamp (by omega), hB s hs]
      refine (e_ext_l hw h hs (aCh w s) 0 FU _ (by omega) (FU_lt (by omega))).trans ?_
      rw [aExt_congr _ _ _ _ (fun j _ hj => aLater_congr hw hs (by omega) hB)]
      rfl
    rw [← e1, f_X2_extremeChance_14, h.1, if_neg (nI_ge (by omega) (by omega)), hx, bnd_s, if_neg (nI_in (by omega) (by omega)), lt_e, lt_e, nI_1, nI_clamp (by omega)]
theorem e_ext6 {w : AW} (hw : AWok w) (h0 : 0 < aNs w) {st : Nat} {b : Int32} (hst : st ≤ 30) : ∀ (m i n : Nat) (σ : Sta), i + m = st → m < n → AC w σ → (∀ t, t < aNs w → gJ σ 38 t = aR w (decide (b ≠ 0)) i t) →
    ∃ σ', f_X2_extremeChance_6 n (nI st) b (nI (i + 1)) σ = some ((aR w (decide (b ≠ 0)) st 0).toInt32, σ') ∧ Kp n0 n0 n0 kB σ σ'
  | _, _, 0, _, _, hn, _, _ => absurd hn (Nat.not_lt_zero _)
  | 0, i, n + 1, σ, hk, hn, h, hB => by
    refine ⟨σ, ?_, Kp.rfl'⟩
    rw [f_X2_extremeChance_6, if_pos (nI_lt (by omega) (by omega)), if_neg (by decide), show ((0 : Int32).toNatClampNeg) = 0 from rfl, hB 0 h0, show i = st by omega]
  | m + 1, i, n + 1, σ, hk, hn, h, hB => by
    have h2 := hw.1
    obtain ⟨σ1, e1, e2, e3⟩ := e_ext14 (st := st) (k6 := f_X2_extremeChance_6 n) hw (aNs w) 0 FU σ (by omega) (FU_lt (by omega)) h hB (fun t ht => absurd ht (Nat.not_lt_zero _))
    obtain ⟨σ', g1, g2⟩ := e_ext6 hw h0 hst m (i + 1) n σ1 (by omega) (by omega) (AC_B e2 ⟨id, id, id⟩ h) e3
    refine ⟨σ', ?_, e2.trans g2⟩
    rw [f_X2_extremeChance_6, if_neg (nI_nlt (by omega) (by omega))]
    exact e1.trans g1
section RE
variable {w : AW} {τ : Sta} {b : Int32}
theorem e_re120 (hw : AWok w) {st i s : Nat} {k76 : Int32 → Int32 → Int32 → Sta → Option (Int32 × Sta)} {k84 : Int32 → Int32 → Int32 → Int32 → Sta → Option (Int32 × Sta)} (hs : s < aNs w) : ∀ (m k n : Nat) (τ : Sta), k + m = aCh w s → m < n → AM w τ →
    f_X10_reach_120 k76 k84 n (nI st) b (nI i) (nI s) (nI k) τ = k84 (nI st) b (nI i) (nI (s + 1)) (sJ τ 35 (vp_updL (gJ τ 35) s (aExt (decide (b ≠ 0)) (aLater w (gJ τ 36) s) m k (gJ τ 35 s))))
  | _, _, 0, _, _, hn, _ => absurd hn (Nat.not_lt_zero _)
  | 0, k, n + 1, τ, hk, hn, h => by
    have h1 := hw.1
    have h3 := (hw.2.2.2.1 s hs).1
    have hid : vp_updL (gJ τ 35) s (gJ τ 35 s) = gJ τ 35 := by
      funext j
      rw [updL_at]
      by_cases hj : j = s
      · rw [if_pos hj, hj]
      · rw [if_neg hj]
    rw [f_X10_reach_120, if_neg (nI_in (by omega) (by omega)), nI_clamp (by omega), (h.2.2.2.1 s hs).1, if_pos (nI_le (by omega) (by omega)), lt_e, nI_1, aExt, hid, sJ_gJ]
  | m + 1, k, n + 1, τ, hk, hn, h => by
    have h1 := hw.1
    have h3 := (hw.2.2.2.1 s hs).1
    have ih := fun τ h => e_re120 (st := st) (i := i) (k76 := k76) (k84 := k84) hw hs m (k + 1) n τ (by omega) (by omega) h
    rw [f_X10_reach_120, if_neg (nI_in (by omega) (by omega)), show gA τ 23 (nI s).toNatClampNeg = nI (aCh w s) by rw [nI_clamp (by omega)]; exact (h.2.2.2.1 s hs).1, if_neg (nI_ge (by omega) (by omega)), nI_Lmul, nI_add, e_expected0 hw h hs (by omega) (by omega) (by omega), bnd_s, aExt]
    unfold f_X10_reach_189 f_X10_reach_198
    have hg : ¬ (nI s < 0 ∨ 100 ≤ (nI s).toNatClampNeg) := nI_in (by omega) (by omega)
    simp only [if_neg hg, lt_e, nI_1]
    rw [nI_clamp (by omega), ih τ h, ih _ (AM_sJ (by decide) h)]
    simp only [gJ_sJ, Nat.reduceEqDiff, ↓reduceIte, sJ_sJ, updL2, updL_at]
    by_cases hk0 : k = 0
    · rw [if_pos (by rw [hk0]; rfl), if_pos (Or.inl hk0)]
    · rw [if_neg (nI_ne0 (by omega) (by omega))]
      by_cases hb : b = 0
      · rw [if_pos hb]
        by_cases h4 : gJ τ 35 s < aLater w (gJ τ 36) s k
        · rw [if_neg (fun q => Int64.not_le.mpr h4 ((lg_cmp_le _ _).mp q)), if_pos (Or.inr (Or.inr ⟨by simp [hb], h4⟩))]
        · rw [if_pos ((lg_cmp_le _ _).mpr (Int64.not_lt.mp h4)), if_neg (fun q => by
            rcases q with q | q | q
            · exact hk0 q
            · simp [hb] at q
            · exact h4 q.2)]
      · rw [if_neg hb]
        by_cases h4 : aLater w (gJ τ 36) s k < gJ τ 35 s
        · rw [if_neg (fun q => Int64.not_le.mpr h4 ((lg_cmp_ge _ _).mp q)), if_pos (Or.inr (Or.inl ⟨by simp [hb], h4⟩))]
        · rw [if_pos ((lg_cmp_ge _ _).mpr (Int64.not_lt.mp h4)), if_neg (fun q => by
            rcases q with q | q | q
            · exact hk0 q
            · exact h4 q.2
            · simp [hb] at q)]
theorem e_re84 (hw : AWok w) {st i : Nat} {k76 : Int32 → Int32 → Int32 → Sta → Option (Int32 × Sta)} : ∀ (m s n : Nat) (τ : Sta), s + m = aNs w → m < n → AM w τ →
    (∀ t, t < aNs w → gJ τ 36 t = aR w (decide (b ≠ 0)) i t) → (∀ t, t < s → gJ τ 35 t = aR w (decide (b ≠ 0)) (i + 1) t) →
    ∃ τ', f_X10_reach_84 k76 n (nI st) b (nI (i + 1)) (nI s) τ = k76 (nI st) b (nI (i + 2)) τ' ∧ Kp n0 n0 n0 kBM τ τ' ∧ (∀ t, t < aNs w → gJ τ' 36 t = aR w (decide (b ≠ 0)) (i + 1) t)
  | _, _, 0, _, _, hn, _, _, _ => absurd hn (Nat.not_lt_zero _)
  | 0, s, n + 1, τ, hk, hn, h, hB, hN => by
    have h2 := hw.1
    refine ⟨sJ τ 36 (va_cpy (gJ τ 35) (gJ τ 36) 0 0 (aNs w)), ?_, Kp.sJ (Or.inr rfl) Kp.rfl', fun t ht => ?_⟩
    · rw [f_X10_reach_84, h.1, if_pos (nI_le (by omega) (by omega)), if_neg (cpy_guard rfl h2), lt_e, lt_e, nI_1, nI_clamp (by omega)]
      rfl
    · rw [gJ_sJ, if_pos rfl, cpy_at, if_pos (by omega), show 0 + (t - 0) = t by omega]
      exact hN t (by omega)
  | m + 1, s, n + 1, τ, hk, hn, h, hB, hN => by
    have h2 := hw.1
    have hs : s < aNs w := by omega
    have hch := (hw.2.2.2.1 s hs).1
    have hK : Kp n0 n0 n0 kBM τ (sJ τ 35 (vp_updL (gJ τ 35) s (aR w (decide (b ≠ 0)) (i + 1) s))) := Kp.sJ (Or.inl rfl) Kp.rfl'
    obtain ⟨τ', e1, e2, e3⟩ := e_re84 (st := st) (k76 := k76) hw m (s + 1) n _ (by omega) (by omega) (AM_B hK h) (fun t ht => by rw [gJ_sJ, if_neg (by decide)]; exact hB t ht) (fun t ht => by
      rw [gJ_sJ, if_pos rfl, updL_at]
      by_cases h4 : t = s
      · rw [if_pos h4, h4]
      · rw [if_neg h4]; exact hN t (by omega))
    refine ⟨τ', ?_, hK.trans e2, e3⟩
    have hx : ∀ z : Int64, z = aGl0 w s → f_X10_reach_116 k76 (f_X10_reach_84 k76 n) (nI st) b (nI (i + 1)) (nI s) z (nI s) τ = f_X10_reach_84 k76 n (nI st) b (nI (i + 1)) (nI (s + 1)) (sJ τ 35 (vp_updL (gJ τ 35) s (aR w (decide (b ≠ 0)) (i + 1) s))) := fun z hz => by
      have hM : AM w (sJ τ 35 (vp_updL (gJ τ 35) s z)) := AM_sJ (by decide) h
      have hr := e_re120 (b := b) (st := st) (i := i + 1) (k76 := k76) (k84 := f_X10_reach_84 k76 n) hw hs (aCh w s) 0 FU (sJ τ 35 (vp_updL (gJ τ 35) s z)) (by omega) (FU_lt (by omega)) hM
      unfold f_X10_reach_116
      rw [if_neg (nI_in (by omega) (by omega)), lt_e, nI_clamp (by omega)]
      refine hr.trans ?_
      simp only [gJ_sJ, Nat.reduceEqDiff, ↓reduceIte, sJ_sJ, updL2, updL_at]
      rw [hz, aExt_congr _ _ _ _ (fun j _ hj => aLater_congr hw hs (by omega) hB), aR_s]
    rw [← e1, f_X10_reach_84, h.1, if_neg (nI_ge (by omega) (by omega)), if_neg (nI_in (by omega) (by omega)), nI_clamp (by omega)]
    by_cases h5 : aGl w s = true
    · rw [if_neg (fun e => (AM_goal h hs).mp e h5)]
      exact hx _ (by unfold aGl0; rw [if_pos h5])
    · rw [if_pos ((AM_goal h hs).mpr h5)]
      exact hx _ (by unfold aGl0; rw [if_neg h5])
theorem e_re76 (hw : AWok w) (h0 : 0 < aNs w) {st : Nat} (hst : st ≤ 30) : ∀ (m i n : Nat) (τ : Sta), i + m = st → m < n → AM w τ → (∀ t, t < aNs w → gJ τ 36 t = aR w (decide (b ≠ 0)) i t) →
    ∃ τ', f_X10_reach_76 n (nI st) b (nI (i + 1)) τ = some ((aR w (decide (b ≠ 0)) st 0).toInt32, τ') ∧ Kp n0 n0 n0 kBM τ τ'
  | _, _, 0, _, _, hn, _, _ => absurd hn (Nat.not_lt_zero _)
  | 0, i, n + 1, τ, hk, hn, h, hB => by
    refine ⟨τ, ?_, Kp.rfl'⟩
    rw [f_X10_reach_76, if_pos (nI_lt (by omega) (by omega)), if_neg (by decide), show ((0 : Int32).toNatClampNeg) = 0 from rfl, hB 0 h0, show i = st by omega]
  | m + 1, i, n + 1, τ, hk, hn, h, hB => by
    have h2 := hw.1
    obtain ⟨τ1, e1, e2, e3⟩ := e_re84 (st := st) (k76 := f_X10_reach_76 n) hw (aNs w) 0 FU τ (by omega) (FU_lt (by omega)) h hB (fun t ht => absurd ht (Nat.not_lt_zero _))
    obtain ⟨τ', g1, g2⟩ := e_re76 hw h0 hst m (i + 1) n τ1 (by omega) (by omega) (AM_B e2 h) e3
    refine ⟨τ', ?_, e2.trans g2⟩
    rw [f_X10_reach_76, if_neg (nI_nlt (by omega) (by omega))]
    exact e1.trans g1
theorem e_re38 (hw : AWok w) {st : Nat} : ∀ (m s n : Nat) (τ : Sta), s + m = aNs w → m < n → AM w τ → (∀ t, t < s → gJ τ 36 t = aGl0 w t) →
    ∃ τ', f_X10_reach_38 n (nI st) b (nI s) τ = f_X10_reach_76 FU (nI st) b 1 τ' ∧ Kp n0 n0 n0 kBM τ τ' ∧ (∀ t, t < aNs w → gJ τ' 36 t = aGl0 w t)
  | _, _, 0, _, _, hn, _, _ => absurd hn (Nat.not_lt_zero _)
  | 0, s, n + 1, τ, hk, hn, h, hN => by
    have h2 := hw.1
    refine ⟨τ, ?_, Kp.rfl', fun t ht => hN t (by omega)⟩
    rw [f_X10_reach_38, h.1, if_pos (nI_le (by omega) (by omega))]
  | m + 1, s, n + 1, τ, hk, hn, h, hN => by
    have h2 := hw.1
    have hs : s < aNs w := by omega
    have hK : Kp n0 n0 n0 kBM τ (sJ τ 36 (vp_updL (gJ τ 36) s (aGl0 w s))) := Kp.sJ (Or.inr rfl) Kp.rfl'
    obtain ⟨τ', e1, e2, e3⟩ := e_re38 (st := st) hw m (s + 1) n _ (by omega) (by omega) (AM_B hK h) (fun t ht => by
      rw [gJ_sJ, if_pos rfl, updL_at]
      by_cases h4 : t = s
      · rw [if_pos h4, h4]
      · rw [if_neg h4]; exact hN t (by omega))
    refine ⟨τ', ?_, hK.trans e2, e3⟩
    rw [← e1, f_X10_reach_38, h.1, if_neg (nI_ge (by omega) (by omega)), if_neg (nI_in (by omega) (by omega)), nI_clamp (by omega)]
    unfold f_X10_reach_67
    rw [if_neg (nI_in (by omega) (by omega)), lt_e, lt_e, if_neg (nI_in (by omega) (by omega)), lt_e, lt_e, nI_1, nI_clamp (by omega)]
    unfold aGl0
    by_cases h5 : aGl w s = true
    · rw [if_neg (fun e => (AM_goal h hs).mp e h5), if_pos h5]
    · rw [if_pos ((AM_goal h hs).mpr h5), if_neg h5]
end RE
theorem op_reach {w : AW} {σ τ : Sta} (h : REL w σ τ) (a b : Int32) : OP w (f_X8_reach a b σ) (f_X10_reach a b τ) eIAE eISE "" := by
  have hw := h.1
  have h1 := hw.1
  have hc := h.2.2.1
  have h0 := REL_th h 0
  have hm := h0.2.2.2.1
  unfold f_X8_reach f_X10_reach
  rw [lt_e, e_cR, show (30 : Int64) = (30 : Int32).toInt64 by decide, show (0 : Int64) = (0 : Int32).toInt64 by decide, e_isR]
  by_cases h5 : (0 : Int32) ≤ a ∧ a ≤ 30
  · obtain ⟨st, hst, rfl⟩ := nI_of2 (M := 30) (n := 30) (by decide) (fun e => Int32.not_le.mpr e h5.1) h5.2
    rw [if_pos h5, if_pos h5, bnx_l, bnd_s, ite10]
    unfold f_X8_checkProgram
    rw [hc.1, hm.1]
    by_cases h6 : aNs w = 0
    · rw [if_pos (show nI (aNs w) = 0 by rw [h6]; rfl), bnx_r, if_pos (show nI (aNs w) = 0 by rw [h6]; rfl), e_failM, bnd_s]
      exact OP.e2 rfl rfl (REL_fail h 0 2) (th_0 _ _)
    · rw [if_neg (nI_ne0 (by omega) (by omega)), bnx_l, if_neg (nI_ne0 (by omega) (by omega))]
      obtain ⟨σ1, e1, e2, e3⟩ := e_startChances (T := fun _ _ => 0) hw hc
      obtain ⟨σ', g1, g2⟩ := e_ext6 (b := b) hw (by omega) hst st 0 FU σ1 (by omega) (FU_lt (by omega)) (AC_B e2 ⟨id, id, id⟩ hc) e3
      obtain ⟨τ1, f1, f2, f3⟩ := e_re38 (b := b) (st := st) hw (aNs w) 0 FU (sI τ 0 0) (by omega) (FU_lt (by omega)) hm (fun t ht => absurd ht (Nat.not_lt_zero _))
      obtain ⟨τ', k1, k2⟩ := e_re76 (b := b) hw (by omega) hst st 0 FU τ1 (by omega) (FU_lt (by omega)) (AM_B f2 hm) f3
      have hKc := e2.trans g2
      have hKm := f2.trans k2
      unfold f_X2_extremeChance
      rw [e1, bnd_s, show f_X2_extremeChance_6 FU (nI st) b 1 σ1 = _ from g1, bnd_s]
      refine OP.in _ rfl (f1.trans k1) (REL_fr h0 hKc hKm (fun _ e => e.elim) (fun _ e => e.elim) (fun _ e => e.elim) (fun q e => by unfold kB at e; omega) (fun _ e => e.elim) (fun _ e => e.elim) (fun _ e => e.elim) (fun q e => by unfold kBM at e; omega) (Strs_kp h0.2.2.2.2.2.1 hKc hKm (fun _ e => e.elim) (fun _ e => e.elim) (fun q e => by unfold kB at e; omega) (fun _ e => e.elim) (fun _ e => e.elim) (fun q e => by unfold kBM at e; omega))) ?_
      rw [hKm.1 0 id]
      exact th_0 _ _
  · rw [if_neg h5, if_neg h5, bnx_r, bnd_s, ite00, e_failM, bnd_s]
    exact OP.e1 rfl rfl (REL_fail h 0 1) (th_0 _ _)
