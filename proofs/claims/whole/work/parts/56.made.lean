theorem zero_addL (x : Int64) : (0 : Int64) + x = x := Int64.zero_add x
theorem AM_goal {w : AW} {σ : Sta} (h : AM w σ) {s : Nat} (hs : s < aNs w) : gA σ 22 s = 0 ↔ ¬ aGl w s = true := by
  rw [(h.2.2.2.1 s hs).2]
  by_cases h1 : aGl w s = true
  · rw [if_pos h1]
    exact ⟨fun e => absurd e (by decide), fun e => absurd h1 e⟩
  · rw [if_neg h1]
    exact ⟨fun _ => h1, fun _ => rfl⟩
/-- in a goal and in a state without choices the chance is what it was at first -/
theorem e_follow58P {w : AW} {T : Nat → Nat → Int32} (hw : AWok w) {k i : Nat} (hT : ∀ n, n ≤ i → TV w (T n)) (hk : k < 22) (hi : i < 30) {k45 : Int32 → Int32 → Int32 → Sta → Option (Int64 × Sta)} : ∀ (m s n : Nat) (σ : Sta), s + m = aNs w → m < n → AM w σ →
    (∀ t, t < aNs w → gA σ 31 (3100 * k + 100 * (i + 1) + t) = T i t) → (∀ t, t < aNs w → gJ σ 36 t = aFolP w T i t) → (∀ t, t < s → gJ σ 35 t = aFolP w T (i + 1) t) →
    ∃ σ', f_X10_follow_58 k45 n (nI k) (-1) (nI (i + 1)) (nI s) σ = k45 (nI k) (-1) (nI (i + 2)) σ' ∧ Kp n0 n0 n0 kBM σ σ' ∧ (∀ t, t < aNs w → gJ σ' 36 t = aFolP w T (i + 1) t)
  | _, _, 0, _, _, hn, _, _, _, _ => absurd hn (Nat.not_lt_zero _)
  | 0, s, n + 1, σ, hsm, hn, h, hA, hB, hN => by
    have h2 := hw.1
    refine ⟨sJ σ 36 (va_cpy (gJ σ 35) (gJ σ 36) 0 0 (aNs w)), ?_, Kp.sJ (Or.inr rfl) Kp.rfl', fun t ht => ?_⟩
    · rw [f_X10_follow_58, h.1, if_pos (nI_le (by omega) (by omega)), if_neg (cpy_guard rfl h2), lt_e, lt_e, nI_1, nI_clamp (by omega)]
      rfl
    · rw [gJ_sJ, if_pos rfl, cpy_at, if_pos (by omega), show 0 + (t - 0) = t by omega]
      exact hN t (by omega)
  | m + 1, s, n + 1, σ, hsm, hn, h, hA, hB, hN => by
    have h2 := hw.1
    have hs : s < aNs w := by omega
    have hK : Kp n0 n0 n0 kBM σ (sJ σ 35 (vp_updL (gJ σ 35) s (aFolP w T (i + 1) s))) := Kp.sJ (Or.inl rfl) Kp.rfl'
    have e38 : gJ (sJ σ 35 (vp_updL (gJ σ 35) s (aFolP w T (i + 1) s))) 36 = gJ σ 36 := by rw [gJ_sJ, if_neg (by decide)]
    obtain ⟨σ', e1, e2, e3⟩ := e_follow58P hw hT hk hi (k45 := k45) m (s + 1) n _ (by omega) (by omega) (AM_B hK h) (fun t ht => hA t ht) (by rw [e38]; exact hB) (fun t ht => by
      rw [gJ_sJ, if_pos rfl, updL_at]
      by_cases h4 : t = s
      · rw [if_pos h4, h4]
      · rw [if_neg h4]; exact hN t (by omega))
    refine ⟨σ', ?_, hK.trans e2, e3⟩
    rw [← e1, f_X10_follow_58, h.1, if_neg (nI_ge (by omega) (by omega)), nI_Lmul, nI_Lmul, nI_add, nI_add, if_neg (nI_in (by omega) (by omega)), nI_clamp (by omega), lt_e, if_pos rfl, if_neg (nI_in (by omega) (by omega)), nI_clamp (by omega), hA s hs]
    unfold f_X10_follow_114
    have hx : ∀ z : Int64, z = aFolP w T 0 s → f_X10_follow_115 k45 (f_X10_follow_58 k45 n) (nI k) (-1) (nI (i + 1)) (nI s) (T i s) z (nI s) σ = f_X10_follow_58 k45 n (nI k) (-1) (nI (i + 1)) (nI (s + 1)) (sJ σ 35 (vp_updL (gJ σ 35) s (aFolP w T (i + 1) s))) := fun z hz => by
      unfold f_X10_follow_115 f_X10_follow_178
      rw [if_neg (nI_in (by omega) (by omega)), lt_e, nI_clamp (by omega)]
      have hv : aFolP w T (i + 1) s = if T i s < 0 then aFolP w T i s else aLater w (aFolP w T i) s ((T i s).toNatClampNeg) := rfl
      rcases hT i (Nat.le_refl _) s hs with ⟨h5, h6⟩ | ⟨c, h5, h6⟩
      · rw [h6, if_pos m1neg, aFolP_0 s i (fun n hn => by
          rcases hT n (by omega) s hs with ⟨_, h8⟩ | ⟨c, h8, _⟩
          · exact h8
          · omega)] at hv
        rw [h6, if_pos rfl, lt_e, nI_1, hz, hv]
      · have h7 := (hw.2.2.2.1 s hs).1
        rw [h6, if_neg (nI_pos (by omega)), nI_clamp (by omega), ← aLater_congr hw hs h5 hB] at hv
        have hM : AM w (sJ σ 35 (vp_updL (gJ σ 35) s z)) := AM_sJ (by decide) h
        rw [h6, if_neg (ne_m1 (by omega)), lt_e, if_pos rfl, nI_Lmul, nI_add]
        unfold f_X10_follow_165 f_X10_follow_178
        rw [e_expected0 hw hM hs h5 (by omega) (by omega), bnd_s, if_neg (nI_in (by omega) (by omega)), lt_e, lt_e, nI_1, nI_clamp (by omega), sJ_sJ, gJ_sJ, if_pos rfl, updL2, gJ_sJ, if_neg (by decide), hv, zero_addL]
    by_cases h5 : aGl w s = true
    · rw [if_neg (fun e => (AM_goal h hs).mp e h5)]
      exact hx _ (by show _ = if aGl w s = true then (1000000 : Int64) else 0; rw [if_pos h5])
    · rw [if_pos ((AM_goal h hs).mpr h5)]
      exact hx _ (by show _ = if aGl w s = true then (1000000 : Int64) else 0; rw [if_neg h5])
theorem e_follow45G {w : AW} {T : Nat → Nat → Int32} (hw : AWok w) (h0 : 0 < aNs w) {k g st : Nat} (hk : k < 22) (hst : st ≤ 30) (hT : ∀ n, n < st → TV w (T n)) (hg : g < aNg w) : ∀ (m i n : Nat) (σ : Sta), i + m = st → m < n → AM w σ → gA σ 30 k = nI st →
    (∀ n t, n < st → t < aNs w → gA σ 31 (3100 * k + 100 * (n + 1) + t) = T n t) → (∀ t, t < aNs w → gJ σ 36 t = aFolG w T g i t) →
    ∃ σ', f_X10_follow_45 n (nI k) (nI g) (nI (i + 1)) σ = some (aFolG w T g st 0, σ') ∧ Kp n0 n0 n0 kBM σ σ'
  | _, _, 0, _, _, hn, _, _, _, _ => absurd hn (Nat.not_lt_zero _)
  | 0, i, n + 1, σ, him, hn, h, hS, hA, hB => by
    refine ⟨σ, ?_, Kp.rfl'⟩
    rw [f_X10_follow_45, if_neg (nI_in (by omega) (by omega)), nI_clamp (by omega), hS, if_pos (nI_lt (by omega) (by omega)), if_neg (by decide), show ((0 : Int32).toNatClampNeg) = 0 from rfl, hB 0 h0, show i = st by omega]
  | m + 1, i, n + 1, σ, him, hn, h, hS, hA, hB => by
    have h2 := hw.1
    obtain ⟨σ1, e1, e2, e3⟩ := e_follow58G hw (hT i (by omega)) hk (i := i) (by omega) hg (k45 := f_X10_follow_45 n) (aNs w) 0 FU σ (by omega) (FU_lt (by omega)) h (fun t ht => hA i t (by omega) ht) (fun t ht => absurd ht (Nat.not_lt_zero _))
    obtain ⟨σ', g1, g2⟩ := e_follow45G hw h0 hk hst hT hg m (i + 1) n σ1 (by omega) (by omega) (AM_B e2 h) (by rw [e2.2.2.1 _ id]; exact hS) (fun n t h3 h4 => by rw [e2.2.2.1 _ id]; exact hA n t h3 h4) (fun t ht => by
      rw [e3 t ht]
      exact aStepG_congr hw (hT i (by omega)) ht hB)
    refine ⟨σ', ?_, e2.trans g2⟩
    rw [f_X10_follow_45, if_neg (nI_in (by omega) (by omega)), nI_clamp (by omega), hS, if_neg (nI_nlt (by omega) (by omega))]
    exact e1.trans g1
theorem e_follow45P {w : AW} {T : Nat → Nat → Int32} (hw : AWok w) (h0 : 0 < aNs w) {k st : Nat} (hk : k < 22) (hst : st ≤ 30) (hT : ∀ n, n < st → TV w (T n)) : ∀ (m i n : Nat) (σ : Sta), i + m = st → m < n → AM w σ → gA σ 30 k = nI st →
    (∀ n t, n < st → t < aNs w → gA σ 31 (3100 * k + 100 * (n + 1) + t) = T n t) → (∀ t, t < aNs w → gJ σ 36 t = aFolP w T i t) →
    ∃ σ', f_X10_follow_45 n (nI k) (-1) (nI (i + 1)) σ = some (aFolP w T st 0, σ') ∧ Kp n0 n0 n0 kBM σ σ'
  | _, _, 0, _, _, hn, _, _, _, _ => absurd hn (Nat.not_lt_zero _)
  | 0, i, n + 1, σ, him, hn, h, hS, hA, hB => by
    refine ⟨σ, ?_, Kp.rfl'⟩
    rw [f_X10_follow_45, if_neg (nI_in (by omega) (by omega)), nI_clamp (by omega), hS, if_pos (nI_lt (by omega) (by omega)), if_neg (by decide), show ((0 : Int32).toNatClampNeg) = 0 from rfl, hB 0 h0, show i = st by omega]
  | m + 1, i, n + 1, σ, him, hn, h, hS, hA, hB => by
    have h2 := hw.1
    obtain ⟨σ1, e1, e2, e3⟩ := e_follow58P hw (i := i) (fun n hn => hT n (by omega)) hk (by omega) (k45 := f_X10_follow_45 n) (aNs w) 0 FU σ (by omega) (FU_lt (by omega)) h (fun t ht => hA i t (by omega) ht) hB (fun t ht => absurd ht (Nat.not_lt_zero _))
    obtain ⟨σ', g1, g2⟩ := e_follow45P hw h0 hk hst hT m (i + 1) n σ1 (by omega) (by omega) (AM_B e2 h) (by rw [e2.2.2.1 _ id]; exact hS) (fun n t h3 h4 => by rw [e2.2.2.1 _ id]; exact hA n t h3 h4) e3
    refine ⟨σ', ?_, e2.trans g2⟩
    rw [f_X10_follow_45, if_neg (nI_in (by omega) (by omega)), nI_clamp (by omega), hS, if_neg (nI_nlt (by omega) (by omega))]
    exact e1.trans g1
theorem e_follow2G {w : AW} (hw : AWok w) {k g : Nat} (hg : g < aNg w) : ∀ (m s n : Nat) (σ : Sta), s + m = aNs w → m < n → AM w σ → (∀ t, t < s → gJ σ 36 t = 0) →
    ∃ σ', f_X10_follow_2 n (nI k) (nI g) (nI s) σ = f_X10_follow_45 FU (nI k) (nI g) 1 σ' ∧ Kp n0 n0 n0 kBM σ σ' ∧ (∀ t, t < aNs w → gJ σ' 36 t = 0)
  | _, _, 0, _, _, hn, _, _ => absurd hn (Nat.not_lt_zero _)
  | 0, s, n + 1, σ, hsm, hn, h, hN => by
    have h2 := hw.1
    refine ⟨σ, ?_, Kp.rfl', fun t ht => hN t (by omega)⟩
    rw [f_X10_follow_2, h.1, if_pos (nI_le (by omega) (by omega))]
  | m + 1, s, n + 1, σ, hsm, hn, h, hN => by
    have h2 := hw.1
    have h2g := hw.2.1
    have hK : Kp n0 n0 n0 kBM σ (sJ σ 36 (vp_updL (gJ σ 36) s 0)) := Kp.sJ (Or.inr rfl) Kp.rfl'
    obtain ⟨σ', e1, e2, e3⟩ := e_follow2G hw (k := k) hg m (s + 1) n _ (by omega) (by omega) (AM_B hK h) (fun t ht => by
      rw [gJ_sJ, if_pos rfl, updL_at]
      by_cases h4 : t = s
      · rw [if_pos h4]
      · rw [if_neg h4]; exact hN t (by omega))
    refine ⟨σ', ?_, hK.trans e2, e3⟩
    rw [← e1, f_X10_follow_2, h.1, if_neg (nI_ge (by omega) (by omega)), if_neg (ne_m1 (by omega))]
    unfold f_X10_follow_35 f_X10_follow_36
    rw [if_neg (nI_in (by omega) (by omega)), lt_e, lt_e, nI_1, nI_clamp (by omega)]
theorem e_follow2P {w : AW} {T : Nat → Nat → Int32} (hw : AWok w) {k : Nat} : ∀ (m s n : Nat) (σ : Sta), s + m = aNs w → m < n → AM w σ → (∀ t, t < s → gJ σ 36 t = aFolP w T 0 t) →
    ∃ σ', f_X10_follow_2 n (nI k) (-1) (nI s) σ = f_X10_follow_45 FU (nI k) (-1) 1 σ' ∧ Kp n0 n0 n0 kBM σ σ' ∧ (∀ t, t < aNs w → gJ σ' 36 t = aFolP w T 0 t)
  | _, _, 0, _, _, hn, _, _ => absurd hn (Nat.not_lt_zero _)
  | 0, s, n + 1, σ, hsm, hn, h, hN => by
    have h2 := hw.1
    refine ⟨σ, ?_, Kp.rfl', fun t ht => hN t (by omega)⟩
    rw [f_X10_follow_2, h.1, if_pos (nI_le (by omega) (by omega))]
  | m + 1, s, n + 1, σ, hsm, hn, h, hN => by
    have h2 := hw.1
    have hs : s < aNs w := by omega
    have hK : Kp n0 n0 n0 kBM σ (sJ σ 36 (vp_updL (gJ σ 36) s (aFolP w T 0 s))) := Kp.sJ (Or.inr rfl) Kp.rfl'
    obtain ⟨σ', e1, e2, e3⟩ := e_follow2P (T := T) hw (k := k) m (s + 1) n _ (by omega) (by omega) (AM_B hK h) (fun t ht => by
      rw [gJ_sJ, if_pos rfl, updL_at]
      by_cases h4 : t = s
      · rw [if_pos h4, h4]
      · rw [if_neg h4]; exact hN t (by omega))
    refine ⟨σ', ?_, hK.trans e2, e3⟩
    rw [← e1, f_X10_follow_2, h.1, if_neg (nI_ge (by omega) (by omega)), if_pos rfl, if_neg (nI_in (by omega) (by omega)), nI_clamp (by omega)]
    unfold f_X10_follow_35 f_X10_follow_36
    have hv : aFolP w T 0 s = if aGl w s = true then 1000000 else 0 := rfl
    by_cases h5 : aGl w s = true
    · rw [if_pos h5] at hv
      rw [if_neg (fun e => (AM_goal h hs).mp e h5), if_neg (nI_in (by omega) (by omega)), lt_e, lt_e, nI_1, nI_clamp (by omega), hv]
    · rw [if_neg h5] at hv
      rw [if_pos ((AM_goal h hs).mpr h5), if_neg (nI_in (by omega) (by omega)), lt_e, lt_e, nI_1, nI_clamp (by omega), hv]
theorem e_followG {w : AW} {T : Nat → Nat → Int32} (hw : AWok w) (h0 : 0 < aNs w) {k g st : Nat} {σ : Sta} (hk : k < 22) (hst : st ≤ 30) (hT : ∀ n, n < st → TV w (T n)) (hg : g < aNg w) (h : AM w σ) (hS : gA σ 30 k = nI st)
    (hA : ∀ n t, n < st → t < aNs w → gA σ 31 (3100 * k + 100 * (n + 1) + t) = T n t) : ∃ σ', f_X10_follow (nI k) (nI g) σ = some (aFolG w T g st 0, σ') ∧ Kp n0 n0 n0 kBM σ σ' := by
  have h2 := hw.1
  obtain ⟨σ1, e1, e2, e3⟩ := e_follow2G hw (k := k) hg (aNs w) 0 FU σ (by omega) (FU_lt (by omega)) h (fun t ht => absurd ht (Nat.not_lt_zero _))
  obtain ⟨σ', g1, g2⟩ := e_follow45G hw h0 hk hst hT hg st 0 FU σ1 (by omega) (FU_lt (by omega)) (AM_B e2 h) (by rw [e2.2.2.1 _ id]; exact hS) (fun n t h3 h4 => by rw [e2.2.2.1 _ id]; exact hA n t h3 h4) e3
  exact ⟨σ', e1.trans g1, e2.trans g2⟩
theorem e_followP {w : AW} {T : Nat → Nat → Int32} (hw : AWok w) (h0 : 0 < aNs w) {k st : Nat} {σ : Sta} (hk : k < 22) (hst : st ≤ 30) (hT : ∀ n, n < st → TV w (T n)) (h : AM w σ) (hS : gA σ 30 k = nI st)
    (hA : ∀ n t, n < st → t < aNs w → gA σ 31 (3100 * k + 100 * (n + 1) + t) = T n t) : ∃ σ', f_X10_follow (nI k) (-1) σ = some (aFolP w T st 0, σ') ∧ Kp n0 n0 n0 kBM σ σ' := by
  have h2 := hw.1
  obtain ⟨σ1, e1, e2, e3⟩ := e_follow2P (T := T) hw (k := k) (aNs w) 0 FU σ (by omega) (FU_lt (by omega)) h (fun t ht => absurd ht (Nat.not_lt_zero _))
  obtain ⟨σ', g1, g2⟩ := e_follow45P hw h0 hk hst hT st 0 FU σ1 (by omega) (FU_lt (by omega)) (AM_B e2 h) (by rw [e2.2.2.1 _ id]; exact hS) (fun n t h3 h4 => by rw [e2.2.2.1 _ id]; exact hA n t h3 h4) e3
  exact ⟨σ', e1.trans g1, e2.trans g2⟩
def StrM (w : AW) (k st : Nat) (T : Nat → Nat → Int32) (W : Nat → Nat → Int64) (B : Nat → Int64) (P : Int32) (σ : Sta) : Prop :=
  gA σ 30 k = nI st ∧ (∀ n t, n < st → t < aNs w → gA σ 31 (3100 * k + 100 * (n + 1) + t) = T n t) ∧ (∀ n t, n ≤ st → t < aNs w → gJ σ 32 (3100 * k + 100 * n + t) = W n t) ∧ (∀ g, g < aNg w → gJ σ 33 (3 * k + g) = B g) ∧ gA σ 34 k = P
theorem e_make266 {w : AW} {T : Nat → Nat → Int32} {W : Nat → Nat → Int64} (hw : AWok w) (h0 : 0 < aNs w) {k st q2 : Nat} (hk : k < 22) (hst : st ≤ 30) (hT : ∀ n, n < st → TV w (T n)) : ∀ (m g n : Nat) (σ : Sta), g + m = aNg w → m < n → AM w σ → gA σ 30 k = nI st →
    (∀ n t, n < st → t < aNs w → gA σ 31 (3100 * k + 100 * (n + 1) + t) = T n t) → (∀ n t, n ≤ st → t < aNs w → gJ σ 32 (3100 * k + 100 * n + t) = W n t) → (∀ j, j < g → gJ σ 33 (3 * k + j) = aFolG w T j st 0) →
    ∃ σ', f_X10_make_266 q2 3 n (nI k) (nI g) σ = some ((), σ') ∧ KM k σ σ' ∧ StrM w k st T W (fun j => aFolG w T j st 0) ((aFolP w T st 0).toInt32) σ'
  | _, _, 0, _, _, hn, _, _, _, _, _ => absurd hn (Nat.not_lt_zero _)
  | 0, g, n + 1, σ, hgm, hn, h, hS, hA, hW, hB => by
    have h2 := hw.2.1
    obtain ⟨σ1, e1, e2⟩ := e_followP hw h0 hk hst hT h hS hA
    have hK : KM k σ (sA σ1 34 (upd (gA σ1 34) k ((aFolP w T st 0).toInt32))) := by
      have hb := KM_B (k := k) e2
      refine ⟨Kp.sA (Or.inr (Or.inr rfl)) hb.1, fun j hj => ?_, fun j hj => ?_, fun j hj => ?_⟩
      · rw [gA_sA, if_neg (by decide), gJ_sA]; exact hb.2.1 j hj
      · rw [gA_sA, if_neg (by decide), gA_sA, if_pos rfl, upd_at, if_neg hj]; exact hb.2.2.1 j hj
      · rw [gJ_sA]; exact hb.2.2.2 j hj
    refine ⟨_, ?_, hK, ?_, fun n t h3 h4 => ?_, fun n t h3 h4 => ?_, fun j hj => ?_, ?_⟩
    · rw [f_X10_make_266, h.2.1, if_pos (nI_le (by omega) (by omega)), e1, bnd_s, if_neg (nI_in (by omega) (by omega)), lt_e, nI_clamp (by omega)]
    · rw [gA_sA, if_neg (by decide), e2.2.2.1 _ id]; exact hS
    · rw [gA_sA, if_neg (by decide), e2.2.2.1 _ id]; exact hA n t h3 h4
    · rw [gJ_sA, e2.2.2.2.1 _ (by unfold kBM; omega)]; exact hW n t h3 h4
    · rw [gJ_sA, e2.2.2.2.1 _ (by unfold kBM; omega)]; exact hB j (by omega)
    · rw [gA_sA, if_pos rfl, upd_at, if_pos rfl]
  | m + 1, g, n + 1, σ, hgm, hn, h, hS, hA, hW, hB => by
    have h2 := hw.2.1
    obtain ⟨σ1, e1, e2⟩ := e_followG hw h0 hk (g := g) hst hT (by omega) h hS hA
    have hK : KM k σ (sJ σ1 33 (vp_updL (gJ σ1 33) (3 * k + g) (aFolG w T g st 0))) := by
      have hb := KM_B (k := k) e2
      refine ⟨Kp.sJ (Or.inr (Or.inl rfl)) hb.1, fun j hj => ?_, fun j hj => ?_, fun j hj => ?_⟩
      · rw [gA_sJ, gJ_sJ, if_neg (by decide)]; exact hb.2.1 j hj
      · rw [gA_sJ, gA_sJ]; exact hb.2.2.1 j hj
      · rw [gJ_sJ, if_pos rfl, updL_at, if_neg (by omega)]; exact hb.2.2.2 j hj
    obtain ⟨σ', g1, g2, g3⟩ := e_make266 (W := W) (q2 := q2) hw h0 hk hst hT m (g + 1) n _ (by omega) (by omega) (AM_KM hK h) (by rw [gA_sJ, e2.2.2.1 _ id]; exact hS) (fun n t h3 h4 => by rw [gA_sJ, e2.2.2.1 _ id]; exact hA n t h3 h4)
      (fun n t h3 h4 => by rw [gJ_sJ, if_neg (by decide), e2.2.2.2.1 _ (by unfold kBM; omega)]; exact hW n t h3 h4)
      (fun j hj => by
        rw [gJ_sJ, if_pos rfl, updL_at]
        by_cases h4 : j = g
        · rw [if_pos (by omega), h4]
        · rw [if_neg (by omega), e2.2.2.2.1 _ (by unfold kBM; omega)]; exact hB j (by omega))
    refine ⟨σ', ?_, hK.trans g2, g3⟩
    rw [← g1, f_X10_make_266, h.2.1, if_neg (nI_ge (by omega) (by omega)), e1, bnd_s, nI_Lmul, nI_add, if_neg (nI_in (by omega) (by omega)), lt_e, lt_e, nI_1, nI_clamp (by omega)]
theorem e_make42 {w : AW} {wt : Nat → Int32} (hw : AWok w) {k st q2 : Nat} (hq : q2 ≠ 31) (hk : k < 22) (hst : st ≤ 30) : ∀ (m i n : Nat) (σ : Sta), i + m = st → m < n → AM w σ → PlanM w wt q2 k i 0 σ →
    ∃ σ', f_X10_make_42 q2 3 n (nI k) (nI st) (nI (i + 1)) σ = f_X10_make_266 q2 3 FU (nI k) 0 σ' ∧ KR k σ σ' ∧ PlanM w wt q2 k st 0 σ'
  | _, _, 0, _, _, hn, _, _ => absurd hn (Nat.not_lt_zero _)
  | 0, i, n + 1, σ, him, hn, h, hP => by
    refine ⟨σ, ?_, KR.rfl', ?_⟩
    · rw [f_X10_make_42, if_pos (nI_lt (by omega) (by omega))]
    · rw [show st = i by omega]; exact hP
  | m + 1, i, n + 1, σ, him, hn, h, hP => by
    have h2 := hw.1
    obtain ⟨σ1, e1, e2, e3⟩ := e_make64 hw hq hk (i := i) (by omega) (v1 := nI k) (v3 := nI st) (v4 := nI (i + 1)) (k42 := f_X10_make_42 q2 3 n) (aNs w) 0 FU σ (by omega) (FU_lt (by omega)) h hP
    obtain ⟨σ', g1, g2, g3⟩ := e_make42 hw hq hk hst m (i + 1) n σ1 (by omega) (by omega) (AM_KM (KM_R e2) h) e3
    refine ⟨σ', ?_, e2.trans g2, g3⟩
    rw [f_X10_make_42, if_neg (nI_nlt (by omega) (by omega)), lt_e, nI_Lmul, nI_Lmul, nI_add]
    exact e1.trans (by rw [nI_1]; exact g1)
theorem e_make10 {w : AW} {k st q2 : Nat} (hw : AWok w) (hk : k < 22) : ∀ (m s n : Nat) (σ : Sta), s + m = aNs w → m < n → AM w σ → (∀ t, t < s → gJ σ 32 (3100 * k + t) = 0) →
    ∃ σ', f_X10_make_10 q2 3 n (nI k) (nI st) (nI s) σ = f_X10_make_42 q2 3 FU (nI k) (nI st) 1 σ' ∧ KR k σ σ' ∧ (∀ t, t < aNs w → gJ σ' 32 (3100 * k + t) = 0)
  | _, _, 0, _, _, hn, _, _ => absurd hn (Nat.not_lt_zero _)
  | 0, s, n + 1, σ, hsm, hn, h, hN => by
    have h2 := hw.1
    refine ⟨σ, ?_, KR.rfl', fun t ht => hN t (by omega)⟩
    rw [f_X10_make_10, h.1, if_pos (nI_le (by omega) (by omega))]
  | m + 1, s, n + 1, σ, hsm, hn, h, hN => by
    have h2 := hw.1
    have hK : KR k σ (sJ σ 32 (vp_updL (gJ σ 32) (3100 * k + s) 0)) := by
      refine ⟨Kp.sJ rfl Kp.rfl', fun i hi => ⟨rfl, ?_⟩⟩
      rw [gJ_sJ, if_pos rfl, updL_at, if_neg (by omega)]
    obtain ⟨σ', e1, e2, e3⟩ := e_make10 (q2 := q2) (st := st) hw hk m (s + 1) n _ (by omega) (by omega) (AM_KM (KM_R hK) h) (fun t ht => by
      rw [gJ_sJ, if_pos rfl, updL_at]
      by_cases h4 : t = s
      · rw [if_pos (by omega)]
      · rw [if_neg (by omega)]; exact hN t (by omega))
    refine ⟨σ', ?_, hK.trans e2, e3⟩
    rw [← e1, f_X10_make_10, h.1, if_neg (nI_ge (by omega) (by omega)), nI_Lmul, nI_add, if_neg (nI_in (by omega) (by omega)), lt_e, lt_e, nI_1, nI_clamp (by omega)]
theorem e_make {w : AW} {wt : Nat → Int32} (hw : AWok w) (h0 : 0 < aNs w) {k st q2 : Nat} {σ : Sta} (hq : q2 ≠ 31 ∧ q2 ≠ 30) (hk : k < 22) (hst : st ≤ 30) (h : AM w σ) (hg : ∀ g, g < aNg w → gA σ q2 g = wt g) :
    ∃ σ', f_X10_make (nI k) q2 3 (nI st) σ = some ((), σ') ∧ KM k σ σ' ∧ StrM w k st (aTake w wt) (aWorth w wt) (fun j => aFolG w (aTake w wt) j st 0) ((aFolP w (aTake w wt) st 0).toInt32) σ' := by
  have h2 := hw.1
  have h3 := hw.2.1
  have hK : KM k σ (sA σ 30 (upd (gA σ 30) k (nI st))) := by
    refine ⟨Kp.sA (Or.inl rfl) Kp.rfl', fun j hj => ⟨?_, rfl⟩, fun j hj => ⟨?_, ?_⟩, fun j hj => rfl⟩
    · rw [gA_sA, if_neg (by decide)]
    · rw [gA_sA, if_pos rfl, upd_at, if_neg hj]
    · rw [gA_sA, if_neg (by decide)]
  obtain ⟨σ1, a1, a2, a3⟩ := e_make10 (q2 := q2) (st := st) hw hk (aNs w) 0 FU _ (by omega) (FU_lt (by omega)) (AM_KM hK h) (fun t ht => absurd ht (Nat.not_lt_zero _))
  obtain ⟨σ2, b1, b2, b3⟩ := e_make42 (wt := wt) (q2 := q2) hw hq.1 hk hst st 0 FU σ1 (by omega) (FU_lt (by omega)) (AM_KM (KM_R a2) (AM_KM hK h)) ⟨fun g hg' => by
    rw [a2.1.2.2.1 _ (by unfold k31; omega), gA_sA, if_neg hq.2]; exact hg g hg', fun n t h4 _ => absurd h4 (Nat.not_lt_zero _), fun n t h4 ht => by
    rw [show 3100 * k + 100 * n + t = 3100 * k + t by omega, show n = 0 by omega]; exact a3 t ht, fun t ht => absurd ht (Nat.not_lt_zero _)⟩
  have hM : AM w σ2 := AM_KM (KM_R b2) (AM_KM (KM_R a2) (AM_KM hK h))
  obtain ⟨σ', g1, g2, g3⟩ := e_make266 (T := aTake w wt) (W := aWorth w wt) (q2 := q2) hw h0 hk hst (fun n _ => aTake_v hw wt n) (aNg w) 0 FU σ2 (by omega) (FU_lt (by omega)) hM (by
    rw [b2.1.2.2.1 _ (by unfold k31; omega), a2.1.2.2.1 _ (by unfold k31; omega), gA_sA, if_pos rfl, upd_at, if_pos rfl]) b3.2.1 b3.2.2.1 (fun j hj => absurd hj (Nat.not_lt_zero _))
  refine ⟨σ', ?_, ((hK.trans (KM_R a2)).trans (KM_R b2)).trans g2, g3⟩
  unfold f_X10_make
  rw [if_neg (nI_in (by omega) (by omega)), lt_e, nI_clamp (by omega)]
  exact (a1.trans b1).trans g1
