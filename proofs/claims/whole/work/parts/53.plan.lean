/-! The class makes a strategy. -/
theorem e_fillA_l {q N : Nat} {v : Int32} (hN : N < 1000000) : ∀ (m k n : Nat) (σ : Sta), k + m = N → m < n → f_J7_fill_53178_5 q N n v (nI k) (nI N) σ = some ((), fillA σ q k N (fun _ => v))
  | _, _, 0, _, _, hn => absurd hn (Nat.not_lt_zero _)
  | 0, k, n + 1, σ, hk, hn => by
    rw [f_J7_fill_53178_5, if_pos (nI_le (by omega) (by omega)), show k = N by omega, fillA_0]
  | m + 1, k, n + 1, σ, hk, hn => by
    rw [f_J7_fill_53178_5, if_neg (nI_ge (by omega) (by omega)), if_neg (nI_in (by omega) (by omega)), lt_e, lt_e, nI_1, nI_clamp (by omega), e_fillA_l hN m (k + 1) n _ (by omega) (by omega)]
    exact congrArg (fun z => some ((), z)) (fillA_s (v := fun _ => v) (by omega))
theorem e_fillA {q N : Nat} {v : Int32} (hN : N < 1000000) (σ : Sta) : f_J7_fill_53178 q N v σ = some ((), fillA σ q 0 N (fun _ => v)) := by
  unfold f_J7_fill_53178
  rw [lt_e, nI_ofN]
  exact e_fillA_l hN N 0 FU σ (by omega) (FU_lt hN)
theorem e_fillJ_l {q N : Nat} {v : Int64} (hN : N < 1000000) : ∀ (m k n : Nat) (σ : Sta), k + m = N → m < n → f_J7_fill_d0a16_6 q N n v (nI k) (nI N) σ = some ((), fillJ σ q k N (fun _ => v))
  | _, _, 0, _, _, hn => absurd hn (Nat.not_lt_zero _)
  | 0, k, n + 1, σ, hk, hn => by
    rw [f_J7_fill_d0a16_6, if_pos (nI_le (by omega) (by omega)), show k = N by omega, fillJ_0]
  | m + 1, k, n + 1, σ, hk, hn => by
    rw [f_J7_fill_d0a16_6, if_neg (nI_ge (by omega) (by omega)), if_neg (nI_in (by omega) (by omega)), lt_e, lt_e, nI_1, nI_clamp (by omega), e_fillJ_l hN m (k + 1) n _ (by omega) (by omega)]
    exact congrArg (fun z => some ((), z)) (fillJ_s (v := fun _ => v) (by omega))
theorem e_fillJ {q N : Nat} {v : Int64} (hN : N < 1000000) (σ : Sta) : f_J7_fill_d0a16 q N v σ = some ((), fillJ σ q 0 N (fun _ => v)) := by
  unfold f_J7_fill_d0a16
  rw [lt_e, nI_ofN]
  exact e_fillJ_l hN N 0 FU σ (by omega) (FU_lt hN)
theorem AC_le {w : AW} {σ : Sta} (hw : AWok w) (h : AC w σ) {s k : Nat} (hs : s < aNs w) (hk : aCh w s ≤ k) (hk2 : k < 2 ^ 31) : gA σ 33 s ≤ nI k := by
  rw [h.2.2.2.1 s hs]
  split
  · exact Int32.le_of_lt (Int32.lt_of_lt_of_le m1neg (nI_pos' hk2))
  · exact nI_le hk hk2
theorem AC_nle {w : AW} {σ : Sta} (hw : AWok w) (h : AC w σ) {s k : Nat} (hs : s < aNs w) (hk : k < aCh w s) : ¬ gA σ 33 s ≤ nI k := by
  rw [h.2.2.2.1 s hs]
  have h1 := hw.2.2.2.1 s hs
  split
  · rename_i h2
    have := h1.2 h2
    omega
  · exact nI_ge hk (by omega)
def cF (w : AW) (σ : Sta) (d n s c : Nat) : Int64 := 10000 * aWt w (gA σ (41 + 5 * d + 1)) s c + aLater w (fun t => gJ σ (41 + 5 * d + 3) (n * 100 + t)) s c
def cSet (σ : Sta) (d n s : Nat) (r : Int32 × Int64) : Sta := sJ (sA σ (41 + 5 * d + 2) (upd (gA σ (41 + 5 * d + 2)) (n * 100 + s) r.1)) (41 + 5 * d + 3) (vp_updL (gJ σ (41 + 5 * d + 3)) ((n + 1) * 100 + s) r.2)
theorem e_choose_l {w : AW} {σ : Sta} (hw : AWok w) (h : AC w σ) {s d i : Nat} (hs : s < aNs w) (hi : i < 30) : ∀ (m k n : Nat) (b : Int32) (a : Int64), k + m = aCh w s → m < n →
    f_X2_choose_9 d n (nI s) (nI (i + 1)) b a (nI k) σ = some ((), cSet σ d i s (aBest (cF w σ d i s) m k b a))
  | _, _, 0, _, _, _, hn => absurd hn (Nat.not_lt_zero _)
  | 0, k, n + 1, b, a, hk, hn => by
    have h1 := (hw.2.2.2.1 s hs).1
    have h2 := hw.1
    rw [f_X2_choose_9, if_neg (nI_in (by omega) (by omega)), nI_clamp (by omega), if_pos (AC_le hw h hs (by omega) (by omega)), nI_pred, nI_mulL, nI_add, if_neg (nI_in (by omega) (by omega)), lt_e, nI_mulL, nI_add, if_neg (nI_in (by omega) (by omega)), lt_e, nI_clamp (by omega), nI_clamp (by omega)]
    rfl
  | m + 1, k, n + 1, b, a, hk, hn => by
    have h1 := (hw.2.2.2.1 s hs).1
    have h2 := hw.1
    rw [f_X2_choose_9, if_neg (nI_in (by omega) (by omega)), nI_clamp (by omega), if_neg (AC_nle hw h hs (by omega)), e_weighted hw h hs (by omega), bnd_s, nI_pred, nI_mulL, e_later hw h hs (by omega) (by omega) (by omega), bnd_s, lt_e]
    unfold f_X2_choose_68 f_X2_choose_76
    rw [lt_e, lt_e, nI_1, e_choose_l hw h hs hi m (k + 1) n _ _ (by omega) (by omega), e_choose_l hw h hs hi m (k + 1) n _ _ (by omega) (by omega)]
    show (if b < 0 then some ((), cSet σ d i s (aBest (cF w σ d i s) m (k + 1) (nI k) (cF w σ d i s k))) else if lg_cmp (cF w σ d i s k) a ≤ 0 then _ else _) = _
    rw [aBest]
    by_cases h3 : b < 0
    · rw [if_pos h3, if_pos (Or.inl h3)]
    · rw [if_neg h3]
      by_cases h4 : a < cF w σ d i s k
      · rw [if_neg (fun e => Int64.not_le.mpr h4 ((lg_cmp_le _ _).mp e)), if_pos (Or.inr h4)]
        rfl
      · rw [if_pos ((lg_cmp_le _ _).mpr (Int64.not_lt.mp h4)), if_neg (fun e => e.elim h3 h4)]
theorem e_choose {w : AW} {σ : Sta} (hw : AWok w) (h : AC w σ) {s d i : Nat} (hs : s < aNs w) (hi : i < 30) : f_X2_choose d (nI s) (nI (i + 1)) σ = some ((), cSet σ d i s (aBest (cF w σ d i s) (aCh w s) 0 (-1) 0)) := by
  have h1 := (hw.2.2.2.1 s hs).1
  unfold f_X2_choose
  rw [lt_e]
  exact e_choose_l hw h hs hi (aCh w s) 0 FU (-1) 0 (by omega) (FU_lt (by omega))
/-- a world with a strategy's row half made: i steps are made, and s states of the next -/
def PlanAt (w : AW) (wt : Nat → Int32) (d i s : Nat) (σ : Sta) : Prop :=
  (∀ g, g < aNg w → gA σ (41 + 5 * d + 1) g = wt g) ∧ (∀ n t, n < i → t < aNs w → gA σ (41 + 5 * d + 2) (n * 100 + t) = aTake w wt n t) ∧ (∀ n t, n ≤ i → t < aNs w → gJ σ (41 + 5 * d + 3) (n * 100 + t) = aWorth w wt n t) ∧
  (∀ t, t < s → gA σ (41 + 5 * d + 2) (i * 100 + t) = aTake w wt i t ∧ gJ σ (41 + 5 * d + 3) ((i + 1) * 100 + t) = aWorth w wt (i + 1) t) ∧ (∀ t, t < 100 → gJ σ (41 + 5 * d + 3) t = 0)
def kA (d : Nat) : Nat → Prop := fun q => q = 41 + 5 * d + 2
def kJ (d : Nat) : Nat → Prop := fun q => q = 41 + 5 * d + 3
theorem AC_plan {w : AW} {σ σ1 : Sta} {d : Nat} {I L : Nat → Prop} (h : Kp I L (kA d) (kJ d) σ σ1) (hI : ¬ I 322 ∧ ¬ I 197 ∧ ¬ I 192) (h0 : AC w σ) : AC w σ1 :=
  AC_kp h hI ⟨by unfold kA; omega, by unfold kA; omega, by unfold kA; omega, by unfold kA; omega, by unfold kA; omega, by unfold kA; omega, by unfold kA; omega⟩ (by unfold kJ; omega) h0
theorem cF_spec {w : AW} {wt : Nat → Int32} {σ : Sta} (hw : AWok w) {d i s t : Nat} (ht : t < aNs w) (hP : PlanAt w wt d i s σ) : aBest (cF w σ d i t) (aCh w t) 0 (-1) 0 = (aTake w wt i t, aWorth w wt (i + 1) t) := by
  rw [aBest_congr (g := fun c => 10000 * aWt w wt t c + aLater w (aWorth w wt i) t c)]
  · rfl
  · intro c _ hc
    show 10000 * aWt w _ t c + aLater w _ t c = _
    unfold aWt
    rw [aLater_congr hw ht (by omega) (fun u hu => hP.2.2.1 i u (Nat.le_refl _) hu), aAcc_congr _ _ _ (fun g _ hg => by rw [hP.1 g (by omega)])]
theorem e_plan18 {w : AW} {wt : Nat → Int32} (hw : AWok w) {d i : Nat} (hi : i < 30) {k2 : Int32 → Sta → Option (Unit × Sta)} : ∀ (m s n : Nat) (σ : Sta), s + m = aNs w → m < n → AC w σ → PlanAt w wt d i s σ →
    ∃ σ', f_X2_plan_18 d k2 n (nI (i + 1)) (nI s) σ = k2 (nI (i + 2)) σ' ∧ Kp n0 n0 (kA d) (kJ d) σ σ' ∧ PlanAt w wt d (i + 1) 0 σ'
  | _, _, 0, _, _, hn, _, _ => absurd hn (Nat.not_lt_zero _)
  | 0, s, n + 1, σ, hk, hn, h, hP => by
    have h2 := hw.1
    refine ⟨σ, ?_, Kp.rfl', hP.1, fun n' t h3 ht => ?_, fun n' t h3 ht => ?_, fun t ht => absurd ht (Nat.not_lt_zero _), hP.2.2.2.2⟩
    · rw [f_X2_plan_18, h.1, if_pos (nI_le (by omega) (by omega)), lt_e, nI_1]
    · by_cases h4 : n' = i
      · rw [h4]; exact (hP.2.2.2.1 t (by omega)).1
      · exact hP.2.1 n' t (by omega) ht
    · by_cases h4 : n' = i + 1
      · rw [h4]; exact (hP.2.2.2.1 t (by omega)).2
      · exact hP.2.2.1 n' t (by omega) ht
  | m + 1, s, n + 1, σ, hk, hn, h, hP => by
    have h2 := hw.1
    have hs : s < aNs w := by omega
    have hK : Kp n0 n0 (kA d) (kJ d) σ (cSet σ d i s (aTake w wt i s, aWorth w wt (i + 1) s)) := Kp.sJ rfl (Kp.sA rfl Kp.rfl')
    have hP2 : PlanAt w wt d i (s + 1) (cSet σ d i s (aTake w wt i s, aWorth w wt (i + 1) s)) := by
      unfold cSet
      refine ⟨fun g hg => ?_, fun n' t h3 ht => ?_, fun n' t h3 ht => ?_, fun t ht => ⟨?_, ?_⟩, fun t ht => ?_⟩
      · rw [gA_sJ, gA_sA, if_neg (by omega)]; exact hP.1 g hg
      · rw [gA_sJ, gA_sA, if_pos rfl, upd_at, if_neg (by omega)]; exact hP.2.1 n' t h3 ht
      · rw [gJ_sJ, if_pos rfl, updL_at, if_neg (by omega)]; exact hP.2.2.1 n' t h3 ht
      · rw [gA_sJ, gA_sA, if_pos rfl, upd_at]
        by_cases h4 : t = s
        · rw [if_pos (by omega), h4]
        · rw [if_neg (by omega)]; exact (hP.2.2.2.1 t (by omega)).1
      · rw [gJ_sJ, if_pos rfl, updL_at]
        by_cases h4 : t = s
        · rw [if_pos (by omega), h4]
        · rw [if_neg (by omega)]; exact (hP.2.2.2.1 t (by omega)).2
      · rw [gJ_sJ, if_pos rfl, updL_at, if_neg (by omega)]; exact hP.2.2.2.2 t ht
    obtain ⟨σ', e1, e2, e3⟩ := e_plan18 hw hi (k2 := k2) m (s + 1) n _ (by omega) (by omega) (AC_plan hK ⟨id, id, id⟩ h) hP2
    refine ⟨σ', ?_, hK.trans e2, e3⟩
    rw [f_X2_plan_18, h.1, if_neg (nI_ge (by omega) (by omega)), e_choose hw h hs hi, cF_spec hw hs hP, bnd_s, lt_e, nI_1]
    exact e1
theorem e_plan2 {w : AW} {wt : Nat → Int32} (hw : AWok w) {d st : Nat} (hst : st ≤ 30) : ∀ (m i n : Nat) (σ : Sta), i + m = st → m < n → AC w σ → gI σ (64 * (41 + 5 * d) + 1) = nI st → PlanAt w wt d i 0 σ →
    ∃ σ', f_X2_plan_2 d n (nI (i + 1)) σ = f_X2_plan_48 d σ' ∧ Kp n0 n0 (kA d) (kJ d) σ σ' ∧ PlanAt w wt d st 0 σ'
  | _, _, 0, _, _, hn, _, _, _ => absurd hn (Nat.not_lt_zero _)
  | 0, i, n + 1, σ, hk, hn, h, hS, hP => by
    refine ⟨σ, ?_, Kp.rfl', ?_⟩
    · rw [f_X2_plan_2, hS, if_pos (nI_lt (by omega) (by omega))]
    · rw [show st = i by omega]; exact hP
  | m + 1, i, n + 1, σ, hk, hn, h, hS, hP => by
    have h2 := hw.1
    obtain ⟨σ1, e1, e2, e3⟩ := e_plan18 hw (d := d) (i := i) (by omega) (k2 := f_X2_plan_2 d n) (aNs w) 0 FU σ (by omega) (FU_lt (by omega)) h hP
    obtain ⟨σ', g1, g2, g3⟩ := e_plan2 hw hst m (i + 1) n σ1 (by omega) (by omega) (AC_plan e2 ⟨id, id, id⟩ h) (by rw [e2.1 _ id]; exact hS) e3
    refine ⟨σ', ?_, e2.trans g2, g3⟩
    rw [f_X2_plan_2, hS, if_neg (nI_nlt (by omega) (by omega)), if_neg (by rw [nI_Llt (by omega) (by decide)]; omega)]
    exact e1.trans g1
