/-! The reference makes a strategy. -/
theorem updL2 (f : Nat → Int64) (k : Nat) (x y : Int64) : vp_updL (vp_updL f k x) k y = vp_updL f k y := by
  funext j
  rw [updL_at, updL_at, updL_at]
  by_cases h : j = k
  · rw [if_pos h, if_pos h]
  · rw [if_neg h, if_neg h, if_neg h]
theorem upd2 (f : Nat → Int32) (k : Nat) (x y : Int32) : upd (upd f k x) k y = upd f k y := by
  funext j
  rw [upd_at, upd_at, upd_at]
  by_cases h : j = k
  · rw [if_pos h, if_pos h]
  · rw [if_neg h, if_neg h, if_neg h]
def mSet (σ : Sta) (j : Nat) (b : Int32) (a : Int64) : Sta := sJ (sA σ 31 (upd (gA σ 31) j b)) 32 (vp_updL (gJ σ 32) j a)
theorem mSet2 (σ : Sta) (j : Nat) (b b' : Int32) (a a' : Int64) : mSet (mSet σ j b a) j b' a' = mSet σ j b' a' := by
  unfold mSet
  rw [gA_sJ, gA_sA, if_pos rfl, gJ_sJ, if_pos rfl, updL2, upd2, ← sJ_sA, sA_sA, sJ_sJ]
def mF (w : AW) (σ : Sta) (q fr s c : Nat) : Int64 := 10000 * aWt w (gA σ q) s c + aLater w (fun t => gJ σ 32 (fr + t)) s c
section MK
variable {w : AW} {q2 : Nat} {k42 : Int32 → Int32 → Int32 → Sta → Option (Unit × Sta)} {k64 : Int32 → Int32 → Int32 → Int32 → Int32 → Sta → Option (Unit × Sta)} {k98 : Int32 → Int32 → Int32 → Int32 → Int32 → Int32 → Sta → Option (Unit × Sta)}
theorem e_make126 {σ : Sta} (hw : AWok w) (h : AM w σ) {s c k i : Nat} {v1 v3 v4 : Int32} (hs : s < aNs w) (hc : c < aCh w s) (hk : k < 22) (hi : i < 30) : ∀ (m g n : Nat) (a : Int64), g + m = aNg w → m < n →
    f_X10_make_126 q2 3 k42 k64 k98 n v1 v3 v4 (nI (3100 * k + 100 * (i + 1))) (nI s) (nI c) (nI (16 * s + c)) a (nI g) σ =
      (if gA σ 31 (3100 * k + 100 * (i + 1) + s) = -1 then f_X10_make_221 q2 3 k42 k64 k98 v1 v3 v4 (nI (3100 * k + 100 * (i + 1))) (nI s) (nI c) (10000 * aAcc (fun g => (gA σ q2 g).toInt64 * aGn w s c g) m g a + aLater w (fun t => gJ σ 32 (3100 * k + 100 * i + t)) s c) σ
      else if 0 < lg_cmp (10000 * aAcc (fun g => (gA σ q2 g).toInt64 * aGn w s c g) m g a + aLater w (fun t => gJ σ 32 (3100 * k + 100 * i + t)) s c) (gJ σ 32 (3100 * k + 100 * (i + 1) + s)) then f_X10_make_221 q2 3 k42 k64 k98 v1 v3 v4 (nI (3100 * k + 100 * (i + 1))) (nI s) (nI c) (10000 * aAcc (fun g => (gA σ q2 g).toInt64 * aGn w s c g) m g a + aLater w (fun t => gJ σ 32 (3100 * k + 100 * i + t)) s c) σ
      else f_X10_make_245 q2 3 k42 k64 k98 v1 v3 v4 (nI (3100 * k + 100 * (i + 1))) (nI s) (nI c) σ)
  | _, _, 0, _, _, hn => absurd hn (Nat.not_lt_zero _)
  | 0, g, n + 1, a, hgm, hn => by
    have h2 := hw.2.1
    have h3 := hw.1
    rw [f_X10_make_126, h.2.1, if_pos (nI_le (by omega) (by omega)), nI_subL (by omega), show 3100 * k + 100 * (i + 1) - 100 = 3100 * k + 100 * i by omega, e_expected hw h hs hc (by omega) (by omega), bnd_s, lt_e, nI_add, if_neg (nI_in (by omega) (by omega)), if_neg (nI_in (by omega) (by omega)), nI_clamp (by omega)]
    rfl
  | m + 1, g, n + 1, a, hgm, hn => by
    have h1 := ok_s hw hs hc
    have h2 := hw.2.1
    rw [f_X10_make_126, h.2.1, if_neg (nI_ge (by omega) (by omega)), if_neg (nI_in (by omega) (by omega)), nI_Lmul, nI_add, if_neg (nI_in (by omega) (by omega)), lt_e, lt_e, nI_1, nI_clamp (by omega), nI_clamp (by omega), (h.2.2.2.2.1 s c hs hc).2.2.2 g (by omega), e_make126 hw h hs hc hk hi m (g + 1) n _ (by omega) (by omega)]
    rfl
theorem e_make98 {σ : Sta} (hw : AWok w) (h : AM w σ) {s k i : Nat} {v1 v3 v4 : Int32} (hs : s < aNs w) (hk : k < 22) (hi : i < 30) (hq : q2 ≠ 31) : ∀ (m c n : Nat) (b : Int32) (a : Int64), c + m = aCh w s → m < n → (b = -1 ∨ ∃ j, j < 100 ∧ b = nI j) →
    f_X10_make_98 q2 3 k42 k64 n v1 v3 v4 (nI (3100 * k + 100 * (i + 1))) (nI s) (nI c) (mSet σ (3100 * k + 100 * (i + 1) + s) b a) =
      k64 v1 v3 v4 (nI (3100 * k + 100 * (i + 1))) (nI (s + 1)) (mSet σ (3100 * k + 100 * (i + 1) + s) (aBest (mF w σ q2 (3100 * k + 100 * i) s) m c b a).1 (aBest (mF w σ q2 (3100 * k + 100 * i) s) m c b a).2)
  | _, _, 0, _, _, _, hn, _ => absurd hn (Nat.not_lt_zero _)
  | 0, c, n + 1, b, a, hcm, hn, hb => by
    have h1 := hw.1
    have h2 := (hw.2.2.2.1 s hs).1
    have h3 : AM w (mSet σ (3100 * k + 100 * (i + 1) + s) b a) := AM_sJ (by decide) (AM_sA (by decide) h)
    rw [f_X10_make_98, if_neg (nI_in (by omega) (by omega)), nI_clamp (by omega), (h3.2.2.2.1 s hs).1, if_pos (nI_le (by omega) (by omega)), lt_e, nI_1]
    rfl
  | m + 1, c, n + 1, b, a, hcm, hn, hb => by
    have h1 := hw.1
    have h2 := (hw.2.2.2.1 s hs).1
    have h3 : AM w (mSet σ (3100 * k + 100 * (i + 1) + s) b a) := AM_sJ (by decide) (AM_sA (by decide) h)
    have hF : 10000 * aAcc (fun g => (gA (mSet σ (3100 * k + 100 * (i + 1) + s) b a) q2 g).toInt64 * aGn w s c g) (aNg w) 0 0 + aLater w (fun t => gJ (mSet σ (3100 * k + 100 * (i + 1) + s) b a) 32 (3100 * k + 100 * i + t)) s c = mF w σ q2 (3100 * k + 100 * i) s c := by
      unfold mF aWt
      rw [show gA (mSet σ (3100 * k + 100 * (i + 1) + s) b a) q2 = gA σ q2 by unfold mSet; rw [gA_sJ, gA_sA, if_neg hq]]
      rw [aLater_congr hw hs (by omega) (fun t ht => by
        show gJ (mSet σ (3100 * k + 100 * (i + 1) + s) b a) 32 (3100 * k + 100 * i + t) = gJ σ 32 (3100 * k + 100 * i + t)
        unfold mSet
        rw [gJ_sJ, if_pos rfl, updL_at, if_neg (by omega)])]
    have hx : ∀ x : Int64, f_X10_make_221 q2 3 k42 k64 (f_X10_make_98 q2 3 k42 k64 n) v1 v3 v4 (nI (3100 * k + 100 * (i + 1))) (nI s) (nI c) x (mSet σ (3100 * k + 100 * (i + 1) + s) b a) = f_X10_make_98 q2 3 k42 k64 n v1 v3 v4 (nI (3100 * k + 100 * (i + 1))) (nI s) (nI (c + 1)) (mSet σ (3100 * k + 100 * (i + 1) + s) (nI c) x) := fun x => by
      unfold f_X10_make_221 f_X10_make_245
      rw [nI_add, if_neg (nI_in (by omega) (by omega)), lt_e, if_neg (nI_in (by omega) (by omega)), lt_e, lt_e, nI_1, nI_clamp (by omega)]
      exact congrArg _ (mSet2 σ _ b _ a _)
    have ha : gA (mSet σ (3100 * k + 100 * (i + 1) + s) b a) 31 (3100 * k + 100 * (i + 1) + s) = b := by
      unfold mSet
      rw [gA_sJ, gA_sA, if_pos rfl, upd_at, if_pos rfl]
    have hj : gJ (mSet σ (3100 * k + 100 * (i + 1) + s) b a) 32 (3100 * k + 100 * (i + 1) + s) = a := by
      unfold mSet
      rw [gJ_sJ, if_pos rfl, updL_at, if_pos rfl]
    rw [f_X10_make_98, if_neg (nI_in (by omega) (by omega)), nI_clamp (by omega), (h3.2.2.2.1 s hs).1, if_neg (nI_ge (by omega) (by omega)), lt_e, nI_Lmul, nI_add,
      show (0 : Int32) = nI 0 from rfl, e_make126 hw h3 hs (by omega) hk hi (aNg w) 0 FU 0 (by omega) (FU_lt (by have := hw.2.1; omega)), hF, ha, hj, hx]
    rw [aBest]
    rcases hb with hb | ⟨j, hj1, hj2⟩
    · rw [if_pos hb, if_pos (Or.inl (by rw [hb]; decide))]
      exact e_make98 hw h hs hk hi hq m (c + 1) n _ _ (by omega) (by omega) (Or.inr ⟨c, by omega, rfl⟩)
    · rw [if_neg (by rw [hj2, nI_nm1 (by omega)]; exact id)]
      by_cases h4 : a < mF w σ q2 (3100 * k + 100 * i) s c
      · rw [if_pos ((lg_cmp_gt _ _).mpr h4), if_pos (Or.inr h4)]
        exact e_make98 hw h hs hk hi hq m (c + 1) n _ _ (by omega) (by omega) (Or.inr ⟨c, by omega, rfl⟩)
      · rw [if_neg (fun e => h4 ((lg_cmp_gt _ _).mp e)), if_neg (fun e => e.elim (by rw [hj2]; exact nI_pos (by omega)) h4)]
        unfold f_X10_make_245
        rw [lt_e, nI_1]
        exact e_make98 hw h hs hk hi hq m (c + 1) n _ _ (by omega) (by omega) (Or.inr ⟨j, hj1, hj2⟩)
end MK
def kAM : Nat → Prop := fun q => q = 30 ∨ q = 31 ∨ q = 34
def kJM : Nat → Prop := fun q => q = 32 ∨ q = 33 ∨ q = 35 ∨ q = 36
/-- only the row k of the strategies, and the two rows of numbers by state, may have changed -/
def KM (k : Nat) (σ σ' : Sta) : Prop := Kp n0 n0 kAM kJM σ σ' ∧ (∀ j, (j < 3100 * k ∨ 3100 * k + 3100 ≤ j) → gA σ' 31 j = gA σ 31 j ∧ gJ σ' 32 j = gJ σ 32 j) ∧ (∀ j, j ≠ k → gA σ' 30 j = gA σ 30 j ∧ gA σ' 34 j = gA σ 34 j) ∧ (∀ j, (j < 3 * k ∨ 3 * k + 3 ≤ j) → gJ σ' 33 j = gJ σ 33 j)
theorem KM.rfl' {k : Nat} {σ : Sta} : KM k σ σ := ⟨Kp.rfl', fun _ _ => ⟨rfl, rfl⟩, fun _ _ => ⟨rfl, rfl⟩, fun _ _ => rfl⟩
theorem KM.trans {k : Nat} {σ σ1 σ2 : Sta} (h : KM k σ σ1) (h2 : KM k σ1 σ2) : KM k σ σ2 :=
  ⟨h.1.trans h2.1, fun j hj => ⟨(h2.2.1 j hj).1.trans (h.2.1 j hj).1, (h2.2.1 j hj).2.trans (h.2.1 j hj).2⟩, fun j hj => ⟨(h2.2.2.1 j hj).1.trans (h.2.2.1 j hj).1, (h2.2.2.1 j hj).2.trans (h.2.2.1 j hj).2⟩, fun j hj => (h2.2.2.2 j hj).trans (h.2.2.2 j hj)⟩
theorem AM_KM {w : AW} {k : Nat} {σ σ1 : Sta} (h : KM k σ σ1) (h0 : AM w σ) : AM w σ1 :=
  AM_kp h.1 ⟨id, id, id⟩ ⟨by unfold kAM; omega, by unfold kAM; omega, by unfold kAM; omega, by unfold kAM; omega, by unfold kAM; omega, by unfold kAM; omega, by unfold kAM; omega⟩ (by unfold kJM; omega) h0
/-- only the taken choices and worths of row k may have changed -/
def k31 : Nat → Prop := fun q => q = 31
def k32 : Nat → Prop := fun q => q = 32
def KR (k : Nat) (σ σ' : Sta) : Prop := Kp n0 n0 k31 k32 σ σ' ∧ (∀ j, (j < 3100 * k ∨ 3100 * k + 3100 ≤ j) → gA σ' 31 j = gA σ 31 j ∧ gJ σ' 32 j = gJ σ 32 j)
theorem KR.rfl' {k : Nat} {σ : Sta} : KR k σ σ := ⟨Kp.rfl', fun _ _ => ⟨rfl, rfl⟩⟩
theorem KR.trans {k : Nat} {σ σ1 σ2 : Sta} (h : KR k σ σ1) (h2 : KR k σ1 σ2) : KR k σ σ2 :=
  ⟨h.1.trans h2.1, fun j hj => ⟨(h2.2 j hj).1.trans (h.2 j hj).1, (h2.2 j hj).2.trans (h.2 j hj).2⟩⟩
theorem KM_R {k : Nat} {σ σ1 : Sta} (h : KR k σ σ1) : KM k σ σ1 :=
  ⟨h.1.mono (fun _ e => e) (fun _ e => e) (fun _ e => Or.inr (Or.inl e)) (fun _ e => Or.inl e), h.2, fun _ _ => ⟨by rw [h.1.2.2.1 _ (by unfold k31; omega)], by rw [h.1.2.2.1 _ (by unfold k31; omega)]⟩, fun _ _ => by rw [h.1.2.2.2.1 _ (by unfold k32; omega)]⟩
theorem KR_mSet {k j : Nat} {σ : Sta} {b : Int32} {a : Int64} (h1 : 3100 * k ≤ j) (h2 : j < 3100 * k + 3100) : KR k σ (mSet σ j b a) := by
  refine ⟨Kp.sJ rfl (Kp.sA rfl Kp.rfl'), fun i hi => ⟨?_, ?_⟩⟩
  · unfold mSet; rw [gA_sJ, gA_sA, if_pos rfl, upd_at, if_neg (by omega)]
  · unfold mSet; rw [gJ_sJ, if_pos rfl, updL_at, if_neg (by omega)]
def PlanM (w : AW) (wt : Nat → Int32) (q2 k i s : Nat) (σ : Sta) : Prop :=
  (∀ g, g < aNg w → gA σ q2 g = wt g) ∧ (∀ n t, n < i → t < aNs w → gA σ 31 (3100 * k + 100 * (n + 1) + t) = aTake w wt n t) ∧ (∀ n t, n ≤ i → t < aNs w → gJ σ 32 (3100 * k + 100 * n + t) = aWorth w wt n t) ∧
  (∀ t, t < s → gA σ 31 (3100 * k + 100 * (i + 1) + t) = aTake w wt i t ∧ gJ σ 32 (3100 * k + 100 * (i + 1) + t) = aWorth w wt (i + 1) t)
theorem mF_spec {w : AW} {wt : Nat → Int32} {σ : Sta} (hw : AWok w) {q2 k i s t : Nat} (ht : t < aNs w) (hP : PlanM w wt q2 k i s σ) : aBest (mF w σ q2 (3100 * k + 100 * i) t) (aCh w t) 0 (-1) 0 = (aTake w wt i t, aWorth w wt (i + 1) t) := by
  rw [aBest_congr (g := fun c => 10000 * aWt w wt t c + aLater w (aWorth w wt i) t c)]
  · rfl
  · intro c _ hc
    show 10000 * aWt w _ t c + aLater w _ t c = _
    unfold aWt
    rw [aLater_congr hw ht (by omega) (fun u hu => hP.2.2.1 i u (Nat.le_refl _) hu), aAcc_congr _ _ _ (fun g _ hg => by rw [hP.1 g (by omega)])]
theorem e_make64 {w : AW} {wt : Nat → Int32} (hw : AWok w) {q2 k i : Nat} {v1 v3 v4 : Int32} (hq : q2 ≠ 31) (hk : k < 22) (hi : i < 30) {k42 : Int32 → Int32 → Int32 → Sta → Option (Unit × Sta)} : ∀ (m s n : Nat) (σ : Sta), s + m = aNs w → m < n → AM w σ → PlanM w wt q2 k i s σ →
    ∃ σ', f_X10_make_64 q2 3 k42 n v1 v3 v4 (nI (3100 * k + 100 * (i + 1))) (nI s) σ = k42 v1 v3 (v4 + 1) σ' ∧ KR k σ σ' ∧ PlanM w wt q2 k (i + 1) 0 σ'
  | _, _, 0, _, _, hn, _, _ => absurd hn (Nat.not_lt_zero _)
  | 0, s, n + 1, σ, hsm, hn, h, hP => by
    have h2 := hw.1
    refine ⟨σ, ?_, KR.rfl', hP.1, fun n' t h3 ht => ?_, fun n' t h3 ht => ?_, fun t ht => absurd ht (Nat.not_lt_zero _)⟩
    · rw [f_X10_make_64, h.1, if_pos (nI_le (by omega) (by omega)), lt_e]
    · by_cases h4 : n' = i
      · rw [h4]; exact (hP.2.2.2 t (by omega)).1
      · exact hP.2.1 n' t (by omega) ht
    · by_cases h4 : n' = i + 1
      · rw [h4]; exact (hP.2.2.2 t (by omega)).2
      · exact hP.2.2.1 n' t (by omega) ht
  | m + 1, s, n + 1, σ, hsm, hn, h, hP => by
    have h2 := hw.1
    have hs : s < aNs w := by omega
    have hc := (hw.2.2.2.1 s hs).1
    have hK : KR k σ (mSet σ (3100 * k + 100 * (i + 1) + s) (aTake w wt i s) (aWorth w wt (i + 1) s)) := KR_mSet (by omega) (by omega)
    have hP2 : PlanM w wt q2 k i (s + 1) (mSet σ (3100 * k + 100 * (i + 1) + s) (aTake w wt i s) (aWorth w wt (i + 1) s)) := by
      unfold mSet
      refine ⟨fun g hg => ?_, fun n' t h3 ht => ?_, fun n' t h3 ht => ?_, fun t ht => ⟨?_, ?_⟩⟩
      · rw [gA_sJ, gA_sA, if_neg hq]; exact hP.1 g hg
      · rw [gA_sJ, gA_sA, if_pos rfl, upd_at, if_neg (by omega)]; exact hP.2.1 n' t h3 ht
      · rw [gJ_sJ, if_pos rfl, updL_at, if_neg (by omega)]; exact hP.2.2.1 n' t h3 ht
      · rw [gA_sJ, gA_sA, if_pos rfl, upd_at]
        by_cases h4 : t = s
        · rw [if_pos (by omega), h4]
        · rw [if_neg (by omega)]; exact (hP.2.2.2 t (by omega)).1
      · rw [gJ_sJ, if_pos rfl, updL_at]
        by_cases h4 : t = s
        · rw [if_pos (by omega), h4]
        · rw [if_neg (by omega)]; exact (hP.2.2.2 t (by omega)).2
    obtain ⟨σ', e1, e2, e3⟩ := e_make64 hw hq hk hi (v1 := v1) (v3 := v3) (v4 := v4) (k42 := k42) m (s + 1) n _ (by omega) (by omega) (AM_KM (KM_R hK) h) hP2
    refine ⟨σ', ?_, hK.trans e2, e3⟩
    rw [← e1, f_X10_make_64, h.1, if_neg (nI_ge (by omega) (by omega)), nI_add, if_neg (nI_in (by omega) (by omega)), lt_e, if_neg (nI_in (by omega) (by omega)), lt_e, nI_clamp (by omega)]
    show f_X10_make_98 q2 3 k42 (f_X10_make_64 q2 3 k42 n) FU v1 v3 v4 (nI (3100 * k + 100 * (i + 1))) (nI s) (nI 0) (mSet σ (3100 * k + 100 * (i + 1) + s) (-1) 0) = _
    rw [e_make98 hw h hs hk hi hq (aCh w s) 0 FU (-1) 0 (by omega) (FU_lt (by omega)) (Or.inl rfl), mF_spec hw hs hP]
/-! following -/
def kBM : Nat → Prop := fun q => q = 35 ∨ q = 36
theorem AM_B {w : AW} {σ σ1 : Sta} (h : Kp n0 n0 n0 kBM σ σ1) (h0 : AM w σ) : AM w σ1 :=
  AM_kp h ⟨id, id, id⟩ ⟨id, id, id, id, id, id, id⟩ (by unfold kBM; omega) h0
theorem KM_B {k : Nat} {σ σ1 : Sta} (h : Kp n0 n0 n0 kBM σ σ1) : KM k σ σ1 :=
  ⟨h.mono (fun _ e => e) (fun _ e => e) (fun _ e => e.elim) (fun _ e => Or.inr (Or.inr e)), fun _ _ => ⟨by rw [h.2.2.1 _ id], by rw [h.2.2.2.1 _ (by unfold kBM; omega)]⟩, fun _ _ => ⟨by rw [h.2.2.1 _ id], by rw [h.2.2.1 _ id]⟩, fun _ _ => by rw [h.2.2.2.1 _ (by unfold kBM; omega)]⟩
theorem ne_m1 {g : Nat} (hg : g < 2 ^ 31) : ¬ nI g = -1 := fun e => (nI_nm1 hg).mp e
theorem cpy_guard {x : Int32} {n : Nat} (hx : x = nI n) (hn : n ≤ 100) : ¬ ((0 : Int32) < 0 ∨ (0 : Int32) < 0 ∨ x < 0 ∨ 100 < ((0 : Int32).toNatClampNeg) + (x.toNatClampNeg) ∨ 100 < ((0 : Int32).toNatClampNeg) + (x.toNatClampNeg)) := by
  rw [hx, nI_clamp (by omega), show ((0 : Int32).toNatClampNeg) = 0 from rfl]
  intro e
  rcases e with e | e | e | e | e
  · exact absurd e (by decide)
  · exact absurd e (by decide)
  · exact nI_pos (by omega) e
  · omega
  · omega
theorem e_follow58G {w : AW} {T : Nat → Int32} (hw : AWok w) (hT : TV w T) {k i g : Nat} (hk : k < 22) (hi : i < 30) (hg : g < aNg w) {k45 : Int32 → Int32 → Int32 → Sta → Option (Int64 × Sta)} : ∀ (m s n : Nat) (σ : Sta), s + m = aNs w → m < n → AM w σ →
    (∀ t, t < aNs w → gA σ 31 (3100 * k + 100 * (i + 1) + t) = T t) → (∀ t, t < s → gJ σ 35 t = aStepG w T (gJ σ 36) g t) →
    ∃ σ', f_X10_follow_58 k45 n (nI k) (nI g) (nI (i + 1)) (nI s) σ = k45 (nI k) (nI g) (nI (i + 2)) σ' ∧ Kp n0 n0 n0 kBM σ σ' ∧ (∀ t, t < aNs w → gJ σ' 36 t = aStepG w T (gJ σ 36) g t)
  | _, _, 0, _, _, hn, _, _, _ => absurd hn (Nat.not_lt_zero _)
  | 0, s, n + 1, σ, hsm, hn, h, hA, hN => by
    have h2 := hw.1
    refine ⟨sJ σ 36 (va_cpy (gJ σ 35) (gJ σ 36) 0 0 (aNs w)), ?_, Kp.sJ (Or.inr rfl) Kp.rfl', fun t ht => ?_⟩
    · rw [f_X10_follow_58, h.1, if_pos (nI_le (by omega) (by omega)), if_neg (cpy_guard rfl h2), lt_e, lt_e, nI_1, nI_clamp (by omega)]
      rfl
    · rw [gJ_sJ, if_pos rfl, cpy_at, if_pos (by omega), show 0 + (t - 0) = t by omega]
      exact hN t (by omega)
  | m + 1, s, n + 1, σ, hsm, hn, h, hA, hN => by
    have h2 := hw.1
    have h2g := hw.2.1
    have hs : s < aNs w := by omega
    have hK : Kp n0 n0 n0 kBM σ (sJ σ 35 (vp_updL (gJ σ 35) s (aStepG w T (gJ σ 36) g s))) := Kp.sJ (Or.inl rfl) Kp.rfl'
    have e38 : gJ (sJ σ 35 (vp_updL (gJ σ 35) s (aStepG w T (gJ σ 36) g s))) 36 = gJ σ 36 := by rw [gJ_sJ, if_neg (by decide)]
    obtain ⟨σ', e1, e2, e3⟩ := e_follow58G hw hT hk hi hg (k45 := k45) m (s + 1) n _ (by omega) (by omega) (AM_B hK h) (fun t ht => hA t ht) (fun t ht => by
      rw [e38, gJ_sJ, if_pos rfl, updL_at]
      by_cases h4 : t = s
      · rw [if_pos h4, h4]
      · rw [if_neg h4]; exact hN t (by omega))
    rw [e38] at e3
    refine ⟨σ', ?_, hK.trans e2, e3⟩
    rw [← e1, f_X10_follow_58, h.1, if_neg (nI_ge (by omega) (by omega)), nI_Lmul, nI_Lmul, nI_add, nI_add, if_neg (nI_in (by omega) (by omega)), nI_clamp (by omega), lt_e, if_neg (ne_m1 (by omega)), hA s hs]
    unfold f_X10_follow_114 f_X10_follow_115 f_X10_follow_178
    rw [if_neg (nI_in (by omega) (by omega)), lt_e, nI_clamp (by omega)]
    have hv : aStepG w T (gJ σ 36) g s = if T s < 0 then 0 else 10000 * aGn w s ((T s).toNatClampNeg) g + aLater w (gJ σ 36) s ((T s).toNatClampNeg) := rfl
    rcases hT s hs with ⟨h5, h6⟩ | ⟨c, h5, h6⟩
    · rw [h6, if_pos m1neg] at hv
      rw [h6, if_pos rfl, lt_e, nI_1, hv]
    · have h7 := (hw.2.2.2.1 s hs).1
      rw [h6, if_neg (nI_pos (by omega)), nI_clamp (by omega)] at hv
      have hM : AM w (sJ σ 35 (vp_updL (gJ σ 35) s 0)) := AM_sJ (by decide) h
      rw [h6, if_neg (ne_m1 (by omega)), lt_e, if_neg (ne_m1 (by omega)), nI_Lmul, nI_add, nI_Lmul, nI_add, if_neg (nI_in (by omega) (by omega)), nI_clamp (by omega)]
      unfold f_X10_follow_165 f_X10_follow_178
      rw [e_expected0 hw hM hs h5 (by omega) (by omega), bnd_s, if_neg (nI_in (by omega) (by omega)), lt_e, lt_e, nI_1, nI_clamp (by omega), sJ_sJ, gJ_sJ, if_pos rfl, updL2, gJ_sJ, if_neg (by decide), gJ_sJ, if_neg (by decide), (h.2.2.2.2.1 s c hs h5).2.2.2 g hg, hv]
