/-! The die, and playing. -/
theorem die33 (x : Int64) : ∃ n : Nat, n < 2 ^ 31 ∧ (x.toUInt64 >>> ((33 : Int32).toInt64.toUInt64 &&& Int64.toUInt64 63)).toInt64 = lN n := by
  have hs : ((33 : Int32).toInt64.toUInt64 &&& Int64.toUInt64 63).toNat % 64 = 33 := by decide
  have hx : x.toUInt64.toNat < 2 ^ 64 := x.toUInt64.toNat_lt
  have hn : x.toUInt64.toNat / 2 ^ 33 < 2 ^ 31 := by omega
  refine ⟨x.toUInt64.toNat / 2 ^ 33, hn, ?_⟩
  have h : x.toUInt64 >>> ((33 : Int32).toInt64.toUInt64 &&& Int64.toUInt64 63) = UInt64.ofNat (x.toUInt64.toNat / 2 ^ 33) := UInt64.toNat_inj.mp (by
    rw [UInt64.toNat_shiftRight, hs, Nat.shiftRight_eq_div_pow]
    exact (Nat.mod_eq_of_lt (by omega)).symm)
  exact congrArg UInt64.toInt64 h
theorem die (x : Int64) : ∃ t : Nat, t < 100 ∧ (x.toUInt64 >>> ((33 : Int32).toInt64.toUInt64 &&& Int64.toUInt64 63)).toInt64 - (x.toUInt64 >>> ((33 : Int32).toInt64.toUInt64 &&& Int64.toUInt64 63)).toInt64 / 100 * 100 = lN t := by
  obtain ⟨n, h1, h2⟩ := die33 x
  refine ⟨n % 100, Nat.mod_lt _ (by decide), ?_⟩
  rw [h2]
  exact pk_lRem (a := n) (b := 100) (by omega) (by decide) (by decide)
theorem e_die_l {w : AW} {σ τ : Sta} (hw : AWok w) (hc : AC w σ) (hm : AM w τ) {s c t l : Nat} {v1 : Int32} {k29 : Int32 → Int32 → Int32 → Sta → Option (Int32 × Sta)} (hs : s < aNs w) (hcc : c < aCh w s) (ht : t < 100) : ∀ (m k n n' S : Nat), k + m = aNb w (aCm w s c) → m < n → m < n' → aAccN (aPc w (aCm w s c)) m k S = 100 → S ≤ t →
    ∃ b, b < aNb w (aCm w s c) ∧ f_X3_targetByDie_22 n (nI s) (nI c) (nI t) (nI S) (nI (aNb w (aCm w s c))) (nI k) σ = some (nI (aTg w s c b), σ) ∧
      f_X10_playOne_159 k29 n' v1 (nI (l + 1)) (nI (16 * s + c)) (lN t) (nI k) (nI (S + aPc w (aCm w s c) k)) τ = k29 v1 (nI (aTg w s c b)) (nI l) τ
  | _, _, 0, _, _, _, hn, _, _, _ => absurd hn (Nat.not_lt_zero _)
  | _, _, _ + 1, 0, _, _, _, hn, _, _ => absurd hn (Nat.not_lt_zero _)
  | 0, k, n + 1, n' + 1, S, hk, hn, hn', ha, hS => by
    have : S = 100 := ha
    omega
  | m + 1, k, n + 1, n' + 1, S, hk, hn, hn', ha, hS => by
    have h4 := ok_s hw hs hcc
    have hp := ((hw.2.2.2.2 s c hs hcc).2.2.1 k (by omega)).2
    have ht' := ((hw.2.2.2.2 s c hs hcc).2.2.1 k (by omega)).1
    have h1 := hw.1
    have ha2 : aAccN (aPc w (aCm w s c)) m (k + 1) (S + aPc w (aCm w s c) k) = 100 := ha
    rw [f_X3_targetByDie_22, if_neg (nI_ge (by omega) (by omega)), e_chanceOf hw hc hs hcc (by omega), bnd_s, lt_e, nI_add, f_X10_playOne_159]
    by_cases h5 : S + aPc w (aCm w s c) k ≤ t
    · rw [if_pos (nI_le h5 (by omega)), lt_e, nI_1, if_neg (by
        rw [lg_cmp_gt, nI_l (by omega), lN_lt (by omega) (by omega)]
        omega), lt_e]
      cases m with
      | zero =>
        have : S + aPc w (aCm w s c) k = 100 := ha2
        omega
      | succ m =>
        obtain ⟨b, b1, b2, b3⟩ := e_die_l (l := l) (v1 := v1) (k29 := k29) hw hc hm hs hcc ht (m + 1) (k + 1) n n' (S + aPc w (aCm w s c) k) (by omega) (by omega) (by omega) ha2 h5
        refine ⟨b, b1, b2, ?_⟩
        rw [e_chanceOfM hw hm hs hcc (by omega), bnd_s, lt_e, nI_add]
        exact b3
    · refine ⟨k, by omega, ?_, ?_⟩
      · rw [if_neg (nI_ge (by omega) (by omega)), e_targetOf hw hc hs hcc (by omega), bnd_s]
      · rw [if_pos (by
          rw [lg_cmp_gt, nI_l (by omega), lN_lt (by omega) (by omega)]
          omega), nI_Lmul, nI_add, if_neg (nI_in (by omega) (by omega)), lt_e, lt_e, nI_clamp (by omega), ((hm.2.2.2.2.1 s c hs hcc).2.2.1 k (by omega)).2, pk_m1]
def k40 : Nat → Prop := fun q => q = 40
def k37 : Nat → Prop := fun q => q = 37
theorem e_play33 {w : AW} (hw : AWok w) {d s c : Nat} {v3 : Int32} {k11 : Int32 → Int32 → Sta → Option (Int32 × Sta)} (hs : s < aNs w) (hcc : c < aCh w s) : ∀ (m g n : Nat) (σ : Sta), g + m = aNg w → m < n → AC w σ →
    ∃ σ', f_X3_playOnce_33 d k11 n (nI s) v3 (nI c) (nI g) σ = (bnd (f_X3_targetByDie (nI s) (nI c) σ') (fun r2 σ3 => lt (sI σ3 450 ((gI σ3 450) + 1)) (fun σ5 => lt (v3 + (-1)) (fun x6 => k11 r2 x6 σ5)))) ∧ Kp n0 n0 n0 k40 σ σ' ∧ (∀ j, j < 3 → gJ σ' 40 j = if g ≤ j ∧ j < aNg w then gJ σ 40 j + aGn w s c j else gJ σ 40 j)
  | _, _, 0, _, _, hn, _ => absurd hn (Nat.not_lt_zero _)
  | 0, g, n + 1, σ, hg, hn, h => by
    have h2 := hw.2.1
    refine ⟨σ, ?_, Kp.rfl', fun j _ => by rw [if_neg (by omega)]⟩
    rw [f_X3_playOnce_33, h.2.1, if_pos (nI_le (by omega) (by omega))]
  | m + 1, g, n + 1, σ, hg, hn, h => by
    have h2 := hw.2.1
    have hK : Kp n0 n0 n0 k40 σ (sJ σ 40 (vp_updL (gJ σ 40) g (gJ σ 40 g + aGn w s c g))) := Kp.sJ rfl Kp.rfl'
    obtain ⟨σ', e1, e2, e3⟩ := e_play33 (d := d) (v3 := v3) (k11 := k11) hw hs hcc m (g + 1) n (sJ σ 40 (vp_updL (gJ σ 40) g (gJ σ 40 g + aGn w s c g))) (by omega) (by omega) (AC_sJ (by decide) h)
    refine ⟨σ', ?_, hK.trans e2, fun j hj => ?_⟩
    · rw [← e1, f_X3_playOnce_33, h.2.1, if_neg (nI_ge (by omega) (by omega)), if_neg (nI_in (by omega) (by omega)), e_gainOf hw h hs hcc (by omega), bnd_s, if_neg (nI_in (by omega) (by omega)), lt_e, lt_e, nI_1, nI_clamp (by omega)]
    · rw [e3 j hj, gJ_sJ, if_pos rfl, updL_at]
      by_cases h4 : j = g
      · rw [if_neg (show ¬ (g + 1 ≤ j ∧ j < aNg w) by omega), if_pos h4, if_pos (show g ≤ j ∧ j < aNg w by omega), h4]
      · rw [if_neg h4]
        by_cases h5 : g ≤ j ∧ j < aNg w
        · rw [if_pos (show g + 1 ≤ j ∧ j < aNg w by omega), if_pos h5]
        · rw [if_neg (show ¬ (g + 1 ≤ j ∧ j < aNg w) by omega), if_neg h5]
theorem e_play69 {w : AW} (hw : AWok w) {s c : Nat} {v1 v3 : Int32} {k29 : Int32 → Int32 → Int32 → Sta → Option (Int32 × Sta)} (hs : s < aNs w) (hcc : c < aCh w s) : ∀ (m g n : Nat) (τ : Sta), g + m = aNg w → m < n → AM w τ →
    ∃ τ', f_X10_playOne_69 k29 n v1 v3 (nI (16 * s + c)) (nI g) τ = (lt (sJ τ' 37 (vp_updL (gJ τ' 37) ((0 : Int32).toNatClampNeg) ((gJ τ' 37 ((0 : Int32).toNatClampNeg)) + 1))) (fun σ4 =>
      lt (sL σ4 55 (((gL σ4 55) * 6364136223846793005) + 1442695040888963407)) (fun σ5 =>
      lt ((((gL σ5 55).toUInt64 >>> ((33 : Int32).toInt64.toUInt64 &&& Int64.toUInt64 63)).toInt64) - (((gL σ5 55).toUInt64 >>> ((33 : Int32).toInt64.toUInt64 &&& Int64.toUInt64 63)).toInt64) / 100 * 100) (fun x6 =>
      bnd (f_X10_chanceOf (nI (16 * s + c)) 0 σ5) (fun r7 σ8 =>
      f_X10_playOne_159 k29 FU v1 v3 (nI (16 * s + c)) x6 0 r7 σ8))))) ∧ Kp n0 n0 n0 k37 τ τ' ∧ gJ τ' 37 0 = gJ τ 37 0 ∧ (∀ j, j < 3 → gJ τ' 37 (1 + j) = if g ≤ j ∧ j < aNg w then gJ τ 37 (1 + j) + aGn w s c j else gJ τ 37 (1 + j))
  | _, _, 0, _, _, hn, _ => absurd hn (Nat.not_lt_zero _)
  | 0, g, n + 1, τ, hg, hn, h => by
    have h2 := hw.2.1
    refine ⟨τ, ?_, Kp.rfl', rfl, fun j _ => by rw [if_neg (by omega)]⟩
    rw [f_X10_playOne_69, h.2.1, if_pos (nI_le (by omega) (by omega)), if_neg (by decide), if_neg (by decide)]
  | m + 1, g, n + 1, τ, hg, hn, h => by
    have h2 := hw.2.1
    have h4 := ok_s hw hs hcc
    have hK : Kp n0 n0 n0 k37 τ (sJ τ 37 (vp_updL (gJ τ 37) (1 + g) (gJ τ 37 (1 + g) + aGn w s c g))) := Kp.sJ rfl Kp.rfl'
    obtain ⟨τ', e1, e2, e0, e3⟩ := e_play69 (v1 := v1) (v3 := v3) (k29 := k29) hw hs hcc m (g + 1) n (sJ τ 37 (vp_updL (gJ τ 37) (1 + g) (gJ τ 37 (1 + g) + aGn w s c g))) (by omega) (by omega) (AM_sJ (by decide) h)
    refine ⟨τ', ?_, hK.trans e2, ?_, fun j hj => ?_⟩
    · rw [← e1, f_X10_playOne_69, h.2.1, if_neg (nI_ge (by omega) (by omega)), nI_Ladd, nI_Lmul, nI_add, if_neg (nI_in (by omega) (by omega)), if_neg (nI_in (by omega) (by omega)), if_neg (nI_in (by omega) (by omega)), lt_e, lt_e, nI_1, nI_clamp (by omega), nI_clamp (by omega), (h.2.2.2.2.1 s c hs hcc).2.2.2 g (by omega)]
    · rw [e0, gJ_sJ, if_pos rfl, updL_at, if_neg (by omega)]
    · rw [e3 j hj, gJ_sJ, if_pos rfl, updL_at]
      by_cases h4 : j = g
      · rw [if_neg (show ¬ (g + 1 ≤ j ∧ j < aNg w) by omega), if_pos (show 1 + j = 1 + g by omega), if_pos (show g ≤ j ∧ j < aNg w by omega), h4]
      · rw [if_neg (show ¬ 1 + j = 1 + g by omega)]
        by_cases h5 : g ≤ j ∧ j < aNg w
        · rw [if_pos (show g + 1 ≤ j ∧ j < aNg w by omega), if_pos h5]
        · rw [if_neg (show ¬ (g + 1 ≤ j ∧ j < aNg w) by omega), if_neg h5]
/-- a play on both sides, when p steps are done -/
def PlAt (p : Nat) (σ τ : Sta) : Prop := gI σ 450 = nI p ∧ gJ τ 37 0 = lN p ∧ (∀ g, g < 3 → gJ τ 37 (1 + g) = gJ σ 40 g) ∧ gL σ 449 = gL τ 55
def kI450 : Nat → Prop := fun q => q = 450
def kL449 : Nat → Prop := fun q => q = 449
def kL55 : Nat → Prop := fun q => q = 55
theorem AC_pl {w : AW} {σ σ' : Sta} (h : Kp kI450 kL449 n0 k40 σ σ') (h0 : AC w σ) : AC w σ' :=
  AC_kp h ⟨by unfold kI450; omega, by unfold kI450; omega, by unfold kI450; omega⟩ ⟨id, id, id, id, id, id, id⟩ (by unfold k40; omega) h0
theorem AM_pl {w : AW} {τ τ' : Sta} (h : Kp n0 kL55 n0 k37 τ τ') (h0 : AM w τ) : AM w τ' :=
  AM_kp h ⟨id, id, id⟩ ⟨id, id, id, id, id, id, id⟩ (by unfold k37; omega) h0
theorem e_play_l {w : AW} (hw : AWok w) {d i st : Nat} {T : Nat → Nat → Int32} (hi : i < 22) (hst : st ≤ 30) (hT : ∀ n, n < st → TV w (T n)) : ∀ (l n n' s p : Nat) (σ τ : Sta), l ≤ st → l < n → l < n' → s < aNs w → p + l ≤ 30 → AC w σ → AM w τ →
    (∀ n t, n < st → t < aNs w → gA σ (41 + 5 * d + 2) (n * 100 + t) = T n t) → (∀ n t, n < st → t < aNs w → gA τ 31 (3100 * i + 100 * (n + 1) + t) = T n t) → PlAt p σ τ →
    ∃ e σ' τ' p', e < aNs w ∧ p' ≤ 30 ∧ f_X3_playOnce_11 d n (nI s) (nI l) σ = some (nI e, σ') ∧ f_X10_playOne_29 n' (nI i) (nI s) (nI l) τ = some (nI e, τ') ∧ Kp kI450 kL449 n0 k40 σ σ' ∧ Kp n0 kL55 n0 k37 τ τ' ∧ PlAt p' σ' τ'
  | _, 0, _, _, _, _, _, _, hn, _, _, _, _, _, _, _, _ => absurd hn (Nat.not_lt_zero _)
  | _, _ + 1, 0, _, _, _, _, _, _, hn, _, _, _, _, _, _, _ => absurd hn (Nat.not_lt_zero _)
  | 0, n + 1, n' + 1, s, p, σ, τ, hl, hn, hn', hs, hp, hc, hm, hA, hM, hP => by
    refine ⟨s, σ, τ, p, hs, by omega, ?_, ?_, Kp.rfl', Kp.rfl', hP⟩
    · rw [f_X3_playOnce_11, if_pos (by decide)]
    · rw [f_X10_playOne_29, if_pos (by decide)]
      rfl
  | l + 1, n + 1, n' + 1, s, p, σ, τ, hl, hn, hn', hs, hp, hc, hm, hA, hM, hP => by
    have h1 := hw.1
    have h2 := hw.2.1
    have h3 := (hw.2.2.2.1 s hs).1
    rw [f_X3_playOnce_11, if_neg (nI_nle (by omega) (by omega)), e_takenIn (by omega) (by omega), bnd_s, hA l s (by omega) hs, f_X10_playOne_29, if_neg (nI_nle (by omega) (by omega)), if_neg (nI_in (c := s) (N := 100) (by omega) (by omega)), nI_clamp (n := s) (by omega), (hm.2.2.2.1 s hs).1]
    rcases hT l (by omega) s hs with ⟨t1, t2⟩ | ⟨c, t1, t2⟩
    · refine ⟨s, σ, τ, p, hs, by omega, ?_, ?_, Kp.rfl', Kp.rfl', hP⟩
      · rw [t2, if_neg nneg1]
      · rw [t1, if_pos (by decide)]
        rfl
    · rw [t2, if_pos (nI_pos' (by omega)), if_neg (nI_nle (by omega) (by omega)), nI_Lmul, nI_Lmul, nI_add, nI_add, if_neg (nI_in (by omega) (by omega)), lt_e, nI_clamp (by omega), hM l s (by omega) hs, t2, nI_Lmul, nI_add]
      obtain ⟨σ1, a1, a2, a3⟩ := e_play33 (d := d) (v3 := nI (l + 1)) (k11 := f_X3_playOnce_11 d n) hw hs t1 (aNg w) 0 FU σ (by omega) (FU_lt (by omega)) hc
      obtain ⟨τ1, b1, b2, b0, b3⟩ := e_play69 (v1 := nI i) (v3 := nI (l + 1)) (k29 := f_X10_playOne_29 n' ) hw hs t1 (aNg w) 0 FU τ (by omega) (FU_lt (by omega)) hm
      have hz : gL σ1 449 = gL τ1 55 := by rw [a2.2.1 449 id, b2.2.1 55 id]; exact hP.2.2.2
      have hc1 : AC w (sL σ1 449 ((gL σ1 449 * 6364136223846793005) + 1442695040888963407)) := AC_sL (AC_kp a2 ⟨id, id, id⟩ ⟨id, id, id, id, id, id, id⟩ (by unfold k40; omega) hc)
      have hm1 : AM w (sL (sJ τ1 37 (vp_updL (gJ τ1 37) 0 (gJ τ1 37 0 + 1))) 55 ((gL σ1 449 * 6364136223846793005) + 1442695040888963407)) := AM_sL (AM_sJ (by decide) (AM_kp b2 ⟨id, id, id⟩ ⟨id, id, id, id, id, id, id⟩ (by unfold k37; omega) hm))
      obtain ⟨t, d1, d2⟩ := die ((gL σ1 449 * 6364136223846793005) + 1442695040888963407)
      have hsum := (hw.2.2.2.2 s c hs t1).2.2.2
      have hnb := (ok_s hw hs t1).2.2.2
      obtain ⟨b, q1, q2, q3⟩ := e_die_l (l := l) (v1 := nI i) (k29 := f_X10_playOne_29 n') hw hc1 hm1 hs t1 d1 (aNb w (aCm w s c)) 0 FU FU 0 (by omega) (FU_lt (by omega)) (FU_lt (by omega)) hsum (by omega)
      have hnb0 : 0 < aNb w (aCm w s c) := by omega
      have hcd : f_X3_targetByDie (nI s) (nI c) σ1 = some (nI (aTg w s c b), sL σ1 449 ((gL σ1 449 * 6364136223846793005) + 1442695040888963407)) := by
        unfold f_X3_targetByDie f_X3_throwDie
        rw [lt_e, gL_sL, if_pos rfl, d2, bnd_s, e_branchesOf hw hc1 hs t1, bnd_s, lN_i]
        exact q2
      have hK1 : Kp kI450 kL449 n0 k40 σ (sI (sL σ1 449 ((gL σ1 449 * 6364136223846793005) + 1442695040888963407)) 450 (nI (p + 1))) := Kp.sI rfl (Kp.sL rfl (a2.mono (fun _ e => e.elim) (fun _ e => e.elim) (fun _ e => e) (fun _ e => e)))
      have hK2 : Kp n0 kL55 n0 k37 τ (sL (sJ τ1 37 (vp_updL (gJ τ1 37) 0 (gJ τ1 37 0 + 1))) 55 ((gL σ1 449 * 6364136223846793005) + 1442695040888963407)) := Kp.sL rfl (Kp.sJ rfl (b2.mono (fun _ e => e) (fun _ e => e.elim) (fun _ e => e) (fun _ e => e)))
      have hP1 : PlAt (p + 1) (sI (sL σ1 449 ((gL σ1 449 * 6364136223846793005) + 1442695040888963407)) 450 (nI (p + 1))) (sL (sJ τ1 37 (vp_updL (gJ τ1 37) 0 (gJ τ1 37 0 + 1))) 55 ((gL σ1 449 * 6364136223846793005) + 1442695040888963407)) := by
        refine ⟨by rw [gI_sI, if_pos rfl], ?_, fun g hg => ?_, ?_⟩
        · rw [gJ_sL, gJ_sJ, if_pos rfl, updL_at, if_pos rfl, b0, hP.2.1, lN_1]
        · rw [gJ_sL, gJ_sJ, if_pos rfl, updL_at, if_neg (by omega), gJ_sI, gJ_sL, a3 g hg, b3 g hg, hP.2.2.1 g hg]
        · rw [gL_sI, gL_sL, if_pos rfl, gL_sL, if_pos rfl]
      obtain ⟨e, σ', τ', p', e1, e2, e3, e4, e5, e6, e7⟩ := e_play_l hw hi hst hT l n n' (aTg w s c b) (p + 1) _ _ (by omega) (by omega) (by omega) ((hw.2.2.2.2 s c hs t1).2.2.1 b q1).1 (by omega) (AC_pl hK1 hc) (AM_pl hK2 hm) (fun n t h5 h6 => by rw [hK1.2.2.1 _ id]; exact hA n t h5 h6) (fun n t h5 h6 => by rw [hK2.2.2.1 _ id]; exact hM n t h5 h6) hP1
      refine ⟨e, σ', τ', p', e1, e2, ?_, ?_, hK1.trans e5, hK2.trans e6, e7⟩
      · refine a1.trans ?_
        rw [hcd, bnd_s, lt_e, lt_e, pk_m1, gI_sL, a2.1 450 id, hP.1, nI_1]
        exact e3
      · refine b1.trans ?_
        rw [lt_e, lt_e, lt_e, show ((0 : Int32).toNatClampNeg) = 0 from rfl, gL_sJ, ← hz, gL_sL, if_pos rfl, d2, show (0 : Int32) = nI 0 from rfl, e_chanceOfM hw hm1 hs t1 hnb0, bnd_s]
        rw [Nat.zero_add] at q3
        exact q3.trans e4
theorem e_clear (σ : Sta) : f_X3_clear σ = some ((), fillJ (sI σ 450 0) 40 0 3 (fun _ => 0)) := by
  unfold f_X3_clear
  rw [lt_e, e_fillJ (by decide), bnd_s]
theorem e_clearM {i : Nat} {hi : i < 22} : ∀ (m k n : Nat) (τ : Sta), k + m = 4 → m < n → (∀ j, j < k → gJ τ 37 j = 0) →
    ∃ τ', f_X10_playOne_2 n (nI i) (nI k) τ = f_X10_playOne_29 FU (nI i) 0 (gA τ 30 i) τ' ∧ Kp n0 n0 n0 k37 τ τ' ∧ (∀ j, j < 4 → gJ τ' 37 j = 0)
  | _, _, 0, _, _, hn, _ => absurd hn (Nat.not_lt_zero _)
  | 0, k, n + 1, τ, hk, hn, hN => by
    refine ⟨τ, ?_, Kp.rfl', fun j hj => hN j (by omega)⟩
    rw [f_X10_playOne_2, if_pos (by rw [nI_Llt (by omega) (by decide)]; omega), if_neg (nI_in (by omega) (by omega)), lt_e, nI_clamp (by omega)]
  | m + 1, k, n + 1, τ, hk, hn, hN => by
    have hK : Kp n0 n0 n0 k37 τ (sJ τ 37 (vp_updL (gJ τ 37) k 0)) := Kp.sJ rfl Kp.rfl'
    obtain ⟨τ', e1, e2, e3⟩ := e_clearM (hi := hi) m (k + 1) n (sJ τ 37 (vp_updL (gJ τ 37) k 0)) (by omega) (by omega) (fun j hj => by
      rw [gJ_sJ, if_pos rfl, updL_at]
      by_cases h4 : j = k
      · rw [if_pos h4]
      · rw [if_neg h4]; exact hN j (by omega))
    refine ⟨τ', ?_, hK.trans e2, e3⟩
    rw [gA_sJ] at e1
    rw [← e1, f_X10_playOne_2, if_neg (by rw [nI_Llt (by omega) (by decide)]; omega), if_neg (nI_in (by omega) (by omega)), lt_e, lt_e, nI_1, nI_clamp (by omega)]
theorem e_play {w : AW} {σ τ : Sta} (hw : AWok w) (h0 : 0 < aNs w) (hc : AC w σ) (hm : AM w τ) {i : Nat} (hi : i < 12) (hK : Kept w i σ τ) (hz : gL σ 449 = gL τ 55) :
    ∃ e σ' τ' p', e < aNs w ∧ p' ≤ 30 ∧ f_X3_playOnce (gP σ i) σ = some (nI e, σ') ∧ f_X10_playOne (nI i) τ = some (nI e, τ') ∧ Kp kI450 kL449 n0 k40 σ σ' ∧ Kp n0 kL55 n0 k37 τ τ' ∧ PlAt p' σ' τ' := by
  obtain ⟨st, T, W, B, P, s1, s2, s3, s4, s5⟩ := hK
  have hK1 : Kp kI450 kL449 n0 k40 σ (fillJ (sI σ 450 0) 40 0 3 (fun _ => 0)) := Kp.sJ rfl (Kp.sI rfl Kp.rfl')
  obtain ⟨τ1, e1, e2, e3⟩ := e_clearM (i := i) (hi := by omega) 4 0 FU τ (by omega) (FU_lt (by omega)) (fun j hj => absurd hj (Nat.not_lt_zero _))
  have hK2 : Kp n0 kL55 n0 k37 τ τ1 := e2.mono (fun _ e => e) (fun _ e => e.elim) (fun _ e => e) (fun _ e => e)
  obtain ⟨e, σ', τ', p', g1, g2, g3, g4, g5, g6, g7⟩ := e_play_l hw (d := gP σ i) (i := i) (by omega) s2 s3 st FU FU 0 0 _ τ1 (Nat.le_refl _) (FU_lt (by omega)) (FU_lt (by omega)) h0 (by omega) (AC_pl hK1 hc) (AM_pl hK2 hm) (fun n t h5 h6 => by rw [hK1.2.2.1 _ id]; exact s4.2.1 n t h5 h6) (fun n t h5 h6 => by rw [hK2.2.2.1 _ id]; exact s5.2.1 n t h5 h6) ⟨by unfold fillJ; rw [gI_sJ, gI_sI, if_pos rfl]; rfl, by rw [e3 0 (by omega)]; rfl, fun g hg => by
    rw [e3 (1 + g) (by omega)]
    unfold fillJ
    rw [gJ_sJ, if_pos rfl, if_pos (by omega)], by
    unfold fillJ
    rw [gL_sJ, gL_sI, e2.2.1 55 id]
    exact hz⟩
  refine ⟨e, σ', τ', p', g1, g2, ?_, ?_, hK1.trans g5, hK2.trans g6, g7⟩
  · unfold f_X3_playOnce
    rw [e_clear, bnd_s, lt_e, hK1.1 _ (by unfold kI450; omega), s4.1]
    exact g3
  · unfold f_X10_playOne
    refine e1.trans ?_
    rw [s5.1]
    exact g4
theorem REL_pl {w : AW} {σ τ σ' τ' : Sta} {p : Nat} (h : REL w σ τ) (hc : Kp kI450 kL449 n0 k40 σ σ') (hm : Kp n0 kL55 n0 k37 τ τ') (hp : p ≤ 30) (hP : PlAt p σ' τ') : REL w σ' τ' := by
  refine ⟨h.1, h.2.1, AC_pl hc h.2.2.1, AM_pl hm h.2.2.2.1, ?_, Strs_kp h.2.2.2.2.2.1 hc hm (fun q e => by unfold kI450 at e; omega) (fun _ e => e.elim) (fun q e => by unfold k40 at e; omega) (fun _ e => e.elim) (fun _ e => e.elim) (fun q e => by unfold k37 at e; omega), ⟨p, hp, hP.1, hP.2.1, hP.2.2.1⟩, ?_⟩
  · obtain ⟨tl, a1, a2, a3, a4⟩ := h.2.2.2.2.1
    exact ⟨tl, a1, by rw [hc.1 _ (by unfold kI450; omega)]; exact a2, by rw [hm.1 _ id]; exact a3, fun j hj => by rw [hc.2.2.1 _ id, hm.2.2.1 _ id]; exact a4 j hj⟩
  · obtain ⟨a1, a2, a3, a4, a5, a6, a7, a8⟩ := h.2.2.2.2.2.2.2
    unfold Rest
    rw [hc.1 12 (by unfold kI450; omega), hm.1 35 id, hc.2.1 13 (by unfold kL449; omega), hm.2.1 36 (by unfold kL55; omega), hc.2.2.1 9 id, hm.2.2.1 29 id, hc.1 202 (by unfold kI450; omega), hm.1 19 id, hc.2.2.2.1 19 (by unfold k40; omega), hm.2.2.2.1 7 (by unfold k37; omega), hm.1 26 id, hm.2.2.2.1 1 (by unfold k37; omega)]
    exact ⟨a1, a2, hP.2.2.2, a4, a5, a6, a7, a8⟩
theorem op_play {w : AW} {σ τ : Sta} (h : REL w σ τ) (a : Int32) : OP w (f_X8_play a σ) (f_X10_play a τ) eIOB "" "" := by
  have hw := h.1
  have hc := h.2.2.1
  have h0 := REL_th h 0
  have hm := h0.2.2.2.1
  obtain ⟨kp, k1, k2, k3, k4, k5, k6⟩ := h0.2.2.2.2.2.1
  unfold f_X8_play f_X10_play
  rw [lt_e]
  rcases ix_cases a (n := kp) (by omega) with ⟨i, hi, rfl⟩ | ha
  · have hd := k5.1 i (by omega)
    obtain ⟨e, σ', τ', p', g1, g2, g3, g4, g5, g6, g7⟩ := e_play hw (k4 (by omega)) hc hm (by omega) (k6 i hi) h0.2.2.2.2.2.2.2.2.2.1
    rw [e_cStr_in k2 k1 hi, bnx_l, e_mStr_in k3 k1 hi, bnd_s, ite10, if_neg (nI_in (c := i) (N := 13) (by omega) (by omega)), nI_clamp (n := i) (by omega), if_neg (show ¬ 13 ≤ gP σ i by omega), lt_e, g3, bnd_s, g4, bnd_s]
    exact OP.in _ rfl rfl (REL_pl h0 g5 g6 g2 g7) (by rw [g6.1 0 id]; exact th_0 _ _)
  · rw [e_cStr_out k2 ha, bnx_r, e_mStr_out k3 k1 ha, bnd_s, ite00, e_failM, bnd_s]
    exact OP.e1 rfl rfl (REL_fail h 0 1) (th_0 _ _)
theorem op_played {w : AW} {σ τ : Sta} (h : REL w σ τ) (a : Int32) : OP w (f_X8_played a σ) (f_X10_played a τ) eIOB "" "" := by
  obtain ⟨p, p1, p2, p3, p4⟩ := h.2.2.2.2.2.2.1
  unfold f_X8_played f_X10_played f_X10_played_18 f_X10_played_38 f_X8_played_32
  rcases ix_cases a (n := 4) (by omega) with ⟨i, hi, rfl⟩ | ha
  · rw [show (4 : Int32) = nI 4 from rfl, e_cI_in hi (by omega), bnx_l, show (3 : Int64) = (nI 4 - 1).toInt64 by decide, e_iI_in hi (by omega), bnd_s, ite10, lt_e, th_0, ite00, if_neg (nI_in (by omega) (by omega)), gJ_sI, nI_clamp (n := i) (by omega)]
    cases i with
    | zero =>
      rw [if_pos (show nI 0 = 0 from rfl), p2, p3, nI_l (by omega)]
      exact OP.in _ rfl rfl (REL_th h 0) (th_0 _ _)
    | succ j =>
      rw [if_neg (nI_ne0 (by omega) (by omega)), nI_pred, if_neg (nI_in (by omega) (by omega)), nI_clamp (by omega), show j + 1 = 1 + j by omega, p4 j (by omega)]
      exact OP.in _ rfl rfl (REL_th h 0) (th_0 _ _)
  · rw [show (4 : Int32) = nI 4 from rfl, e_cI_out ha, bnx_r, show (3 : Int64) = (nI 4 - 1).toInt64 by decide, e_iI_out ha (by omega), bnd_s, ite00, lt_e, th_0, ite10]
    exact OP.e1 rfl rfl (REL_th h 1) (th_0 _ _)
theorem e_average_l {w : AW} (hw : AWok w) (h0 : 0 < aNs w) {i g N kp : Nat} (hkp : kp ≤ 12) (hi : i < kp) (hg : g < aNg w) (hN : N ≤ 20) (hN1 : 1 ≤ N) : ∀ (m k n n' : Nat) (σ τ : Sta) (a : Int64), k + m = N → m < n → m < n' → REL w σ τ → gI σ 11 = nI kp → gI τ 0 = 0 →
    ∃ v σ' τ', f_X8_average_24 n (nI i) (nI g) (nI N) a (nI k) σ = some (.inl v, σ') ∧ f_X10_average_56 n' (nI i) (nI g) (nI N) a (nI k) τ = some (v, τ') ∧ REL w σ' τ' ∧ gI τ' 0 = 0
  | _, _, 0, _, _, _, _, _, hn, _, _, _, _ => absurd hn (Nat.not_lt_zero _)
  | _, _, _ + 1, 0, _, _, _, _, _, hn, _, _, _ => absurd hn (Nat.not_lt_zero _)
  | 0, k, n + 1, n' + 1, σ, τ, a, hk, hn, hn', h, h11, hth => by
    refine ⟨FP.ddiv (FP.l2d a) (FP.i2d (nI N)), σ, τ, ?_, ?_, h, hth⟩
    · rw [f_X8_average_24, if_pos (nI_le (by omega) (by omega)), if_neg (fun e => e (ddiv_ok a hN1 hN))]
    · rw [f_X10_average_56, if_pos (nI_le (by omega) (by omega)), if_neg (fun e => e (ddiv_ok a hN1 hN))]
  | m + 1, k, n + 1, n' + 1, σ, τ, a, hk, hn, hn', h, h11, hth => by
    have h2 := hw.2.1
    have h1 := hw.1
    obtain ⟨kp', k1, k2, k3, k4, k5, k6⟩ := h.2.2.2.2.2.1
    have hkk : kp' = kp := by
      rw [h11] at k2
      exact ((nI_eq (by omega) (by omega)).mp k2).symm
    subst hkk
    have hd := k5.1 i (by omega)
    obtain ⟨e, σ', τ', p', g1, g2, g3, g4, g5, g6, g7⟩ := e_play hw h0 h.2.2.1 h.2.2.2.1 (by omega) (k6 i hi) h.2.2.2.2.2.2.2.2.2.1
    rw [f_X8_average_24, if_neg (nI_ge (by omega) (by omega)), if_neg (nI_in (c := i) (N := 13) (by omega) (by omega)), nI_clamp (n := i) (by omega), if_neg (show ¬ 13 ≤ gP σ i by omega), lt_e, g3, bnd_s, if_neg (nI_in (by omega) (by omega)), lt_e, lt_e, nI_1, nI_clamp (by omega), f_X10_average_56, if_neg (nI_ge (by omega) (by omega)), g4, bnd_s, if_pos (nI_pos' (by omega)), nI_Ladd, if_neg (nI_in (by omega) (by omega)), nI_clamp (by omega), g7.2.2.1 g (by omega)]
    unfold f_X10_average_88
    rw [lt_e, lt_e, nI_1]
    exact e_average_l hw h0 hkp hi hg hN hN1 m (k + 1) n n' σ' τ' _ (by omega) (by omega) (by omega) (REL_pl h g5 g6 g2 g7) (by rw [g5.1 _ (by unfold kI450; omega)]; exact h11) (by rw [g6.1 0 id]; exact hth)
theorem op_average {w : AW} {σ τ : Sta} (h : REL w σ τ) (a b c : Int32) : OP w (f_X8_average a b c σ) (f_X10_average a b c τ) eIOB eIAE "" := by
  have hw := h.1
  have h2 := hw.2.1
  have hc := h.2.2.1
  have hm := h.2.2.2.1
  obtain ⟨kp, k1, k2, k3, k4, k5, k6⟩ := h.2.2.2.2.2.1
  have hf : f_X10_average_17 a b c τ = some (0, sI τ 0 1) := by
    unfold f_X10_average_17 f_X10_average_38
    rw [lt_e, th_0, ite10]
  unfold f_X8_average f_X10_average
  rcases ix_cases a (n := kp) (by omega) with ⟨i, hi, rfl⟩ | ha
  · rw [e_cStr_in k2 k1 hi, bnx_l, e_mStr_in k3 k1 hi, bnd_s, ite10]
    rcases ix_cases b (n := aNg w) (by omega) with ⟨g, hg, rfl⟩ | hb
    · rw [e_cGain_in hw hc hg, bnx_l, e_mGain_in hw hm hg, bnd_s, ite10, e_cR, show (20 : Int64) = (20 : Int32).toInt64 by decide, show (1 : Int64) = (1 : Int32).toInt64 by decide, e_isR]
      unfold f_X10_average_38
      by_cases h5 : (1 : Int32) ≤ c ∧ c ≤ 20
      · obtain ⟨N, hN, rfl⟩ := nI_of2 (M := 20) (n := 20) (by decide) (fun e => Int32.not_le.mpr e (Int32.le_trans (by decide) h5.1)) h5.2
        have hN1 : 1 ≤ N := by
          have := h5.1
          rw [nI_Lle (by omega) (by decide)] at this
          exact this
        obtain ⟨v, σ', τ', g1, g2, g3, g4⟩ := e_average_l hw (k4 (by omega)) k1 hi hg hN hN1 N 0 FU FU σ (sI τ 0 0) 0 (by omega) (FU_lt (by omega)) (FU_lt (by omega)) (REL_th h 0) k2 (th_0 _ _)
        rw [if_pos h5, if_pos h5, bnx_l, bnd_s, ite10, lt_e, th_0, ite00]
        exact OP.in v g1 g2 g3 g4
      · rw [if_neg h5, if_neg h5, bnx_r, bnd_s, ite00, lt_e, th_0, if_neg (by decide)]
        exact OP.e2 rfl rfl (REL_th h 2) (th_0 _ _)
    · rw [e_cGain_out hc hb, bnx_r, e_mGain_out hw hm hb, bnd_s, ite00, hf]
      exact OP.e1 rfl rfl (REL_th h 1) (th_0 _ _)
  · rw [e_cStr_out k2 ha, bnx_r, e_mStr_out k3 k1 ha, bnd_s, ite00, hf]
    exact OP.e1 rfl rfl (REL_th h 1) (th_0 _ _)
