/-! Calls that write. -/
theorem op_seed {w : AW} {σ τ : Sta} (h : REL w σ τ) (a : Int64) : OV w (f_X8_seed a σ) (f_X10_seed a τ) := by
  have h0 := REL_th h 0
  obtain ⟨a1, a2, a3, a4, a5, a6, a7, a8⟩ := h0.2.2.2.2.2.2.2
  refine ⟨gL σ 449, sL σ 449 a, sL (sI τ 0 0) 55 a, rfl, ?_, ?_⟩
  · unfold f_X10_seed
    rw [lt_e, lt_e, lt_e, a3]
  · refine ⟨h0.1, h0.2.1, h0.2.2.1, h0.2.2.2.1, h0.2.2.2.2.1, h0.2.2.2.2.2.1, h0.2.2.2.2.2.2.1, a1, ?_, ?_, a4, a5, a6, a7, a8⟩
    · rw [gL_sL, if_neg (by decide), gL_sL, if_neg (by decide)]; exact a2
    · rw [gL_sL, if_pos rfl, gL_sL, if_pos rfl]
theorem op_weigh {w : AW} {σ τ : Sta} (h : REL w σ τ) (a b : Int32) : OP w (f_X8_weigh a b σ) (f_X10_weigh a b τ) eIOB eIAE "" := by
  have hw := h.1
  have h2 := hw.2.1
  have hc := h.2.2.1
  have h0 := REL_th h 0
  have hm := h0.2.2.2.1
  obtain ⟨a1, a2, a3, a4, a5, a6, a7, a8⟩ := h0.2.2.2.2.2.2.2
  unfold f_X8_weigh f_X10_weigh
  rw [lt_e]
  rcases ix_cases a (n := aNg w) (by omega) with ⟨x, hx, rfl⟩ | ha
  · rw [e_cGain_in hw hc hx, bnx_l, e_mGain_in hw hm hx, bnd_s, ite10, e_cR, show (-9 : Int64) = (-9 : Int32).toInt64 by decide, show (9 : Int64) = (9 : Int32).toInt64 by decide, e_isR]
    by_cases h5 : (-9 : Int32) ≤ b ∧ b ≤ 9
    · rw [if_pos h5, if_pos h5, bnx_l, bnd_s, ite10, if_neg (nI_in (by omega) (by omega)), if_neg (nI_in (by omega) (by omega)), lt_e, if_neg (nI_in (by omega) (by omega)), lt_e, lt_e, if_neg (nI_in (by omega) (by omega)), lt_e, nI_clamp (by omega), a4 x (by omega)]
      refine OP.in _ (σ' := sA σ 9 (upd (gA σ 9) x b)) (τ' := sA (sI τ 0 0) 29 (upd (gA (sI τ 0 0) 29) x b)) rfl rfl ⟨hw, h.2.1, AC_sA (by decide) hc, AM_sA (by decide) hm, ?_, ?_, ?_, ?_⟩ (by rw [gI_sA]; exact th_0 _ _)
      · exact h0.2.2.2.2.1
      · exact Strs_kp h0.2.2.2.2.2.1 (Kp.sA (I := n0) (L := n0) (J := n0) (A := fun q => q = 9) rfl Kp.rfl') (Kp.sA (I := n0) (L := n0) (J := n0) (A := fun q => q = 29) rfl Kp.rfl') (fun _ e => e.elim) (fun q e => by omega) (fun _ e => e.elim) (fun _ e => e.elim) (fun q e => by omega) (fun _ e => e.elim)
      · exact h0.2.2.2.2.2.2.1
      · refine ⟨a1, a2, a3, fun g hg => ?_, a5, a6, a7, a8⟩
        rw [gA_sA, if_pos rfl, gA_sA, if_pos rfl, upd_at, upd_at, a4 g hg]
    · rw [if_neg h5, if_neg h5, bnx_r, bnd_s, ite00, e_failM, bnd_s]
      exact OP.e2 rfl rfl (REL_fail h 0 2) (th_0 _ _)
  · rw [e_cGain_out hc ha, bnx_r, e_mGain_out hw hm ha, bnd_s, ite00, e_failM, bnd_s]
    exact OP.e1 rfl rfl (REL_fail h 0 1) (th_0 _ _)
theorem e_solve32 {d : Nat} {a : Int32} {kk : Sta → Option ((Int32 ⊕ String) × Sta)} : ∀ (m k n : Nat) (σ : Sta), k + m = 3 → m < n → (∀ g, g < k → gA σ (41 + 5 * d + 1) g = gA σ 9 g) →
    ∃ σ', f_X8_solve_32 n a d (nI k) σ = (lt (sI σ' (64 * (41 + 5 * d) + 1) a) (fun σ2 => bnd (f_X2_plan d σ2) (fun _ σ4 => lt (sI σ4 11 ((gI σ4 11) + 1)) (fun σ6 => some (.inl ((gI σ6 11) - 1), σ6))))) ∧ Kp n0 n0 (fun q => q = 41 + 5 * d + 1) n0 σ σ' ∧ (∀ g, g < 3 → gA σ' (41 + 5 * d + 1) g = gA σ' 9 g)
  | _, _, 0, _, _, hn, _ => absurd hn (Nat.not_lt_zero _)
  | 0, k, n + 1, σ, hk, hn, hN => by
    refine ⟨σ, ?_, Kp.rfl', fun g hg => hN g (by omega)⟩
    rw [f_X8_solve_32, if_pos (by rw [nI_Lle (by omega) (by decide)]; omega)]
  | m + 1, k, n + 1, σ, hk, hn, hN => by
    have hK : Kp n0 n0 (fun q => q = 41 + 5 * d + 1) n0 σ (sA σ (41 + 5 * d + 1) (upd (gA σ (41 + 5 * d + 1)) k (gA σ 9 k))) := Kp.sA rfl Kp.rfl'
    obtain ⟨σ', e1, e2, e3⟩ := e_solve32 (d := d) (a := a) (kk := kk) m (k + 1) n (sA σ (41 + 5 * d + 1) (upd (gA σ (41 + 5 * d + 1)) k (gA σ 9 k))) (by omega) (by omega) (fun g hg => by
      rw [gA_sA, if_pos rfl, upd_at, gA_sA, if_neg (show ¬ 9 = 41 + 5 * d + 1 by omega)]
      by_cases h4 : g = k
      · rw [if_pos h4, h4]
      · rw [if_neg h4]; exact hN g (by omega))
    refine ⟨σ', ?_, hK.trans e2, e3⟩
    rw [← e1, f_X8_solve_32, if_neg (by rw [nI_Lle (by omega) (by decide)]; omega), if_neg (nI_in (by omega) (by omega)), if_neg (nI_in (by omega) (by omega)), lt_e, lt_e, nI_1, nI_clamp (by omega)]
theorem Strs_th {w : AW} {σ τ : Sta} {v : Int32} (h : Strs w σ τ) : Strs w σ (sI τ 0 v) := by
  obtain ⟨kp, k1, k2, k3, k4, k5, k6⟩ := h
  exact ⟨kp, k1, k2, by rw [gI_sI, if_neg (by decide)]; exact k3, k4, k5, k6⟩
theorem op_solve {w : AW} {σ τ : Sta} (h : REL w σ τ) (a : Int32) : OP w (f_X8_solve a σ) (f_X10_solve a τ) eIAE eISE "" := by
  have hw := h.1
  have h1 := hw.1
  have h2 := hw.2.1
  have hc := h.2.2.1
  have h0 := REL_th h 0
  have hm := h0.2.2.2.1
  obtain ⟨kp, k1, k2, k3, k4, k5, k6⟩ := h0.2.2.2.2.2.1
  have hf : f_X10_solve_39 (sI τ 0 0) = some (0, sI (sI τ 0 0) 0 2) := rfl
  unfold f_X8_solve f_X10_solve
  rw [lt_e, e_cR, show (30 : Int64) = (30 : Int32).toInt64 by decide, show (1 : Int64) = (1 : Int32).toInt64 by decide, e_isR]
  by_cases h5 : (1 : Int32) ≤ a ∧ a ≤ 30
  · obtain ⟨st, hst, rfl⟩ := nI_of2 (M := 30) (n := 30) (by decide) (fun e => Int32.not_le.mpr e (Int32.le_trans (by decide) h5.1)) h5.2
    have hst1 : 1 ≤ st := by
      have := h5.1
      rw [nI_Lle (by omega) (by decide)] at this
      exact this
    rw [if_pos h5, if_pos h5, bnx_l, bnd_s, ite10]
    unfold f_X8_checkProgram f_X8_checkRoom
    rw [hc.1, hm.1]
    by_cases h6 : aNs w = 0
    · rw [if_pos (show nI (aNs w) = 0 by rw [h6]; rfl), bnx_r, if_pos (show nI (aNs w) = 0 by rw [h6]; rfl), hf]
      exact OP.e2 rfl rfl (REL_fail h 0 2) (th_0 _ _)
    · rw [if_neg (nI_ne0 (by omega) (by omega)), bnx_l, if_neg (nI_ne0 (by omega) (by omega)), k2, k3]
      by_cases h7 : kp = 12
      · rw [if_neg (by rw [nI_ltL (by omega) (by decide)]; omega), bnx_r, if_pos (by rw [h7]; rfl), hf]
        exact OP.e2 rfl rfl (REL_fail h 0 2) (th_0 _ _)
      · have hd := k5.1 kp (by omega)
        rw [if_pos (by rw [nI_ltL (by omega) (by decide)]; omega), bnx_l, k2, if_neg (show ¬ nI kp = 12 from fun e => h7 ((nI_eqL (by omega) (by decide)).mp e)), if_neg (nI_in (c := kp) (N := 13) (by omega) (by omega)), nI_clamp (by omega), if_neg (show ¬ 13 ≤ gP σ kp by omega), lt_e]
        obtain ⟨σ1, e1, e2, e3⟩ := e_solve32 (d := gP σ kp) (a := nI st) (kk := fun _ => none) 3 0 FU σ (by omega) (FU_lt (by omega)) (fun g hg => absurd hg (Nat.not_lt_zero _))
        have hK1 : Kp (fun q => q = 64 * (41 + 5 * gP σ kp) + 1) n0 (fun q => q = 41 + 5 * gP σ kp + 1) n0 σ (sI σ1 (64 * (41 + 5 * gP σ kp) + 1) (nI st)) := Kp.sI rfl (e2.mono (fun _ e => e.elim) (fun _ e => e) (fun _ e => e) (fun _ e => e))
        have hP1 : Perm (sI σ1 (64 * (41 + 5 * gP σ kp) + 1) (nI st)) := Perm_kp k5 hK1 (fun _ e => e.elim)
        have ed : gP (sI σ1 (64 * (41 + 5 * gP σ kp) + 1) (nI st)) kp = gP σ kp := hK1.2.2.2.2 kp
        have hc1 : AC w (sI σ1 (64 * (41 + 5 * gP σ kp) + 1) (nI st)) := AC_kp hK1 ⟨by omega, by omega, by omega⟩ ⟨by omega, by omega, by omega, by omega, by omega, by omega, by omega⟩ id hc
        have a4 := h0.2.2.2.2.2.2.2.2.2.2.1
        obtain ⟨σ2, τ2, f1, f2, f3, f4, f5, f6⟩ := mk_pair (i := kp) (st := st) (q2 := 29) hw (by omega) hc1 hm hP1 (by omega) hst1 hst (by rw [ed, gI_sI, if_pos rfl]) (by decide) (fun g hg => by
          rw [ed]
          show gA σ1 (41 + 5 * gP σ kp + 1) g = _
          rw [e3 g (by omega), e2.2.2.1 9 (by omega)]
          exact a4 g (by omega)) (fun j hj => by
          obtain ⟨st', T, W, B, P, s1, s2, s3, s4, s5⟩ := k6 j hj
          have h8 : gP σ j ≠ gP σ kp := fun e => by have := k5.2.1 j kp (by omega) (by omega) e; omega
          refine ⟨st', T, W, B, P, s1, s2, s3, ?_, s5⟩
          rw [hK1.2.2.2.2 j]
          exact StrC_kp s4 hK1 ⟨by omega, by omega, by omega, id, id⟩)
        rw [ed] at f1 f3
        rw [show f_X8_solve_32 FU (nI st) (gP σ kp) 0 σ = _ from e1, lt_e, f1, bnd_s, lt_e, f2, bnd_s, lt_e]
        have q1 : gI σ2 11 = nI kp := by
          rw [f3.1 11 (by unfold kIs; omega), hK1.1 11 (by omega)]; exact k2
        have q2 : gI τ2 47 = nI kp := by
          rw [f4.1.1 47 id]; exact k3
        refine OP.in (nI kp) (σ' := sI σ2 11 (nI (kp + 1))) (τ' := sI τ2 47 (nI (kp + 1))) ?_ ?_ ?_ ?_
        · rw [q1, nI_1, gI_sI, if_pos rfl, nI_pred]
        · rw [q2, nI_1, gI_sI, if_pos rfl, nI_pred]
        · have hKc : Kp (fun q => q = 11 ∨ q = 64 * (41 + 5 * gP σ kp) + 1 ∨ q = 64 * (41 + 5 * gP σ kp) + 5) n0 (fun q => q = 41 + 5 * gP σ kp + 1 ∨ q = 41 + 5 * gP σ kp + 2) (kJs (gP σ kp)) σ (sI σ2 11 (nI (kp + 1))) :=
            Kp.sI (Or.inl rfl) ((hK1.mono (fun _ e => Or.inr (Or.inl e)) (fun _ e => e) (fun _ e => Or.inl e) (fun _ e => e.elim)).trans (f3.mono (fun _ e => Or.inr (Or.inr e)) (fun _ e => e) (fun _ e => Or.inr e) (fun _ e => e)))
          have hKm : Kp (fun q => q = 47) n0 kAM kJM (sI τ 0 0) (sI τ2 47 (nI (kp + 1))) := Kp.sI rfl (f4.1.mono (fun _ e => e.elim) (fun _ e => e) (fun _ e => e) (fun _ e => e))
          refine REL_fr h0 hKc hKm (fun q e => by omega) (fun _ e => e.elim) (fun q e => by omega) (fun q e => by unfold kJs at e; omega) (fun q e => by omega) (fun _ e => e.elim) (fun q e => by unfold kAM at e; omega) (fun q e => by unfold kJM at e; omega) ?_
          refine ⟨kp + 1, by omega, by rw [gI_sI, if_pos rfl], by rw [gI_sI, if_pos rfl], fun _ => by omega, f5, fun i hi => ?_⟩
          obtain ⟨st', T, W, B, P, s1, s2, s3, s4, s5⟩ := f6 i hi
          refine ⟨st', T, W, B, P, s1, s2, s3, ?_, s5⟩
          exact StrC_kp s4 (Kp.sI (I := fun q => q = 11) (L := n0) (A := n0) (J := n0) rfl Kp.rfl') ⟨by omega, by omega, id, id, id⟩
        · rw [gI_sI, if_neg (by decide), f4.1.1 0 id]
          exact th_0 _ _
  · rw [if_neg h5, if_neg h5, bnx_r, bnd_s, ite00, e_failM, bnd_s]
    exact OP.e1 rfl rfl (REL_fail h 0 1) (th_0 _ _)
