/-! Which exceptions a call may throw: the calls' theorems with the rest left free (by wip/whole/opg.py). -/
theorem og_value (e2 e3 : String) {w : AW} {σ τ : Sta} (h : REL w σ τ) (a b : Int32) : OP w (f_X8_value a b σ) (f_X10_value a b τ) eIOB e2 e3 := by
  have hw := h.1
  have h1 := hw.1
  have h2 := hw.2.2.1
  have hc := h.2.2.1
  have h0 := REL_th h 0
  have hm := h0.2.2.2.1
  have hf : f_X10_value_43 (sI τ 0 0) = some (0, sI (sI τ 0 0) 0 1) := rfl
  unfold f_X8_value f_X10_value
  rw [lt_e]
  rcases ix_cases a (n := aNs w) (by omega) with ⟨s, hs, rfl⟩ | ha
  · rw [e_cState_in hw hc hs, bnx_l, e_mState_in hw hm hs, bnd_s, ite10, hc.2.2.1, hm.2.2.1]
    rcases ix_cases b (n := aNv w) (by omega) with ⟨v, hv, rfl⟩ | hb
    · rw [e_cI_in hv (by omega), bnx_l, nI_mulL, nI_add, e_entry (by omega) (by omega), bnd_s, e_iI_in hv (by omega), bnd_s, ite10, nI_Lmul, nI_add, if_neg (nI_in (by omega) (by omega)), nI_clamp (by omega), hc.2.2.2.2.2 s v hs hv, hm.2.2.2.2.2 s v hs hv]
      exact OP.in _ rfl rfl h0 (th_0 _ _)
    · rw [e_cI_out hb, bnx_r, e_iI_out hb (by omega), bnd_s, ite00, hf]
      exact OP.e1 rfl rfl (REL_fail h 0 1) (th_0 _ _)
  · rw [e_cState_out hc ha, bnx_r, e_mState_out hw hm ha, bnd_s, ite00, hf]
    exact OP.e1 rfl rfl (REL_fail h 0 1) (th_0 _ _)
theorem og_choices (e2 e3 : String) {w : AW} {σ τ : Sta} (h : REL w σ τ) (a : Int32) : OP w (f_X8_choices a σ) (f_X10_choices a τ) eIOB e2 e3 := by
  have hw := h.1
  have h1 := hw.1
  have hc := h.2.2.1
  have h0 := REL_th h 0
  have hm := h0.2.2.2.1
  unfold f_X8_choices f_X10_choices
  rw [lt_e]
  rcases ix_cases a (n := aNs w) (by omega) with ⟨s, hs, rfl⟩ | ha
  · rw [e_cState_in hw hc hs, bnx_l, e_mState_in hw hm hs, bnd_s, ite10, if_neg (nI_in (by omega) (by omega)), nI_clamp (by omega), e_told hw hm hs, bnd_s, hc.2.2.2.1 s hs]
    exact OP.in _ rfl rfl h0 (th_0 _ _)
  · rw [e_cState_out hc ha, bnx_r, e_mState_out hw hm ha, bnd_s, ite00, e_failM, bnd_s]
    exact OP.e1 rfl rfl (REL_fail h 0 1) (th_0 _ _)
theorem og_choice (e2 e3 : String) {w : AW} {σ τ : Sta} (h : REL w σ τ) (a b c : Int32) : OP w (f_X8_choice a b c σ) (f_X10_choice a b c τ) eIOB e2 e3 := by
  have hw := h.1
  have h1 := hw.1
  have hc := h.2.2.1
  have h0 := REL_th h 0
  have hm := h0.2.2.2.1
  have hf : f_X10_choice_24 (sI τ 0 0) = some (0, sI (sI τ 0 0) 0 1) := rfl
  unfold f_X8_choice f_X10_choice
  rw [lt_e]
  rcases ix_cases a (n := aNs w) (by omega) with ⟨s, hs, rfl⟩ | ha
  · have h3 := (hw.2.2.2.1 s hs).1
    rcases ix_cases b (n := aCh w s) (by omega) with ⟨v, hv, rfl⟩ | hb
    · have h4 := ok_s hw hs hv
      rw [e_cChoice_in hw hc hs hv, bnx_l, e_mChoice_in hw hm hs hv, bnd_s, ite10]
      rcases ix_cases c (n := 2) (by omega) with ⟨u, hu, rfl⟩ | hcc
      · rw [show (2 : Int32) = nI 2 from rfl, e_cI_in hu (by omega), bnx_l, show (1 : Int64) = (nI 2 - 1).toInt64 by decide, e_iI_in hu (by omega), bnd_s, ite10, lt_e, nI_Lmul, nI_add, e_branchesOf hw hc hs hv, e_commandOf hw hc hs hv, if_neg (nI_in (by omega) (by omega)), nI_clamp (by omega), e_manyBranches hw hm hs hv, bnd_s, bnd_s, bnd_s, (hm.2.2.2.2.1 s v hs hv).1]
        by_cases h5 : nI u = 0
        · rw [if_pos h5, if_pos h5]
          exact OP.in _ rfl rfl h0 (th_0 _ _)
        · rw [if_neg h5, if_neg h5]
          exact OP.in _ rfl rfl h0 (th_0 _ _)
      · rw [show (2 : Int32) = nI 2 from rfl, e_cI_out hcc, bnx_r, show (1 : Int64) = (nI 2 - 1).toInt64 by decide, e_iI_out hcc (by omega), bnd_s, ite00, hf]
        exact OP.e1 rfl rfl (REL_fail h 0 1) (th_0 _ _)
    · rw [e_cChoice_out hw hc hs hb, bnx_r, e_mChoice_out hw hm hs hb, bnd_s, ite00, hf]
      exact OP.e1 rfl rfl (REL_fail h 0 1) (th_0 _ _)
  · rw [e_cChoice_outs hc ha, bnx_r, e_mChoice_outs hw hm ha, bnd_s, ite00, hf]
    exact OP.e1 rfl rfl (REL_fail h 0 1) (th_0 _ _)
theorem og_gain (e2 e3 : String) {w : AW} {σ τ : Sta} (h : REL w σ τ) (a b c : Int32) : OP w (f_X8_gain a b c σ) (f_X10_gain_ a b c τ) eIOB e2 e3 := by
  have hw := h.1
  have h1 := hw.1
  have h2 := hw.2.1
  have hc := h.2.2.1
  have hm := h.2.2.2.1
  have hf : f_X10_gain__30 a b c τ = some (0, sI τ 0 1) := by
    unfold f_X10_gain__30 f_X10_gain__31 f_X10_gain__60
    rw [lt_e, th_0, if_neg (by decide)]
  unfold f_X8_gain f_X10_gain_
  rcases ix_cases a (n := aNs w) (by omega) with ⟨s, hs, rfl⟩ | ha
  · have h3 := (hw.2.2.2.1 s hs).1
    rcases ix_cases b (n := aCh w s) (by omega) with ⟨v, hv, rfl⟩ | hb
    · have h4 := ok_s hw hs hv
      rw [e_cChoice_in hw hc hs hv, bnx_l, e_mChoice_in hw hm hs hv, bnd_s, ite10, hm.2.1]
      rcases ix_cases c (n := aNg w) (by omega) with ⟨g, hg, rfl⟩ | hcc
      · rw [e_cGain_in hw hc hg, bnx_l, e_gainOf hw hc hs hv hg, bnd_s, e_iI_in hg (by omega), bnd_s, ite10]
        unfold f_X10_gain__31 f_X10_gain__60
        rw [lt_e, th_0, if_pos rfl, nI_Lmul, nI_add, nI_Lmul, nI_add, if_neg (nI_in (by omega) (by omega)), nI_clamp (by omega), gJ_sI, (hm.2.2.2.2.1 s v hs hv).2.2.2 g hg]
        exact OP.in _ rfl rfl (REL_th h 0) (th_0 _ _)
      · rw [e_cGain_out hc hcc, bnx_r, e_iI_out hcc (by omega), bnd_s, ite00, hf]
        exact OP.e1 rfl rfl (REL_th h 1) (th_0 _ _)
    · rw [e_cChoice_out hw hc hs hb, bnx_r, e_mChoice_out hw hm hs hb, bnd_s, ite00, hf]
      exact OP.e1 rfl rfl (REL_th h 1) (th_0 _ _)
  · rw [e_cChoice_outs hc ha, bnx_r, e_mChoice_outs hw hm ha, bnd_s, ite00, hf]
    exact OP.e1 rfl rfl (REL_th h 1) (th_0 _ _)
theorem og_branch (e2 e3 : String) {w : AW} {σ τ : Sta} (h : REL w σ τ) (a b c z : Int32) : OP w (f_X8_branch a b c z σ) (f_X10_branch_ a b c z τ) eIOB e2 e3 := by
  have hw := h.1
  have h1 := hw.1
  have hc := h.2.2.1
  have h0 := REL_th h 0
  have hm := h0.2.2.2.1
  unfold f_X8_branch f_X10_branch_
  rw [lt_e]
  rcases ix_cases a (n := aNs w) (by omega) with ⟨s, hs, rfl⟩ | ha
  · have h3 := (hw.2.2.2.1 s hs).1
    rcases ix_cases b (n := aCh w s) (by omega) with ⟨v, hv, rfl⟩ | hb
    · have h4 := ok_s hw hs hv
      rw [e_cChoice_in hw hc hs hv, bnx_l, e_mChoice_in hw hm hs hv, bnd_s, ite10, lt_e, nI_Lmul, nI_add, e_branchesOf hw hc hs hv, bnd_s, e_manyBranches hw hm hs hv, bnd_s]
      rcases ix_cases c (n := aNb w (aCm w s v)) (by omega) with ⟨u, hu, rfl⟩ | hcc
      · rw [e_cI_in hu (by omega), bnx_l, e_iI_in hu (by omega), bnd_s, ite10, e_targetOf hw hc hs hv hu, e_chanceOf hw hc hs hv hu, nI_Lmul, nI_add, if_neg (nI_in (by omega) (by omega)), nI_clamp (by omega), e_chanceOfM hw hm hs hv hu, bnd_s, bnd_s, bnd_s, ((hm.2.2.2.2.1 s v hs hv).2.2.1 u hu).2]
        by_cases h5 : z = 0
        · rw [if_pos h5, if_pos h5]
          exact OP.in _ rfl rfl h0 (th_0 _ _)
        · rw [if_neg h5, if_neg h5]
          exact OP.in _ rfl rfl h0 (th_0 _ _)
      · rw [e_cI_out hcc, bnx_r, e_iI_out hcc (by omega), bnd_s, ite00, e_failM, bnd_s]
        exact OP.e1 rfl rfl (REL_fail h 0 1) (th_0 _ _)
    · rw [e_cChoice_out hw hc hs hb, bnx_r, e_mChoice_out hw hm hs hb, bnd_s, ite00, e_failM, bnd_s]
      exact OP.e1 rfl rfl (REL_fail h 0 1) (th_0 _ _)
  · rw [e_cChoice_outs hc ha, bnx_r, e_mChoice_outs hw hm ha, bnd_s, ite00, e_failM, bnd_s]
    exact OP.e1 rfl rfl (REL_fail h 0 1) (th_0 _ _)
theorem og_takes (e2 e3 : String) {w : AW} {σ τ : Sta} (h : REL w σ τ) (a b c : Int32) : OP w (f_X8_takes a b c σ) (f_X10_takes a b c τ) eIOB eIAE e3 := by
  have hw := h.1
  have h1 := hw.1
  have hc := h.2.2.1
  have h0 := REL_th h 0
  have hm := h0.2.2.2.1
  obtain ⟨kp, k1, k2, k3, k4, k5, k6⟩ := h0.2.2.2.2.2.1
  have hf : f_X10_takes_21 (sI τ 0 0) = some (0, sI (sI τ 0 0) 0 1) := rfl
  unfold f_X8_takes f_X10_takes
  rw [lt_e]
  rcases ix_cases a (n := kp) (by omega) with ⟨i, hi, rfl⟩ | ha
  · obtain ⟨st, T, W, B, P, s1, s2, s3, s4, s5⟩ := k6 i hi
    have hd := k5.1 i (by omega)
    rw [e_cStr_in k2 k1 hi, bnx_l, e_mStr_in k3 k1 hi, bnd_s, ite10]
    rcases ix_cases b (n := aNs w) (by omega) with ⟨s, hs, rfl⟩ | hb
    · rw [e_cState_in hw hc hs, bnx_l, e_mState_in hw hm hs, bnd_s, ite10, if_neg (nI_in (N := 13) (by omega) (by omega)), if_neg (nI_in (N := 22) (by omega) (by omega)), nI_clamp (by omega), if_neg (by omega), lt_e, s4.1, s5.1, e_cR, show (1 : Int64) = (1 : Int32).toInt64 by decide, e_isR]
      by_cases h5 : (1 : Int32) ≤ c ∧ c ≤ nI st
      · obtain ⟨j, hj, rfl⟩ := nI_of2 (M := nI st) (n := st) (nI_toInt (by omega)) (fun e => Int32.not_le.mpr e (Int32.le_trans (by decide) h5.1)) h5.2
        have h6 : 1 ≤ j := by
          have := h5.1
          rw [nI_Lle (by omega) (by decide)] at this
          exact this
        obtain ⟨j', rfl⟩ : ∃ j', j = j' + 1 := ⟨j - 1, by omega⟩
        rw [if_pos h5, if_pos h5, bnx_l, e_takenIn (by omega) (by omega), bnd_s, bnd_s, ite10, nI_Lmul, nI_Lmul, nI_add, nI_add, if_neg (nI_in (by omega) (by omega)), nI_clamp (by omega), s4.2.1 j' s (by omega) hs, s5.2.1 j' s (by omega) hs]
        exact OP.in _ rfl rfl h0 (th_0 _ _)
      · rw [if_neg h5, if_neg h5, bnx_r, bnd_s, ite00, e_failM, bnd_s]
        exact OP.e2 rfl rfl (REL_fail h 0 2) (th_0 _ _)
    · rw [e_cState_out hc hb, bnx_r, e_mState_out hw hm hb, bnd_s, ite00, hf]
      exact OP.e1 rfl rfl (REL_fail h 0 1) (th_0 _ _)
  · rw [e_cStr_out k2 ha, bnx_r, e_mStr_out k3 k1 ha, bnd_s, ite00, hf]
    exact OP.e1 rfl rfl (REL_fail h 0 1) (th_0 _ _)
theorem og_worth (e2 e3 : String) {w : AW} {σ τ : Sta} (h : REL w σ τ) (a b c : Int32) : OP w (f_X8_worth a b c σ) (f_X10_worth a b c τ) eIOB eIAE e3 := by
  have hw := h.1
  have h1 := hw.1
  have hc := h.2.2.1
  have hm := h.2.2.2.1
  obtain ⟨kp, k1, k2, k3, k4, k5, k6⟩ := h.2.2.2.2.2.1
  have hf : f_X10_worth_17 a b c τ = some (0, sI τ 0 1) := by
    unfold f_X10_worth_17 f_X10_worth_42 f_X10_worth_73
    rw [lt_e, th_0, if_neg (by decide)]
  unfold f_X8_worth f_X10_worth
  rcases ix_cases a (n := kp) (by omega) with ⟨i, hi, rfl⟩ | ha
  · obtain ⟨st, T, W, B, P, s1, s2, s3, s4, s5⟩ := k6 i hi
    have hd := k5.1 i (by omega)
    rw [e_cStr_in k2 k1 hi, bnx_l, e_mStr_in k3 k1 hi, bnd_s, ite10]
    rcases ix_cases b (n := aNs w) (by omega) with ⟨s, hs, rfl⟩ | hb
    · rw [e_cState_in hw hc hs, bnx_l, e_mState_in hw hm hs, bnd_s, ite10, if_neg (nI_in (N := 13) (by omega) (by omega)), if_neg (nI_in (N := 22) (by omega) (by omega)), nI_clamp (by omega), if_neg (by omega), lt_e, s4.1, s5.1, e_cR, show (0 : Int64) = (0 : Int32).toInt64 by decide, e_isR]
      by_cases h5 : (0 : Int32) ≤ c ∧ c ≤ nI st
      · obtain ⟨j, hj, rfl⟩ := nI_of2 (M := nI st) (n := st) (nI_toInt (by omega)) (fun e => Int32.not_le.mpr e h5.1) h5.2
        rw [if_pos h5, if_pos h5, bnx_l, nI_mulL, nI_add, e_entryL (by omega) (by omega), bnd_s, bnd_s, ite10]
        unfold f_X10_worth_42 f_X10_worth_73
        rw [lt_e, th_0, if_pos rfl, nI_Lmul, nI_Lmul, nI_add, nI_add, if_neg (nI_in (by omega) (by omega)), nI_clamp (by omega), gJ_sI, s4.2.2.1 j s (by omega) hs, s5.2.2.1 j s (by omega) hs]
        exact OP.in _ rfl rfl (REL_th h 0) (th_0 _ _)
      · rw [if_neg h5, if_neg h5, bnx_r, bnd_s, ite00]
        unfold f_X10_worth_42 f_X10_worth_73
        rw [lt_e, th_0, if_neg (by decide)]
        exact OP.e2 rfl rfl (REL_th h 2) (th_0 _ _)
    · rw [e_cState_out hc hb, bnx_r, e_mState_out hw hm hb, bnd_s, ite00, hf]
      exact OP.e1 rfl rfl (REL_th h 1) (th_0 _ _)
  · rw [e_cStr_out k2 ha, bnx_r, e_mStr_out k3 k1 ha, bnd_s, ite00, hf]
    exact OP.e1 rfl rfl (REL_th h 1) (th_0 _ _)
theorem og_brings (e2 e3 : String) {w : AW} {σ τ : Sta} (h : REL w σ τ) (a b : Int32) : OP w (f_X8_brings a b σ) (f_X10_brings a b τ) eIOB e2 e3 := by
  have hw := h.1
  have h2 := hw.2.1
  have hc := h.2.2.1
  have hm := h.2.2.2.1
  obtain ⟨kp, k1, k2, k3, k4, k5, k6⟩ := h.2.2.2.2.2.1
  have hf : f_X10_brings_21 a b τ = some (0, sI τ 0 1) := by
    unfold f_X10_brings_21 f_X10_brings_22 f_X10_brings_46
    rw [lt_e, th_0, if_neg (by decide)]
  unfold f_X8_brings f_X10_brings
  rcases ix_cases a (n := kp) (by omega) with ⟨i, hi, rfl⟩ | ha
  · obtain ⟨st, T, W, B, P, s1, s2, s3, s4, s5⟩ := k6 i hi
    have hd := k5.1 i (by omega)
    rw [e_cStr_in k2 k1 hi, bnx_l, e_mStr_in k3 k1 hi, bnd_s, ite10]
    rcases ix_cases b (n := aNg w) (by omega) with ⟨g, hg, rfl⟩ | hb
    · rw [e_cGain_in hw hc hg, bnx_l, e_mGain_in hw hm hg, bnd_s, ite10, if_neg (nI_in (by omega) (by omega)), nI_clamp (by omega), if_neg (by omega), lt_e, if_neg (nI_in (by omega) (by omega)), nI_clamp (by omega), s4.2.2.2.1 g hg]
      unfold f_X10_brings_22 f_X10_brings_46
      rw [lt_e, th_0, if_pos rfl, nI_Lmul, nI_add, if_neg (nI_in (by omega) (by omega)), nI_clamp (by omega), gJ_sI, s5.2.2.2.1 g hg]
      exact OP.in _ rfl rfl (REL_th h 0) (th_0 _ _)
    · rw [e_cGain_out hc hb, bnx_r, e_mGain_out hw hm hb, bnd_s, ite00, hf]
      exact OP.e1 rfl rfl (REL_th h 1) (th_0 _ _)
  · rw [e_cStr_out k2 ha, bnx_r, e_mStr_out k3 k1 ha, bnd_s, ite00, hf]
    exact OP.e1 rfl rfl (REL_th h 1) (th_0 _ _)
theorem og_chance (e2 e3 : String) {w : AW} {σ τ : Sta} (h : REL w σ τ) (a : Int32) : OP w (f_X8_chance a σ) (f_X10_chance a τ) eIOB e2 e3 := by
  have h0 := REL_th h 0
  obtain ⟨kp, k1, k2, k3, k4, k5, k6⟩ := h0.2.2.2.2.2.1
  unfold f_X8_chance f_X10_chance
  rw [lt_e]
  rcases ix_cases a (n := kp) (by omega) with ⟨i, hi, rfl⟩ | ha
  · obtain ⟨st, T, W, B, P, s1, s2, s3, s4, s5⟩ := k6 i hi
    have hd := k5.1 i (by omega)
    rw [e_cStr_in k2 k1 hi, bnx_l, e_mStr_in k3 k1 hi, bnd_s, ite10, if_neg (nI_in (N := 13) (by omega) (by omega)), if_neg (nI_in (N := 22) (by omega) (by omega)), nI_clamp (by omega), if_neg (by omega), lt_e, s4.2.2.2.2, s5.2.2.2.2]
    exact OP.in _ rfl rfl h0 (th_0 _ _)
  · rw [e_cStr_out k2 ha, bnx_r, e_mStr_out k3 k1 ha, bnd_s, ite00, e_failM, bnd_s]
    exact OP.e1 rfl rfl (REL_fail h 0 1) (th_0 _ _)
theorem og_count (e2 e3 : String) {w : AW} {σ τ : Sta} (h : REL w σ τ) (a : Int32) : OP w (f_X8_count a σ) (f_X10_count a τ) eIOB e2 e3 := by
  have h0 := REL_th h 0
  have hc := h0.2.2.1
  have hm := h0.2.2.2.1
  obtain ⟨kp, k1, k2, k3, k4, k5, k6⟩ := h0.2.2.2.2.2.1
  obtain ⟨tl, t1, t2, t3, t4⟩ := h0.2.2.2.2.1
  obtain ⟨nc, n1, n2, n3⟩ := h0.2.2.2.2.2.2.2.2.2.2.2.1
  unfold f_X10_count
  rw [lt_e]
  rcases ix_cases a (n := 6) (by omega) with ⟨i, hi, rfl⟩ | ha
  · rw [show (5 : Int64) = (nI 6 - 1).toInt64 by decide, e_iI_in hi (by omega), bnd_s, ite10]
    match i, hi with
    | 0, _ => exact OP.in (gI σ 192) rfl (by rw [hc.2.2.1, ← hm.2.2.1]; rfl) h0 (th_0 _ _)
    | 1, _ => exact OP.in (gI σ 197) rfl (by rw [hc.2.1, ← hm.2.1]; rfl) h0 (th_0 _ _)
    | 2, _ => exact OP.in (gI σ 202) rfl (by rw [n2, ← n3]; rfl) h0 (th_0 _ _)
    | 3, _ => exact OP.in (gI σ 322) rfl (by rw [hc.1, ← hm.1]; rfl) h0 (th_0 _ _)
    | 4, _ => exact OP.in (gI σ 11) rfl (by rw [k2, ← k3]; rfl) h0 (th_0 _ _)
    | 5, _ => exact OP.in (gI σ 1) rfl (by rw [t2, ← t3]; rfl) h0 (th_0 _ _)
    | n + 6, h6 => exact absurd h6 (by omega)
  · have hne : ∀ k : Nat, k < 6 → ¬ a = nI k := fun k hk e => by
      rw [e] at ha
      rcases ha with ha | ha
      · exact nI_pos (by omega) ha
      · exact nI_ge hk (by omega) ha
    have hx : f_X8_count a σ = some (.inr eIOB, σ) := by
      unfold f_X8_count
      rw [if_neg (show ¬ a = (0 : Int32) from hne 0 (by omega)), if_neg (show ¬ a = (1 : Int32) from hne 1 (by omega)), if_neg (show ¬ a = (2 : Int32) from hne 2 (by omega)), if_neg (show ¬ a = (3 : Int32) from hne 3 (by omega)), if_neg (show ¬ a = (4 : Int32) from hne 4 (by omega)), if_neg (show ¬ a = (5 : Int32) from hne 5 (by omega))]
    rw [show (5 : Int64) = (nI 6 - 1).toInt64 by decide, e_iI_out ha (by omega), bnd_s, ite00, e_failM, bnd_s]
    exact OP.e1 hx rfl (REL_fail h 0 1) (th_0 _ _)
theorem og_isWorthHaving (e2 e3 : String) {w : AW} {σ τ : Sta} (h : REL w σ τ) (a : Int32) : OP w (f_X8_isWorthHaving a σ) (f_X10_isWorthHaving a τ) eIOB e2 e3 := by
  have hw := h.1
  have hc := h.2.2.1
  obtain ⟨kp, k1, k2, k3, k4, k5, k6⟩ := h.2.2.2.2.2.1
  unfold f_X8_isWorthHaving f_X10_isWorthHaving f_X10_isWorthHaving_14 f_X10_isWorthHaving_29
  rcases ix_cases a (n := kp) (by omega) with ⟨i, hi, rfl⟩ | ha
  · have h0 := REL_th h 0
    obtain ⟨kp', k1', k2', k3', k4', k5', k6'⟩ := h0.2.2.2.2.2.1
    have hkk : kp' = kp := by
      rw [k2] at k2'
      exact ((nI_eq (by omega) (by omega)).mp k2').symm
    subst hkk
    obtain ⟨r, e1, e2⟩ := e_worth_l hw hc h0.2.2.2.1 k1 k2 k3' k5 k6' hi kp' 0 FU FU (by omega) (FU_lt (by omega)) (FU_lt (by omega))
    rw [e_cStr_in k2 k1 hi, bnx_l, e_mStr_in k3 k1 hi, bnd_s, ite10, lt_e, th_0, ite00]
    exact OP.in r e1 e2 h0 (th_0 _ _)
  · have h0 := REL_th h 1
    obtain ⟨kp', k1', k2', k3', k4', k5', k6'⟩ := h0.2.2.2.2.2.1
    rw [e_cStr_out k2 ha, bnx_r, e_mStr_out k3 k1 ha, bnd_s, ite00, lt_e, th_0, ite10]
    refine OP.e1 (r := 0) rfl ?_ h0 (th_0 _ _)
    rw [show FU = 999999999 + 1 from rfl, f_X10_isWorthHaving_32]
    split <;> rfl
theorem og_mix (e2 e3 : String) {w : AW} {σ τ : Sta} (h : REL w σ τ) (a b c g : Int32) : OP w (f_X8_mix a b c g σ) (f_X10_mix a b c g τ) eIOB eIAE e3 := by
  have hw := h.1
  have h2 := hw.2.1
  have hc := h.2.2.1
  have hm := h.2.2.2.1
  obtain ⟨kp, k1, k2, k3, k4, k5, k6⟩ := h.2.2.2.2.2.1
  have hf : f_X10_mix_26 a b c g τ = some (0, sI τ 0 1) := by
    unfold f_X10_mix_26 f_X10_mix_47 f_X10_mix_70
    rw [lt_e, th_0, ite10]
  unfold f_X8_mix f_X10_mix
  rcases ix_cases a (n := kp) (by omega) with ⟨i, hi, rfl⟩ | ha
  · rw [e_cStr_in k2 k1 hi, bnx_l, e_mStr_in k3 k1 hi, bnd_s, ite10]
    rcases ix_cases b (n := kp) (by omega) with ⟨j, hj, rfl⟩ | hb
    · rw [e_cStr_in k2 k1 hj, bnx_l, e_mStr_in k3 k1 hj, bnd_s, ite10]
      rcases ix_cases g (n := aNg w) (by omega) with ⟨v, hv, rfl⟩ | hg
      · rw [e_cGain_in hw hc hv, bnx_l, e_mGain_in hw hm hv, bnd_s, ite10, e_cR, show (100 : Int64) = (100 : Int32).toInt64 by decide, show (0 : Int64) = (0 : Int32).toInt64 by decide, e_isR]
        unfold f_X10_mix_47 f_X10_mix_70
        by_cases h5 : (0 : Int32) ≤ c ∧ c ≤ 100
        · obtain ⟨p, hp, rfl⟩ := nI_of2 (M := 100) (n := 100) (by decide) (fun e => Int32.not_le.mpr e h5.1) h5.2
          have h0 := REL_th h 0
          obtain ⟨_, _, _, _, _, k5', k6'⟩ := h0.2.2.2.2.2.1
          obtain ⟨kp', k1', k2', k3', k4', k5', k6'⟩ := h0.2.2.2.2.2.1
          have hkk : kp' = kp := by
            rw [k2] at k2'
            exact ((nI_eq (by omega) (by omega)).mp k2').symm
          subst hkk
          obtain ⟨st, T, W, B, P, s1, s2, s3, s4, s5⟩ := k6' i hi
          obtain ⟨st', T', W', B', P', s1', s2', s3', s4', s5'⟩ := k6' j hj
          obtain ⟨e1, e2⟩ := e_mixed hw k5 (by omega) (by omega) hp hv s4 s5 s4' s5'
          rw [if_pos h5, if_pos h5, bnx_l, e1, bnd_s, bnd_s, ite10, lt_e, th_0, ite00, e2, bnd_s]
          exact OP.in _ rfl rfl h0 (th_0 _ _)
        · rw [if_neg h5, if_neg h5, bnx_r, bnd_s, ite00, lt_e, th_0, if_neg (by decide)]
          exact OP.e2 rfl rfl (REL_th h 2) (th_0 _ _)
      · rw [e_cGain_out hc hg, bnx_r, e_mGain_out hw hm hg, bnd_s, ite00, hf]
        exact OP.e1 rfl rfl (REL_th h 1) (th_0 _ _)
    · rw [e_cStr_out k2 hb, bnx_r, e_mStr_out k3 k1 hb, bnd_s, ite00, hf]
      exact OP.e1 rfl rfl (REL_th h 1) (th_0 _ _)
  · rw [e_cStr_out k2 ha, bnx_r, e_mStr_out k3 k1 ha, bnd_s, ite00, hf]
    exact OP.e1 rfl rfl (REL_th h 1) (th_0 _ _)
theorem og_bestMix (e2 e3 : String) {w : AW} {σ τ : Sta} (h : REL w σ τ) (a b : Int32) (c : Int64) : OP w (f_X8_bestMix a b c σ) (f_X10_bestMix a b c τ) eIOB e2 e3 := by
  have hw := h.1
  have h2 := hw.2.1
  have hc := h.2.2.1
  have h0 := REL_th h 0
  have hm := h0.2.2.2.1
  obtain ⟨kp, k1, k2, k3, k4, k5, k6⟩ := h0.2.2.2.2.2.1
  have hf : f_X10_bestMix_21 (sI τ 0 0) = some (0, sI (sI τ 0 0) 0 1) := rfl
  unfold f_X8_bestMix f_X10_bestMix
  rw [lt_e]
  rcases ix_cases a (n := aNg w) (by omega) with ⟨x, hx, rfl⟩ | ha
  · rw [e_cGain_in hw hc hx, bnx_l, e_mGain_in hw hm hx, bnd_s, ite10]
    rcases ix_cases b (n := aNg w) (by omega) with ⟨y, hy, rfl⟩ | hb
    · rw [e_cGain_in hw hc hy, bnx_l, e_mGain_in hw hm hy, bnd_s, ite10, lt_e, lt_e]
      obtain ⟨r, e1, e2⟩ := e_bm19 (bound := c) hw k1 k2 k3 k5 k6 hx hy kp 0 FU FU (-1) 0 (by omega) (FU_lt (by omega)) (FU_lt (by omega)) (Or.inl rfl)
      exact OP.in r e1 e2 h0 (th_0 _ _)
    · rw [e_cGain_out hc hb, bnx_r, e_mGain_out hw hm hb, bnd_s, ite00, hf]
      exact OP.e1 rfl rfl (REL_fail h 0 1) (th_0 _ _)
  · rw [e_cGain_out hc ha, bnx_r, e_mGain_out hw hm ha, bnd_s, ite00, hf]
    exact OP.e1 rfl rfl (REL_fail h 0 1) (th_0 _ _)
theorem og_weigh (e2 e3 : String) {w : AW} {σ τ : Sta} (h : REL w σ τ) (a b : Int32) : OP w (f_X8_weigh a b σ) (f_X10_weigh a b τ) eIOB eIAE e3 := by
  have hw := h.1
  have h2 := hw.2.1
  have hc := h.2.2.1
  have h0 := REL_th h 0
  have hm := h0.2.2.2.1
  obtain ⟨a1, a2, a3, a4, a5, a6, a7, a8⟩ := h0.2.2.2.2.2.2.2
  unfold f_X8_weigh f_X10_weigh
  rw [lt_e]
  rcases ix_cases a (n := aNg w) (by omega) with ⟨x, hx, rfl⟩ | ha
  · rw [e_cGain_in hw hc hx, bnx_l, e_mGain_in hw hm hx, bnd_s, ite10, e_cR, show (-9 : Int64) = (-9 : Int32).toInt64 by decide, show (9 : Int64) = (9 : Int32).toInt64 by decide, e_isR]
    by_cases h5 : (-9 : Int32) ≤ b ∧ b ≤ 9
    · rw [if_pos h5, if_pos h5, bnx_l, bnd_s, ite10, if_neg (nI_in (by omega) (by omega)), if_neg (nI_in (by omega) (by omega)), lt_e, if_neg (nI_in (by omega) (by omega)), lt_e, lt_e, if_neg (nI_in (by omega) (by omega)), lt_e, nI_clamp (by omega), a4 x (by omega)]
      refine OP.in _ (σ' := sA σ 9 (upd (gA σ 9) x b)) (τ' := sA (sI τ 0 0) 29 (upd (gA (sI τ 0 0) 29) x b)) rfl rfl ⟨hw, h.2.1, AC_sA (by decide) hc, AM_sA (by decide) hm, ?_, ?_, ?_, ?_⟩ (by rw [gI_sA]; exact th_0 _ _)
      · exact h0.2.2.2.2.1
      · exact Strs_kp h0.2.2.2.2.2.1 (Kp.sA (I := n0) (L := n0) (J := n0) (A := fun q => q = 9) rfl Kp.rfl') (Kp.sA (I := n0) (L := n0) (J := n0) (A := fun q => q = 29) rfl Kp.rfl') (fun _ e => e.elim) (fun q e => by omega) (fun _ e => e.elim) (fun _ e => e.elim) (fun q e => by omega) (fun _ e => e.elim)
      · exact h0.2.2.2.2.2.2.1
      · refine ⟨a1, a2, a3, fun g hg => ?_, a5, a6, a7, a8⟩
        rw [gA_sA, if_pos rfl, gA_sA, if_pos rfl, upd_at, upd_at, a4 g hg]
    · rw [if_neg h5, if_neg h5, bnx_r, bnd_s, ite00, e_failM, bnd_s]
      exact OP.e2 rfl rfl (REL_fail h 0 2) (th_0 _ _)
  · rw [e_cGain_out hc ha, bnx_r, e_mGain_out hw hm ha, bnd_s, ite00, e_failM, bnd_s]
    exact OP.e1 rfl rfl (REL_fail h 0 1) (th_0 _ _)
theorem og_solve (e2 e3 : String) {w : AW} {σ τ : Sta} (h : REL w σ τ) (a : Int32) : OP w (f_X8_solve a σ) (f_X10_solve a τ) eIAE eISE e3 := by
  have hw := h.1
  have h1 := hw.1
  have h2 := hw.2.1
  have hc := h.2.2.1
  have h0 := REL_th h 0
  have hm := h0.2.2.2.1
  obtain ⟨kp, k1, k2, k3, k4, k5, k6⟩ := h0.2.2.2.2.2.1
  have hf : f_X10_solve_39 (sI τ 0 0) = some (0, sI (sI τ 0 0) 0 2) := rfl
  unfold f_X8_solve f_X10_solve
  rw [lt_e, e_cR, show (30 : Int64) = (30 : Int32).toInt64 by decide, show (1 : Int64) = (1 : Int32).toInt64 by decide, e_isR]
  by_cases h5 : (1 : Int32) ≤ a ∧ a ≤ 30
  · obtain ⟨st, hst, rfl⟩ := nI_of2 (M := 30) (n := 30) (by decide) (fun e => Int32.not_le.mpr e (Int32.le_trans (by decide) h5.1)) h5.2
    have hst1 : 1 ≤ st := by
      have := h5.1
      rw [nI_Lle (by omega) (by decide)] at this
      exact this
    rw [if_pos h5, if_pos h5, bnx_l, bnd_s, ite10]
    unfold f_X8_checkProgram f_X8_checkRoom
    rw [hc.1, hm.1]
    by_cases h6 : aNs w = 0
    · rw [if_pos (show nI (aNs w) = 0 by rw [h6]; rfl), bnx_r, if_pos (show nI (aNs w) = 0 by rw [h6]; rfl), hf]
      exact OP.e2 rfl rfl (REL_fail h 0 2) (th_0 _ _)
    · rw [if_neg (nI_ne0 (by omega) (by omega)), bnx_l, if_neg (nI_ne0 (by omega) (by omega)), k2, k3]
      by_cases h7 : kp = 12
      · rw [if_neg (by rw [nI_ltL (by omega) (by decide)]; omega), bnx_r, if_pos (by rw [h7]; rfl), hf]
        exact OP.e2 rfl rfl (REL_fail h 0 2) (th_0 _ _)
      · have hd := k5.1 kp (by omega)
        rw [if_pos (by rw [nI_ltL (by omega) (by decide)]; omega), bnx_l, k2, if_neg (show ¬ nI kp = 12 from fun e => h7 ((nI_eqL (by omega) (by decide)).mp e)), if_neg (nI_in (c := kp) (N := 13) (by omega) (by omega)), nI_clamp (by omega), if_neg (show ¬ 13 ≤ gP σ kp by omega), lt_e]
        obtain ⟨σ1, e1, e2, e3⟩ := e_solve32 (d := gP σ kp) (a := nI st) (kk := fun _ => none) 3 0 FU σ (by omega) (FU_lt (by omega)) (fun g hg => absurd hg (Nat.not_lt_zero _))
        have hK1 : Kp (fun q => q = 64 * (41 + 5 * gP σ kp) + 1) n0 (fun q => q = 41 + 5 * gP σ kp + 1) n0 σ (sI σ1 (64 * (41 + 5 * gP σ kp) + 1) (nI st)) := Kp.sI rfl (e2.mono (fun _ e => e.elim) (fun _ e => e) (fun _ e => e) (fun _ e => e))
        have hP1 : Perm (sI σ1 (64 * (41 + 5 * gP σ kp) + 1) (nI st)) := Perm_kp k5 hK1 (fun _ e => e.elim)
        have ed : gP (sI σ1 (64 * (41 + 5 * gP σ kp) + 1) (nI st)) kp = gP σ kp := hK1.2.2.2.2 kp
        have hc1 : AC w (sI σ1 (64 * (41 + 5 * gP σ kp) + 1) (nI st)) := AC_kp hK1 ⟨by omega, by omega, by omega⟩ ⟨by omega, by omega, by omega, by omega, by omega, by omega, by omega⟩ id hc
        have a4 := h0.2.2.2.2.2.2.2.2.2.2.1
        obtain ⟨σ2, τ2, f1, f2, f3, f4, f5, f6⟩ := mk_pair (i := kp) (st := st) (q2 := 29) hw (by omega) hc1 hm hP1 (by omega) hst1 hst (by rw [ed, gI_sI, if_pos rfl]) (by decide) (fun g hg => by
          rw [ed]
          show gA σ1 (41 + 5 * gP σ kp + 1) g = _
          rw [e3 g (by omega), e2.2.2.1 9 (by omega)]
          exact a4 g (by omega)) (fun j hj => by
          obtain ⟨st', T, W, B, P, s1, s2, s3, s4, s5⟩ := k6 j hj
          have h8 : gP σ j ≠ gP σ kp := fun e => by have := k5.2.1 j kp (by omega) (by omega) e; omega
          refine ⟨st', T, W, B, P, s1, s2, s3, ?_, s5⟩
          rw [hK1.2.2.2.2 j]
          exact StrC_kp s4 hK1 ⟨by omega, by omega, by omega, id, id⟩)
        rw [ed] at f1 f3
        rw [show f_X8_solve_32 FU (nI st) (gP σ kp) 0 σ = _ from e1, lt_e, f1, bnd_s, lt_e, f2, bnd_s, lt_e]
        have q1 : gI σ2 11 = nI kp := by
          rw [f3.1 11 (by unfold kIs; omega), hK1.1 11 (by omega)]; exact k2
        have q2 : gI τ2 47 = nI kp := by
          rw [f4.1.1 47 id]; exact k3
        refine OP.in (nI kp) (σ' := sI σ2 11 (nI (kp + 1))) (τ' := sI τ2 47 (nI (kp + 1))) ?_ ?_ ?_ ?_
        · rw [q1, nI_1, gI_sI, if_pos rfl, nI_pred]
        · rw [q2, nI_1, gI_sI, if_pos rfl, nI_pred]
        · have hKc : Kp (fun q => q = 11 ∨ q = 64 * (41 + 5 * gP σ kp) + 1 ∨ q = 64 * (41 + 5 * gP σ kp) + 5) n0 (fun q => q = 41 + 5 * gP σ kp + 1 ∨ q = 41 + 5 * gP σ kp + 2) (kJs (gP σ kp)) σ (sI σ2 11 (nI (kp + 1))) :=
            Kp.sI (Or.inl rfl) ((hK1.mono (fun _ e => Or.inr (Or.inl e)) (fun _ e => e) (fun _ e => Or.inl e) (fun _ e => e.elim)).trans (f3.mono (fun _ e => Or.inr (Or.inr e)) (fun _ e => e) (fun _ e => Or.inr e) (fun _ e => e)))
          have hKm : Kp (fun q => q = 47) n0 kAM kJM (sI τ 0 0) (sI τ2 47 (nI (kp + 1))) := Kp.sI rfl (f4.1.mono (fun _ e => e.elim) (fun _ e => e) (fun _ e => e) (fun _ e => e))
          refine REL_fr h0 hKc hKm (fun q e => by omega) (fun _ e => e.elim) (fun q e => by omega) (fun q e => by unfold kJs at e; omega) (fun q e => by omega) (fun _ e => e.elim) (fun q e => by unfold kAM at e; omega) (fun q e => by unfold kJM at e; omega) ?_
          refine ⟨kp + 1, by omega, by rw [gI_sI, if_pos rfl], by rw [gI_sI, if_pos rfl], fun _ => by omega, f5, fun i hi => ?_⟩
          obtain ⟨st', T, W, B, P, s1, s2, s3, s4, s5⟩ := f6 i hi
          refine ⟨st', T, W, B, P, s1, s2, s3, ?_, s5⟩
          exact StrC_kp s4 (Kp.sI (I := fun q => q = 11) (L := n0) (A := n0) (J := n0) rfl Kp.rfl') ⟨by omega, by omega, id, id, id⟩
        · rw [gI_sI, if_neg (by decide), f4.1.1 0 id]
          exact th_0 _ _
  · rw [if_neg h5, if_neg h5, bnx_r, bnd_s, ite00, e_failM, bnd_s]
    exact OP.e1 rfl rfl (REL_fail h 0 1) (th_0 _ _)
theorem og_drop (e2 e3 : String) {w : AW} {σ τ : Sta} (h : REL w σ τ) (a : Int32) : OP w (f_X8_drop a σ) (f_X10_drop a τ) eIOB e2 e3 := by
  have hw := h.1
  have h1 := hw.1
  have h2 := hw.2.1
  obtain ⟨kp, k1, k2, k3, k4, k5, k6⟩ := h.2.2.2.2.2.1
  rcases ix_cases a (n := kp) (by omega) with ⟨s, hs, rfl⟩ | ha
  · have hd := k5.1 s (by omega)
    obtain ⟨f', e1, e2⟩ := e_drop14 (dv := gP σ s) hs k1 (kp - 1 - s) s FU σ (gP σ) (by omega) (FU_lt (by omega)) k2 k5.1
    obtain ⟨τ', m1, m2, m3, m4, m5, m6, m7, m8, m9⟩ := e_dropM hs k1 k3
    have hx : f_X8_drop (nI s) σ = some (.inl (nI (kp - 1)), sI (shP σ f') 11 (nI (kp - 1))) := by
      unfold f_X8_drop
      rw [e_cStr_in k2 k1 hs, bnx_l, if_neg (nI_in (c := s) (N := 13) (by omega) (by omega)), nI_clamp (n := s) (by omega), if_neg (show ¬ 13 ≤ gP σ s by omega), lt_e]
      exact e1
    have hRx : RELx w (sI (shP σ f') 11 (nI (kp - 1))) τ' := by
      have h3 : RELx w (sI σ 11 (nI (kp - 1))) τ' := RELx_fr h (Kp.sI (I := fun q => q = 11) (L := n0) (A := n0) (J := n0) rfl Kp.rfl') m2 (fun q e => by omega) (fun _ e => e.elim) (fun _ e => e.elim) (fun _ e => e.elim) (fun q e => by omega) (fun _ e => e.elim) (fun q e => by unfold kAM at e; omega) (fun q e => by unfold kJM at e; omega)
      exact h3
    have hf : ∀ i, i < 13 → ∃ j, j < 13 ∧ f' i = gP σ j ∧ j = (if i = kp - 1 then s else if s ≤ i ∧ i < kp - 1 then i + 1 else i) := fun i hi => by
      rw [e2 i]
      by_cases h3 : i = kp - 1
      · rw [if_pos h3, if_pos h3]; exact ⟨s, by omega, rfl, rfl⟩
      · rw [if_neg h3, if_neg h3]
        by_cases h4 : s ≤ i ∧ i < kp - 1
        · rw [if_pos h4, if_pos h4]; exact ⟨i + 1, by omega, rfl, rfl⟩
        · rw [if_neg h4, if_neg h4]; exact ⟨i, hi, rfl, rfl⟩
    refine OP.in _ hx m1 (hRx.rel ⟨kp - 1, by omega, by rw [gI_sI, if_pos rfl], m4, fun h3 => k4 (by omega), ⟨fun i hi => ?_, fun i j hi hj e => ?_, k5.2.2⟩, fun i hi => ?_⟩) m3
    · obtain ⟨j, j1, j2, _⟩ := hf i hi
      show f' i < 13
      rw [j2]
      exact k5.1 j j1
    · obtain ⟨i', i1, i2, i3⟩ := hf i hi
      obtain ⟨j', j1, j2, j3⟩ := hf j hj
      have e' : f' i = f' j := e
      rw [i2, j2] at e'
      have h9 := k5.2.1 i' j' i1 j1 e'
      rw [i3, j3] at h9
      by_cases q1 : i = kp - 1
      · by_cases q2 : j = kp - 1
        · omega
        · rw [if_pos q1, if_neg q2] at h9
          by_cases q3 : s ≤ j ∧ j < kp - 1
          · rw [if_pos q3] at h9; omega
          · rw [if_neg q3] at h9; omega
      · by_cases q2 : j = kp - 1
        · rw [if_neg q1, if_pos q2] at h9
          by_cases q3 : s ≤ i ∧ i < kp - 1
          · rw [if_pos q3] at h9; omega
          · rw [if_neg q3] at h9; omega
        · rw [if_neg q1, if_neg q2] at h9
          by_cases q3 : s ≤ i ∧ i < kp - 1
          · by_cases q4 : s ≤ j ∧ j < kp - 1
            · rw [if_pos q3, if_pos q4] at h9; omega
            · rw [if_pos q3, if_neg q4] at h9; omega
          · by_cases q4 : s ≤ j ∧ j < kp - 1
            · rw [if_neg q3, if_pos q4] at h9; omega
            · rw [if_neg q3, if_neg q4] at h9; omega
    · have hK : ∀ st T W B P, StrC w (f' i) st T W B P σ → StrC w (f' i) st T W B P (sI (shP σ f') 11 (nI (kp - 1))) := fun st T W B P h3 => by
        unfold StrC at *
        rw [gI_sI, if_neg (by omega), gI_sI, if_neg (by omega)]
        exact h3
      have he : f' i = if s ≤ i then gP σ (i + 1) else gP σ i := by
        rw [e2 i, if_neg (by omega)]
        by_cases h4 : s ≤ i
        · rw [if_pos (by omega), if_pos h4]
        · rw [if_neg (by omega), if_neg h4]
      by_cases h4 : s ≤ i
      · rw [if_pos h4] at he
        obtain ⟨st, T, W, B, P, s1, s2, s3, s4, s5⟩ := k6 (i + 1) (by omega)
        refine ⟨st, T, W, B, P, s1, s2, s3, hK st T W B P (by rw [he]; exact s4), ?_, fun n t h5 h6 => ?_, fun n t h5 h6 => ?_, fun g hg => ?_, ?_⟩
        · rw [m5, if_pos (by omega)]; exact s5.1
        · rw [m8, if_pos (by omega), show 3100 * i + 100 * (n + 1) + t + 3100 = 3100 * (i + 1) + 100 * (n + 1) + t by omega]; exact s5.2.1 n t h5 h6
        · rw [m9, if_pos (by omega), show 3100 * i + 100 * n + t + 3100 = 3100 * (i + 1) + 100 * n + t by omega]; exact s5.2.2.1 n t h5 h6
        · rw [m7, if_pos (by omega), show 3 * i + g + 3 = 3 * (i + 1) + g by omega]; exact s5.2.2.2.1 g hg
        · rw [m6, if_pos (by omega)]; exact s5.2.2.2.2
      · rw [if_neg h4] at he
        obtain ⟨st, T, W, B, P, s1, s2, s3, s4, s5⟩ := k6 i (by omega)
        refine ⟨st, T, W, B, P, s1, s2, s3, hK st T W B P (by rw [he]; exact s4), ?_, fun n t h5 h6 => ?_, fun n t h5 h6 => ?_, fun g hg => ?_, ?_⟩
        · rw [m5, if_neg (by omega)]; exact s5.1
        · rw [m8, if_neg (by omega)]; exact s5.2.1 n t h5 h6
        · rw [m9, if_neg (by omega)]; exact s5.2.2.1 n t h5 h6
        · rw [m7, if_neg (by omega)]; exact s5.2.2.2.1 g hg
        · rw [m6, if_neg (by omega)]; exact s5.2.2.2.2
  · have h0 := REL_th h 0
    unfold f_X8_drop f_X10_drop
    rw [lt_e, e_cStr_out k2 ha, bnx_r, e_mStr_out (by rw [gI_sI, if_neg (by decide)]; exact k3) k1 ha, bnd_s, ite00, e_failM, bnd_s]
    exact OP.e1 rfl rfl (REL_fail h 0 1) (th_0 _ _)
theorem og_reach (e2 e3 : String) {w : AW} {σ τ : Sta} (h : REL w σ τ) (a b : Int32) : OP w (f_X8_reach a b σ) (f_X10_reach a b τ) eIAE eISE e3 := by
  have hw := h.1
  have h1 := hw.1
  have hc := h.2.2.1
  have h0 := REL_th h 0
  have hm := h0.2.2.2.1
  unfold f_X8_reach f_X10_reach
  rw [lt_e, e_cR, show (30 : Int64) = (30 : Int32).toInt64 by decide, show (0 : Int64) = (0 : Int32).toInt64 by decide, e_isR]
  by_cases h5 : (0 : Int32) ≤ a ∧ a ≤ 30
  · obtain ⟨st, hst, rfl⟩ := nI_of2 (M := 30) (n := 30) (by decide) (fun e => Int32.not_le.mpr e h5.1) h5.2
    rw [if_pos h5, if_pos h5, bnx_l, bnd_s, ite10]
    unfold f_X8_checkProgram
    rw [hc.1, hm.1]
    by_cases h6 : aNs w = 0
    · rw [if_pos (show nI (aNs w) = 0 by rw [h6]; rfl), bnx_r, if_pos (show nI (aNs w) = 0 by rw [h6]; rfl), e_failM, bnd_s]
      exact OP.e2 rfl rfl (REL_fail h 0 2) (th_0 _ _)
    · rw [if_neg (nI_ne0 (by omega) (by omega)), bnx_l, if_neg (nI_ne0 (by omega) (by omega))]
      obtain ⟨σ1, e1, e2, e3⟩ := e_startChances (T := fun _ _ => 0) hw hc
      obtain ⟨σ', g1, g2⟩ := e_ext6 (b := b) hw (by omega) hst st 0 FU σ1 (by omega) (FU_lt (by omega)) (AC_B e2 ⟨id, id, id⟩ hc) e3
      obtain ⟨τ1, f1, f2, f3⟩ := e_re38 (b := b) (st := st) hw (aNs w) 0 FU (sI τ 0 0) (by omega) (FU_lt (by omega)) hm (fun t ht => absurd ht (Nat.not_lt_zero _))
      obtain ⟨τ', k1, k2⟩ := e_re76 (b := b) hw (by omega) hst st 0 FU τ1 (by omega) (FU_lt (by omega)) (AM_B f2 hm) f3
      have hKc := e2.trans g2
      have hKm := f2.trans k2
      unfold f_X2_extremeChance
      rw [e1, bnd_s, show f_X2_extremeChance_6 FU (nI st) b 1 σ1 = _ from g1, bnd_s]
      refine OP.in _ rfl (f1.trans k1) (REL_fr h0 hKc hKm (fun _ e => e.elim) (fun _ e => e.elim) (fun _ e => e.elim) (fun q e => by unfold kB at e; omega) (fun _ e => e.elim) (fun _ e => e.elim) (fun _ e => e.elim) (fun q e => by unfold kBM at e; omega) (Strs_kp h0.2.2.2.2.2.1 hKc hKm (fun _ e => e.elim) (fun _ e => e.elim) (fun q e => by unfold kB at e; omega) (fun _ e => e.elim) (fun _ e => e.elim) (fun q e => by unfold kBM at e; omega))) ?_
      rw [hKm.1 0 id]
      exact th_0 _ _
  · rw [if_neg h5, if_neg h5, bnx_r, bnd_s, ite00, e_failM, bnd_s]
    exact OP.e1 rfl rfl (REL_fail h 0 1) (th_0 _ _)
theorem og_play (e2 e3 : String) {w : AW} {σ τ : Sta} (h : REL w σ τ) (a : Int32) : OP w (f_X8_play a σ) (f_X10_play a τ) eIOB e2 e3 := by
  have hw := h.1
  have hc := h.2.2.1
  have h0 := REL_th h 0
  have hm := h0.2.2.2.1
  obtain ⟨kp, k1, k2, k3, k4, k5, k6⟩ := h0.2.2.2.2.2.1
  unfold f_X8_play f_X10_play
  rw [lt_e]
  rcases ix_cases a (n := kp) (by omega) with ⟨i, hi, rfl⟩ | ha
  · have hd := k5.1 i (by omega)
    obtain ⟨e, σ', τ', p', g1, g2, g3, g4, g5, g6, g7⟩ := e_play hw (k4 (by omega)) hc hm (by omega) (k6 i hi) h0.2.2.2.2.2.2.2.2.2.1
    rw [e_cStr_in k2 k1 hi, bnx_l, e_mStr_in k3 k1 hi, bnd_s, ite10, if_neg (nI_in (c := i) (N := 13) (by omega) (by omega)), nI_clamp (n := i) (by omega), if_neg (show ¬ 13 ≤ gP σ i by omega), lt_e, g3, bnd_s, g4, bnd_s]
    exact OP.in _ rfl rfl (REL_pl h0 g5 g6 g2 g7) (by rw [g6.1 0 id]; exact th_0 _ _)
  · rw [e_cStr_out k2 ha, bnx_r, e_mStr_out k3 k1 ha, bnd_s, ite00, e_failM, bnd_s]
    exact OP.e1 rfl rfl (REL_fail h 0 1) (th_0 _ _)
theorem og_played (e2 e3 : String) {w : AW} {σ τ : Sta} (h : REL w σ τ) (a : Int32) : OP w (f_X8_played a σ) (f_X10_played a τ) eIOB e2 e3 := by
  obtain ⟨p, p1, p2, p3, p4⟩ := h.2.2.2.2.2.2.1
  unfold f_X8_played f_X10_played f_X10_played_18 f_X10_played_38 f_X8_played_32
  rcases ix_cases a (n := 4) (by omega) with ⟨i, hi, rfl⟩ | ha
  · rw [show (4 : Int32) = nI 4 from rfl, e_cI_in hi (by omega), bnx_l, show (3 : Int64) = (nI 4 - 1).toInt64 by decide, e_iI_in hi (by omega), bnd_s, ite10, lt_e, th_0, ite00, if_neg (nI_in (by omega) (by omega)), gJ_sI, nI_clamp (n := i) (by omega)]
    cases i with
    | zero =>
      rw [if_pos (show nI 0 = 0 from rfl), p2, p3, nI_l (by omega)]
      exact OP.in _ rfl rfl (REL_th h 0) (th_0 _ _)
    | succ j =>
      rw [if_neg (nI_ne0 (by omega) (by omega)), nI_pred, if_neg (nI_in (by omega) (by omega)), nI_clamp (by omega), show j + 1 = 1 + j by omega, p4 j (by omega)]
      exact OP.in _ rfl rfl (REL_th h 0) (th_0 _ _)
  · rw [show (4 : Int32) = nI 4 from rfl, e_cI_out ha, bnx_r, show (3 : Int64) = (nI 4 - 1).toInt64 by decide, e_iI_out ha (by omega), bnd_s, ite00, lt_e, th_0, ite10]
    exact OP.e1 rfl rfl (REL_th h 1) (th_0 _ _)
theorem og_average (e2 e3 : String) {w : AW} {σ τ : Sta} (h : REL w σ τ) (a b c : Int32) : OP w (f_X8_average a b c σ) (f_X10_average a b c τ) eIOB eIAE e3 := by
  have hw := h.1
  have h2 := hw.2.1
  have hc := h.2.2.1
  have hm := h.2.2.2.1
  obtain ⟨kp, k1, k2, k3, k4, k5, k6⟩ := h.2.2.2.2.2.1
  have hf : f_X10_average_17 a b c τ = some (0, sI τ 0 1) := by
    unfold f_X10_average_17 f_X10_average_38
    rw [lt_e, th_0, ite10]
  unfold f_X8_average f_X10_average
  rcases ix_cases a (n := kp) (by omega) with ⟨i, hi, rfl⟩ | ha
  · rw [e_cStr_in k2 k1 hi, bnx_l, e_mStr_in k3 k1 hi, bnd_s, ite10]
    rcases ix_cases b (n := aNg w) (by omega) with ⟨g, hg, rfl⟩ | hb
    · rw [e_cGain_in hw hc hg, bnx_l, e_mGain_in hw hm hg, bnd_s, ite10, e_cR, show (20 : Int64) = (20 : Int32).toInt64 by decide, show (1 : Int64) = (1 : Int32).toInt64 by decide, e_isR]
      unfold f_X10_average_38
      by_cases h5 : (1 : Int32) ≤ c ∧ c ≤ 20
      · obtain ⟨N, hN, rfl⟩ := nI_of2 (M := 20) (n := 20) (by decide) (fun e => Int32.not_le.mpr e (Int32.le_trans (by decide) h5.1)) h5.2
        have hN1 : 1 ≤ N := by
          have := h5.1
          rw [nI_Lle (by omega) (by decide)] at this
          exact this
        obtain ⟨v, σ', τ', g1, g2, g3, g4⟩ := e_average_l hw (k4 (by omega)) k1 hi hg hN hN1 N 0 FU FU σ (sI τ 0 0) 0 (by omega) (FU_lt (by omega)) (FU_lt (by omega)) (REL_th h 0) k2 (th_0 _ _)
        rw [if_pos h5, if_pos h5, bnx_l, bnd_s, ite10, lt_e, th_0, ite00]
        exact OP.in v g1 g2 g3 g4
      · rw [if_neg h5, if_neg h5, bnx_r, bnd_s, ite00, lt_e, th_0, if_neg (by decide)]
        exact OP.e2 rfl rfl (REL_th h 2) (th_0 _ _)
    · rw [e_cGain_out hc hb, bnx_r, e_mGain_out hw hm hb, bnd_s, ite00, hf]
      exact OP.e1 rfl rfl (REL_th h 1) (th_0 _ _)
  · rw [e_cStr_out k2 ha, bnx_r, e_mStr_out k3 k1 ha, bnd_s, ite00, hf]
    exact OP.e1 rfl rfl (REL_th h 1) (th_0 _ _)
theorem og_feed (e2 e3 : String) {w : AW} {σ τ : Sta} (h : REL w σ τ) (a b c d e : Int32) : OP w (f_X8_feed a b c d e σ) (f_X10_feed a b c d e τ) eISE e2 e3 := by
  have h0 := REL_th h 0
  obtain ⟨tl, t0, hT⟩ := Tape_TP.mp h0.2.2.2.2.1
  unfold f_X8_feed f_X10_feed
  rw [lt_e, hT.1, hT.2.1, nI_addL]
  by_cases h1 : tl ≤ 1480
  · obtain ⟨σ1, τ1, a1, b1, h1', c1, d1⟩ := e_append (v := a) (by omega) hT
    obtain ⟨σ2, τ2, a2, b2, h2, c2, d2⟩ := e_append (v := b) (by omega) h1'
    obtain ⟨σ3, τ3, a3, b3, h3, c3, d3⟩ := e_append (v := c) (by omega) h2
    obtain ⟨σ4, τ4, a4, b4, h4, c4, d4⟩ := e_append (v := d) (by omega) h3
    obtain ⟨σ5, τ5, a5, b5, h5, c5, d5⟩ := e_append (v := e) (by omega) h4
    have hm := (((d1.trans d2).trans d3).trans d4).trans d5
    rw [if_pos (by rw [nI_leL (by omega) (by decide)]; omega), a1, bnd_s, a2, bnd_s, a3, bnd_s, a4, bnd_s, a5, bnd_s, if_pos (by rw [nI_leL (by omega) (by decide)]; omega), b1, bnd_s, b2, bnd_s, b3, bnd_s, b4, bnd_s, b5, bnd_s, h5.1, h5.2.1]
    exact OP.in _ rfl rfl (REL_tape h0 ((((c1.trans c2).trans c3).trans c4).trans c5) hm (Tape_TP.mpr ⟨_, by omega, h5⟩)) (by rw [hm.1 0 (by unfold k3; omega)]; exact th_0 _ _)
  · rw [if_neg (by rw [nI_leL (by omega) (by decide)]; omega), if_neg (by rw [nI_leL (by omega) (by decide)]; omega), e_failM, bnd_s]
    exact OP.e1 rfl rfl (REL_fail h 0 1) (th_0 _ _)
theorem og_trim (e2 e3 : String) {w : AW} {σ τ : Sta} (h : REL w σ τ) (a : Int32) : OP w (f_X8_trim a σ) (f_X10_trim a τ) eIAE e2 e3 := by
  have h0 := REL_th h 0
  obtain ⟨tl, t0, hT⟩ := Tape_TP.mp h0.2.2.2.2.1
  unfold f_X8_trim f_X10_trim
  rw [lt_e, hT.1, hT.2.1, e_cR, show (0 : Int64) = (0 : Int32).toInt64 by decide, e_isR]
  by_cases h5 : (0 : Int32) ≤ a ∧ a ≤ nI tl
  · obtain ⟨p, hp, rfl⟩ := nI_of2 (M := nI tl) (n := tl) (nI_toInt (by omega)) (fun e => Int32.not_le.mpr e h5.1) h5.2
    rw [if_pos h5, if_pos h5, bnx_l, lt_e, bnd_s, ite10, lt_e]
    exact OP.in _ rfl rfl (REL_tape h0 (Kp.sI rfl Kp.rfl') (Kp.sI rfl Kp.rfl') (Tape_TP.mpr ⟨p, by omega, by rw [gI_sI, if_pos rfl], by rw [gI_sI, if_pos rfl], fun j hj => hT.2.2 j (by omega)⟩)) (by rw [gI_sI, if_neg (by decide)]; exact th_0 _ _)
  · rw [if_neg h5, if_neg h5, bnx_r, bnd_s, ite00, e_failM, bnd_s]
    exact OP.e1 rfl rfl (REL_fail h 0 1) (th_0 _ _)
theorem og_test (e2 e3 : String) {w : AW} {σ τ : Sta} (h : REL w σ τ) (a : Int32) : OP w (f_X8_test a σ) (f_X10_test a τ) eIOB e2 e3 := by
  have hw := h.1
  have h1 := hw.1
  have hc := h.2.2.1
  have h0 := REL_th h 0
  have hm := h0.2.2.2.1
  have hnv6 : aNv w ≤ 6 := hw.2.2.1
  unfold f_X8_test f_X10_test
  rw [lt_e]
  rcases ix_cases a (n := aNs w) (by omega) with ⟨s, hs, rfl⟩ | ha
  · rw [e_cState_in hw hc hs, bnx_l, e_mState_in hw hm hs, bnd_s, ite10]
    obtain ⟨tl, t0, hT⟩ := Tape_TP.mp h0.2.2.2.2.1
    obtain ⟨r1, r2, r3, r4, r5, r6, ⟨sz, r7, r8⟩, r9⟩ := h0.2.2.2.2.2.2.2
    obtain ⟨σ1, τ1, m, c, a1, a2, a3, a4, a5⟩ := e_read t0 (TB_of hT) r9
    rw [hT.1, a1, bnd_s, lt_e, a2, bnd_s, lt_e, lt_e, lt_e]
    have b26 : gI τ1 26 = nI sz := by rw [a5.1 26 (by unfold kt4; omega)]; exact r8
    have hT2 : TOK m c (sI σ1 1 0) (sL (sI τ1 35 (-1)) 36 0) := a3
    have kc1 : Kp tcI tcL tcA tcJ σ (sI σ1 1 0) := Kp.sI (by unfold tcI; omega) (KtC_t a4)
    have km1 : Kp tmI tmL tmA tmJ τ (sL (sI τ1 35 (-1)) 36 0) := Kp.sL rfl (Kp.sI (by unfold tmI; omega) (Kp.trans (Kp.sI (by unfold tmI; omega) Kp.rfl') (KtM_t a5)))
    have n192 : gI (sI σ1 1 0) 192 = nI (aNv w) := (a4.1 192 (by unfold kt67; omega)).trans hc.2.2.1
    have n10 : gI (sL (sI τ1 35 (-1)) 36 0) 10 = nI (aNv w) := (a5.1 10 (by unfold kt4; omega)).trans hm.2.2.1
    have nJ : ∀ v, v < aNv w → gJ (sI σ1 1 0) 19 v = gJ (sL (sI τ1 35 (-1)) 36 0) 7 v := fun v hv => by
      show gJ σ1 19 v = gJ τ1 7 v
      rw [a4.2.2.2.1 19 (by unfold kt13; omega), a5.2.2.2.1 7 (by unfold kt5; omega)]
      exact r6 v hv
    rw [show gI (sL (sI τ1 35 (-1)) 36 0) 26 = nI sz from b26, show FU = 999999997 + 1 + 1 + 1 from rfl, f_X10_test_43, if_neg (show ¬ (2 : Int32) ≤ 0 by decide), if_neg (show ¬ (0 : Int32) = 1 by decide)]
    rcases l_form hT2 ⟨_, hnv6, n192⟩ with ⟨σ3, τ3, t', b1, b2, b3, b4, b5, b6, b7, b8⟩ | ⟨σ3, τ3, b1, b2, b3, b4, b8⟩
    · obtain ⟨hT3, hk3⟩ := TOK_l hT2 b3 b4
      have m192 : gI σ3 192 = nI (aNv w) := (b3.1 192 (by unfold pI; omega)).trans n192
      have m10 : gI τ3 10 = nI (aNv w) := (b4.1 10 (by unfold pmI; omega)).trans n10
      have mJ : ∀ v, v < aNv w → gJ σ3 19 v = gJ τ3 7 v := fun v hv => by
        rw [b3.2.2.2.1 19 (by unfold eJ; omega), b4.2.2.2.1 7 (by unfold fJ; omega)]
        exact nJ v hv
      rw [b1, bnd_s, if_pos b2, b8, show (0 : Int32) + 1 = 1 by decide, f_X10_test_43, if_neg (show ¬ (2 : Int32) ≤ 1 by decide), if_pos (show (1 : Int32) = 1 from rfl)]
      rcases l_mean hT3 hnv6 m192 m10 mJ (b5.trans b26) r7 (by rw [hk3]; exact b6) (by rw [hk3]; exact b7) with ⟨σ4, τ4, d1, d2, d3, d4, d5, d6, d7⟩ | ⟨σ4, τ4, d1, d2, d4, d5, d7⟩
      · have hv32 : ∀ v, v < aNv w → gA (sL (sI σ4 12 (gI σ4 263)) 13 0) 32 (s * 6 + v) = gA τ4 21 (6 * s + v) := fun v hv => by
          show gA σ4 32 (s * 6 + v) = _
          rw [d4.2.2.1 32 (by unfold xeA; omega), b3.2.2.1 32 (by unfold xeA; omega), d5.2.2.1 21 (by unfold fA; omega), b4.2.2.1 21 (by unfold fA; omega)]
          show gA σ1 32 (s * 6 + v) = gA τ1 21 (6 * s + v)
          rw [a4.2.2.1 32 (by unfold kt11; omega), a5.2.2.1 21 (by unfold kt3; omega), hc.2.2.2.2.2 s v hs hv, hm.2.2.2.2.2 s v hs hv]
        obtain ⟨r, σ5, τ5, e1, e2, e3, e4⟩ := e_reckon (σ := sL (sI σ4 12 (gI σ4 263)) 13 0) (by omega) hnv6 (show ER (sL (sI σ4 12 (gI σ4 263)) 13 0) τ4 (aNv w) 0 (nI sz) from by
          obtain ⟨e', s', b, l, f1, f2, f3, f4, f5, f6, f7, f8, f9, f10, f11, f12⟩ := d6
          exact ⟨e', s', b, l, f1, f2, f3, f4, f5, f6, f7, f8, XC_low (σ := σ4) l b _ (Nat.le_refl _) (fun j _ => ⟨rfl, rfl⟩) f9, f10, f11, f12⟩) hv32
        rw [d1, bnd_s, d7, show (1 : Int32) + 1 = 2 by decide, f_X10_test_43, if_pos (show (2 : Int32) ≤ 2 by decide), e2, bnd_s, lt_e]
        unfold f_X8_test_51 f_X8_test_100 f_X10_test_130
        rw [lt_e, lt_e, if_pos (show gI (sL (sI σ4 12 (gI σ4 263)) 13 0) 262 = 0 from d2), nI_mulL, e1, bnd_s, lt_e, lt_e, lt_e]
        have kc : Kp tcI tcL tcA tcJ σ (sL σ5 13 r) := Kp.sL rfl (Kp.trans (Kp.sL rfl (Kp.sI (by unfold tcI; omega) (Kp.trans kc1 (Kp.trans (Kpl_t b3) (Kpl_t d4))))) (k18_t e3))
        have km : Kp tmI tmL tmA tmJ τ (sI (sI (sL τ5 36 r) 26 (nI sz)) 3 0) := Kp.sI (by unfold tmI; omega) (Kp.sI (by unfold tmI; omega) (Kp.sL rfl (Kp.trans km1 (Kp.trans (Kml_t b4) (Kp.trans (Kml_t d5) (k27_t e4))))))
        have x262 : gI (sL σ5 13 r) 262 = 0 := (e3.1 262 id).trans d2
        rw [x262]
        refine OP.in 0 rfl rfl (REL_tst h kc km ?_ rfl ?_ ?_ ⟨sz, r7, rfl⟩) ?_
        · show gI σ5 1 = 0
          rw [e3.1 1 id]
          show gI σ4 1 = 0
          rw [d4.1 1 (by unfold pI; omega), b3.1 1 (by unfold pI; omega)]
          rfl
        · show gI σ5 12 = gI τ5 35
          rw [e3.1 12 id, e4.1 35 id]
          show gI σ4 263 = gI τ4 35
          rw [d3, d5.1 35 (by unfold pmI; omega), b4.1 35 (by unfold pmI; omega)]
          rfl
        · show gL (sL σ5 13 r) 13 = gL (sL τ5 36 r) 36
          rfl
        · show gI τ5 0 = 0
          rw [e4.1 0 id, d5.1 0 (by unfold pmI; omega), b4.1 0 (by unfold pmI; omega)]
          show gI τ1 0 = 0
          rw [a5.1 0 (by unfold kt4; omega)]
          rfl
      · rw [d1, bnd_s, d7]
        unfold f_X8_test_51 f_X8_test_100 f_X10_test_130
        rw [lt_e, lt_e, if_neg (show ¬ gI (sL (sI σ4 12 (gI σ4 263)) 13 0) 262 = 0 from fun e => by have e' : gI σ4 262 = 0 := e; rw [d2] at e'; exact absurd e' (by decide)), lt_e, lt_e, show gI (sL (sI σ4 12 (gI σ4 263)) 13 0) 262 = 2 from d2]
        have kc : Kp tcI tcL tcA tcJ σ (sL (sI σ4 12 (gI σ4 263)) 13 0) := Kp.sL rfl (Kp.sI (by unfold tcI; omega) (Kp.trans kc1 (Kp.trans (Kpl_t b3) (Kpl_t d4))))
        have km : Kp tmI tmL tmA tmJ τ (sI (sI (sI τ4 35 (gI σ4 263)) 26 (nI sz)) 3 0) := Kp.sI (by unfold tmI; omega) (Kp.sI (by unfold tmI; omega) (Kp.sI (by unfold tmI; omega) (Kp.trans km1 (Kp.trans (Kml_t b4) (Kml_t d5)))))
        refine OP.in 2 rfl rfl (REL_tst h kc km ?_ rfl rfl ?_ ⟨sz, r7, rfl⟩) ?_
        · show gI σ4 1 = 0
          rw [d4.1 1 (by unfold pI; omega), b3.1 1 (by unfold pI; omega)]
          rfl
        · show (0 : Int64) = gL τ4 36
          rw [d5.2.1 36 id, b4.2.1 36 id]
          rfl
        · show gI τ4 0 = 0
          rw [d5.1 0 (by unfold pmI; omega), b4.1 0 (by unfold pmI; omega)]
          show gI τ1 0 = 0
          rw [a5.1 0 (by unfold kt4; omega)]
          rfl
    · rw [b1, bnd_s, if_neg (show ¬ gI σ3 262 = 0 from fun e => by rw [b2] at e; exact absurd e (by decide)), b8]
      unfold f_X8_test_51 f_X8_test_100 f_X10_test_130
      rw [lt_e, lt_e, if_neg (show ¬ gI (sL (sI σ3 12 (gI σ3 263)) 13 0) 262 = 0 from fun e => by have e' : gI σ3 262 = 0 := e; rw [b2] at e'; exact absurd e' (by decide)), lt_e, lt_e, show gI (sL (sI σ3 12 (gI σ3 263)) 13 0) 262 = 1 from b2]
      have kc : Kp tcI tcL tcA tcJ σ (sL (sI σ3 12 (gI σ3 263)) 13 0) := Kp.sL rfl (Kp.sI (by unfold tcI; omega) (Kp.trans kc1 (Kpl_t b3)))
      have km : Kp tmI tmL tmA tmJ τ (sI (sI (sI τ3 35 (gI σ3 263)) 26 (nI sz)) 3 0) := Kp.sI (by unfold tmI; omega) (Kp.sI (by unfold tmI; omega) (Kp.sI (by unfold tmI; omega) (Kp.trans km1 (Kml_t b4))))
      refine OP.in 1 rfl rfl (REL_tst h kc km ?_ rfl rfl ?_ ⟨sz, r7, rfl⟩) ?_
      · show gI σ3 1 = 0
        rw [b3.1 1 (by unfold pI; omega)]
        rfl
      · show (0 : Int64) = gL τ3 36
        rw [b4.2.1 36 id]
        rfl
      · show gI τ3 0 = 0
        rw [b4.1 0 (by unfold pmI; omega)]
        show gI τ1 0 = 0
        rw [a5.1 0 (by unfold kt4; omega)]
        rfl
  · have hf : ∀ σ : Sta, f_X10_fail 1 σ = some (0, sI σ 0 1) := fun _ => rfl
    rw [e_cState_out hc ha, bnx_r, e_mState_out hw hm ha, bnd_s, ite00, hf, bnd_s]
    exact OP.e1 rfl rfl (REL_fail h 0 1) (th_0 _ _)
theorem op_1 {α : Type} {w : AW} {x : Option ((α ⊕ String) × Sta)} {y : Option (α × Sta)} {e1 : String} (h : ∀ e2 e3, OP w x y e1 e2 e3) : ∃ o σ' r τ', x = some (o, σ') ∧ y = some (r, τ') ∧ REL w σ' τ' ∧ ((o = .inl r ∧ gI τ' 0 = 0) ∨ (o = .inr e1 ∧ gI τ' 0 = 1)) := by
  obtain ⟨o, s1, r, t1, a1, a2, a3, a4⟩ := h "a" "a"
  obtain ⟨o', s2, r', t2, b1, b2, b3, b4⟩ := h "b" "b"
  rw [a1] at b1
  rw [a2] at b2
  obtain ⟨rfl, rfl⟩ := Prod.mk.inj (Option.some.inj b1)
  obtain ⟨rfl, rfl⟩ := Prod.mk.inj (Option.some.inj b2)
  refine ⟨o, s1, r, t1, a1, a2, a3, ?_⟩
  rcases a4 with ⟨c1, c2⟩ | ⟨c1, c2⟩ | ⟨c1, c2⟩ | ⟨c1, c2⟩
  · exact Or.inl ⟨c1, c2⟩
  · exact Or.inr ⟨c1, c2⟩
  all_goals
    rcases b4 with ⟨d1, d2⟩ | ⟨d1, d2⟩ | ⟨d1, d2⟩ | ⟨d1, d2⟩ <;> first | exact absurd (c2.symm.trans d2) (by decide) | (rw [c1] at d1; exact absurd (Sum.inr.inj d1) (by decide))
theorem op_2 {α : Type} {w : AW} {x : Option ((α ⊕ String) × Sta)} {y : Option (α × Sta)} {e1 e2 : String} (h : ∀ e3, OP w x y e1 e2 e3) : ∃ o σ' r τ', x = some (o, σ') ∧ y = some (r, τ') ∧ REL w σ' τ' ∧ ((o = .inl r ∧ gI τ' 0 = 0) ∨ (o = .inr e1 ∧ gI τ' 0 = 1) ∨ (o = .inr e2 ∧ gI τ' 0 = 2)) := by
  obtain ⟨o, s1, r, t1, a1, a2, a3, a4⟩ := h "a"
  obtain ⟨o', s2, r', t2, b1, b2, b3, b4⟩ := h "b"
  rw [a1] at b1
  rw [a2] at b2
  obtain ⟨rfl, rfl⟩ := Prod.mk.inj (Option.some.inj b1)
  obtain ⟨rfl, rfl⟩ := Prod.mk.inj (Option.some.inj b2)
  refine ⟨o, s1, r, t1, a1, a2, a3, ?_⟩
  rcases a4 with ⟨c1, c2⟩ | ⟨c1, c2⟩ | ⟨c1, c2⟩ | ⟨c1, c2⟩
  · exact Or.inl ⟨c1, c2⟩
  · exact Or.inr (Or.inl ⟨c1, c2⟩)
  · exact Or.inr (Or.inr ⟨c1, c2⟩)
  · rcases b4 with ⟨d1, d2⟩ | ⟨d1, d2⟩ | ⟨d1, d2⟩ | ⟨d1, d2⟩ <;> first | exact absurd (c2.symm.trans d2) (by decide) | (rw [c1] at d1; exact absurd (Sum.inr.inj d1) (by decide))
theorem op_3 {α : Type} {w : AW} {x : Option ((α ⊕ String) × Sta)} {y : Option (α × Sta)} {e1 e2 e3 : String} (h : OP w x y e1 e2 e3) : ∃ o σ' r τ', x = some (o, σ') ∧ y = some (r, τ') ∧ REL w σ' τ' ∧ ((o = .inl r ∧ gI τ' 0 = 0) ∨ (o = .inr e1 ∧ gI τ' 0 = 1) ∨ (o = .inr e2 ∧ gI τ' 0 = 2) ∨ (o = .inr e3 ∧ gI τ' 0 = 3)) := h
