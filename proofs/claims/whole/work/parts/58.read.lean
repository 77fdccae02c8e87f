/-! Calls that read. -/
theorem ite10 {α : Type} (A B : α) : (if (1 : Int32) = 0 then A else B) = B := if_neg (by decide)
theorem ite00 {α : Type} (A B : α) : (if (0 : Int32) = 0 then A else B) = A := if_pos rfl
def OP {α : Type} (w : AW) (x : Option ((α ⊕ String) × Sta)) (y : Option (α × Sta)) (e1 e2 e3 : String) : Prop := ∃ o σ' r τ', x = some (o, σ') ∧ y = some (r, τ') ∧ REL w σ' τ' ∧ Out o r (gI τ' 0) e1 e2 e3
def OV {α : Type} (w : AW) (x : Option (α × Sta)) (y : Option (α × Sta)) : Prop := ∃ r σ' τ', x = some (r, σ') ∧ y = some (r, τ') ∧ REL w σ' τ'
theorem OP.in {α : Type} {w : AW} {x : Option ((α ⊕ String) × Sta)} {y : Option (α × Sta)} {e1 e2 e3 : String} {σ' τ' : Sta} (r : α) (hx : x = some (.inl r, σ')) (hy : y = some (r, τ')) (h : REL w σ' τ') (h0 : gI τ' 0 = 0) : OP w x y e1 e2 e3 := ⟨_, _, _, _, hx, hy, h, Or.inl ⟨rfl, h0⟩⟩
theorem OP.e1 {α : Type} {w : AW} {x : Option ((α ⊕ String) × Sta)} {y : Option (α × Sta)} {e1 e2 e3 : String} {σ' τ' : Sta} {r : α} (hx : x = some (.inr e1, σ')) (hy : y = some (r, τ')) (h : REL w σ' τ') (h0 : gI τ' 0 = 1) : OP w x y e1 e2 e3 := ⟨_, _, _, _, hx, hy, h, Or.inr (Or.inl ⟨rfl, h0⟩)⟩
theorem OP.e2 {α : Type} {w : AW} {x : Option ((α ⊕ String) × Sta)} {y : Option (α × Sta)} {e1 e2 e3 : String} {σ' τ' : Sta} {r : α} (hx : x = some (.inr e2, σ')) (hy : y = some (r, τ')) (h : REL w σ' τ') (h0 : gI τ' 0 = 2) : OP w x y e1 e2 e3 := ⟨_, _, _, _, hx, hy, h, Or.inr (Or.inr (Or.inl ⟨rfl, h0⟩))⟩
theorem OP.e3 {α : Type} {w : AW} {x : Option ((α ⊕ String) × Sta)} {y : Option (α × Sta)} {e1 e2 e3 : String} {σ' τ' : Sta} {r : α} (hx : x = some (.inr e3, σ')) (hy : y = some (r, τ')) (h : REL w σ' τ') (h0 : gI τ' 0 = 3) : OP w x y e1 e2 e3 := ⟨_, _, _, _, hx, hy, h, Or.inr (Or.inr (Or.inr ⟨rfl, h0⟩))⟩
theorem REL_fail {w : AW} {σ τ : Sta} (h : REL w σ τ) (v u : Int32) : REL w σ (sI (sI τ 0 v) 0 u) := REL_th (REL_th h v) u
theorem op_value {w : AW} {σ τ : Sta} (h : REL w σ τ) (a b : Int32) : OP w (f_X8_value a b σ) (f_X10_value a b τ) eIOB "" "" := by
  have hw := h.1
  have h1 := hw.1
  have h2 := hw.2.2.1
  have hc := h.2.2.1
  have h0 := REL_th h 0
  have hm := h0.2.2.2.1
  have hf : f_X10_value_43 (sI τ 0 0) = some (0, sI (sI τ 0 0) 0 1) := rfl
  unfold f_X8_value f_X10_value
  rw [lt_e]
  rcases ix_cases a (n := aNs w) (by omega) with ⟨s, hs, rfl⟩ | ha
  · rw [e_cState_in hw hc hs, bnx_l, e_mState_in hw hm hs, bnd_s, ite10, hc.2.2.1, hm.2.2.1]
    rcases ix_cases b (n := aNv w) (by omega) with ⟨v, hv, rfl⟩ | hb
    · rw [e_cI_in hv (by omega), bnx_l, nI_mulL, nI_add, e_entry (by omega) (by omega), bnd_s, e_iI_in hv (by omega), bnd_s, ite10, nI_Lmul, nI_add, if_neg (nI_in (by omega) (by omega)), nI_clamp (by omega), hc.2.2.2.2.2 s v hs hv, hm.2.2.2.2.2 s v hs hv]
      exact OP.in _ rfl rfl h0 (th_0 _ _)
    · rw [e_cI_out hb, bnx_r, e_iI_out hb (by omega), bnd_s, ite00, hf]
      exact OP.e1 rfl rfl (REL_fail h 0 1) (th_0 _ _)
  · rw [e_cState_out hc ha, bnx_r, e_mState_out hw hm ha, bnd_s, ite00, hf]
    exact OP.e1 rfl rfl (REL_fail h 0 1) (th_0 _ _)
theorem e_told {w : AW} {τ : Sta} (hw : AWok w) (h : AM w τ) {s : Nat} (hs : s < aNs w) : f_X10_choicesTold (nI s) τ = some (if aGl w s = true then -1 else nI (aCh w s), τ) := by
  have h1 := hw.1
  unfold f_X10_choicesTold f_X10_choicesTold_19
  rw [if_neg (nI_in (by omega) (by omega)), if_neg (nI_in (by omega) (by omega)), nI_clamp (by omega)]
  by_cases h5 : aGl w s = true
  · rw [if_neg (fun e => (AM_goal h hs).mp e h5), if_pos h5]
  · rw [if_pos ((AM_goal h hs).mpr h5), if_neg h5, (h.2.2.2.1 s hs).1]
theorem op_choices {w : AW} {σ τ : Sta} (h : REL w σ τ) (a : Int32) : OP w (f_X8_choices a σ) (f_X10_choices a τ) eIOB "" "" := by
  have hw := h.1
  have h1 := hw.1
  have hc := h.2.2.1
  have h0 := REL_th h 0
  have hm := h0.2.2.2.1
  unfold f_X8_choices f_X10_choices
  rw [lt_e]
  rcases ix_cases a (n := aNs w) (by omega) with ⟨s, hs, rfl⟩ | ha
  · rw [e_cState_in hw hc hs, bnx_l, e_mState_in hw hm hs, bnd_s, ite10, if_neg (nI_in (by omega) (by omega)), nI_clamp (by omega), e_told hw hm hs, bnd_s, hc.2.2.2.1 s hs]
    exact OP.in _ rfl rfl h0 (th_0 _ _)
  · rw [e_cState_out hc ha, bnx_r, e_mState_out hw hm ha, bnd_s, ite00, e_failM, bnd_s]
    exact OP.e1 rfl rfl (REL_fail h 0 1) (th_0 _ _)
theorem op_choice {w : AW} {σ τ : Sta} (h : REL w σ τ) (a b c : Int32) : OP w (f_X8_choice a b c σ) (f_X10_choice a b c τ) eIOB "" "" := by
  have hw := h.1
  have h1 := hw.1
  have hc := h.2.2.1
  have h0 := REL_th h 0
  have hm := h0.2.2.2.1
  have hf : f_X10_choice_24 (sI τ 0 0) = some (0, sI (sI τ 0 0) 0 1) := rfl
  unfold f_X8_choice f_X10_choice
  rw [lt_e]
  rcases ix_cases a (n := aNs w) (by omega) with ⟨s, hs, rfl⟩ | ha
  · have h3 := (hw.2.2.2.1 s hs).1
    rcases ix_cases b (n := aCh w s) (by omega) with ⟨v, hv, rfl⟩ | hb
    · have h4 := ok_s hw hs hv
      rw [e_cChoice_in hw hc hs hv, bnx_l, e_mChoice_in hw hm hs hv, bnd_s, ite10]
      rcases ix_cases c (n := 2) (by omega) with ⟨u, hu, rfl⟩ | hcc
      · rw [show (2 : Int32) = nI 2 from rfl, e_cI_in hu (by omega), bnx_l, show (1 : Int64) = (nI 2 - 1).toInt64 by decide, e_iI_in hu (by omega), bnd_s, ite10, lt_e, nI_Lmul, nI_add, e_branchesOf hw hc hs hv, e_commandOf hw hc hs hv, if_neg (nI_in (by omega) (by omega)), nI_clamp (by omega), e_manyBranches hw hm hs hv, bnd_s, bnd_s, bnd_s, (hm.2.2.2.2.1 s v hs hv).1]
        by_cases h5 : nI u = 0
        · rw [if_pos h5, if_pos h5]
          exact OP.in _ rfl rfl h0 (th_0 _ _)
        · rw [if_neg h5, if_neg h5]
          exact OP.in _ rfl rfl h0 (th_0 _ _)
      · rw [show (2 : Int32) = nI 2 from rfl, e_cI_out hcc, bnx_r, show (1 : Int64) = (nI 2 - 1).toInt64 by decide, e_iI_out hcc (by omega), bnd_s, ite00, hf]
        exact OP.e1 rfl rfl (REL_fail h 0 1) (th_0 _ _)
    · rw [e_cChoice_out hw hc hs hb, bnx_r, e_mChoice_out hw hm hs hb, bnd_s, ite00, hf]
      exact OP.e1 rfl rfl (REL_fail h 0 1) (th_0 _ _)
  · rw [e_cChoice_outs hc ha, bnx_r, e_mChoice_outs hw hm ha, bnd_s, ite00, hf]
    exact OP.e1 rfl rfl (REL_fail h 0 1) (th_0 _ _)
theorem op_gain {w : AW} {σ τ : Sta} (h : REL w σ τ) (a b c : Int32) : OP w (f_X8_gain a b c σ) (f_X10_gain_ a b c τ) eIOB "" "" := by
  have hw := h.1
  have h1 := hw.1
  have h2 := hw.2.1
  have hc := h.2.2.1
  have hm := h.2.2.2.1
  have hf : f_X10_gain__30 a b c τ = some (0, sI τ 0 1) := by
    unfold f_X10_gain__30 f_X10_gain__31 f_X10_gain__60
    rw [lt_e, th_0, if_neg (by decide)]
  unfold f_X8_gain f_X10_gain_
  rcases ix_cases a (n := aNs w) (by omega) with ⟨s, hs, rfl⟩ | ha
  · have h3 := (hw.2.2.2.1 s hs).1
    rcases ix_cases b (n := aCh w s) (by omega) with ⟨v, hv, rfl⟩ | hb
    · have h4 := ok_s hw hs hv
      rw [e_cChoice_in hw hc hs hv, bnx_l, e_mChoice_in hw hm hs hv, bnd_s, ite10, hm.2.1]
      rcases ix_cases c (n := aNg w) (by omega) with ⟨g, hg, rfl⟩ | hcc
      · rw [e_cGain_in hw hc hg, bnx_l, e_gainOf hw hc hs hv hg, bnd_s, e_iI_in hg (by omega), bnd_s, ite10]
        unfold f_X10_gain__31 f_X10_gain__60
        rw [lt_e, th_0, if_pos rfl, nI_Lmul, nI_add, nI_Lmul, nI_add, if_neg (nI_in (by omega) (by omega)), nI_clamp (by omega), gJ_sI, (hm.2.2.2.2.1 s v hs hv).2.2.2 g hg]
        exact OP.in _ rfl rfl (REL_th h 0) (th_0 _ _)
      · rw [e_cGain_out hc hcc, bnx_r, e_iI_out hcc (by omega), bnd_s, ite00, hf]
        exact OP.e1 rfl rfl (REL_th h 1) (th_0 _ _)
    · rw [e_cChoice_out hw hc hs hb, bnx_r, e_mChoice_out hw hm hs hb, bnd_s, ite00, hf]
      exact OP.e1 rfl rfl (REL_th h 1) (th_0 _ _)
  · rw [e_cChoice_outs hc ha, bnx_r, e_mChoice_outs hw hm ha, bnd_s, ite00, hf]
    exact OP.e1 rfl rfl (REL_th h 1) (th_0 _ _)
theorem op_branch {w : AW} {σ τ : Sta} (h : REL w σ τ) (a b c z : Int32) : OP w (f_X8_branch a b c z σ) (f_X10_branch_ a b c z τ) eIOB "" "" := by
  have hw := h.1
  have h1 := hw.1
  have hc := h.2.2.1
  have h0 := REL_th h 0
  have hm := h0.2.2.2.1
  unfold f_X8_branch f_X10_branch_
  rw [lt_e]
  rcases ix_cases a (n := aNs w) (by omega) with ⟨s, hs, rfl⟩ | ha
  · have h3 := (hw.2.2.2.1 s hs).1
    rcases ix_cases b (n := aCh w s) (by omega) with ⟨v, hv, rfl⟩ | hb
    · have h4 := ok_s hw hs hv
      rw [e_cChoice_in hw hc hs hv, bnx_l, e_mChoice_in hw hm hs hv, bnd_s, ite10, lt_e, nI_Lmul, nI_add, e_branchesOf hw hc hs hv, bnd_s, e_manyBranches hw hm hs hv, bnd_s]
      rcases ix_cases c (n := aNb w (aCm w s v)) (by omega) with ⟨u, hu, rfl⟩ | hcc
      · rw [e_cI_in hu (by omega), bnx_l, e_iI_in hu (by omega), bnd_s, ite10, e_targetOf hw hc hs hv hu, e_chanceOf hw hc hs hv hu, nI_Lmul, nI_add, if_neg (nI_in (by omega) (by omega)), nI_clamp (by omega), e_chanceOfM hw hm hs hv hu, bnd_s, bnd_s, bnd_s, ((hm.2.2.2.2.1 s v hs hv).2.2.1 u hu).2]
        by_cases h5 : z = 0
        · rw [if_pos h5, if_pos h5]
          exact OP.in _ rfl rfl h0 (th_0 _ _)
        · rw [if_neg h5, if_neg h5]
          exact OP.in _ rfl rfl h0 (th_0 _ _)
      · rw [e_cI_out hcc, bnx_r, e_iI_out hcc (by omega), bnd_s, ite00, e_failM, bnd_s]
        exact OP.e1 rfl rfl (REL_fail h 0 1) (th_0 _ _)
    · rw [e_cChoice_out hw hc hs hb, bnx_r, e_mChoice_out hw hm hs hb, bnd_s, ite00, e_failM, bnd_s]
      exact OP.e1 rfl rfl (REL_fail h 0 1) (th_0 _ _)
  · rw [e_cChoice_outs hc ha, bnx_r, e_mChoice_outs hw hm ha, bnd_s, ite00, e_failM, bnd_s]
    exact OP.e1 rfl rfl (REL_fail h 0 1) (th_0 _ _)
/-! strategies -/
theorem op_takes {w : AW} {σ τ : Sta} (h : REL w σ τ) (a b c : Int32) : OP w (f_X8_takes a b c σ) (f_X10_takes a b c τ) eIOB eIAE "" := by
  have hw := h.1
  have h1 := hw.1
  have hc := h.2.2.1
  have h0 := REL_th h 0
  have hm := h0.2.2.2.1
  obtain ⟨kp, k1, k2, k3, k4, k5, k6⟩ := h0.2.2.2.2.2.1
  have hf : f_X10_takes_21 (sI τ 0 0) = some (0, sI (sI τ 0 0) 0 1) := rfl
  unfold f_X8_takes f_X10_takes
  rw [lt_e]
  rcases ix_cases a (n := kp) (by omega) with ⟨i, hi, rfl⟩ | ha
  · obtain ⟨st, T, W, B, P, s1, s2, s3, s4, s5⟩ := k6 i hi
    have hd := k5.1 i (by omega)
    rw [e_cStr_in k2 k1 hi, bnx_l, e_mStr_in k3 k1 hi, bnd_s, ite10]
    rcases ix_cases b (n := aNs w) (by omega) with ⟨s, hs, rfl⟩ | hb
    · rw [e_cState_in hw hc hs, bnx_l, e_mState_in hw hm hs, bnd_s, ite10, if_neg (nI_in (N := 13) (by omega) (by omega)), if_neg (nI_in (N := 22) (by omega) (by omega)), nI_clamp (by omega), if_neg (by omega), lt_e, s4.1, s5.1, e_cR, show (1 : Int64) = (1 : Int32).toInt64 by decide, e_isR]
      by_cases h5 : (1 : Int32) ≤ c ∧ c ≤ nI st
      · obtain ⟨j, hj, rfl⟩ := nI_of2 (M := nI st) (n := st) (nI_toInt (by omega)) (fun e => Int32.not_le.mpr e (Int32.le_trans (by decide) h5.1)) h5.2
        have h6 : 1 ≤ j := by
          have := h5.1
          rw [nI_Lle (by omega) (by decide)] at this
          exact this
        obtain ⟨j', rfl⟩ : ∃ j', j = j' + 1 := ⟨j - 1, by omega⟩
        rw [if_pos h5, if_pos h5, bnx_l, e_takenIn (by omega) (by omega), bnd_s, bnd_s, ite10, nI_Lmul, nI_Lmul, nI_add, nI_add, if_neg (nI_in (by omega) (by omega)), nI_clamp (by omega), s4.2.1 j' s (by omega) hs, s5.2.1 j' s (by omega) hs]
        exact OP.in _ rfl rfl h0 (th_0 _ _)
      · rw [if_neg h5, if_neg h5, bnx_r, bnd_s, ite00, e_failM, bnd_s]
        exact OP.e2 rfl rfl (REL_fail h 0 2) (th_0 _ _)
    · rw [e_cState_out hc hb, bnx_r, e_mState_out hw hm hb, bnd_s, ite00, hf]
      exact OP.e1 rfl rfl (REL_fail h 0 1) (th_0 _ _)
  · rw [e_cStr_out k2 ha, bnx_r, e_mStr_out k3 k1 ha, bnd_s, ite00, hf]
    exact OP.e1 rfl rfl (REL_fail h 0 1) (th_0 _ _)
theorem op_worth {w : AW} {σ τ : Sta} (h : REL w σ τ) (a b c : Int32) : OP w (f_X8_worth a b c σ) (f_X10_worth a b c τ) eIOB eIAE "" := by
  have hw := h.1
  have h1 := hw.1
  have hc := h.2.2.1
  have hm := h.2.2.2.1
  obtain ⟨kp, k1, k2, k3, k4, k5, k6⟩ := h.2.2.2.2.2.1
  have hf : f_X10_worth_17 a b c τ = some (0, sI τ 0 1) := by
    unfold f_X10_worth_17 f_X10_worth_42 f_X10_worth_73
    rw [lt_e, th_0, if_neg (by decide)]
  unfold f_X8_worth f_X10_worth
  rcases ix_cases a (n := kp) (by omega) with ⟨i, hi, rfl⟩ | ha
  · obtain ⟨st, T, W, B, P, s1, s2, s3, s4, s5⟩ := k6 i hi
    have hd := k5.1 i (by omega)
    rw [e_cStr_in k2 k1 hi, bnx_l, e_mStr_in k3 k1 hi, bnd_s, ite10]
    rcases ix_cases b (n := aNs w) (by omega) with ⟨s, hs, rfl⟩ | hb
    · rw [e_cState_in hw hc hs, bnx_l, e_mState_in hw hm hs, bnd_s, ite10, if_neg (nI_in (N := 13) (by omega) (by omega)), if_neg (nI_in (N := 22) (by omega) (by omega)), nI_clamp (by omega), if_neg (by omega), lt_e, s4.1, s5.1, e_cR, show (0 : Int64) = (0 : Int32).toInt64 by decide, e_isR]
      by_cases h5 : (0 : Int32) ≤ c ∧ c ≤ nI st
      · obtain ⟨j, hj, rfl⟩ := nI_of2 (M := nI st) (n := st) (nI_toInt (by omega)) (fun e => Int32.not_le.mpr e h5.1) h5.2
        rw [if_pos h5, if_pos h5, bnx_l, nI_mulL, nI_add, e_entryL (by omega) (by omega), bnd_s, bnd_s, ite10]
        unfold f_X10_worth_42 f_X10_worth_73
        rw [lt_e, th_0, if_pos rfl, nI_Lmul, nI_Lmul, nI_add, nI_add, if_neg (nI_in (by omega) (by omega)), nI_clamp (by omega), gJ_sI, s4.2.2.1 j s (by omega) hs, s5.2.2.1 j s (by omega) hs]
        exact OP.in _ rfl rfl (REL_th h 0) (th_0 _ _)
      · rw [if_neg h5, if_neg h5, bnx_r, bnd_s, ite00]
        unfold f_X10_worth_42 f_X10_worth_73
        rw [lt_e, th_0, if_neg (by decide)]
        exact OP.e2 rfl rfl (REL_th h 2) (th_0 _ _)
    · rw [e_cState_out hc hb, bnx_r, e_mState_out hw hm hb, bnd_s, ite00, hf]
      exact OP.e1 rfl rfl (REL_th h 1) (th_0 _ _)
  · rw [e_cStr_out k2 ha, bnx_r, e_mStr_out k3 k1 ha, bnd_s, ite00, hf]
    exact OP.e1 rfl rfl (REL_th h 1) (th_0 _ _)
theorem op_brings {w : AW} {σ τ : Sta} (h : REL w σ τ) (a b : Int32) : OP w (f_X8_brings a b σ) (f_X10_brings a b τ) eIOB "" "" := by
  have hw := h.1
  have h2 := hw.2.1
  have hc := h.2.2.1
  have hm := h.2.2.2.1
  obtain ⟨kp, k1, k2, k3, k4, k5, k6⟩ := h.2.2.2.2.2.1
  have hf : f_X10_brings_21 a b τ = some (0, sI τ 0 1) := by
    unfold f_X10_brings_21 f_X10_brings_22 f_X10_brings_46
    rw [lt_e, th_0, if_neg (by decide)]
  unfold f_X8_brings f_X10_brings
  rcases ix_cases a (n := kp) (by omega) with ⟨i, hi, rfl⟩ | ha
  · obtain ⟨st, T, W, B, P, s1, s2, s3, s4, s5⟩ := k6 i hi
    have hd := k5.1 i (by omega)
    rw [e_cStr_in k2 k1 hi, bnx_l, e_mStr_in k3 k1 hi, bnd_s, ite10]
    rcases ix_cases b (n := aNg w) (by omega) with ⟨g, hg, rfl⟩ | hb
    · rw [e_cGain_in hw hc hg, bnx_l, e_mGain_in hw hm hg, bnd_s, ite10, if_neg (nI_in (by omega) (by omega)), nI_clamp (by omega), if_neg (by omega), lt_e, if_neg (nI_in (by omega) (by omega)), nI_clamp (by omega), s4.2.2.2.1 g hg]
      unfold f_X10_brings_22 f_X10_brings_46
      rw [lt_e, th_0, if_pos rfl, nI_Lmul, nI_add, if_neg (nI_in (by omega) (by omega)), nI_clamp (by omega), gJ_sI, s5.2.2.2.1 g hg]
      exact OP.in _ rfl rfl (REL_th h 0) (th_0 _ _)
    · rw [e_cGain_out hc hb, bnx_r, e_mGain_out hw hm hb, bnd_s, ite00, hf]
      exact OP.e1 rfl rfl (REL_th h 1) (th_0 _ _)
  · rw [e_cStr_out k2 ha, bnx_r, e_mStr_out k3 k1 ha, bnd_s, ite00, hf]
    exact OP.e1 rfl rfl (REL_th h 1) (th_0 _ _)
theorem op_chance {w : AW} {σ τ : Sta} (h : REL w σ τ) (a : Int32) : OP w (f_X8_chance a σ) (f_X10_chance a τ) eIOB "" "" := by
  have h0 := REL_th h 0
  obtain ⟨kp, k1, k2, k3, k4, k5, k6⟩ := h0.2.2.2.2.2.1
  unfold f_X8_chance f_X10_chance
  rw [lt_e]
  rcases ix_cases a (n := kp) (by omega) with ⟨i, hi, rfl⟩ | ha
  · obtain ⟨st, T, W, B, P, s1, s2, s3, s4, s5⟩ := k6 i hi
    have hd := k5.1 i (by omega)
    rw [e_cStr_in k2 k1 hi, bnx_l, e_mStr_in k3 k1 hi, bnd_s, ite10, if_neg (nI_in (N := 13) (by omega) (by omega)), if_neg (nI_in (N := 22) (by omega) (by omega)), nI_clamp (by omega), if_neg (by omega), lt_e, s4.2.2.2.2, s5.2.2.2.2]
    exact OP.in _ rfl rfl h0 (th_0 _ _)
  · rw [e_cStr_out k2 ha, bnx_r, e_mStr_out k3 k1 ha, bnd_s, ite00, e_failM, bnd_s]
    exact OP.e1 rfl rfl (REL_fail h 0 1) (th_0 _ _)
theorem op_errorAt {w : AW} {σ τ : Sta} (h : REL w σ τ) : OV w (f_X8_errorAt σ) (f_X10_errorAt τ) := by
  have h0 := REL_th h 0
  refine ⟨gI σ 12, σ, sI τ 0 0, rfl, ?_, h0⟩
  unfold f_X10_errorAt
  rw [lt_e, h0.2.2.2.2.2.2.2.1]
theorem op_result {w : AW} {σ τ : Sta} (h : REL w σ τ) : OV w (f_X8_result σ) (f_X10_result τ) := by
  have h0 := REL_th h 0
  refine ⟨gL σ 13, σ, sI τ 0 0, rfl, ?_, h0⟩
  unfold f_X10_result
  rw [lt_e, h0.2.2.2.2.2.2.2.2.1]
theorem op_count {w : AW} {σ τ : Sta} (h : REL w σ τ) (a : Int32) : OP w (f_X8_count a σ) (f_X10_count a τ) eIOB "" "" := by
  have h0 := REL_th h 0
  have hc := h0.2.2.1
  have hm := h0.2.2.2.1
  obtain ⟨kp, k1, k2, k3, k4, k5, k6⟩ := h0.2.2.2.2.2.1
  obtain ⟨tl, t1, t2, t3, t4⟩ := h0.2.2.2.2.1
  obtain ⟨nc, n1, n2, n3⟩ := h0.2.2.2.2.2.2.2.2.2.2.2.1
  unfold f_X10_count
  rw [lt_e]
  rcases ix_cases a (n := 6) (by omega) with ⟨i, hi, rfl⟩ | ha
  · rw [show (5 : Int64) = (nI 6 - 1).toInt64 by decide, e_iI_in hi (by omega), bnd_s, ite10]
    match i, hi with
    | 0, _ => exact OP.in (gI σ 192) rfl (by rw [hc.2.2.1, ← hm.2.2.1]; rfl) h0 (th_0 _ _)
    | 1, _ => exact OP.in (gI σ 197) rfl (by rw [hc.2.1, ← hm.2.1]; rfl) h0 (th_0 _ _)
    | 2, _ => exact OP.in (gI σ 202) rfl (by rw [n2, ← n3]; rfl) h0 (th_0 _ _)
    | 3, _ => exact OP.in (gI σ 322) rfl (by rw [hc.1, ← hm.1]; rfl) h0 (th_0 _ _)
    | 4, _ => exact OP.in (gI σ 11) rfl (by rw [k2, ← k3]; rfl) h0 (th_0 _ _)
    | 5, _ => exact OP.in (gI σ 1) rfl (by rw [t2, ← t3]; rfl) h0 (th_0 _ _)
    | n + 6, h6 => exact absurd h6 (by omega)
  · have hne : ∀ k : Nat, k < 6 → ¬ a = nI k := fun k hk e => by
      rw [e] at ha
      rcases ha with ha | ha
      · exact nI_pos (by omega) ha
      · exact nI_ge hk (by omega) ha
    have hx : f_X8_count a σ = some (.inr eIOB, σ) := by
      unfold f_X8_count
      rw [if_neg (show ¬ a = (0 : Int32) from hne 0 (by omega)), if_neg (show ¬ a = (1 : Int32) from hne 1 (by omega)), if_neg (show ¬ a = (2 : Int32) from hne 2 (by omega)), if_neg (show ¬ a = (3 : Int32) from hne 3 (by omega)), if_neg (show ¬ a = (4 : Int32) from hne 4 (by omega)), if_neg (show ¬ a = (5 : Int32) from hne 5 (by omega))]
    rw [show (5 : Int64) = (nI 6 - 1).toInt64 by decide, e_iI_out ha (by omega), bnd_s, ite00, e_failM, bnd_s]
    exact OP.e1 hx rfl (REL_fail h 0 1) (th_0 _ _)
