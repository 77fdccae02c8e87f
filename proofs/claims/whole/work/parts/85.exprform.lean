/-! Expressions: both sides find the same form, or the same error. -/
section FE
variable {K : Nat → Nat} {m c L d t : Nat} {σ τ : Sta}
theorem c_indexOf (q0 n0 : Nat) (hn0 : n0 < 2 ^ 31) (v : Int64) (σ : Sta) : ∀ (r k n s : Nat), k + r = n0 → r < n → s ≤ n0 → ∃ x, f_X4_indexOf_3 q0 n0 n (nI s) v (nI k) σ = some (x, σ)
  | _, _, 0, _, _, hn, _ => absurd hn (Nat.not_lt_zero _)
  | r, k, n + 1, s, h, hn, hs => by
    rw [f_X4_indexOf_3]
    unfold f_X4_indexOf_34
    by_cases q : s ≤ k
    · exact ⟨_, by rw [if_pos (nI_le q (by omega))]⟩
    · rw [if_neg (nI_ge (by omega) (by omega)), if_neg (show ¬ Int32.ofNat n0 ≤ nI k from nI_ge (b := n0) (by omega) (by omega)), if_neg (nI_in (by omega) (by omega))]
      by_cases q2 : lg_cmp (gJ σ q0 ((nI k).toNatClampNeg)) v = 0
      · exact ⟨_, by rw [if_pos q2]⟩
      · obtain ⟨x, hx⟩ := c_indexOf q0 n0 hn0 v σ (r - 1) (k + 1) n s (by omega) (by omega) hs
        exact ⟨x, by rw [if_neg q2, lt_e, nI_1, hx]⟩
theorem c_varN (h : SF σ) (v : Int64) : ∃ x, f_X4_variableNamed v σ = some (x, σ) := by
  obtain ⟨_, _, n, h1, h2⟩ := h
  obtain ⟨x, hx⟩ := c_indexOf 19 6 (by decide) v σ 6 0 FU n rfl (FU_lt (by decide)) h1
  refine ⟨x, ?_⟩
  unfold f_X4_variableNamed f_X4_indexOf
  rw [h2, show f_X4_indexOf_3 19 6 FU (nI n) v 0 σ = some (x, σ) from hx, bnd_s]
theorem f_factor {n n' : Nat} (hd : d ≤ 8) (hn : 0 < n)
    (HF : d < 8 → ∀ t σ τ, BX K m c L t (d + 1) σ τ → SF σ → gI τ 30 = 0 → RES K m c L n 6 (d + 1) t σ τ ((fr_X1R n).2.1 (nI (d + 1)) σ) ((fr_X10R n').2.2.2.2.2 τ))
    (HB : ∀ t σ τ, BX K m c L t d σ τ → SF σ → gI τ 30 = 0 → RES K m c L n 7 d t σ τ ((fr_X1R n).2.2 (nI 1) (nI d) σ) (mB1 (fr_X10R n').1 τ) ∧ RES K m c L n 8 d t σ τ ((fr_X1R n).2.2 (nI 2) (nI d) σ) (mB2 (fr_X10R n').1 τ))
    (hB : BX K m c L t d σ τ) (hS : SF σ) (h30 : gI τ 30 = 0) : RES K m c L (n + 1) 6 d t σ τ ((fr_X1R (n + 1)).2.1 (nI d) σ) ((fr_X10R (n' + 1)).2.2.2.2.2 τ) := by
  have hm := hB.1.1
  have htm := hB.2.2.1
  have GXf : ∀ t', (t < L ∧ (((K t = 201 ∨ K t = 200) ∧ t' = t + 1) ∨ ((K t = 107 ∨ K t = 13) ∧ d < 8 ∧ GX K L n 6 (d + 1) (t + 1) t') ∨ (K t = 100 ∧ GX K L n 7 d t t') ∨ (K t = 16 ∧ GX K L n 7 d (t + 1) t') ∨ ((K t = 14 ∨ K t = 15) ∧ GX K L n 8 d (t + 1) t'))) → GX K L (n + 1) 6 d t t' := fun t' h => h
  have hf0 : Kg τ (tkM τ L t) := Kg_take Kp.rfl'
  have fl : ∀ τ1, (fr_X10R (n' + 1)).2.2.2.2.2 τ = some (.inr (1, gA σ 12 t), τ1) → Kg τ τ1 → (fr_X1R (n + 1)).2.1 (nI d) σ = some ((), erC σ 1 t) → RES K m c L (n + 1) 6 d t σ τ ((fr_X1R (n + 1)).2.1 (nI d) σ) ((fr_X10R (n' + 1)).2.2.2.2.2 τ) := fun τ1 h1 h2 h3 => Or.inr ⟨_, τ1, _, h3, h1, SF_er hS _ _, Ke_er _ _ _, h2, Or.inl ⟨rfl, rfl⟩⟩
  by_cases q0 : K t ≠ 201 ∧ K t ≠ 200 ∧ K t ≠ 107 ∧ K t ≠ 13 ∧ K t ≠ 100 ∧ K t ≠ 16 ∧ K t ≠ 14 ∧ K t ≠ 15
  · exact fl τ (mf_no n' hB q0) Kp.rfl' (cf_no n hB (Or.inr q0))
  by_cases ht : t < L
  · have hB1 : K t < 202 → BX K m c L (t + 1) d (sI σ 260 (nI (t + 1))) (tkM τ L t) := fun e => BX_take hB (BX_m hB e) ht
    have h31 := (Kg_30 hf0).trans h30
    by_cases q1 : K t = 201
    · obtain ⟨σ1, a1, a2, a3, a4, a5, a6⟩ := c_add hS 274 (gJ τ 5 t)
      have hB2 := BX_take (BX_add hB a3 a4 a5 a6) (BX_m hB (by omega)) ht
      refine Or.inl ⟨_, _, t + 1, ?_, ?_, SF_at a2 (nI (t + 1)), Kp.trans a3 (Ke_at _ _), hf0, by omega, hB2, GXf _ ⟨ht, Or.inl ⟨Or.inl q1, rfl⟩⟩⟩
      · rw [cf_num n hB q1 ht, a1, bnd_s, a4, hB.2.2.2.2.2.2.1, nI_1]
      · rw [mf_num n' hB q1, emit0 h30, bnd_s, m_take hB, if_pos ht, bnw_l]
    by_cases q2 : K t = 200
    · obtain ⟨x, hx⟩ := c_varN hS (gJ τ 5 t)
      obtain ⟨σ1, a1, a2, a3, a4, a5, a6⟩ := c_add hS 273 x.toInt64
      have hB2 := BX_take (BX_add hB a3 a4 a5 a6) (BX_m hB (by omega)) ht
      have h143 : ∀ s0, f_X1_readFactor_143 (fr_X1R n).1 (fr_X1R n).2.1 (fr_X1R n).2.2 x s0 σ = some ((), sI σ1 260 (nI (t + 1))) := fun s0 => by
        unfold f_X1_readFactor_143 f_X1_readFactor_275 f_X1_demand f_X1_demand_17
        rw [if_pos (hB.2.2.2.2.2.2.2.2.2.2.2.1.trans h30), bnd_s, a1, bnd_s, lt_e, a4, hB.2.2.2.2.2.2.1, nI_1]
      refine Or.inl ⟨_, _, t + 1, ?_, ?_, SF_at a2 (nI (t + 1)), Kp.trans a3 (Ke_at _ _), hf0, by omega, hB2, GXf _ ⟨ht, Or.inl ⟨Or.inr q2, rfl⟩⟩⟩
      · rw [cf_name n hB q2 ht, hx, bnd_s, h143, h143]
        by_cases q : x < 0
        · rw [if_pos q]
        · rw [if_neg q]
      · rw [mf_name n' hB q2]
        unfold f_X10_variableHere f_X10_variableHere_31 f_X10_variableHere_43 f_X10_must f_X10_must_21
        rw [if_pos h30, if_neg (by decide), hB.2.2.2.2.2.2.2.1, if_neg (nI_in (by omega) (by omega)), if_pos h30, bnw_l, bnw_l, emit0 h30, bnd_s, m_take hB, if_pos ht, bnw_l]
    by_cases q3 : K t = 107 ∨ K t = 13
    · by_cases q8 : d < 8
      · have hBd := BX_dep (d + 1) hB
        have hBt := BX_take hBd (BX_m hB (by omega)) ht
        have hf1 : Kg τ (tkM (sI τ 31 (nI (d + 1))) L t) := Kg_take (Kp.sI (by unfold g0I; omega) Kp.rfl')
        have hC := cf_un n hB hd q3 ht
        rw [if_pos q8] at hC
        have hM := mf_un n' hB q3
        rw [m_deep hB hd, if_pos q8, bnw_l, m_take hBd, if_pos ht, bnw_l] at hM
        rcases HF q8 (t + 1) _ _ hBt (SF_at hS _) ((Kg_30 hf1).trans h30) with ⟨σ2, τ2, t2, a1, a2, a3, a4, a5, a6, a7, a8⟩ | ⟨σ2, τ2, p, a1, a2, a3, a4, a5, a6⟩
        · have h32 := (Kg_30 a5).trans ((Kg_30 hf1).trans h30)
          obtain ⟨σ3, b1, b2, b3, b4, b5, b6⟩ := c_add a3 (if K t = 107 then 280 else 269) 0
          have e31 : gI τ2 31 - 1 = nI d := by rw [a7.2.2.2.2.2.2.2.2.2.2.1, nI_pred]
          have hB3 := BX_dep d (BX_add a7 b3 b4 b5 b6)
          refine Or.inl ⟨σ3, sI τ2 31 (nI d), t2, ?_, ?_, b2, Kp.trans (Ke_at _ _) (Kp.trans a4 b3), Kp.trans hf1 (Kp.trans a5 (Kp.sI (by unfold g0I; omega) Kp.rfl')), by omega, hB3, GXf _ ⟨ht, Or.inr (Or.inl ⟨q3, q8, a8⟩)⟩⟩
          · rw [hC, a1, bnd_s, b1, bnd_s]
          · rw [hM, a2, bnw_l, lt_e, e31, emit0 (show gI (sI τ2 31 (nI d)) 30 = 0 from h32), bnd_s]
        · have hD : gI σ2 262 = 1 ∧ gI σ2 263 = p := a6.resolve_right (fun e => absurd e.1 (by decide))
          obtain ⟨σ3, b1, b2, b3, b4, b5, b6⟩ := c_add a3 (if K t = 107 then 280 else 269) 0
          refine Or.inr ⟨σ3, τ2, p, ?_, ?_, b2, Kp.trans (Ke_at _ _) (Kp.trans a4 b3), Kp.trans hf1 a5, Or.inl ⟨by rw [b5]; exact hD.1, by rw [b6]; exact hD.2⟩⟩
          · rw [hC, a1, bnd_s, b1, bnd_s]
          · rw [hM, a2, bnw_r]
      · refine fl τ ?_ Kp.rfl' ?_
        · rw [mf_un n' hB q3, m_deep hB hd, if_neg q8, bnw_r]
        · rw [cf_un n hB hd q3 ht, if_neg q8]
    by_cases q4 : K t = 100
    · rcases (HB t σ τ hB hS h30).1 with ⟨σ2, τ2, t2, a1, a2, a3, a4, a5, a6, a7, a8⟩ | ⟨σ2, τ2, p, a1, a2, a3, a4, a5, a6⟩
      · exact Or.inl ⟨σ2, τ2, t2, by rw [cf_br n hB q4 ht, a1, bnd_s], by rw [mf_br n' hB q4, a2, bnw_l], a3, a4, a5, a6, a7, GXf _ ⟨ht, Or.inr (Or.inr (Or.inl ⟨q4, a8⟩))⟩⟩
      · exact Or.inr ⟨σ2, τ2, p, by rw [cf_br n hB q4 ht, a1, bnd_s], by rw [mf_br n' hB q4, a2, bnw_r], a3, a4, a5, DD_mono a6 (fun e => absurd e (by decide))⟩
    by_cases q5 : K t = 16
    · rcases (HB (t + 1) _ _ (hB1 (by omega)) (SF_at hS _) h31).1 with ⟨σ2, τ2, t2, a1, a2, a3, a4, a5, a6, a7, a8⟩ | ⟨σ2, τ2, p, a1, a2, a3, a4, a5, a6⟩
      · obtain ⟨σ3, b1, b2, b3, b4, b5, b6⟩ := c_add a3 272 0
        exact Or.inl ⟨σ3, τ2, t2, by rw [cf_abs n hB q5 ht, a1, bnd_s, b1, bnd_s], by rw [mf_abs n' hB q5, m_take hB, if_pos ht, bnw_l, a2, bnw_l, emit0 ((Kg_30 a5).trans h31), bnd_s], b2, Kp.trans (Ke_at _ _) (Kp.trans a4 b3), Kp.trans hf0 a5, by omega, BX_add a7 b3 b4 b5 b6, GXf _ ⟨ht, Or.inr (Or.inr (Or.inr (Or.inl ⟨q5, a8⟩)))⟩⟩
      · obtain ⟨σ3, b1, b2, b3, b4, b5, b6⟩ := c_add a3 272 0
        exact Or.inr ⟨σ3, τ2, p, by rw [cf_abs n hB q5 ht, a1, bnd_s, b1, bnd_s], by rw [mf_abs n' hB q5, m_take hB, if_pos ht, bnw_l, a2, bnw_r], b2, Kp.trans (Ke_at _ _) (Kp.trans a4 b3), Kp.trans hf0 a5, DD_add (DD_mono a6 (fun e => absurd e (by decide))) b3 b4 b5 b6⟩
    have q6 : K t = 14 ∨ K t = 15 := by omega
    rcases (HB (t + 1) _ _ (hB1 (by omega)) (SF_at hS _) h31).2 with ⟨σ2, τ2, t2, a1, a2, a3, a4, a5, a6, a7, a8⟩ | ⟨σ2, τ2, p, a1, a2, a3, a4, a5, a6⟩
    · obtain ⟨σ3, b1, b2, b3, b4, b5, b6⟩ := c_add a3 (nI (kC (K t))) 0
      exact Or.inl ⟨σ3, τ2, t2, by rw [cf_mm n hB q6 ht, a1, bnd_s, b1, bnd_s], by rw [mf_mm n' hB q6, m_take hB, if_pos ht, bnw_l, a2, bnw_l, emit0 ((Kg_30 a5).trans h31), bnd_s], b2, Kp.trans (Ke_at _ _) (Kp.trans a4 b3), Kp.trans hf0 a5, by omega, BX_add a7 b3 b4 b5 b6, GXf _ ⟨ht, Or.inr (Or.inr (Or.inr (Or.inr ⟨q6, a8⟩)))⟩⟩
    · obtain ⟨σ3, b1, b2, b3, b4, b5, b6⟩ := c_add a3 (nI (kC (K t))) 0
      exact Or.inr ⟨σ3, τ2, p, by rw [cf_mm n hB q6 ht, a1, bnd_s, b1, bnd_s], by rw [mf_mm n' hB q6, m_take hB, if_pos ht, bnw_l, a2, bnw_r], b2, Kp.trans (Ke_at _ _) (Kp.trans a4 b3), Kp.trans hf0 a5, DD_add (DD_mono a6 (fun e => absurd e (by decide))) b3 b4 b5 b6⟩
  · have hCl := cf_no n hB (Or.inl ht)
    have tkn : f_X10_take τ = some (.inr (1, gA σ 12 t), τ) := by rw [m_take hB, if_neg ht]
    by_cases q1 : K t = 201
    · exact fl τ (by rw [mf_num n' hB q1, emit0 h30, bnd_s, tkn, bnw_r]) Kp.rfl' hCl
    by_cases q2 : K t = 200
    · refine fl τ ?_ Kp.rfl' hCl
      rw [mf_name n' hB q2]
      unfold f_X10_variableHere f_X10_variableHere_31 f_X10_variableHere_43 f_X10_must f_X10_must_21
      rw [if_pos h30, if_neg (by decide), hB.2.2.2.2.2.2.2.1, if_neg (nI_in (by omega) (by omega)), if_pos h30, bnw_l, bnw_l, emit0 h30, bnd_s, tkn, bnw_r]
    by_cases q3 : K t = 107 ∨ K t = 13
    · by_cases q8 : d < 8
      · refine fl (sI τ 31 (nI (d + 1))) ?_ (Kp.sI (by unfold g0I; omega) Kp.rfl') hCl
        rw [mf_un n' hB q3, m_deep hB hd, if_pos q8, bnw_l, m_take (BX_dep (d + 1) hB), if_neg ht, bnw_r]
      · refine fl τ ?_ Kp.rfl' hCl
        rw [mf_un n' hB q3, m_deep hB hd, if_neg q8, bnw_r]
    by_cases q4 : K t = 100
    · rcases f_open hB hd with ⟨o1, o2, o3⟩ | ⟨o1, τ1, o2, o3⟩
      · exact absurd o2 ht
      · refine fl τ1 ?_ o3 hCl
        rw [mf_br n' hB q4]
        unfold mB1
        rw [o2, bnw_r, bnw_r]
    by_cases q5 : K t = 16
    · exact fl τ (by rw [mf_abs n' hB q5, tkn, bnw_r]) Kp.rfl' hCl
    have q6 : K t = 14 ∨ K t = 15 := by omega
    exact fl τ (by rw [mf_mm n' hB q6, tkn, bnw_r]) Kp.rfl' hCl
end FE
