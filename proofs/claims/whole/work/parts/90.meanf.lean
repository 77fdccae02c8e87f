/-! Factors and expressions: what they mean. -/
theorem b_idx {q0 n0 q1 n1 N : Nat} {w : Int64} {σ τ : Sta} (h0 : N ≤ n0) (h1 : N ≤ n1) (hb0 : n0 < 2 ^ 30) (hb1 : n1 < 2 ^ 30) (he : ∀ v, v < N → gJ σ q0 v = gJ τ q1 v) : ∀ (r k n n' : Nat), k + r = N → r < n → r < n' →
    (∃ v, v < N ∧ f_X4_indexOf_3 q0 n0 n (nI N) w (nI k) σ = some (nI v, σ) ∧ f_X10_indexOf_3 q1 n1 n' (nI N) w (nI k) τ = some (nI v, τ)) ∨ (f_X4_indexOf_3 q0 n0 n (nI N) w (nI k) σ = some (-1, σ) ∧ f_X10_indexOf_3 q1 n1 n' (nI N) w (nI k) τ = some (-1, τ))
  | _, _, 0, _, _, hn, _ => absurd hn (Nat.not_lt_zero _)
  | _, _, _, 0, _, _, hn => absurd hn (Nat.not_lt_zero _)
  | 0, k, n + 1, n' + 1, h, hn, hn' => by
    refine Or.inr ⟨?_, ?_⟩
    · rw [f_X4_indexOf_3, if_pos (nI_le (by omega) (by omega))]
      rfl
    · rw [f_X10_indexOf_3, if_pos (nI_le (by omega) (by omega))]
  | r + 1, k, n + 1, n' + 1, h, hn, hn' => by
    rw [f_X4_indexOf_3, if_neg (nI_ge (by omega) (by omega)), if_neg (show ¬ Int32.ofNat n0 ≤ nI k from nI_ge (b := n0) (by omega) (by omega)), if_neg (nI_in (by omega) (by omega)), nI_clamp (by omega), he k (by omega), f_X10_indexOf_3, if_neg (nI_ge (by omega) (by omega)), if_neg (nI_in (by omega) (by omega)), nI_clamp (by omega)]
    by_cases q : lg_cmp (gJ τ q1 k) w = 0
    · rw [if_pos q, if_pos q]
      exact Or.inl ⟨k, by omega, rfl, rfl⟩
    · rw [if_neg q, if_neg q, lt_e, lt_e, nI_1]
      exact b_idx h0 h1 hb0 hb1 he r (k + 1) n n' (by omega) (by omega) (by omega)
section BF
variable {K : Nat → Nat} {m c L d nv x len sz : Nat}
theorem b_var {t : Nat} {σ τ : Sta} (h : MH nv x len sz t σ τ) (w : Int64) : (∃ v, v < nv ∧ f_X4_variableNamed w σ = some (nI v, σ) ∧ f_X10_indexOf 7 6 (gI τ 10) w τ = some (nI v, τ)) ∨ (f_X4_variableNamed w σ = some (-1, σ) ∧ f_X10_indexOf 7 6 (gI τ 10) w τ = some (-1, τ)) := by
  obtain ⟨h1, h2, h3, h4, h5, h6, h7, h8, h9, h10, h11, h12⟩ := h
  unfold f_X4_variableNamed f_X4_indexOf f_X10_indexOf
  rw [h10, h11]
  have hf : nv < FU := Nat.lt_of_le_of_lt h9 (FU_lt (by decide))
  rcases b_idx (q0 := 19) (n0 := 6) (q1 := 7) (n1 := 6) (w := w) h9 h9 (by decide) (by decide) h12 nv 0 FU FU (by omega) hf hf with ⟨v, v1, v2, v3⟩ | ⟨v2, v3⟩
  · have v2' : f_X4_indexOf_3 19 6 FU (nI nv) w 0 σ = some (nI v, σ) := v2
    have v3' : f_X10_indexOf_3 7 6 FU (nI nv) w 0 τ = some (nI v, τ) := v3
    exact Or.inl ⟨v, v1, by rw [v2', bnd_s], v3'⟩
  · have v2' : f_X4_indexOf_3 19 6 FU (nI nv) w 0 σ = some (-1, σ) := v2
    have v3' : f_X10_indexOf_3 7 6 FU (nI nv) w 0 τ = some (-1, τ) := v3
    exact Or.inr ⟨by rw [v2', bnd_s], v3'⟩
theorem b_factor {n n' : Nat} (hd : d ≤ 8)
    (HF : d < 8 → ∀ t t1 σ τ len sz, BX K m c L t (d + 1) σ τ → MH nv x len sz t σ τ → GX K L n 6 (d + 1) t t1 → RB K m c L nv x len sz (d + 1) t t1 σ τ ((fr_X1R n).2.1 (nI (d + 1)) σ) ((fr_X10R n').2.2.2.2.2 τ))
    (HB : ∀ t t' σ τ len sz, BX K m c L t d σ τ → MH nv x len sz t σ τ → (GX K L n 7 d t t' → RB K m c L nv x len sz d t t' σ τ ((fr_X1R n).2.2 (nI 1) (nI d) σ) (mB1 (fr_X10R n').1 τ)) ∧ (GX K L n 8 d t t' → RB2 K m c L nv x len sz d t t' σ τ ((fr_X1R n).2.2 (nI 2) (nI d) σ) (mB2 (fr_X10R n').1 τ)))
    {t t' : Nat} {σ τ : Sta} (hB : BX K m c L t d σ τ) (hS : MH nv x len sz t σ τ) (hG : GX K L (n + 1) 6 d t t') : RB K m c L nv x len sz d t t' σ τ ((fr_X1R (n + 1)).2.1 (nI d) σ) ((fr_X10R (n' + 1)).2.2.2.2.2 τ) := by
  have hm := hB.1.1
  have htm := hB.2.2.1
  have hSF := MH_SF hS (by omega)
  obtain ⟨m1, m2, m3, m4, m5, m6, m7, m8, m9, m10, m11, m12⟩ := id hS
  obtain ⟨ht, hG⟩ := (show t < L ∧ (((K t = 201 ∨ K t = 200) ∧ t' = t + 1) ∨ ((K t = 107 ∨ K t = 13) ∧ d < 8 ∧ GX K L n 6 (d + 1) (t + 1) t') ∨ (K t = 100 ∧ GX K L n 7 d t t') ∨ (K t = 16 ∧ GX K L n 7 d (t + 1) t') ∨ ((K t = 14 ∨ K t = 15) ∧ GX K L n 8 d (t + 1) t')) from hG)
  have hf0 : Kf τ (tkM τ L t) := Kf_take Kp.rfl'
  have lf : ∀ (o : Nat) (y : Int64), o < 2 → K t < 202 → (o = 1 → ∃ v : Nat, v < nv ∧ y = lN v) → f_X0_add (cOp o) y σ = some ((), addC σ len x (cOp o) y) ∧ f_X10_emit (mOp o) y τ = some ((), emM τ sz (mOp o) y) ∧ f_X10_take (emM τ sz (mOp o) y) = some (.inl (), tkM (emM τ sz (mOp o) y) L t) ∧ Ke σ (sI (addC σ len x (cOp o) y) 260 (nI (t + 1))) ∧ Kf τ (tkM (emM τ sz (mOp o) y) L t) ∧ BX K m c L (t + 1) d (sI (addC σ len x (cOp o) y) 260 (nI (t + 1))) (tkM (emM τ sz (mOp o) y) L t) ∧ CD nv x len sz [(o, y)] σ τ (sI (addC σ len x (cOp o) y) 260 (nI (t + 1))) (tkM (emM τ sz (mOp o) y) L t) := fun o y ho hk hv => by
    have htm' := BX_m hB hk
    have hB2 := BX_add hB (Ke_ad σ len x (cOp o) y) rfl rfl rfl
    have hB3 : BX K m c L t d (addC σ len x (cOp o) y) (emM τ sz (mOp o) y) := ⟨TOK_k hB2.1 Kp.rfl' (Kf_em _ _ _ _), hB2.2.1, hB2.2.2.1, hB2.2.2.2.1, hB2.2.2.2.2.1, hB2.2.2.2.2.2.1, hB2.2.2.2.2.2.2.1, hB2.2.2.2.2.2.2.2.1, hB2.2.2.2.2.2.2.2.2.1, hB2.2.2.2.2.2.2.2.2.2.1, hB2.2.2.2.2.2.2.2.2.2.2.1, hB2.2.2.2.2.2.2.2.2.2.2.2⟩
    refine ⟨c_addX (by omega) m1 m5 m4 m3 _ _, m_emit m8 m6 (by omega) _ _, by rw [m_take hB3, if_pos ht], Kp.trans (Ke_ad _ _ _ _ _) (Ke_at _ _), Kp.trans (Kf_em _ _ _ _) (Kf_take Kp.rfl'), BX_take hB3 htm' ht, ?_⟩
    exact CD_post (CD_one ho hv) (fun j => ⟨rfl, rfl, rfl⟩) rfl (tkA _ L t) (tkM_I (q := 26) _ L t (by decide) (by decide))
  rcases hG with ⟨q, rfl⟩ | ⟨q, hd8, hG⟩ | ⟨q, hG⟩ | ⟨q, hG⟩ | ⟨q, hG⟩
  · rcases q with q | q
    · obtain ⟨a1, a2, a3, a4, a5, a6, a7⟩ := lf 0 (gJ τ 5 t) (by decide) (by omega) (fun e => absurd e (by decide))
      refine Or.inl ⟨_, _, [(0, gJ τ 5 t)], ?_, ?_, a4, a5, by omega, a6, by show 1 ≤ _; omega, a7⟩
      · rw [cf_num n hB q ht, show f_X0_add 274 (gJ τ 5 t) σ = _ from a1, bnd_s, show gI (addC σ len x (cOp 0) (gJ τ 5 t)) 260 = gI σ 260 from rfl, hB.2.2.2.2.2.2.1, nI_1]
      · rw [mf_num n' hB q, show f_X10_emit 0 (gJ τ 5 t) τ = _ from a2, bnd_s, a3, bnw_l]
    · have hK5 := (BX_K hB htm)
      have hvH : ∀ r, f_X10_indexOf 7 6 (gI τ 10) (gJ τ 5 t) τ = some (r, τ) → f_X10_variableHere τ = f_X10_variableHere_31 r τ := fun r hr => by
        unfold f_X10_variableHere
        rw [if_neg (by rw [m8]; decide), hB.2.2.2.2.2.2.2.1, if_neg (nI_in (by omega) (by omega)), nI_clamp (by omega), hr, bnd_s]
      rcases b_var hS (gJ τ 5 t) with ⟨v, v1, v2, v3⟩ | ⟨v2, v3⟩
      · obtain ⟨a1, a2, a3, a4, a5, a6, a7⟩ := lf 1 (lN v) (by decide) (by omega) (fun _ => ⟨v, v1, rfl⟩)
        refine Or.inl ⟨_, _, [(1, lN v)], ?_, ?_, a4, a5, by omega, a6, by show 1 ≤ _; omega, a7⟩
        · rw [cf_name n hB q ht, v2, bnd_s, if_neg (nI_pos (by omega))]
          unfold f_X1_readFactor_143 f_X1_readFactor_275 f_X1_demand f_X1_demand_17
          rw [if_neg (show ¬ gI σ 259 = 0 by rw [hB.2.2.2.2.2.2.2.2.2.2.2.1, m8]; decide), if_neg (by decide), bnd_s, nI_l (by omega), show f_X0_add 273 (lN v) σ = _ from a1, bnd_s, lt_e, show gI (addC σ len x (cOp 1) (lN v)) 260 = gI σ 260 from rfl, hB.2.2.2.2.2.2.1, nI_1]
        · rw [mf_name n' hB q, hvH _ v3]
          unfold f_X10_variableHere_31 f_X10_variableHere_43 f_X10_must f_X10_must_21
          rw [if_neg (show ¬ nI v = -1 from fun e => (nI_nm1 (by omega)).mp e), hB.2.2.2.2.2.2.2.1, if_neg (nI_in (by omega) (by omega)), if_neg (by rw [m8]; decide), if_neg (by decide), bnw_l, bnw_l, nI_l (by omega), show f_X10_emit 1 (lN v) τ = _ from a2, bnd_s, a3, bnw_l]
      · obtain ⟨σ1, b1, b2, b3, b4, b5, b6⟩ := c_add (SF_er hSF 2 t) 273 ((-1 : Int32).toInt64)
        refine Or.inr ⟨sI σ1 260 (gI σ1 260 + 1), τ, gA σ 12 t, ?_, ?_, SF_at b2 _, Kp.trans (Ke_er _ _ _) (Kp.trans b3 (Ke_at _ _)), Kp.rfl', b5, b6⟩
        · rw [cf_name n hB q ht, v2, bnd_s, if_pos (by decide)]
          unfold f_X1_readFactor_143 f_X1_readFactor_275 f_X1_demand f_X1_demand_17
          rw [if_neg (show ¬ gI σ 259 = 0 by rw [hB.2.2.2.2.2.2.2.2.2.2.2.1, m8]; decide), if_pos rfl, hB.2.2.2.2.2.2.1, c_fail hB.2.2.2.2.2.1 2 (by omega), bnd_s, bnd_s, show f_X0_add 273 ((-1 : Int32).toInt64) (sI (sI σ 262 2) 263 (gA σ 12 t)) = _ from b1, bnd_s, lt_e]
        · rw [mf_name n' hB q, hvH _ v3]
          unfold f_X10_variableHere_31 f_X10_variableHere_43 f_X10_must
          rw [if_pos rfl, hB.2.2.2.2.2.2.2.1, if_neg (nI_in (by omega) (by omega)), if_neg (by rw [m8]; decide), if_pos rfl, bnw_r, bnw_r, nI_clamp (by omega), hK5.2.2.2.1]
  · have hBd := BX_dep (d + 1) hB
    have hBt := BX_take hBd (BX_m hB (by omega)) ht
    have hf1 : Kf τ (tkM (sI τ 31 (nI (d + 1))) L t) := Kf_take (Kp.sI (by unfold fI; omega) Kp.rfl')
    have hC := cf_un n hB hd q ht
    rw [if_pos hd8] at hC
    have hM := mf_un n' hB q
    rw [m_deep hB hd, if_pos hd8, bnw_l, m_take hBd, if_pos ht, bnw_l] at hM
    have hMH1 := MH_take L (MH_31 (nI (d + 1)) hS)
    rcases HF hd8 (t + 1) t' _ _ _ _ hBt hMH1 hG with ⟨σ2, τ2, xs, a1, a2, a3, a4, a5, a6, a7, a8⟩ | ⟨σ2, τ2, p, a1, a2, a3, a4, aF, a5, a6⟩
    · have hMH2 := MH_31 (nI d) (MH_next hMH1 a3 a4 a7 (by omega) a8)
      have hmt := a6.2.2.1
      have e31 : gI τ2 31 - 1 = nI d := by rw [a6.2.2.2.2.2.2.2.2.2.2.1, nI_pred]
      obtain ⟨o, o1, o2, o3, o4⟩ : ∃ o, 17 ≤ o ∧ o < 20 ∧ cOp o = (if K t = 107 then 280 else 269) ∧ mOp o = (if K t = 107 then 41 else 40) := by
        by_cases q2 : K t = 107
        · exact ⟨18, by decide, by decide, by rw [if_pos q2]; rfl, by rw [if_pos q2]; rfl⟩
        · exact ⟨17, by decide, by decide, by rw [if_neg q2]; rfl, by rw [if_neg q2]; rfl⟩
      have hD := CD_un (o := o) (CD_post (σ2 := σ2) (τ2 := sI τ2 31 (nI d)) (CD_pre a8 (fun j => ⟨rfl, rfl, rfl⟩) (tkA (sI τ 31 (nI (d + 1))) L t)) (fun j => ⟨rfl, rfl, rfl⟩) rfl (fun j => ⟨rfl, rfl⟩) rfl) o1 o2
      have hB2 := BX_dep d (BX_add a6 (Ke_ad σ2 (len + xs.length) x (cOp o) 0) rfl rfl rfl)
      have hB3 : BX K m c L t' d (addC σ2 (len + xs.length) x (cOp o) 0) (emM (sI τ2 31 (nI d)) (sz + xs.length) (mOp o) 0) := ⟨TOK_k hB2.1 Kp.rfl' (Kf_em _ _ _ _), hB2.2.1, hB2.2.2.1, hB2.2.2.2.1, hB2.2.2.2.2.1, hB2.2.2.2.2.2.1, hB2.2.2.2.2.2.2.1, hB2.2.2.2.2.2.2.2.1, hB2.2.2.2.2.2.2.2.2.1, hB2.2.2.2.2.2.2.2.2.2.1, hB2.2.2.2.2.2.2.2.2.2.2.1, hB2.2.2.2.2.2.2.2.2.2.2.2⟩
      refine Or.inl ⟨_, _, _, ?_, ?_, Kp.trans (Ke_at _ _) (Kp.trans a3 (Ke_ad _ _ _ _ _)), Kp.trans hf1 (Kp.trans a4 (Kp.trans (Kp.sI (by unfold fI; omega) Kp.rfl') (Kf_em _ _ _ _))), by omega, hB3, ?_, hD⟩
      · rw [hC, a1, bnd_s, ← o3, c_addX (by omega) hMH2.1 m5 m4 hMH2.2.2.1, bnd_s]
      · rw [hM, a2, bnw_l, lt_e, e31, ← o4, m_emit hMH2.2.2.2.2.2.2.2.1 hMH2.2.2.2.2.2.1 (by omega), bnd_s]
      · rw [List.length_append]
        show xs.length + 1 ≤ _
        omega
    · obtain ⟨σ3, b1, b2, b3, b4, b5, b6⟩ := c_add a3 (if K t = 107 then 280 else 269) 0
      refine Or.inr ⟨σ3, τ2, p, ?_, ?_, b2, Kp.trans (Ke_at _ _) (Kp.trans a4 b3), Kp.trans hf1 aF, by rw [b5]; exact a5, by rw [b6]; exact a6⟩
      · rw [hC, a1, bnd_s, b1, bnd_s]
      · rw [hM, a2, bnw_r]
  · rcases (HB t t' σ τ _ _ hB hS).1 hG with ⟨σ2, τ2, xs, a1, a2, a3, a4, a5, a6, a7, a8⟩ | ⟨σ2, τ2, p, a1, a2, a3, a4, aF, a5, a6⟩
    · exact Or.inl ⟨σ2, τ2, xs, by rw [cf_br n hB q ht, a1, bnd_s], by rw [mf_br n' hB q, a2, bnw_l], a3, a4, a5, a6, a7, a8⟩
    · exact Or.inr ⟨σ2, τ2, p, by rw [cf_br n hB q ht, a1, bnd_s], by rw [mf_br n' hB q, a2, bnw_r], a3, a4, aF, a5, a6⟩
  · have hBt := BX_take hB (BX_m hB (by omega)) ht
    rcases (HB (t + 1) t' _ _ _ _ hBt (MH_take L hS)).1 hG with ⟨σ2, τ2, xs, a1, a2, a3, a4, a5, a6, a7, a8⟩ | ⟨σ2, τ2, p, a1, a2, a3, a4, aF, a5, a6⟩
    · have hMH2 := MH_next (MH_take L hS) a3 a4 a7 (by omega) a8
      have hmt := a6.2.2.1
      have hD := CD_un (o := 19) (CD_pre a8 (fun j => ⟨rfl, rfl, rfl⟩) (tkA τ L t)) (by decide) (by decide)
      have hB2 := BX_add a6 (Ke_ad σ2 (len + xs.length) x (cOp 19) 0) rfl rfl rfl
      have hB3 : BX K m c L t' d (addC σ2 (len + xs.length) x (cOp 19) 0) (emM τ2 (sz + xs.length) (mOp 19) 0) := ⟨TOK_k hB2.1 Kp.rfl' (Kf_em _ _ _ _), hB2.2.1, hB2.2.2.1, hB2.2.2.2.1, hB2.2.2.2.2.1, hB2.2.2.2.2.2.1, hB2.2.2.2.2.2.2.1, hB2.2.2.2.2.2.2.2.1, hB2.2.2.2.2.2.2.2.2.1, hB2.2.2.2.2.2.2.2.2.2.1, hB2.2.2.2.2.2.2.2.2.2.2.1, hB2.2.2.2.2.2.2.2.2.2.2.2⟩
      refine Or.inl ⟨_, _, _, ?_, ?_, Kp.trans (Ke_at _ _) (Kp.trans a3 (Ke_ad _ _ _ _ _)), Kp.trans hf0 (Kp.trans a4 (Kf_em _ _ _ _)), by omega, hB3, ?_, hD⟩
      · rw [cf_abs n hB q ht, a1, bnd_s, show f_X0_add 272 0 σ2 = _ from c_addX (a := cOp 19) (v := 0) (by omega) hMH2.1 m5 m4 hMH2.2.2.1, bnd_s]
      · rw [mf_abs n' hB q, m_take hB, if_pos ht, bnw_l, a2, bnw_l, show f_X10_emit 42 0 τ2 = _ from m_emit (a := mOp 19) (v := 0) hMH2.2.2.2.2.2.2.2.1 hMH2.2.2.2.2.2.1 (by omega), bnd_s]
      · rw [List.length_append]
        show xs.length + 1 ≤ _
        omega
    · obtain ⟨σ3, b1, b2, b3, b4, b5, b6⟩ := c_add a3 272 0
      exact Or.inr ⟨σ3, τ2, p, by rw [cf_abs n hB q ht, a1, bnd_s, b1, bnd_s], by rw [mf_abs n' hB q, m_take hB, if_pos ht, bnw_l, a2, bnw_r], b2, Kp.trans (Ke_at _ _) (Kp.trans a4 b3), Kp.trans hf0 aF, by rw [b5]; exact a5, by rw [b6]; exact a6⟩
  · have hBt := BX_take hB (BX_m hB (by omega)) ht
    obtain ⟨o, o1, o2, o3, o4⟩ : ∃ o, 2 ≤ o ∧ o < 17 ∧ cOp o = nI (kC (K t)) ∧ mOp o = (if K t = 14 then 32 else 33) := by
      by_cases q2 : K t = 14
      · exact ⟨15, by decide, by decide, by rw [q2]; rfl, by rw [if_pos q2]; rfl⟩
      · exact ⟨16, by decide, by decide, by rw [show K t = 15 by omega]; rfl, by rw [if_neg q2]; rfl⟩
    rcases (HB (t + 1) t' _ _ _ _ hBt (MH_take L hS)).2 hG with ⟨σ2, τ2, xs, ys, a1, a2, a3, a4, a5, a6, σ3, τ3, σ4, τ4, z1, z2, z3, z4, z5⟩ | ⟨σ2, τ2, p, a1, a2, a3, a4, aF, a5, a6⟩
    · have hmt := a6.2.2.1
      have hD := CD_bin (o := o) (CD_pre z2 (fun j => ⟨rfl, rfl, rfl⟩) (tkA τ L t)) z3 z4 z5 o1 o2
      have hB2 := BX_add a6 (Ke_ad σ2 (len + xs.length + ys.length) x (cOp o) 0) rfl rfl rfl
      have hB3 : BX K m c L t' d (addC σ2 (len + xs.length + ys.length) x (cOp o) 0) (emM τ2 (sz + xs.length + ys.length) (mOp o) 0) := ⟨TOK_k hB2.1 Kp.rfl' (Kf_em _ _ _ _), hB2.2.1, hB2.2.2.1, hB2.2.2.2.1, hB2.2.2.2.2.1, hB2.2.2.2.2.2.1, hB2.2.2.2.2.2.2.1, hB2.2.2.2.2.2.2.2.1, hB2.2.2.2.2.2.2.2.2.1, hB2.2.2.2.2.2.2.2.2.2.1, hB2.2.2.2.2.2.2.2.2.2.2.1, hB2.2.2.2.2.2.2.2.2.2.2.2⟩
      have k133 : gI σ2 133 = nI x := by rw [a3.1 133 (by unfold eI; omega)]; exact m3
      have k30 : gI τ2 30 = 1 := by rw [a4.1 30 (by unfold fI; omega), tkM_I τ L t (by decide) (by decide)]; exact m8
      refine Or.inl ⟨_, _, _, ?_, ?_, Kp.trans (Ke_at _ _) (Kp.trans a3 (Ke_ad _ _ _ _ _)), Kp.trans hf0 (Kp.trans a4 (Kf_em _ _ _ _)), by omega, hB3, ?_, hD⟩
      · rw [cf_mm n hB q ht, a1, bnd_s, ← o3, c_addX (by omega) z5.2.1 m5 m4 k133, bnd_s]
      · rw [mf_mm n' hB q, m_take hB, if_pos ht, bnw_l, a2, bnw_l, ← o4, m_emit k30 z5.2.2.1 (by omega), bnd_s]
      · rw [List.length_append, List.length_append]
        show xs.length + (ys.length + 1) ≤ _
        omega
    · obtain ⟨σ3, b1, b2, b3, b4, b5, b6⟩ := c_add a3 (nI (kC (K t))) 0
      exact Or.inr ⟨σ3, τ2, p, by rw [cf_mm n hB q ht, a1, bnd_s, b1, bnd_s], by rw [mf_mm n' hB q, m_take hB, if_pos ht, bnw_l, a2, bnw_r], b2, Kp.trans (Ke_at _ _) (Kp.trans a4 b3), Kp.trans hf0 aF, by rw [b5]; exact a5, by rw [b6]; exact a6⟩
end BF
