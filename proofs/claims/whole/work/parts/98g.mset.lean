/-! The meaning pass: settings and branches. -/
section MS
variable {K : Nat → Nat} {W : Nat → Int64} {m c t u nv ng nc len x sz n : Nat} {pc : Nat → Nat} {rE bE pl : Int32} {w : Int64} {σ0 τ0 σ τ : Sta}
theorem sk_s2 {e p : Int32} {σ : Sta} (h : SK σ0 e p σ) (n : Nat) (v5 v7 r7 : Int32) : Go (bnd (f_X1_isMeaningRight σ) (fun r10 σ11 =>
  if r10 = 0 then
    f_X1_readBranch_215 (f_X1_readBranch_103 (n + 1)) v5 σ11
  else
    bnd (f_X4_addSetting v7 r7 σ11) (fun _ σ15 =>
    f_X1_readBranch_215 (f_X1_readBranch_103 (n + 1)) v5 σ15))) (fun o => SK σ0 e p o.2) := by
  rw [q_right h.qt, bnd_s, if_pos rfl, b215_0 (sk_acc h (by decide))]
  exact Go.of h
theorem PB.at5 (h : PB K W m c σ0 τ0 u t nv ng nc len x sz n pc rE bE pl w σ τ) (j : Nat) : gJ τ 5 j = W j := h.1.2.2.2.1.2.2.2.2.2.2 j
theorem m_sets (v2 : Int32) : ∀ (k u t w' f f' len x sz : Nat) (σ τ : Sta) (e : Nat), PB K W m c σ0 τ0 u t nv ng nc len x sz (n + 1) pc rE bE pl w σ τ → u ≤ t → GS K k t e → e < m → w' < t → m - t + 1 < f → m - t < f' →
    SIM (SK σ0) τ0 (f_X1_readBranch_103 f 1 (nI w') σ) (bnw (f_X10_setOne (nI (nc * 4 + n)) τ) (fun _ s => f_X10_branch_173 f' v2 (nI (nc * 4 + n)) s)) (fun _ σ' b τ' => b = v2 + 1 ∧ gI τ' 34 = gI τ 34 ∧ ∃ len' x' sz', PB K W m c σ0 τ0 (e + 1) e nv ng nc len' x' sz' (n + 1) pc rE bE pl w σ' τ')
  | 0, _, _, _, _, _, _, _, _, _, _, _, _, _, hG, _, _, _, _ => hG.elim
  | k + 1, u, t, w', 0, f', len, x, sz, σ, τ, e, h, hu, hG, he, hw, hf, hf' => absurd hf (Nat.not_lt_zero _)
  | k + 1, u, t, w', f + 1, 0, len, x, sz, σ, τ, e, h, hu, hG, he, hw, hf, hf' => absurd hf' (Nat.not_lt_zero _)
  | k + 1, u, t, w', f + 1, f' + 1, len, x, sz, σ, τ, e, h, hu, hG, he, hw, hf, hf' => by
    obtain ⟨k0, k1, y, y0, hX, hend⟩ := hG
    have hm := h.1.hm.1
    have hye : y ≤ e := by
      rcases hend with ⟨_, q⟩ | ⟨_, q⟩
      · omega
      · have := (NS_GS _ _ _ q).1
        omega
    obtain ⟨f2, rfl⟩ : ∃ f2, f = f2 + 1 := ⟨f - 1, by omega⟩
    have hn := h.2.1
    have T1 := h.mv1 (by omega) (by omega)
    have P1 := h.1
    have c5 := c_contOf T1.1.1 (j := t) (by omega)
    rw [T1.at5] at c5
    have hB := h.1.1
    have h30 := h.1.2.1
    have e29 : gI τ 29 = nI t := hB.2.2.2.2.2.2.2.1
    have pl4 : gA τ 4 t = gA σ 12 t := (BX_K hB hB.2.2.1).2.2.2.1.symm
    rw [f_X1_readBranch_103, if_neg (show ¬ (1500 : Int32) ≤ nI w' by rw [nI_Lle (by omega) (by decide)]; omega), if_neg (show ¬ (1 : Int32) = 0 by decide), pt_at P1 k0 (Or.inr (Or.inr ⟨by decide, by decide⟩)) (by decide) (by decide) 273 rfl, bnd_s, c5, bnd_s]
    unfold f_X10_setOne f_X10_variableHere
    rw [m_isL hB 200 200 rfl (by decide), bnd_s, if_pos k0, ite10, if_neg (show ¬ gI τ 30 = 0 by rw [h30]; decide), e29, if_neg (nI_in (by omega) (by omega)), nI_clamp (by omega), h.at5]
    rcases pt_var (σ := sI σ 260 (nI (t + 1))) (τ := τ) (σb := σ) T1.1 h.1.2.2.2.1.2.2.1 rfl (W t) with ⟨v, v1, v2', v3⟩ | ⟨v2', v3⟩
    · have hv6 : v < 6 := by
        have := h.1.2.2.2.1.1.1
        omega
      have ls1 := T1.ls hv6
      obtain ⟨b1, b2, b3, b4⟩ := h.2.2.2.2.2.2.2.2.2.1.2 n (by omega)
      have hSE := b4 v hv6
      unfold f_X10_variableHere_31 f_X10_variableHere_43 f_X1_readBranch_154
      rw [v2', bnd_s, v3, bnd_s, if_neg (nI_pos (by omega)), if_neg (ne_m1 (by omega)), e29, if_neg (nI_in (by omega) (by omega)), must1 h30, if_neg (show ¬ (1 : Int32) = 0 by decide), bnw_l, bnw_l, d_demand T1.1.1 T1.1.2.1 _ _ (by omega), if_neg (show ¬ (1 : Int32) = 0 by decide), bnd_s]
      unfold f_X4_isSetInLatest
      rw [ls1, bnd_s, if_neg (nI_pos (by omega)), if_neg (nI_in (by omega) (by omega)), nI_clamp (by omega), show gA (sI σ 260 (nI (t + 1))) 31 = gA σ 31 from rfl, nI_mulL, nI_add, show (nc * 4 + n) * OfNat.ofNat 6 + v = (nc * 4 + n) * 6 + v from rfl, if_neg (nI_in (by omega) (by omega)), nI_clamp (by omega)]
      rcases hSE with ⟨s1, s2⟩ | ⟨e', s', bb, l, s1, s2, s3, _⟩
      · rw [s1, s2, if_pos (show (-1 : Int32) < 0 by decide), if_pos (show (-1 : Int32) = -1 from rfl), show f_X4_isSetInLatest_23 (sI σ 260 (nI (t + 1))) = some (0, sI σ 260 (nI (t + 1))) from rfl, bnd_s, if_pos rfl]
        have T2 := T1.mv1 (by omega) (by omega)
        have ex := pt_at T1.1 k1 (Or.inr (Or.inl ⟨by decide, by decide⟩)) (by decide) (by decide) 61 rfl
        unfold f_X1_readBranch_178 f_X10_setOne_41
        rw [d_demand T1.1.1 T1.1.2.1 _ _ (by omega), if_neg (show ¬ (1 : Int32) = 0 by decide), bnd_s, ex, bnd_s, e29, if_neg (nI_in (by omega) (by omega)), must1 h30, if_neg (show ¬ (1 : Int32) = 0 by decide), bnw_l, m_at hB (by omega), bnw_l, m_atK T1.1.1 k1 (by decide) 105 rfl, bnw_l, bnw_as]
        refine SIM.bnd (pt_expr T2.1 (by omega) hX) (fun r σ' b τ' ⟨len', x', sz', r1, T3, hE, hc, hmi, hLX, l1, l2, l3⟩ => ?_) (fun _ _ e p d => sk_s2 d f2 _ _ _)
        have P3 := T2.fr T3 hc hmi hLX l1 l2 l3
        have P4 := P3.set hv6 (Nat.lt_succ_self n) hE
        have h39 := T3.2.1
        have i34 : gI τ' 34 = gI τ 34 := hmi.1 34 (by unfold iI; omega)
        have as : f_X4_addSetting (nI v) r σ' = some ((), sA σ' 31 (upd (gA σ' 31) ((nc * 4 + n) * 6 + v) r)) := by
          unfold f_X4_addSetting f_X4_addSetting_17
          rw [P3.ls hv6, bnd_s, if_neg (nI_pos (by omega)), if_neg (nI_in (by omega) (by omega)), lt_e, nI_clamp (by omega)]
        have ac := pt_atA P4.1 (k0 := 104) (Or.inr (Or.inl ⟨by decide, by decide⟩)) (by decide) (by decide) 44 rfl
        unfold f_X1_readBranch_215 f_X10_setOne_88
        rw [d_right T3.1 h39, bnd_s, if_neg (show ¬ (1 : Int32) = 0 by decide), as, bnd_s, ac, if_neg (show ¬ gI τ' 30 = 0 by rw [h39]; decide), nI_mulL, nI_add, show (nc * 4 + n) * OfNat.ofNat 6 + v = (nc * 4 + n) * 6 + v from rfl, if_neg (nI_in (by omega) (by omega)), lt_e, nI_clamp (by omega), bnw_l, f_X10_branch_173, m_isL P4.1.1 104 104 rfl (by decide), bnd_s]
        rcases hend with ⟨q1, q2⟩ | ⟨q1, q2⟩
        · unfold f_X10_branch_195 f_X10_branch_209
          rw [if_neg q1, if_neg q1, bnd_s, lt_e, b103_0, if_pos rfl, if_neg (show ¬ gI (sA τ' 18 (upd (gA τ' 18) ((nc * 4 + n) * 6 + v) b)) 30 = 0 by
            show ¬ gI τ' 30 = 0
            rw [h39]; decide), q2]
          exact SIM.ok ⟨rfl, i34, len', x', sz', P4⟩
        · have T5 := P4.mv1 (by omega) (Nat.le_refl _)
          rw [if_pos q1, if_pos q1, bnd_s, lt_e, nI_1, ite10, m_at P4.1.1 (by omega), bnw_l]
          refine SIM.imp (m_sets v2 k (y + 1) (y + 1) (w' + 1) (f2 + 1) f' len' x' sz' _ _ e T5 (Nat.le_refl _) q2 he (by omega) (by omega) (by omega)) (fun _ σ' b τ'' ⟨z1, z2, z3⟩ => ⟨z1, z2.trans i34, z3⟩) (fun _ _ _ d => d)
      · unfold f_X10_setOne_41
        rw [s1, s2, if_neg (nI_pos (by have := h.1.2.2.1; omega)), if_neg (ne_m1 (by have := h.1.2.2.1; omega)), show f_X4_isSetInLatest_24 1 (sI σ 260 (nI (t + 1))) = some (1, sI σ 260 (nI (t + 1))) from rfl, bnd_s, if_neg (show ¬ (1 : Int32) = 0 by decide), e29, if_neg (nI_in (by omega) (by omega)), nI_clamp (by omega), must1 h30, if_pos rfl, bnw_r, bnw_r, pl4]
        unfold f_X1_readBranch_178
        rw [d_demand T1.1.1 T1.1.2.1 _ _ (by omega), if_pos rfl, bnd_s]
        have hE := T1.1.er (e := 3) (by decide) t
        have hV := sk_178 hE f2 (nI w') (nI t) (nI v) 1
        unfold f_X1_readBranch_178 at hV
        rw [q_demand hE.qt, bnd_s] at hV
        obtain ⟨⟨r', σ''⟩, d1, d2⟩ := hV
        exact Or.inr ⟨_, _, _, _, _, d1, rfl, d2, h.1.2.2.2.2.2.2⟩
    · unfold f_X10_variableHere_31 f_X10_variableHere_43 f_X1_readBranch_154
      rw [v2', bnd_s, v3, bnd_s, if_pos (show (-1 : Int32) < 0 by decide), if_pos (show (-1 : Int32) = -1 from rfl), e29, if_neg (nI_in (by omega) (by omega)), nI_clamp (by omega), must1 h30, if_pos rfl, bnw_r, bnw_r, bnw_r, pl4, d_demand T1.1.1 T1.1.2.1 _ _ (by omega), if_pos rfl, bnd_s]
      have hE := T1.1.er (e := 2) (by decide) t
      have hV := sk_154 hE f2 (nI w') (nI t) (-1) 1
      unfold f_X1_readBranch_154 at hV
      rw [q_demand hE.qt, bnd_s] at hV
      obtain ⟨⟨r', σ''⟩, d1, d2⟩ := hV
      exact Or.inr ⟨_, _, _, _, _, d1, rfl, d2, h.1.2.2.2.2.2.2⟩
/-! a branch is added -/
def clr (f : Nat → Int32) (a : Nat) : Nat → Int32 := fun j => if a * 6 ≤ j ∧ j < a * 6 + 6 then -1 else f j
def abC (σ : Sta) (nc n q : Nat) : Sta := sA (sA (sA σ 30 (upd (gA σ 30) (nc * 4 + n) (nI q))) 31 (clr (gA σ 31) (nc * 4 + n))) 29 (upd (gA σ 29) nc (nI (n + 1)))
def abM (τ : Sta) (a q : Nat) : Sta := sA (sA τ 18 (clr (gA τ 18) a)) 17 (upd (gA τ 17) a (nI q))
theorem c_clear {nc : Nat} {v2 : Int32} : ∀ (r k i a : Nat) (σ : Sta), k + r = 6 → r < i → a < 64 → gI σ 202 = nI (nc + 1) → nc < 16 →
    f_X4_addBranch_38 i v2 (nI a) (nI k) σ = some ((), sA (sA σ 31 (fun j => if a * 6 + k ≤ j ∧ j < a * 6 + 6 then -1 else gA σ 31 j)) 29 (upd (gA σ 29) nc (v2 + 1)))
  | _, _, 0, _, _, _, hi, _, _, _ => absurd hi (Nat.not_lt_zero _)
  | 0, k, i + 1, a, σ, hk, hi, ha, h2, hn => by
    have e : nI (nc + 1) - 1 = nI nc := nI_pred nc
    unfold f_X4_addBranch_38 f_X4_addBranch_78
    rw [if_pos (show (6 : Int32) ≤ nI k by rw [nI_Lle (by omega) (by decide)]; omega), h2, e, if_neg (nI_in hn (by decide)), lt_e, nI_clamp (by omega), show (fun j => if a * 6 + k ≤ j ∧ j < a * 6 + 6 then (-1 : Int32) else gA σ 31 j) = gA σ 31 from funext fun j => if_neg (by omega), sA_gA]
  | r + 1, k, i + 1, a, σ, hk, hi, ha, h2, hn => by
    have h := c_clear (v2 := v2) r (k + 1) i a (sA σ 31 (upd (gA σ 31) (a * 6 + k) (-1))) (by omega) (by omega) ha h2 hn
    rw [f_X4_addBranch_38, if_neg (show ¬ (6 : Int32) ≤ nI k by rw [nI_Lle (by omega) (by decide)]; omega), nI_mulL, nI_add, if_neg (nI_in (c := a * 6 + k) (N := 384) (by omega) (by omega)), lt_e, lt_e, nI_1, nI_clamp (n := a * 6 + k) (by omega)]
    rw [show a * OfNat.ofNat 6 = a * 6 from rfl, h, sA_sA]
    congr 2
    show sA (sA σ 31 _) 29 _ = sA (sA σ 31 _) 29 (upd (gA σ 29) nc (v2 + 1))
    congr 2
    funext j
    rw [gA_sA, if_pos rfl, upd_at]
    by_cases q : j = a * 6 + k
    · rw [if_neg (by omega), if_pos q, if_pos (by omega)]
    · rw [if_neg q]
      by_cases q2 : a * 6 + (k + 1) ≤ j ∧ j < a * 6 + 6
      · rw [if_pos q2, if_pos (by omega)]
      · rw [if_neg q2, if_neg (by omega)]
theorem c_addBranch (h : PB K W m c σ0 τ0 u t nv ng nc len x sz n pc rE bE pl w σ τ) (hn : n < 4) (q : Nat) : f_X4_addBranch (nI q) σ = some ((), abC σ nc n q) := by
  have hnc := h.2.1.1
  have e : nI (nc + 1) - 1 = nI nc := nI_pred nc
  unfold f_X4_addBranch abC
  rw [h.lb, bnd_s, h.2.2.1, if_neg (nI_nle (by omega) (by omega)), if_neg (show ¬ (4 : Int32) ≤ nI n by rw [nI_Lle (by omega) (by decide)]; omega), lt_e, e, nI_mulL, nI_add, show nc * OfNat.ofNat 4 + n = nc * 4 + n from rfl, if_neg (nI_in (by omega) (by decide)), lt_e, nI_clamp (by omega)]
  have hc := c_clear (nc := nc) (v2 := nI n) 6 0 FU (nc * 4 + n) (sA σ 30 (upd (gA σ 30) (nc * 4 + n) (nI q))) rfl (FU_lt (by decide)) (by omega) h.2.2.1 hnc
  rw [show (0 : Int32) = nI 0 from rfl, hc, nI_1]
  rfl
theorem PB.add {q : Nat} (h : PB K W m c σ0 τ0 u t nv ng nc len x sz n pc rE bE pl w σ τ) (hn : n < 4) (hq : q ≤ 100) : PB K W m c σ0 τ0 u t nv ng nc len x sz (n + 1) (fun i => if i = n then q else pc i) rE bE pl w (abC σ nc n q) (abM τ (nc * 4 + n) q) := by
  obtain ⟨⟨hB, h30, hu, ⟨p1, p2, p3, p4, p5, p6, p7⟩, hS, hqq, hk⟩, h2, h3, h4, h5, h6, h7, h8, h9, ⟨h10, h12⟩, h11⟩ := h
  have kc : Kq σ (abC σ nc n q) := Kp.sA (by unfold qA; omega) (Kp.sA (by unfold qA; omega) (Kp.sA (by unfold qA; omega) Kp.rfl'))
  have km : Km τ (abM τ (nc * 4 + n) q) := Kp.sA (by unfold mqA; omega) (Kp.sA (by unfold mqA; omega) Kp.rfl')
  have hL : LX len x sz σ τ (abC σ nc n q) (abM τ (nc * 4 + n) q) := LX_rfl rfl rfl rfl rfl rfl rfl
  have z29 : ∀ k, gA (abC σ nc n q) 29 k = if k = nc then nI (n + 1) else gA σ 29 k := fun k => rfl
  have z30 : ∀ j, gA (abC σ nc n q) 30 j = if j = nc * 4 + n then nI q else gA σ 30 j := fun k => rfl
  have z31 : ∀ j, gA (abC σ nc n q) 31 j = if (nc * 4 + n) * 6 ≤ j ∧ j < (nc * 4 + n) * 6 + 6 then -1 else gA σ 31 j := fun k => rfl
  have y17 : ∀ j, gA (abM τ (nc * 4 + n) q) 17 j = if j = nc * 4 + n then nI q else gA τ 17 j := fun k => rfl
  have y18 : ∀ j, gA (abM τ (nc * 4 + n) q) 18 j = if (nc * 4 + n) * 6 ≤ j ∧ j < (nc * 4 + n) * 6 + 6 then -1 else gA τ 18 j := fun k => rfl
  have hnc := h2.1
  refine ⟨⟨BX_cm hB kc km rfl rfl rfl rfl rfl rfl rfl rfl, h30, hu, ⟨p1, p2, p3, CG_low p4 hL (Nat.le_refl _) (Nat.le_refl _) (Nat.le_refl _) (Nat.le_refl _) rfl rfl rfl rfl rfl rfl, CO_low p5 hL (Nat.le_refl _) (Nat.le_refl _) (Nat.le_refl _) (Nat.le_refl _) rfl rfl, CC_low p6 hL (Nat.le_refl _) (Nat.le_refl _) (Nat.le_refl _) (Nat.le_refl _) (fun k hk => ?_) (fun j hj => ?_), p7⟩, ⟨hS.1, hS.2.1, hS.2.2.1, nc + 1, n + 1, by omega, h3, by omega, Or.inr ?_⟩, Kp.trans hqq kc, Kp.trans hk km⟩, ⟨hnc, by omega⟩, h3, h4, h5, h6, h7, ERb_low h8 hL (Nat.le_refl _) (Nat.le_refl _) (Nat.le_refl _) (Nat.le_refl _), h9, ⟨?_, fun i hi => ?_⟩, h11⟩
  · refine ⟨rfl, rfl, rfl, rfl, rfl, rfl, ?_, rfl⟩
    rw [z29, if_neg (by omega)]
  · rw [z30, y17, if_neg (by omega), if_neg (by omega)]
    refine ⟨rfl, rfl, fun v' hv' => ?_⟩
    rw [z31, y18, if_neg (by omega), if_neg (by omega)]
    exact ⟨rfl, rfl⟩
  · show gA (abC σ nc n q) 29 (nc + 1 - 1) = nI (n + 1)
    rw [z29, if_pos (by omega)]
  · rw [z29, if_pos rfl]
  · rw [z30, y17]
    by_cases qi : i = n
    · rw [if_pos (by omega), if_pos (by omega), show (fun i => if i = n then q else pc i) i = q from if_pos qi]
      refine ⟨rfl, rfl, hq, fun v' hv' => ?_⟩
      rw [z31, y18, if_pos (by omega), if_pos (by omega)]
      exact Or.inl ⟨rfl, rfl⟩
    · obtain ⟨b1, b2, b3, b4⟩ := h12 i (by omega)
      rw [if_neg (by omega), if_neg (by omega), show (fun i => if i = n then q else pc i) i = pc i from if_neg qi]
      refine ⟨b1, b2, b3, fun v' hv' => ?_⟩
      rw [z31, y18, if_neg (by omega), if_neg (by omega)]
      exact SE_low (b4 v' hv') hL (Nat.le_refl _) (Nat.le_refl _) (Nat.le_refl _) (Nat.le_refl _)
theorem PB.s34 (h : PB K W m c σ0 τ0 u t nv ng nc len x sz n pc rE bE pl w σ τ) (v : Int32) : PB K W m c σ0 τ0 u t nv ng nc len x sz n pc rE bE pl w σ (sI τ 34 v) := by
  obtain ⟨⟨hB, h30, hu, ⟨p1, p2, p3, p4, p5, p6, p7⟩, hS, hqq, hk⟩, h2, h3, h4, h5, h6, h7, h8, h9, h10, h11⟩ := h
  have km : Km τ (sI τ 34 v) := Kp.sI (by unfold mqI; omega) Kp.rfl'
  have hL : LX len x sz σ τ σ (sI τ 34 v) := LX_rfl rfl rfl rfl rfl rfl rfl
  exact ⟨⟨BX_cm hB Kp.rfl' km rfl rfl rfl rfl rfl rfl rfl rfl, h30, hu, ⟨p1, p2, p3, CG_low p4 hL (Nat.le_refl _) (Nat.le_refl _) (Nat.le_refl _) (Nat.le_refl _) rfl rfl rfl rfl rfl rfl, CO_low p5 hL (Nat.le_refl _) (Nat.le_refl _) (Nat.le_refl _) (Nat.le_refl _) rfl rfl, CC_low p6 hL (Nat.le_refl _) (Nat.le_refl _) (Nat.le_refl _) (Nat.le_refl _) (fun _ _ => ⟨rfl, rfl, rfl, rfl, rfl, rfl, rfl, rfl⟩) (fun _ _ => ⟨rfl, rfl, fun _ _ => ⟨rfl, rfl⟩⟩), p7⟩, hS, hqq, Kp.trans hk km⟩, h2, h3, h4, h5, h6, h7, ERb_low h8 hL (Nat.le_refl _) (Nat.le_refl _) (Nat.le_refl _) (Nat.le_refl _), h9, CB_low h10 hL (Nat.le_refl _) (Nat.le_refl _) (Nat.le_refl _) (Nat.le_refl _) rfl (fun _ _ => ⟨rfl, rfl, fun _ _ => ⟨rfl, rfl⟩⟩), h11⟩
end MS
