/-! The form pass: branches and commands. -/
section FC
variable {K : Nat → Nat} {m c t : Nat} {σ0 τ0 σ τ : Sta}
theorem gA_clear : ∀ (r k n a : Nat) (τ : Sta) (v2 : Int32), k + r = 6 → r < n → a < 64 → ∃ τ', f_X10_branch_116 n v2 (nI a) (nI k) τ = f_X10_branch_116 (n - r) v2 (nI a) 6 τ' ∧ Kp n0 n0 hA n0 τ τ' ∧ τ' = sA τ 18 (fun j => if a * 6 + k ≤ j ∧ j < a * 6 + 6 then -1 else gA τ 18 j)
  | 0, k, n, a, τ, v2, hk, hn, ha => by
    refine ⟨_, ?_, Kp.sA (Or.inr rfl) Kp.rfl', rfl⟩
    rw [show k = 6 by omega, show (fun j => if a * 6 + 6 ≤ j ∧ j < a * 6 + 6 then (-1 : Int32) else gA τ 18 j) = gA τ 18 from funext fun j => if_neg (by omega), sA_gA, Nat.sub_zero]
    rfl
  | r + 1, k, 0, a, τ, v2, hk, hn, ha => absurd hn (Nat.not_lt_zero _)
  | r + 1, k, n + 1, a, τ, v2, hk, hn, ha => by
    obtain ⟨τ', h1, h2, h3⟩ := gA_clear r (k + 1) n a (sA τ 18 (upd (gA τ 18) (a * 6 + k) (-1))) v2 (by omega) (by omega) ha
    refine ⟨τ', ?_, Kp.trans (Kp.sA (Or.inr rfl) Kp.rfl') h2, ?_⟩
    · rw [f_X10_branch_116, if_neg (show ¬ (6 : Int32) ≤ nI k by rw [nI_Lle (by omega) (by decide)]; omega), nI_mulL, nI_add, if_neg (nI_in (c := a * 6 + k) (N := 384) (by omega) (by omega)), lt_e, lt_e, nI_1, nI_clamp (n := a * 6 + k) (by omega)]
      rw [show a * OfNat.ofNat 6 = a * 6 from rfl, h1, show n + 1 - (r + 1) = n - r by omega]
    · rw [h3, sA_sA]
      congr 1
      funext j
      rw [gA_sA, if_pos rfl, upd_at]
      by_cases q : j = a * 6 + k
      · rw [if_neg (by omega), if_pos q, if_pos (by omega)]
      · rw [if_neg q]
        by_cases q2 : a * 6 + (k + 1) ≤ j ∧ j < a * 6 + 6
        · rw [if_pos q2, if_pos (by omega)]
        · rw [if_neg q2, if_neg (by omega)]
theorem sk_s1 {e p : Int32} {σ : Sta} (h : SK σ0 e p σ) (n : Nat) (v5 v7 : Int32) : Go (bnd (f_X1_readExpression σ) (fun r7 σ8 =>
  bnd (f_X1_isMeaningRight σ8) (fun r10 σ11 =>
  if r10 = 0 then
    f_X1_readBranch_215 (f_X1_readBranch_103 (n + 1)) v5 σ11
  else
    bnd (f_X4_addSetting v7 r7 σ11) (fun _ σ15 =>
    f_X1_readBranch_215 (f_X1_readBranch_103 (n + 1)) v5 σ15)))) (fun o => SK σ0 e p o.2) := by
  refine Go.bnd (sk_expr h) fun r s h => ?_
  rw [q_right h.qt, bnd_s, if_pos rfl, b215_0 (sk_acc h (by decide))]
  exact Go.of h
/-- a setting's name, in the form pass -/
theorem m_set0 (h : FO K m c σ0 τ0 t σ τ) (hk : K t = 200) : ∃ s0, f_X10_setOne 0 τ = f_X10_setOne_41 0 0 s0 τ := by
  have ht := h.1.2.2.1
  have hm := h.1.1.1
  unfold f_X10_setOne f_X10_variableHere f_X10_variableHere_31 f_X10_variableHere_43
  rw [m_isL h.1 200 200 rfl (by decide), bnd_s, if_pos hk, ite10, if_pos h.2.2.1, if_neg (show ¬ (0 : Int32) = -1 by decide), h.at29, if_neg (nI_in (by omega) (by omega)), must0 h.2.2.1, bnw_l, bnw_l, if_neg (show ¬ ((0 : Int32) * 6 + 0 < 0 ∨ 384 ≤ ((0 : Int32) * 6 + 0).toNatClampNeg) by decide)]
  by_cases q : gA τ 18 (((0 : Int32) * 6 + 0).toNatClampNeg) = -1
  · exact ⟨1, by rw [if_pos q]⟩
  · exact ⟨0, by rw [if_neg q]⟩
theorem f_sets : ∀ (r t w n n' : Nat) (v2 : Int32) (σ τ : Sta), m - t = r → r + 1 < n → r < n' → w < t → FO K m c σ0 τ0 t σ τ →
    SIM (DX K m c σ0) τ0 (f_X1_readBranch_103 n 1 (nI w) σ) (bnw (f_X10_setOne 0 τ) (fun _ s => f_X10_branch_173 n' v2 0 s)) (fun _ σ' _ τ' => ∃ e k, t < e ∧ GS K k t e ∧ FO K m c σ0 τ0 e σ' τ')
  | r, t, w, 0, n', v2, σ, τ, hr, hn, hn', hw, h => absurd hn (Nat.not_lt_zero _)
  | r, t, w, n + 1, 0, v2, σ, τ, hr, hn, hn', hw, h => absurd hn' (Nat.not_lt_zero _)
  | r, t, w, n + 1, n' + 1, v2, σ, τ, hr, hn, hn', hw, h => by
    have ht := h.1.2.2.1
    have hm := h.1.1.1
    have HM := h.hm
    obtain ⟨n2, rfl⟩ : ∃ n2, n = n2 + 1 := ⟨n - 1, by omega⟩
    rw [f_X1_readBranch_103, if_neg (show ¬ (1500 : Int32) ≤ nI w by rw [nI_Lle (by omega) (by decide)]; omega), if_neg (by decide)]
    rcases f_exp (k0 := 200) h.1 (Or.inr (Or.inr ⟨by decide, by decide⟩)) (by decide) (by decide) 273 (nI 200) rfl rfl with ⟨e1, e2, e3, e4, e5⟩ | ⟨e1, e2, e3⟩
    · have h2 := h.at e5
      obtain ⟨s0, hs0⟩ := m_set0 h e1
      obtain ⟨v, hv⟩ := s_cont h2.2.1 (nI t)
      obtain ⟨x, hx⟩ := c_varN h2.2.1.1 v
      obtain ⟨y, hy⟩ := s_set h2.2.1 x
      have h178 : ∀ s1, f_X1_readBranch_154 (f_X1_readBranch_103 (n2 + 1)) (nI w) (nI t) x s1 (sI σ 260 (nI (t + 1))) = f_X1_readBranch_178 (f_X1_readBranch_103 (n2 + 1)) (nI w) (nI t) x 1 (sI σ 260 (nI (t + 1))) := fun s1 => by
        unfold f_X1_readBranch_154 f_X1_readBranch_178
        rw [q_demand h2.qt, bnd_s, hy, bnd_s, q_demand h2.qt, q_demand h2.qt, ite_same]
      rw [e3, bnd_s, hv, bnd_s, hx, bnd_s, h178, h178, ite_same, hs0]
      unfold f_X10_setOne_41 f_X1_readBranch_178
      rw [h.at29, if_neg (nI_in (by omega) (by omega)), must0 h.2.2.1, bnw_l, m_take h.1, if_pos (by omega), bnw_l, q_demand h2.qt, bnd_s, bnw_as]
      refine SIM.bnd (fo_exp h2 (k0 := 105) (Or.inr (Or.inl ⟨by decide, by decide⟩)) (by decide) (by decide) 61 105 rfl rfl) (fun r2 σ b2 τ ⟨k2, _, h⟩ => ?_) (fun _ _ e p d => Go.imp (sk_s1 d n2 (nI w) _) (fun _ d => d.dx))
      rw [bnw_as]
      refine SIM.bnd (fo_expr h) (fun r3 σ b3 τ ⟨x, x1, x2, h⟩ => ?_) (fun _ _ e p d => (by
        rw [q_right d.qt, bnd_s, if_pos rfl, b215_0 (dx_acc HM d (k0 := 104) (Or.inr (Or.inl ⟨by decide, by decide⟩)) (by decide) (by decide) (by decide) 44 rfl)]
        exact Go.of d))
      have hx := h.1.2.2.1
      rw [q_right h.qt, bnd_s, if_pos rfl, if_pos h.2.2.1]
      unfold f_X1_readBranch_215 f_X10_setOne_88
      rw [bnw_l, f_X10_branch_173]
      rcases fo_acc h (k0 := 104) (Or.inr (Or.inl ⟨by decide, by decide⟩)) (by decide) (by decide) 44 104 rfl rfl with ⟨b1, b2, b3, b4, b5⟩ | ⟨b1, b2, b3⟩
      · rw [b2, b3, bnd_s, bnd_s, lt_e, nI_1, ite10, b4, bnw_l]
        refine SIM.imp (f_sets (m - (x + 1)) (x + 1) (w + 1) (n2 + 1) n' v2 _ _ rfl (by omega) (by omega) (by omega) b5) (fun _ σ' _ τ' ⟨e, k, c1, c2, c3⟩ => ⟨e, k + 1, by omega, ⟨e1, k2, x, x1, x2, Or.inr ⟨b1, c2⟩⟩, c3⟩) (fun _ _ _ d => d)
      · rw [b2, b3, bnd_s, bnd_s, lt_e, b103_0, if_pos rfl]
        unfold f_X10_branch_195 f_X10_branch_209
        rw [if_pos h.2.2.1]
        exact SIM.ok ⟨x, 1, by omega, ⟨e1, k2, x, x1, x2, Or.inl ⟨b1, rfl⟩⟩, h⟩
    · have hq : ¬ K t = 200 := fun e => e1 ⟨e, by omega⟩
      have d0 := h.er t
      obtain ⟨v, hv⟩ := s_cont d0.1 (nI t)
      obtain ⟨x, hx⟩ := c_varN d0.1.1 v
      unfold f_X10_setOne
      rw [e2, bnd_s, hv, bnd_s, hx, bnd_s, m_isL h.1 200 200 rfl (by decide), bnd_s, if_neg hq, ite00, m_wrong h.1, bnr_s, bnw_r]
      have hd : Go (if x < 0 then f_X1_readBranch_154 (f_X1_readBranch_103 (n2 + 1)) (nI w) (nI t) x 0 (erC σ 1 t) else f_X1_readBranch_154 (f_X1_readBranch_103 (n2 + 1)) (nI w) (nI t) x 1 (erC σ 1 t)) (fun o => SK σ0 1 (gA σ 12 t) o.2) := by
        by_cases q : x < 0
        · rw [if_pos q]; exact sk_154 d0 _ _ _ _ _
        · rw [if_neg q]; exact sk_154 d0 _ _ _ _ _
      obtain ⟨⟨r', σ''⟩, d1, d2⟩ := hd
      exact Or.inr ⟨_, _, _, _, _, d1, rfl, d2.dx, Kh_m h.2.2.2.2⟩
/-- a branch -/
theorem f_branch (h : FO K m c σ0 τ0 t σ τ) (v2 : Int32) : SIM (DX K m c σ0) τ0 (f_X1_readBranch σ) (f_X10_branch 0 v2 τ) (fun _ σ' _ τ' => ∃ e, t < e ∧ GB1 K t e ∧ FO K m c σ0 τ0 e σ' τ') := by
  have ht := h.1.2.2.1
  have hm := h.1.1.1
  have HM := h.hm
  obtain ⟨n, b, l1, l2, l3, l4, l5⟩ := s_lb h.2.1
  have hC : f_X1_readBranch σ = f_X1_readBranch_17 1 σ := by
    unfold f_X1_readBranch f_X1_readBranch_17
    rw [l5, bnd_s, q_demand h.qt, q_demand h.qt, ite_same]
  rw [hC]
  unfold f_X10_branch f_X1_readBranch_17
  rw [h.at29, if_neg (nI_in (by omega) (by omega)), lt_e, q_demand h.qt, bnd_s]
  refine SIM.bnd (fo_exp h (k0 := 8) (Or.inl (by decide)) (by decide) (by decide) 264 8 rfl rfl) (fun r2 σ b2 τ ⟨k2, _, h⟩ => ?_) (fun _ _ e p d => Go.imp (Go.bnd (sk_exp d (by decide)) fun r s d => sk_b11 d r) (fun _ d => d.dx))
  have ht := h.1.2.2.1
  have h27 : ∀ s0 p2, f_X10_branch_27 0 v2 p2 s0 τ = f_X10_branch_27 0 v2 p2 1 τ := fun s0 p2 => by
    unfold f_X10_branch_27
    rw [must0 h.2.2.1, must0 h.2.2.1]
  rw [h27 0, ite_same]
  unfold f_X10_branch_27
  rw [must0 h.2.2.1, bnw_l, m_isL h.1 201 201 rfl (by decide), bnd_s]
  rcases f_exp (k0 := 201) h.1 (Or.inr (Or.inr ⟨by decide, by decide⟩)) (by decide) (by decide) 274 (nI 201) rfl rfl with ⟨e1, e2, e3, e4, e5⟩ | ⟨e1, e2, e3⟩
  · have htm := BX_m h.1 (by omega)
    have g2 : t + 1 + 1 = t + 2 := rfl
    have k34 : Kh τ (sI τ 34 ((gJ τ 5 (t + 1)).toInt32)) := Kp.sI (by unfold hI; omega) Kp.rfl'
    have hB34 := BX_h h.1 k34 rfl rfl rfl
    have h34 := h.go hB34 h.2.1.1 Kp.rfl' k34
    have h2 := h34.at (BX_take hB34 htm (by omega))
    obtain ⟨v, hv⟩ := s_cont h2.2.1 (nI (t + 1))
    have h70 : ∀ s1, f_X1_readBranch_70 (nI (t + 1)) v s1 (sI σ 260 (nI (t + 1 + 1))) = f_X1_readBranch_91 (sI σ 260 (nI (t + 1 + 1))) := fun s1 => by
      unfold f_X1_readBranch_70
      rw [q_demand h2.qt, bnd_s, q_right h2.qt, bnd_s, if_pos rfl]
    have h30 := h2.2.2.1
    rw [e3, bnd_s, hv, bnd_s]
    unfold f_X1_readBranch_69
    rw [h70, h70, ite_same, ite_same, if_pos e1, ite10, h.at29, if_neg (nI_in (by omega) (by omega)), nI_clamp (by omega), e_isIn, bnd_s, h.at29, if_neg (nI_in (by omega) (by omega)), must0 h.2.2.1, bnw_l, h.at29, if_neg (nI_in (by omega) (by omega)), lt_e, nI_clamp (by omega), m_take hB34, if_pos (by omega), bnw_l, if_pos h30]
    unfold f_X10_branch_110 f_X1_readBranch_91
    rw [lt_e]
    obtain ⟨τ3, f1, f2, f3⟩ := gA_clear 6 0 FU 0 (tkM (sI τ 34 ((gJ τ 5 (t + 1)).toInt32)) 5000 (t + 1)) v2 rfl (FU_lt (by decide)) (by decide)
    have f1' : f_X10_branch_116 FU v2 ((0 : Int32) * 4 + 0) 0 (tkM (sI τ 34 ((gJ τ 5 (t + 1)).toInt32)) 5000 (t + 1)) = f_X10_branch_116 (FU - 6) v2 0 6 τ3 := f1
    have kA : Kh (tkM (sI τ 34 ((gJ τ 5 (t + 1)).toInt32)) 5000 (t + 1)) τ3 := f2.mono (fun _ e => e.elim) (fun _ e => e.elim) (fun _ e => e) (fun _ e => e.elim)
    have kB : Kh τ3 (sA τ3 17 (upd (gA τ3 17) 0 (gI τ3 34))) := Kp.sA (Or.inl rfl) Kp.rfl'
    have kC' := Kp.trans kA kB
    have h3 := h2.go (BX_h h2.1 kC' (f2.1 29 id) (f2.1 31 id) (f2.1 32 id)) h2.2.1.1 Kp.rfl' kC'
    rw [f1', show FU - 6 = 999999993 + 1 from rfl, f_X10_branch_116, if_pos (by decide), if_neg (show ¬ ((0 : Int32) < 0 ∨ 64 ≤ (0 : Int32).toNatClampNeg) by decide), lt_e, show ((0 : Int32).toNatClampNeg) = 0 from rfl]
    rcases fo_acc h3 (k0 := 9) (Or.inl (by decide)) (by decide) (by decide) 265 9 rfl rfl with ⟨b1, b2, b3, b4, b5⟩ | ⟨b1, b2, b3⟩
    · have hx := b5.1.2.2.1
      rw [b2, b3, bnd_s, bnd_s, ite10, b4, bnw_l]
      refine SIM.imp (f_sets (m - (t + 1 + 1 + 1)) (t + 1 + 1 + 1) 0 FU FU v2 _ _ rfl (FU_lt (by omega)) (FU_lt (by omega)) (by omega) b5) (fun _ σ' _ τ' ⟨e, k, c1, c2, c3⟩ => ⟨e, by omega, ⟨k2, e1, Or.inr ⟨b1, k, c1, c2⟩⟩, c3⟩) (fun _ _ _ d => d)
    · rw [b2, b3, bnd_s, bnd_s, if_pos rfl, show FU = 999999999 + 1 from rfl, b103_0]
      unfold f_X10_branch_195 f_X10_branch_209
      rw [if_pos h3.2.2.1]
      exact SIM.ok ⟨t + 2, by omega, ⟨k2, e1, Or.inl ⟨b1, rfl⟩⟩, h3⟩
  · have hq : ¬ K (t + 1) = 201 := fun e => e1 ⟨e, by omega⟩
    rw [e2, bnd_s, if_neg hq, ite00, m_wrong h.1, bnr_s]
    obtain ⟨⟨r', σ''⟩, d1, d2⟩ := sk_b11 (h.er (t + 1)) (nI (t + 1))
    exact Or.inr ⟨_, _, _, _, _, d1, rfl, d2.dx, Kh_m h.2.2.2.2⟩
theorem f_cmds (v1 : Int32) (p1 : Int32) (v2 : Int64) (v4 : Int32) : ∀ (r t w n n' : Nat) (v6 : Int32) (g : Sta → Int32) (σ τ : Sta), m - t = r → r < n → r + 1 < n' → w < t → FO K m c σ0 τ0 t σ τ →
    SIM (SK σ0) τ0 (f_X1_readCommand_96 n v1 (nI w) σ) (bnw (bnw (f_X10_branch 0 v6 τ) (fun b s => f_X10_command_59 n' p1 v2 v4 0 b (g s) s)) (fun _ s => f_X10_item_186 s)) (fun _ σ' _ τ' => ∃ e k, t < e ∧ GB K k t e ∧ K e = 102 ∧ FO K m c σ0 τ0 (e + 1) σ' τ')
  | r, t, w, 0, n', v6, g, σ, τ, hr, hn, hn', hw, h => absurd hn (Nat.not_lt_zero _)
  | r, t, w, n + 1, 0, v6, g, σ, τ, hr, hn, hn', hw, h => absurd hn' (Nat.not_lt_zero _)
  | r, t, w, n + 1, n' + 1, v6, g, σ, τ, hr, hn, hn', hw, h => by
    have ht := h.1.2.2.1
    have hm := h.1.1.1
    have HM := h.hm
    rw [f_X1_readCommand_96, bnw_as]
    refine SIM.bnd (f_branch h v6) (fun r2 σ b2 τ ⟨x, x1, x2, h⟩ => ?_) (fun _ _ e p d => dx_x4 HM d n v1 _)
    have hx := h.1.2.2.1
    have hx2 : t + 2 ≤ x := by
      rcases x2.2.2 with ⟨_, e⟩ | ⟨_, _, e, _⟩ <;> omega
    rw [lt_e, nI_1, f_X10_command_59, if_neg (show ¬ (1500 : Int32) ≤ nI (w + 1) by rw [nI_Lle (by omega) (by decide)]; omega)]
    rcases fo_acc h (k0 := 10) (Or.inl (by decide)) (by decide) (by decide) 266 10 rfl rfl with ⟨b1, b2, b3, b4, b5⟩ | ⟨b1, b2', b3⟩
    · rw [b2, b3, bnd_s, bnd_s, ite10, ite10, b4, bnw_l]
      refine SIM.imp (f_cmds v1 p1 v2 v4 (m - (x + 1)) (x + 1) (w + 1) n n' _ (fun s => g τ + gI s 34) _ _ rfl (by omega) (by omega) (by omega) b5) (fun _ σ' _ τ' ⟨e, k, c1, c2, c3, c4⟩ => ⟨e, k + 1, by omega, ⟨x, x1, x2, Or.inr ⟨b1, c2⟩⟩, c3, c4⟩) (fun _ _ _ d => d)
    · have h107 : ∀ s0, f_X10_command_107 p1 v2 v4 0 b2 s0 τ = some (.inl (), τ) := fun s0 => by
        unfold f_X10_command_107
        rw [must0 h.2.2.1, bnw_l, if_pos h.2.2.1]
      rw [b2', b3, bnd_s, bnd_s, if_pos rfl, if_pos rfl, h107, h107, ite_same, bnw_l]
      unfold f_X1_readCommand_120
      rcases fo_semi h with ⟨r, σ', b, τ', c1, c2, c3, c4, c5⟩ | ⟨r, σ', τ', e, p, c1, c2, c3, c4⟩
      · obtain ⟨y, hy⟩ := s_lc c5.2.1
        have h145 : ∀ s0, f_X1_readCommand_145 v1 s0 σ' = some ((), σ') := fun s0 => by
          unfold f_X1_readCommand_145
          rw [q_demand c5.qt, bnd_s]
        rw [c1, c2, bnd_s, hy, bnd_s, h145, h145, ite_same]
        exact SIM.ok ⟨x, 1, by omega, ⟨x, x1, x2, Or.inl ⟨b1, rfl⟩⟩, c3, c5⟩
      · rw [c1, c2, bnd_s]
        obtain ⟨⟨r', σ''⟩, d1, d2⟩ := sk_120b c3 v1
        exact Or.inr ⟨_, _, _, _, _, d1, rfl, d2, c4⟩
theorem dx_c94 {e p : Int32} {σ : Sta} (HM : m ≤ 1500 ∧ m < c ∧ c ≤ 1501) (h : DX K m c σ0 e p σ) (r7 r16 : Int32) : Go (bnd (f_X1_isMeaningRight σ) (fun r19 σ20 =>
  if r19 = 0 then
    f_X1_readCommand_94 r7 σ20
  else
    bnd (f_X7_contentOf r7 σ20) (fun r23 σ24 =>
    bnd (f_X8_entry 12 1501 r7 σ24) (fun r26 σ27 =>
    bnd (f_X4_addCommand r23 r26 r16 σ27) (fun _ σ30 =>
    f_X1_readCommand_94 r7 σ30))))) (fun o => SK σ0 e p o.2) := by
  rw [q_right h.qt, bnd_s, if_pos rfl]
  unfold f_X1_readCommand_94
  exact dx_96 HM h 999999999 _ _
theorem f_cmd (h8 : gI τ0 8 = 0) (h : FO K m c σ0 τ0 t σ τ) (hk : K t = 6) : SIM (SK σ0) τ0 (f_X1_readCommand σ) (f_X10_item τ) (fun _ σ' _ τ' => ∃ e, t + 1 < e ∧ GI K t e ∧ FO K m c σ0 τ0 e σ' τ') := by
  obtain ⟨a1, a2, a3⟩ := fo_tok h hk (Or.inl (by decide)) (by decide) (by decide) 262 rfl
  have HM := h.hm
  have ht := a3.1.2.2.1
  have hC : f_X1_readCommand σ = f_X1_readCommand_18 1 σ := by
    unfold f_X1_readCommand f_X1_readCommand_18
    rw [q_demand h.qt, q_demand h.qt, ite_same]
  rw [m_item0 h.1 (Or.inr (Or.inr (Or.inr hk))), hC]
  unfold f_X10_item_128 f_X1_readCommand_18 f_X10_command
  rw [q_demand h.qt, bnd_s, a1, bnd_s, must0 a3.2.2.1, bnw_l, hk, if_neg (show ¬ nI 6 = 0 by decide), if_neg (show ¬ nI 6 = 3 by decide), if_pos (show nI 6 = 6 from rfl), a3.at29, if_neg (nI_in (by omega) (by omega)), lt_e, bnw_as]
  refine SIM.bnd (fo_name h8 a3) (fun r1 σ b τ ⟨k1, _, h⟩ => ?_) (fun _ _ e p d => (by
    rw [q_new d.qt, bnd_s]
    exact Go.bnd (sk_exp d (by decide)) fun _ _ d => Go.bnd (sk_expr d) fun _ _ d => dx_c94 (K := K) HM d.dx _ _))
  rw [q_new h.qt, bnd_s, bnw_as]
  refine SIM.bnd (fo_exp h (k0 := 7) (Or.inl (by decide)) (by decide) (by decide) 263 7 rfl rfl) (fun r2 σ b2 τ ⟨k2, _, h⟩ => ?_) (fun _ _ e p d => Go.bnd (sk_expr d) fun _ _ d => dx_c94 (K := K) HM d.dx _ _)
  rw [bnw_as]
  refine SIM.bnd (fo_expr h) (fun r3 σ b3 τ ⟨x, x1, x2, h⟩ => ?_) (fun _ _ e p d => dx_c94 HM d _ _)
  have hx := h.1.2.2.1
  rw [q_right h.qt, bnd_s, if_pos rfl, if_pos h.2.2.1]
  unfold f_X1_readCommand_94 f_X10_command_42
  exact SIM.imp (f_cmds r1 _ b b3 (m - x) x 0 FU FU 0 (fun s => gI s 34) σ τ rfl (FU_lt (by omega)) (FU_lt (by omega)) (by omega) h) (fun _ σ' _ τ' ⟨e, k, c1, c2, c3, c4⟩ => ⟨e + 1, by omega, Or.inr (Or.inr (Or.inr ⟨hk, k1, k2, x, x1, x2, k, e, c1, c2, c3, rfl⟩)), c4⟩) (fun _ _ _ d => d)
/-! the whole program -/
theorem q_116 {σ : Sta} (h : QQ σ) : f_X1_readProgram_116 σ = some ((), σ) := by
  unfold f_X1_readProgram_116 f_X1_readProgram_141 f_X1_readProgram_142
  rw [q_demand h, q_demand h, bnd_s, ite_same, ite_same]
theorem sk_89p {e p : Int32} {σ : Sta} (h : SK σ0 e p σ) (k7 : Int32 → Sta → Option (Unit × Sta)) (v2 : Int32) : Go (f_X1_readProgram_89 k7 v2 σ) (fun o => SK σ0 e p o.2) := by
  unfold f_X1_readProgram_89
  rw [lt_e, if_neg h.ne, q_116 h.qt, ite_same]
  exact Go.of h
theorem c_other {n : Nat} {v2 x : Int32} {σ : Sta} (hl : f_X1_look σ = some (x, σ)) (h1 : x ≠ 256) (h2 : x ≠ 259) (h3 : x ≠ 261) (h4 : x ≠ 262) : f_X1_readProgram_7 (n + 1) v2 σ = bnd (f_X1_fail 1 (gI σ 260) σ) (fun _ σ33 => f_X1_readProgram_89 (f_X1_readProgram_7 n) v2 σ33) := by
  rw [f_X1_readProgram_7, hl, bnd_s, if_neg h1, if_neg h2, if_neg h3, if_neg h4, ite_same, ite_same, ite_same]
theorem kC_in {k : Nat} (hk : KV k) {k0 : Nat} (h0 : KV k0) (h1 : k0 ≠ 103) (h2 : k0 ≠ 203) (a : Int32) (ha : a = nI (kC k0)) : nI (kC k) = a ↔ k = k0 := by rw [ha]; exact kC_eq hk h0 h1 h2
theorem f_prog (h8 : gI τ0 8 = 0) : ∀ (r t w n n' : Nat) (σ τ : Sta), m - t = r → r < n → r < n' → w ≤ t → FO K m c σ0 τ0 t σ τ →
    SIM (SK σ0) τ0 (f_X1_readProgram_7 n (nI w) σ) (bnw (f_X10_item τ) (fun _ s => f_X10_readAll_19 n' s)) (fun _ σ' _ τ' => ∃ k, GPN K (k + 1) t m ∧ K m = 202 ∧ FO K m c σ0 τ0 m σ' τ')
  | r, t, w, 0, n', σ, τ, hr, hn, hn', hw, h => absurd hn (Nat.not_lt_zero _)
  | r, t, w, n + 1, 0, σ, τ, hr, hn, hn', hw, h => absurd hn' (Nat.not_lt_zero _)
  | r, t, w, n + 1, n' + 1, σ, τ, hr, hn, hn', hw, h => by
    have ht := h.1.2.2.1
    have hm := h.1.1.1
    have HM := h.hm
    have hV := (BX_K h.1 ht).1
    have hlk := c_look h.1
    rw [if_pos (by omega)] at hlk
    have i0 := kC_in hV (k0 := 0) (Or.inl (by decide)) (by decide) (by decide) 256 rfl
    have i3 := kC_in hV (k0 := 3) (Or.inl (by decide)) (by decide) (by decide) 259 rfl
    have i5 := kC_in hV (k0 := 5) (Or.inl (by decide)) (by decide) (by decide) 261 rfl
    have i6 := kC_in hV (k0 := 6) (Or.inl (by decide)) (by decide) (by decide) 262 rfl
    have next : ∀ (C : Option (Unit × Sta)), SIM (SK σ0) τ0 C (f_X10_item τ) (fun _ σ' _ τ' => ∃ e, t + 1 < e ∧ GI K t e ∧ FO K m c σ0 τ0 e σ' τ') → SIM (SK σ0) τ0 (bnd C (fun _ s => f_X1_readProgram_89 (f_X1_readProgram_7 n) (nI w) s)) (bnw (f_X10_item τ) (fun _ s => f_X10_readAll_19 (n' + 1) s)) (fun _ σ' _ τ' => ∃ k, GPN K (k + 1) t m ∧ K m = 202 ∧ FO K m c σ0 τ0 m σ' τ') := fun C hC => by
      refine SIM.bnd hC (fun r2 σ b2 τ ⟨e, e1, e2, h⟩ => ?_) (fun _ _ e p d => sk_89p d _ _)
      have he := h.1.2.2.1
      have hl2 := c_look h.1
      rw [if_pos (by omega)] at hl2
      have hV2 := (BX_K h.1 he).1
      have i202 := kC_in hV2 (k0 := 202) (Or.inr (Or.inr ⟨by decide, by decide⟩)) (by decide) (by decide) 278 rfl
      unfold f_X1_readProgram_89
      rw [lt_e, nI_1, if_neg (show ¬ (1500 : Int32) ≤ nI (w + 1) by rw [nI_Lle (by omega) (by decide)]; omega), if_pos h.1.2.2.2.2.2.1, hl2, bnd_s, f_X10_readAll_19, m_isL h.1 202 202 rfl (by decide), bnd_s]
      by_cases q : K e = 202
      · have hem : e = m := by
          rcases Nat.lt_or_ge e m with q2 | q2
          · have h7 := h.1.1.2.2.2.2.2.2.1 e q2
            rw [h.1.2.1] at h7
            omega
          · omega
        subst hem
        rw [if_pos (i202.mpr q), if_pos q, ite10, q_116 h.qt]
        exact SIM.ok ⟨0, ⟨e, e1, e2, rfl⟩, q, h⟩
      · rw [if_neg (fun x => q (i202.mp x)), if_neg q, ite00]
        refine SIM.imp (f_prog h8 (m - e) e (w + 1) n n' _ _ rfl (by omega) (by omega) (by omega) h) (fun _ σ' _ τ' ⟨k, c1, c2, c3⟩ => ⟨k + 1, ⟨e, e1, e2, c1⟩, c2, c3⟩) (fun _ _ _ d => d)
    by_cases q0 : K t = 0
    · have q := i0.mpr q0
      rw [f_X1_readProgram_7, hlk, bnd_s, if_pos q]
      exact next _ (f_var h8 h q0)
    by_cases q3 : K t = 3
    · have q := i3.mpr q3
      rw [f_X1_readProgram_7, hlk, bnd_s, q, if_neg (by decide), if_neg (by decide), if_neg (by decide), if_pos rfl]
      exact next _ (f_gain h8 h q3)
    by_cases q5 : K t = 5
    · have q := i5.mpr q5
      rw [f_X1_readProgram_7, hlk, bnd_s, q, if_neg (by decide), if_neg (by decide), if_neg (by decide), if_neg (by decide), if_neg (by decide), if_pos rfl]
      exact next _ (f_goal h q5)
    by_cases q6 : K t = 6
    · have q := i6.mpr q6
      rw [f_X1_readProgram_7, hlk, bnd_s, q, if_neg (by decide), if_neg (by decide), if_neg (by decide), if_neg (by decide), if_neg (by decide), if_neg (by decide), if_pos rfl]
      exact next _ (f_cmd h8 h q6)
    rw [c_other hlk (fun e => q0 (i0.mp e)) (fun e => q3 (i3.mp e)) (fun e => q5 (i5.mp e)) (fun e => q6 (i6.mp e)), h.1.2.2.2.2.2.2.1, c_fail h.1.2.2.2.2.2.1 1 (by omega), bnd_s, m_item h.1, if_neg (by omega), bnw_r]
    obtain ⟨⟨r', σ''⟩, d1, d2⟩ := sk_89p (h.er t) (f_X1_readProgram_7 n) (nI w)
    exact Or.inr ⟨_, _, _, _, _, d1, rfl, d2, Kh_m h.2.2.2.2⟩
end FC
