/-! The form pass: gains, goals, branches, commands. -/
theorem ite_same {α : Type} (P : Prop) [Decidable P] (A : α) : (if P then A else A) = A := by
  by_cases q : P
  · rw [if_pos q]
  · rw [if_neg q]
section FG
variable {K : Nat → Nat} {m c t : Nat} {σ0 τ0 σ τ : Sta}
theorem m_isCl (h : BX K m c 5000 t 0 σ τ) (w : Int64) : ∀ (r k n : Nat) (v3 : Int32), k + r = m → r < n → (v3 = 0 ∨ v3 = 1) → ∃ x, f_X10_isCommand_5 n w v3 (nI k) τ = some (x, τ)
  | _, _, 0, _, _, hn, _ => absurd hn (Nat.not_lt_zero _)
  | r, k, n + 1, v3, hk, hn, hv => by
    have hm := h.1.1
    rw [f_X10_isCommand_5, h.1.2.2.2.2.1, nI_1]
    by_cases q : m ≤ k
    · exact ⟨v3, by rw [if_pos (nI_le (by omega) (by omega)), if_neg (fun e => e hv)]⟩
    · rw [if_neg (nI_ge (by omega) (by omega))]
      unfold f_X10_isCommand_61 f_X10_isCommand_65 f_X10_isCommand_66
      rw [if_neg (nI_in (by omega) (by omega)), if_neg (nI_in (by omega) (by omega)), if_neg (nI_in (by omega) (by omega)), lt_e, lt_e, nI_1]
      obtain ⟨x, hx⟩ := m_isCl h w (r - 1) (k + 1) n 1 (by omega) (by omega) (Or.inr rfl)
      obtain ⟨y, hy⟩ := m_isCl h w (r - 1) (k + 1) n 0 (by omega) (by omega) (Or.inl rfl)
      rw [hx, hy]
      by_cases q1 : v3 = 0
      · rw [if_pos q1]
        by_cases q2 : gA τ 3 ((nI k).toNatClampNeg) = 6
        · rw [if_pos q2]
          by_cases q3 : gA τ 3 ((nI (k + 1)).toNatClampNeg) = 200
          · rw [if_pos q3]
            by_cases q4 : lg_cmp (gJ τ 5 ((nI (k + 1)).toNatClampNeg)) w = 0
            · exact ⟨x, by rw [if_pos q4]⟩
            · exact ⟨y, by rw [if_neg q4]⟩
          · exact ⟨y, by rw [if_neg q3]⟩
        · exact ⟨y, by rw [if_neg q2]⟩
      · exact ⟨x, by rw [if_neg q1]⟩
theorem m_isCmd (h : BX K m c 5000 t 0 σ τ) (w : Int64) : ∃ x, f_X10_isCommand w τ = some (x, τ) := by
  have hm := h.1.1
  exact m_isCl h w m 0 FU 0 (by omega) (FU_lt (by omega)) (Or.inl rfl)
theorem q_137 {e p : Int32} {σ : Sta} (h : SK σ0 e p σ) (v1 v2 r4 : Int32) : Go (bnd (f_X1_isMeaningRight σ) (fun r10 σ11 =>
  if r10 = 0 then
    f_X1_readGain_137 σ11
  else
    bnd (f_X7_contentOf v1 σ11) (fun r14 σ15 =>
    bnd (f_X4_addGain r14 v2 r4 σ15) (fun _ σ18 =>
    f_X1_readGain_137 σ18)))) (fun o => SK σ0 e p o.2) := by
  rw [q_right h.qt, bnd_s, if_pos rfl]
  exact Go.of h
theorem sk_94 {e p : Int32} {σ : Sta} (h : SK σ0 e p σ) (v1 v2 : Int32) : Go (f_X1_readGain_94 v1 v2 σ) (fun o => SK σ0 e p o.2) := by
  unfold f_X1_readGain_94
  exact Go.bnd (sk_exp h (by decide)) fun _ _ h => Go.bnd (sk_expr h) fun _ _ h => Go.bnd (sk_exp h (by decide)) fun _ _ h => q_137 h _ _ _
theorem sk_89 {e p : Int32} {σ : Sta} (h : SK σ0 e p σ) (v1 v2 v3 s0 : Int32) : Go (f_X1_readGain_89 v1 v2 v3 s0 σ) (fun o => SK σ0 e p o.2) := by
  unfold f_X1_readGain_89
  rw [q_demand h.qt, bnd_s]
  exact sk_94 h _ _
theorem sk_per {e p : Int32} {σ : Sta} (h : SK σ0 e p σ) (r7 r18 : Int32) : Go (bnd (f_X7_contentOf r18 σ) (fun r21 σ22 =>
    bnd (f_X1_commandNamed r21 σ22) (fun r24 σ25 =>
    if r24 < 0 then
      f_X1_readGain_89 r7 r24 r18 0 σ25
    else
      f_X1_readGain_89 r7 r24 r18 1 σ25))) (fun o => SK σ0 e p o.2) := by
  obtain ⟨v, hv⟩ := s_cont h.1 r18
  obtain ⟨k, hk⟩ := s_cmd h.1 v
  rw [hv, bnd_s, hk, bnd_s]
  by_cases q : k < 0
  · rw [if_pos q]; exact sk_89 h _ _ _ _
  · rw [if_neg q]; exact sk_89 h _ _ _ _
theorem sk_acc260 {e p : Int32} {σ : Sta} (h : SK σ0 e p σ) (r7 : Int32) : Go (bnd (f_X1_demandNewName r7 σ) (fun _ σ11 =>
  lt (-1) (fun x13 =>
  bnd (f_X1_accept 260 σ11) (fun r14 σ15 =>
  if r14 = 0 then
    f_X1_readGain_94 r7 x13 σ15
  else
    bnd (f_X1_expect 273 σ15) (fun r18 σ19 =>
    bnd (f_X7_contentOf r18 σ19) (fun r21 σ22 =>
    bnd (f_X1_commandNamed r21 σ22) (fun r24 σ25 =>
    if r24 < 0 then
      f_X1_readGain_89 r7 r24 r18 0 σ25
    else
      f_X1_readGain_89 r7 r24 r18 1 σ25))))))) (fun o => SK σ0 e p o.2) := by
  rw [q_new h.qt, bnd_s, lt_e, sk_acc h (by decide), bnd_s, if_pos rfl]
  exact sk_94 h _ _
/-- behind the `=` of a gain -/
theorem f_gain67 (h : FO K m c σ0 τ0 t σ τ) (per : Int64) (v1 v2 : Int32) : SIM (SK σ0) τ0 (f_X1_readGain_94 v1 v2 σ) (bnw (f_X10_gain_67 per τ) (fun _ s => f_X10_item_186 s)) (fun _ σ' _ τ' => K t = 105 ∧ ∃ b, t + 1 < b ∧ GX K (t + 1 + 60) 100 0 0 (t + 1) b ∧ K b = 102 ∧ FO K m c σ0 τ0 (b + 1) σ' τ') := by
  unfold f_X10_gain_67 f_X1_readGain_94
  rw [bnw_as]
  refine SIM.bnd (fo_exp h (k0 := 105) (Or.inr (Or.inl ⟨by decide, by decide⟩)) (by decide) (by decide) 61 105 rfl rfl) (fun r2 σ b2 τ ⟨k2, _, h⟩ => ?_) (fun _ _ e p d => Go.bnd (sk_expr d) fun _ _ d => Go.bnd (sk_exp d (by decide)) fun _ _ d => q_137 d _ _ _)
  rw [bnw_as]
  refine SIM.bnd (fo_expr h) (fun r3 σ b3 τ ⟨x, x1, x2, h⟩ => ?_) (fun _ _ e p d => Go.bnd (dx_exp h.hm d (k0 := 102) (Or.inr (Or.inl ⟨by decide, by decide⟩)) (by decide) (by decide) (by decide) 59 rfl) fun _ _ d => q_137 d _ _ _)
  rw [if_pos h.2.2.1, bnw_l]
  rcases fo_semi h with ⟨r, σ', b, τ', c1, c2, c3, c4, c5⟩ | ⟨r, σ', τ', e, p, c1, c2, c3, c4⟩
  · rw [c1, c2, bnd_s, q_right c5.qt, bnd_s, if_pos rfl]
    exact SIM.ok ⟨k2, x, x1, x2, c3, c5⟩
  · rw [c1, c2, bnd_s]
    obtain ⟨⟨r', σ''⟩, d1, d2⟩ := q_137 c3 v1 v2 r3
    exact Or.inr ⟨_, _, _, _, _, d1, rfl, d2, c4⟩
theorem f_gain (h8 : gI τ0 8 = 0) (h : FO K m c σ0 τ0 t σ τ) (hk : K t = 3) : SIM (SK σ0) τ0 (f_X1_readGain σ) (f_X10_item τ) (fun _ σ' _ τ' => ∃ e, t + 1 < e ∧ GI K t e ∧ FO K m c σ0 τ0 e σ' τ') := by
  obtain ⟨a1, a2, a3⟩ := fo_tok h hk (Or.inl (by decide)) (by decide) (by decide) 259 rfl
  have hC : f_X1_readGain σ = f_X1_readGain_17 1 σ := by
    unfold f_X1_readGain f_X1_readGain_17
    rw [q_demand h.qt, q_demand h.qt, ite_same]
  rw [m_item0 h.1 (Or.inr (Or.inl hk)), hC]
  unfold f_X10_item_128 f_X1_readGain_17 f_X10_gain
  rw [q_demand h.qt, bnd_s, a1, bnd_s, must0 a3.2.2.1, bnw_l, hk, if_neg (show ¬ nI 3 = 0 by decide), if_pos (show nI 3 = 3 from rfl), bnw_as]
  refine SIM.bnd (fo_name h8 a3) (fun r1 σ b τ ⟨k1, _, h⟩ => ?_) (fun _ _ e p d => sk_acc260 d _)
  rw [q_new h.qt, bnd_s, lt_e]
  rcases fo_acc h (k0 := 4) (Or.inl (by decide)) (by decide) (by decide) 260 4 rfl rfl with ⟨b1, b2, b3, b4, b5⟩ | ⟨b1, b2, b3⟩
  · rw [b2, b3, bnd_s, bnd_s, ite10, ite10, b4, bnw_l]
    have ht := b5.1.2.2.1
    have hm := b5.1.1.1
    rw [m_isL b5.1 200 200 rfl (by decide), bnd_s]
    rcases f_exp (k0 := 200) b5.1 (Or.inr (Or.inr ⟨by decide, by decide⟩)) (by decide) (by decide) 273 (nI 200) rfl rfl with ⟨e1, e2, e3, e4, e5⟩ | ⟨e1, e2, e3⟩
    · have h6 := b5.at e5
      obtain ⟨v, hv⟩ := s_cont h6.2.1 (nI (t + 1 + 1 + 1))
      obtain ⟨k, hk'⟩ := s_cmd h6.2.1 v
      obtain ⟨r, hr⟩ := m_isCmd b5.1 (gJ (tkM τ 5000 (t + 1 + 1)) 5 (t + 1 + 1 + 1))
      have h89 : ∀ k s0, f_X1_readGain_89 r1 k (nI (t + 1 + 1 + 1)) s0 (sI (sI σ 260 (nI (t + 1 + 1 + 1))) 260 (nI (t + 1 + 1 + 1 + 1))) = f_X1_readGain_94 r1 k (sI (sI σ 260 (nI (t + 1 + 1 + 1))) 260 (nI (t + 1 + 1 + 1 + 1))) := fun k s0 => by
        unfold f_X1_readGain_89
        rw [q_demand h6.qt, bnd_s]
      rw [e3, bnd_s, hv, bnd_s, hk', bnd_s, h89, h89, ite_same, if_pos e1, ite10, b5.at29, if_neg (nI_in (by omega) (by omega)), lt_e, nI_clamp (by omega), hr, bnd_s, b5.at29, if_neg (nI_in (by omega) (by omega)), must0 b5.2.2.1, bnw_l, m_take b5.1, if_pos (by omega), bnw_l]
      refine SIM.imp (f_gain67 h6 _ _ _) (fun _ σ' _ τ' ⟨c1, b, c2, c3, c4, c5⟩ => ⟨b + 1, by omega, Or.inr (Or.inl ⟨hk, k1, t + 1 + 1 + 1 + 1, Or.inr ⟨b1, e1, rfl⟩, c1, b, c2, c3, c4, rfl⟩), c5⟩) (fun _ _ _ d => d)
    · have hq : ¬ K (t + 1 + 1 + 1) = 200 := fun e => e1 ⟨e, by omega⟩
      rw [e2, bnd_s, if_neg hq, ite00, m_wrong b5.1, bnr_s, bnw_r]
      obtain ⟨⟨r', σ''⟩, d1, d2⟩ := sk_per (b5.er (t + 1 + 1 + 1)) r1 (nI (t + 1 + 1 + 1))
      exact Or.inr ⟨_, _, _, _, _, d1, rfl, d2, Kh_m b5.2.2.2.2⟩
  · rw [b2, b3, bnd_s, bnd_s, if_pos rfl, if_pos rfl]
    refine SIM.imp (f_gain67 h _ _ _) (fun _ σ' _ τ' ⟨c1, b, c2, c3, c4, c5⟩ => ⟨b + 1, by omega, Or.inr (Or.inl ⟨hk, k1, t + 2, Or.inl ⟨b1, rfl⟩, c1, b, c2, c3, c4, rfl⟩), c5⟩) (fun _ _ _ d => d)
theorem q_59 {e p : Int32} {σ : Sta} (h : SK σ0 e p σ) (r7 : Int32) : Go (bnd (f_X1_isMeaningRight σ) (fun r13 σ14 =>
  if r13 = 0 then
    f_X1_readGoal_59 σ14
  else
    lt (sI σ14 201 r7) (fun σ17 =>
    f_X1_readGoal_59 σ17))) (fun o => SK σ0 e p o.2) := by
  rw [q_right h.qt, bnd_s, if_pos rfl]
  exact Go.of h
theorem f_goal (h : FO K m c σ0 τ0 t σ τ) (hk : K t = 5) : SIM (SK σ0) τ0 (f_X1_readGoal σ) (f_X10_item τ) (fun _ σ' _ τ' => ∃ e, t + 1 < e ∧ GI K t e ∧ FO K m c σ0 τ0 e σ' τ') := by
  obtain ⟨a1, a2, a3⟩ := fo_tok h hk (Or.inl (by decide)) (by decide) (by decide) 261 rfl
  have hC : f_X1_readGoal σ = f_X1_readGoal_16 1 σ := by
    unfold f_X1_readGoal f_X1_readGoal_16
    rw [q_demand h.qt, q_demand h.qt, ite_same]
  rw [m_item0 h.1 (Or.inr (Or.inr (Or.inl hk))), hC]
  unfold f_X10_item_128 f_X1_readGoal_16
  rw [q_demand h.qt, bnd_s, a1, bnd_s, must0 a3.2.2.1, bnw_l, hk, if_neg (show ¬ nI 5 = 0 by decide), if_neg (show ¬ nI 5 = 3 by decide), if_neg (show ¬ nI 5 = 6 by decide)]
  refine SIM.bnd (fo_expr a3) (fun r3 σ b3 τ ⟨x, x1, x2, h⟩ => ?_) (fun _ _ e p d => Go.bnd (dx_exp h.hm d (k0 := 102) (Or.inr (Or.inl ⟨by decide, by decide⟩)) (by decide) (by decide) (by decide) 59 rfl) fun _ _ d => q_59 d _)
  rw [if_pos h.2.2.1]
  rcases fo_semi h with ⟨r, σ', b, τ', c1, c2, c3, c4, c5⟩ | ⟨r, σ', τ', e, p, c1, c2, c3, c4⟩
  · rw [c1, c2, bnd_s, q_right c5.qt, bnd_s, if_pos rfl]
    exact SIM.ok ⟨x + 1, by omega, Or.inr (Or.inr (Or.inl ⟨hk, x, x1, x2, c3, rfl⟩)), c5⟩
  · rw [c1, c2, bnd_s]
    obtain ⟨⟨r', σ''⟩, d1, d2⟩ := q_59 c3 r3
    exact Or.inr ⟨_, _, _, _, _, d1, rfl, d2, c4⟩
end FG
