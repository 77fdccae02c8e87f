/-! The meaning pass: a branch, all branches, a command. -/
section MD
variable {K : Nat → Nat} {W : Nat → Int64} {m c t u nv ng nc len x sz n : Nat} {pc : Nat → Nat} {rE bE pl : Int32} {w : Int64} {σ0 τ0 σ τ : Sta}
theorem ch_ite {α : Type} (y : Int64) (A B : α) : (if lg_cmp y 1 < 0 then A else if 0 < lg_cmp y 100 then A else B) = if 1 ≤ y ∧ y ≤ 100 then B else A := by
  by_cases q : y < 1
  · rw [if_pos ((lg_cmp_lt _ _).mpr q), if_neg (fun e => Int64.not_lt.mpr e.1 q)]
  · rw [if_neg (fun e => q ((lg_cmp_lt _ _).mp e))]
    by_cases q2 : 100 < y
    · rw [if_pos ((lg_cmp_gt _ _).mpr q2), if_neg (fun e => Int64.not_lt.mpr e.2 q2)]
    · rw [if_neg (fun e => q2 ((lg_cmp_gt _ _).mp e)), if_pos ⟨Int64.not_lt.mp q, Int64.not_lt.mp q2⟩]
theorem m_branch (h : PB K W m c σ0 τ0 u t nv ng nc len x sz n pc rE bE pl w σ τ) (hu : u ≤ t + 1) {e : Nat} (he : e < m) (hG : GB1 K t e) :
    SIM (SK σ0) τ0 (f_X1_readBranch σ) (f_X10_branch (nI nc) (nI n) τ) (fun _ σ' b τ' => n < 4 ∧ ∃ q len' x' sz', b = nI (n + 1) ∧ gI τ' 34 = nI q ∧ PB K W m c σ0 τ0 (e + 1) e nv ng nc len' x' sz' (n + 1) (fun i => if i = n then q else pc i) rE bE pl w σ' τ') := by
  obtain ⟨k0, k1, hend⟩ := hG
  have hte : t + 2 ≤ e := by
    rcases hend with ⟨_, q⟩ | ⟨_, _, q, _⟩ <;> omega
  have hm := h.1.hm.1
  have hn := h.2.1
  have hB := h.1.1
  have h30 := h.1.2.1
  have e29 : gI τ 29 = nI t := hB.2.2.2.2.2.2.2.1
  have e260 : gI σ 260 = nI t := hB.2.2.2.2.2.2.1
  have pl4 : ∀ j, j ≤ m → gA τ 4 j = gA σ 12 j := fun j hj => (BX_K hB hj).2.2.2.1.symm
  have T1 := h.mv1 (by omega) (by omega)
  have T2 := T1.mv1 (by omega) (by omega)
  have x1 := pt_at h.1 k0 (Or.inl (by decide)) (by decide) (by decide) 264 rfl
  have x2 := pt_at T1.1 k1 (Or.inr (Or.inr ⟨by decide, by decide⟩)) (by decide) (by decide) 274 rfl
  unfold f_X1_readBranch f_X10_branch f_X1_readBranch_17 f_X10_branch_27
  rw [h.lb, bnd_s, e29, if_neg (nI_in (by omega) (by omega)), lt_e, nI_clamp (by omega), m_atK hB k0 (by decide) 8 rfl, bnw_l, must1 T1.1.2.1, must1 T1.1.2.1, if_pos rfl, if_neg (show ¬ (1 : Int32) = 0 by decide), e260, d_demand hB h30 _ _ (by omega), d_demand hB h30 _ _ (by omega), if_pos rfl, if_neg (show ¬ (1 : Int32) = 0 by decide), bnd_s, bnd_s]
  by_cases q4 : n = 4
  · have q : (4 : Int32) ≤ nI n := by rw [q4]; decide
    have hE := h.1.er (e := 4) (by decide) t
    obtain ⟨⟨r', σ''⟩, d1, d2⟩ := (Go.bnd (sk_exp hE (a := 264) (by decide)) fun _ _ d => Go.bnd (sk_exp d (a := 274) (by decide)) fun r _ d => sk_b11 d r)
    rw [if_pos q, if_pos q, bnw_r, pl4 t (by omega)]
    exact Or.inr ⟨_, _, _, _, _, d1, rfl, d2, T1.1.2.2.2.2.2.2⟩
  have q : ¬ (4 : Int32) ≤ nI n := by rw [nI_Lle (by omega) (by decide)]; omega
  have c5 := c_contOf T2.1.1 (j := t + 1) (by omega)
  rw [T2.at5] at c5
  have f29 : gI (sI τ 29 (nI (t + 1))) 29 = nI (t + 1) := rfl
  have w5 := T1.at5 (t + 1)
  rw [if_neg q, if_neg q, bnw_l, x1, bnd_s, x2, bnd_s, c5, bnd_s, m_isL T1.1.1 201 201 rfl (by decide), bnd_s, if_pos k1, ite10, f29, if_neg (nI_in (by omega) (by omega)), nI_clamp (by omega), w5, e_isIn, bnd_s, f29, if_neg (nI_in (by omega) (by omega)), must1 T1.1.2.1, nI_clamp (by omega), show gA (sI τ 29 (nI (t + 1))) 4 (t + 1) = gA τ 4 (t + 1) from rfl, pl4 (t + 1) (by omega)]
  unfold f_X1_readBranch_69
  rw [ch_ite]
  by_cases ok : 1 ≤ W (t + 1) ∧ W (t + 1) ≤ 100
  · obtain ⟨qn, qn1, qn2⟩ := w100 ok.1 ok.2
    have T34 := T1.s34 (nI qn)
    have T2' := T34.mv1 (by omega) (by omega)
    rw [sI_sI] at T2'
    have nt : f_X1_isMeaningRight (sI (sI σ 260 (nI (t + 1))) 260 (nI (t + 1 + 1))) = some (1, sI (sI σ 260 (nI (t + 1))) 260 (nI (t + 1 + 1))) := d_right T2.1.1 T2.1.2.1
    rw [if_pos ok, if_pos ok, if_neg (show ¬ (1 : Int32) = 0 by decide), bnw_l, f29, if_neg (nI_in (by omega) (by omega)), lt_e, nI_clamp (by omega), w5, qn2, m_at T34.1.1 (by omega), bnw_l]
    unfold f_X1_readBranch_70 f_X10_branch_110
    rw [d_demand T2.1.1 T2.1.2.1 _ _ (by omega), if_neg (show ¬ (1 : Int32) = 0 by decide), bnd_s, nt, bnd_s, if_neg (show ¬ (1 : Int32) = 0 by decide), qn2, sI_sI, c_addBranch T2' (by omega) qn, bnd_s, if_neg (by
      show ¬ gI τ 30 = 0
      rw [h30]; decide), lt_e, nI_mulL, nI_add, show nc * OfNat.ofNat 4 + n = nc * 4 + n from rfl]
    obtain ⟨τ3, f1, f2, f3⟩ := gA_clear 6 0 FU (nc * 4 + n) (sI (sI (sI τ 29 (nI (t + 1))) 34 (nI qn)) 29 (nI (t + 1 + 1))) (nI n) rfl (FU_lt (by decide)) (by omega)
    have g34 : gI τ3 34 = nI qn := by rw [f3]; rfl
    have f1' : f_X10_branch_116 FU (nI n) (nI (nc * 4 + n)) 0 (sI (sI (sI τ 29 (nI (t + 1))) 34 (nI qn)) 29 (nI (t + 1 + 1))) = f_X10_branch_116 (FU - 6) (nI n) (nI (nc * 4 + n)) 6 τ3 := f1
    have P5 := T2'.add (q := qn) (by omega) qn1
    have eM : sA τ3 17 (upd (gA τ3 17) (nc * 4 + n) (nI qn)) = abM (sI (sI (sI τ 29 (nI (t + 1))) 34 (nI qn)) 29 (nI (t + 1 + 1))) (nc * 4 + n) qn := by rw [f3]; rfl
    rw [f1', show FU - 6 = 999999993 + 1 from rfl, f_X10_branch_116, if_pos (show (6 : Int32) ≤ 6 by decide), if_neg (nI_in (by omega) (by omega)), lt_e, nI_clamp (by omega), g34, eM, m_isL P5.1.1 9 9 rfl (by decide), bnd_s]
    have ac := pt_atA P5.1 (k0 := 9) (Or.inl (by decide)) (by decide) (by decide) 265 rfl
    unfold f_X1_readBranch_91
    rw [ac]
    have p34 : gI (abM (sI (sI (sI τ 29 (nI (t + 1))) 34 (nI qn)) 29 (nI (t + 1 + 1))) (nc * 4 + n) qn) 34 = nI qn := rfl
    rcases hend with ⟨q1, q2⟩ | ⟨q1, k, q2, q3⟩
    · unfold f_X10_branch_195 f_X10_branch_209
      rw [if_neg q1, if_neg q1, bnd_s, show FU = 999999999 + 1 from rfl, b103_0, if_pos rfl, if_neg (by
        show ¬ gI τ 30 = 0
        rw [h30]; decide), nI_1, q2]
      exact SIM.ok ⟨by omega, qn, len, x, sz, rfl, p34, ⟨P5.1.up (by omega), P5.2⟩⟩
    · have k9 : K (t + 1 + 1) < 202 := by rw [show t + 1 + 1 = t + 2 from rfl, q1]; decide
      have P6 := P5.mv1 k9 (by omega)
      rw [if_pos q1, if_pos q1, bnd_s, ite10, m_at P5.1.1 k9, bnw_l]
      refine SIM.imp (m_sets (nI n) k (t + 1 + 1 + 1) (t + 1 + 1 + 1) 0 FU FU len x sz _ _ e P6 (Nat.le_refl _) q3 he (by omega) (FU_lt (by omega)) (FU_lt (by omega))) (fun _ σ' b τ' ⟨z1, z2, len', x', sz', z3⟩ => ⟨by omega, qn, len', x', sz', by rw [z1, nI_1], z2.trans p34, z3⟩) (fun _ _ _ d => d)
  · rw [if_neg ok, if_neg ok, if_pos rfl, bnw_r]
    unfold f_X1_readBranch_70
    rw [d_demand T2.1.1 T2.1.2.1 _ _ (by omega), if_pos rfl, bnd_s]
    have hE := T2.1.er (e := 5) (by decide) (t + 1)
    have hV := sk_70 hE (nI (t + 1)) (W (t + 1)) 1
    unfold f_X1_readBranch_70 at hV
    rw [q_demand hE.qt, bnd_s] at hV
    obtain ⟨⟨r', σ''⟩, d1, d2⟩ := hV
    exact Or.inr ⟨_, _, _, _, _, d1, rfl, d2, T1.1.2.2.2.2.2.2⟩
/-- the reference keeps a command -/
def acM (τ : Sta) (k : Nat) (w : Int64) (p e b : Int32) : Sta := sI (sA (sA (sA (sJ τ 13 (vp_updL (gJ τ 13) k w)) 14 (upd (gA τ 14) k p)) 15 (upd (gA τ 15) k e)) 16 (upd (gA τ 16) k b)) 19 (nI (k + 1))
theorem acM_29 (τ : Sta) (k : Nat) (w : Int64) (p e b v : Int32) : sI (acM τ k w p e b) 29 v = acM (sI τ 29 v) k w p e b := by
  unfold acM
  rw [sI_comm (by decide)]
  rfl
theorem m_107 {τ : Sta} {k : Nat} (h30 : gI τ 30 = 1) (h19 : gI τ 19 = nI k) (hk : k < 16) (p e b : Int32) (w : Int64) : f_X10_command_107 p w e (nI k) b 1 τ = some (.inl (), acM τ k w p e b) := by
  unfold f_X10_command_107
  rw [must1 h30, if_neg (by decide), bnw_l, if_neg (by rw [h30]; decide), if_neg (nI_in hk (by decide)), lt_e, if_neg (nI_in hk (by decide)), lt_e, if_neg (nI_in hk (by decide)), lt_e, if_neg (nI_in hk (by decide)), lt_e, lt_e, gI_sA, gI_sA, gI_sA, gI_sJ, h19, nI_1, nI_clamp (by omega)]
  rfl
theorem m_107f {τ : Sta} (h30 : gI τ 30 = 1) (p e b v : Int32) (w : Int64) : f_X10_command_107 p w e v b 0 τ = some (.inr (6, p), τ) := by
  unfold f_X10_command_107
  rw [must1 h30, if_pos rfl, bnw_r]
theorem b_addC (h : PB K W m c σ0 τ0 t t nv ng nc len x sz n pc rE bE pl w σ τ) (hs : aAccN pc n 0 0 = 100) (h8 : gI τ 8 = nI (nv + ng + (nc + 1))) {p : Nat} (hp : p < m) (kp : K p = 6) (dp : dc K p = nc) (hw : w = W (p + 1)) (hd : nc + 1 = dc K t) :
    PSE K W m c σ0 τ0 t σ (acM τ nc w pl bE (nI n)) := by
  obtain ⟨⟨hB, h30, hu, ⟨p1, p2, p3, p4, p5, p6, p7⟩, hS, hqq, hk⟩, h2, h3, h4, h5, h6, h7, h9, h10, h12, h11⟩ := h
  have km : Km τ (acM τ nc w pl bE (nI n)) := Kp.sI (by unfold mqI; omega) (Kp.sA (by unfold mqA; omega) (Kp.sA (by unfold mqA; omega) (Kp.sA (by unfold mqA; omega) (Kp.sJ (by unfold mqJ; omega) Kp.rfl'))))
  have hL : LX len x sz σ τ σ (acM τ nc w pl bE (nI n)) := LX_rfl rfl rfl rfl rfl rfl rfl
  have z13 : ∀ k, gJ (acM τ nc w pl bE (nI n)) 13 k = if k = nc then w else gJ τ 13 k := fun k => rfl
  have z14 : ∀ k, gA (acM τ nc w pl bE (nI n)) 14 k = if k = nc then pl else gA τ 14 k := fun k => rfl
  have z15 : ∀ k, gA (acM τ nc w pl bE (nI n)) 15 k = if k = nc then bE else gA τ 15 k := fun k => rfl
  have z16 : ∀ k, gA (acM τ nc w pl bE (nI n)) 16 k = if k = nc then nI n else gA τ 16 k := fun k => rfl
  have low : CC K W m nv nc len x sz σ (acM τ nc w pl bE (nI n)) := CC_low p6 hL (Nat.le_refl _) (Nat.le_refl _) (Nat.le_refl _) (Nat.le_refl _) (fun k hk => by
    rw [z13, z14, z15, z16, if_neg (by omega), if_neg (by omega), if_neg (by omega), if_neg (by omega)]
    exact ⟨rfl, rfl, rfl, rfl, rfl, rfl, rfl, rfl⟩) (fun _ _ => ⟨rfl, rfl, fun _ _ => ⟨rfl, rfl⟩⟩)
  refine ⟨nv, ng, nc + 1, len, x, sz, ⟨BX_cm hB Kp.rfl' km rfl rfl rfl rfl rfl rfl rfl rfl, h30, hu, ⟨by omega, p2, CV_low p3 rfl rfl rfl rfl rfl rfl rfl rfl rfl rfl, CG_low p4 hL (Nat.le_refl _) (Nat.le_refl _) (Nat.le_refl _) (Nat.le_refl _) rfl rfl rfl rfl rfl rfl, CO_low p5 hL (Nat.le_refl _) (Nat.le_refl _) (Nat.le_refl _) (Nat.le_refl _) rfl rfl, ⟨fun k hk => ?_, fun k k' hk hk' e => ?_⟩, p7⟩, hS, hqq, Kp.trans hk km⟩, h3, rfl, NM_low h5 rfl rfl rfl rfl rfl, hd⟩
  · by_cases q : k = nc
    · rw [q, z13, z14, z15, z16, if_pos rfl, if_pos rfl, if_pos rfl, if_pos rfl, h7]
      exact ⟨h6, ERb_low h9 hL (Nat.le_refl _) (Nat.le_refl _) (Nat.le_refl _) (Nat.le_refl _), h10, ⟨n, pc, h2.2, CB_low h12 hL (Nat.le_refl _) (Nat.le_refl _) (Nat.le_refl _) (Nat.le_refl _) rfl (fun _ _ => ⟨rfl, rfl, fun _ _ => ⟨rfl, rfl⟩⟩), rfl, hs⟩, p, hp, kp, dp, hw⟩
    · exact low.1 k (by omega)
  · rw [z13, z13] at e
    by_cases q : k = nc
    · by_cases q' : k' = nc
      · omega
      · rw [if_pos q, if_neg q'] at e
        exact absurd e.symm (h11 k' (by omega))
    · by_cases q' : k' = nc
      · rw [if_neg q, if_pos q'] at e
        exact absurd e (h11 k (by omega))
      · rw [if_neg q, if_neg q'] at e
        exact p6.2 k k' (by omega) (by omega) e
theorem m_cmds {p : Nat} (hp : p < m) (kp : K p = 6) (dp : dc K p = nc) (hw : w = W (p + 1)) (hpl : ∀ σ, Kq σ0 σ → gA σ 12 (p + 1) = pl) : ∀ (k u t w' f f' len x sz n : Nat) (pc : Nat → Nat) (g : Sta → Int32) (σ τ : Sta) (e : Nat), PB K W m c σ0 τ0 u t nv ng nc len x sz n pc rE bE pl w σ τ → u ≤ t + 1 → GB K k t e → e < m → K e = 102 → nc + 1 = dc K (e + 1) → w' < t → m - t + 1 < f → m - t < f' → (∀ (s : Sta) (q : Nat), gI s 34 = nI q → g s = nI (aAccN pc n 0 0 + q)) → p + 1 < t →
    SIM (SK σ0) τ0 (f_X1_readCommand_96 f (nI (p + 1)) (nI w') σ) (bnw (bnw (f_X10_branch (nI nc) (nI n) τ) (fun b s => f_X10_command_59 f' pl w bE (nI nc) b (g s) s)) (fun _ s => f_X10_item_186 s)) (fun _ σ' _ τ' => PSE K W m c σ0 τ0 (e + 1) σ' τ')
  | 0, _, _, _, _, _, _, _, _, _, _, _, _, _, _, _, _, hG, _, _, _, _, _, _, _, _ => hG.elim
  | k + 1, u, t, w', 0, f', len, x, sz, n, pc, g, σ, τ, e, h, hu, hG, he, ke, hd, hw', hf, hf', hg, hpt => absurd hf (Nat.not_lt_zero _)
  | k + 1, u, t, w', f + 1, 0, len, x, sz, n, pc, g, σ, τ, e, h, hu, hG, he, ke, hd, hw', hf, hf', hg, hpt => absurd hf' (Nat.not_lt_zero _)
  | k + 1, u, t, w', f + 1, f' + 1, len, x, sz, n, pc, g, σ, τ, e, h, hu, hG, he, ke, hd, hw', hf, hf', hg, hpt => by
    obtain ⟨y, y0, hb, hend⟩ := hG
    have hm := h.1.hm.1
    have HM := h.1.hm
    have hn := h.2.1
    have hye : y ≤ e := by
      rcases hend with ⟨_, q⟩ | ⟨_, q⟩
      · omega
      · have := (NS_GB _ _ _ q).1
        omega
    have hy2 : t + 2 ≤ y := by
      rcases hb.2.2 with ⟨_, q⟩ | ⟨_, _, q, _⟩ <;> omega
    rw [f_X1_readCommand_96, bnw_as]
    refine SIM.bnd (m_branch h hu (by omega) hb) (fun r2 σ b2 τ ⟨h4, q, len', x', sz', q1, q2, P⟩ => ?_) (fun _ _ e p d => dx_x4 (K := K) HM d.dx f _ _)
    rw [q1, lt_e, nI_1, f_X10_command_59, if_neg (show ¬ (1500 : Int32) ≤ nI (w' + 1) by rw [nI_Lle (by omega) (by decide)]; omega), m_isL P.1.1 10 10 rfl (by decide), bnd_s, pt_atA P.1 (k0 := 10) (Or.inl (by decide)) (by decide) (by decide) 266 rfl, hg τ q q2]
    have eS : aAccN pc n 0 0 + q = aAccN (fun i => if i = n then q else pc i) (n + 1) 0 0 := by
      rw [aAccN_l, aAccN_c (f := fun i => if i = n then q else pc i) (g := pc) n 0 0 (fun j h1 h2 => if_neg (by omega)), if_pos (show 0 + n = n by omega)]
    rw [eS]
    rcases hend with ⟨z1, z2⟩ | ⟨z1, z2⟩
    · have z3 : y = e := z2.symm
      subst z3
      have hlc := P.lc (n + 1) 0 FU 0 (by omega) (FU_lt (by omega))
      have hsum : aAccN (fun i => if i = n then q else pc i) (n + 1) 0 0 ≤ 0 + (n + 1) * 100 := aAccN_b (n + 1) 0 0 (fun j _ hj => (P.2.2.2.2.2.2.2.2.2.1.2 j (by omega)).2.2.1)
      obtain ⟨S, hSe⟩ : ∃ S, S = aAccN (fun i => if i = n then q else pc i) (n + 1) 0 0 := ⟨_, rfl⟩
      rw [← hSe] at hsum hlc
      have e100 : nI S = 100 ↔ S = 100 := nI_eqL (by omega) (by decide)
      have T3 := P.mv1 (by omega) (Nat.le_refl _)
      have ex := pt_at P.1 ke (Or.inr (Or.inl ⟨by decide, by decide⟩)) (by decide) (by decide) 59 rfl
      have lc3 : f_X4_latestChances (sI σ 260 (nI (y + 1))) = some (nI S, sI σ 260 (nI (y + 1))) := by
        have h3 := T3.lc (n + 1) 0 FU 0 (by omega) (FU_lt (by omega))
        rw [← hSe] at h3
        exact h3
      unfold f_X1_readCommand_120 f_X1_readCommand_145
      rw [if_neg z1, if_neg z1, bnd_s, ite00, if_pos rfl, ex, bnd_s, lc3, bnd_s, d_demand T3.1.1 T3.1.2.1 _ _ (by omega), d_demand T3.1.1 T3.1.2.1 _ _ (by omega), if_pos rfl, if_neg (show ¬ (1 : Int32) = 0 by decide), bnd_s, bnd_s, ← hSe, m_107f P.1.2.1, m_107 P.1.2.1 P.2.2.2.1 hn.1]
      by_cases qs : S = 100
      · have km : Km τ (acM τ nc w pl bE (nI (n + 1))) := Kp.sI (by unfold mqI; omega) (Kp.sA (by unfold mqA; omega) (Kp.sA (by unfold mqA; omega) (Kp.sA (by unfold mqA; omega) (Kp.sJ (by unfold mqJ; omega) Kp.rfl'))))
        have hBm : BX K m c 5000 y 0 σ (acM τ nc w pl bE (nI (n + 1))) := BX_cm P.1.1 Kp.rfl' km rfl rfl rfl rfl rfl rfl rfl rfl
        unfold f_X10_item_186
        rw [if_pos (e100.mpr qs), if_pos (e100.mpr qs), bnw_l, m_atK hBm ke (by decide) 102 rfl, bnw_l, acM_29]
        exact SIM.ok (b_addC T3 (by rw [← hSe]; exact qs) T3.2.2.2.2.1.1 hp kp dp hw hd)
      · rw [if_neg (fun e => qs (e100.mp e)), if_neg (fun e => qs (e100.mp e)), bnw_r, ← hpl _ T3.1.2.2.2.2.2.1]
        exact Or.inr ⟨_, _, _, _, _, rfl, rfl, T3.1.er (by decide) (p + 1), P.1.2.2.2.2.2.2⟩
    · have T3 := P.mv1 (by omega) (Nat.le_refl _)
      rw [if_pos z1, if_pos z1, bnd_s, ite10, ite10, m_at P.1.1 (by omega), bnw_l]
      exact m_cmds hp kp dp hw hpl k (y + 1) (y + 1) (w' + 1) f f' len' x' sz' (n + 1) _ (fun s => nI (aAccN (fun i => if i = n then q else pc i) (n + 1) 0 0) + gI s 34) _ _ e T3 (Nat.le_succ _) z2 he ke hd (by omega) (by omega) (by omega) (fun s q' hq' => by
        show nI _ + gI s 34 = _
        rw [hq', nI_add]) (by omega)
end MD
