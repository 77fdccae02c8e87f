/-! The meaning pass: a command, the program. -/
def acC (σ : Sta) (n : Nat) (w : Int64) (p e : Int32) : Sta := sI (sA (sA (sA (sJ σ 26 (vp_updL (gJ σ 26) n w)) 27 (upd (gA σ 27) n p)) 28 (upd (gA σ 28) n e)) 29 (upd (gA σ 29) n 0)) 202 (nI (n + 1))
theorem c_addCmd {σ : Sta} {n : Nat} (h : gI σ 202 = nI n) (hn : n < 16) (w : Int64) (p e : Int32) : f_X4_addCommand w p e σ = some ((), acC σ n w p e) := by
  unfold f_X4_addCommand f_X4_addCommand_60
  rw [h, if_neg (show ¬ (16 : Int32) ≤ nI n by rw [nI_Lle (by omega) (by decide)]; omega), if_neg (nI_in hn (by decide)), lt_e, nI_clamp (by omega), show gI (sJ σ 26 (vp_updL (gJ σ 26) n w)) 202 = gI σ 202 from rfl, h, if_neg (nI_in hn (by decide)), lt_e, nI_clamp (by omega)]
  rw [gI_sA, gI_sJ, h, if_neg (nI_in hn (by decide)), lt_e, nI_clamp (by omega), gI_sA, gI_sA, gI_sJ, h, if_neg (nI_in hn (by decide)), lt_e, nI_clamp (by omega), lt_e, gI_sA, gI_sA, gI_sA, gI_sJ, h, nI_1]
  rfl
section MC
variable {K : Nat → Nat} {W : Nat → Int64} {m c t u nv ng nc len x sz : Nat} {σ0 τ0 σ τ : Sta}
theorem sk_cnew {e p : Int32} {σ : Sta} (HM : m ≤ 1500 ∧ m < c ∧ c ≤ 1501) (h : SK σ0 e p σ) (r7 : Int32) : Go (bnd (f_X1_demandNewName r7 σ) (fun _ σ11 =>
  bnd (f_X1_expect 263 σ11) (fun r13 σ14 =>
  bnd (f_X1_readExpression σ14) (fun r16 σ17 =>
  bnd (f_X1_isMeaningRight σ17) (fun r19 σ20 =>
  if r19 = 0 then
    f_X1_readCommand_94 r7 σ20
  else
    bnd (f_X7_contentOf r7 σ20) (fun r23 σ24 =>
    bnd (f_X8_entry 12 1501 r7 σ24) (fun r26 σ27 =>
    bnd (f_X4_addCommand r23 r26 r16 σ27) (fun _ σ30 =>
    f_X1_readCommand_94 r7 σ30)))))))) (fun o => SK σ0 e p o.2) := by
  rw [q_new h.qt, bnd_s]
  exact Go.bnd (sk_exp h (by decide)) fun _ _ d => Go.bnd (sk_expr d) fun _ _ d => dx_c94 (K := fun _ => 0) HM d.dx _ _
theorem b_begC {r y pl : Int32} {w : Int64} {τ' : Sta} (h : PT K W m c σ0 τ0 u t nv ng nc len x sz σ τ) (hE : ERb nv len x sz σ τ r y) (h2 : gI σ 202 = nI nc) (h3 : gI τ 19 = nI nc) (hN : NM nv ng nc σ τ') (h8 : gI τ 8 = nI (nv + ng + nc + 1)) (h6 : gJ τ 6 = vp_updL (gJ τ' 6) (nv + ng + nc) w) (hn : nc < 16) (hfr : ∀ k, k < nc → gJ τ 13 k ≠ w) :
    PB K W m c σ0 τ0 u t nv ng nc len x sz 0 (fun _ => 0) r y pl w (acC σ nc w pl r) τ := by
  obtain ⟨hB, h30, hu, ⟨p1, p2, p3, p4, p5, p6, p7⟩, hS, hq, hk⟩ := h
  have kc : Kq σ (acC σ nc w pl r) := Kp.sI (by unfold qI; omega) (Kp.sA (by unfold qA; omega) (Kp.sA (by unfold qA; omega) (Kp.sA (by unfold qA; omega) (Kp.sJ (by unfold qJ; omega) Kp.rfl'))))
  have hL : LX len x sz σ τ (acC σ nc w pl r) τ := LX_rfl rfl rfl rfl rfl rfl rfl
  have z26 : ∀ k, gJ (acC σ nc w pl r) 26 k = if k = nc then w else gJ σ 26 k := fun k => rfl
  have z27 : ∀ k, gA (acC σ nc w pl r) 27 k = if k = nc then pl else gA σ 27 k := fun k => rfl
  have z28 : ∀ k, gA (acC σ nc w pl r) 28 k = if k = nc then r else gA σ 28 k := fun k => rfl
  have z29 : ∀ k, gA (acC σ nc w pl r) 29 k = if k = nc then 0 else gA σ 29 k := fun k => rfl
  refine ⟨⟨BX_cm hB kc Kp.rfl' rfl rfl rfl rfl rfl rfl rfl rfl, h30, hu, ⟨p1, p2, CV_low p3 rfl rfl rfl rfl rfl rfl rfl rfl rfl rfl, CG_low p4 hL (Nat.le_refl _) (Nat.le_refl _) (Nat.le_refl _) (Nat.le_refl _) rfl rfl rfl rfl rfl rfl, CO_low p5 hL (Nat.le_refl _) (Nat.le_refl _) (Nat.le_refl _) (Nat.le_refl _) rfl rfl, CC_low p6 hL (Nat.le_refl _) (Nat.le_refl _) (Nat.le_refl _) (Nat.le_refl _) (fun k hk => ?_) (fun _ _ => ⟨rfl, rfl, fun _ _ => ⟨rfl, rfl⟩⟩), p7⟩, ⟨hS.1, hS.2.1, hS.2.2.1, nc + 1, 0, by omega, rfl, by omega, Or.inr ?_⟩, Kp.trans hq kc, hk⟩, ⟨hn, by omega⟩, rfl, h3, NM_add (w := w) hN rfl h8 h6 nv ng (nc + 1) (by omega) (fun y => ?_), ?_, ?_, ERb_low hE hL (Nat.le_refl _) (Nat.le_refl _) (Nat.le_refl _) (Nat.le_refl _), ?_, ⟨?_, fun b hb => absurd hb (Nat.not_lt_zero _)⟩, hfr⟩
  · rw [z26, z27, z28, z29, if_neg (by omega), if_neg (by omega), if_neg (by omega), if_neg (by omega)]
    exact ⟨rfl, rfl, rfl, rfl, rfl, rfl, rfl, rfl⟩
  · rw [z29, if_pos (by omega)]
    rfl
  · show ((∃ v, v < nv ∧ gJ σ 19 v = y) ∨ (∃ g, g < ng ∧ gJ σ 23 g = y) ∨ (∃ k, k < nc + 1 ∧ vp_updL (gJ σ 26) nc w k = y)) ↔ _
    rw [ex_upd]
    constructor
    · rintro (a | a | a | a)
      · exact Or.inl (Or.inl a)
      · exact Or.inl (Or.inr (Or.inl a))
      · exact Or.inl (Or.inr (Or.inr a))
      · exact Or.inr a
    · rintro ((a | a | a) | a)
      · exact Or.inl a
      · exact Or.inr (Or.inl a)
      · exact Or.inr (Or.inr (Or.inl a))
      · exact Or.inr (Or.inr (Or.inr a))
  · rw [z27, if_pos rfl]
  · rw [z28, if_pos rfl]
  · rw [z26, if_pos rfl]
  · rw [z29, if_pos rfl]
    rfl
theorem m_cmd (h : PS K W m c σ0 τ0 t nv ng nc len x sz σ τ) {e : Nat} (he : e ≤ m) (hG : GIc K t e) : SIM (SK σ0) τ0 (f_X1_readCommand σ) (f_X10_item τ) (fun _ σ' _ τ' => PSE K W m c σ0 τ0 e σ' τ') := by
  obtain ⟨hT, h202, h19, hN, hdc⟩ := h
  obtain ⟨hB, h30, hu, hP, hS, hq, hk⟩ := id hT
  obtain ⟨p1, p2, p3, p4, p5, p6, p7⟩ := id hP
  have hm := hB.1.1
  have HM := hT.hm
  have hns := NS_GI (Or.inr (Or.inr (Or.inr hG)) : GI K t e)
  obtain ⟨k0, k1, k2, b, b0, hX, kk, y, y0, hGB, ky, rfl⟩ := hG
  have hnc : nc ≤ 16 := p1.2.2
  have hd : nc + 1 = dc K (y + 1) := by
    rw [dc_ns' hns.1, hdc]
    show _ = dc K t + (if K t = 6 then 1 else 0)
    rw [if_pos k0]
  have T1 := pt_mv1 hT (by omega) (Nat.le_succ t)
  have pl12 : gA σ 12 (t + 1) = gA σ0 12 (t + 1) := by rw [hq.2.2.1 12 (by unfold qA; omega)]
  have hM : f_X10_item τ = f_X10_item_128 6 (gA σ 12 t) (if 16 ≤ nI nc then 0 else 1) (sI τ 29 (nI (t + 1))) := by
    rw [m_item0 hB (Or.inr (Or.inr (Or.inr k0))), k0]
    unfold rm1
    rw [if_neg (by decide), if_neg (by decide), if_pos rfl, h19]
    rfl
  rw [hM]
  unfold f_X1_readCommand f_X1_readCommand_18 f_X10_item_128
  rw [must1 T1.2.1, show gI σ 260 = nI t from hB.2.2.2.2.2.2.1, d_demand hB h30 _ _ (by omega), d_demand hB h30 _ _ (by omega), if_pos rfl, if_neg (show ¬ (1 : Int32) = 0 by decide), bnd_s, bnd_s, h202]
  by_cases q3 : nc = 16
  · have q : (16 : Int32) ≤ nI nc := by rw [q3]; decide
    rw [if_pos q, if_pos q, if_pos rfl, bnw_r]
    have hE := hT.er (e := 4) (by decide) t
    obtain ⟨⟨r', σ''⟩, d1, d2⟩ := (Go.bnd (sk_exp hE (a := 262) (by decide)) fun _ _ d => Go.bnd (sk_exp d (a := 273) (by decide)) fun r _ d => sk_cnew HM d r)
    exact Or.inr ⟨_, _, _, _, _, d1, rfl, d2, T1.2.2.2.2.2.2⟩
  have q : ¬ (16 : Int32) ≤ nI nc := by rw [nI_Lle (by omega) (by decide)]; omega
  have e2 := pt_at T1 k1 (Or.inr (Or.inr ⟨by decide, by decide⟩)) (by decide) (by decide) 273 rfl
  have T2c := T1.mv (j := t + 1 + 1) (by omega)
  rw [sI_sI] at e2 T2c
  have f29 : gI (sI τ 29 (nI (t + 1))) 29 = nI (t + 1) := rfl
  have pl4 : gA (sI τ 29 (nI (t + 1))) 4 (t + 1) = gA σ0 12 (t + 1) := (BX_K hB (j := t + 1) (by omega)).2.2.2.1.symm.trans pl12
  rw [if_neg q, if_neg q, if_neg (show ¬ (1 : Int32) = 0 by decide), bnw_l, if_neg (show ¬ (6 : Int32) = 0 by decide), if_neg (show ¬ (6 : Int32) = 3 by decide), if_pos rfl, pt_at hT k0 (Or.inl (by decide)) (by decide) (by decide) 262 rfl, bnd_s, e2, bnd_s]
  have hNe : NM nv ng nc (sI σ 260 (nI (t + 1 + 1))) (sI τ 29 (nI (t + 1))) := NM_low hN rfl rfl rfl rfl rfl
  have xW : gJ (sI τ 29 (nI (t + 1))) 5 (t + 1) = W (t + 1) := p7 _
  have xW2 : gJ (sI (sI τ 29 (nI (t + 1))) 29 (nI (t + 1 + 1))) 5 (t + 1) = W (t + 1) := p7 _
  unfold f_X10_command
  rw [f29, if_neg (nI_in (by omega) (by omega)), lt_e, nI_clamp (by omega), pl4]
  have hnn := b_newName T1.1 T1.2.1 hNe k1 p1.1 p1.2.1 hnc (by omega) p3.1 p4.1 h202
  rw [xW] at hnn
  rcases hnn with ⟨n1, n2⟩ | ⟨n1, n2, n3⟩
  · rw [← xW2] at n1
    rw [c_newName T2c.1 T2c.2.1 (j := t + 1) (by omega) 1 (Or.inr rfl) n1, if_pos rfl, bnd_s, n2, bnw_r, bnw_r]
    have hE := T2c.er (e := 3) (by decide) (t + 1)
    have hV := sk_cnew HM hE (nI (t + 1))
    rw [q_new hE.qt, bnd_s] at hV
    obtain ⟨⟨r', σ''⟩, d1, d2⟩ := hV
    exact Or.inr ⟨_, _, _, _, _, d1, rfl, d2, T1.2.2.2.2.2.2⟩
  rw [← xW2] at n1
  rw [c_newName T2c.1 T2c.2.1 (j := t + 1) (by omega) 0 (Or.inl rfl) n1, if_neg (show ¬ (0 : Int32) = 1 by decide), bnd_s, n3, bnw_l]
  have T2 := pt_name T1 (j := t + 1 + 1) (by omega) (nv + ng + nc) (W (t + 1))
  rw [sI_sI] at T2
  obtain ⟨τ2, e2'⟩ : ∃ τ2, τ2 = nmM (sI τ 29 (nI (t + 1))) (nv + ng + nc) (W (t + 1)) (t + 1 + 1) := ⟨_, rfl⟩
  have n8 : gI τ2 8 = nI (nv + ng + nc + 1) := by rw [e2']; rfl
  have n6 : gJ τ2 6 = vp_updL (gJ τ 6) (nv + ng + nc) (W (t + 1)) := by rw [e2']; rfl
  have n19 : gI τ2 19 = nI nc := by rw [e2']; exact h19
  have n13 : gJ τ2 13 = gJ τ 13 := by rw [e2']; rfl
  rw [← e2'] at T2
  rw [← e2']
  clear e2'
  have k7 : K (t + 1 + 1) = 7 := k2
  have T3 := pt_mv1 T2 (by omega) (by omega : t + 1 ≤ t + 1 + 1 + 1)
  have ex := pt_at T2 k7 (Or.inl (by decide)) (by decide) (by decide) 263 rfl
  rw [ex, bnd_s, m_atK T2.1 k7 (by decide) 7 rfl, bnw_l, bnw_as]
  have hyy := (NS_GB _ _ _ hGB).1
  refine SIM.bnd (pt_expr T3 (by omega) hX) (fun r σ' z τ' ⟨len', x', sz', r1, T4, hE, hc, hmi, hLX, l1, l2, l3⟩ => ?_) (fun _ _ e p d => dx_c94 (K := K) HM d.dx _ _)
  have h39 := T4.2.1
  have cw := c_contOf T4.1 (j := t + 1) (by omega)
  rw [T4.2.2.2.1.2.2.2.2.2.2] at cw
  have v202 : gI σ' 202 = nI nc := (Kxe_202 hc).trans h202
  have v19 : gI τ' 19 = nI nc := (Ki_19 hmi).trans n19
  have v12 : gA σ' 12 (t + 1) = gA σ0 12 (t + 1) := by rw [T4.2.2.2.2.2.1.2.2.1 12 (by unfold qA; omega)]
  have hN4 : NM nv ng nc σ' τ := NM_low (τ' := τ) (NM_fr (NM_low hN (τ' := sI τ 29 0) (σ' := sI (sI σ 260 (nI (t + 1 + 1))) 260 (nI (t + 1 + 1 + 1))) rfl rfl rfl rfl rfl) hc (Kp.rfl' : Ki (sI τ 29 0) (sI τ 29 0))) rfl rfl rfl rfl rfl
  have hP0 := b_begC (τ' := τ) (pl := gA σ0 12 (t + 1)) (w := W (t + 1)) T4 hE v202 v19 hN4 ((hmi.1 8 (by unfold iI; omega)).trans n8) ((hmi.2.2.2.1 6 (by unfold fJ; omega)).trans n6) (by omega) (fun k hk e => by
    have e13 : gJ τ' 13 k = gJ τ 13 k := by
      rw [hmi.2.2.2.1 13 (by unfold fJ; omega)]
      show gJ τ2 13 k = _
      rw [n13]
    obtain ⟨i, i1, i2⟩ := (hN.2 (W (t + 1))).mpr (Or.inr (Or.inr ⟨k, hk, by rw [(p6.1 k hk).2.2.1, ← e13, e]⟩))
    exact n2 i i1 i2)
  rw [d_right T4.1 h39, bnd_s, if_neg (show ¬ (1 : Int32) = 0 by decide), cw, bnd_s, e_entry (by omega) (by decide), bnd_s, v12, c_addCmd v202 (by omega), bnd_s, if_neg (by rw [h39]; decide), v19]
  unfold f_X1_readCommand_94 f_X10_command_42
  exact m_cmds (p := t) (by omega) k0 hdc.symm rfl (fun s hs => by rw [hs.2.2.1 12 (by unfold qA; omega)]) kk (b + 1) b 0 FU FU len' x' sz' 0 (fun _ => 0) (fun s => gI s 34) _ _ y hP0 (Nat.le_refl _) hGB (by omega) ky hd (by omega) (FU_lt (by omega)) (FU_lt (by omega)) (fun s q' hq' => by
    show gI s 34 = nI (0 + q')
    rw [hq', Nat.zero_add]) (by omega)
/-- the class's end of the program -/
def PE (K : Nat → Nat) (W : Nat → Int64) (m c : Nat) (σ0 τ0 σ' τ' : Sta) : Prop := ∃ nv ng nc len x sz σ1, PS K W m c σ0 τ0 m nv ng nc len x sz σ1 τ' ∧ σ' = if 0 < nv ∧ 0 < nc then σ1 else erC σ1 7 m
theorem m_prog (hend : K m = 202) (hdo : ∀ j, j < m → K j = 6 → K (j + 1) = 200) : ∀ (k t w' n n' : Nat) (σ τ : Sta), PSE K W m c σ0 τ0 t σ τ → GPN K (k + 1) t m → w' ≤ t → m - t < n → m - t < n' →
    SIM (SK σ0) τ0 (f_X1_readProgram_7 n (nI w') σ) (bnw (f_X10_item τ) (fun _ s => f_X10_readAll_19 n' s)) (fun _ σ' _ τ' => PE K W m c σ0 τ0 σ' τ')
  | k, t, w', 0, n', σ, τ, h, hG, hw, hn, hn' => absurd hn (Nat.not_lt_zero _)
  | k, t, w', n + 1, 0, σ, τ, h, hG, hw, hn, hn' => absurd hn' (Nat.not_lt_zero _)
  | k, t, w', n + 1, n' + 1, σ, τ, h, hG, hw, hn, hn' => by
    obtain ⟨e, e1, hI, hrest⟩ := hG
    obtain ⟨nv, ng, nc, len, x, sz, h⟩ := h
    have hB := h.1.1
    have hm := hB.1.1
    have ht := hB.2.2.1
    have hV := (BX_K hB ht).1
    have hlk := c_look hB
    rw [if_pos (by omega)] at hlk
    have hem : e ≤ m := by
      cases k with
      | zero =>
        have : m = e := hrest
        omega
      | succ k =>
        obtain ⟨e2, g1, g2, g3⟩ := hrest
        have g4 : ∀ j s, GPN K j s m → s ≤ m := fun j => by
          induction j with
          | zero => exact fun s g => Nat.le_of_eq (show m = s from g).symm
          | succ j ih =>
            intro s g
            obtain ⟨y, y1, _, y3⟩ := g
            have := ih y y3
            omega
        have := g4 _ _ g3
        omega
    have next : ∀ (C : Option (Unit × Sta)), SIM (SK σ0) τ0 C (f_X10_item τ) (fun _ σ' _ τ' => PSE K W m c σ0 τ0 e σ' τ') → SIM (SK σ0) τ0 (bnd C (fun _ s => f_X1_readProgram_89 (f_X1_readProgram_7 n) (nI w') s)) (bnw (f_X10_item τ) (fun _ s => f_X10_readAll_19 (n' + 1) s)) (fun _ σ' _ τ' => PE K W m c σ0 τ0 σ' τ') := fun C hC => by
      refine SIM.bnd hC (fun r2 σ b2 τ h => ?_) (fun _ _ e p d => sk_89p d _ _)
      obtain ⟨nv, ng, nc, len, x, sz, h⟩ := id h
      have hB := h.1.1
      have hl2 := c_look hB
      rw [if_pos (by omega)] at hl2
      have hV2 := (BX_K hB hem).1
      have i202 := kC_in hV2 (k0 := 202) (Or.inr (Or.inr ⟨by decide, by decide⟩)) (by decide) (by decide) 278 rfl
      unfold f_X1_readProgram_89
      rw [lt_e, nI_1, if_neg (show ¬ (1500 : Int32) ≤ nI (w' + 1) by rw [nI_Lle (by omega) (by decide)]; omega), if_pos hB.2.2.2.2.2.1, hl2, bnd_s, f_X10_readAll_19, m_isL hB 202 202 rfl (by decide), bnd_s]
      cases k with
      | zero =>
        have hem2 : m = e := hrest
        subst hem2
        obtain ⟨p1, p2, p3, p4, p5, p6, p7⟩ := h.1.2.2.2.1
        rw [if_pos (i202.mpr hend), if_pos hend, ite10]
        have hC : f_X1_readProgram_116 σ = some ((), if 0 < nv ∧ 0 < nc then σ else erC σ 7 m) := by
          unfold f_X1_readProgram_116 f_X1_readProgram_141 f_X1_readProgram_142
          rw [p3.1, h.2.1, show gI σ 260 = nI m from hB.2.2.2.2.2.2.1, d_demand hB h.1.2.1 _ _ (by omega), d_demand hB h.1.2.1 _ _ (by omega), if_pos rfl, if_neg (show ¬ (1 : Int32) = 0 by decide), bnd_s, bnd_s]
          by_cases q1 : 0 < nv
          · by_cases q2 : 0 < nc
            · rw [if_neg (nI_nle q1 (by omega)), if_neg (nI_nle q2 (by omega)), if_pos ⟨q1, q2⟩]
            · rw [if_neg (nI_nle q1 (by omega)), if_pos (by rw [show nc = 0 by omega]; decide), if_neg (fun e => q2 e.2)]
          · rw [if_pos (by rw [show nv = 0 by omega]; decide), if_neg (fun e => q1 e.1)]
        rw [hC]
        exact SIM.ok ⟨nv, ng, nc, len, x, sz, σ, h, rfl⟩
      | succ k =>
        have hne : K e ≠ 202 := by
          obtain ⟨e2, g1, g2, g3⟩ := hrest
          rcases g2 with g | g | g | g <;> (have := g.1; omega)
        rw [if_neg (fun x => hne (i202.mp x)), if_neg hne, ite00]
        exact m_prog hend hdo k e (w' + 1) n n' σ τ ⟨nv, ng, nc, len, x, sz, h⟩ hrest (by omega) (by omega) (by omega)
    have i0 := kC_in hV (k0 := 0) (Or.inl (by decide)) (by decide) (by decide) 256 rfl
    have i3 := kC_in hV (k0 := 3) (Or.inl (by decide)) (by decide) (by decide) 259 rfl
    have i5 := kC_in hV (k0 := 5) (Or.inl (by decide)) (by decide) (by decide) 261 rfl
    have i6 := kC_in hV (k0 := 6) (Or.inl (by decide)) (by decide) (by decide) 262 rfl
    rcases hI with g | g | g | g
    · have q := i0.mpr g.1
      rw [f_X1_readProgram_7, hlk, bnd_s, if_pos q]
      exact next _ (m_var h hem g)
    · have q := i3.mpr g.1
      rw [f_X1_readProgram_7, hlk, bnd_s, q, if_neg (by decide), if_neg (by decide), if_neg (by decide), if_pos rfl]
      exact next _ (m_gain hend hdo h hem g)
    · have q := i5.mpr g.1
      rw [f_X1_readProgram_7, hlk, bnd_s, q, if_neg (by decide), if_neg (by decide), if_neg (by decide), if_neg (by decide), if_neg (by decide), if_pos rfl]
      exact next _ (m_goal h hem g)
    · have q := i6.mpr g.1
      rw [f_X1_readProgram_7, hlk, bnd_s, q, if_neg (by decide), if_neg (by decide), if_neg (by decide), if_neg (by decide), if_neg (by decide), if_neg (by decide), if_pos rfl]
      exact next _ (m_cmd h hem g)
end MC
