/-! The meaning pass: goals and gains. -/
section MG
variable {K : Nat → Nat} {W : Nat → Int64} {m c t u nv ng nc len x sz : Nat} {σ0 τ0 σ τ : Sta}
theorem pt_at (h : PT K W m c σ0 τ0 u t nv ng nc len x sz σ τ) {k0 : Nat} (hk : K t = k0) (hk0 : KV k0) (h1 : k0 ≠ 103) (h2 : k0 < 202) (a : Int32) (ha : a = nI (kC k0)) : f_X1_expect a σ = some (nI t, sI σ 260 (nI (t + 1))) := by
  have e1 := c_at h.1 h.1.2.2.1 hk hk0 h1 h2 a ha
  rw [← BX_260 h.1] at e1
  exact e1
theorem pt_atA (h : PT K W m c σ0 τ0 u t nv ng nc len x sz σ τ) {k0 : Nat} (hk0 : KV k0) (h1 : k0 ≠ 103) (h2 : k0 < 202) (a : Int32) (ha : a = nI (kC k0)) : f_X1_accept a σ = if K t = k0 then some (1, sI σ 260 (nI (t + 1))) else some (0, σ) := by
  have e1 := c_atA h.1 h.1.2.2.1 hk0 h1 h2 a ha
  rw [← BX_260 h.1] at e1
  exact e1
theorem pt_mv1 (h : PT K W m c σ0 τ0 u t nv ng nc len x sz σ τ) (hk : K t < 202) (hu : u ≤ t + 1) : PT K W m c σ0 τ0 (t + 1) (t + 1) nv ng nc len x sz (sI σ 260 (nI (t + 1))) (sI τ 29 (nI (t + 1))) := (h.mv (j := t + 1) (BX_m h.1 hk)).up hu
/-- the goal is set -/
theorem pt_goal {r b : Int32} (h : PT K W m c σ0 τ0 u t nv ng nc len x sz σ τ) (hE : ERb nv len x sz σ τ r b) : PT K W m c σ0 τ0 u t nv ng nc len x sz (sI σ 201 r) (sI τ 18 b) := by
  obtain ⟨hB, h30, hu, ⟨p1, p2, p3, p4, p5, p6, p7⟩, hS, hq, hk⟩ := h
  have kc : Kq σ (sI σ 201 r) := Kp.sI (by unfold qI; omega) Kp.rfl'
  have km : Km τ (sI τ 18 b) := Kp.sI (by unfold mqI; omega) Kp.rfl'
  have hL : LX len x sz σ τ (sI σ 201 r) (sI τ 18 b) := LX_rfl rfl rfl rfl rfl rfl rfl
  exact ⟨BX_cm hB kc km rfl rfl rfl rfl rfl rfl rfl rfl, h30, hu, ⟨p1, p2, p3, CG_low p4 hL (Nat.le_refl _) (Nat.le_refl _) (Nat.le_refl _) (Nat.le_refl _) rfl rfl rfl rfl rfl rfl, Or.inr (ERb_low hE hL (Nat.le_refl _) (Nat.le_refl _) (Nat.le_refl _) (Nat.le_refl _)), CC_low p6 hL (Nat.le_refl _) (Nat.le_refl _) (Nat.le_refl _) (Nat.le_refl _) (fun _ _ => ⟨rfl, rfl, rfl, rfl, rfl, rfl, rfl, rfl⟩) (fun _ _ => ⟨rfl, rfl, fun _ _ => ⟨rfl, rfl⟩⟩), p7⟩, hS, Kp.trans hq kc, Kp.trans hk km⟩
theorem Kxe_202 {σ σ' : Sta} (h : Kxe σ σ') : gI σ' 202 = gI σ 202 := h.1 202 (by unfold xeI; omega)
theorem Ki_19 {τ τ' : Sta} (h : Ki τ τ') : gI τ' 19 = gI τ 19 := h.1 19 (by unfold iI; omega)
theorem NM_fr {σ' τ' : Sta} (h : NM nv ng nc σ τ) (hc : Kxe σ σ') (hm : Ki τ τ') : NM nv ng nc σ' τ' := NM_low h (hm.1 8 (by unfold iI; omega)) (hm.2.2.2.1 6 (by unfold fJ; omega)) (hc.2.2.2.1 19 (by unfold eJ; omega)) (hc.2.2.2.1 23 (by unfold eJ; omega)) (hc.2.2.2.1 26 (by unfold eJ; omega))
theorem m_goal (h : PS K W m c σ0 τ0 t nv ng nc len x sz σ τ) {e : Nat} (he : e ≤ m) (hG : GIo K t e) : SIM (SK σ0) τ0 (f_X1_readGoal σ) (f_X10_item τ) (fun _ σ' _ τ' => PSE K W m c σ0 τ0 e σ' τ') := by
  obtain ⟨hT, h202, h19, hN, hdc⟩ := h
  obtain ⟨hB, h30, hu, hP, hS, hq, hk⟩ := id hT
  obtain ⟨p1, p2, p3, p4, p5, p6, p7⟩ := id hP
  have hm := hB.1.1
  have hns := NS_GI (Or.inr (Or.inr (Or.inl hG)) : GI K t e)
  obtain ⟨k0, b, b0, b1, b2, rfl⟩ := hG
  have T1 := pt_mv1 hT (by omega) (Nat.le_succ t)
  have hM : f_X10_item τ = f_X10_item_128 5 (gA σ 12 t) (if gI τ 18 = -1 then 1 else 0) (sI τ 29 (nI (t + 1))) := by
    rw [m_item0 hB (Or.inr (Or.inr (Or.inl k0))), k0]
    unfold rm1
    rw [if_neg (by decide), if_neg (by decide), if_neg (by decide)]
    rfl
  rw [hM]
  unfold f_X1_readGoal f_X1_readGoal_16 f_X10_item_128
  rw [must1 T1.2.1, show gI σ 260 = nI t from hB.2.2.2.2.2.2.1, d_demand hB h30 _ _ (by omega), d_demand hB h30 _ _ (by omega), if_pos rfl, if_neg (show ¬ (1 : Int32) = 0 by decide), bnd_s, bnd_s]
  rcases p5 with ⟨g1, g2⟩ | ⟨e', s', bb, l, g1, g2, g3, _⟩
  · rw [g1, g2, if_neg (show ¬ (0 : Int32) ≤ -1 by decide), if_pos rfl, if_neg (show ¬ (1 : Int32) = 0 by decide), bnw_l, if_neg (show ¬ (5 : Int32) = 0 by decide), if_neg (show ¬ (5 : Int32) = 3 by decide), if_neg (show ¬ (5 : Int32) = 6 by decide), pt_at hT k0 (Or.inl (by decide)) (by decide) (by decide) 261 rfl, bnd_s]
    refine SIM.bnd (pt_expr T1 (by omega) b1) (fun r σ' y τ' ⟨len', x', sz', r1, T2, hE, hc, hmi, hLX, l1, l2, l3⟩ => ?_) (fun _ _ e p d => Go.bnd (sk_exp d (by decide)) fun _ _ d => q_59 d _)
    have T3 := pt_mv1 (pt_goal T2 hE) (by omega) (Nat.le_refl _)
    have h9 : gI τ' 30 = 1 := T2.2.1
    have hBm : BX K m c 5000 b 0 σ' (sI τ' 18 y) := (pt_goal T2 hE).1
    have e1 := pt_at T2 b2 (Or.inr (Or.inl ⟨by decide, by decide⟩)) (by decide) (by decide) 59 rfl
    have hBr := BX_mv T2.1 (j := b + 1) he
    unfold f_X10_item_186 f_X1_readGoal_59
    rw [e1, bnd_s, d_right hBr h9, bnd_s, if_neg (show ¬ (1 : Int32) = 0 by decide), lt_e, if_neg (by rw [h9]; decide), lt_e, m_atK hBm b2 (by decide) 102 rfl, bnw_l]
    refine SIM.ok ⟨nv, ng, nc, len', x', sz', ?_, ?_, ?_, ?_, ?_⟩
    · rw [sI_comm (σ := σ') (a := 201) (b := 260) (by decide)] at T3
      exact T3
    · show gI σ' 202 = nI nc
      rw [Kxe_202 hc]
      exact h202
    · show gI τ' 19 = nI nc
      rw [Ki_19 hmi]
      exact h19
    · exact NM_low (NM_fr (NM_low hN (τ' := sI τ 29 (nI (t + 1))) (σ' := sI σ 260 (nI (t + 1))) rfl rfl rfl rfl rfl) hc hmi) rfl rfl rfl rfl rfl
    · rw [hdc]
      exact (dc_ns' ((NS.one (by omega)).app hns.1)).symm
  · rw [g1, g2, if_pos (nI_pos' (by omega)), if_neg (ne_m1 (by omega)), if_pos rfl, bnw_r]
    have hE := hT.er (e := 4) (by decide) t
    obtain ⟨⟨r', σ''⟩, d1, d2⟩ := (Go.bnd (sk_exp hE (a := 261) (by decide)) fun _ _ d => Go.bnd (sk_expr d) fun _ _ d => Go.bnd (sk_exp d (a := 59) (by decide)) fun _ _ d => q_59 d _ : Go (bnd (f_X1_expect 261 (erC σ 4 t)) (fun r4 σ5 =>
  bnd (f_X1_readExpression σ5) (fun r7 σ8 =>
  bnd (f_X1_expect 59 σ8) (fun r10 σ11 =>
  bnd (f_X1_isMeaningRight σ11) (fun r13 σ14 =>
  if r13 = 0 then
    f_X1_readGoal_59 σ14
  else
    lt (sI σ14 201 r7) (fun σ17 =>
    f_X1_readGoal_59 σ17)))))) (fun o => SK σ0 4 (gA σ 12 t) o.2))
    exact Or.inr ⟨_, _, _, _, _, d1, rfl, d2, T1.2.2.2.2.2.2⟩
/-! which command a gain is for -/
theorem i_cmd1 (h : BX K m c 5000 t 0 σ τ) (w : Int64) : ∀ (r k n : Nat), k + r = m → r < n → f_X10_isCommand_5 n w 1 (nI k) τ = some (1, τ)
  | _, _, 0, _, hn => absurd hn (Nat.not_lt_zero _)
  | r, k, n + 1, hk, hn => by
    have hm := h.1.1
    rw [f_X10_isCommand_5, h.1.2.2.2.2.1, nI_1]
    by_cases q : m ≤ k
    · rw [if_pos (nI_le (by omega) (by omega)), if_neg (by decide)]
    · rw [if_neg (nI_ge (by omega) (by omega)), if_neg (by decide)]
      unfold f_X10_isCommand_61 f_X10_isCommand_66
      rw [lt_e, nI_1]
      exact i_cmd1 h w (r - 1) (k + 1) n (by omega) (by omega)
theorem j_cmd {t' : Nat} {τa σb : Sta} (h : BX K m c 5000 t 0 σ τa) (h' : BX K m c 5000 t' 0 σb τ) (e5 : gJ τa 5 = gJ τ 5) (hend : K m = 202) (hdo : ∀ j, j < m → K j = 6 → K (j + 1) = 200) (w : Int64) : ∀ (r k n n' : Nat), k + r = m → r < n → r < n' →
    (∃ p, p < m ∧ K p = 6 ∧ gJ τ 5 (p + 1) = w ∧ f_X1_commandNamed_5 n w (nI (dc K k)) (nI k) σ = some (nI (dc K p), σ) ∧ f_X10_isCommand_5 n' w 0 (nI k) τ = some (1, τ)) ∨
    (f_X1_commandNamed_5 n w (nI (dc K k)) (nI k) σ = some (-1, σ) ∧ f_X10_isCommand_5 n' w 0 (nI k) τ = some (0, τ))
  | _, _, 0, _, _, hn, _ => absurd hn (Nat.not_lt_zero _)
  | _, _, _, 0, _, _, hn => absurd hn (Nat.not_lt_zero _)
  | r, k, n + 1, n' + 1, hk, hn, hn' => by
    have hm := h.1.1
    have hc : c = m + 1 := by
      have h1 := h.1.2.2.2.2.2.2.2
      rw [h.2.1 m, hend] at h1
      omega
    have h67 := h.1.2.2.2.1
    rw [f_X1_commandNamed_5, f_X10_isCommand_5, h67, h'.1.2.2.2.2.1, nI_1, hc]
    by_cases q : m ≤ k
    · refine Or.inr ⟨by rw [if_pos (nI_le (by omega) (by omega))], by rw [if_pos (nI_le (by omega) (by omega)), if_neg (by decide)]⟩
    · have hkm : k < m := by omega
      have hV := (BX_K h (j := k) (by omega)).1
      have hV1 := (BX_K h (j := k + 1) (by omega)).1
      have hdl := dc_le (K := K) k
      have i6 := kC_in hV (k0 := 6) (Or.inl (by decide)) (by decide) (by decide) 262 rfl
      have e6 : nI (K k) = 6 ↔ K k = 6 := nI_eqL (by omega) (by decide)
      have e200 : nI (K (k + 1)) = 200 ↔ K (k + 1) = 200 := nI_eqL (by omega) (by decide)
      have hd1 : dc K (k + 1) = dc K k + (if K k = 6 then 1 else 0) := rfl
      rw [if_neg (nI_ge (by omega) (by omega)), if_neg (nI_ge (by omega) (by omega)), c_kindOf h (by omega), bnd_s, if_pos rfl, if_neg (nI_in (by omega) (by omega)), if_neg (nI_in (by omega) (by omega)), if_neg (nI_in (by omega) (by omega)), nI_clamp (by omega), nI_clamp (by omega), (BX_K h' (j := k) (by omega)).2.1, (BX_K h' (j := k + 1) (by omega)).2.1]
      unfold f_X1_commandNamed_55 f_X10_isCommand_61 f_X10_isCommand_65 f_X10_isCommand_66
      simp only [lt_e, nI_1]
      rcases j_cmd h h' e5 hend hdo w (r - 1) (k + 1) n n' (by omega) (by omega) (by omega) with ⟨p, p1, p2, p3, p4, p5⟩ | ⟨p4, p5⟩
      · by_cases q6 : K k = 6
        · rw [if_pos (i6.mpr q6), if_pos (e6.mpr q6), if_pos (e200.mpr (hdo k hkm q6))]
          by_cases q2 : k + 1 < m
          · rw [c_contOf h q2, bnd_s, e5]
            by_cases q3 : gJ τ 5 (k + 1) = w
            · rw [if_pos ((lg_0 _ _).mpr q3), if_pos ((lg_0 _ _).mpr q3)]
              exact Or.inl ⟨k, hkm, q6, q3, rfl, i_cmd1 h' w (r - 1) (k + 1) n' (by omega) (by omega)⟩
            · rw [if_neg (fun e => q3 ((lg_0 _ _).mp e)), if_neg (fun e => q3 ((lg_0 _ _).mp e))]
              rw [hd1, if_pos q6] at p4
              exact Or.inl ⟨p, p1, p2, p3, p4, p5⟩
          · have : k + 1 = m := by omega
            have := hdo k hkm q6
            rw [show k + 1 = m by omega] at this
            omega
        · rw [if_neg (fun e => q6 (i6.mp e)), if_neg (fun e => q6 (e6.mp e))]
          rw [hd1, if_neg q6, Nat.add_zero] at p4
          exact Or.inl ⟨p, p1, p2, p3, p4, p5⟩
      · by_cases q6 : K k = 6
        · rw [if_pos (i6.mpr q6), if_pos (e6.mpr q6), if_pos (e200.mpr (hdo k hkm q6))]
          by_cases q2 : k + 1 < m
          · rw [c_contOf h q2, bnd_s, e5]
            by_cases q3 : gJ τ 5 (k + 1) = w
            · rw [if_pos ((lg_0 _ _).mpr q3), if_pos ((lg_0 _ _).mpr q3)]
              exact Or.inl ⟨k, hkm, q6, q3, rfl, i_cmd1 h' w (r - 1) (k + 1) n' (by omega) (by omega)⟩
            · rw [if_neg (fun e => q3 ((lg_0 _ _).mp e)), if_neg (fun e => q3 ((lg_0 _ _).mp e))]
              rw [hd1, if_pos q6] at p4
              exact Or.inr ⟨p4, p5⟩
          · have := hdo k hkm q6
            rw [show k + 1 = m by omega] at this
            omega
        · rw [if_neg (fun e => q6 (i6.mp e)), if_neg (fun e => q6 (e6.mp e))]
          rw [hd1, if_neg q6, Nat.add_zero] at p4
          exact Or.inr ⟨p4, p5⟩
theorem j_cmd' {t' : Nat} {τa σb : Sta} (h : BX K m c 5000 t 0 σ τa) (h' : BX K m c 5000 t' 0 σb τ) (e5 : gJ τa 5 = gJ τ 5) (hend : K m = 202) (hdo : ∀ j, j < m → K j = 6 → K (j + 1) = 200) (w : Int64) :
    (∃ p, p < m ∧ K p = 6 ∧ gJ τ 5 (p + 1) = w ∧ f_X1_commandNamed w σ = some (nI (dc K p), σ) ∧ f_X10_isCommand w τ = some (1, τ)) ∨ (f_X1_commandNamed w σ = some (-1, σ) ∧ f_X10_isCommand w τ = some (0, τ)) := by
  have hm := h.1.1
  exact j_cmd h h' e5 hend hdo w m 0 FU FU (by omega) (FU_lt (by omega)) (FU_lt (by omega))
/-- a gain is added -/
def agC (σ : Sta) (n : Nat) (w : Int64) (a e : Int32) : Sta := sI (sA (sA (sJ σ 23 (vp_updL (gJ σ 23) n w)) 24 (upd (gA σ 24) n a)) 25 (upd (gA σ 25) n e)) 197 (nI (n + 1))
def agM (τ : Sta) (n : Nat) (w : Int64) (e : Int32) : Sta := sI (sA (sJ τ 12 (vp_updL (gJ τ 12) n w)) 11 (upd (gA τ 11) n e)) 15 (nI (n + 1))
theorem agM_29 (τ : Sta) (n : Nat) (w : Int64) (e v : Int32) : sI (agM τ n w e) 29 v = agM (sI τ 29 v) n w e := by
  unfold agM
  rw [sI_comm (by decide)]
  rfl
theorem c_addGain {σ : Sta} {n : Nat} (h : gI σ 197 = nI n) (hn : n < 3) (w : Int64) (a e : Int32) : f_X4_addGain w a e σ = some ((), agC σ n w a e) := by
  unfold f_X4_addGain f_X4_addGain_49
  rw [h, if_neg (show ¬ (3 : Int32) ≤ nI n by rw [nI_Lle (by omega) (by decide)]; omega), if_neg (nI_in hn (by decide)), lt_e, nI_clamp (by omega), show gI (sJ σ 23 (vp_updL (gJ σ 23) n w)) 197 = gI σ 197 from rfl, h, if_neg (nI_in hn (by decide)), lt_e, nI_clamp (by omega)]
  rw [gI_sA, gI_sJ, h, if_neg (nI_in hn (by decide)), lt_e, nI_clamp (by omega), lt_e, gI_sA, gI_sA, gI_sJ, h, nI_1]
  rfl
theorem b_addG {w per : Int64} {v2 r b : Int32} {τ' : Sta} (h : PT K W m c σ0 τ0 t t nv ng nc len x sz σ τ) (hE : ERb nv len x sz σ τ r b) (hR : (v2 = -1 ∧ per = 0) ∨ ∃ p, p < m ∧ K p = 6 ∧ v2 = nI (dc K p) ∧ per = W (p + 1)) (h2 : gI σ 202 = nI nc) (h3 : gI τ 19 = nI nc) (hN : NM nv ng nc σ τ') (h8 : gI τ 8 = nI (nv + ng + nc + 1)) (h6 : gJ τ 6 = vp_updL (gJ τ' 6) (nv + ng + nc) w) (hn : ng < 3) (hd : nc = dc K t) :
    PSE K W m c σ0 τ0 t (agC σ ng w v2 r) (agM τ ng per b) := by
  obtain ⟨hB, h30, hu, ⟨p1, p2, p3, p4, p5, p6, p7⟩, hS, hq, hk⟩ := h
  have kc : Kq σ (agC σ ng w v2 r) := Kp.sI (by unfold qI; omega) (Kp.sA (by unfold qA; omega) (Kp.sA (by unfold qA; omega) (Kp.sJ (by unfold qJ; omega) Kp.rfl')))
  have km : Km τ (agM τ ng per b) := Kp.sI (by unfold mqI; omega) (Kp.sA (by unfold mqA; omega) (Kp.sJ (by unfold mqJ; omega) Kp.rfl'))
  have hL : LX len x sz σ τ (agC σ ng w v2 r) (agM τ ng per b) := LX_rfl rfl rfl rfl rfl rfl rfl
  refine ⟨nv, ng + 1, nc, len, x, sz, ⟨BX_cm hB kc km rfl rfl rfl rfl rfl rfl rfl rfl, h30, hu, ⟨by omega, p2, CV_low p3 rfl rfl rfl rfl rfl rfl rfl rfl rfl rfl, ⟨rfl, rfl, fun g hg => ?_⟩, CO_low p5 hL (Nat.le_refl _) (Nat.le_refl _) (Nat.le_refl _) (Nat.le_refl _) rfl rfl, CC_low p6 hL (Nat.le_refl _) (Nat.le_refl _) (Nat.le_refl _) (Nat.le_refl _) (fun _ _ => ⟨rfl, rfl, rfl, rfl, rfl, rfl, rfl, rfl⟩) (fun _ _ => ⟨rfl, rfl, fun _ _ => ⟨rfl, rfl⟩⟩), p7⟩, ⟨hS.1, hS.2.1, ⟨ng + 1, by omega, rfl⟩, hS.2.2.2⟩, Kp.trans hq kc, Kp.trans hk km⟩, h2, h3, NM_add (w := w) hN rfl h8 h6 nv (ng + 1) nc (by omega) (fun y => ?_), hd⟩
  · show ERb nv len x sz _ _ (upd (gA σ 25) ng r g) (upd (gA τ 11) ng b g) ∧ ((upd (gA σ 24) ng v2 g = -1 ∧ vp_updL (gJ τ 12) ng per g = 0) ∨ ∃ p, p < m ∧ K p = 6 ∧ upd (gA σ 24) ng v2 g = nI (dc K p) ∧ vp_updL (gJ τ 12) ng per g = W (p + 1))
    rw [upd_at, upd_at, upd_at, updL_at]
    by_cases q : g = ng
    · rw [if_pos q, if_pos q, if_pos q, if_pos q]
      exact ⟨ERb_low hE hL (Nat.le_refl _) (Nat.le_refl _) (Nat.le_refl _) (Nat.le_refl _), hR⟩
    · rw [if_neg q, if_neg q, if_neg q, if_neg q]
      obtain ⟨g1, g2⟩ := p4.2.2 g (by omega)
      exact ⟨ERb_low g1 hL (Nat.le_refl _) (Nat.le_refl _) (Nat.le_refl _) (Nat.le_refl _), g2⟩
  · show ((∃ v, v < nv ∧ gJ σ 19 v = y) ∨ (∃ g, g < ng + 1 ∧ vp_updL (gJ σ 23) ng w g = y) ∨ (∃ k, k < nc ∧ gJ σ 26 k = y)) ↔ _
    rw [ex_upd]
    constructor
    · rintro (a | (a | a) | a)
      · exact Or.inl (Or.inl a)
      · exact Or.inl (Or.inr (Or.inl a))
      · exact Or.inr a
      · exact Or.inl (Or.inr (Or.inr a))
    · rintro ((a | a | a) | a)
      · exact Or.inl a
      · exact Or.inr (Or.inl (Or.inl a))
      · exact Or.inr (Or.inr a)
      · exact Or.inr (Or.inl (Or.inr a))
/-- behind the name of a gain -/
theorem m_g67 {w per : Int64} {v1 : Nat} {v2 : Int32} {τ' : Sta} (h : PT K W m c σ0 τ0 u t nv ng nc len x sz σ τ) (hu : u ≤ t) (hv : v1 < m) (hw : W v1 = w) (hR : (v2 = -1 ∧ per = 0) ∨ ∃ p, p < m ∧ K p = 6 ∧ v2 = nI (dc K p) ∧ per = W (p + 1)) (h2 : gI σ 202 = nI nc) (h3 : gI τ 19 = nI nc) (hN : NM nv ng nc σ τ') (h8 : gI τ 8 = nI (nv + ng + nc + 1)) (h6 : gJ τ 6 = vp_updL (gJ τ' 6) (nv + ng + nc) w) (hn : ng < 3)
    {b : Nat} (he : b + 1 ≤ m) (hk : K t = 105) (hG : GX K (t + 1 + 60) 100 0 0 (t + 1) b) (hkb : K b = 102) (hd : nc = dc K (b + 1)) :
    SIM (SK σ0) τ0 (f_X1_readGain_94 (nI v1) v2 σ) (bnw (f_X10_gain_67 per τ) (fun _ s => f_X10_item_186 s)) (fun _ σ' _ τ' => PSE K W m c σ0 τ0 (b + 1) σ' τ') := by
  have T1 := pt_mv1 h (by omega) (by omega : u ≤ t + 1)
  have htb := (NS_GX _ _ _ _ _ hG).1
  have hm := h.hm.1
  unfold f_X1_readGain_94 f_X10_gain_67
  rw [pt_at h hk (Or.inr (Or.inl ⟨by decide, by decide⟩)) (by decide) (by decide) 61 rfl, bnd_s, m_atK h.1 hk (by decide) 105 rfl, bnw_l, bnw_as]
  refine SIM.bnd (pt_expr T1 (by omega) hG) (fun r σ' y τ'' ⟨len', x', sz', r1, T2, hE, hc, hmi, hLX, l1, l2, l3⟩ => ?_) (fun _ _ e p d => Go.bnd (sk_exp d (by decide)) fun _ _ d => q_137 d _ _ _)
  have h9 : gI τ'' 30 = 1 := T2.2.1
  have T3 := pt_mv1 T2 (by omega) (Nat.le_refl _)
  have e1 := pt_at T2 hkb (Or.inr (Or.inl ⟨by decide, by decide⟩)) (by decide) (by decide) 59 rfl
  have hBr := T3.1
  have v15 := T2.2.2.2.1.2.2.2.1.2.1
  have v197 := T3.2.2.2.1.2.2.2.1.1
  have km : Km τ'' (agM τ'' ng per y) := Kp.sI (by unfold mqI; omega) (Kp.sA (by unfold mqA; omega) (Kp.sJ (by unfold mqJ; omega) Kp.rfl'))
  have hBm : BX K m c 5000 b 0 σ' (agM τ'' ng per y) := BX_cm T2.1 Kp.rfl' km rfl rfl rfl rfl rfl rfl rfl rfl
  have cw := c_contOf hBr hv
  have x1 : gJ (sI τ'' 29 (nI (b + 1))) 5 v1 = w := by
    rw [← hw]
    exact T2.2.2.2.1.2.2.2.2.2.2 v1
  rw [x1] at cw
  rw [e1, bnd_s, d_right hBr T3.2.1, bnd_s, if_neg (show ¬ (1 : Int32) = 0 by decide), cw, bnd_s, c_addGain v197 hn, bnd_s, if_neg (by rw [h9]; decide), v15, if_neg (nI_in hn (by decide)), lt_e, nI_clamp (by omega), show gI (sJ τ'' 12 (vp_updL (gJ τ'' 12) ng per)) 15 = gI τ'' 15 from rfl, v15, if_neg (nI_in hn (by decide)), lt_e, nI_clamp (by omega), lt_e, gI_sA, gI_sJ, v15, nI_1, bnw_l]
  have em : f_X10_item_186 (sI (sA (sJ τ'' 12 (vp_updL (gJ τ'' 12) ng per)) 11 (upd (gA (sJ τ'' 12 (vp_updL (gJ τ'' 12) ng per)) 11) ng y)) 15 (nI (ng + 1))) = some (.inl (), sI (agM τ'' ng per y) 29 (nI (b + 1))) := by
    unfold f_X10_item_186
    show bnw (f_X10_take_ 102 (agM τ'' ng per y)) _ = _
    rw [m_atK hBm hkb (by decide) 102 rfl, bnw_l]
  unfold f_X1_readGain_137
  rw [em, agM_29]
  refine SIM.ok (b_addG T3 ?_ hR ?_ ?_ (NM_low (τ' := τ') (NM_fr (NM_low hN (τ' := sI τ' 29 0) (σ' := sI σ 260 (nI (t + 1))) rfl rfl rfl rfl rfl) hc (Kp.rfl' : Ki (sI τ' 29 0) (sI τ' 29 0))) rfl rfl rfl rfl rfl) ?_ ?_ hn hd)
  · exact ERb_low hE (LX_rfl rfl rfl rfl rfl rfl rfl) (Nat.le_refl _) (Nat.le_refl _) (Nat.le_refl _) (Nat.le_refl _)
  · show gI σ' 202 = nI nc
    rw [Kxe_202 hc]
    exact h2
  · show gI τ'' 19 = nI nc
    rw [Ki_19 hmi]
    exact h3
  · show gI τ'' 8 = _
    rw [hmi.1 8 (by unfold iI; omega)]
    exact h8
  · show gJ τ'' 6 = _
    rw [hmi.2.2.2.1 6 (by unfold fJ; omega)]
    exact h6
theorem m_gain (hend : K m = 202) (hdo : ∀ j, j < m → K j = 6 → K (j + 1) = 200) (h : PS K W m c σ0 τ0 t nv ng nc len x sz σ τ) {e : Nat} (he : e ≤ m) (hG : GIg K t e) : SIM (SK σ0) τ0 (f_X1_readGain σ) (f_X10_item τ) (fun _ σ' _ τ' => PSE K W m c σ0 τ0 e σ' τ') := by
  obtain ⟨hT, h202, h19, hN, hdc⟩ := h
  obtain ⟨hB, h30, hu, hP, hS, hq, hk⟩ := id hT
  obtain ⟨p1, p2, p3, p4, p5, p6, p7⟩ := id hP
  have hm := hB.1.1
  have hns := NS_GI (Or.inr (Or.inl hG) : GI K t e)
  obtain ⟨k0, k1, a, ha, ka, b, b0, b1, b2, rfl⟩ := hG
  have hng : ng ≤ 3 := p1.2.1
  have hat : t + 2 ≤ a := by omega
  have hd : nc = dc K (b + 1) := by
    rw [hdc]
    exact (dc_ns' ((NS.one (by omega)).app hns.1)).symm
  have T1 := pt_mv1 hT (by omega) (Nat.le_succ t)
  have hM : f_X10_item τ = f_X10_item_128 3 (gA σ 12 t) (if 3 ≤ nI ng then 0 else 1) (sI τ 29 (nI (t + 1))) := by
    rw [m_item0 hB (Or.inr (Or.inl k0)), k0]
    unfold rm1
    rw [if_neg (by decide), if_pos rfl, p4.2.1]
    rfl
  rw [hM]
  unfold f_X1_readGain f_X1_readGain_17 f_X10_item_128
  rw [must1 T1.2.1, show gI σ 260 = nI t from hB.2.2.2.2.2.2.1, d_demand hB h30 _ _ (by omega), d_demand hB h30 _ _ (by omega), if_pos rfl, if_neg (show ¬ (1 : Int32) = 0 by decide), bnd_s, bnd_s, p4.1]
  by_cases q3 : ng = 3
  · have q : (3 : Int32) ≤ nI ng := by rw [q3]; decide
    rw [if_pos q, if_pos q, if_pos rfl, bnw_r]
    have hE := hT.er (e := 4) (by decide) t
    obtain ⟨⟨r', σ''⟩, d1, d2⟩ := (Go.bnd (sk_exp hE (a := 259) (by decide)) fun _ _ d => Go.bnd (sk_exp d (a := 273) (by decide)) fun r _ d => sk_acc260 d r)
    exact Or.inr ⟨_, _, _, _, _, d1, rfl, d2, T1.2.2.2.2.2.2⟩
  have q : ¬ (3 : Int32) ≤ nI ng := by rw [nI_Lle (by omega) (by decide)]; omega
  have e2 := pt_at T1 k1 (Or.inr (Or.inr ⟨by decide, by decide⟩)) (by decide) (by decide) 273 rfl
  have T2c := T1.mv (j := t + 1 + 1) (by omega)
  rw [sI_sI] at e2 T2c
  rw [if_neg q, if_neg q, if_neg (show ¬ (1 : Int32) = 0 by decide), bnw_l, if_neg (show ¬ (3 : Int32) = 0 by decide), if_pos rfl, pt_at hT k0 (Or.inl (by decide)) (by decide) (by decide) 259 rfl, bnd_s, e2, bnd_s]
  have hNe : NM nv ng nc (sI σ 260 (nI (t + 1 + 1))) (sI τ 29 (nI (t + 1))) := NM_low hN rfl rfl rfl rfl rfl
  have xW : gJ (sI τ 29 (nI (t + 1))) 5 (t + 1) = W (t + 1) := p7 _
  have xW2 : gJ (sI (sI τ 29 (nI (t + 1))) 29 (nI (t + 1 + 1))) 5 (t + 1) = W (t + 1) := p7 _
  unfold f_X10_gain
  have hnn := b_newName T1.1 T1.2.1 hNe k1 p1.1 hng p1.2.2 (by omega) p3.1 p4.1 h202
  rw [xW] at hnn
  rcases hnn with ⟨n1, n2⟩ | ⟨n1, n2, n3⟩
  · rw [← xW2] at n1
    rw [c_newName T2c.1 T2c.2.1 (j := t + 1) (by omega) 1 (Or.inr rfl) n1, if_pos rfl, bnd_s, n2, bnw_r, bnw_r]
    have hE := T2c.er (e := 3) (by decide) (t + 1)
    have hV := sk_acc260 hE (nI (t + 1))
    rw [q_new hE.qt, bnd_s] at hV
    obtain ⟨⟨r', σ''⟩, d1, d2⟩ := hV
    exact Or.inr ⟨_, _, _, _, _, d1, rfl, d2, T1.2.2.2.2.2.2⟩
  rw [← xW2] at n1
  rw [c_newName T2c.1 T2c.2.1 (j := t + 1) (by omega) 0 (Or.inl rfl) n1, if_neg (show ¬ (0 : Int32) = 1 by decide), bnd_s, n3, bnw_l, lt_e]
  have T2 := pt_name T1 (j := t + 1 + 1) (by omega) (nv + ng + nc) (W (t + 1))
  rw [sI_sI] at T2
  obtain ⟨τ2, e2'⟩ : ∃ τ2, τ2 = nmM (sI τ 29 (nI (t + 1))) (nv + ng + nc) (W (t + 1)) (t + 1 + 1) := ⟨_, rfl⟩
  have n8 : gI τ2 8 = nI (nv + ng + nc + 1) := by rw [e2']; rfl
  have n6 : gJ τ2 6 = vp_updL (gJ τ 6) (nv + ng + nc) (W (t + 1)) := by rw [e2']; rfl
  have n19 : gI τ2 19 = nI nc := by rw [e2']; exact h19
  rw [← e2'] at T2
  rw [← e2']
  clear e2'
  have acc := pt_atA T2 (k0 := 4) (Or.inl (by decide)) (by decide) (by decide) 260 rfl
  rw [acc, m_isL T2.1 4 4 rfl (by decide)]
  rcases ha with ⟨a1, a2⟩ | ⟨a1, a2, a3⟩
  · rw [if_neg a1, if_neg a1, bnd_s, bnd_s, if_pos rfl, if_pos rfl]
    rw [a2] at ka b1 b0
    exact m_g67 (τ' := τ) (T2.up (u' := t + 1) (by omega)) (by omega) (by omega) rfl (Or.inl ⟨rfl, rfl⟩) h202 n19 (NM_low hN rfl rfl rfl rfl rfl) n8 n6 (by omega) he ka b1 b2 hd
  · have T3 := T2.mv (j := t + 1 + 1 + 1) (by omega)
    have T4 := T3.mv (j := t + 1 + 1 + 1 + 1) (by omega)
    rw [sI_sI] at T3
    rw [sI_sI, sI_sI] at T4
    have e3 := pt_at T3 a2 (Or.inr (Or.inr ⟨by decide, by decide⟩)) (by decide) (by decide) 273 rfl
    rw [sI_sI] at e3
    have g4 := m_at T2.1 (by rw [show t + 1 + 1 = t + 2 from rfl, a1]; decide)
    have g3 := m_at T3.1 (by rw [show t + 1 + 1 + 1 = t + 3 from rfl, a2]; decide)
    have c29 : gI (sI τ2 29 (nI (t + 1 + 1 + 1))) 29 = nI (t + 1 + 1 + 1) := rfl
    have xw : gJ (sI τ2 29 (nI (t + 1 + 1 + 1))) 5 (t + 1 + 1 + 1) = W (t + 1 + 1 + 1) := T3.2.2.2.1.2.2.2.2.2.2 _
    have xw4 : gJ (sI (sI τ2 29 (nI (t + 1 + 1 + 1))) 29 (nI (t + 1 + 1 + 1 + 1))) 5 (t + 1 + 1 + 1) = W (t + 1 + 1 + 1) := T4.2.2.2.1.2.2.2.2.2.2 _
    have co := c_contOf T4.1 (j := t + 1 + 1 + 1) (by omega)
    rw [xw4] at co
    rw [if_pos a1, if_pos a1, bnd_s, bnd_s, ite10, ite10, sI_sI, e3, bnd_s, co, bnd_s, g4, bnw_l, m_isL T3.1 200 200 rfl (by decide), if_pos a2, bnd_s, ite10, c29, if_neg (nI_in (by omega) (by omega)), lt_e, nI_clamp (by omega), xw]
    have j4 := j_cmd' T4.1 T3.1 rfl hend hdo (W (t + 1 + 1 + 1))
    have hbo : a = t + 1 + 1 + 1 + 1 := a3
    rw [hbo] at ka b1 b0
    unfold f_X1_readGain_89
    have pl : gA (sI τ2 29 (nI (t + 1 + 1 + 1))) 4 (t + 1 + 1 + 1) = gA σ 12 (t + 1 + 1 + 1) := (BX_K T3.1 (j := t + 1 + 1 + 1) (by omega)).2.2.2.1.symm
    rcases j4 with ⟨p', r1, r2, r3, r4, q5⟩ | ⟨r4, q5⟩
    · have xp : gJ (sI τ2 29 (nI (t + 1 + 1 + 1))) 5 (p' + 1) = W (p' + 1) := T3.2.2.2.1.2.2.2.2.2.2 _
      have hdp : dc K p' < 2 ^ 31 := by
        have := dc_le (K := K) p'
        omega
      rw [r4, bnd_s, if_neg (nI_pos hdp), d_demand T4.1 T4.2.1 _ _ (by omega), if_neg (show ¬ (1 : Int32) = 0 by decide), bnd_s, q5, bnd_s, c29, if_neg (nI_in (by omega) (by omega)), must1 T3.2.1, if_neg (show ¬ (1 : Int32) = 0 by decide), bnw_l, g3, bnw_l]
      exact m_g67 (τ' := τ) (T4.up (u' := t + 1) (by omega)) (by omega) (by omega) rfl (Or.inr ⟨p', r1, r2, rfl, by rw [← xp, r3]⟩) h202 n19 (NM_low hN rfl rfl rfl rfl rfl) n8 n6 (by omega) he ka b1 b2 hd
    · rw [r4, bnd_s, if_pos (show (-1 : Int32) < 0 by decide), d_demand T4.1 T4.2.1 _ _ (by omega), if_pos rfl, bnd_s, q5, bnd_s, c29, if_neg (nI_in (by omega) (by omega)), nI_clamp (by omega), must1 T3.2.1, if_pos rfl, bnw_r, bnw_r, pl]
      have hE := T4.er (e := 2) (by decide) (t + 1 + 1 + 1)
      obtain ⟨⟨r', σ''⟩, d1, d2⟩ := sk_94 hE (nI (t + 1)) (-1)
      exact Or.inr ⟨_, _, _, _, _, d1, rfl, d2, T3.2.2.2.2.2.2⟩
end MG
