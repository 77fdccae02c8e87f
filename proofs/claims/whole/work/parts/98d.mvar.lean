/-! The meaning pass: variables. -/
theorem ite_in {α : Type} (L lo hi : Int32) (A B : α) : (if L < lo then A else if hi < L then A else B) = if lo ≤ L ∧ L ≤ hi then B else A := by
  by_cases q : L < lo
  · rw [if_pos q, if_neg (fun e => Int32.not_lt.mpr e.1 q)]
  · rw [if_neg q]
    by_cases q2 : hi < L
    · rw [if_pos q2, if_neg (fun e => Int32.not_lt.mpr e.2 q2)]
    · rw [if_neg q2, if_pos ⟨Int32.not_lt.mp q, Int32.not_lt.mp q2⟩]
theorem isIn99 (x : Int32) (σ : Sta) : f_X10_isIn x.toInt64 (-99) 99 σ = some (if -99 ≤ x ∧ x ≤ 99 then 1 else 0, σ) := by
  rw [show (-99 : Int64) = (-99 : Int32).toInt64 by decide, show (99 : Int64) = (99 : Int32).toInt64 by decide, e_isR]
/-- a variable is added -/
def avC (σ : Sta) (n : Nat) (w : Int64) (a l g : Int32) : Sta := sI (sA (sA (sA (sJ σ 19 (vp_updL (gJ σ 19) n w)) 20 (upd (gA σ 20) n a)) 21 (upd (gA σ 21) n l)) 22 (upd (gA σ 22) n g)) 192 (nI (n + 1))
def avM (τ : Sta) (n : Nat) (w : Int64) (a l g : Int32) : Sta := sI (sA (sA (sA (sJ τ 7 (vp_updL (gJ τ 7) n w)) 8 (upd (gA τ 8) n a)) 9 (upd (gA τ 9) n l)) 10 (upd (gA τ 10) n g)) 10 (nI (n + 1))
theorem c_addVar {σ : Sta} {n : Nat} (h : gI σ 192 = nI n) (hn : n < 6) (w : Int64) (a l g : Int32) : f_X4_addVariable w a l g σ = some ((), avC σ n w a l g) := by
  unfold f_X4_addVariable f_X4_addVariable_61
  rw [h, if_neg (show ¬ (6 : Int32) ≤ nI n by rw [nI_Lle (by omega) (by decide)]; omega), if_neg (nI_in hn (by decide)), lt_e, nI_clamp (by omega), show gI (sJ σ 19 (vp_updL (gJ σ 19) n w)) 192 = gI σ 192 from rfl, h, if_neg (nI_in hn (by decide)), lt_e, nI_clamp (by omega)]
  rw [gI_sA, gI_sJ, h, if_neg (nI_in hn (by decide)), lt_e, nI_clamp (by omega), gI_sA, gI_sA, gI_sJ, h, if_neg (nI_in hn (by decide)), lt_e, nI_clamp (by omega), lt_e, gI_sA, gI_sA, gI_sA, gI_sJ, h, nI_1]
  rfl
section MV
variable {K : Nat → Nat} {W : Nat → Int64} {m c t nv ng nc len x sz : Nat} {σ0 τ0 σ τ : Sta}
theorem NM_add {n0' : Nat} {σ' τ' : Sta} {w : Int64} (h : NM nv ng nc σ τ) (hn : nv + ng + nc = n0') (a : gI τ' 8 = nI (n0' + 1)) (b : gJ τ' 6 = vp_updL (gJ τ 6) n0' w) (nv' ng' nc' : Nat) (hs : nv' + ng' + nc' = n0' + 1)
    (e : ∀ y : Int64, ((∃ v, v < nv' ∧ gJ σ' 19 v = y) ∨ (∃ g, g < ng' ∧ gJ σ' 23 g = y) ∨ (∃ k, k < nc' ∧ gJ σ' 26 k = y)) ↔ (((∃ v, v < nv ∧ gJ σ 19 v = y) ∨ (∃ g, g < ng ∧ gJ σ 23 g = y) ∨ (∃ k, k < nc ∧ gJ σ 26 k = y)) ∨ y = w)) : NM nv' ng' nc' σ' τ' := by
  refine ⟨by rw [a, hs], fun y => ?_⟩
  rw [e y, ← h.2 y, hs, b, hn]
  constructor
  · rintro ⟨i, i1, i2⟩
    rw [updL_at] at i2
    by_cases q : i = n0'
    · rw [if_pos q] at i2
      exact Or.inr i2.symm
    · rw [if_neg q] at i2
      exact Or.inl ⟨i, by omega, i2⟩
  · rintro (⟨i, i1, i2⟩ | rfl)
    · exact ⟨i, by omega, by rw [updL_at, if_neg (by omega)]; exact i2⟩
    · exact ⟨n0', by omega, by rw [updL_at, if_pos rfl]⟩
theorem ex_upd {f : Nat → Int64} {n : Nat} {w y : Int64} : (∃ v, v < n + 1 ∧ vp_updL f n w v = y) ↔ ((∃ v, v < n ∧ f v = y) ∨ y = w) := by
  constructor
  · rintro ⟨i, i1, i2⟩
    rw [updL_at] at i2
    by_cases q : i = n
    · rw [if_pos q] at i2
      exact Or.inr i2.symm
    · rw [if_neg q] at i2
      exact Or.inl ⟨i, by omega, i2⟩
  · rintro (⟨i, i1, i2⟩ | rfl)
    · exact ⟨i, by omega, by rw [updL_at, if_neg (by omega)]; exact i2⟩
    · exact ⟨n, by omega, by rw [updL_at, if_pos rfl]⟩
theorem b_add {w : Int64} {F L H : Int32} {τ' : Sta} (h : PT K W m c σ0 τ0 t t nv ng nc len x sz σ τ) (h2 : gI σ 202 = nI nc) (h3 : gI τ 19 = nI nc) (hN : NM nv ng nc σ τ') (h8 : gI τ 8 = nI (nv + ng + nc + 1)) (h6 : gJ τ 6 = vp_updL (gJ τ' 6) (nv + ng + nc) w) (hn : nv < 6) (hd : nc = dc K t) :
    PSE K W m c σ0 τ0 t (avC σ nv w F L H) (avM τ nv w F L H) := by
  obtain ⟨hB, h30, hu, ⟨p1, p2, p3, p4, p5, p6, p7⟩, hS, hq, hk⟩ := h
  have kc : Kq σ (avC σ nv w F L H) := Kp.sI (by unfold qI; omega) (Kp.sA (by unfold qA; omega) (Kp.sA (by unfold qA; omega) (Kp.sA (by unfold qA; omega) (Kp.sJ (by unfold qJ; omega) Kp.rfl'))))
  have km : Km τ (avM τ nv w F L H) := Kp.sI (by unfold mqI; omega) (Kp.sA (by unfold mqA; omega) (Kp.sA (by unfold mqA; omega) (Kp.sA (by unfold mqA; omega) (Kp.sJ (by unfold mqJ; omega) Kp.rfl'))))
  have hL : LX len x sz σ τ (avC σ nv w F L H) (avM τ nv w F L H) := LX_rfl rfl rfl rfl rfl rfl rfl
  refine ⟨nv + 1, ng, nc, len, x, sz, ⟨BX_cm hB kc km rfl rfl rfl rfl rfl rfl rfl rfl, h30, hu, ⟨by omega, p2, ⟨rfl, rfl, fun v hv => ?_⟩, CG_low p4 hL (Nat.le_succ _) (Nat.le_refl _) (Nat.le_refl _) (Nat.le_refl _) rfl rfl rfl rfl rfl rfl, CO_low p5 hL (Nat.le_succ _) (Nat.le_refl _) (Nat.le_refl _) (Nat.le_refl _) rfl rfl, CC_low p6 hL (Nat.le_succ _) (Nat.le_refl _) (Nat.le_refl _) (Nat.le_refl _) (fun _ _ => ⟨rfl, rfl, rfl, rfl, rfl, rfl, rfl, rfl⟩) (fun _ _ => ⟨rfl, rfl, fun _ _ => ⟨rfl, rfl⟩⟩), p7⟩, ⟨⟨hS.1.1, hS.1.2.1, nv + 1, by omega, rfl⟩, hS.2.1, hS.2.2⟩, Kp.trans hq kc, Kp.trans hk km⟩, h2, h3, NM_add (w := w) hN rfl h8 h6 (nv + 1) ng nc (by omega) (fun y => ?_), hd⟩
  · show upd (gA σ 20) nv F v = upd (gA τ 8) nv F v ∧ upd (gA σ 21) nv L v = upd (gA τ 9) nv L v ∧ upd (gA σ 22) nv H v = upd (gA τ 10) nv H v ∧ vp_updL (gJ σ 19) nv w v = vp_updL (gJ τ 7) nv w v
    rw [upd_at, upd_at, upd_at, upd_at, upd_at, upd_at, updL_at, updL_at]
    by_cases q : v = nv
    · rw [if_pos q, if_pos q, if_pos q, if_pos q, if_pos q, if_pos q, if_pos q, if_pos q]
      exact ⟨rfl, rfl, rfl, rfl⟩
    · rw [if_neg q, if_neg q, if_neg q, if_neg q, if_neg q, if_neg q, if_neg q, if_neg q]
      exact p3.2.2 v (by omega)
  · show ((∃ v, v < nv + 1 ∧ vp_updL (gJ σ 19) nv w v = y) ∨ (∃ g, g < ng ∧ gJ σ 23 g = y) ∨ (∃ k, k < nc ∧ gJ σ 26 k = y)) ↔ _
    rw [ex_upd]
    constructor
    · rintro ((a | a) | a | a)
      · exact Or.inl (Or.inl a)
      · exact Or.inr a
      · exact Or.inl (Or.inr (Or.inl a))
      · exact Or.inl (Or.inr (Or.inr a))
    · rintro ((a | a | a) | a)
      · exact Or.inl (Or.inl a)
      · exact Or.inr (Or.inl a)
      · exact Or.inr (Or.inr a)
      · exact Or.inl (Or.inr a)
def wW (W : Nat → Int64) (t t' : Nat) : Int32 := if t' = t + 2 then -((W (t' - 1)).toInt32) else (W (t' - 1)).toInt32
theorem pt_whole {u : Nat} (h : PT K W m c σ0 τ0 u t nv ng nc len x sz σ τ) {t' : Nat} (ht' : t' ≤ m) (hG : GW K t t') : f_X10_wholeNumber τ = some (.inl (wW W t t'), sI (sI τ 33 (gA σ 12 (t' - 1))) 29 (nI t')) := by
  rw [d_whole h.1 ht' hG]
  unfold wv wW
  rw [h.2.2.2.1.2.2.2.2.2.2]
theorem pt_wholeAt {u : Nat} (h : PT K W m c σ0 τ0 u t nv ng nc len x sz σ τ) {j j' : Nat} (hj' : j' ≤ m) (h0 : 0 < j) (hp : K (j - 1) ≠ 107) (hG : GW K j j') : f_X1_wholeAt (nI (j' - 1)) σ = some (wW W j j', σ) := by
  rw [c_wholeAt h.1 hj' h0 hp hG]
  unfold wv wW
  rw [h.2.2.2.1.2.2.2.2.2.2]
theorem pt_name {u : Nat} (h : PT K W m c σ0 τ0 u t nv ng nc len x sz σ τ) {j : Nat} (hj : j ≤ m) (n : Nat) (w : Int64) : PT K W m c σ0 τ0 u j nv ng nc len x sz (sI σ 260 (nI j)) (nmM τ n w j) := by
  have k6 : Km τ (sI (sJ τ 6 (vp_updL (gJ τ 6) n w)) 8 (nI (n + 1))) := Kp.sI (by unfold mqI; omega) (Kp.sJ (by unfold mqJ; omega) Kp.rfl')
  have T6 : PT K W m c σ0 τ0 u t nv ng nc len x sz σ (sI (sJ τ 6 (vp_updL (gJ τ 6) n w)) 8 (nI (n + 1))) := by
    obtain ⟨z1, z2, z3, ⟨y1, y2, y3, y4, y5, y6, y7⟩, z5, z6, z7⟩ := h
    have hL : LX len x sz σ τ σ (sI (sJ τ 6 (vp_updL (gJ τ 6) n w)) 8 (nI (n + 1))) := LX_rfl rfl rfl rfl rfl rfl rfl
    exact ⟨BX_cm z1 Kp.rfl' k6 rfl rfl rfl rfl rfl rfl rfl rfl, z2, z3, ⟨y1, y2, y3, CG_low y4 hL (Nat.le_refl _) (Nat.le_refl _) (Nat.le_refl _) (Nat.le_refl _) rfl rfl rfl rfl rfl rfl, CO_low y5 hL (Nat.le_refl _) (Nat.le_refl _) (Nat.le_refl _) (Nat.le_refl _) rfl rfl, CC_low y6 hL (Nat.le_refl _) (Nat.le_refl _) (Nat.le_refl _) (Nat.le_refl _) (fun _ _ => ⟨rfl, rfl, rfl, rfl, rfl, rfl, rfl, rfl⟩) (fun _ _ => ⟨rfl, rfl, fun _ _ => ⟨rfl, rfl⟩⟩), y7⟩, z5, z6, Kp.trans z7 k6⟩
  exact T6.mv hj
theorem avM_29 (τ : Sta) (n : Nat) (w : Int64) (a l g v : Int32) : sI (avM τ n w a l g) 29 v = avM (sI τ 29 v) n w a l g := by
  unfold avM
  rw [sI_comm (by decide)]
  rfl
theorem m_93 {τ : Sta} {n : Nat} (h30 : gI τ 30 = 1) (h10 : gI τ 10 = nI n) (hn : n < 6) (w : Int64) (F pF L H : Int32) : f_X10_variable_93 w F pF L H 1 τ = if L ≤ F ∧ F ≤ H then some (.inl (), avM τ n w F L H) else some (.inr (5, pF), τ) := by
  unfold f_X10_variable_93
  rw [must1 h30, if_neg (by decide), bnw_l, e_isR, bnd_s, must1 h30]
  by_cases q : L ≤ F ∧ F ≤ H
  · rw [if_pos q, if_pos q, if_neg (by decide), bnw_l, if_neg (by rw [h30]; decide), h10, if_neg (nI_in hn (by decide)), lt_e, nI_clamp (by omega), show gI (sJ τ 7 (vp_updL (gJ τ 7) n w)) 10 = gI τ 10 from rfl, h10, if_neg (nI_in hn (by decide)), lt_e, nI_clamp (by omega), gI_sA, gI_sJ, h10, if_neg (nI_in hn (by decide)), lt_e, nI_clamp (by omega), gI_sA, gI_sA, gI_sJ, h10, if_neg (nI_in hn (by decide)), lt_e, nI_clamp (by omega), lt_e, gI_sA, gI_sA, gI_sA, gI_sJ, h10, nI_1]
    rfl
  · rw [if_neg q, if_neg q, if_pos rfl, bnw_r]
theorem m_93f {τ : Sta} (h30 : gI τ 30 = 1) (w : Int64) (F pF L H : Int32) : f_X10_variable_93 w F pF L H 0 τ = some (.inr (5, gI τ 33), τ) := by
  unfold f_X10_variable_93
  rw [must1 h30, if_pos rfl, bnw_r]
theorem ite_hl {α : Type} (P : Prop) [Decidable P] (H L : Int32) (A B : α) : (if (if P then (1 : Int32) else 0) = 0 then A else if H < L then A else B) = if P then (if H < L then A else B) else A := by
  by_cases q : P
  · rw [if_pos q, if_pos q, if_neg (by decide)]
  · rw [if_neg q, if_neg q, if_pos rfl]
theorem m_var (h : PS K W m c σ0 τ0 t nv ng nc len x sz σ τ) {e : Nat} (he : e ≤ m) (hG : GIv K t e) : SIM (SK σ0) τ0 (f_X1_readVariable σ) (f_X10_item τ) (fun _ σ' _ τ' => PSE K W m c σ0 τ0 e σ' τ') := by
  obtain ⟨hT, h202, h19, hN, hdc⟩ := h
  obtain ⟨hB, h30, hu, hP, hS, hq, hk⟩ := id hT
  obtain ⟨p1, p2, p3, p4, p5, p6, p7⟩ := id hP
  have hm := hB.1.1
  obtain ⟨k0, k1, k2, a, a0, a1, a2, b, b0, b1, b2, d, d0, d1, d2, rfl⟩ := hG
  have hnv : nv ≤ 6 := p1.1
  have hng : ng ≤ 3 := p1.2.1
  have hnc : nc ≤ 16 := p1.2.2
  -- the class's run over the tokens
  have hC : f_X1_readVariable σ = f_X1_readVariable_81 (nI t) (nI (t + 1)) (nI (a - 1)) (nI (b - 1)) (nI (d - 1)) (if 6 ≤ nI nv then 0 else 1) (sI σ 260 (nI (d + 1))) := by
    have e1 := c_at hB (j := t) (by omega) k0 (Or.inl (by decide)) (by decide) (by decide) 256 rfl
    rw [← BX_260 hB] at e1
    unfold f_X1_readVariable
    rw [e1, bnd_s, c_at hB (j := t + 1) (by omega) k1 (Or.inr (Or.inr ⟨by decide, by decide⟩)) (by decide) (by decide) 273 rfl, bnd_s, c_at hB (j := t + 1 + 1) (by omega) k2 (Or.inr (Or.inl ⟨by decide, by decide⟩)) (by decide) (by decide) 61 rfl, bnd_s, c_atW hB (by omega) a1, bnd_s, c_at hB (by omega) a2 (Or.inl (by decide)) (by decide) (by decide) 257 rfl, bnd_s, c_atW hB (by omega) b1, bnd_s, c_at hB (by omega) b2 (Or.inl (by decide)) (by decide) (by decide) 258 rfl, bnd_s, c_atW hB (by omega) d1, bnd_s, c_at hB (by omega) d2 (Or.inr (Or.inl ⟨by decide, by decide⟩)) (by decide) (by decide) 59 rfl, bnd_s, show gI (sI σ 260 (nI (d + 1))) 192 = gI σ 192 from rfl, p3.1]
    by_cases q : 6 ≤ nI nv
    · rw [if_pos q, if_pos q]
    · rw [if_neg q, if_neg q]
  have hM : f_X10_item τ = f_X10_item_128 0 (gA σ 12 t) (if 6 ≤ nI nv then 0 else 1) (sI τ 29 (nI (t + 1))) := by
    rw [m_item0 hB (Or.inl k0), k0]
    unfold rm1
    rw [if_pos rfl, p3.2.1]
    rfl
  have T1 := hT.mv (j := t + 1) (by omega)
  have Te := hT.mv (j := d + 1) he
  have Be := Te.1
  rw [hC, hM]
  unfold f_X1_readVariable_81 f_X10_item_128
  rw [must1 T1.2.1, d_demand Be Te.2.1 _ _ (by omega), bnd_s]
  by_cases q6 : nv = 6
  · have q : (6 : Int32) ≤ nI nv := by rw [q6]; decide
    rw [if_pos q, if_pos rfl, if_pos rfl, bnw_r]
    have hE := Te.er (e := 4) (by decide) t
    have hV := q_varEnd hE.qt (nI t) (nI (t + 1)) (nI (a - 1)) (nI (b - 1)) (nI (d - 1)) 1
    unfold f_X1_readVariable_81 at hV
    rw [q_demand hE.qt, bnd_s] at hV
    rw [hV]
    exact Or.inr ⟨_, _, _, _, _, rfl, rfl, hE, T1.2.2.2.2.2.2⟩
  have q : ¬ (6 : Int32) ≤ nI nv := by rw [nI_Lle (by omega) (by decide)]; omega
  rw [if_neg q, if_neg (by decide), if_neg (by decide), bnw_l, if_pos rfl]
  -- the name
  have hNe : NM nv ng nc (sI σ 260 (nI (d + 1))) (sI τ 29 (nI (t + 1))) := NM_low hN rfl rfl rfl rfl rfl
  unfold f_X10_variable
  rcases b_newName T1.1 T1.2.1 hNe k1 hnv hng hnc (by omega) p3.1 p4.1 h202 with ⟨n1, n2⟩ | ⟨n1, n2, n3⟩
  · rw [c_newName Be Te.2.1 (j := t + 1) (by omega) 1 (Or.inr rfl) n1, if_pos rfl, bnd_s, n2, bnw_r, bnw_r]
    have hE := Te.er (e := 3) (by decide) (t + 1)
    have hV := q_varEnd hE.qt (nI t) (nI (t + 1)) (nI (a - 1)) (nI (b - 1)) (nI (d - 1)) 1
    unfold f_X1_readVariable_81 at hV
    rw [q_demand hE.qt, bnd_s, q_new hE.qt, bnd_s] at hV
    rw [hV]
    exact Or.inr ⟨_, _, _, _, _, rfl, rfl, hE, T1.2.2.2.2.2.2⟩
  rw [c_newName Be Te.2.1 (j := t + 1) (by omega) 0 (Or.inl rfl) n1, if_neg (show ¬ (0 : Int32) = 1 by decide), bnd_s, n3, bnw_l]
  -- the numbers
  have hW := p7
  have T2 := pt_name T1 (j := t + 1 + 1) (by omega) (nv + ng + nc) (gJ (sI τ 29 (nI (t + 1))) 5 (t + 1))
  rw [sI_sI] at T2
  obtain ⟨τ2, e2⟩ : ∃ τ2, τ2 = nmM (sI τ 29 (nI (t + 1))) (nv + ng + nc) (gJ (sI τ 29 (nI (t + 1))) 5 (t + 1)) (t + 1 + 1) := ⟨_, rfl⟩
  have n8 : gI τ2 8 = nI (nv + ng + nc + 1) := by rw [e2]; rfl
  have n6 : gJ τ2 6 = vp_updL (gJ τ 6) (nv + ng + nc) (W (t + 1)) := by rw [e2, ← hW]; rfl
  have n19 : gI τ2 19 = nI nc := by rw [e2]; exact h19
  rw [← e2] at T2
  rw [← e2]
  clear e2
  have T3 := T2.mv (j := t + 1 + 1 + 1) (by omega)
  have T4 := T3.mv33 (j := a) (by omega) (gA σ 12 (a - 1))
  have T5 := T4.mv (j := a + 1) (by omega)
  have T6 := T5.mv33 (j := b) (by omega) (gA σ 12 (b - 1))
  have T7 := T6.mv (j := b + 1) (by omega)
  have T8 := T7.mv33 (j := d) (by omega) (gA σ 12 (d - 1))
  have T9 := T8.mv (j := d + 1) he
  rw [sI_sI] at T3
  rw [sI_sI, sI_sI] at T4
  rw [sI_sI, sI_sI, sI_sI] at T5
  rw [sI_sI, sI_sI, sI_sI, sI_sI] at T6
  rw [sI_sI, sI_sI, sI_sI, sI_sI, sI_sI] at T7
  rw [sI_sI, sI_sI, sI_sI, sI_sI, sI_sI, sI_sI] at T8
  rw [sI_sI, sI_sI, sI_sI, sI_sI, sI_sI, sI_sI, sI_sI] at T9
  have w3 := pt_whole T3 (t' := a) (by omega) a1
  have w5 := pt_whole T5 (t' := b) (by omega) b1
  have w7 := pt_whole T7 (t' := d) (by omega) d1
  rw [show gA (sI σ 260 (nI (t + 1 + 1 + 1))) 12 (a - 1) = gA σ 12 (a - 1) from rfl] at w3
  rw [show gA (sI σ 260 (nI (a + 1))) 12 (b - 1) = gA σ 12 (b - 1) from rfl] at w5
  rw [show gA (sI σ 260 (nI (b + 1))) 12 (d - 1) = gA σ 12 (d - 1) from rfl] at w7
  have hp3 : K (t + 1 + 1 + 1 - 1) ≠ 107 := by rw [show t + 1 + 1 + 1 - 1 = t + 2 by omega, k2]; decide
  have hp5 : K (a + 1 - 1) ≠ 107 := by rw [show a + 1 - 1 = a by omega, a2]; decide
  have hp7 : K (b + 1 - 1) ≠ 107 := by rw [show b + 1 - 1 = b by omega, b2]; decide
  rw [pt_wholeAt Te (j := a + 1) (j' := b) (by omega) (by omega) hp5 b1, bnd_s, pt_wholeAt Te (j := b + 1) (j' := d) (by omega) (by omega) hp7 d1, bnd_s, pt_wholeAt Te (j := t + 1 + 1 + 1) (j' := a) (by omega) (by omega) hp3 a1, bnd_s,
    m_atK T2.1 k2 (by decide) 105 rfl, bnw_l, w3, bnw_l, lt_e, m_atK T4.1 a2 (by decide) 1 rfl, bnw_l, w5, bnw_l, isIn99, bnd_s, must1 T6.2.1]
  obtain ⟨L, eL⟩ : ∃ L, L = wW W (a + 1) b := ⟨_, rfl⟩
  obtain ⟨H, eH⟩ : ∃ H, H = wW W (b + 1) d := ⟨_, rfl⟩
  obtain ⟨F, eF⟩ : ∃ F, F = wW W (t + 1 + 1 + 1) a := ⟨_, rfl⟩
  rw [← eL, ← eH, ← eF]
  rw [← eH] at w7
  unfold f_X1_readVariable_133
  rw [ite_in]
  by_cases okL : -99 ≤ L ∧ L ≤ 99
  · rw [if_pos okL, if_pos okL, if_neg (show ¬ (1 : Int32) = 0 by decide), bnw_l, m_atK T6.1 b2 (by decide) 2 rfl, bnw_l, w7, bnw_l, isIn99, bnd_s]
    unfold f_X1_readVariable_134 f_X1_readVariable_159 f_X10_variable_92
    obtain ⟨τ8, e8⟩ : ∃ τ8, τ8 = sI (sI (sI (sI (sI (sI (sI (sI τ2 29 (nI (t + 1 + 1 + 1))) 33 (gA σ 12 (a - 1))) 29 (nI a)) 29 (nI (a + 1))) 33 (gA σ 12 (b - 1))) 29 (nI b)) 29 (nI (b + 1))) 33 (gA σ 12 (d - 1)) := ⟨_, rfl⟩
    have v33 : gI (sI τ8 29 (nI d)) 33 = gA σ 12 (d - 1) := by rw [e8]; rfl
    have v8 : gI (sI τ8 29 (nI d)) 8 = nI (nv + ng + nc + 1) := by rw [e8]; exact n8
    have v6 : gJ (sI τ8 29 (nI d)) 6 = vp_updL (gJ τ 6) (nv + ng + nc) (W (t + 1)) := by rw [e8]; exact n6
    have v19 : gI (sI τ8 29 (nI d)) 19 = nI nc := by rw [e8]; exact n19
    rw [← e8] at T8 T9
    rw [← e8]
    have v10 := T8.2.2.2.1.2.2.1.2.1
    have kf := T8.2.2.2.2.2.2
    rw [d_demand Be Te.2.1 _ _ (by omega), bnd_s, if_neg (show ¬ (1 : Int32) = 0 by decide), ite_in, ite_hl, m_93f T8.2.1, v33, show gI (sI (sI (sI τ2 29 (nI (t + 1 + 1 + 1))) 33 (gA σ 12 (a - 1))) 29 (nI a)) 33 = gA σ 12 (a - 1) from rfl]
    by_cases okH : -99 ≤ H ∧ H ≤ 99
    · rw [if_pos okH, if_pos okH]
      unfold f_X1_readVariable_160
      rw [d_demand Be Te.2.1 _ _ (by omega), bnd_s, if_neg (show ¬ (1 : Int32) = 0 by decide)]
      by_cases hl : H < L
      · rw [if_pos hl, if_pos hl, bnw_r]
        unfold f_X1_readVariable_179
        rw [d_demand Be Te.2.1 _ _ (by omega), bnd_s, if_pos rfl]
        have hE := Te.er (e := 5) (by decide) (d - 1)
        have hV := q_179 hE.qt (nI (t + 1)) (nI (a - 1)) (nI (d - 1)) L H F 1
        unfold f_X1_readVariable_179 at hV
        rw [q_demand hE.qt, bnd_s] at hV
        rw [hV]
        exact Or.inr ⟨_, _, _, _, _, rfl, rfl, hE, kf⟩
      · rw [if_neg hl, if_neg hl]
        unfold f_X1_readVariable_179 f_X1_readVariable_204
        rw [d_demand Be Te.2.1 _ _ (by omega), bnd_s, if_neg (show ¬ (1 : Int32) = 0 by decide), ite_in, m_93 T8.2.1 v10 (by omega)]
        by_cases okF : L ≤ F ∧ F ≤ H
        · rw [if_pos okF, if_pos okF, bnw_l]
          unfold f_X1_readVariable_205 f_X1_readVariable_238 f_X10_item_186
          have hadd := b_add (w := W (t + 1)) (F := F) (L := L) (H := H) (T9.up (u' := d + 1) (by omega)) h202 v19 hN v8 v6 (by omega) (by
            have hns := NS_GI (Or.inl ⟨k0, k1, k2, a, a0, a1, a2, b, b0, b1, b2, d, d0, d1, d2, rfl⟩ : GI K t (d + 1))
            rw [hdc]
            exact (dc_ns' ((NS.one (by omega)).app hns.1)).symm)
          have hmv : BX K m c 5000 d 0 (sI σ 260 (nI d)) (avM (sI τ8 29 (nI d)) nv (gJ (sI τ 29 (nI (t + 1))) 5 (t + 1)) F L H) := BX_cm T8.1 Kp.rfl' (Kp.sI (by unfold mqI; omega) (Kp.sA (by unfold mqA; omega) (Kp.sA (by unfold mqA; omega) (Kp.sA (by unfold mqA; omega) (Kp.sJ (by unfold mqJ; omega) Kp.rfl'))))) rfl rfl rfl rfl rfl rfl rfl rfl
          have cw := c_contOf Be (j := t + 1) (by omega)
          rw [d_demand Be Te.2.1 _ _ (by omega), bnd_s, if_neg (show ¬ (1 : Int32) = 0 by decide), d_right Be Te.2.1, bnd_s, if_neg (show ¬ (1 : Int32) = 0 by decide), cw, bnd_s, c_addVar (σ := sI σ 260 (nI (d + 1))) (n := nv) p3.1 (by omega), bnd_s, m_atK hmv d2 (by decide) 102 rfl, bnw_l, avM_29]
          have x1 : gJ (sI τ 29 (nI (d + 1))) 5 (t + 1) = W (t + 1) := p7 _
          have x2 : gJ (sI τ 29 (nI (t + 1))) 5 (t + 1) = W (t + 1) := p7 _
          rw [x1, x2]
          exact SIM.ok hadd
        · rw [if_neg okF, if_neg okF, bnw_r]
          unfold f_X1_readVariable_205
          rw [d_demand Be Te.2.1 _ _ (by omega), bnd_s, if_pos rfl]
          have hE := Te.er (e := 5) (by decide) (a - 1)
          have hV := q_205 hE.qt (nI (t + 1)) (nI (a - 1)) L H F 1
          unfold f_X1_readVariable_205 at hV
          rw [q_demand hE.qt, bnd_s] at hV
          rw [hV]
          exact Or.inr ⟨_, _, _, _, _, rfl, rfl, hE, kf⟩
    · rw [if_neg okH, if_neg okH, bnw_r]
      unfold f_X1_readVariable_160
      rw [d_demand Be Te.2.1 _ _ (by omega), bnd_s, if_pos rfl]
      have hE := Te.er (e := 5) (by decide) (d - 1)
      have hV := q_160 hE.qt (nI (t + 1)) (nI (a - 1)) (nI (d - 1)) L H F 1
      unfold f_X1_readVariable_160 at hV
      rw [q_demand hE.qt, bnd_s] at hV
      rw [hV]
      exact Or.inr ⟨_, _, _, _, _, rfl, rfl, hE, kf⟩
  · rw [if_neg okL, if_neg okL, if_pos rfl, bnw_r, bnw_r]
    unfold f_X1_readVariable_134
    rw [d_demand Be Te.2.1 _ _ (by omega), bnd_s, if_pos rfl]
    have hE := Te.er (e := 5) (by decide) (b - 1)
    have hV := q_134 hE.qt (nI (t + 1)) (nI (a - 1)) (nI (b - 1)) (nI (d - 1)) L H F 1
    unfold f_X1_readVariable_134 at hV
    rw [q_demand hE.qt, bnd_s] at hV
    rw [hV]
    exact Or.inr ⟨_, _, _, _, _, rfl, rfl, hE, T6.2.2.2.2.2.2⟩
end MV
