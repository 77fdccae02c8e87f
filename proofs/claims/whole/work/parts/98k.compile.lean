/-! compile -/
theorem ER_12 {σ τ : Sta} {nv : Nat} {e s : Int32} (v : Int32) (h : ER σ τ nv e s) : ER (sI σ 12 v) τ nv e s := by
  obtain ⟨e', s', b, l, h1, h2, h3, h4, h5, h6, h7, h8, h9, h10, h11, h12⟩ := h
  exact ⟨e', s', b, l, h1, h2, h3, h4, h5, h6, h7, h8, XC_low (σ := σ) (σ' := sI σ 12 v) l b _ (Nat.le_refl _) (fun j _ => ⟨rfl, rfl⟩) h9, h10, h11, h12⟩
theorem readAll_beg (τ : Sta) (a : Int32) : f_X10_readAll (sI τ 30 a) = bnw (f_X10_item (begM τ a)) (fun _ s => f_X10_readAll_19 FU s) := by
  unfold f_X10_readAll begM
  rw [lt_e, lt_e, lt_e]
theorem c_cbad {σ : Sta} {e p : Int32} (h1 : gI σ 262 = e) (he : e ≠ 0) (h2 : gI σ 263 = p) : f_X8_compile_50 σ = some (e, fgC (sI σ 12 p)) := by
  unfold f_X8_compile_50 f_X8_compile_92 f_X8_compile_100
  rw [lt_e, lt_e, h1, h2, if_neg he, if_neg he, c_forget, bnd_s]
section CP
variable {K : Nat → Nat} {W : Nat → Int64} {m c nv ng nc len x sz : Nat} {σ0 τ0 σ τ : Sta}
theorem CR_of (h : PS K W m c σ0 τ0 m nv ng nc len x sz σ τ) (hdo : ∀ j, j < m → K j = 6 → K (j + 1) = 200) (v12 : Int32) : CR nv ng nc (fun k => (gA τ 16 k).toNatClampNeg) (fun k b => (gA τ 17 (k * 4 + b)).toNatClampNeg) (sI σ 12 v12) τ := by
  obtain ⟨⟨hB, h30, hu, ⟨p1, ⟨q1, q2, q3⟩, p3, p4, p5, p6, p7⟩, hS, hq, hk⟩, h202, h19, hN, hd⟩ := h
  have hm := hB.1.1
  have toER : ∀ e s, ERb nv len x sz σ τ e s → ER (sI σ 12 v12) τ nv e s := fun e s hE => ER_12 v12 (ERb_ER hE (by omega) (by omega) (by omega) q2)
  have toSE : ∀ e s, SE nv len x sz σ τ e s → (e < 0 ∧ s = -1) ∨ ER (sI σ 12 v12) τ nv e s := fun e s hE => by
    rcases hE with ⟨a, b⟩ | a
    · exact Or.inl ⟨by rw [a]; decide, b⟩
    · exact Or.inr (toER e s a)
  refine ⟨p1, ⟨p3.1, p3.2.1⟩, ⟨p4.1, p4.2.1⟩, ⟨h202, h19⟩, p3.2.2, fun g hg => ?_, toSE _ _ p5, fun k hk => ?_, p6.2⟩
  · obtain ⟨g1, g2⟩ := p4.2.2 g hg
    refine ⟨toER _ _ g1, ?_⟩
    rcases g2 with ⟨a, b⟩ | ⟨p, a1, a2, a3, a4⟩
    · exact Or.inl ⟨by show gA σ 24 g < 0; rw [a]; decide, b⟩
    · have hlt : dc K p < nc := by rw [hd]; exact dc_lt a1 a2
      obtain ⟨_, _, _, _, p', b1, b2, b3, b4⟩ := p6.1 (dc K p) hlt
      have e : p' = p := dc_inj b2 a2 b3
      rw [e] at b4
      have hne := (BX_K hB (j := p + 1) (by omega)).2.2.2.2.2 (hdo p a1 a2)
      exact Or.inr ⟨dc K p, hlt, a3, a4.trans b4.symm, by rw [a4, ← p7]; exact hne⟩
  · obtain ⟨c1, c2, c3, ⟨n, pc, n4, n5, n6, n7⟩, _⟩ := p6.1 k hk
    have en : (gA τ 16 k).toNatClampNeg = n := by rw [n6, nI_clamp (by omega)]
    have ep : ∀ b, b < n → (gA τ 17 (k * 4 + b)).toNatClampNeg = pc b := fun b hb => by
      obtain ⟨d1, d2, d3, d4⟩ := n5.2 b hb
      rw [d2, nI_clamp (by omega)]
    refine ⟨c1, toER _ _ c2, by show gA σ 29 k = nI ((gA τ 16 k).toNatClampNeg); rw [en]; exact n5.1, by show gA τ 16 k = nI ((gA τ 16 k).toNatClampNeg); rw [en]; exact n6, by show (gA τ 16 k).toNatClampNeg ≤ 4; rw [en]; exact n4, fun b hb => ?_, ?_⟩
    · have hb' : b < n := by
        have : b < (gA τ 16 k).toNatClampNeg := hb
        omega
      obtain ⟨d1, d2, d3, d4⟩ := n5.2 b hb'
      show gA σ 30 (k * 4 + b) = nI ((gA τ 17 (k * 4 + b)).toNatClampNeg) ∧ gA τ 17 (k * 4 + b) = nI ((gA τ 17 (k * 4 + b)).toNatClampNeg) ∧ (gA τ 17 (k * 4 + b)).toNatClampNeg ≤ 100 ∧ _
      rw [ep b hb']
      exact ⟨d1, d2, d3, fun v hv => toSE _ _ (d4 v (by omega))⟩
    · show aAccN (fun b => (gA τ 17 (k * 4 + b)).toNatClampNeg) ((gA τ 16 k).toNatClampNeg) 0 0 = 100
      rw [en, aAccN_c (g := pc) n 0 0 (fun j _ hj => ep j (by omega))]
      exact n7
/-- before the first statement -/
theorem PS_0 (hT : TOK m c σ τ) (h1 : gI σ 192 = 0) (h2 : gI σ 197 = 0) (h3 : gI σ 202 = 0) (h4 : gI σ 201 = -1) (g8 : gI τ 8 = 0) (g10 : gI τ 10 = 0) (g15 : gI τ 15 = 0) (g18 : gI τ 18 = -1) (g19 : gI τ 19 = 0) (g26 : gI τ 26 = 0) : PS (tk τ) (gJ τ 5) m c (begP σ 1) (begM τ 1) 0 0 0 0 0 0 0 (begP σ 1) (begM τ 1) := by
  have hc2 := hT.2.2.1
  refine ⟨⟨BX_beg hT 1, rfl, ⟨Nat.le_refl _, Nat.le_refl _, Nat.le_refl _⟩, ⟨⟨by omega, by omega, by omega⟩, ⟨rfl, rfl, g26⟩, ⟨h1, g10, fun v hv => absurd hv (Nat.not_lt_zero _)⟩, ⟨h2, g15, fun v hv => absurd hv (Nat.not_lt_zero _)⟩, Or.inl ⟨h4, g18⟩, ⟨fun k hk => absurd hk (Nat.not_lt_zero _), fun k k' hk => absurd hk (Nat.not_lt_zero _)⟩, fun j => rfl⟩, ⟨⟨⟨0, by omega, rfl⟩, ⟨0, by omega, rfl⟩, 0, by omega, h1⟩, ⟨c, hc2, hT.2.2.2.1⟩, ⟨0, by omega, h2⟩, 0, 0, by omega, h3, by omega, Or.inl rfl⟩, Kp.rfl', Kp.rfl'⟩, h3, g19, ⟨g8, fun y => ⟨?_, ?_⟩⟩, rfl⟩
  · rintro ⟨i, hi, _⟩
    exact absurd hi (Nat.not_lt_zero _)
  · rintro (⟨i, hi, _⟩ | ⟨i, hi, _⟩ | ⟨i, hi, _⟩)
    · exact absurd hi (Nat.not_lt_zero _)
    · exact absurd hi (Nat.not_lt_zero _)
    · exact absurd hi (Nat.not_lt_zero _)
end CP
/-- what the passes and the exploring change -/
def dI : Nat → Prop := fun q => q = 12 ∨ q = 130 ∨ q = 133 ∨ q = 192 ∨ q = 197 ∨ q = 201 ∨ q = 202 ∨ (259 ≤ q ∧ q ≤ 263) ∨ q = 322 ∨ q = 329 ∨ q = 330
def dA : Nat → Prop := fun q => q = 14 ∨ q = 16 ∨ q = 17 ∨ (20 ≤ q ∧ q ≤ 22) ∨ q = 24 ∨ q = 25 ∨ (27 ≤ q ∧ q ≤ 35) ∨ q = 37
def dJ : Nat → Prop := fun q => q = 15 ∨ q = 18 ∨ q = 19 ∨ q = 23 ∨ q = 26 ∨ q = 36
def dmI : Nat → Prop := fun q => q = 8 ∨ q = 10 ∨ q = 15 ∨ q = 18 ∨ q = 19 ∨ q = 26 ∨ (29 ≤ q ∧ q ≤ 34) ∨ q = 37
def dmA : Nat → Prop := fun q => (8 ≤ q ∧ q ≤ 11) ∨ (14 ≤ q ∧ q ≤ 19) ∨ (21 ≤ q ∧ q ≤ 24) ∨ q = 26 ∨ q = 28
def dmJ : Nat → Prop := fun q => q = 6 ∨ q = 7 ∨ q = 12 ∨ q = 13 ∨ q = 20 ∨ q = 25 ∨ q = 27
def Kd (σ σ' : Sta) : Prop := Kp dI n0 dA dJ σ σ'
def Kdm (τ τ' : Sta) : Prop := Kp dmI n0 dmA dmJ τ τ'
theorem Kd_cc {σ σ' : Sta} (h : Kd σ σ') : Kcc σ σ' := h.mono (fun k e => by unfold dI at e; unfold ccI; omega) (fun _ e => e) (fun k e => by unfold dA at e; unfold ccA; omega) (fun k e => by unfold dJ at e; unfold ccJ; omega)
theorem Kdm_cm {σ σ' : Sta} (h : Kdm σ σ') : Kcm σ σ' := h.mono (fun k e => by unfold dmI at e; unfold cmI; omega) (fun _ e => e) (fun k e => by unfold dmA at e; unfold cmA; omega) (fun k e => by unfold dmJ at e; unfold cmJ; omega)
theorem Kq_d {σ σ' : Sta} (h : Kq σ σ') : Kd σ σ' := h.mono (fun k e => by unfold qI at e; unfold dI; omega) (fun _ e => e) (fun k e => by unfold qA at e; unfold dA; omega) (fun k e => by unfold qJ at e; unfold dJ; omega)
theorem Kpl_d {σ σ' : Sta} (h : Kpl σ σ') : Kd σ σ' := h.mono (fun k e => by unfold pI at e; unfold dI; omega) (fun _ e => e) (fun k e => by unfold xeA at e; unfold dA; omega) (fun k e => by unfold eJ at e; unfold dJ; omega)
theorem Kx_d {σ σ' : Sta} (h : Kx σ σ') : Kd σ σ' := h.mono (fun k e => by unfold xI at e; unfold dI; omega) (fun _ e => e) (fun k e => by unfold xA at e; unfold dA; omega) (fun k e => by unfold xJ at e; unfold dJ; omega)
theorem Km_d {σ σ' : Sta} (h : Km σ σ') : Kdm σ σ' := h.mono (fun k e => by unfold mqI at e; unfold dmI; omega) (fun _ e => e) (fun k e => by unfold mqA at e; unfold dmA; omega) (fun k e => by unfold mqJ at e; unfold dmJ; omega)
theorem Kml_d {σ σ' : Sta} (h : Kml σ σ') : Kdm σ σ' := h.mono (fun k e => by unfold pmI at e; unfold dmI; omega) (fun _ e => e) (fun k e => by unfold fA at e; unfold dmA; omega) (fun k e => by unfold fJ at e; unfold dmJ; omega)
theorem Ky_d {σ σ' : Sta} (h : Ky σ σ') : Kdm σ σ' := h.mono (fun k e => by unfold yI at e; unfold dmI; omega) (fun _ e => e) (fun k e => by unfold yA at e; unfold dmA; omega) (fun k e => by unfold yJ at e; unfold dmJ; omega)
theorem KtC_cc {σ σ' : Sta} (h : KtC σ σ') : Kcc σ σ' := h.mono (fun k e => by unfold kt67 at e; unfold ccI; omega) (fun _ e => e) (fun k e => by unfold kt11 at e; unfold ccA; omega) (fun k e => by unfold kt13 at e; unfold ccJ; omega)
theorem KtM_cm {σ σ' : Sta} (h : KtM σ σ') : Kcm σ σ' := h.mono (fun k e => by unfold kt4 at e; unfold cmI; omega) (fun _ e => e) (fun k e => by unfold kt3 at e; unfold cmA; omega) (fun k e => by unfold kt5 at e; unfold cmJ; omega)
/-- the two passes and the exploring -/
theorem cmp_main {w : AW} {σ τ σi τi : Sta} {m c tl : Nat} (h : REL w σ τ) (hT : TOK m c σi τi) (h202 : tk τi m = 202 → gA τi 4 m = nI tl) (kc : Kcc σ σi) (km : Kcm τ τi) (i1 : gI σi 1 = 0) (i11 : gI σi 11 = 0) (i450 : gI σi 450 = 0) (i40 : ∀ g, g < 3 → gJ σi 40 g = 0) (i9 : ∀ g, g < 3 → gA σi 9 g = 0) (a1 : gI σi 192 = 0) (a2 : gI σi 197 = 0) (a3 : gI σi 202 = 0) (a4 : gI σi 201 = -1)
    (m3 : gI τi 3 = nI tl) (m47 : gI τi 47 = 0) (m37 : ∀ g, g < 4 → gJ τi 37 g = 0) (m29 : ∀ g, g < 3 → gA τi 29 g = 0) (b8 : gI τi 8 = 0) (b10 : gI τi 10 = 0) (b15 : gI τi 15 = 0) (b18 : gI τi 18 = -1) (b19 : gI τi 19 = 0) (b26 : gI τi 26 = 0) (b37 : gI τi 37 = 0) (b35 : gI τi 35 = -1) (kM : Int32 → Sta → Option (Int32 × Sta)) :
    ∃ w', OV w' (bnd (f_X1_readProgram 0 σi) (fun _ σ9 =>
  if gI σ9 262 = 0 then
    bnd (f_X1_readProgram 1 σ9) (fun _ σ13 =>
    f_X8_compile_50 σ13)
  else
    f_X8_compile_50 σ9)) (bnc (f_X10_readAll (sI τi 30 0)) (fun _ σ11 =>
    lt (sI σ11 30 1) (fun σ21 =>
    bnc (f_X10_readAll σ21) (fun _ σ23 =>
      if gI σ23 10 ≤ 0 then
        f_X10_compile_57 0 σ23
      else
        if gI σ23 19 ≤ 0 then
          f_X10_compile_57 0 σ23
        else
          f_X10_compile_58 0 1 σ23) (fun X25 σ27 =>
      lt (X25.1) (fun x28 =>
      lt (sI σ27 35 X25.2) (fun σ29 =>
      bnd (f_X10_clearProgram σ29) (fun _ σ31 =>
      f_X10_compile_92 x28 σ31)))))) (fun X13 σ15 =>
    lt (X13.1) (fun x16 =>
    lt (sI σ15 35 X13.2) (fun σ17 =>
    bnd (f_X10_clearProgram σ17) (fun _ σ19 =>
    f_X10_compile_92 x16 σ19))))) := by
  have hm := hT.1
  have hFO : FO (tk τi) m c (begP σi 0) (begM τi 0) 0 (begP σi 0) (begM τi 0) := ⟨BX_beg hT 0, ⟨⟨⟨0, by omega, rfl⟩, ⟨0, by omega, rfl⟩, 0, by omega, a1⟩, ⟨c, hT.2.2.1, hT.2.2.2.1⟩, ⟨0, by omega, a2⟩, 0, 0, by omega, a3, by omega, Or.inl rfl⟩, rfl, Kp.rfl', Kp.rfl'⟩
  have kB := Kpl_d (Kpl_beg σi 0)
  have kBm := Kml_d (Kml_beg τi 0)
  unfold f_X1_readProgram
  rw [c_beginP (Or.inl rfl), bnd_s, readAll_beg]
  rcases f_prog (K := tk τi) (c := c) (σ0 := begP σi 0) (τ0 := begM τi 0) b8 m 0 0 FU FU _ _ rfl (FU_lt (by omega)) (FU_lt (by omega)) (Nat.le_refl _) hFO with ⟨r, σ2, b, τ2, c1, c2, k, c3, c4, c5⟩ | ⟨r, σ2, τ2, e, p, c1, c2, c3, c4⟩
  · have c1' : f_X1_readProgram_7 FU 0 (begP σi 0) = some (r, σ2) := c1
    have hB2 := c5.1
    have k2 : Kd σi σ2 := Kp.trans kB (Kq_d (Kxe_q c5.2.2.2.1))
    have km2 : Kdm τi τ2 := Kp.trans kBm (Km_d (Kh_m c5.2.2.2.2))
    have ke : ∀ q, ¬ xeI q → gI σ2 q = gI (begP σi 0) q := c5.2.2.2.1.1
    have kh : ∀ q, ¬ hI q → gI τ2 q = gI (begM τi 0) q := c5.2.2.2.2.1
    have hK : tk τ2 = tk τi := funext fun j => hB2.2.1 j
    rw [← hK] at c3 c4
    have hdo := GPN_do _ _ _ c3
    have hPS := PS_0 hB2.1 ((ke 192 (by unfold xeI; omega)).trans a1) ((ke 197 (by unfold xeI; omega)).trans a2) ((ke 202 (by unfold xeI; omega)).trans a3) ((ke 201 (by unfold xeI; omega)).trans a4) ((kh 8 (by unfold hI; omega)).trans b8) ((kh 10 (by unfold hI; omega)).trans b10) ((kh 15 (by unfold hI; omega)).trans b15) ((kh 18 (by unfold hI; omega)).trans b18) ((kh 19 (by unfold hI; omega)).trans b19) ((kh 26 (by unfold hI; omega)).trans b26)
    have kB2 : Kd σi (begP σ2 1) := Kp.trans k2 (Kpl_d (Kpl_beg σ2 1))
    have kBm2 : Kdm τi (begM τ2 1) := Kp.trans km2 (Kml_d (Kml_beg τ2 1))
    rw [c1', bnd_s, if_pos hB2.2.2.2.2.2.1, c_beginP (Or.inr rfl), bnd_s, c2, bnc_l, lt_e, readAll_beg]
    rcases m_prog c4 (fun j hj => hdo j (Nat.zero_le _) hj) k 0 0 FU FU _ _ ⟨0, 0, 0, 0, 0, 0, hPS⟩ c3 (Nat.le_refl _) (FU_lt (by omega)) (FU_lt (by omega)) with ⟨r, σ3, b, τ3, d1, d2, nv, ng, nc, len, x, sz, σ4, d3, d4⟩ | ⟨r, σ3, τ3, e, p, d1, d2, d3, d4⟩
    · have d1' : f_X1_readProgram_7 FU 0 (begP σ2 1) = some (r, σ3) := d1
      have d3' := d3
      obtain ⟨⟨hB3, h30, hu, ⟨p1, ⟨q1, q2, q3⟩, p3, p4, p5, p6, p7⟩, hS, hq, hk⟩, x202, x19, hN, hd⟩ := d3'
      have k3 : Kd σi σ4 := Kp.trans kB2 (Kq_d hq)
      have km3 : Kdm τi τ3 := Kp.trans kBm2 (Km_d hk)
      have pl : gA σ4 12 m = gI τ3 3 := by
        rw [(BX_K hB3 (Nat.le_refl _)).2.2.2.1, km3.2.2.1 4 (by unfold dmA; omega), km3.1 3 (by unfold dmI; omega), m3]
        exact h202 (by rw [← hK]; exact c4)
      rw [d1', bnd_s, d2, bnc_l, p3.2.1, x19]
      unfold f_X10_compile_57 f_X10_compile_58
      rw [must1 h30, must1 h30, if_pos rfl, if_neg (show ¬ (1 : Int32) = 0 by decide), bnc_r, bnc_l, lt_e, lt_e, m_clear, bnd_s]
      by_cases q0 : 0 < nv ∧ 0 < nc
      · have e3 : σ3 = σ4 := by rw [d4, if_pos q0]
        rw [e3, if_neg (nI_nle q0.1 (by omega)), if_neg (nI_nle q0.2 (by omega))]
        unfold f_X8_compile_50
        rw [lt_e, lt_e, hB3.2.2.2.2.2.1, if_pos rfl, hB3.2.2.2.2.2.2.2.2.2.2.2.2]
        have hCR := CR_of d3 (fun j hj => hdo j (Nat.zero_le _) hj) (-1)
        have h37 : gI τ3 37 = 0 := by
          rw [hk.1 37 (by unfold mqI; omega)]
          show gI τ2 37 = 0
          rw [kh 37 (by unfold hI; omega)]
          exact b37
        have k12 : Kd σi (sI σ4 12 (-1)) := Kp.sI (by unfold dI; omega) k3
        rcases e_explore hCR h37 with ⟨σ5, τ5, e, f1, f2, f3, f4, f5⟩ | ⟨σ5, τ5, w', f1, f2, f3, f4, f5, f6, f7, f8, f9, f10, f11⟩
        · unfold f_X8_compile_92 f_X8_compile_100
          rw [f1, bnd_s, lt_e, if_neg f2, c_forget, bnd_s, f3, bnc_r, lt_e, lt_e, m_clear, bnd_s]
          have kf : Kcc σ σ5 := Kp.trans kc (Kd_cc (Kp.trans k12 (Kx_d f4)))
          have kfm : Kcm τ τ5 := Kp.trans km (Kdm_cm (Kp.trans km3 (Ky_d f5)))
          refine ⟨wE, e, _, _, rfl, rfl, cmp_bad h kf kfm ?_⟩
          rw [(Kp.trans k12 (Kx_d f4)).1 1 (by unfold dI; omega)]
          exact i1
        · unfold f_X8_compile_92 f_X8_compile_100
          rw [f1, bnd_s, lt_e, if_pos rfl, f2, bnc_l]
          have kt : Kd σi σ5 := Kp.trans k12 (Kx_d f3)
          have ktm : Kdm τi τ5 := Kp.trans km3 (Ky_d f4)
          refine ⟨w', 0, _, sI τ5 3 0, rfl, rfl, REL_cmp (w' := w') h (Kp.sI (by unfold ccI; omega) (Kp.trans kc (Kd_cc kt))) (Kp.sI (by unfold cmI; omega) (Kp.trans km (Kdm_cm ktm))) ?_ rfl ?_ ?_ ?_ ?_ (fun g hg => ?_) (fun g hg => ?_) ?_ ⟨nc, p1.2.2, ?_, ?_⟩ (fun v hv => ?_) ⟨sz, by omega, ?_⟩ f5 (fun e => by omega) (AC_sI (by decide) f6) (AM_sI (by decide) f7)⟩
          · show gI σ5 1 = 0
            rw [kt.1 1 (by unfold dI; omega)]; exact i1
          · show gI σ5 11 = 0
            rw [kt.1 11 (by unfold dI; omega)]; exact i11
          · show gI τ5 47 = 0
            rw [ktm.1 47 (by unfold dmI; omega)]; exact m47
          · show gI σ5 450 = 0
            rw [kt.1 450 (by unfold dI; omega)]; exact i450
          · show gJ τ5 37 0 = 0
            rw [ktm.2.2.2.1 37 (by unfold dmJ; omega)]; exact m37 0 (by omega)
          · show gJ τ5 37 (1 + g) = gJ σ5 40 g
            rw [ktm.2.2.2.1 37 (by unfold dmJ; omega), kt.2.2.2.1 40 (by unfold dJ; omega), m37 (1 + g) (by omega), i40 g hg]
          · show gA σ5 9 g = gA τ5 29 g
            rw [kt.2.2.1 9 (by unfold dA; omega), ktm.2.2.1 29 (by unfold dmA; omega), i9 g hg, m29 g hg]
          · show gI σ5 330 = gI τ5 35
            rw [ktm.1 35 (by unfold dmI; omega), b35]; exact f11
          · show gI σ5 202 = nI nc
            rw [f3.1 202 (by unfold xI; omega)]; exact x202
          · show gI τ5 19 = nI nc
            rw [f4.1 19 (by unfold yI; omega)]; exact x19
          · show gJ σ5 19 v = gJ τ5 7 v
            rw [f3.2.2.2.1 19 (by unfold xJ; omega), f4.2.2.2.1 7 (by unfold yJ; omega)]
            exact (p3.2.2 v (by omega)).2.2.2
          · show gI τ5 26 = nI sz
            rw [f4.1 26 (by unfold yI; omega)]; exact q3
      · have e3 : σ3 = erC σ4 7 m := by rw [d4, if_neg q0]
        have hC := c_cbad (σ := erC σ4 7 m) (e := 7) (p := gA σ4 12 m) rfl (by decide) rfl
        have kr : Kd σi (erC σ4 7 m) := Kp.trans k3 (Kp.sI (by unfold dI; omega) (Kp.sI (by unfold dI; omega) Kp.rfl'))
        have hM : ∀ A : Option (Int32 × Sta), (if nI nv ≤ 0 then f_X10_compile_92 7 (clM (sI τ3 35 (gI τ3 3))) else if nI nc ≤ 0 then f_X10_compile_92 7 (clM (sI τ3 35 (gI τ3 3))) else A) = f_X10_compile_92 7 (clM (sI τ3 35 (gI τ3 3))) := fun A => by
          by_cases q1 : 0 < nv
          · rw [if_neg (nI_nle q1 (by omega)), if_pos (by rw [show nc = 0 by omega]; decide)]
          · rw [if_pos (by rw [show nv = 0 by omega]; decide)]
        rw [e3, hC, hM, ← pl]
        refine ⟨wE, 7, _, _, rfl, rfl, cmp_bad h (Kp.trans kc (Kd_cc kr)) (Kp.trans km (Kdm_cm km3)) ?_⟩
        rw [kr.1 1 (by unfold dI; omega)]
        exact i1
    · have d1' : f_X1_readProgram_7 FU 0 (begP σ2 1) = some (r, σ3) := d1
      have k3 : Kd σi σ3 := Kp.trans kB2 (Kq_d d3.2.1)
      rw [d1', bnd_s, c_cbad d3.2.2.1 d3.2.2.2.1 d3.2.2.2.2, d2, bnc_r, lt_e, lt_e, m_clear, bnd_s]
      refine ⟨wE, e, _, _, rfl, rfl, cmp_bad h (Kp.trans kc (Kd_cc k3)) (Kp.trans km (Kdm_cm (Kp.trans kBm2 (Km_d d4)))) ?_⟩
      rw [k3.1 1 (by unfold dI; omega)]
      exact i1
  · have c1' : f_X1_readProgram_7 FU 0 (begP σi 0) = some (r, σ2) := c1
    have k3 : Kd σi σ2 := Kp.trans kB (Kq_d c3.2.1)
    rw [c1', bnd_s, if_neg c3.ne, c_cbad c3.2.2.1 c3.2.2.2.1 c3.2.2.2.2, c2, bnc_r, lt_e, lt_e, m_clear, bnd_s]
    refine ⟨wE, e, _, _, rfl, rfl, cmp_bad h (Kp.trans kc (Kd_cc k3)) (Kp.trans km (Kdm_cm (Kp.trans kBm (Km_d c4)))) ?_⟩
    rw [k3.1 1 (by unfold dI; omega)]
    exact i1
theorem op_compile {w : AW} {σ τ : Sta} (h : REL w σ τ) : ∃ w', OV w' (f_X8_compile σ) (f_X10_compile τ) := by
  obtain ⟨tl, t0, hT⟩ := Tape_TP.mp h.2.2.2.2.1
  have r8 := h.2.2.2.2.2.2.2.2.2.2.2.2.2.2
  have hT1 : TP tl (fgC σ) (sI τ 0 0) := ⟨hT.1, hT.2.1, hT.2.2⟩
  obtain ⟨σ1, τ1, m, c, a1, a2, a3, a4, a5, a6⟩ := e_read7 (σ := fgC σ) (τ := sI τ 0 0) t0 (TB_of hT1) r8
  unfold f_X8_compile f_X10_compile
  rw [c_forget, bnd_s, show gI (fgC σ) 1 = nI tl from hT.1, a1, bnd_s, lt_e, lt_e, a2, bnd_s, m_clear, bnd_s, lt_e, lt_e]
  have z : ∀ q, q ≠ 67 → gI σ1 q = gI (fgC σ) q := fun q hq => a4.1 q hq
  refine cmp_main (m := m) (c := c) (tl := tl) h a3 a6 (Kp.sI (by unfold ccI; omega) (Kp.trans (Kcc_fg σ) (KtC_cc a4))) (Kp.sI (by unfold cmI; omega) (Kp.trans (Kp.trans (Kp.sI (by unfold cmI; omega) Kp.rfl') (KtM_cm a5)) (Kcm_cl τ1))) rfl ?_ ?_ (fun g hg => ?_) (fun g hg => ?_) ?_ ?_ ?_ ?_ ?_ rfl (fun g hg => ?_) (fun g hg => ?_) rfl rfl rfl rfl rfl rfl rfl rfl (fun _ _ => none)
  · show gI σ1 11 = 0
    rw [z 11 (by decide)]; rfl
  · show gI σ1 450 = 0
    rw [z 450 (by decide)]; rfl
  · show gJ σ1 40 g = 0
    rw [a4.2.2.2.1 40 (by unfold kt13; omega)]
    show (if 0 ≤ g ∧ g < 3 then (0 : Int64) else _) = 0
    rw [if_pos ⟨Nat.zero_le _, hg⟩]
  · show gA σ1 9 g = 0
    rw [a4.2.2.1 9 (by unfold kt11; omega)]
    show (if 0 ≤ g ∧ g < 3 then (0 : Int32) else _) = 0
    rw [if_pos ⟨Nat.zero_le _, hg⟩]
  · show gI σ1 192 = 0
    rw [z 192 (by decide)]; rfl
  · show gI σ1 197 = 0
    rw [z 197 (by decide)]; rfl
  · show gI σ1 202 = 0
    rw [z 202 (by decide)]; rfl
  · show gI σ1 201 = -1
    rw [z 201 (by decide)]; rfl
  · show gI τ1 3 = nI tl
    rw [a5.1 3 (by unfold kt4; omega)]
    exact hT.2.1
  · show (if 0 ≤ g ∧ g < 4 then (0 : Int64) else _) = 0
    rw [if_pos ⟨Nat.zero_le _, hg⟩]
  · show (if 0 ≤ g ∧ g < 3 then (0 : Int32) else _) = 0
    rw [if_pos ⟨Nat.zero_le _, hg⟩]
