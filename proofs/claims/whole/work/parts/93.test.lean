/-! test -/
def tcI : Nat → Prop := fun q => q = 1 ∨ q = 12 ∨ q = 67 ∨ q = 130 ∨ q = 133 ∨ (259 ≤ q ∧ q ≤ 263)
def tcL : Nat → Prop := fun q => q = 13
def tcA : Nat → Prop := fun q => q = 11 ∨ q = 12 ∨ q = 14 ∨ q = 16 ∨ q = 17
def tcJ : Nat → Prop := fun q => q = 13 ∨ q = 15 ∨ q = 18
def tmI : Nat → Prop := fun q => q = 0 ∨ q = 3 ∨ q = 4 ∨ q = 26 ∨ (29 ≤ q ∧ q ≤ 32) ∨ q = 35
def tmL : Nat → Prop := fun q => q = 36
def tmA : Nat → Prop := fun q => q = 3 ∨ q = 4 ∨ q = 19
def tmJ : Nat → Prop := fun q => q = 5 ∨ q = 20 ∨ q = 27
theorem REL_tst {w : AW} {σ τ σ' τ' : Sta} (h : REL w σ τ) (hc : Kp tcI tcL tcA tcJ σ σ') (hm : Kp tmI tmL tmA tmJ τ τ') (h1 : gI σ' 1 = 0) (h3 : gI τ' 3 = 0) (h12 : gI σ' 12 = gI τ' 35) (h13 : gL σ' 13 = gL τ' 36) (h26 : ∃ sz : Nat, sz ≤ 1500 ∧ gI τ' 26 = nI sz) : REL w σ' τ' := by
  refine ⟨h.1, h.2.1, AC_kp hc ⟨by unfold tcI; omega, by unfold tcI; omega, by unfold tcI; omega⟩ ⟨by unfold tcA; omega, by unfold tcA; omega, by unfold tcA; omega, by unfold tcA; omega, by unfold tcA; omega, by unfold tcA; omega, by unfold tcA; omega⟩ (by unfold tcJ; omega) h.2.2.1,
    AM_kp hm ⟨by unfold tmI; omega, by unfold tmI; omega, by unfold tmI; omega⟩ ⟨by unfold tmA; omega, by unfold tmA; omega, by unfold tmA; omega, by unfold tmA; omega, by unfold tmA; omega, by unfold tmA; omega, by unfold tmA; omega⟩ (by unfold tmJ; omega) h.2.2.2.1, ⟨0, by omega, h1, h3, fun j hj => absurd hj (Nat.not_lt_zero _)⟩,
    Strs_kp h.2.2.2.2.2.1 hc hm (fun q e => by unfold tcI at e; omega) (fun q e => by unfold tcA at e; omega) (fun q e => by unfold tcJ at e; omega) (fun q e => by unfold tmI at e; omega) (fun q e => by unfold tmA at e; omega) (fun q e => by unfold tmJ at e; omega), ?_, ?_⟩
  · obtain ⟨p, a1, a2, a3, a4⟩ := h.2.2.2.2.2.2.1
    exact ⟨p, a1, by rw [hc.1 450 (by unfold tcI; omega)]; exact a2, by rw [hm.2.2.2.1 37 (by unfold tmJ; omega)]; exact a3, fun j hj => by rw [hm.2.2.2.1 37 (by unfold tmJ; omega), hc.2.2.2.1 40 (by unfold tcJ; omega)]; exact a4 j hj⟩
  · obtain ⟨a1, a2, a3, a4, a5, a6, a7, a8⟩ := h.2.2.2.2.2.2.2
    refine ⟨h12, h13, ?_, ?_, ?_, ?_, h26, ?_⟩
    · rw [hc.2.1 449 (by unfold tcL; omega), hm.2.1 55 (by unfold tmL; omega)]; exact a3
    · rw [hc.2.2.1 9 (by unfold tcA; omega), hm.2.2.1 29 (by unfold tmA; omega)]; exact a4
    · rw [hc.1 202 (by unfold tcI; omega), hm.1 19 (by unfold tmI; omega)]; exact a5
    · rw [hc.2.2.2.1 19 (by unfold tcJ; omega), hm.2.2.2.1 7 (by unfold tmJ; omega)]; exact a6
    · rw [hm.2.2.2.1 1 (by unfold tmJ; omega)]; exact a8
theorem KtC_t {σ σ' : Sta} (h : KtC σ σ') : Kp tcI tcL tcA tcJ σ σ' := h.mono (fun k e => by unfold kt67 at e; unfold tcI; omega) (fun _ e => e.elim) (fun k e => by unfold kt11 at e; unfold tcA; omega) (fun k e => by unfold kt13 at e; unfold tcJ; omega)
theorem KtM_t {σ σ' : Sta} (h : KtM σ σ') : Kp tmI tmL tmA tmJ σ σ' := h.mono (fun k e => by unfold kt4 at e; unfold tmI; omega) (fun _ e => e.elim) (fun k e => by unfold kt3 at e; unfold tmA; omega) (fun k e => by unfold kt5 at e; unfold tmJ; omega)
theorem Kpl_t {σ σ' : Sta} (h : Kpl σ σ') : Kp tcI tcL tcA tcJ σ σ' := h.mono (fun k e => by unfold pI at e; unfold tcI; omega) (fun _ e => e.elim) (fun k e => by unfold xeA at e; unfold tcA; omega) (fun k e => by unfold eJ at e; unfold tcJ; omega)
theorem Kml_t {σ σ' : Sta} (h : Kml σ σ') : Kp tmI tmL tmA tmJ σ σ' := h.mono (fun k e => by unfold pmI at e; unfold tmI; omega) (fun _ e => e.elim) (fun k e => by unfold fA at e; unfold tmA; omega) (fun k e => by unfold fJ at e; unfold tmJ; omega)
theorem k18_t {σ σ' : Sta} (h : Kp n0 n0 n0 k18 σ σ') : Kp tcI tcL tcA tcJ σ σ' := h.mono (fun k e => e.elim) (fun _ e => e.elim) (fun k e => e.elim) (fun k e => by unfold k18 at e; unfold tcJ; omega)
theorem k27_t {σ σ' : Sta} (h : Kp n0 n0 n0 k27 σ σ') : Kp tmI tmL tmA tmJ σ σ' := h.mono (fun k e => e.elim) (fun _ e => e.elim) (fun k e => e.elim) (fun k e => by unfold k27 at e; unfold tmJ; omega)
theorem TB_of {σ τ : Sta} {tl : Nat} (h : TP tl σ τ) : TB tl (fun j => (gA σ 8 j).toNatClampNeg) σ τ := by
  refine ⟨h.2.1, fun j hj => ?_⟩
  obtain ⟨a, b, b1, b2⟩ := h.2.2 j hj
  have e : (gA σ 8 j).toNatClampNeg = b := by rw [b2, nI_clamp (by omega)]
  show gA σ 8 j = nI ((gA σ 8 j).toNatClampNeg) ∧ gA τ 2 j = nI ((gA σ 8 j).toNatClampNeg) ∧ (gA σ 8 j).toNatClampNeg < 256
  rw [e]
  exact ⟨b2, a ▸ b2, b1⟩
theorem op_test {w : AW} {σ τ : Sta} (h : REL w σ τ) (a : Int32) : OP w (f_X8_test a σ) (f_X10_test a τ) eIOB "" "" := by
  have hw := h.1
  have h1 := hw.1
  have hc := h.2.2.1
  have h0 := REL_th h 0
  have hm := h0.2.2.2.1
  have hnv6 : aNv w ≤ 6 := hw.2.2.1
  unfold f_X8_test f_X10_test
  rw [lt_e]
  rcases ix_cases a (n := aNs w) (by omega) with ⟨s, hs, rfl⟩ | ha
  · rw [e_cState_in hw hc hs, bnx_l, e_mState_in hw hm hs, bnd_s, ite10]
    obtain ⟨tl, t0, hT⟩ := Tape_TP.mp h0.2.2.2.2.1
    obtain ⟨r1, r2, r3, r4, r5, r6, ⟨sz, r7, r8⟩, r9⟩ := h0.2.2.2.2.2.2.2
    obtain ⟨σ1, τ1, m, c, a1, a2, a3, a4, a5⟩ := e_read t0 (TB_of hT) r9
    rw [hT.1, a1, bnd_s, lt_e, a2, bnd_s, lt_e, lt_e, lt_e]
    have b26 : gI τ1 26 = nI sz := by rw [a5.1 26 (by unfold kt4; omega)]; exact r8
    have hT2 : TOK m c (sI σ1 1 0) (sL (sI τ1 35 (-1)) 36 0) := a3
    have kc1 : Kp tcI tcL tcA tcJ σ (sI σ1 1 0) := Kp.sI (by unfold tcI; omega) (KtC_t a4)
    have km1 : Kp tmI tmL tmA tmJ τ (sL (sI τ1 35 (-1)) 36 0) := Kp.sL rfl (Kp.sI (by unfold tmI; omega) (Kp.trans (Kp.sI (by unfold tmI; omega) Kp.rfl') (KtM_t a5)))
    have n192 : gI (sI σ1 1 0) 192 = nI (aNv w) := (a4.1 192 (by unfold kt67; omega)).trans hc.2.2.1
    have n10 : gI (sL (sI τ1 35 (-1)) 36 0) 10 = nI (aNv w) := (a5.1 10 (by unfold kt4; omega)).trans hm.2.2.1
    have nJ : ∀ v, v < aNv w → gJ (sI σ1 1 0) 19 v = gJ (sL (sI τ1 35 (-1)) 36 0) 7 v := fun v hv => by
      show gJ σ1 19 v = gJ τ1 7 v
      rw [a4.2.2.2.1 19 (by unfold kt13; omega), a5.2.2.2.1 7 (by unfold kt5; omega)]
      exact r6 v hv
    rw [show gI (sL (sI τ1 35 (-1)) 36 0) 26 = nI sz from b26, show FU = 999999997 + 1 + 1 + 1 from rfl, f_X10_test_43, if_neg (show ¬ (2 : Int32) ≤ 0 by decide), if_neg (show ¬ (0 : Int32) = 1 by decide)]
    rcases l_form hT2 ⟨_, hnv6, n192⟩ with ⟨σ3, τ3, t', b1, b2, b3, b4, b5, b6, b7, b8⟩ | ⟨σ3, τ3, b1, b2, b3, b4, b8⟩
    · obtain ⟨hT3, hk3⟩ := TOK_l hT2 b3 b4
      have m192 : gI σ3 192 = nI (aNv w) := (b3.1 192 (by unfold pI; omega)).trans n192
      have m10 : gI τ3 10 = nI (aNv w) := (b4.1 10 (by unfold pmI; omega)).trans n10
      have mJ : ∀ v, v < aNv w → gJ σ3 19 v = gJ τ3 7 v := fun v hv => by
        rw [b3.2.2.2.1 19 (by unfold eJ; omega), b4.2.2.2.1 7 (by unfold fJ; omega)]
        exact nJ v hv
      rw [b1, bnd_s, if_pos b2, b8, show (0 : Int32) + 1 = 1 by decide, f_X10_test_43, if_neg (show ¬ (2 : Int32) ≤ 1 by decide), if_pos (show (1 : Int32) = 1 from rfl)]
      rcases l_mean hT3 hnv6 m192 m10 mJ (b5.trans b26) r7 (by rw [hk3]; exact b6) (by rw [hk3]; exact b7) with ⟨σ4, τ4, d1, d2, d3, d4, d5, d6, d7⟩ | ⟨σ4, τ4, d1, d2, d4, d5, d7⟩
      · have hv32 : ∀ v, v < aNv w → gA (sL (sI σ4 12 (gI σ4 263)) 13 0) 32 (s * 6 + v) = gA τ4 21 (6 * s + v) := fun v hv => by
          show gA σ4 32 (s * 6 + v) = _
          rw [d4.2.2.1 32 (by unfold xeA; omega), b3.2.2.1 32 (by unfold xeA; omega), d5.2.2.1 21 (by unfold fA; omega), b4.2.2.1 21 (by unfold fA; omega)]
          show gA σ1 32 (s * 6 + v) = gA τ1 21 (6 * s + v)
          rw [a4.2.2.1 32 (by unfold kt11; omega), a5.2.2.1 21 (by unfold kt3; omega), hc.2.2.2.2.2 s v hs hv, hm.2.2.2.2.2 s v hs hv]
        obtain ⟨r, σ5, τ5, e1, e2, e3, e4⟩ := e_reckon (σ := sL (sI σ4 12 (gI σ4 263)) 13 0) (by omega) hnv6 (show ER (sL (sI σ4 12 (gI σ4 263)) 13 0) τ4 (aNv w) 0 (nI sz) from by
          obtain ⟨e', s', b, l, f1, f2, f3, f4, f5, f6, f7, f8, f9, f10, f11, f12⟩ := d6
          exact ⟨e', s', b, l, f1, f2, f3, f4, f5, f6, f7, f8, XC_low (σ := σ4) l b _ (Nat.le_refl _) (fun j _ => ⟨rfl, rfl⟩) f9, f10, f11, f12⟩) hv32
        rw [d1, bnd_s, d7, show (1 : Int32) + 1 = 2 by decide, f_X10_test_43, if_pos (show (2 : Int32) ≤ 2 by decide), e2, bnd_s, lt_e]
        unfold f_X8_test_51 f_X8_test_100 f_X10_test_130
        rw [lt_e, lt_e, if_pos (show gI (sL (sI σ4 12 (gI σ4 263)) 13 0) 262 = 0 from d2), nI_mulL, e1, bnd_s, lt_e, lt_e, lt_e]
        have kc : Kp tcI tcL tcA tcJ σ (sL σ5 13 r) := Kp.sL rfl (Kp.trans (Kp.sL rfl (Kp.sI (by unfold tcI; omega) (Kp.trans kc1 (Kp.trans (Kpl_t b3) (Kpl_t d4))))) (k18_t e3))
        have km : Kp tmI tmL tmA tmJ τ (sI (sI (sL τ5 36 r) 26 (nI sz)) 3 0) := Kp.sI (by unfold tmI; omega) (Kp.sI (by unfold tmI; omega) (Kp.sL rfl (Kp.trans km1 (Kp.trans (Kml_t b4) (Kp.trans (Kml_t d5) (k27_t e4))))))
        have x262 : gI (sL σ5 13 r) 262 = 0 := (e3.1 262 id).trans d2
        rw [x262]
        refine OP.in 0 rfl rfl (REL_tst h kc km ?_ rfl ?_ ?_ ⟨sz, r7, rfl⟩) ?_
        · show gI σ5 1 = 0
          rw [e3.1 1 id]
          show gI σ4 1 = 0
          rw [d4.1 1 (by unfold pI; omega), b3.1 1 (by unfold pI; omega)]
          rfl
        · show gI σ5 12 = gI τ5 35
          rw [e3.1 12 id, e4.1 35 id]
          show gI σ4 263 = gI τ4 35
          rw [d3, d5.1 35 (by unfold pmI; omega), b4.1 35 (by unfold pmI; omega)]
          rfl
        · show gL (sL σ5 13 r) 13 = gL (sL τ5 36 r) 36
          rfl
        · show gI τ5 0 = 0
          rw [e4.1 0 id, d5.1 0 (by unfold pmI; omega), b4.1 0 (by unfold pmI; omega)]
          show gI τ1 0 = 0
          rw [a5.1 0 (by unfold kt4; omega)]
          rfl
      · rw [d1, bnd_s, d7]
        unfold f_X8_test_51 f_X8_test_100 f_X10_test_130
        rw [lt_e, lt_e, if_neg (show ¬ gI (sL (sI σ4 12 (gI σ4 263)) 13 0) 262 = 0 from fun e => by have e' : gI σ4 262 = 0 := e; rw [d2] at e'; exact absurd e' (by decide)), lt_e, lt_e, show gI (sL (sI σ4 12 (gI σ4 263)) 13 0) 262 = 2 from d2]
        have kc : Kp tcI tcL tcA tcJ σ (sL (sI σ4 12 (gI σ4 263)) 13 0) := Kp.sL rfl (Kp.sI (by unfold tcI; omega) (Kp.trans kc1 (Kp.trans (Kpl_t b3) (Kpl_t d4))))
        have km : Kp tmI tmL tmA tmJ τ (sI (sI (sI τ4 35 (gI σ4 263)) 26 (nI sz)) 3 0) := Kp.sI (by unfold tmI; omega) (Kp.sI (by unfold tmI; omega) (Kp.sI (by unfold tmI; omega) (Kp.trans km1 (Kp.trans (Kml_t b4) (Kml_t d5)))))
        refine OP.in 2 rfl rfl (REL_tst h kc km ?_ rfl rfl ?_ ⟨sz, r7, rfl⟩) ?_
        · show gI σ4 1 = 0
          rw [d4.1 1 (by unfold pI; omega), b3.1 1 (by unfold pI; omega)]
          rfl
        · show (0 : Int64) = gL τ4 36
          rw [d5.2.1 36 id, b4.2.1 36 id]
          rfl
        · show gI τ4 0 = 0
          rw [d5.1 0 (by unfold pmI; omega), b4.1 0 (by unfold pmI; omega)]
          show gI τ1 0 = 0
          rw [a5.1 0 (by unfold kt4; omega)]
          rfl
    · rw [b1, bnd_s, if_neg (show ¬ gI σ3 262 = 0 from fun e => by rw [b2] at e; exact absurd e (by decide)), b8]
      unfold f_X8_test_51 f_X8_test_100 f_X10_test_130
      rw [lt_e, lt_e, if_neg (show ¬ gI (sL (sI σ3 12 (gI σ3 263)) 13 0) 262 = 0 from fun e => by have e' : gI σ3 262 = 0 := e; rw [b2] at e'; exact absurd e' (by decide)), lt_e, lt_e, show gI (sL (sI σ3 12 (gI σ3 263)) 13 0) 262 = 1 from b2]
      have kc : Kp tcI tcL tcA tcJ σ (sL (sI σ3 12 (gI σ3 263)) 13 0) := Kp.sL rfl (Kp.sI (by unfold tcI; omega) (Kp.trans kc1 (Kpl_t b3)))
      have km : Kp tmI tmL tmA tmJ τ (sI (sI (sI τ3 35 (gI σ3 263)) 26 (nI sz)) 3 0) := Kp.sI (by unfold tmI; omega) (Kp.sI (by unfold tmI; omega) (Kp.sI (by unfold tmI; omega) (Kp.trans km1 (Kml_t b4))))
      refine OP.in 1 rfl rfl (REL_tst h kc km ?_ rfl rfl ?_ ⟨sz, r7, rfl⟩) ?_
      · show gI σ3 1 = 0
        rw [b3.1 1 (by unfold pI; omega)]
        rfl
      · show (0 : Int64) = gL τ3 36
        rw [b4.2.1 36 id]
        rfl
      · show gI τ3 0 = 0
        rw [b4.1 0 (by unfold pmI; omega)]
        show gI τ1 0 = 0
        rw [a5.1 0 (by unfold kt4; omega)]
        rfl
  · have hf : ∀ σ : Sta, f_X10_fail 1 σ = some (0, sI σ 0 1) := fun _ => rfl
    rw [e_cState_out hc ha, bnx_r, e_mState_out hw hm ha, bnd_s, ite00, hf, bnd_s]
    exact OP.e1 rfl rfl (REL_fail h 0 1) (th_0 _ _)
