/-! feed, trim -/
theorem sar_b (x s : Int32) (k : Nat) (hs : (s.toBitVec.smod 32).toNat = k) (hk : k = 24 ∨ k = 16 ∨ k = 8 ∨ k = 0) : (x >>> s).toBitVec.toNat % 256 = x.toBitVec.toNat / 2 ^ k % 256 := by
  have h1 := pk_shr x s k hs
  have h2 : (x >>> s).toInt = (x >>> s).toBitVec.toInt := rfl
  have h3 : x.toInt = x.toBitVec.toInt := rfl
  rw [h2, h3, BitVec.toInt_eq_toNat_cond, BitVec.toInt_eq_toNat_cond, Int.shiftRight_eq_div_pow] at h1
  have h4 := (x >>> s).toBitVec.isLt
  have h5 := x.toBitVec.isLt
  generalize (x >>> s).toBitVec.toNat = N at *
  generalize x.toBitVec.toNat = X at *
  rcases hk with rfl | rfl | rfl | rfl <;> (split at h1 <;> split at h1 <;> omega)
theorem shr_b (x : Int32) (k : Nat) (hk : k = 24 ∨ k = 16 ∨ k = 8 ∨ k = 0) : ∃ b : Nat, b < 256 ∧ ((x.toUInt32 >>> ((nI k).toUInt32 &&& Int32.toUInt32 31)).toInt32) &&& 255 = nI b ∧ (x >>> ((nI k) &&& 31)) &&& 255 = nI b := by
  refine ⟨x.toBitVec.toNat / 2 ^ k % 2 ^ 8, Nat.mod_lt _ (by decide), ?_, ?_⟩
  · rw [pk_and _ 8 (by decide), pk_ushr x (nI k) k (by rcases hk with rfl | rfl | rfl | rfl <;> decide)]
  · rw [pk_and _ 8 (by decide)]
    have := sar_b x ((nI k) &&& 31) k (by rcases hk with rfl | rfl | rfl | rfl <;> decide) hk
    rw [show (2 : Nat) ^ 8 = 256 from rfl, this]
def TP (tl : Nat) (σ τ : Sta) : Prop := gI σ 1 = nI tl ∧ gI τ 3 = nI tl ∧ ∀ j, j < tl → gA σ 8 j = gA τ 2 j ∧ ∃ b : Nat, b < 256 ∧ gA σ 8 j = nI b
def k1 : Nat → Prop := fun q => q = 1
def k3 : Nat → Prop := fun q => q = 3
def k8 : Nat → Prop := fun q => q = 8
def k2 : Nat → Prop := fun q => q = 2
theorem e_byte {v : Int32} {k tl n n' : Nat} {σ τ : Sta} (hk : k = 24 ∨ k = 16 ∨ k = 8 ∨ k = 0) (htl : tl < 1500) (h : TP tl σ τ) : ∃ σ' τ', f_X8_append_3 (n + 1) v (nI k) σ = f_X8_append_3 n v (nI k + (-8)) σ' ∧ f_X10_four_3 (n' + 1) v (nI k) τ = f_X10_four_3 n' v (nI k + (-8)) τ' ∧ TP (tl + 1) σ' τ' ∧ Kp k1 n0 k8 n0 σ σ' ∧ Kp k3 n0 k2 n0 τ τ' := by
  obtain ⟨b, b1, b2, b3⟩ := shr_b v k hk
  refine ⟨sI (sA σ 8 (upd (gA σ 8) tl (nI b))) 1 (nI (tl + 1)), sI (sA τ 2 (upd (gA τ 2) tl (nI b))) 3 (nI (tl + 1)), ?_, ?_, ⟨by rw [gI_sI, if_pos rfl], by rw [gI_sI, if_pos rfl], fun j hj => ?_⟩, Kp.sI rfl (Kp.sA rfl Kp.rfl'), Kp.sI rfl (Kp.sA rfl Kp.rfl')⟩
  · rw [f_X8_append_3, if_neg (nI_pos (by omega)), h.1, if_neg (by rw [nI_Lle (by omega) (by decide)]; omega), if_neg (nI_in (by omega) (by omega)), lt_e, lt_e, gI_sA, h.1, nI_1, nI_clamp (by omega), b2]
    rfl
  · rw [f_X10_four_3, if_neg (nI_pos (by omega)), h.2.1, if_neg (nI_in (by omega) (by omega)), lt_e, lt_e, lt_e, gI_sA, h.2.1, nI_1, nI_clamp (by omega), b3]
  · rw [gA_sI, gA_sA, if_pos rfl, gA_sI, gA_sA, if_pos rfl, upd_at, upd_at]
    by_cases h1 : j = tl
    · rw [if_pos h1, if_pos h1]
      exact ⟨rfl, b, b1, rfl⟩
    · rw [if_neg h1, if_neg h1]
      exact h.2.2 j (by omega)
theorem e_append {v : Int32} {tl : Nat} {σ τ : Sta} (htl : tl + 4 ≤ 1500) (h : TP tl σ τ) : ∃ σ' τ', f_X8_append v σ = some ((), σ') ∧ f_X10_four v τ = some ((), τ') ∧ TP (tl + 4) σ' τ' ∧ Kp k1 n0 k8 n0 σ σ' ∧ Kp k3 n0 k2 n0 τ τ' := by
  obtain ⟨σ1, τ1, a1, b1, h1, c1, d1⟩ := e_byte (v := v) (k := 24) (n := 999999999) (n' := 999999999) (by omega) (by omega) h
  obtain ⟨σ2, τ2, a2, b2, h2, c2, d2⟩ := e_byte (v := v) (k := 16) (n := 999999998) (n' := 999999998) (by omega) (by omega) h1
  obtain ⟨σ3, τ3, a3, b3, h3, c3, d3⟩ := e_byte (v := v) (k := 8) (n := 999999997) (n' := 999999997) (by omega) (by omega) h2
  obtain ⟨σ4, τ4, a4, b4, h4, c4, d4⟩ := e_byte (v := v) (k := 0) (n := 999999996) (n' := 999999996) (by omega) (by omega) h3
  refine ⟨σ4, τ4, ?_, ?_, h4, ((c1.trans c2).trans c3).trans c4, ((d1.trans d2).trans d3).trans d4⟩
  · unfold f_X8_append
    refine (show f_X8_append_3 FU v 24 σ = _ from a1).trans ?_
    rw [show nI 24 + (-8) = nI 16 by decide, a2, show nI 16 + (-8) = nI 8 by decide, a3, show nI 8 + (-8) = nI 0 by decide, a4, f_X8_append_3, if_pos (by decide)]
  · unfold f_X10_four
    refine (show f_X10_four_3 FU v 24 τ = _ from b1).trans ?_
    rw [show nI 24 + (-8) = nI 16 by decide, b2, show nI 16 + (-8) = nI 8 by decide, b3, show nI 8 + (-8) = nI 0 by decide, b4, f_X10_four_3, if_pos (by decide)]
theorem Tape_TP {σ τ : Sta} : Tape σ τ ↔ ∃ tl, tl ≤ 1500 ∧ TP tl σ τ := ⟨fun ⟨tl, a, b, c, d⟩ => ⟨tl, a, b, c, d⟩, fun ⟨tl, a, b, c, d⟩ => ⟨tl, a, b, c, d⟩⟩
theorem REL_tape {w : AW} {σ τ σ' τ' : Sta} (h : REL w σ τ) (hc : Kp k1 n0 k8 n0 σ σ') (hm : Kp k3 n0 k2 n0 τ τ') (hT : Tape σ' τ') : REL w σ' τ' := by
  refine ⟨h.1, h.2.1, AC_kp hc ⟨by unfold k1; omega, by unfold k1; omega, by unfold k1; omega⟩ ⟨by unfold k8; omega, by unfold k8; omega, by unfold k8; omega, by unfold k8; omega, by unfold k8; omega, by unfold k8; omega, by unfold k8; omega⟩ id h.2.2.1,
    AM_kp hm ⟨by unfold k3; omega, by unfold k3; omega, by unfold k3; omega⟩ ⟨by unfold k2; omega, by unfold k2; omega, by unfold k2; omega, by unfold k2; omega, by unfold k2; omega, by unfold k2; omega, by unfold k2; omega⟩ id h.2.2.2.1, hT,
    Strs_kp h.2.2.2.2.2.1 hc hm (fun q e => by unfold k1 at e; omega) (fun q e => by unfold k8 at e; omega) (fun _ e => e.elim) (fun q e => by unfold k3 at e; omega) (fun q e => by unfold k2 at e; omega) (fun _ e => e.elim), ?_, ?_⟩
  · obtain ⟨p, a1, a2, a3, a4⟩ := h.2.2.2.2.2.2.1
    exact ⟨p, a1, by rw [hc.1 450 (by unfold k1; omega)]; exact a2, by rw [hm.2.2.2.1 37 id]; exact a3, fun j hj => by rw [hm.2.2.2.1 37 id, hc.2.2.2.1 40 id]; exact a4 j hj⟩
  · obtain ⟨a1, a2, a3, a4, a5, a6, a7, a8⟩ := h.2.2.2.2.2.2.2
    unfold Rest
    rw [hc.1 12 (by unfold k1; omega), hm.1 35 (by unfold k3; omega), hc.2.1 13 id, hm.2.1 36 id, hc.2.1 449 id, hm.2.1 55 id, hc.2.2.1 9 (by unfold k8; omega), hm.2.2.1 29 (by unfold k2; omega), hc.1 202 (by unfold k1; omega), hm.1 19 (by unfold k3; omega), hc.2.2.2.1 19 id, hm.2.2.2.1 7 id, hm.1 26 (by unfold k3; omega), hm.2.2.2.1 1 id]
    exact ⟨a1, a2, a3, a4, a5, a6, a7, a8⟩
theorem op_feed {w : AW} {σ τ : Sta} (h : REL w σ τ) (a b c d e : Int32) : OP w (f_X8_feed a b c d e σ) (f_X10_feed a b c d e τ) eISE "" "" := by
  have h0 := REL_th h 0
  obtain ⟨tl, t0, hT⟩ := Tape_TP.mp h0.2.2.2.2.1
  unfold f_X8_feed f_X10_feed
  rw [lt_e, hT.1, hT.2.1, nI_addL]
  by_cases h1 : tl ≤ 1480
  · obtain ⟨σ1, τ1, a1, b1, h1', c1, d1⟩ := e_append (v := a) (by omega) hT
    obtain ⟨σ2, τ2, a2, b2, h2, c2, d2⟩ := e_append (v := b) (by omega) h1'
    obtain ⟨σ3, τ3, a3, b3, h3, c3, d3⟩ := e_append (v := c) (by omega) h2
    obtain ⟨σ4, τ4, a4, b4, h4, c4, d4⟩ := e_append (v := d) (by omega) h3
    obtain ⟨σ5, τ5, a5, b5, h5, c5, d5⟩ := e_append (v := e) (by omega) h4
    have hm := (((d1.trans d2).trans d3).trans d4).trans d5
    rw [if_pos (by rw [nI_leL (by omega) (by decide)]; omega), a1, bnd_s, a2, bnd_s, a3, bnd_s, a4, bnd_s, a5, bnd_s, if_pos (by rw [nI_leL (by omega) (by decide)]; omega), b1, bnd_s, b2, bnd_s, b3, bnd_s, b4, bnd_s, b5, bnd_s, h5.1, h5.2.1]
    exact OP.in _ rfl rfl (REL_tape h0 ((((c1.trans c2).trans c3).trans c4).trans c5) hm (Tape_TP.mpr ⟨_, by omega, h5⟩)) (by rw [hm.1 0 (by unfold k3; omega)]; exact th_0 _ _)
  · rw [if_neg (by rw [nI_leL (by omega) (by decide)]; omega), if_neg (by rw [nI_leL (by omega) (by decide)]; omega), e_failM, bnd_s]
    exact OP.e1 rfl rfl (REL_fail h 0 1) (th_0 _ _)
theorem op_trim {w : AW} {σ τ : Sta} (h : REL w σ τ) (a : Int32) : OP w (f_X8_trim a σ) (f_X10_trim a τ) eIAE "" "" := by
  have h0 := REL_th h 0
  obtain ⟨tl, t0, hT⟩ := Tape_TP.mp h0.2.2.2.2.1
  unfold f_X8_trim f_X10_trim
  rw [lt_e, hT.1, hT.2.1, e_cR, show (0 : Int64) = (0 : Int32).toInt64 by decide, e_isR]
  by_cases h5 : (0 : Int32) ≤ a ∧ a ≤ nI tl
  · obtain ⟨p, hp, rfl⟩ := nI_of2 (M := nI tl) (n := tl) (nI_toInt (by omega)) (fun e => Int32.not_le.mpr e h5.1) h5.2
    rw [if_pos h5, if_pos h5, bnx_l, lt_e, bnd_s, ite10, lt_e]
    exact OP.in _ rfl rfl (REL_tape h0 (Kp.sI rfl Kp.rfl') (Kp.sI rfl Kp.rfl') (Tape_TP.mpr ⟨p, by omega, by rw [gI_sI, if_pos rfl], by rw [gI_sI, if_pos rfl], fun j hj => hT.2.2 j (by omega)⟩)) (by rw [gI_sI, if_neg (by decide)]; exact th_0 _ _)
  · rw [if_neg h5, if_neg h5, bnx_r, bnd_s, ite00, e_failM, bnd_s]
    exact OP.e1 rfl rfl (REL_fail h 0 1) (th_0 _ _)
