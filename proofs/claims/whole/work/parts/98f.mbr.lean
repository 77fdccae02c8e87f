/-! The meaning pass: the branches of a command. -/
theorem aAccN_l (f : Nat → Nat) : ∀ m k a, aAccN f (m + 1) k a = aAccN f m k a + f (k + m)
  | 0, k, a => rfl
  | m + 1, k, a => by
    show aAccN f (m + 1) (k + 1) (a + f k) = aAccN f m (k + 1) (a + f k) + f (k + (m + 1))
    rw [aAccN_l f m (k + 1) (a + f k), show k + 1 + m = k + (m + 1) by omega]
theorem aAccN_c {f g : Nat → Nat} : ∀ m k a, (∀ j, k ≤ j → j < k + m → f j = g j) → aAccN f m k a = aAccN g m k a
  | 0, _, _, _ => rfl
  | m + 1, k, a, h => by
    show aAccN f m (k + 1) (a + f k) = aAccN g m (k + 1) (a + g k)
    rw [h k (Nat.le_refl _) (by omega), aAccN_c m (k + 1) _ (fun j h1 h2 => h j (by omega) (by omega))]
theorem aAccN_b {f : Nat → Nat} : ∀ m k a, (∀ j, k ≤ j → j < k + m → f j ≤ 100) → aAccN f m k a ≤ a + m * 100
  | 0, _, a, _ => by
    show a ≤ _
    omega
  | m + 1, k, a, h => by
    have h1 := aAccN_b m (k + 1) (a + f k) (fun j h1 h2 => h j (by omega) (by omega))
    have h2 := h k (Nat.le_refl _) (by omega)
    show aAccN f m (k + 1) (a + f k) ≤ _
    omega
theorem w100 {w : Int64} (h1 : 1 ≤ w) (h2 : w ≤ 100) : ∃ q : Nat, q ≤ 100 ∧ w.toInt32 = nI q := by
  have a1 := (fa_le64 _ _).mp h1
  have a2 := (fa_le64 _ _).mp h2
  have e1 : (1 : Int64).toInt = 1 := by decide
  have e2 : (100 : Int64).toInt = 100 := by decide
  rw [e1] at a1
  rw [e2] at a2
  refine ⟨w.toInt.toNat, by omega, ?_⟩
  rw [fa_eq, nI_toInt (by omega), Int64.toInt_toInt32]
  rw [Int.bmod_eq_of_le (by omega) (by omega)]
  omega
section MB
variable {K : Nat → Nat} {W : Nat → Int64} {m c t u nv ng nc len x sz n : Nat} {pc : Nat → Nat} {rE bE pl : Int32} {w : Int64} {σ0 τ0 σ τ : Sta}
/-- in a command: the class has added it, its branches up to n are there -/
def PB (K : Nat → Nat) (W : Nat → Int64) (m c : Nat) (σ0 τ0 : Sta) (u t nv ng nc len x sz n : Nat) (pc : Nat → Nat) (rE bE pl : Int32) (w : Int64) (σ τ : Sta) : Prop :=
  PT K W m c σ0 τ0 u t nv ng nc len x sz σ τ ∧ (nc < 16 ∧ n ≤ 4) ∧ gI σ 202 = nI (nc + 1) ∧ gI τ 19 = nI nc ∧ NM nv ng (nc + 1) σ τ ∧ gA σ 27 nc = pl ∧ gA σ 28 nc = rE ∧ ERb nv len x sz σ τ rE bE ∧ gJ σ 26 nc = w ∧ CB nv len x sz nc n pc σ τ ∧ ∀ k, k < nc → gJ τ 13 k ≠ w
theorem PB.fr {u' t' len' x' sz' : Nat} {σ' τ' : Sta} (h : PB K W m c σ0 τ0 u t nv ng nc len x sz n pc rE bE pl w σ τ) (hT : PT K W m c σ0 τ0 u' t' nv ng nc len' x' sz' σ' τ') (hc : Kxe σ σ') (hm : Ki τ τ') (hL : LX len x sz σ τ σ' τ') (l1 : len ≤ len') (l2 : x ≤ x') (l3 : sz ≤ sz') : PB K W m c σ0 τ0 u' t' nv ng nc len' x' sz' n pc rE bE pl w σ' τ' := by
  obtain ⟨h1, h2, h3, h4, h5, h6, h7, h8, h9, h10, h11⟩ := h
  have cA : ∀ q, ¬ xeA q → gA σ' q = gA σ q := hc.2.2.1
  have mA : ∀ q, ¬ fA q → gA τ' q = gA τ q := hm.2.2.1
  refine ⟨hT, h2, (Kxe_202 hc).trans h3, (Ki_19 hm).trans h4, NM_fr h5 hc hm, by rw [cA 27 (by unfold xeA; omega)]; exact h6, by rw [cA 28 (by unfold xeA; omega)]; exact h7, ERb_low h8 hL (Nat.le_refl _) l1 l2 l3, by rw [hc.2.2.2.1 26 (by unfold eJ; omega)]; exact h9, CB_low h10 hL (Nat.le_refl _) l1 l2 l3 (by rw [cA 29 (by unfold xeA; omega)]) (fun b _ => ?_), fun k hk => by rw [hm.2.2.2.1 13 (by unfold fJ; omega)]; exact h11 k hk⟩
  rw [cA 30 (by unfold xeA; omega), cA 31 (by unfold xeA; omega), mA 17 (by unfold fA; omega), mA 18 (by unfold fA; omega)]
  exact ⟨rfl, rfl, fun _ _ => ⟨rfl, rfl⟩⟩
theorem PB.mv1 (h : PB K W m c σ0 τ0 u t nv ng nc len x sz n pc rE bE pl w σ τ) (hk : K t < 202) (hu : u ≤ t + 1) : PB K W m c σ0 τ0 (t + 1) (t + 1) nv ng nc len x sz n pc rE bE pl w (sI σ 260 (nI (t + 1))) (sI τ 29 (nI (t + 1))) :=
  h.fr (pt_mv1 h.1 hk hu) (Ke_x (Ke_at _ _)) (Ki_29 _ _) (LX_rfl rfl rfl rfl rfl rfl rfl) (Nat.le_refl _) (Nat.le_refl _) (Nat.le_refl _)
theorem PB.lb (h : PB K W m c σ0 τ0 u t nv ng nc len x sz n pc rE bE pl w σ τ) : f_X4_latestBranches σ = some (nI n, σ) := by
  have hn := h.2.1
  have e : nI (nc + 1) - 1 = nI nc := nI_pred nc
  unfold f_X4_latestBranches f_X4_latestBranches_22
  rw [h.2.2.1, if_neg (nI_nle (by omega) (by omega)), e, if_neg (nI_in (by omega) (by decide)), nI_clamp (by omega), h.2.2.2.2.2.2.2.2.2.1.1]
theorem PB.lc (h : PB K W m c σ0 τ0 u t nv ng nc len x sz n pc rE bE pl w σ τ) : ∀ (r k i a : Nat), k + r = n → r < i → f_X4_latestChances_4 i (nI a) (nI k) σ = some (nI (aAccN pc r k a), σ)
  | _, _, 0, _, _, hi => absurd hi (Nat.not_lt_zero _)
  | 0, k, i + 1, a, hk, hi => by
    have hn := h.2.1
    rw [f_X4_latestChances_4, h.lb, bnd_s, if_pos (nI_le (by omega) (by omega))]
    rfl
  | r + 1, k, i + 1, a, hk, hi => by
    have hn := h.2.1
    have e : nI (nc + 1) - 1 = nI nc := nI_pred nc
    obtain ⟨b1, b2, b3, b4⟩ := h.2.2.2.2.2.2.2.2.2.1.2 k (by omega)
    rw [f_X4_latestChances_4, h.lb, bnd_s, if_neg (nI_ge (by omega) (by omega)), h.2.2.1, e, nI_mulL, nI_add, if_neg (nI_in (by show nc * 4 + k < 64; omega) (by decide)), nI_clamp (by show nc * 4 + k < 2 ^ 31; omega), lt_e, lt_e, show nc * OfNat.ofNat 4 + k = nc * 4 + k from rfl, b1, nI_add, nI_1]
    exact PB.lc h r (k + 1) i (a + pc k) (by omega) (by omega)
/-- a variable that is named -/
theorem pt_var {σb : Sta} {τa : Sta} (h : PT K W m c σ0 τ0 u t nv ng nc len x sz σ τa) (h' : CV nv σb τ) (e : gJ σb 19 = gJ σ 19) (y : Int64) : (∃ v, v < nv ∧ f_X4_variableNamed y σ = some (nI v, σ) ∧ f_X10_indexOf 7 6 (gI τ 10) y τ = some (nI v, τ)) ∨ (f_X4_variableNamed y σ = some (-1, σ) ∧ f_X10_indexOf 7 6 (gI τ 10) y τ = some (-1, τ)) := by
  have hv := h.2.2.2.1.1.1
  have e1 := h.2.2.2.1.2.2.1.1
  unfold f_X4_variableNamed f_X4_indexOf f_X10_indexOf
  rw [e1, h'.2.1]
  have hf : nv < FU := Nat.lt_of_le_of_lt hv (FU_lt (by decide))
  rcases b_idx (q0 := 19) (n0 := 6) (q1 := 7) (n1 := 6) (w := y) (σ := σ) (τ := τ) hv hv (by decide) (by decide) (fun v hv => by rw [← e]; exact (h'.2.2 v hv).2.2.2) nv 0 FU FU (by omega) hf hf with ⟨v, v1, v2, v3⟩ | ⟨v2, v3⟩
  · have v2' : f_X4_indexOf_3 19 6 FU (nI nv) y 0 σ = some (nI v, σ) := v2
    have v3' : f_X10_indexOf_3 7 6 FU (nI nv) y 0 τ = some (nI v, τ) := v3
    exact Or.inl ⟨v, v1, by rw [v2', bnd_s], v3'⟩
  · have v2' : f_X4_indexOf_3 19 6 FU (nI nv) y 0 σ = some (-1, σ) := v2
    have v3' : f_X10_indexOf_3 7 6 FU (nI nv) y 0 τ = some (-1, τ) := v3
    exact Or.inr ⟨by rw [v2', bnd_s], v3'⟩
/-- a setting is added -/
theorem PB.set {v b : Nat} {r y : Int32} (h : PB K W m c σ0 τ0 u t nv ng nc len x sz n pc rE bE pl w σ τ) (hv : v < 6) (hb : b < n) (hE : ERb nv len x sz σ τ r y) : PB K W m c σ0 τ0 u t nv ng nc len x sz n pc rE bE pl w (sA σ 31 (upd (gA σ 31) ((nc * 4 + b) * 6 + v) r)) (sA τ 18 (upd (gA τ 18) ((nc * 4 + b) * 6 + v) y)) := by
  obtain ⟨⟨hB, h30, hu, ⟨p1, p2, p3, p4, p5, p6, p7⟩, hS, hq, hk⟩, h2, h3, h4, h5, h6, h7, h8, h9, ⟨h10, h12⟩, h11⟩ := h
  have kc : Kq σ (sA σ 31 (upd (gA σ 31) ((nc * 4 + b) * 6 + v) r)) := Kp.sA (by unfold qA; omega) Kp.rfl'
  have km : Km τ (sA τ 18 (upd (gA τ 18) ((nc * 4 + b) * 6 + v) y)) := Kp.sA (by unfold mqA; omega) Kp.rfl'
  have hL : LX len x sz σ τ (sA σ 31 (upd (gA σ 31) ((nc * 4 + b) * 6 + v) r)) (sA τ 18 (upd (gA τ 18) ((nc * 4 + b) * 6 + v) y)) := LX_rfl rfl rfl rfl rfl rfl rfl
  refine ⟨⟨BX_cm hB kc km rfl rfl rfl rfl rfl rfl rfl rfl, h30, hu, ⟨p1, p2, p3, CG_low p4 hL (Nat.le_refl _) (Nat.le_refl _) (Nat.le_refl _) (Nat.le_refl _) rfl rfl rfl rfl rfl rfl, CO_low p5 hL (Nat.le_refl _) (Nat.le_refl _) (Nat.le_refl _) (Nat.le_refl _) rfl rfl, CC_low p6 hL (Nat.le_refl _) (Nat.le_refl _) (Nat.le_refl _) (Nat.le_refl _) (fun _ _ => ⟨rfl, rfl, rfl, rfl, rfl, rfl, rfl, rfl⟩) (fun j hj => ⟨rfl, rfl, fun v' hv' => ?_⟩), p7⟩, hS, Kp.trans hq kc, Kp.trans hk km⟩, h2, h3, h4, h5, h6, h7, ERb_low h8 hL (Nat.le_refl _) (Nat.le_refl _) (Nat.le_refl _) (Nat.le_refl _), h9, ⟨h10, fun i hi => ?_⟩, h11⟩
  · show upd (gA σ 31) ((nc * 4 + b) * 6 + v) r (j * 6 + v') = _ ∧ upd (gA τ 18) ((nc * 4 + b) * 6 + v) y (j * 6 + v') = _
    rw [upd_at, upd_at, if_neg (by omega), if_neg (by omega)]
    exact ⟨rfl, rfl⟩
  · obtain ⟨b1, b2, b3, b4⟩ := h12 i hi
    refine ⟨b1, b2, b3, fun v' hv' => ?_⟩
    show SE nv len x sz _ _ (upd (gA σ 31) ((nc * 4 + b) * 6 + v) r ((nc * 4 + i) * 6 + v')) (upd (gA τ 18) ((nc * 4 + b) * 6 + v) y ((nc * 4 + i) * 6 + v'))
    rw [upd_at, upd_at]
    by_cases q : (nc * 4 + i) * 6 + v' = (nc * 4 + b) * 6 + v
    · rw [if_pos q, if_pos q]
      exact Or.inr (ERb_low hE hL (Nat.le_refl _) (Nat.le_refl _) (Nat.le_refl _) (Nat.le_refl _))
    · rw [if_neg q, if_neg q]
      exact SE_low (b4 v' hv') hL (Nat.le_refl _) (Nat.le_refl _) (Nat.le_refl _) (Nat.le_refl _)
theorem PB.ls (h : PB K W m c σ0 τ0 u t nv ng nc len x sz (n + 1) pc rE bE pl w σ τ) {v : Nat} (hv : v < 6) : f_X4_latestSetting (nI v) σ = some (nI ((nc * 4 + n) * 6 + v), σ) := by
  have hn := h.2.1
  have e : nI (nc + 1) - 1 = nI nc := nI_pred nc
  unfold f_X4_latestSetting
  rw [h.lb, bnd_s, if_neg (nI_ne0 (by omega) (by omega)), if_neg (nI_pos (by omega)), if_pos (by rw [nI_ltL (by omega) (by decide)]; exact hv), lt_e, h.2.2.1, e, nI_mulL, nI_add, nI_subL (show OfNat.ofNat 1 ≤ nc * OfNat.ofNat 4 + (n + 1) by show 1 ≤ nc * 4 + (n + 1); omega), nI_mulL, nI_add]
  rw [show (nc * OfNat.ofNat 4 + (n + 1) - OfNat.ofNat 1) * OfNat.ofNat 6 + v = (nc * 4 + n) * 6 + v from by show (nc * 4 + (n + 1) - 1) * 6 + v = _; omega]
end MB
