/-! The meaning pass: what a program holds so far, on both sides. -/
def iI : Nat → Prop := fun q => q = 26 ∨ (29 ≤ q ∧ q ≤ 33 ∧ q ≠ 30)
/-- tokens are taken, expressions are written -/
def Ki (τ τ' : Sta) : Prop := Kp iI n0 fA fJ τ τ'
theorem Kf_i {τ τ' : Sta} (h : Kf τ τ') : Ki τ τ' := h.mono (fun k e => by unfold fI at e; unfold iI; omega) (fun _ e => e) (fun _ e => e) (fun _ e => e)
theorem Ki_m {τ τ' : Sta} (h : Ki τ τ') : Km τ τ' := h.mono (fun k e => by unfold iI at e; unfold mqI; omega) (fun _ e => e) (fun k e => by unfold fA at e; unfold mqA; omega) (fun k e => by unfold fJ at e; unfold mqJ; omega)
theorem BX_cm {K : Nat → Nat} {m c t d L : Nat} {σ τ σ' τ' : Sta} (h : BX K m c L t d σ τ) (hc : Kq σ σ') (hm : Km τ τ') (a9 : gI σ' 259 = gI σ 259) (a0 : gI σ' 260 = gI σ 260) (a1 : gI σ' 261 = gI σ 261) (a2 : gI σ' 262 = gI σ 262) (a3 : gI σ' 263 = gI σ 263) (b9 : gI τ' 29 = gI τ 29) (b1 : gI τ' 31 = gI τ 31) (b2 : gI τ' 32 = gI τ 32) : BX K m c L t d σ' τ' := by
  obtain ⟨h1, h2, h3, h4, h5, h6, h7, h8, h9, h10, h11, h12⟩ := h
  have e : tk τ' = tk τ := funext fun j => by unfold tk; rw [hm.2.2.1 3 (by unfold mqA; omega)]
  have b0 : gI τ' 30 = gI τ 30 := hm.1 30 (by unfold mqI; omega)
  refine ⟨⟨h1.1, h1.2.1, h1.2.2.1, by rw [hc.1 67 (by unfold qI; omega)]; exact h1.2.2.2.1, by rw [hm.1 4 (by unfold mqI; omega)]; exact h1.2.2.2.2.1, fun j hj => ?_, fun j hj => by rw [e]; exact h1.2.2.2.2.2.2.1 j hj, by rw [e]; exact h1.2.2.2.2.2.2.2⟩, fun j => by rw [e]; exact h2 j, h3, h4, h5, by rw [a2]; exact h6, by rw [a0]; exact h7, by rw [b9]; exact h8, by rw [a1]; exact h9, by rw [b2]; exact h10, by rw [b1]; exact h11, by rw [a9, b0, a3]; exact h12⟩
  rw [e, hm.2.2.1 3 (by unfold mqA; omega), hm.2.2.1 4 (by unfold mqA; omega), hm.2.2.2.1 5 (by unfold mqJ; omega), hc.2.2.1 11 (by unfold qA; omega), hc.2.2.1 12 (by unfold qA; omega), hc.2.2.2.1 13 (by unfold qJ; omega)]
  exact h1.2.2.2.2.2.1 j hj
theorem LX_rfl {len x sz : Nat} {σ τ σ' τ' : Sta} (a : gA σ' 14 = gA σ 14) (b : gJ σ' 15 = gJ σ 15) (d : gA σ' 16 = gA σ 16) (e : gA σ' 17 = gA σ 17) (f : gA τ' 19 = gA τ 19) (g : gJ τ' 20 = gJ τ 20) : LX len x sz σ τ σ' τ' :=
  ⟨fun j _ => by rw [a, b]; exact ⟨rfl, rfl⟩, fun j _ => by rw [f, g]; exact ⟨rfl, rfl⟩, fun j _ => by rw [d, e]; exact ⟨rfl, rfl⟩⟩
def SE (nv len x sz : Nat) (σ τ : Sta) (a b : Int32) : Prop := (a = -1 ∧ b = -1) ∨ ERb nv len x sz σ τ a b
theorem SE_low {nv nv' len len' x x' sz sz' : Nat} {σ τ σ' τ' : Sta} {e s : Int32} (h : SE nv len x sz σ τ e s) (hL : LX len x sz σ τ σ' τ') (h0 : nv ≤ nv') (h1 : len ≤ len') (h2 : x ≤ x') (h3 : sz ≤ sz') : SE nv' len' x' sz' σ' τ' e s := by
  rcases h with h | h
  · exact Or.inl h
  · exact Or.inr (ERb_low h hL h0 h1 h2 h3)
def CV (nv : Nat) (σ τ : Sta) : Prop := gI σ 192 = nI nv ∧ gI τ 10 = nI nv ∧ ∀ v, v < nv → gA σ 20 v = gA τ 8 v ∧ gA σ 21 v = gA τ 9 v ∧ gA σ 22 v = gA τ 10 v ∧ gJ σ 19 v = gJ τ 7 v
def CG (K : Nat → Nat) (W : Nat → Int64) (m nv ng len x sz : Nat) (σ τ : Sta) : Prop := gI σ 197 = nI ng ∧ gI τ 15 = nI ng ∧ ∀ g, g < ng → ERb nv len x sz σ τ (gA σ 25 g) (gA τ 11 g) ∧ ((gA σ 24 g = -1 ∧ gJ τ 12 g = 0) ∨ ∃ p, p < m ∧ K p = 6 ∧ gA σ 24 g = nI (dc K p) ∧ gJ τ 12 g = W (p + 1))
def CO (nv len x sz : Nat) (σ τ : Sta) : Prop := SE nv len x sz σ τ (gI σ 201) (gI τ 18)
/-- the branches of the command k -/
def CB (nv len x sz k n : Nat) (pc : Nat → Nat) (σ τ : Sta) : Prop := gA σ 29 k = nI n ∧ ∀ b, b < n → gA σ 30 (k * 4 + b) = nI (pc b) ∧ gA τ 17 (k * 4 + b) = nI (pc b) ∧ pc b ≤ 100 ∧ ∀ v, v < 6 → SE nv len x sz σ τ (gA σ 31 ((k * 4 + b) * 6 + v)) (gA τ 18 ((k * 4 + b) * 6 + v))
def CC (K : Nat → Nat) (W : Nat → Int64) (m nv nc len x sz : Nat) (σ τ : Sta) : Prop := (∀ k, k < nc → gA σ 27 k = gA τ 14 k ∧ ERb nv len x sz σ τ (gA σ 28 k) (gA τ 15 k) ∧ gJ σ 26 k = gJ τ 13 k ∧ (∃ n pc, n ≤ 4 ∧ CB nv len x sz k n pc σ τ ∧ gA τ 16 k = nI n ∧ aAccN pc n 0 0 = 100) ∧ ∃ p, p < m ∧ K p = 6 ∧ dc K p = k ∧ gJ τ 13 k = W (p + 1)) ∧ ∀ k k', k < nc → k' < nc → gJ τ 13 k = gJ τ 13 k' → k = k'
def PC (K : Nat → Nat) (W : Nat → Int64) (m nv ng nc len x sz : Nat) (σ τ : Sta) : Prop := (nv ≤ 6 ∧ ng ≤ 3 ∧ nc ≤ 16) ∧ (gI σ 130 = nI len ∧ gI σ 133 = nI x ∧ gI τ 26 = nI sz) ∧ CV nv σ τ ∧ CG K W m nv ng len x sz σ τ ∧ CO nv len x sz σ τ ∧ CC K W m nv nc len x sz σ τ ∧ ∀ j, gJ τ 5 j = W j
section PD
variable {K : Nat → Nat} {W : Nat → Int64} {m c t u nv nv' ng nc len len' x x' sz sz' : Nat} {σ0 τ0 σ τ σ' τ' : Sta}
theorem CV_low (h : CV nv σ τ) (a : gI σ' 192 = gI σ 192) (b : gI τ' 10 = gI τ 10) (d : gA σ' 20 = gA σ 20) (e : gA σ' 21 = gA σ 21) (f : gA σ' 22 = gA σ 22) (g : gJ σ' 19 = gJ σ 19) (d' : gA τ' 8 = gA τ 8) (e' : gA τ' 9 = gA τ 9) (f' : gA τ' 10 = gA τ 10) (g' : gJ τ' 7 = gJ τ 7) : CV nv σ' τ' := by
  unfold CV
  rw [a, b, d, e, f, g, d', e', f', g']
  exact h
theorem CG_low (h : CG K W m nv ng len x sz σ τ) (hL : LX len x sz σ τ σ' τ') (h0 : nv ≤ nv') (h1 : len ≤ len') (h2 : x ≤ x') (h3 : sz ≤ sz') (a : gI σ' 197 = gI σ 197) (b : gI τ' 15 = gI τ 15) (d : gA σ' 24 = gA σ 24) (e : gA σ' 25 = gA σ 25) (f : gA τ' 11 = gA τ 11) (g : gJ τ' 12 = gJ τ 12) : CG K W m nv' ng len' x' sz' σ' τ' := by
  refine ⟨by rw [a]; exact h.1, by rw [b]; exact h.2.1, fun i hi => ?_⟩
  obtain ⟨h4, h5⟩ := h.2.2 i hi
  rw [d, e, f, g]
  exact ⟨ERb_low h4 hL h0 h1 h2 h3, h5⟩
theorem CO_low (h : CO nv len x sz σ τ) (hL : LX len x sz σ τ σ' τ') (h0 : nv ≤ nv') (h1 : len ≤ len') (h2 : x ≤ x') (h3 : sz ≤ sz') (a : gI σ' 201 = gI σ 201) (b : gI τ' 18 = gI τ 18) : CO nv' len' x' sz' σ' τ' := by
  unfold CO
  rw [a, b]
  exact SE_low h hL h0 h1 h2 h3
theorem CB_low {k n : Nat} {pc : Nat → Nat} (h : CB nv len x sz k n pc σ τ) (hL : LX len x sz σ τ σ' τ') (h0 : nv ≤ nv') (h1 : len ≤ len') (h2 : x ≤ x') (h3 : sz ≤ sz') (a : gA σ' 29 k = gA σ 29 k) (b : ∀ b, b < n → gA σ' 30 (k * 4 + b) = gA σ 30 (k * 4 + b) ∧ gA τ' 17 (k * 4 + b) = gA τ 17 (k * 4 + b) ∧ ∀ v, v < 6 → gA σ' 31 ((k * 4 + b) * 6 + v) = gA σ 31 ((k * 4 + b) * 6 + v) ∧ gA τ' 18 ((k * 4 + b) * 6 + v) = gA τ 18 ((k * 4 + b) * 6 + v)) : CB nv' len' x' sz' k n pc σ' τ' := by
  refine ⟨by rw [a]; exact h.1, fun i hi => ?_⟩
  obtain ⟨h4, h5, h6, h7⟩ := h.2 i hi
  obtain ⟨b1, b2, b3⟩ := b i hi
  refine ⟨by rw [b1]; exact h4, by rw [b2]; exact h5, h6, fun v hv => ?_⟩
  rw [(b3 v hv).1, (b3 v hv).2]
  exact SE_low (h7 v hv) hL h0 h1 h2 h3
theorem CC_low (h : CC K W m nv nc len x sz σ τ) (hL : LX len x sz σ τ σ' τ') (h0 : nv ≤ nv') (h1 : len ≤ len') (h2 : x ≤ x') (h3 : sz ≤ sz')
    (a : ∀ k, k < nc → gA σ' 27 k = gA σ 27 k ∧ gA τ' 14 k = gA τ 14 k ∧ gA σ' 28 k = gA σ 28 k ∧ gA τ' 15 k = gA τ 15 k ∧ gJ σ' 26 k = gJ σ 26 k ∧ gJ τ' 13 k = gJ τ 13 k ∧ gA σ' 29 k = gA σ 29 k ∧ gA τ' 16 k = gA τ 16 k)
    (b : ∀ j, j < nc * 4 → gA σ' 30 j = gA σ 30 j ∧ gA τ' 17 j = gA τ 17 j ∧ ∀ v, v < 6 → gA σ' 31 (j * 6 + v) = gA σ 31 (j * 6 + v) ∧ gA τ' 18 (j * 6 + v) = gA τ 18 (j * 6 + v)) : CC K W m nv' nc len' x' sz' σ' τ' := by
  refine ⟨fun k hk => ?_, fun k k' hk hk' => ?_⟩
  · obtain ⟨g1, g2, g3, ⟨n, pc, g4, g5, g6, g7⟩, p, p1, p2, p3, p4⟩ := h.1 k hk
    obtain ⟨a1, a2, a3, a4, a5, a6, a7, a8⟩ := a k hk
    rw [a1, a2, a3, a4, a5, a6, a8]
    exact ⟨g1, ERb_low g2 hL h0 h1 h2 h3, g3, ⟨n, pc, g4, CB_low g5 hL h0 h1 h2 h3 a7 (fun i hi => b (k * 4 + i) (by omega)), g6, g7⟩, p, p1, p2, p3, p4⟩
  · rw [(a k hk).2.2.2.2.2.1, (a k' hk').2.2.2.2.2.1]
    exact h.2 k k' hk hk'
theorem NM_low (h : NM nv ng nc σ τ) (a : gI τ' 8 = gI τ 8) (b : gJ τ' 6 = gJ τ 6) (d : gJ σ' 19 = gJ σ 19) (e : gJ σ' 23 = gJ σ 23) (f : gJ σ' 26 = gJ σ 26) : NM nv ng nc σ' τ' := by
  unfold NM
  rw [a, b, d, e, f]
  exact h
/-- tokens are taken, an expression is written: the rest stays -/
theorem PC_fr (h : PC K W m nv ng nc len x sz σ τ) (hc : Kxe σ σ') (hm : Ki τ τ') (hL : LX len x sz σ τ σ' τ') (h1 : len ≤ len') (h2 : x ≤ x') (h3 : sz ≤ sz') (a : gI σ' 130 = nI len') (b : gI σ' 133 = nI x') (d : gI τ' 26 = nI sz') : PC K W m nv ng nc len' x' sz' σ' τ' := by
  obtain ⟨p1, p2, p3, p4, p5, p6, p7⟩ := h
  have cI : ∀ q, ¬ xeI q → gI σ' q = gI σ q := hc.1
  have cA : ∀ q, ¬ xeA q → gA σ' q = gA σ q := hc.2.2.1
  have cJ : ∀ q, ¬ eJ q → gJ σ' q = gJ σ q := hc.2.2.2.1
  have mI : ∀ q, ¬ iI q → gI τ' q = gI τ q := hm.1
  have mA : ∀ q, ¬ fA q → gA τ' q = gA τ q := hm.2.2.1
  have mJ : ∀ q, ¬ fJ q → gJ τ' q = gJ τ q := hm.2.2.2.1
  refine ⟨p1, ⟨a, b, d⟩, CV_low p3 (cI _ (by unfold xeI; omega)) (mI _ (by unfold iI; omega)) (cA _ (by unfold xeA; omega)) (cA _ (by unfold xeA; omega)) (cA _ (by unfold xeA; omega)) (cJ _ (by unfold eJ; omega)) (mA _ (by unfold fA; omega)) (mA _ (by unfold fA; omega)) (mA _ (by unfold fA; omega)) (mJ _ (by unfold fJ; omega)),
    CG_low p4 hL (Nat.le_refl _) h1 h2 h3 (cI _ (by unfold xeI; omega)) (mI _ (by unfold iI; omega)) (cA _ (by unfold xeA; omega)) (cA _ (by unfold xeA; omega)) (mA _ (by unfold fA; omega)) (mJ _ (by unfold fJ; omega)),
    CO_low p5 hL (Nat.le_refl _) h1 h2 h3 (cI _ (by unfold xeI; omega)) (mI _ (by unfold iI; omega)), CC_low p6 hL (Nat.le_refl _) h1 h2 h3 (fun k _ => ?_) (fun j _ => ?_), fun j => by rw [mJ 5 (by unfold fJ; omega)]; exact p7 j⟩
  · rw [cA 27 (by unfold xeA; omega), cA 28 (by unfold xeA; omega), cA 29 (by unfold xeA; omega), cJ 26 (by unfold eJ; omega), mA 14 (by unfold fA; omega), mA 15 (by unfold fA; omega), mA 16 (by unfold fA; omega), mJ 13 (by unfold fJ; omega)]
    exact ⟨rfl, rfl, rfl, rfl, rfl, rfl, rfl, rfl⟩
  · rw [cA 30 (by unfold xeA; omega), cA 31 (by unfold xeA; omega), mA 17 (by unfold fA; omega), mA 18 (by unfold fA; omega)]
    exact ⟨rfl, rfl, fun _ _ => ⟨rfl, rfl⟩⟩
/-- in the middle of a statement; u bounds what has been written -/
def PT (K : Nat → Nat) (W : Nat → Int64) (m c : Nat) (σ0 τ0 : Sta) (u t nv ng nc len x sz : Nat) (σ τ : Sta) : Prop := BX K m c 5000 t 0 σ τ ∧ gI τ 30 = 1 ∧ (len ≤ u ∧ x ≤ u ∧ sz ≤ u) ∧ PC K W m nv ng nc len x sz σ τ ∧ SFM σ ∧ Kq σ0 σ ∧ Km τ0 τ
theorem PT.up {u' : Nat} (h : PT K W m c σ0 τ0 u t nv ng nc len x sz σ τ) (hu : u ≤ u') : PT K W m c σ0 τ0 u' t nv ng nc len x sz σ τ := ⟨h.1, h.2.1, ⟨by have := h.2.2.1; omega, by have := h.2.2.1; omega, by have := h.2.2.1; omega⟩, h.2.2.2⟩
theorem PT.go {u' t' : Nat} (h : PT K W m c σ0 τ0 u t nv ng nc len x sz σ τ) (hB : BX K m c 5000 t' 0 σ' τ') (hS : SF σ') (hc : Kxe σ σ') (hm : Ki τ τ') (hL : LX len x sz σ τ σ' τ') (h1 : len ≤ len') (h2 : x ≤ x') (h3 : sz ≤ sz') (a : gI σ' 130 = nI len') (b : gI σ' 133 = nI x') (d : gI τ' 26 = nI sz') (hu : len' ≤ u' ∧ x' ≤ u' ∧ sz' ≤ u') : PT K W m c σ0 τ0 u' t' nv ng nc len' x' sz' σ' τ' :=
  ⟨hB, (hm.1 30 (by unfold iI; omega)).trans h.2.1, hu, PC_fr h.2.2.2.1 hc hm hL h1 h2 h3 a b d, SFM_x h.2.2.2.2.1 hc hS, Kp.trans h.2.2.2.2.2.1 (Kxe_q hc), Kp.trans h.2.2.2.2.2.2 (Ki_m hm)⟩
theorem Ki_29 (τ : Sta) (v : Int32) : Ki τ (sI τ 29 v) := Kp.sI (by unfold iI; omega) Kp.rfl'
theorem PT.mv (h : PT K W m c σ0 τ0 u t nv ng nc len x sz σ τ) {j : Nat} (hj : j ≤ m) : PT K W m c σ0 τ0 u j nv ng nc len x sz (sI σ 260 (nI j)) (sI τ 29 (nI j)) :=
  h.go (BX_mv h.1 hj) h.2.2.2.2.1.1 (Ke_x (Ke_at _ _)) (Ki_29 _ _) (LX_rfl rfl rfl rfl rfl rfl rfl) (Nat.le_refl _) (Nat.le_refl _) (Nat.le_refl _) h.2.2.2.1.2.1.1 h.2.2.2.1.2.1.2.1 h.2.2.2.1.2.1.2.2 h.2.2.1
theorem PT.mv33 (h : PT K W m c σ0 τ0 u t nv ng nc len x sz σ τ) {j : Nat} (hj : j ≤ m) (p : Int32) : PT K W m c σ0 τ0 u j nv ng nc len x sz (sI σ 260 (nI j)) (sI (sI τ 33 p) 29 (nI j)) := by
  have k33 : Ki τ (sI τ 33 p) := Kp.sI (by unfold iI; omega) Kp.rfl'
  have hB := BX_cm h.1 Kp.rfl' (Ki_m k33) rfl rfl rfl rfl rfl rfl rfl rfl
  exact h.go (BX_mv hB hj) h.2.2.2.2.1.1 (Ke_x (Ke_at _ _)) (Kp.trans k33 (Ki_29 _ _)) (LX_rfl rfl rfl rfl rfl rfl rfl) (Nat.le_refl _) (Nat.le_refl _) (Nat.le_refl _) h.2.2.2.1.2.1.1 h.2.2.2.1.2.1.2.1 h.2.2.2.1.2.1.2.2 h.2.2.1
theorem PT.er (h : PT K W m c σ0 τ0 u t nv ng nc len x sz σ τ) {e : Int32} (he : e ≠ 0) (j : Nat) : SK σ0 e (gA σ 12 j) (erC σ e j) := SK_er h.2.2.2.2.1 h.2.2.2.2.2.1 he rfl
theorem PT.hm (h : PT K W m c σ0 τ0 u t nv ng nc len x sz σ τ) : m ≤ 1500 ∧ m < c ∧ c ≤ 1501 := ⟨h.1.1.1, h.1.1.2.1, h.1.1.2.2.1⟩
/-- an expression -/
theorem pt_expr (h : PT K W m c σ0 τ0 t t nv ng nc len x sz σ τ) {t' : Nat} (ht : t < m) (hG : GX K (t + 60) 100 0 0 t t') :
    SIM (SK σ0) τ0 (f_X1_readExpression σ) (f_X10_whole τ) (fun r σ' b τ' => ∃ len' x' sz', r = nI x ∧ PT K W m c σ0 τ0 (t' + 1) t' nv ng nc len' x' sz' σ' τ' ∧ ERb nv len' x' sz' σ' τ' r b ∧ Kxe σ σ' ∧ Ki τ τ' ∧ LX len x sz σ τ σ' τ' ∧ len ≤ len' ∧ x ≤ x' ∧ sz ≤ sz') := by
  obtain ⟨hB, h30, ⟨u1, u2, u3⟩, hP, hS, hq, hk⟩ := id h
  obtain ⟨p1, ⟨p2, p3, p4⟩, p5, p6, p7, p8, p9⟩ := id hP
  have hm := hB.1.1
  have htt := (NS_GX _ _ _ _ _ hG).1
  rcases b_expr hB (⟨p2, u1, p3, by omega, p4, by omega, h30, p1.1, p5.1, p5.2.1, fun v hv => (p5.2.2 v hv).2.2.2⟩ : MO nv x len sz t σ τ) hG with ⟨σ1, τ1, k, a1, a2, a3, a4, a5, a6, a7, a8, a9, a10, a11, a12⟩ | ⟨r, σ1, τ1, p, a1, a2, a3, a4, a5, a6, a7⟩
  · have hS1 : SF σ1 := ⟨⟨len + k, by have := a6.2.2.1; omega, a8⟩, ⟨x + 1, by omega, a9⟩, by
      obtain ⟨n, n1, n2⟩ := hS.1.2.2
      exact ⟨n, n1, by rw [a3.1 192 (by unfold xeI; omega)]; exact n2⟩⟩
    rw [a1, a2]
    exact SIM.ok ⟨len + k, x + 1, sz + k + 1, rfl, h.go a6 hS1 a3 (Kf_i a4) a11 (by omega) (by omega) (by omega) a8 a9 a10 (by omega), a12, a3, Kf_i a4, a11, by omega, by omega, by omega⟩
  · rw [a1, a2]
    exact Or.inr ⟨_, _, _, _, _, rfl, rfl, ⟨SFM_x hS a4 a3, Kp.trans hq (Kxe_q a4), a6, by decide, a7⟩, Kp.trans hk (Ki_m (Kf_i a5))⟩
/-- between statements -/
def PS (K : Nat → Nat) (W : Nat → Int64) (m c : Nat) (σ0 τ0 : Sta) (t nv ng nc len x sz : Nat) (σ τ : Sta) : Prop := PT K W m c σ0 τ0 t t nv ng nc len x sz σ τ ∧ gI σ 202 = nI nc ∧ gI τ 19 = nI nc ∧ NM nv ng nc σ τ ∧ nc = dc K t
def PSE (K : Nat → Nat) (W : Nat → Int64) (m c : Nat) (σ0 τ0 : Sta) (t : Nat) (σ τ : Sta) : Prop := ∃ nv ng nc len x sz, PS K W m c σ0 τ0 t nv ng nc len x sz σ τ
/-- the reference notes a name -/
def nmM (τ : Sta) (n : Nat) (w : Int64) (j : Nat) : Sta := sI (sI (sJ τ 6 (vp_updL (gJ τ 6) n w)) 8 (nI (n + 1))) 29 (nI j)
theorem b_newName {σc : Sta} (hB : BX K m c 5000 t 0 σ τ) (h30 : gI τ 30 = 1) (hN : NM nv ng nc σc τ) (hk : K t = 200) (h1 : nv ≤ 6) (h2 : ng ≤ 3) (h3 : nc ≤ 16) (hr : nv + ng + nc < 25) (e1 : gI σc 192 = nI nv) (e2 : gI σc 197 = nI ng) (e3 : gI σc 202 = nI nc) :
    (f_X4_isNameTaken (gJ τ 5 t) σc = some (1, σc) ∧ f_X10_newName τ = some (.inr (3, gA σ 12 t), τ)) ∨
    (f_X4_isNameTaken (gJ τ 5 t) σc = some (0, σc) ∧ (∀ i, i < nv + ng + nc → gJ τ 6 i ≠ gJ τ 5 t) ∧ f_X10_newName τ = some (.inl (gJ τ 5 t), nmM τ (nv + ng + nc) (gJ τ 5 t) (t + 1))) := by
  have hm := hB.1.1
  have ht := hB.2.2.1
  have e29 : gI τ 29 = nI t := hB.2.2.2.2.2.2.2.1
  have htm := BX_m hB (by omega)
  unfold f_X10_newName
  rw [m_isL hB 200 200 rfl (by decide), bnd_s, if_pos hk, ite10, e29, if_neg (nI_in (by omega) (by omega)), lt_e, nI_clamp (by omega)]
  rcases nm_taken hN h1 h2 h3 e1 e2 e3 (gJ τ 5 t) with ⟨a1, r, a2, a3⟩ | ⟨a1, a2, a3⟩
  · refine Or.inl ⟨a1, ?_⟩
    unfold f_X10_newName_47
    rw [a3, bnd_s, if_neg a2, e29, if_neg (nI_in (by omega) (by omega)), must1 h30, if_pos rfl, bnw_r, nI_clamp (by omega), (BX_K hB ht).2.2.2.1]
  · refine Or.inr ⟨a1, a3, ?_⟩
    have k6 : Km τ (sI (sJ τ 6 (vp_updL (gJ τ 6) (nv + ng + nc) (gJ τ 5 t))) 8 (nI (nv + ng + nc + 1))) := Kp.sI (by unfold mqI; omega) (Kp.sJ (by unfold mqJ; omega) Kp.rfl')
    have hB6 := BX_cm hB Kp.rfl' k6 rfl rfl rfl rfl rfl rfl rfl rfl
    unfold f_X10_newName_47 f_X10_newName_87
    rw [a2, bnd_s, if_pos rfl, e29, if_neg (nI_in (by omega) (by omega)), must1 h30, if_neg (by decide), bnw_l, if_neg (by rw [h30]; decide), hN.1, if_neg (nI_in (by omega) (by omega)), lt_e, nI_clamp (n := nv + ng + nc) (by omega), show gI (sJ τ 6 (vp_updL (gJ τ 6) (nv + ng + nc) (gJ τ 5 t))) 8 = gI τ 8 from rfl, hN.1, nI_1, lt_e, m_at hB6 (by omega), bnw_l]
    rfl
theorem c_newName (hB : BX K m c 5000 t 0 σ τ) (h30 : gI τ 30 = 1) {j : Nat} (hj : j < m) (a : Int32) (ha : a = 0 ∨ a = 1) (h : f_X4_isNameTaken (gJ τ 5 j) σ = some (a, σ)) : f_X1_demandNewName (nI j) σ = some ((), if a = 1 then erC σ 3 j else σ) := by
  unfold f_X1_demandNewName f_X1_demandNewName_24
  rw [c_contOf hB hj, bnd_s, h, bnd_s, d_demand hB h30 _ _ (by omega), d_demand hB h30 _ _ (by omega), bnd_s]
  rcases ha with rfl | rfl
  · rw [if_pos rfl, if_neg (by decide), if_neg (by decide)]
  · rw [if_neg (by decide), if_pos rfl, if_pos rfl, bnd_s]
end PD
