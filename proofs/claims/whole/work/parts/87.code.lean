/-! Codes that both sides have written. -/
def XN (τ : Sta) : Nat → XL → Prop
  | _, [] => True
  | s, p :: l => gA τ 19 s = mOp p.1 ∧ (p.1 < 2 → gJ τ 20 s = p.2) ∧ XN τ (s + 1) l
theorem hOk_app {nv : Nat} : ∀ (a b : XL) (h h1 h2 : Nat), hOk nv a h h1 → hOk nv b h1 h2 → hOk nv (a ++ b) h h2
  | [], b, h, h1, h2, ha, hb => by
    have e : h = h1 := ha
    rw [e]; exact hb
  | p :: l, b, h, h1, h2, ha, hb => by
    rcases ha with ⟨a1, a2, a3, a4⟩ | ⟨a1, a2, a3, a4⟩ | ⟨a1, a2, a3, a4⟩
    · exact Or.inl ⟨a1, a2, a3, hOk_app l b _ h1 h2 a4 hb⟩
    · exact Or.inr (Or.inl ⟨a1, a2, a3, hOk_app l b _ h1 h2 a4 hb⟩)
    · exact Or.inr (Or.inr ⟨a1, a2, a3, hOk_app l b _ h1 h2 a4 hb⟩)
theorem XC_app {σ : Sta} : ∀ (a b : XL) (s : Nat), XC σ s a → XC σ (s + a.length) b → XC σ s (a ++ b)
  | [], _, _, _, hb => hb
  | p :: l, b, s, ha, hb => ⟨ha.1, ha.2.1, XC_app l b (s + 1) ha.2.2 (by rw [show s + 1 + l.length = s + (l.length + 1) by omega]; exact hb)⟩
theorem XN_app {τ : Sta} : ∀ (a b : XL) (s : Nat), XN τ s a → XN τ (s + a.length) b → XN τ s (a ++ b)
  | [], _, _, _, hb => hb
  | p :: l, b, s, ha, hb => ⟨ha.1, ha.2.1, XN_app l b (s + 1) ha.2.2 (by rw [show s + 1 + l.length = s + (l.length + 1) by omega]; exact hb)⟩
theorem XC_low {σ σ' : Sta} : ∀ (a : XL) (s e : Nat), s + a.length ≤ e → (∀ j, j < e → gA σ' 14 j = gA σ 14 j ∧ gJ σ' 15 j = gJ σ 15 j) → XC σ s a → XC σ' s a
  | [], _, _, _, _, _ => True.intro
  | p :: l, s, e, he, hl, ha => by
    have he' : s + (l.length + 1) ≤ e := he
    exact ⟨by rw [(hl s (by omega)).1]; exact ha.1, fun q => by rw [(hl s (by omega)).2]; exact ha.2.1 q, XC_low l (s + 1) e (by omega) hl ha.2.2⟩
theorem XN_low {τ τ' : Sta} : ∀ (a : XL) (s e : Nat), s + a.length ≤ e → (∀ j, j < e → gA τ' 19 j = gA τ 19 j ∧ gJ τ' 20 j = gJ τ 20 j) → XN τ s a → XN τ' s a
  | [], _, _, _, _, _ => True.intro
  | p :: l, s, e, he, hl, ha => by
    have he' : s + (l.length + 1) ≤ e := he
    exact ⟨by rw [(hl s (by omega)).1]; exact ha.1, fun q => by rw [(hl s (by omega)).2]; exact ha.2.1 q, XN_low l (s + 1) e (by omega) hl ha.2.2⟩
theorem XM_of {τ : Sta} : ∀ (a : XL) (s : Nat), XN τ s a → gA τ 19 (s + a.length) = 50 → XM τ s a
  | [], _, _, h => h
  | p :: l, s, ha, h => ⟨ha.1, ha.2.1, XM_of l (s + 1) ha.2.2 (by rw [show s + 1 + l.length = s + (l.length + 1) by omega]; exact h)⟩
/-- from σ, τ to σ', τ' the codes xs have been written, on both sides, behind len and sz -/
def CD (nv x len sz : Nat) (xs : XL) (σ τ σ' τ' : Sta) : Prop := 1 ≤ xs.length ∧ gI σ' 130 = nI (len + xs.length) ∧ gI τ' 26 = nI (sz + xs.length) ∧ XC σ' len xs ∧ XN τ' sz xs ∧
  (∀ j, j < len → gA σ' 14 j = gA σ 14 j ∧ gJ σ' 15 j = gJ σ 15 j) ∧ (∀ j, j < sz → gA τ' 19 j = gA τ 19 j ∧ gJ τ' 20 j = gJ τ 20 j) ∧ (∀ j, j ≠ x - 1 → gA σ' 17 j = gA σ 17 j) ∧ gA σ' 17 (x - 1) = nI (len + xs.length) ∧ (∀ h, h + xs.length ≤ 60 → hOk nv xs h (h + 1))
/-- what is known of the codes and the variables before an expression's part -/
def MH (nv x len sz t : Nat) (σ τ : Sta) : Prop := gI σ 130 = nI len ∧ len ≤ t ∧ gI σ 133 = nI x ∧ 0 < x ∧ x ≤ 1500 ∧ gI τ 26 = nI sz ∧ sz ≤ 1500 + t ∧ gI τ 30 = 1 ∧ nv ≤ 6 ∧ gI σ 192 = nI nv ∧ gI τ 10 = nI nv ∧ ∀ v, v < nv → gJ σ 19 v = gJ τ 7 v
def emM (τ : Sta) (n : Nat) (a : Int32) (v : Int64) : Sta := sI (sJ (sA τ 19 (upd (gA τ 19) n a)) 20 (vp_updL (gJ τ 20) n v)) 26 (nI (n + 1))
theorem m_emit {τ : Sta} {n : Nat} (h30 : gI τ 30 = 1) (h : gI τ 26 = nI n) (hn : n < 3004) (a : Int32) (v : Int64) : f_X10_emit a v τ = some ((), emM τ n a v) := by
  unfold f_X10_emit emM
  rw [if_neg (by rw [h30]; decide), h, if_neg (nI_in hn (by decide)), lt_e, gI_sA, h, if_neg (nI_in hn (by decide)), lt_e, lt_e, gI_sJ, gI_sA, h, nI_1, nI_clamp (by omega)]
  rfl
theorem Kf_em (τ : Sta) (n : Nat) (a : Int32) (v : Int64) : Kf τ (emM τ n a v) := Kp.sI (by unfold fI; omega) (Kp.sJ rfl (Kp.sA rfl Kp.rfl'))
theorem Ke_ad (σ : Sta) (n x : Nat) (a : Int32) (v : Int64) : Ke σ (addC σ n x a v) := Kp.sA (Or.inr rfl) (Kp.sI (Or.inl rfl) (Kp.sJ rfl (Kp.sA (Or.inl rfl) Kp.rfl')))
theorem ad_at (σ : Sta) (n x : Nat) (a : Int32) (v : Int64) (j : Nat) : gA (addC σ n x a v) 14 j = (if j = n then a else gA σ 14 j) ∧ gJ (addC σ n x a v) 15 j = (if j = n then v else gJ σ 15 j) ∧ gA (addC σ n x a v) 17 j = (if j = x - 1 then nI (n + 1) else gA σ 17 j) := ⟨rfl, rfl, rfl⟩
theorem em_at (τ : Sta) (n : Nat) (a : Int32) (v : Int64) (j : Nat) : gA (emM τ n a v) 19 j = (if j = n then a else gA τ 19 j) ∧ gJ (emM τ n a v) 20 j = (if j = n then v else gJ τ 20 j) := ⟨rfl, rfl⟩
/-- one code alone -/
theorem CD_one {nv x len sz o : Nat} {σ τ : Sta} {y : Int64} (ho : o < 2) (hv : o = 1 → ∃ v : Nat, v < nv ∧ y = lN v) : CD nv x len sz [(o, y)] σ τ (addC σ len x (cOp o) y) (emM τ sz (mOp o) y) := by
  refine ⟨Nat.le_refl _, rfl, rfl, ⟨?_, fun _ => ?_, True.intro⟩, ⟨?_, fun _ => ?_, True.intro⟩, fun j hj => ?_, fun j hj => ?_, fun j hj => ?_, ?_, fun h hh => ?_⟩
  · rw [(ad_at _ _ _ _ _ _).1, if_pos rfl]
  · rw [(ad_at _ _ _ _ _ _).2.1, if_pos rfl]
  · rw [(em_at _ _ _ _ _).1, if_pos rfl]
  · rw [(em_at _ _ _ _ _).2, if_pos rfl]
  · rw [(ad_at _ _ _ _ _ _).1, (ad_at _ _ _ _ _ _).2.1, if_neg (by omega), if_neg (by omega)]
    exact ⟨rfl, rfl⟩
  · rw [(em_at _ _ _ _ _).1, (em_at _ _ _ _ _).2, if_neg (by omega), if_neg (by omega)]
    exact ⟨rfl, rfl⟩
  · rw [(ad_at _ _ _ _ _ _).2.2, if_neg hj]
  · rw [(ad_at _ _ _ _ _ _).2.2, if_pos rfl]
    rfl
  · have hh' : h + 1 ≤ 60 := hh
    exact Or.inl ⟨ho, by omega, hv, rfl⟩
/-- one code more, on one number or on two -/
theorem CD_un {nv x len sz o : Nat} {xs : XL} {σ τ σ' τ' : Sta} (h : CD nv x len sz xs σ τ σ' τ') (ho : 17 ≤ o) (ho2 : o < 20) : CD nv x len sz (xs ++ [(o, 0)]) σ τ (addC σ' (len + xs.length) x (cOp o) 0) (emM τ' (sz + xs.length) (mOp o) 0) := by
  obtain ⟨h1, h2, h3, h4, h5, h6, h7, h8, h9, h10⟩ := h
  have hl : (xs ++ [(o, (0 : Int64))]).length = xs.length + 1 := by rw [List.length_append]; rfl
  have lowC : ∀ j, j < len + xs.length → gA (addC σ' (len + xs.length) x (cOp o) 0) 14 j = gA σ' 14 j ∧ gJ (addC σ' (len + xs.length) x (cOp o) 0) 15 j = gJ σ' 15 j := fun j hj => by
    rw [(ad_at _ _ _ _ _ _).1, (ad_at _ _ _ _ _ _).2.1, if_neg (by omega), if_neg (by omega)]
    exact ⟨rfl, rfl⟩
  have lowM : ∀ j, j < sz + xs.length → gA (emM τ' (sz + xs.length) (mOp o) 0) 19 j = gA τ' 19 j ∧ gJ (emM τ' (sz + xs.length) (mOp o) 0) 20 j = gJ τ' 20 j := fun j hj => by
    rw [(em_at _ _ _ _ _).1, (em_at _ _ _ _ _).2, if_neg (by omega), if_neg (by omega)]
    exact ⟨rfl, rfl⟩
  refine ⟨by omega, by rw [hl]; rfl, by rw [hl]; rfl, XC_app _ _ _ (XC_low xs len _ (Nat.le_refl _) lowC h4) ⟨?_, fun q => ?_, True.intro⟩, XN_app _ _ _ (XN_low xs sz _ (Nat.le_refl _) lowM h5) ⟨?_, fun q => ?_, True.intro⟩, fun j hj => ?_, fun j hj => ?_, fun j hj => ?_, ?_, fun hh q => ?_⟩
  · rw [(ad_at _ _ _ _ _ _).1, if_pos rfl]
  · have : o < 2 := q
    omega
  · rw [(em_at _ _ _ _ _).1, if_pos rfl]
  · have : o < 2 := q
    omega
  · have := lowC j (by omega)
    have := h6 j hj
    exact ⟨(lowC j (by omega)).1.trans (h6 j hj).1, (lowC j (by omega)).2.trans (h6 j hj).2⟩
  · exact ⟨(lowM j (by omega)).1.trans (h7 j hj).1, (lowM j (by omega)).2.trans (h7 j hj).2⟩
  · rw [(ad_at _ _ _ _ _ _).2.2, if_neg hj]; exact h8 j hj
  · rw [(ad_at _ _ _ _ _ _).2.2, if_pos rfl, hl]
    rfl
  · rw [hl] at q
    exact hOk_app _ _ _ _ _ (h10 hh (by omega)) (Or.inr (Or.inr ⟨ho, ho2, by omega, rfl⟩))
/-- two parts, one behind the other, and an operator -/
theorem CD_bin {nv x len sz o : Nat} {xs ys : XL} {σ τ σ1 τ1 σ2 τ2 σ3 τ3 : Sta} (h : CD nv x len sz xs σ τ σ1 τ1) (hc : ∀ j, gA σ2 14 j = gA σ1 14 j ∧ gJ σ2 15 j = gJ σ1 15 j ∧ gA σ2 17 j = gA σ1 17 j) (hm : ∀ j, gA τ2 19 j = gA τ1 19 j ∧ gJ τ2 20 j = gJ τ1 20 j)
    (g : CD nv x (len + xs.length) (sz + xs.length) ys σ2 τ2 σ3 τ3) (ho : 2 ≤ o) (ho2 : o < 17) : CD nv x len sz (xs ++ (ys ++ [(o, 0)])) σ τ (addC σ3 (len + xs.length + ys.length) x (cOp o) 0) (emM τ3 (sz + xs.length + ys.length) (mOp o) 0) := by
  obtain ⟨h1, h2, h3, h4, h5, h6, h7, h8, h9, h10⟩ := h
  obtain ⟨g1, g2, g3, g4, g5, g6, g7, g8, g9, g10⟩ := g
  have hl : (xs ++ (ys ++ [(o, (0 : Int64))])).length = xs.length + (ys.length + 1) := by rw [List.length_append, List.length_append]; rfl
  have lowC : ∀ j, j < len + xs.length + ys.length → gA (addC σ3 (len + xs.length + ys.length) x (cOp o) 0) 14 j = gA σ3 14 j ∧ gJ (addC σ3 (len + xs.length + ys.length) x (cOp o) 0) 15 j = gJ σ3 15 j := fun j hj => by
    rw [(ad_at _ _ _ _ _ _).1, (ad_at _ _ _ _ _ _).2.1, if_neg (by omega), if_neg (by omega)]
    exact ⟨rfl, rfl⟩
  have lowM : ∀ j, j < sz + xs.length + ys.length → gA (emM τ3 (sz + xs.length + ys.length) (mOp o) 0) 19 j = gA τ3 19 j ∧ gJ (emM τ3 (sz + xs.length + ys.length) (mOp o) 0) 20 j = gJ τ3 20 j := fun j hj => by
    rw [(em_at _ _ _ _ _).1, (em_at _ _ _ _ _).2, if_neg (by omega), if_neg (by omega)]
    exact ⟨rfl, rfl⟩
  have midC : ∀ j, j < len + xs.length → gA (addC σ3 (len + xs.length + ys.length) x (cOp o) 0) 14 j = gA σ1 14 j ∧ gJ (addC σ3 (len + xs.length + ys.length) x (cOp o) 0) 15 j = gJ σ1 15 j := fun j hj => ⟨(lowC j (by omega)).1.trans ((g6 j hj).1.trans (hc j).1), (lowC j (by omega)).2.trans ((g6 j hj).2.trans (hc j).2.1)⟩
  have midM : ∀ j, j < sz + xs.length → gA (emM τ3 (sz + xs.length + ys.length) (mOp o) 0) 19 j = gA τ1 19 j ∧ gJ (emM τ3 (sz + xs.length + ys.length) (mOp o) 0) 20 j = gJ τ1 20 j := fun j hj => ⟨(lowM j (by omega)).1.trans ((g7 j hj).1.trans (hm j).1), (lowM j (by omega)).2.trans ((g7 j hj).2.trans (hm j).2)⟩
  refine ⟨by omega, by rw [hl, show len + (xs.length + (ys.length + 1)) = len + xs.length + ys.length + 1 by omega]; rfl, by rw [hl, show sz + (xs.length + (ys.length + 1)) = sz + xs.length + ys.length + 1 by omega]; rfl,
    XC_app _ _ _ (XC_low xs len _ (Nat.le_refl _) midC h4) (XC_app _ _ _ (XC_low ys _ _ (Nat.le_refl _) lowC g4) ⟨?_, fun q => ?_, True.intro⟩),
    XN_app _ _ _ (XN_low xs sz _ (Nat.le_refl _) midM h5) (XN_app _ _ _ (XN_low ys _ _ (Nat.le_refl _) lowM g5) ⟨?_, fun q => ?_, True.intro⟩), fun j hj => ?_, fun j hj => ?_, fun j hj => ?_, ?_, fun hh q => ?_⟩
  · rw [(ad_at _ _ _ _ _ _).1, if_pos rfl]
  · have : o < 2 := q
    omega
  · rw [(em_at _ _ _ _ _).1, if_pos rfl]
  · have : o < 2 := q
    omega
  · exact ⟨(midC j (by omega)).1.trans (h6 j hj).1, (midC j (by omega)).2.trans (h6 j hj).2⟩
  · exact ⟨(midM j (by omega)).1.trans (h7 j hj).1, (midM j (by omega)).2.trans (h7 j hj).2⟩
  · rw [(ad_at _ _ _ _ _ _).2.2, if_neg hj, g8 j hj, (hc j).2.2]; exact h8 j hj
  · rw [(ad_at _ _ _ _ _ _).2.2, if_pos rfl, hl, show len + (xs.length + (ys.length + 1)) = len + xs.length + ys.length + 1 by omega]
  · rw [hl] at q
    refine hOk_app _ _ _ _ _ (h10 hh (by omega)) (hOk_app _ _ _ _ _ (g10 (hh + 1) (by omega)) (Or.inr (Or.inl ⟨ho, ho2, by omega, ?_⟩)))
    show hOk nv [] (hh + 1 + 1 - 1) (hh + 1)
    show hh + 1 + 1 - 1 = hh + 1
    omega
