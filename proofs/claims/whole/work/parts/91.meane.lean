/-! Expressions: what they mean, all together. -/
section BE
variable {K : Nat → Nat} {m c L nv x : Nat}
theorem b_all : ∀ n,
    (∀ l d t t' σ τ n' len sz, l ≤ 5 → d ≤ 8 → 8 * (8 - d) + 8 - l ≤ n → 6 * (8 - d) + 6 - l ≤ n' → BX K m c L t d σ τ → MH nv x len sz t σ τ → GX K L n l d t t' → RB K m c L nv x len sz d t t' σ τ ((fr_X1R n).1 (nI l) (nI d) σ) (mLv n' l τ)) ∧
    (∀ d t t' σ τ n' len sz, d ≤ 8 → 8 * (8 - d) + 2 ≤ n → 6 * (8 - d) + 1 ≤ n' → BX K m c L t d σ τ → MH nv x len sz t σ τ → GX K L n 6 d t t' → RB K m c L nv x len sz d t t' σ τ ((fr_X1R n).2.1 (nI d) σ) ((fr_X10R n').2.2.2.2.2 τ)) ∧
    (∀ d t t' σ τ n' len sz, d ≤ 8 → 8 * (8 - d) + 1 ≤ n → 6 * (8 - d) ≤ n' → BX K m c L t d σ τ → MH nv x len sz t σ τ → (GX K L n 7 d t t' → RB K m c L nv x len sz d t t' σ τ ((fr_X1R n).2.2 (nI 1) (nI d) σ) (mB1 (fr_X10R n').1 τ)) ∧ (GX K L n 8 d t t' → RB2 K m c L nv x len sz d t t' σ τ ((fr_X1R n).2.2 (nI 2) (nI d) σ) (mB2 (fr_X10R n').1 τ)))
  | 0 => ⟨fun l d t t' σ τ n' len sz h1 h2 h3 => by omega, fun d t t' σ τ n' len sz h1 h2 => by omega, fun d t t' σ τ n' len sz h1 h2 => by omega⟩
  | n + 1 => by
    obtain ⟨I1, I2, I3⟩ := b_all n
    refine ⟨fun l d t t' σ τ n' len sz h1 h2 h3 h4 hB hS hG => ?_, fun d t t' σ τ n' len sz h2 h3 h4 hB hS hG => ?_, fun d t t' σ τ n' len sz h2 h3 h4 hB hS => ?_⟩
    · by_cases q : l < 5
      · obtain ⟨n2, rfl⟩ : ∃ n2, n' = n2 + 1 := ⟨n' - 1, by omega⟩
        have HS : ∀ t t1 σ τ len sz, BX K m c L t d σ τ → MH nv x len sz t σ τ → GX K L n (l + 1) d t t1 → RB K m c L nv x len sz d t t1 σ τ ((fr_X1R n).1 (nI (l + 1)) (nI d) σ) (mLv n2 (l + 1) τ) := fun t t1 σ τ len sz a b e => I1 (l + 1) d t t1 σ τ n2 len sz (by omega) h2 (by omega) (by omega) a b e
        have hFU : 60 < FU := FU_lt (by decide)
        have : l = 0 ∨ l = 1 ∨ l = 2 ∨ l = 3 ∨ l = 4 := by omega
        rcases this with rfl | rfl | rfl | rfl | rfl
        · exact b_level (l := 0) (k0 := FU) (by decide) HS (M0 n2) (fun e => absurd e (by decide)) (fun e => absurd e (by decide)) (fun _ => hFU) hB hS hG
        · exact b_level (l := 1) (k0 := FU) (by decide) HS (M1 n2) (fun e => absurd e (by decide)) (fun e => absurd e (by decide)) (fun _ => hFU) hB hS hG
        · exact b_level (l := 2) (k0 := 1) (ML := RLm (mLv n2 3)) (by decide) HS M2 (fun _ _ => rfl) (fun _ => rfl) (fun e => absurd rfl e) hB hS hG
        · exact b_level (l := 3) (k0 := FU) (by decide) HS (M3 n2) (fun e => absurd e (by decide)) (fun e => absurd e (by decide)) (fun _ => hFU) hB hS hG
        · exact b_level (l := 4) (k0 := FU) (by decide) HS (M4 n2) (fun e => absurd e (by decide)) (fun e => absurd e (by decide)) (fun _ => hFU) hB hS hG
      · have hl : l = 5 := by omega
        subst hl
        have hC : (fr_X1R (n + 1)).1 (nI 5) (nI d) σ = bnd ((fr_X1R n).2.1 (nI d) σ) (fun _ σ7 => some ((), σ7)) := by
          show fb_X1_readLevel (fr_X1R n).1 (fr_X1R n).2.1 (fr_X1R n).2.2 (nI 5) (nI d) σ = _
          unfold fb_X1_readLevel
          rw [if_neg (by decide)]
        rw [hC]
        have hG6 : GX K L n 6 d t t' := hG
        rcases I2 d t t' σ τ n' len sz h2 (by omega) (by omega) hB hS hG6 with ⟨σ1, τ1, xs, a1, a2, a3, a4, a5, a6, a7, a8⟩ | ⟨σ1, τ1, p, a1, a2, a3, a4, aF, a5, a6⟩
        · exact Or.inl ⟨σ1, τ1, xs, by rw [a1, bnd_s], a2, a3, a4, a5, a6, a7, a8⟩
        · exact Or.inr ⟨σ1, τ1, p, by rw [a1, bnd_s], a2, a3, a4, aF, a5, a6⟩
    · obtain ⟨n2, rfl⟩ : ∃ n2, n' = n2 + 1 := ⟨n' - 1, by omega⟩
      exact b_factor h2 (fun q t t1 σ τ len sz a b e => I2 (d + 1) t t1 σ τ n2 len sz (by omega) (by omega) (by omega) a b e) (fun t t' σ τ len sz a b => I3 d t t' σ τ n2 len sz h2 (by omega) (by omega) a b) hB hS hG
    · exact b_br (fun q => by omega) (fun q t t1 σ τ len sz a b e => I1 0 (d + 1) t t1 σ τ n' len sz (by omega) (by omega) (by omega) (by omega) a b e) hB hS
/-- an expression that lies below len, x, sz -/
def ERb (nv len x sz : Nat) (σ τ : Sta) (e s : Int32) : Prop := ∃ (e' s' b : Nat) (l : XL), e = nI e' ∧ s = nI s' ∧ e' < x ∧ gA σ 16 e' = nI b ∧ gA σ 17 e' = nI (b + l.length) ∧ b + l.length ≤ len ∧ s' + l.length < sz ∧ XC σ b l ∧ XM τ s' l ∧ hOk nv l 0 1 ∧ l.length < 2000
def LX (len x sz : Nat) (σ τ σ' τ' : Sta) : Prop := (∀ j, j < len → gA σ' 14 j = gA σ 14 j ∧ gJ σ' 15 j = gJ σ 15 j) ∧ (∀ j, j < sz → gA τ' 19 j = gA τ 19 j ∧ gJ τ' 20 j = gJ τ 20 j) ∧ (∀ j, j < x → gA σ' 16 j = gA σ 16 j ∧ gA σ' 17 j = gA σ 17 j)
theorem XM_low {τ τ' : Sta} : ∀ (a : XL) (s e : Nat), s + a.length < e → (∀ j, j < e → gA τ' 19 j = gA τ 19 j ∧ gJ τ' 20 j = gJ τ 20 j) → XM τ s a → XM τ' s a
  | [], s, e, he, hl, ha => by
    show gA τ' 19 s = 50
    rw [(hl s he).1]
    exact ha
  | p :: l, s, e, he, hl, ha => by
    have he' : s + (l.length + 1) < e := he
    exact ⟨by rw [(hl s (by omega)).1]; exact ha.1, fun q => by rw [(hl s (by omega)).2]; exact ha.2.1 q, XM_low l (s + 1) e (by omega) hl ha.2.2⟩
theorem hOk_mono {nv nv' : Nat} (h : nv ≤ nv') : ∀ (l : XL) (a b : Nat), hOk nv l a b → hOk nv' l a b
  | [], _, _, e => e
  | p :: l, a, b, e => by
    rcases e with ⟨a1, a2, a3, a4⟩ | ⟨a1, a2, a3, a4⟩ | ⟨a1, a2, a3, a4⟩
    · exact Or.inl ⟨a1, a2, fun q => by obtain ⟨v, v1, v2⟩ := a3 q; exact ⟨v, by omega, v2⟩, hOk_mono h l _ _ a4⟩
    · exact Or.inr (Or.inl ⟨a1, a2, a3, hOk_mono h l _ _ a4⟩)
    · exact Or.inr (Or.inr ⟨a1, a2, a3, hOk_mono h l _ _ a4⟩)
theorem ERb_low {nv nv' len len' x x' sz sz' : Nat} {σ τ σ' τ' : Sta} {e s : Int32} (h : ERb nv len x sz σ τ e s) (hL : LX len x sz σ τ σ' τ') (h0 : nv ≤ nv') (h1 : len ≤ len') (h2 : x ≤ x') (h3 : sz ≤ sz') : ERb nv' len' x' sz' σ' τ' e s := by
  obtain ⟨e', s', b, l, a1, a2, a3, a4, a5, a6, a7, a8, a9, a10, a11⟩ := h
  exact ⟨e', s', b, l, a1, a2, by omega, by rw [(hL.2.2 e' a3).1]; exact a4, by rw [(hL.2.2 e' a3).2]; exact a5, by omega, by omega, XC_low l b len a6 hL.1 a8, XM_low l s' sz a7 hL.2.1 a9, hOk_mono h0 l _ _ a10, a11⟩
theorem ERb_ER {nv len x sz : Nat} {σ τ : Sta} {e s : Int32} (h : ERb nv len x sz σ τ e s) (h1 : len ≤ 1500) (h2 : x ≤ 1500) (h3 : sz ≤ 3004) (h4 : gI σ 133 = nI x) : ER σ τ nv e s := by
  obtain ⟨e', s', b, l, a1, a2, a3, a4, a5, a6, a7, a8, a9, a10, a11⟩ := h
  exact ⟨e', s', b, l, a1, a2, by omega, by rw [h4]; exact nI_lt a3 (by omega), a4, a5, by omega, by omega, a8, a9, a10, a11⟩
/-- what is known before an expression -/
def MO (nv x0 len sz t : Nat) (σ τ : Sta) : Prop := gI σ 130 = nI len ∧ len ≤ t ∧ gI σ 133 = nI x0 ∧ x0 < 1500 ∧ gI τ 26 = nI sz ∧ sz ≤ 1500 + t ∧ gI τ 30 = 1 ∧ nv ≤ 6 ∧ gI σ 192 = nI nv ∧ gI τ 10 = nI nv ∧ ∀ v, v < nv → gJ σ 19 v = gJ τ 7 v
theorem b_expr {x0 len sz t t' : Nat} {σ τ : Sta} (hB : BX K m c 5000 t 0 σ τ) (hS : MO nv x0 len sz t σ τ) (hG : GX K (t + 60) 100 0 0 t t') :
    (∃ σ' τ' k, f_X1_readExpression σ = some (nI x0, σ') ∧ f_X10_whole τ = some (.inl (nI sz), τ') ∧ Kxe σ σ' ∧ Kf τ τ' ∧ t < t' ∧ BX K m c 5000 t' 0 σ' τ' ∧ k ≤ t' - t ∧ gI σ' 130 = nI (len + k) ∧ gI σ' 133 = nI (x0 + 1) ∧ gI τ' 26 = nI (sz + k + 1) ∧ LX len x0 sz σ τ σ' τ' ∧ ERb nv (len + k) (x0 + 1) (sz + k + 1) σ' τ' (nI x0) (nI sz)) ∨
    (∃ r σ' τ' p, f_X1_readExpression σ = some (r, σ') ∧ f_X10_whole τ = some (.inr (2, p), τ') ∧ SF σ' ∧ Kxe σ σ' ∧ Kf τ τ' ∧ gI σ' 262 = 2 ∧ gI σ' 263 = p) := by
  obtain ⟨m1, m2, m3, m4, m5, m6, m7, m8, m9, m10, m11⟩ := hS
  have hm := hB.1.1
  have htm := hB.2.2.1
  have hc := hB.1.2.1
  have hc2 := hB.1.2.2.1
  obtain ⟨h1, h2, h3, h4, h5, h6, h7, h8, h9, h10, h11, h12⟩ := hB
  have h67 := h1.2.2.2.1
  have hmin : (if gI σ 67 < gI σ 260 + 60 then gI σ 67 else gI σ 260 + 60) = nI (min (t + 60) c) := by
    rw [h67, h7, nI_addL]
    by_cases q : c < t + 60
    · rw [if_pos (nI_lt q (by omega)), show min (t + 60) c = c by omega]
    · rw [if_neg (nI_nlt (by omega) (by omega)), show min (t + 60) c = t + 60 by omega]
  have b1 := c_beginX (σ := sI σ 261 (nI (min (t + 60) c))) (n := len) (x := x0) m1 m4 m3
  obtain ⟨σ1, e1⟩ : ∃ σ1, σ1 = begC (sI σ 261 (nI (min (t + 60) c))) len x0 := ⟨_, rfl⟩
  rw [← e1] at b1
  have k1 : Kxe σ σ1 := by
    rw [e1]
    exact Kp.sI (by unfold xeI; omega) (Kp.sA (by unfold xeA; omega) (Kp.sA (by unfold xeA; omega) (Kp.sI (by unfold xeI; omega) Kp.rfl')))
  have kf : Kf τ (sI τ 32 60) := Kp.sI (by unfold fI; omega) Kp.rfl'
  have hB1 : BX K m c (t + 60) t 0 σ1 (sI τ 32 60) := by
    refine ⟨TOK_x h1 k1 kf, h2, h3, by omega, Or.inl (Nat.le_refl _), by rw [e1]; exact h6, by rw [e1]; exact h7, h8, by rw [e1]; rfl, ?_, h11, ?_⟩
    · show (60 : Int32) = bud (t + 60) t
      unfold bud
      rw [if_neg (by omega), show t + 60 - t = 60 by omega]
      rfl
    · rw [k1.1 259 (by unfold xeI; omega), show gI σ1 263 = gI σ 263 by rw [e1]; rfl]
      exact h12
  have hMH : MH nv (x0 + 1) len sz t σ1 (sI τ 32 60) := by
    rw [e1]
    exact ⟨m1, m2, rfl, by omega, by omega, m5, m6, m7, m8, m9, m10, m11⟩
  have hR := (b_all (K := K) (m := m) (c := c) (L := t + 60) (nv := nv) (x := x0 + 1) 100).1 0 0 t t' σ1 (sI τ 32 60) 100 len sz (by decide) (by decide) (by decide) (by decide) hB1 hMH hG
  have hC : f_X1_readExpression σ = bnd ((fr_X1R 100).1 (nI 0) (nI 0) σ1) (fun _ σ6 => some (nI x0, sI σ6 261 (gI σ6 67))) := by
    unfold f_X1_readExpression
    rw [hmin, lt_e, b1, bnd_s]
    rfl
  have hM : f_X10_whole τ = bnw (mLv 100 0 (sI τ 32 60)) (fun _ σ4 => bnd (f_X10_emit 50 0 (sI σ4 32 (-1))) (fun _ σ8 => some (.inl (gI τ 26), σ8))) := rfl
  rw [hC, hM]
  rcases hR with ⟨σ2, τ2, xs, a1, a2, a3, a4, a5, a6, a7, a8⟩ | ⟨σ2, τ2, p, a1, a2, a3, a4, aF, a5, a6⟩
  · have hMH2 := MH_next hMH a3 a4 a7 (by omega) a8
    have ht60 := a6.2.2.2.1
    have htm' := a6.2.2.1
    have k2 : Kxe σ2 (sI σ2 261 (gI σ2 67)) := Kp.sI (by unfold xeI; omega) Kp.rfl'
    have kf2 : Kf τ2 (sI τ2 32 (-1)) := Kp.sI (by unfold fI; omega) Kp.rfl'
    have kf3 : Kf τ2 (emM (sI τ2 32 (-1)) (sz + xs.length) 50 0) := Kp.trans kf2 (Kf_em _ _ _ _)
    have em := m_emit (τ := sI τ2 32 (-1)) (n := sz + xs.length) hMH2.2.2.2.2.2.2.2.1 hMH2.2.2.2.2.2.1 (by omega) 50 0
    obtain ⟨d1, d2, d3, d4, d5, d6, d7, d8, d9, d10⟩ := a8
    have lowM : ∀ j, j < sz + xs.length → gA (emM (sI τ2 32 (-1)) (sz + xs.length) 50 0) 19 j = gA τ2 19 j ∧ gJ (emM (sI τ2 32 (-1)) (sz + xs.length) 50 0) 20 j = gJ τ2 20 j := fun j hj => by
      rw [(em_at _ _ _ _ _).1, (em_at _ _ _ _ _).2, if_neg (by omega), if_neg (by omega)]
      exact ⟨rfl, rfl⟩
    have k16 : ∀ j, gA σ2 16 j = gA σ1 16 j := fun j => by rw [a3.2.2.1 16 (by unfold eA; omega)]
    have s16 : ∀ j, gA σ1 16 j = if j = x0 then nI len else gA σ 16 j := fun j => by rw [e1]; rfl
    have s17 : ∀ j, gA σ1 17 j = if j = x0 then nI len else gA σ 17 j := fun j => by rw [e1]; rfl
    have s14 : ∀ j, gA σ1 14 j = gA σ 14 j ∧ gJ σ1 15 j = gJ σ 15 j := fun j => by rw [e1]; exact ⟨rfl, rfl⟩
    refine Or.inl ⟨sI σ2 261 (gI σ2 67), emM (sI τ2 32 (-1)) (sz + xs.length) 50 0, xs.length, by rw [a1, bnd_s], by rw [a2, bnw_l, em, bnd_s, m5], Kp.trans k1 (Kp.trans (Ke_x a3) k2), Kp.trans kf (Kp.trans a4 kf3), a5, ?_, a7, d2, ?_, rfl, ⟨fun j hj => ?_, fun j hj => ?_, fun j hj => ?_⟩, x0, sz, len, xs, rfl, rfl, by omega, ?_, ?_, Nat.le_refl _, by omega, ?_, XM_of xs sz (XN_low xs sz _ (Nat.le_refl _) lowM d5) ?_, d10 0 (by omega), by omega⟩
    · obtain ⟨c1, c2, c3, c4, c5, c6, c7, c8, c9, c10, c11, c12⟩ := a6
      refine ⟨TOK_x c1 k2 kf3, c2, c3, by omega, Or.inr rfl, c6, c7, c8, ?_, ?_, c11, c12⟩
      · show gI σ2 67 = _
        rw [c1.2.2.2.1, show min 5000 c = c by omega]
      · show (-1 : Int32) = bud 5000 t'
        rfl
    · show gI σ2 133 = _
      exact hMH2.2.2.1
    · exact ⟨(d6 j hj).1.trans (s14 j).1, (d6 j hj).2.trans (s14 j).2⟩
    · exact ⟨(lowM j (by omega)).1.trans (d7 j hj).1, (lowM j (by omega)).2.trans (d7 j hj).2⟩
    · refine ⟨?_, ?_⟩
      · show gA σ2 16 j = _
        rw [k16, s16, if_neg (by omega)]
      · show gA σ2 17 j = _
        rw [d8 j (by omega), s17, if_neg (by omega)]
    · show gA σ2 16 x0 = _
      rw [k16, s16, if_pos rfl]
    · show gA σ2 17 x0 = _
      exact d9
    · exact XC_low (σ := σ2) xs len _ (Nat.le_refl _) (fun j _ => ⟨rfl, rfl⟩) d4
    · rw [(em_at _ _ _ _ _).1, if_pos rfl]
  · exact Or.inr ⟨nI x0, sI σ2 261 (gI σ2 67), τ2, p, by rw [a1, bnd_s], by rw [a2, bnw_r], a3, Kp.trans k1 (Kp.trans (Ke_x a4) (Kp.sI (by unfold xeI; omega) Kp.rfl')), Kp.trans kf aF, a5, a6⟩
end BE
