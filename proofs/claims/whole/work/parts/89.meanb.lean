/-! Levels and brackets: what they mean. -/
theorem CD_post {nv x len sz : Nat} {xs : XL} {σ τ σ1 τ1 σ2 τ2 : Sta} (h : CD nv x len sz xs σ τ σ1 τ1) (hc : ∀ j, gA σ2 14 j = gA σ1 14 j ∧ gJ σ2 15 j = gJ σ1 15 j ∧ gA σ2 17 j = gA σ1 17 j) (h0 : gI σ2 130 = gI σ1 130) (hm : ∀ j, gA τ2 19 j = gA τ1 19 j ∧ gJ τ2 20 j = gJ τ1 20 j) (h00 : gI τ2 26 = gI τ1 26) : CD nv x len sz xs σ τ σ2 τ2 := by
  obtain ⟨h1, h2, h3, h4, h5, h6, h7, h8, h9, h10⟩ := h
  exact ⟨h1, by rw [h0]; exact h2, by rw [h00]; exact h3, XC_low xs len _ (Nat.le_refl _) (fun j _ => ⟨(hc j).1, (hc j).2.1⟩) h4, XN_low xs sz _ (Nat.le_refl _) (fun j _ => hm j) h5, fun j hj => ⟨(hc j).1.trans (h6 j hj).1, (hc j).2.1.trans (h6 j hj).2⟩, fun j hj => ⟨(hm j).1.trans (h7 j hj).1, (hm j).2.trans (h7 j hj).2⟩, fun j hj => (hc j).2.2.trans (h8 j hj), (hc _).2.2.trans h9, h10⟩
theorem CD_pre {nv x len sz : Nat} {xs : XL} {σ τ σ1 τ1 σ2 τ2 : Sta} (h : CD nv x len sz xs σ1 τ1 σ2 τ2) (hc : ∀ j, gA σ1 14 j = gA σ 14 j ∧ gJ σ1 15 j = gJ σ 15 j ∧ gA σ1 17 j = gA σ 17 j) (hm : ∀ j, gA τ1 19 j = gA τ 19 j ∧ gJ τ1 20 j = gJ τ 20 j) : CD nv x len sz xs σ τ σ2 τ2 := by
  obtain ⟨h1, h2, h3, h4, h5, h6, h7, h8, h9, h10⟩ := h
  exact ⟨h1, h2, h3, h4, h5, fun j hj => ⟨(h6 j hj).1.trans (hc j).1, (h6 j hj).2.trans (hc j).2.1⟩, fun j hj => ⟨(h7 j hj).1.trans (hm j).1, (h7 j hj).2.trans (hm j).2⟩, fun j hj => (h8 j hj).trans (hc j).2.2, h9, h10⟩
theorem tkA (τ : Sta) (L t : Nat) : ∀ j, gA (tkM τ L t) 19 j = gA τ 19 j ∧ gJ (tkM τ L t) 20 j = gJ τ 20 j := fun j => ⟨congrFun (tkM_A τ L t 19).1 j, congrFun (tkM_A τ L t 20).2 j⟩
section BM
variable {K : Nat → Nat} {m c L d nv x len sz : Nat}
theorem b_level {n l k0 : Nat} {ms : Sta → Option ((Unit ⊕ (Int32 × Int32)) × Sta)} {ML : Nat → Sta → Option ((Unit ⊕ (Int32 × Int32)) × Sta)} (hl : l < 5)
    (HS : ∀ t t1 σ τ len sz, BX K m c L t d σ τ → MH nv x len sz t σ τ → GX K L n (l + 1) d t t1 → RB K m c L nv x len sz d t t1 σ τ ((fr_X1R n).1 (nI (l + 1)) (nI d) σ) (ms τ))
    (HM : ∀ k t σ τ, BX K m c L t d σ τ → ML (k + 1) τ = if opL (K t) = l then bnw (f_X10_take τ) (fun _ τ1 => bnw (ms τ1) (fun _ τ2 => bnd (f_X10_emit (eCF (K t)) 0 τ2) (fun _ τ3 => ML k τ3))) else some (.inl (), τ))
    (H0 : l = 2 → ∀ τ, ML 0 τ = some (.inl (), τ)) (hk : l = 2 → k0 = 1) (hk2 : l ≠ 2 → 60 < k0) {t t' : Nat} {σ τ : Sta} (hB : BX K m c L t d σ τ) (hS : MH nv x len sz t σ τ) (hG : GX K L (n + 1) l d t t') :
    RB K m c L nv x len sz d t t' σ τ ((fr_X1R (n + 1)).1 (nI l) (nI d) σ) (bnw (ms τ) (fun _ τ2 => ML k0 τ2)) := by
  have hm := hB.1.1
  have e2 : nI l = 2 ↔ l = 2 := nI_eqL (by omega) (by decide)
  obtain ⟨mx, hmx, hmx1, hmx2, hmx3⟩ : ∃ mx, mx = (if l = 2 then 1 else 60) ∧ (mx = 1 ∨ mx = 60) ∧ (mx = 1 → l = 2) ∧ (mx = 60 → l ≠ 2) := by
    by_cases q : l = 2
    · exact ⟨1, by rw [if_pos q], Or.inl rfl, fun _ => q, fun e => absurd e (by decide)⟩
    · exact ⟨60, by rw [if_neg q], Or.inr rfl, fun e => absurd e (by decide), fun _ => q⟩
  have hC : (fr_X1R (n + 1)).1 (nI l) (nI d) σ = bnd ((fr_X1R n).1 (nI (l + 1)) (nI d) σ) (fun _ σ3 => bnd (f_X1_look σ3) (fun r1 σ2 => f_X1_readLevel_40 (fr_X1R n).1 (fr_X1R n).2.1 (fr_X1R n).2.2 FU (nI l) (nI d) (nI mx) r1 (nI (mx - mx)) σ2)) := by
    show fb_X1_readLevel _ _ _ (nI l) (nI d) σ = _
    unfold fb_X1_readLevel f_X1_readLevel_30
    rw [if_pos (by rw [nI_leL (by omega) (by decide)]; omega), nI_1, Nat.sub_self]
    by_cases q : l = 2
    · rw [hmx, if_pos q]
      refine congrArg _ (funext fun _ => funext fun σ3 => ?_)
      rw [if_pos (e2.mpr q)]
      rfl
    · rw [hmx, if_neg q]
      refine congrArg _ (funext fun _ => funext fun σ3 => ?_)
      rw [if_neg (fun e => q (e2.mp e))]
      rfl
  have hG' : (if l < 5 then ∃ t1, GX K L n (l + 1) d t t1 ∧ GL (fun x y => GX K L n (l + 1) d x y) (fun x => opL (K x) = l) (fun x => (if l = 2 then 1 else 60) = 60 → opL (K x) ≠ l) L (if l = 2 then 1 else 60) t1 t' else _) := hG
  rw [if_pos hl, ← hmx] at hG'
  obtain ⟨t1, g1, g2⟩ := hG'
  rw [hC]
  rcases HS t t1 σ τ _ _ hB hS g1 with ⟨σ1, τ1, xs, a1, a2, a3, a4, a5, a6, a7, a8⟩ | ⟨σ1, τ1, p, a1, a2, a3, a4, aF, a5, a6⟩
  · have hFU : mx < FU := by
      rcases hmx1 with e | e
      · rw [e]; exact FU_lt (by decide)
      · rw [e]; exact FU_lt (by decide)
    rcases b_loop (d := d) (n := n) (mx := mx) hl hmx1 HS HM (fun e => H0 (hmx2 e)) hS mx FU k0 t1 t' σ1 τ1 xs (Nat.le_refl _) hFU (fun e => by rw [e]; exact hk (hmx2 e)) (fun e => by have := hk2 (hmx3 e); omega) a6 (by omega) a7 a3 a4 a8 g2 with ⟨σ', τ', ys, d1, d2, d3, d4, d5, d6, d7, d8⟩ | ⟨σ', τ', p, d1, d2, d3, d4, dF, d5, d6⟩
    · exact Or.inl ⟨σ', τ', ys, by rw [a1, bnd_s, c_look a6, bnd_s, d1], by rw [a2, bnw_l, d2], d3, d4, by omega, d6, d7, d8⟩
    · exact Or.inr ⟨σ', τ', p, by rw [a1, bnd_s, c_look a6, bnd_s, d1], by rw [a2, bnw_l, d2], d3, d4, dF, d5, d6⟩
  · refine Or.inr ⟨σ1, τ1, p, ?_, by rw [a2, bnw_r], a3, a4, aF, a5, a6⟩
    rw [a1, bnd_s, c_look_sk (by rw [a5]; decide), bnd_s, show FU = 999999999 + 1 from rfl, k_loop hl]
theorem b_open {t : Nat} {σ τ : Sta} (h : BX K m c L t d σ τ) (q : K t = 100) (ht : t < L) (hd : d < 8) : f_X1_acceptDeeper 40 (nI d) σ = some (1, sI σ 260 (nI (t + 1))) ∧ f_X10_open τ = some (.inl (), tkM (sI τ 31 (nI (d + 1))) L t) ∧ BX K m c L (t + 1) (d + 1) (sI σ 260 (nI (t + 1))) (tkM (sI τ 31 (nI (d + 1))) L t) := by
  have h' := BX_dep (d + 1) h
  refine ⟨?_, ?_, BX_take h' (BX_m h (by omega)) ht⟩
  · have := cf_deep h (by omega) ht
    rw [q, if_pos hd] at this
    exact this
  · unfold f_X10_open
    rw [m_isL h 100 100 rfl (by decide), bnd_s, if_pos q, ite10, m_deep h (by omega), if_pos hd, bnw_l, m_take h', if_pos ht, bnw_l]
theorem b_close {t : Nat} {σ τ : Sta} (h : BX K m c L t (d + 1) σ τ) (q : K t = 101) (ht : t < L) : f_X1_expect 41 σ = some (nI t, sI σ 260 (nI (t + 1))) ∧ f_X10_close τ = some (.inl (), sI (tkM τ L t) 31 (nI d)) ∧ BX K m c L (t + 1) d (sI σ 260 (nI (t + 1))) (sI (tkM τ L t) 31 (nI d)) := by
  unfold f_X10_close
  rcases f_exp (k0 := 101) h (Or.inr (Or.inl ⟨by decide, by decide⟩)) (by decide) (by decide) 41 101 rfl rfl with ⟨a1, a2, a3, a4, a5⟩ | ⟨a1, a2, a3⟩
  · refine ⟨a3, ?_, BX_dep d a5⟩
    rw [a4, bnw_l, lt_e, a5.2.2.2.2.2.2.2.2.2.2.1, nI_pred]
  · exact absurd ⟨q, ht⟩ a1
theorem MH_31 {t : Nat} {σ τ : Sta} (v : Int32) (h : MH nv x len sz t σ τ) : MH nv x len sz t σ (sI τ 31 v) := h
/-- two parts have been written, one behind the other -/
def CD2 (nv x len sz N : Nat) (xs ys : XL) (σ τ σ' τ' : Sta) : Prop := ∃ σ1 τ1 σ2 τ2, xs.length + ys.length + 1 ≤ N ∧ CD nv x len sz xs σ τ σ1 τ1 ∧ (∀ j, gA σ2 14 j = gA σ1 14 j ∧ gJ σ2 15 j = gJ σ1 15 j ∧ gA σ2 17 j = gA σ1 17 j) ∧ (∀ j, gA τ2 19 j = gA τ1 19 j ∧ gJ τ2 20 j = gJ τ1 20 j) ∧ CD nv x (len + xs.length) (sz + xs.length) ys σ2 τ2 σ' τ'
def RB2 (K : Nat → Nat) (m c L nv x len sz d t t' : Nat) (σ τ : Sta) (Cr : Option (Unit × Sta)) (Mr : Option ((Unit ⊕ (Int32 × Int32)) × Sta)) : Prop :=
  (∃ σ' τ' xs ys, Cr = some ((), σ') ∧ Mr = some (.inl (), τ') ∧ Ke σ σ' ∧ Kf τ τ' ∧ t < t' ∧ BX K m c L t' d σ' τ' ∧ CD2 nv x len sz (t' - t) xs ys σ τ σ' τ') ∨
  (∃ σ' τ' p, Cr = some ((), σ') ∧ Mr = some (.inr (2, p), τ') ∧ SF σ' ∧ Ke σ σ' ∧ Kf τ τ' ∧ gI σ' 262 = 2 ∧ gI σ' 263 = p)
theorem b_br {n : Nat} {E : Sta → Option ((Unit ⊕ (Int32 × Int32)) × Sta)} (hn : d < 8 → 7 ≤ n)
    (HE : d < 8 → ∀ t t1 σ τ len sz, BX K m c L t (d + 1) σ τ → MH nv x len sz t σ τ → GX K L n 0 (d + 1) t t1 → RB K m c L nv x len sz (d + 1) t t1 σ τ ((fr_X1R n).1 (nI 0) (nI (d + 1)) σ) (E τ)) {t t' : Nat} {σ τ : Sta} (hB : BX K m c L t d σ τ) (hS : MH nv x len sz t σ τ) :
    (GX K L (n + 1) 7 d t t' → RB K m c L nv x len sz d t t' σ τ ((fr_X1R (n + 1)).2.2 (nI 1) (nI d) σ) (mB1 E τ)) ∧ (GX K L (n + 1) 8 d t t' → RB2 K m c L nv x len sz d t t' σ τ ((fr_X1R (n + 1)).2.2 (nI 2) (nI d) σ) (mB2 E τ)) := by
  have hC : ∀ x, (fr_X1R (n + 1)).2.2 x (nI d) σ = bnd (f_X1_acceptDeeper 40 (nI d) σ) (fun r1 σ2 => if r1 = 0 then some ((), σ2) else bnd ((fr_X1R n).1 (nI 0) (nI d + 1) σ2) (fun _ σ6 => f_X1_readBracket_20 (fr_X1R n).1 (fr_X1R n).2.1 (fr_X1R n).2.2 FU x (nI d) 1 σ6)) := fun x => rfl
  have e1 : ∀ σ2, f_X1_readBracket_20 (fr_X1R n).1 (fr_X1R n).2.1 (fr_X1R n).2.2 FU (nI 1) (nI d) 1 σ2 = bnd (f_X1_expect 41 σ2) (fun _ σ3 => some ((), σ3)) := fun σ2 => by
    rw [show FU = 999999999 + 1 from rfl, f_X1_readBracket_20, if_pos (by decide)]
    rfl
  have e2 : ∀ σ2, f_X1_readBracket_20 (fr_X1R n).1 (fr_X1R n).2.1 (fr_X1R n).2.2 FU (nI 2) (nI d) 1 σ2 = bnd (f_X1_expect 44 σ2) (fun _ σ6 => bnd ((fr_X1R n).1 (nI 0) (nI (d + 1)) σ6) (fun _ σ9 => bnd (f_X1_expect 41 σ9) (fun _ σ3 => some ((), σ3)))) := fun σ2 => by
    rw [show FU = 999999998 + 1 + 1 from rfl, f_X1_readBracket_20, if_neg (by decide)]
    refine congrArg _ (funext fun _ => funext fun σ6 => ?_)
    rw [nI_1]
    refine congrArg _ (funext fun _ => funext fun σ9 => ?_)
    rw [lt_e, f_X1_readBracket_20, if_pos (by decide)]
    rfl
  have hf1 : Kf τ (tkM (sI τ 31 (nI (d + 1))) L t) := Kf_take (Kp.sI (by unfold fI; omega) Kp.rfl')
  have pre : ∀ (xs : XL) (σ' τ' : Sta), CD nv x len sz xs (sI σ 260 (nI (t + 1))) (tkM (sI τ 31 (nI (d + 1))) L t) σ' τ' → CD nv x len sz xs σ τ σ' τ' := fun xs σ' τ' h => CD_pre h (fun j => ⟨rfl, rfl, rfl⟩) (tkA (sI τ 31 (nI (d + 1))) L t)
  refine ⟨fun hG => ?_, fun hG => ?_⟩
  · obtain ⟨g1, g2, g3, t1, g4, g5, g6⟩ := hG
    rcases g6 with ⟨_, g7, rfl⟩ | ⟨g7, _⟩
    · obtain ⟨o1, o2, o3⟩ := b_open hB g1 g2 g3
      rw [hC]
      unfold mB1
      rw [o1, bnd_s, ite10, o2, bnw_l, nI_1]
      rcases HE g3 (t + 1) t1 _ _ _ _ o3 (MH_take L (MH_31 _ hS)) g4 with ⟨σ2, τ2, xs, a1, a2, a3, a4, a5, a6, a7, a8⟩ | ⟨σ2, τ2, p, a1, a2, a3, a4, aF, a5, a6⟩
      · obtain ⟨c1, c2, c3⟩ := b_close a6 g7 g5
        refine Or.inl ⟨_, _, xs, by rw [a1, bnd_s, e1, c1, bnd_s], by rw [a2, bnw_l, c2], Kp.trans (Ke_at _ _) (Kp.trans a3 (Ke_at _ _)), Kp.trans hf1 (Kp.trans a4 (Kp.sI (by unfold fI; omega) (Kf_take Kp.rfl'))), by omega, c3, by omega, ?_⟩
        exact CD_post (pre _ _ _ a8) (fun j => ⟨rfl, rfl, rfl⟩) rfl (tkA τ2 L t1) (tkM_I (q := 26) τ2 L t1 (by decide) (by decide))
      · refine Or.inr ⟨σ2, τ2, p, ?_, by rw [a2, bnw_r], a3, Kp.trans (Ke_at _ _) a4, Kp.trans hf1 aF, a5, a6⟩
        rw [a1, bnd_s, e1, exp_sk (by rw [a5]; decide) (by decide), bnd_s]
    · exact absurd g7 (by decide)
  · obtain ⟨g1, g2, g3, t1, g4, g5, g6⟩ := hG
    rcases g6 with ⟨g7, _⟩ | ⟨_, g7, t2, g8, g9, g10, rfl⟩
    · exact absurd g7 (by decide)
    · obtain ⟨o1, o2, o3⟩ := b_open hB g1 g2 g3
      rw [hC]
      unfold mB2
      rw [o1, bnd_s, ite10, o2, bnw_l, nI_1]
      have hMH1 := MH_take L (MH_31 (nI (d + 1)) hS)
      rcases HE g3 (t + 1) t1 _ _ _ _ o3 hMH1 g4 with ⟨σ2, τ2, xs, a1, a2, a3, a4, a5, a6, a7, a8⟩ | ⟨σ2, τ2, p, a1, a2, a3, a4, aF, a5, a6⟩
      · have hMH2 := MH_next hMH1 a3 a4 a7 (by omega) a8
        rcases f_exp (k0 := 104) a6 (Or.inr (Or.inl ⟨by decide, by decide⟩)) (by decide) (by decide) 44 104 rfl rfl with ⟨b1, b2, b3, b4, b5⟩ | ⟨b1, b2, b3⟩
        · rcases HE g3 (t1 + 1) t2 _ _ _ _ b5 (MH_take L hMH2) g8 with ⟨σ4, τ4, ys, d1, d2, d3, d4, d5, d6, d7, d8⟩ | ⟨σ4, τ4, p, d1, d2, d3, d4, dF, d5, d6⟩
          · obtain ⟨c1, c2, c3⟩ := b_close d6 g10 g9
            refine Or.inl ⟨_, _, xs, ys, by rw [a1, bnd_s, e2, b3, bnd_s, d1, bnd_s, c1, bnd_s], by rw [a2, bnw_l, b4, bnw_l, d2, bnw_l, c2], Kp.trans (Ke_at _ _) (Kp.trans a3 (Kp.trans (Ke_at _ _) (Kp.trans d3 (Ke_at _ _)))), Kp.trans hf1 (Kp.trans a4 (Kp.trans (Kf_take Kp.rfl') (Kp.trans d4 (Kp.sI (by unfold fI; omega) (Kf_take Kp.rfl'))))), by omega, c3, ?_⟩
            exact ⟨σ2, τ2, sI σ2 260 (nI (t1 + 1)), tkM τ2 L t1, by omega, pre _ _ _ a8, fun j => ⟨rfl, rfl, rfl⟩, tkA τ2 L t1, CD_post d8 (fun j => ⟨rfl, rfl, rfl⟩) rfl (tkA τ4 L t2) (tkM_I (q := 26) τ4 L t2 (by decide) (by decide))⟩
          · refine Or.inr ⟨σ4, τ4, p, ?_, by rw [a2, bnw_l, b4, bnw_l, d2, bnw_r], d3, Kp.trans (Ke_at _ _) (Kp.trans a3 (Kp.trans (Ke_at _ _) d4)), Kp.trans hf1 (Kp.trans a4 (Kp.trans (Kf_take Kp.rfl') dF)), d5, d6⟩
            rw [a1, bnd_s, e2, b3, bnd_s, d1, bnd_s, exp_sk (by rw [d5]; decide) (by decide), bnd_s]
        · exact absurd ⟨g7, g5⟩ b1
      · have hne : gI σ2 262 ≠ 0 := by rw [a5]; decide
        refine Or.inr ⟨σ2, τ2, p, ?_, by rw [a2, bnw_r], a3, Kp.trans (Ke_at _ _) a4, Kp.trans hf1 aF, a5, a6⟩
        rw [a1, bnd_s, e2, exp_sk hne (by decide), bnd_s, k_lev n 0 (nI (d + 1)) _ hne (by have := hn g3; omega) (by decide), bnd_s, exp_sk hne (by decide), bnd_s]
end BM
