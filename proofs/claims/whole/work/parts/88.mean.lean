/-! Expressions: what they mean, where the form is right. -/
def RB (K : Nat → Nat) (m c L nv x len sz d t t' : Nat) (σ τ : Sta) (Cr : Option (Unit × Sta)) (Mr : Option ((Unit ⊕ (Int32 × Int32)) × Sta)) : Prop :=
  (∃ σ' τ' xs, Cr = some ((), σ') ∧ Mr = some (.inl (), τ') ∧ Ke σ σ' ∧ Kf τ τ' ∧ t < t' ∧ BX K m c L t' d σ' τ' ∧ xs.length ≤ t' - t ∧ CD nv x len sz xs σ τ σ' τ') ∨
  (∃ σ' τ' p, Cr = some ((), σ') ∧ Mr = some (.inr (2, p), τ') ∧ SF σ' ∧ Ke σ σ' ∧ Kf τ τ' ∧ gI σ' 262 = 2 ∧ gI σ' 263 = p)
theorem tkM_A (τ : Sta) (L t q : Nat) : gA (tkM τ L t) q = gA τ q ∧ gJ (tkM τ L t) q = gJ τ q := by
  unfold tkM
  by_cases h : L = 5000
  · rw [if_pos h]; exact ⟨rfl, rfl⟩
  · rw [if_neg h]; exact ⟨rfl, rfl⟩
theorem tkM_I (τ : Sta) (L t : Nat) {q : Nat} (h : q ≠ 29) (h2 : q ≠ 32) : gI (tkM τ L t) q = gI τ q := by
  unfold tkM
  rw [gI_sI, if_neg h]
  by_cases h3 : L = 5000
  · rw [if_pos h3]
  · rw [if_neg h3, gI_sI, if_neg h2]
theorem MH_take {nv x len sz t : Nat} {σ τ : Sta} (L : Nat) (h : MH nv x len sz t σ τ) : MH nv x len sz (t + 1) (sI σ 260 (nI (t + 1))) (tkM τ L t) := by
  obtain ⟨h1, h2, h3, h4, h5, h6, h7, h8, h9, h10, h11, h12⟩ := h
  refine ⟨h1, by omega, h3, h4, h5, ?_, by omega, ?_, h9, h10, ?_, fun v hv => ?_⟩
  · rw [tkM_I τ L t (by decide) (by decide)]; exact h6
  · rw [tkM_I τ L t (by decide) (by decide)]; exact h8
  · rw [tkM_I τ L t (by decide) (by decide)]; exact h11
  · rw [(tkM_A τ L t 7).2]; exact h12 v hv
/-- what is known behind a part -/
theorem MH_next {nv x len sz t t' : Nat} {xs : XL} {σ τ σ' τ' : Sta} (h : MH nv x len sz t σ τ) (hc : Ke σ σ') (hm : Kf τ τ') (hx : xs.length ≤ t' - t) (ht : t ≤ t') (hD : CD nv x len sz xs σ τ σ' τ') : MH nv x (len + xs.length) (sz + xs.length) t' σ' τ' := by
  obtain ⟨h1, h2, h3, h4, h5, h6, h7, h8, h9, h10, h11, h12⟩ := h
  refine ⟨hD.2.1, by omega, by rw [hc.1 133 (by unfold eI; omega)]; exact h3, h4, h5, hD.2.2.1, by omega, by rw [hm.1 30 (by unfold fI; omega)]; exact h8, h9, by rw [hc.1 192 (by unfold eI; omega)]; exact h10, by rw [hm.1 10 (by unfold fI; omega)]; exact h11, fun v hv => ?_⟩
  rw [hc.2.2.2.1 19 (by unfold eJ; omega), hm.2.2.2.1 7 (by unfold fJ; omega)]
  exact h12 v hv
theorem MH_SF {nv x len sz t : Nat} {σ τ : Sta} (h : MH nv x len sz t σ τ) (ht : t ≤ 1500) : SF σ := by
  obtain ⟨h1, h2, h3, h4, h5, h6, h7, h8, h9, h10, h11, h12⟩ := h
  exact ⟨⟨len, by omega, h1⟩, ⟨x, h5, h3⟩, ⟨nv, h9, h10⟩⟩
/-- the number of an operator between two numbers -/
def oN (k : Nat) : Nat := if k = 106 then 2 else if k = 107 then 3 else if k = 108 then 4 else if k = 109 then 5 else if k = 110 then 6 else if k = 105 then 7 else if k = 115 then 8 else if k = 111 then 9 else if k = 112 then 10 else if k = 113 then 11 else if k = 114 then 12 else if k = 11 then 13 else 14
theorem oN_tab : ∀ k, k < 116 → opL k < 5 → 2 ≤ oN k ∧ oN k < 17 ∧ cOp (oN k) = nI (kC k) ∧ mOp (oN k) = eCF k := by decide +kernel
section BL
variable {K : Nat → Nat} {m c L d nv x len sz : Nat} {σ0 τ0 : Sta} {t0 : Nat}
theorem b_loop {n l mx : Nat} {ms : Sta → Option ((Unit ⊕ (Int32 × Int32)) × Sta)} {ML : Nat → Sta → Option ((Unit ⊕ (Int32 × Int32)) × Sta)} (hl : l < 5) (hmx : mx = 1 ∨ mx = 60)
    (HS : ∀ t t1 σ τ len sz, BX K m c L t d σ τ → MH nv x len sz t σ τ → GX K L n (l + 1) d t t1 → RB K m c L nv x len sz d t t1 σ τ ((fr_X1R n).1 (nI (l + 1)) (nI d) σ) (ms τ))
    (HM : ∀ k t σ τ, BX K m c L t d σ τ → ML (k + 1) τ = if opL (K t) = l then bnw (f_X10_take τ) (fun _ τ1 => bnw (ms τ1) (fun _ τ2 => bnd (f_X10_emit (eCF (K t)) 0 τ2) (fun _ τ3 => ML k τ3))) else some (.inl (), τ))
    (H0 : mx = 1 → ∀ τ, ML 0 τ = some (.inl (), τ)) (H00 : MH nv x len sz t0 σ0 τ0) : ∀ (q kc k t t' : Nat) (σ τ : Sta) (xs : XL), q ≤ mx → q < kc → (mx = 1 → k = q) → (mx = 60 → q < k) → BX K m c L t d σ τ → t0 ≤ t → xs.length ≤ t - t0 → Ke σ0 σ → Kf τ0 τ → CD nv x len sz xs σ0 τ0 σ τ → GL (fun x y => GX K L n (l + 1) d x y) (fun x => opL (K x) = l) (fun x => mx = 60 → opL (K x) ≠ l) L q t t' →
    (∃ σ' τ' ys, f_X1_readLevel_40 (fr_X1R n).1 (fr_X1R n).2.1 (fr_X1R n).2.2 kc (nI l) (nI d) (nI mx) (if t < L then nI (kC (K t)) else 279) (nI (mx - q)) σ = some ((), σ') ∧ ML k τ = some (.inl (), τ') ∧ Ke σ0 σ' ∧ Kf τ0 τ' ∧ t ≤ t' ∧ BX K m c L t' d σ' τ' ∧ ys.length ≤ t' - t0 ∧ CD nv x len sz ys σ0 τ0 σ' τ') ∨
    (∃ σ' τ' p, f_X1_readLevel_40 (fr_X1R n).1 (fr_X1R n).2.1 (fr_X1R n).2.2 kc (nI l) (nI d) (nI mx) (if t < L then nI (kC (K t)) else 279) (nI (mx - q)) σ = some ((), σ') ∧ ML k τ = some (.inr (2, p), τ') ∧ SF σ' ∧ Ke σ0 σ' ∧ Kf τ0 τ' ∧ gI σ' 262 = 2 ∧ gI σ' 263 = p)
  | _, 0, _, _, _, _, _, _, _, hc, _, _, _, _, _, _, _, _, _ => absurd hc (Nat.not_lt_zero _)
  | 0, kc + 1, k, t, t', σ, τ, xs, hq, hc, hk1, hk2, hB, ht0, hxs, kE, kF, hD, hG => by
    obtain ⟨rfl, hZ⟩ := hG
    refine Or.inl ⟨σ, τ, xs, ?_, ?_, kE, kF, Nat.le_refl _, hB, hxs, hD⟩
    · rw [f_X1_readLevel_40, if_pos (nI_le (by omega) (by omega))]
      rfl
    · rcases hmx with h1 | h1
      · rw [hk1 h1, H0 h1]
      · obtain ⟨k', rfl⟩ : ∃ k', k = k' + 1 := ⟨k - 1, by have := hk2 h1; omega⟩
        rw [HM k' t' σ τ hB, if_neg (hZ h1)]
  | q + 1, kc + 1, k, t, t', σ, τ, xs, hq, hc, hk1, hk2, hB, ht0, hxs, kE, kF, hD, hG => by
    obtain ⟨k', rfl⟩ : ∃ k', k = k' + 1 := ⟨k - 1, by rcases hmx with h1 | h1 <;> omega⟩
    have hm := hB.1.1
    have hv : ¬ nI mx ≤ nI (mx - (q + 1)) := nI_ge (by omega) (by omega)
    have hV := (BX_K hB hB.2.2.1).1
    have hMH := MH_next H00 kE kF hxs ht0 hD
    rcases hG with ⟨q2, rfl⟩ | ⟨q2, ht, t1, hP, hG⟩
    · have q2' : ¬ opL (K t') = l := q2
      refine Or.inl ⟨σ, τ, xs, ?_, ?_, kE, kF, Nat.le_refl _, hB, hxs, hD⟩
      · by_cases ht : t' < L
        · obtain ⟨r, r1, r2⟩ := c_level hV hl σ
          rw [f_X1_readLevel_40, if_neg hv, if_pos ht, r1, bnd_s, if_neg (fun e => q2 (r2.mp e))]
          rfl
        · rw [if_neg ht, k_loop hl]
      · rw [HM k' t' σ τ hB, if_neg q2']
    · have q2' : opL (K t) = l := q2
      obtain ⟨r, r1, r2⟩ := c_level hV hl σ
      have hk116 := opL_lt (k := K t) (by omega)
      obtain ⟨o1, o2, o3, o4⟩ := oN_tab (K t) hk116 (by omega)
      have htm : t < m := BX_m hB (by omega)
      have hB1 := BX_take hB htm ht
      have hk0 : Ke σ (sI σ 260 (nI (t + 1))) := Ke_at _ _
      have hf0 : Kf τ (tkM τ L t) := Kf_take Kp.rfl'
      have hC : f_X1_readLevel_40 (fr_X1R n).1 (fr_X1R n).2.1 (fr_X1R n).2.2 (kc + 1) (nI l) (nI d) (nI mx) (if t < L then nI (kC (K t)) else 279) (nI (mx - (q + 1))) σ = bnd ((fr_X1R n).1 (nI (l + 1)) (nI d) (sI σ 260 (nI (t + 1)))) (fun _ σ8 => bnd (f_X0_add (nI (kC (K t))) 0 σ8) (fun _ σ11 => bnd (f_X1_look σ11) (fun r13 σ14 => f_X1_readLevel_40 (fr_X1R n).1 (fr_X1R n).2.1 (fr_X1R n).2.2 kc (nI l) (nI d) (nI mx) r13 (nI (mx - q)) σ14))) := by
        rw [f_X1_readLevel_40, if_neg hv, if_pos ht, r1, bnd_s, if_pos (r2.mpr q2), lt_e, hB.2.2.2.2.2.2.1, nI_1, nI_1, nI_1, show mx - (q + 1) + 1 = mx - q by omega]
        rfl
      rw [hC, HM k' t σ τ hB, if_pos q2', m_take hB, if_pos ht, bnw_l]
      rcases HS (t + 1) t1 _ _ _ _ hB1 (MH_take L hMH) hP with ⟨σ1, τ1, ys, a1, a2, a4, a5, a6, a7, a8, a9⟩ | ⟨σ1, τ1, p, a1, a2, a3, a4, aF, a5, a6⟩
      · have hD3 := CD_bin (o := oN (K t)) hD (fun j => ⟨rfl, rfl, rfl⟩) (fun j => ⟨congrFun (tkM_A τ L t 19).1 j, congrFun (tkM_A τ L t 20).2 j⟩) a9 o1 o2
        have hmt := a7.2.2.1
        have hMH2 := MH_next (MH_take L hMH) a4 a5 a8 (by omega) a9
        have hlen : (xs ++ (ys ++ [(oN (K t), (0 : Int64))])).length = xs.length + (ys.length + 1) := by rw [List.length_append, List.length_append]; rfl
        have hadd : f_X0_add (nI (kC (K t))) 0 σ1 = some ((), addC σ1 (len + xs.length + ys.length) x (cOp (oN (K t))) 0) := by
          rw [o3]
          have h2 := H00.2.1
          exact c_addX (by omega) hMH2.1 hMH2.2.2.2.2.1 hMH2.2.2.2.1 hMH2.2.2.1 _ _
        have hem : f_X10_emit (eCF (K t)) 0 τ1 = some ((), emM τ1 (sz + xs.length + ys.length) (mOp (oN (K t))) 0) := by
          rw [o4]
          have h2 := H00.2.2.2.2.2.2.1
          exact m_emit hMH2.2.2.2.2.2.2.2.1 hMH2.2.2.2.2.2.1 (by omega) _ _
        have hB2 := BX_add a7 (Ke_ad σ1 (len + xs.length + ys.length) x (cOp (oN (K t))) 0) rfl rfl rfl
        have hB3 : BX K m c L t1 d (addC σ1 (len + xs.length + ys.length) x (cOp (oN (K t))) 0) (emM τ1 (sz + xs.length + ys.length) (mOp (oN (K t))) 0) :=
          ⟨TOK_k hB2.1 Kp.rfl' (Kf_em _ _ _ _), hB2.2.1, hB2.2.2.1, hB2.2.2.2.1, hB2.2.2.2.2.1, hB2.2.2.2.2.2.1, hB2.2.2.2.2.2.2.1, hB2.2.2.2.2.2.2.2.1, hB2.2.2.2.2.2.2.2.2.1, hB2.2.2.2.2.2.2.2.2.2.1, hB2.2.2.2.2.2.2.2.2.2.2.1, hB2.2.2.2.2.2.2.2.2.2.2.2⟩
        have kE2 : Ke σ0 (addC σ1 (len + xs.length + ys.length) x (cOp (oN (K t))) 0) := Kp.trans kE (Kp.trans hk0 (Kp.trans a4 (Ke_ad _ _ _ _ _)))
        have kF2 : Kf τ0 (emM τ1 (sz + xs.length + ys.length) (mOp (oN (K t))) 0) := Kp.trans kF (Kp.trans hf0 (Kp.trans a5 (Kf_em _ _ _ _)))
        rcases b_loop hl hmx HS HM H0 H00 q kc k' t1 t' _ _ _ (by omega) (by omega) (fun e => by have := hk1 e; omega) (fun e => by have := hk2 e; omega) hB3 (by omega) (by rw [hlen]; omega) kE2 kF2 hD3 hG with ⟨σ', τ', zs, d1, d2, d3, d4, d5, d6, d7, d8⟩ | ⟨σ', τ', p, d1, d2, d3, d4, dF, d5, d6⟩
        · refine Or.inl ⟨σ', τ', zs, ?_, ?_, d3, d4, by omega, d6, d7, d8⟩
          · rw [a1, bnd_s, hadd, bnd_s, c_look hB3, bnd_s, d1]
          · rw [a2, bnw_l, hem, bnd_s, d2]
        · refine Or.inr ⟨σ', τ', p, ?_, ?_, d3, d4, dF, d5, d6⟩
          · rw [a1, bnd_s, hadd, bnd_s, c_look hB3, bnd_s, d1]
          · rw [a2, bnw_l, hem, bnd_s, d2]
      · obtain ⟨σ2, b1, b2, b3, b4, b5, b6⟩ := c_add a3 (nI (kC (K t))) 0
        obtain ⟨kc', rfl⟩ : ∃ kc', kc = kc' + 1 := ⟨kc - 1, by omega⟩
        refine Or.inr ⟨σ2, τ1, p, ?_, by rw [a2, bnw_r], b2, Kp.trans kE (Kp.trans hk0 (Kp.trans a4 b3)), Kp.trans kF (Kp.trans hf0 aF), by rw [b5]; exact a5, by rw [b6]; exact a6⟩
        rw [a1, bnd_s, b1, bnd_s, c_look_sk (by rw [b5, a5]; decide), bnd_s, k_loop hl]
end BL
