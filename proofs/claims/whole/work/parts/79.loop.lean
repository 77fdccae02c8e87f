/-! Operators of one level, with the operands between them: the form. -/
theorem opL_lt {k : Nat} (h : opL k < 5) : k < 116 := by
  unfold opL at h
  by_cases h1 : k = 12
  · omega
  · rw [if_neg h1] at h
    by_cases h2 : k = 11
    · omega
    · rw [if_neg h2] at h
      by_cases h3 : k = 105 ∨ (111 ≤ k ∧ k ≤ 115)
      · omega
      · rw [if_neg h3] at h
        by_cases h4 : k = 106 ∨ k = 107
        · omega
        · rw [if_neg h4] at h
          by_cases h5 : 108 ≤ k ∧ k ≤ 110
          · omega
          · rw [if_neg h5] at h; omega
theorem emit0 {τ : Sta} (h : gI τ 30 = 0) (a : Int32) (v : Int64) : f_X10_emit a v τ = some ((), τ) := by
  unfold f_X10_emit
  rw [if_pos h]
theorem Kg_30 {τ τ' : Sta} (h : Kg τ τ') : gI τ' 30 = gI τ 30 := h.1 30 (by unfold g0I; omega)
section FL
variable {K : Nat → Nat} {m c L d : Nat}
theorem BX_doom {t l : Nat} {σ τ : Sta} (h : BX K m c L t d σ τ) (hl : l < 5) (hk : opL (K t) = l) (ht : ¬ t < L) : DD K m c L l (gA σ 12 t) σ := by
  have e : t = L := by have := h.2.2.2.1; omega
  subst e
  exact Or.inr ⟨hl, h.2.2.2.2.2.1, h.2.2.1, h.2.2.2.2.2.2.1, by omega, rfl, h.2.2.2.2.2.2.2.2.1⟩
theorem f_loop {n l mx : Nat} {ms : Sta → Option ((Unit ⊕ (Int32 × Int32)) × Sta)} {eC : Nat → Int32} {ML : Nat → Sta → Option ((Unit ⊕ (Int32 × Int32)) × Sta)} (hl : l < 5) (hmx : mx = 1 ∨ mx = 60) (hL : L < 5000)
    (HS : ∀ t σ τ, BX K m c L t d σ τ → SF σ → gI τ 30 = 0 → RES K m c L n (l + 1) d t σ τ ((fr_X1R n).1 (nI (l + 1)) (nI d) σ) (ms τ))
    (HM : ∀ k t σ τ, BX K m c L t d σ τ → ML (k + 1) τ = if opL (K t) = l then bnw (f_X10_take τ) (fun _ τ1 => bnw (ms τ1) (fun _ τ2 => bnd (f_X10_emit (eC (K t)) 0 τ2) (fun _ τ3 => ML k τ3))) else some (.inl (), τ))
    (H0 : mx = 1 → ∀ τ, ML 0 τ = some (.inl (), τ)) : ∀ (q kc k t : Nat) (σ τ : Sta), q ≤ mx → q < kc → (mx = 1 → k = q) → (mx = 60 → q < k ∧ L - t ≤ q) → BX K m c L t d σ τ → SF σ → gI τ 30 = 0 →
    (∃ σ' τ' t', f_X1_readLevel_40 (fr_X1R n).1 (fr_X1R n).2.1 (fr_X1R n).2.2 kc (nI l) (nI d) (nI mx) (if t < L then nI (kC (K t)) else 279) (nI (mx - q)) σ = some ((), σ') ∧ ML k τ = some (.inl (), τ') ∧ SF σ' ∧ Ke σ σ' ∧ Kg τ τ' ∧ t ≤ t' ∧ BX K m c L t' d σ' τ' ∧ GL (fun x y => GX K L n (l + 1) d x y) (fun x => opL (K x) = l) (fun x => mx = 60 → opL (K x) ≠ l) L q t t') ∨
    (∃ σ' τ' p, f_X1_readLevel_40 (fr_X1R n).1 (fr_X1R n).2.1 (fr_X1R n).2.2 kc (nI l) (nI d) (nI mx) (if t < L then nI (kC (K t)) else 279) (nI (mx - q)) σ = some ((), σ') ∧ ML k τ = some (.inr (1, p), τ') ∧ SF σ' ∧ Ke σ σ' ∧ Kg τ τ' ∧ DD K m c L l p σ')
  | _, 0, _, _, _, _, _, hc, _, _, _, _, _ => absurd hc (Nat.not_lt_zero _)
  | 0, kc + 1, k, t, σ, τ, hq, hc, hk1, hk2, hB, hS, h30 => by
    have hC : ∀ op, f_X1_readLevel_40 (fr_X1R n).1 (fr_X1R n).2.1 (fr_X1R n).2.2 (kc + 1) (nI l) (nI d) (nI mx) op (nI (mx - 0)) σ = some ((), σ) := fun op => by
      rw [f_X1_readLevel_40, if_pos (nI_le (by omega) (by omega))]
      rfl
    rcases hmx with h1 | h1
    · refine Or.inl ⟨σ, τ, t, hC _, ?_, hS, Kp.rfl', Kp.rfl', Nat.le_refl _, hB, rfl, fun e => by omega⟩
      rw [hk1 h1, H0 h1]
    · obtain ⟨k1, k2⟩ := hk2 h1
      obtain ⟨k', rfl⟩ : ∃ k', k = k' + 1 := ⟨k - 1, by omega⟩
      have ht : ¬ t < L := by omega
      by_cases q2 : opL (K t) = l
      · refine Or.inr ⟨σ, τ, _, hC _, ?_, hS, Kp.rfl', Kp.rfl', BX_doom hB hl q2 ht⟩
        rw [HM k' t σ τ hB, if_pos q2, m_take hB, if_neg ht, bnw_r]
      · refine Or.inl ⟨σ, τ, t, hC _, ?_, hS, Kp.rfl', Kp.rfl', Nat.le_refl _, hB, rfl, fun _ => q2⟩
        rw [HM k' t σ τ hB, if_neg q2]
  | q + 1, kc + 1, k, t, σ, τ, hq, hc, hk1, hk2, hB, hS, h30 => by
    obtain ⟨k', rfl⟩ : ∃ k', k = k' + 1 := ⟨k - 1, by rcases hmx with h1 | h1 <;> omega⟩
    have hm := hB.1.1
    have hv : ¬ nI mx ≤ nI (mx - (q + 1)) := nI_ge (by omega) (by omega)
    have hV := (BX_K hB hB.2.2.1).1
    by_cases ht : t < L
    · obtain ⟨r, r1, r2⟩ := c_level hV hl σ
      by_cases q2 : opL (K t) = l
      · have htm : t < m := BX_m hB (by have := opL_lt (k := K t) (by omega); omega)
        have hB1 := BX_take hB htm ht
        have hS1 : SF (sI σ 260 (nI (t + 1))) := hS
        have hk0 : Ke σ (sI σ 260 (nI (t + 1))) := Kp.sI (by unfold eI; omega) Kp.rfl'
        have hf0 : Kg τ (tkM τ L t) := Kg_take Kp.rfl'
        have hC : f_X1_readLevel_40 (fr_X1R n).1 (fr_X1R n).2.1 (fr_X1R n).2.2 (kc + 1) (nI l) (nI d) (nI mx) (if t < L then nI (kC (K t)) else 279) (nI (mx - (q + 1))) σ = bnd ((fr_X1R n).1 (nI (l + 1)) (nI d) (sI σ 260 (nI (t + 1)))) (fun _ σ8 => bnd (f_X0_add (nI (kC (K t))) 0 σ8) (fun _ σ11 => bnd (f_X1_look σ11) (fun r13 σ14 => f_X1_readLevel_40 (fr_X1R n).1 (fr_X1R n).2.1 (fr_X1R n).2.2 kc (nI l) (nI d) (nI mx) r13 (nI (mx - q)) σ14))) := by
          rw [f_X1_readLevel_40, if_neg hv, if_pos ht, r1, bnd_s, if_pos (r2.mpr q2), lt_e, hB.2.2.2.2.2.2.1, nI_1, nI_1, nI_1, show mx - (q + 1) + 1 = mx - q by omega]
          rfl
        rw [hC, HM k' t σ τ hB, if_pos q2, m_take hB, if_pos ht, bnw_l]
        rcases HS (t + 1) _ _ hB1 hS1 ((Kg_30 hf0).trans h30) with ⟨σ1, τ1, t1, a1, a2, a3, a4, a5, a6, a7, a8⟩ | ⟨σ1, τ1, p, a1, a2, a3, a4, a5, a6⟩
        · obtain ⟨σ2, b1, b2, b3, b4, b5, b6⟩ := c_add a3 (nI (kC (K t))) 0
          have hB2 := BX_add a7 b3 b4 b5 b6
          have h30' : gI τ1 30 = 0 := (Kg_30 a5).trans ((Kg_30 hf0).trans h30)
          rcases f_loop hl hmx hL HS HM H0 q kc k' t1 σ2 τ1 (by omega) (by omega) (fun e => by have := hk1 e; omega) (fun e => by have := hk2 e; omega) hB2 b2 h30' with ⟨σ', τ', t', d1, d2, d3, d4, d5, d6, d7, d8⟩ | ⟨σ', τ', p, d1, d2, d3, d4, d5, d6⟩
          · refine Or.inl ⟨σ', τ', t', ?_, ?_, d3, Kp.trans hk0 (Kp.trans a4 (Kp.trans b3 d4)), Kp.trans hf0 (Kp.trans a5 d5), by omega, d7, Or.inr ⟨q2, ht, t1, a8, d8⟩⟩
            · rw [a1, bnd_s, b1, bnd_s, c_look hB2, bnd_s, d1]
            · rw [a2, bnw_l, emit0 h30', bnd_s, d2]
          · refine Or.inr ⟨σ', τ', p, ?_, ?_, d3, Kp.trans hk0 (Kp.trans a4 (Kp.trans b3 d4)), Kp.trans hf0 (Kp.trans a5 d5), d6⟩
            · rw [a1, bnd_s, b1, bnd_s, c_look hB2, bnd_s, d1]
            · rw [a2, bnw_l, emit0 h30', bnd_s, d2]
        · obtain ⟨σ2, b1, b2, b3, b4, b5, b6⟩ := c_add a3 (nI (kC (K t))) 0
          have hD := DD_add (DD_mono a6 (fun _ => hl)) b3 b4 b5 b6
          obtain ⟨kc', rfl⟩ : ∃ kc', kc = kc' + 1 := ⟨kc - 1, by omega⟩
          refine Or.inr ⟨σ2, τ1, p, ?_, ?_, b2, Kp.trans hk0 (Kp.trans a4 b3), Kp.trans hf0 a5, hD⟩
          · rw [a1, bnd_s, b1, bnd_s, DD_look hm hD, bnd_s, k_loop hl]
          · rw [a2, bnw_r]
      · refine Or.inl ⟨σ, τ, t, ?_, ?_, hS, Kp.rfl', Kp.rfl', Nat.le_refl _, hB, Or.inl ⟨q2, rfl⟩⟩
        · rw [f_X1_readLevel_40, if_neg hv, if_pos ht, r1, bnd_s, if_neg (fun e => q2 (r2.mp e))]
          rfl
        · rw [HM k' t σ τ hB, if_neg q2]
    · have hC : f_X1_readLevel_40 (fr_X1R n).1 (fr_X1R n).2.1 (fr_X1R n).2.2 (kc + 1) (nI l) (nI d) (nI mx) (if t < L then nI (kC (K t)) else 279) (nI (mx - (q + 1))) σ = some ((), σ) := by
        rw [if_neg ht, k_loop hl]
      by_cases q2 : opL (K t) = l
      · refine Or.inr ⟨σ, τ, _, hC, ?_, hS, Kp.rfl', Kp.rfl', BX_doom hB hl q2 ht⟩
        rw [HM k' t σ τ hB, if_pos q2, m_take hB, if_neg ht, bnw_r]
      · refine Or.inl ⟨σ, τ, t, hC, ?_, hS, Kp.rfl', Kp.rfl', Nat.le_refl _, hB, Or.inl ⟨q2, rfl⟩⟩
        rw [HM k' t σ τ hB, if_neg q2]
end FL
