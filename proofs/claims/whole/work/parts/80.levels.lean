/-! The levels of an expression: the form. -/
section FV
variable {K : Nat → Nat} {m c L d : Nat}
theorem f_level {n l k0 : Nat} {ms : Sta → Option ((Unit ⊕ (Int32 × Int32)) × Sta)} {eC : Nat → Int32} {ML : Nat → Sta → Option ((Unit ⊕ (Int32 × Int32)) × Sta)} (hl : l < 5) (hL : L < 5000)
    (HS : ∀ t σ τ, BX K m c L t d σ τ → SF σ → gI τ 30 = 0 → RES K m c L n (l + 1) d t σ τ ((fr_X1R n).1 (nI (l + 1)) (nI d) σ) (ms τ))
    (HM : ∀ k t σ τ, BX K m c L t d σ τ → ML (k + 1) τ = if opL (K t) = l then bnw (f_X10_take τ) (fun _ τ1 => bnw (ms τ1) (fun _ τ2 => bnd (f_X10_emit (eC (K t)) 0 τ2) (fun _ τ3 => ML k τ3))) else some (.inl (), τ))
    (H0 : l = 2 → ∀ τ, ML 0 τ = some (.inl (), τ)) (hk : l = 2 → k0 = 1) (hk2 : l ≠ 2 → 60 < k0) {t : Nat} {σ τ : Sta} (hB : BX K m c L t d σ τ) (hS : SF σ) (h30 : gI τ 30 = 0) :
    RES K m c L (n + 1) l d t σ τ ((fr_X1R (n + 1)).1 (nI l) (nI d) σ) (bnw (ms τ) (fun _ τ2 => ML k0 τ2)) := by
  have hm := hB.1.1
  have e2 : nI l = 2 ↔ l = 2 := nI_eqL (by omega) (by decide)
  obtain ⟨mx, hmx, hmx1, hmx2, hmx3⟩ : ∃ mx, mx = (if l = 2 then 1 else 60) ∧ (mx = 1 ∨ mx = 60) ∧ (mx = 1 → l = 2) ∧ (mx = 60 → l ≠ 2) := by
    by_cases q : l = 2
    · exact ⟨1, by rw [if_pos q], Or.inl rfl, fun _ => q, fun e => absurd e (by decide)⟩
    · exact ⟨60, by rw [if_neg q], Or.inr rfl, fun e => absurd e (by decide), fun _ => q⟩
  have hC : (fr_X1R (n + 1)).1 (nI l) (nI d) σ = bnd ((fr_X1R n).1 (nI (l + 1)) (nI d) σ) (fun _ σ3 => bnd (f_X1_look σ3) (fun r1 σ2 => f_X1_readLevel_40 (fr_X1R n).1 (fr_X1R n).2.1 (fr_X1R n).2.2 FU (nI l) (nI d) (nI mx) r1 (nI (mx - mx)) σ2)) := by
    show fb_X1_readLevel _ _ _ (nI l) (nI d) σ = _
    unfold fb_X1_readLevel f_X1_readLevel_30
    rw [if_pos (by rw [nI_leL (by omega) (by decide)]; omega), nI_1, Nat.sub_self]
    by_cases q : l = 2
    · rw [hmx, if_pos q]
      refine congrArg _ (funext fun _ => funext fun σ3 => ?_)
      rw [if_pos (e2.mpr q)]
      rfl
    · rw [hmx, if_neg q]
      refine congrArg _ (funext fun _ => funext fun σ3 => ?_)
      rw [if_neg (fun e => q (e2.mp e))]
      rfl
  rw [hC]
  rcases HS t σ τ hB hS h30 with ⟨σ1, τ1, t1, a1, a2, a3, a4, a5, a6, a7, a8⟩ | ⟨σ1, τ1, p, a1, a2, a3, a4, a5, a6⟩
  · have h30' := (Kg_30 a5).trans h30
    have hFU : mx < FU := by
      rcases hmx1 with e | e
      · rw [e]; exact FU_lt (by decide)
      · rw [e]; exact FU_lt (by decide)
    have ht : L ≤ t + 60 := by
      have := hB.2.2.2.2.1
      omega
    rcases f_loop (d := d) (n := n) (mx := mx) hl hmx1 hL HS HM (fun e => H0 (hmx2 e)) mx FU k0 t1 σ1 τ1 (Nat.le_refl _) hFU (fun e => by rw [e]; exact hk (hmx2 e)) (fun e => by have := hk2 (hmx3 e); omega) a7 a3 h30' with ⟨σ', τ', t', d1, d2, d3, d4, d5, d6, d7, d8⟩ | ⟨σ', τ', p, d1, d2, d3, d4, d5, d6⟩
    · refine Or.inl ⟨σ', τ', t', ?_, ?_, d3, Kp.trans a4 d4, Kp.trans a5 d5, by omega, d7, ?_⟩
      · rw [a1, bnd_s, c_look a7, bnd_s, d1]
      · rw [a2, bnw_l, d2]
      · show (if l < 5 then _ else _)
        rw [if_pos hl]
        exact ⟨t1, a8, by rw [← hmx]; exact d8⟩
    · refine Or.inr ⟨σ', τ', p, ?_, ?_, d3, Kp.trans a4 d4, Kp.trans a5 d5, d6⟩
      · rw [a1, bnd_s, c_look a7, bnd_s, d1]
      · rw [a2, bnw_l, d2]
  · have hD := DD_mono a6 (fun _ => hl)
    refine Or.inr ⟨σ1, τ1, p, ?_, ?_, a3, a4, a5, hD⟩
    · rw [a1, bnd_s, DD_look hm hD, bnd_s, show FU = 999999999 + 1 from rfl, k_loop hl]
    · rw [a2, bnw_r]
/-! the reference's loops -/
def eCF (k : Nat) : Int32 := if k = 12 then 31 else if k = 11 then 30 else if k = 105 then 20 else if k = 115 then 21 else if k = 111 then 22 else if k = 112 then 23 else if k = 113 then 24 else if k = 114 then 25 else nI (k - 96)
theorem opL_0 {k : Nat} : opL k = 0 ↔ k = 12 := by
  unfold opL
  constructor
  · intro h
    by_cases h1 : k = 12
    · exact h1
    · rw [if_neg h1] at h
      by_cases h2 : k = 11
      · rw [if_pos h2] at h; omega
      · rw [if_neg h2] at h
        by_cases h3 : k = 105 ∨ (111 ≤ k ∧ k ≤ 115)
        · rw [if_pos h3] at h; omega
        · rw [if_neg h3] at h
          by_cases h4 : k = 106 ∨ k = 107
          · rw [if_pos h4] at h; omega
          · rw [if_neg h4] at h
            by_cases h5 : 108 ≤ k ∧ k ≤ 110
            · rw [if_pos h5] at h; omega
            · rw [if_neg h5] at h; omega
  · rintro rfl; rfl
theorem opL_tab : ∀ k, k < 204 → (opL k = 1 ↔ k = 11) ∧ (opL k = 2 ↔ (k = 105 ∨ k = 115 ∨ k = 111 ∨ k = 112 ∨ k = 113 ∨ k = 114)) ∧ (opL k = 3 ↔ (k = 106 ∨ k = 107)) ∧ (opL k = 4 ↔ (108 ≤ k ∧ k ≤ 110)) := by decide +kernel
theorem BX_op {t : Nat} {σ τ : Sta} (h : BX K m c L t d σ τ) : K t < 204 := by
  have := (BX_K h h.2.2.1).1
  omega
end FV
