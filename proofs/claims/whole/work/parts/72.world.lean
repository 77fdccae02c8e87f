/-! All states are found. -/
section WO
variable {nv ng nc : Nat} {nb : Nat → Nat} {pc : Nat → Nat → Nat}
theorem e_exp40 : ∀ (m s n n' ns : Nat) (σ τ : Sta), s + m = 101 → m ≤ n → m ≤ n' → CR nv ng nc nb pc σ τ → XS nv ns σ τ → s ≤ ns → E0 σ → (∀ t, t < s → Done ng nc nb ns t σ τ) →
    (∃ σ' τ' e, f_X5_explore_40 n (nI s) σ = some (e, σ') ∧ e ≠ 0 ∧ f_X10_explore_23 n' (nI s) τ = some (.inr (e, gI σ' 330), τ') ∧ Kx σ σ' ∧ Ky τ τ') ∨
    (∃ σ' τ' ns', f_X5_explore_40 n (nI s) σ = some (0, σ') ∧ f_X10_explore_23 n' (nI s) τ = some (.inl (), τ') ∧ Kx σ σ' ∧ Ky τ τ' ∧ ns ≤ ns' ∧ XS nv ns' σ' τ' ∧ E0 σ' ∧ (∀ t, t < ns' → Done ng nc nb ns' t σ' τ'))
  | 0, s, n, n', ns, σ, τ, hs, hn, hn', h, hX, hsn, h0, hD => by
    have := hX.1
    omega
  | m + 1, s, 0, n', ns, σ, τ, hs, hn, hn', h, hX, hsn, h0, hD => by omega
  | m + 1, s, n + 1, 0, ns, σ, τ, hs, hn, hn', h, hX, hsn, h0, hD => by omega
  | m + 1, s, n + 1, n' + 1, ns, σ, τ, hs, hn, hn', h, hX, hsn, h0, hD => by
    have hns := hX.1
    have hng := h.1.2.1
    by_cases q : s = ns
    · refine Or.inr ⟨σ, τ, ns, ?_, ?_, Kp.rfl', Kp.rfl', Nat.le_refl _, hX, h0, fun t ht => hD t (by omega)⟩
      · rw [f_X5_explore_40]
        unfold f_X5_explore_72
        rw [hX.2.1, h0.1]
        by_cases q2 : (100 : Int32) ≤ nI s
        · rw [if_pos q2]
        · rw [if_neg q2, if_pos (nI_le (by omega) (by omega))]
      · rw [f_X10_explore_23, hX.2.2.1, if_pos (nI_le (by omega) (by omega))]
    · rw [f_X5_explore_40, if_neg (show ¬ (100 : Int32) ≤ nI s by rw [nI_Lle (by omega) (by decide)]; omega), hX.2.1, if_neg (nI_ge (by omega) (by omega)), h0.1, ite00]
      rcases e_visit (ns := ns) (s := s) (n' := n') h hX (by omega) h0 with ⟨σ1, τ1, e, a1, a2, a3, a4, a5, a6⟩ | ⟨σ1, τ1, ns1, a1, a2, a3, a4, a5, a6, a7⟩
      · refine Or.inl ⟨σ1, τ1, e, ?_, a3, a4, a5, a6⟩
        rw [a1, bnd_s, lt_e]
        cases n with
        | zero =>
          have : m = 0 := by omega
          omega
        | succ n =>
          rw [f_X5_explore_40]
          unfold f_X5_explore_72
          rw [a2, if_neg a3]
          split
          · rfl
          · split <;> rfl
      · rw [a1, bnd_s, lt_e, nI_1, a2]
        have h1 := CR_x a3.1 a3.2.1 h
        rcases e_exp40 m (s + 1) n n' ns1 σ1 τ1 (by omega) (by omega) (by omega) h1 a5 (by omega) a6 (fun t ht => by
          by_cases q2 : t = s
          · rw [q2]; exact a7
          · exact Done_fr (hD t (by omega)) a3 a4 (CR_nb h) hng (by omega) (by omega)) with ⟨σ', τ', e, b1, b2, b3, b4, b5⟩ | ⟨σ', τ', ns', b1, b2, b3, b4, b5, b6, b7, b8⟩
        · exact Or.inl ⟨σ', τ', e, b1, b2, b3, Kp.trans a3.1 b4, Kp.trans a3.2.1 b5⟩
        · exact Or.inr ⟨σ', τ', ns', b1, b2, Kp.trans a3.1 b3, Kp.trans a3.2.1 b4, by omega, b6, b7, b8⟩
/-- the world that is read off the reference -/
def mkW (nv ng ns : Nat) (nb : Nat → Nat) (pc : Nat → Nat → Nat) (τ : Sta) : AW := (ns, ng, nv, fun t => (gA τ 23 t).toNatClampNeg, fun t => decide (gA τ 22 t = 1), fun t c => (gA τ 24 (16 * t + c)).toNatClampNeg, fun t c b => (gA τ 26 (4 * (16 * t + c) + b)).toNatClampNeg, nb, pc, fun t c g => gJ τ 25 (3 * (16 * t + c) + g), fun t v => gA τ 21 (6 * t + v))
theorem e_world {ns : Nat} {σ τ : Sta} (h : CR nv ng nc nb pc σ τ) (hX : XS nv ns σ τ) (hD : ∀ t, t < ns → Done ng nc nb ns t σ τ) : AWok (mkW nv ng ns nb pc τ) ∧ AC (mkW nv ng ns nb pc τ) σ ∧ AM (mkW nv ng ns nb pc τ) τ := by
  obtain ⟨x1, x2, x3, x4⟩ := hX
  have hnc := h.1.2.2
  have key : ∀ t c, t < ns → c < (gA τ 23 t).toNatClampNeg → ∃ k : Nat, k ≤ 16 ∧ c < k ∧ gA σ 33 t = nI k ∧ gA τ 22 t = 0 ∧ gA τ 23 t = nI k ∧ ChOk ng nc nb ns t c σ τ := fun t c ht hc => by
    rcases hD t ht with ⟨a1, a2, a3⟩ | ⟨k, a1, a2, a3, a4, a5⟩
    · rw [a3] at hc
      exact absurd hc (by rw [show ((0:Int32).toNatClampNeg) = 0 from rfl]; exact Nat.not_lt_zero _)
    · rw [a4, nI_clamp (by omega)] at hc
      exact ⟨k, a1, hc, a2, a3, a4, a5 c hc⟩
  have key2 : ∀ t c, t < ns → c < (gA τ 23 t).toNatClampNeg → ∃ cm : Nat, cm < nc ∧ (gA τ 24 (16 * t + c)).toNatClampNeg = cm ∧ gA σ 34 (t * 16 + c) = nI cm ∧ gA τ 24 (16 * t + c) = nI cm ∧ (∀ b, b < nb cm → ∃ tg : Nat, tg < ns ∧ gA σ 35 ((t * 16 + c) * 4 + b) = nI tg ∧ gA τ 26 (4 * (16 * t + c) + b) = nI tg ∧ (gA τ 26 (4 * (16 * t + c) + b)).toNatClampNeg = tg) ∧
      (∀ g, g < ng → ((gA σ 24 g < 0 ∨ gA σ 24 g = nI cm) ∧ gJ τ 25 (3 * (16 * t + c) + g) = gJ σ 36 (t * 3 + g)) ∨ (¬ gA σ 24 g < 0 ∧ gA σ 24 g ≠ nI cm ∧ gJ τ 25 (3 * (16 * t + c) + g) = 0)) := fun t c ht hc => by
    obtain ⟨k, _, _, _, _, _, cm, c1, c2, c3, c4, c5⟩ := key t c ht hc
    refine ⟨cm, c1, by rw [c3, nI_clamp (by omega)], c2, c3, fun b hb => ?_, c5⟩
    obtain ⟨tg, t1, t2, t3⟩ := c4 b hb
    exact ⟨tg, t1, t2, t3, by rw [t3, nI_clamp (by omega)]⟩
  refine ⟨⟨x1, h.1.2.1, h.1.1, fun t ht => ⟨?_, fun hg => ?_⟩, fun t c ht hc => ?_⟩, ⟨x2, h.2.2.1.1, h.2.1.1, fun t ht => ?_, fun t c ht hc => ?_, fun t v ht hv => x4 t v ht hv⟩, ⟨x3, h.2.2.1.2, h.2.1.2, fun t ht => ⟨?_, ?_⟩, fun t c ht hc => ?_, fun t v ht hv => rfl⟩⟩
  · show (gA τ 23 t).toNatClampNeg ≤ 16
    rcases hD t ht with ⟨a1, a2, a3⟩ | ⟨k, a1, a2, a3, a4, a5⟩
    · rw [a3]; decide
    · rw [a4, nI_clamp (by omega)]; exact a1
  · show (gA τ 23 t).toNatClampNeg = 0
    have hg' : gA τ 22 t = 1 := of_decide_eq_true hg
    rcases hD t ht with ⟨a1, a2, a3⟩ | ⟨k, a1, a2, a3, a4, a5⟩
    · rw [a3]; rfl
    · rw [a3] at hg'; exact absurd hg' (by decide)
  · obtain ⟨cm, c1, c2, c3, c4, c5, c6⟩ := key2 t c ht hc
    show (gA τ 24 (16 * t + c)).toNatClampNeg < 16 ∧ nb ((gA τ 24 (16 * t + c)).toNatClampNeg) ≤ 4 ∧ (∀ b, b < nb ((gA τ 24 (16 * t + c)).toNatClampNeg) → (gA τ 26 (4 * (16 * t + c) + b)).toNatClampNeg < ns ∧ pc ((gA τ 24 (16 * t + c)).toNatClampNeg) b ≤ 100) ∧ aAccN (pc ((gA τ 24 (16 * t + c)).toNatClampNeg)) (nb ((gA τ 24 (16 * t + c)).toNatClampNeg)) 0 0 = 100
    rw [c2]
    obtain ⟨p1, p2, p3, p4, p5, p6, p7⟩ := h.2.2.2.2.2.2.2.1 cm c1
    refine ⟨by omega, p5, fun b hb => ⟨?_, (p6 b hb).2.2.1⟩, p7⟩
    obtain ⟨tg, t1, t2, t3, t4⟩ := c5 b hb
    rw [t4]; exact t1
  · show gA σ 33 t = if decide (gA τ 22 t = 1) = true then -1 else nI ((gA τ 23 t).toNatClampNeg)
    rcases hD t ht with ⟨a1, a2, a3⟩ | ⟨k, a1, a2, a3, a4, a5⟩
    · rw [a2, if_pos (by decide)]; exact a1
    · rw [a3, if_neg (by decide), a4, nI_clamp (by omega)]; exact a2
  · obtain ⟨cm, c1, c2, c3, c4, c5, c6⟩ := key2 t c ht hc
    show gA σ 34 (t * 16 + c) = nI ((gA τ 24 (16 * t + c)).toNatClampNeg) ∧ gA σ 29 ((gA τ 24 (16 * t + c)).toNatClampNeg) = nI (nb ((gA τ 24 (16 * t + c)).toNatClampNeg)) ∧ (∀ b, b < nb ((gA τ 24 (16 * t + c)).toNatClampNeg) → gA σ 30 ((gA τ 24 (16 * t + c)).toNatClampNeg * 4 + b) = nI (pc ((gA τ 24 (16 * t + c)).toNatClampNeg) b) ∧ gA σ 35 ((t * 16 + c) * 4 + b) = nI ((gA τ 26 (4 * (16 * t + c) + b)).toNatClampNeg)) ∧
      (∀ g, g < ng → (gA σ 24 g < 0 ∧ gJ σ 36 (t * 3 + g) = gJ τ 25 (3 * (16 * t + c) + g)) ∨ (¬ gA σ 24 g < 0 ∧ gA σ 24 g = nI ((gA τ 24 (16 * t + c)).toNatClampNeg) ∧ gJ σ 36 (t * 3 + g) = gJ τ 25 (3 * (16 * t + c) + g)) ∨ (¬ gA σ 24 g < 0 ∧ gA σ 24 g ≠ nI ((gA τ 24 (16 * t + c)).toNatClampNeg) ∧ gJ τ 25 (3 * (16 * t + c) + g) = 0))
    rw [c2]
    obtain ⟨p1, p2, p3, p4, p5, p6, p7⟩ := h.2.2.2.2.2.2.2.1 cm c1
    refine ⟨c3, p3, fun b hb => ⟨(p6 b hb).1, ?_⟩, fun g hg => ?_⟩
    · obtain ⟨tg, t1, t2, t3, t4⟩ := c5 b hb
      rw [t4]; exact t2
    · rcases c6 g hg with ⟨d1, d2⟩ | ⟨d1, d2, d3⟩
      · by_cases d3 : gA σ 24 g < 0
        · exact Or.inl ⟨d3, d2.symm⟩
        · exact Or.inr (Or.inl ⟨d3, d1.resolve_left d3, d2.symm⟩)
      · exact Or.inr (Or.inr ⟨d1, d2, d3⟩)
  · show gA τ 23 t = nI ((gA τ 23 t).toNatClampNeg)
    rcases hD t ht with ⟨a1, a2, a3⟩ | ⟨k, a1, a2, a3, a4, a5⟩
    · rw [a3]; rfl
    · rw [a4, nI_clamp (by omega)]
  · show gA τ 22 t = if decide (gA τ 22 t = 1) = true then 1 else 0
    rcases hD t ht with ⟨a1, a2, a3⟩ | ⟨k, a1, a2, a3, a4, a5⟩
    · rw [a2, if_pos (by decide)]
    · rw [a3, if_neg (by decide)]
  · obtain ⟨cm, c1, c2, c3, c4, c5, c6⟩ := key2 t c ht hc
    show gA τ 24 (16 * t + c) = nI ((gA τ 24 (16 * t + c)).toNatClampNeg) ∧ gA τ 16 ((gA τ 24 (16 * t + c)).toNatClampNeg) = nI (nb ((gA τ 24 (16 * t + c)).toNatClampNeg)) ∧ (∀ b, b < nb ((gA τ 24 (16 * t + c)).toNatClampNeg) → gA τ 17 ((gA τ 24 (16 * t + c)).toNatClampNeg * 4 + b) = nI (pc ((gA τ 24 (16 * t + c)).toNatClampNeg) b) ∧ gA τ 26 (4 * (16 * t + c) + b) = nI ((gA τ 26 (4 * (16 * t + c) + b)).toNatClampNeg)) ∧ (∀ g, g < ng → gJ τ 25 (3 * (16 * t + c) + g) = gJ τ 25 (3 * (16 * t + c) + g))
    rw [c2]
    obtain ⟨p1, p2, p3, p4, p5, p6, p7⟩ := h.2.2.2.2.2.2.2.1 cm c1
    refine ⟨c4, p4, fun b hb => ⟨(p6 b hb).2.1, ?_⟩, fun _ _ => rfl⟩
    obtain ⟨tg, t1, t2, t3, t4⟩ := c5 b hb
    rw [t4]; exact t3
/-- exploring, on both sides -/
theorem e_explore {σ τ : Sta} (h : CR nv ng nc nb pc σ τ) (h37 : gI τ 37 = 0) :
    (∃ σ' τ' e, f_X5_explore σ = some (e, σ') ∧ e ≠ 0 ∧ f_X10_explore τ = some (.inr (e, gI σ' 330), τ') ∧ Kx σ σ' ∧ Ky τ τ') ∨
    (∃ σ' τ' w, f_X5_explore σ = some (0, σ') ∧ f_X10_explore τ = some (.inl (), τ') ∧ Kx σ σ' ∧ Ky τ τ' ∧ AWok w ∧ AC w σ' ∧ AM w τ' ∧ 0 < aNs w ∧ aNg w = ng ∧ aNv w = nv ∧ gI σ' 330 = -1) := by
  have hnv := h.1.1
  obtain ⟨σ1, e1⟩ : ∃ σ1, σ1 = sA (sI (sI (sI σ 329 0) 330 (-1)) 322 0) 37 (va_cpy (gA σ 20) (gA σ 37) 0 0 6) := ⟨_, rfl⟩
  obtain ⟨σ2, e2⟩ : ∃ σ2, σ2 = sI (sA σ1 32 (va_cpy (gA σ1 37) (gA σ1 32) 0 0 6)) 322 1 := ⟨_, rfl⟩
  obtain ⟨τ1, f1⟩ : ∃ τ1, τ1 = sA τ 28 (va_cpy (gA τ 8) (gA τ 28) 0 0 6) := ⟨_, rfl⟩
  obtain ⟨τ2, f2⟩ : ∃ τ2, τ2 = sI (sA τ1 21 (va_cpy (gA τ1 28) (gA τ1 21) 0 0 6)) 37 1 := ⟨_, rfl⟩
  have K1 : Kx σ σ2 := by
    rw [e2, e1]
    exact Kp.sI (Or.inl rfl) (Kp.sA (Or.inl rfl) (Kp.sA (by unfold xA; omega) (Kp.sI (Or.inl rfl) (Kp.sI (Or.inr (Or.inr rfl)) (Kp.sI (Or.inr (Or.inl rfl)) Kp.rfl')))))
  have K2 : Ky τ τ2 := by
    rw [f2, f1]
    exact Kp.sI rfl (Kp.sA (Or.inl rfl) (Kp.sA (by unfold yA; omega) Kp.rfl'))
  have runC : f_X5_explore σ = f_X5_explore_40 FU 0 σ2 := by
    unfold f_X5_explore
    rw [lt_e, lt_e, lt_e, if_neg (by decide), lt_e]
    show bnd (f_X5_addNext (sA (sI (sI (sI σ 329 0) 330 (-1)) 322 0) 37 (va_cpy (gA σ 20) (gA σ 37) 0 0 6))) _ = _
    rw [← e1]
    have h322 : gI σ1 322 = 0 := by rw [e1, gI_sA, gI_sI, if_pos rfl]
    unfold f_X5_addNext
    rw [h322, if_pos (by decide), if_neg (by decide), lt_e, lt_e, bnd_s, gI_sA, h322, e2]
    rfl
  have runM : f_X10_explore τ = f_X10_explore_23 FU 0 τ2 := by
    unfold f_X10_explore
    rw [if_neg (by decide), lt_e]
    show bnw (f_X10_find 0 (sA τ 28 (va_cpy (gA τ 8) (gA τ 28) 0 0 6))) _ = _
    rw [← f1]
    have h37' : gI τ1 37 = 0 := by rw [f1, gI_sA]; exact h37
    have hf : f_X10_find 0 τ1 = some (.inl ((1 : Int32) - 1), τ2) := by
      unfold f_X10_find
      rw [show FU = 999999999 + 1 from rfl, f_X10_find_2, h37', if_pos (by decide), if_neg (by decide), if_neg (by decide), lt_e, lt_e, gI_sA, h37', f2, gI_sI, if_pos rfl]
      rfl
    rw [hf]
    rfl
  have hX : XS nv 1 σ2 τ2 := by
    refine ⟨by decide, by rw [e2, gI_sI, if_pos rfl]; rfl, by rw [f2, gI_sI, if_pos rfl]; rfl, fun t u ht hu => ?_⟩
    rw [e2, f2, gA_sI, gA_sA, if_pos rfl, gA_sI, gA_sA, if_pos rfl, cpy_at, cpy_at, if_pos (by omega), if_pos (by omega), e1, f1, gA_sA, if_pos rfl, gA_sA, if_pos rfl, cpy_at, cpy_at, if_pos (by omega), if_pos (by omega), show 0 + (0 + (t * 6 + u - 0) - 0) = u by omega, show 0 + (0 + (6 * t + u - 0) - 0) = u by omega]
    exact (h.2.2.2.2.1 u hu).1
  have h0 : E0 σ2 := by
    refine ⟨?_, ?_⟩
    · rw [e2, gI_sI, if_neg (by decide), gI_sA, e1, gI_sA, gI_sI, if_neg (by decide), gI_sI, if_neg (by decide), gI_sI, if_pos rfl]
    · rw [e2, gI_sI, if_neg (by decide), gI_sA, e1, gI_sA, gI_sI, if_neg (by decide), gI_sI, if_pos rfl]
  have h2 := CR_x K1 K2 h
  rw [runC, runM]
  rcases e_exp40 101 0 FU FU 1 σ2 τ2 rfl (Nat.le_of_lt (FU_lt (by decide))) (Nat.le_of_lt (FU_lt (by decide))) h2 hX (by omega) h0 (fun t ht => absurd ht (Nat.not_lt_zero _)) with ⟨σ', τ', e, b1, b2, b3, b4, b5⟩ | ⟨σ', τ', ns', b1, b2, b3, b4, b5, b6, b7, b8⟩
  · exact Or.inl ⟨σ', τ', e, b1, b2, b3, Kp.trans K1 b4, Kp.trans K2 b5⟩
  · obtain ⟨w1, w2, w3⟩ := e_world (CR_x b3 b4 h2) b6 b8
    exact Or.inr ⟨σ', τ', _, b1, b2, Kp.trans K1 b3, Kp.trans K2 b4, w1, w2, w3, (show 0 < ns' by omega), rfl, rfl, b7.2⟩
end WO
