/-! Brackets: the form. -/
def kI (x : Nat) : Nat := if 256 ≤ x ∧ x < 273 then x - 256 else if x = 40 then 100 else if x = 41 then 101 else if x = 59 then 102 else if x = 44 then 104 else if x = 61 then 105 else if x = 43 then 106 else if x = 45 then 107 else if x = 42 then 108 else if x = 47 then 109 else if x = 37 then 110 else if x = 60 then 111 else if x = 62 then 112 else if x = 275 then 113 else if x = 276 then 114 else if x = 277 then 115 else if x = 273 then 200 else if x = 274 then 201 else if x = 278 then 202 else 203
theorem kI_tab : ∀ k, k < 204 → KV k → kC k < 280 ∧ ((k = 103 ∧ kC k = 279) ∨ (k = 203 ∧ kC k = 279) ∨ (kI (kC k) = k ∧ kC k ≠ 279)) := by decide +kernel
theorem kC_eq {k k0 : Nat} (hk : KV k) (h0 : KV k0) (h1 : k0 ≠ 103) (h2 : k0 ≠ 203) : nI (kC k) = nI (kC k0) ↔ k = k0 := by
  obtain ⟨a1, a2⟩ := kI_tab k (by omega) hk
  obtain ⟨b1, b2⟩ := kI_tab k0 (by omega) h0
  rw [nI_eq (by omega) (by omega)]
  refine ⟨fun e => ?_, fun e => by rw [e]⟩
  rcases b2 with b | b | ⟨b, b3⟩
  · exact absurd b.1 h1
  · exact absurd b.1 h2
  · rcases a2 with a | a | ⟨a, a3⟩
    · exact absurd (e ▸ a.2) b3
    · exact absurd (e ▸ a.2) b3
    · rw [← a, e, b]
theorem kC_279 {k0 : Nat} (h0 : KV k0) (h1 : k0 ≠ 103) (h2 : k0 ≠ 203) : ¬ (279 : Int32) = nI (kC k0) := fun e => by
  obtain ⟨b1, b2⟩ := kI_tab k0 (by omega) h0
  have : kC k0 = 279 := ((nI_eq (a := 279) (by decide) (by omega)).mp e).symm
  omega
section FB
variable {K : Nat → Nat} {m c L d t : Nat} {σ τ : Sta}
def erC (σ : Sta) (e : Int32) (t : Nat) : Sta := sI (sI σ 262 e) 263 (gA σ 12 t)
theorem Ke_er (σ : Sta) (e : Int32) (t : Nat) : Ke σ (erC σ e t) := Kp.sI (by unfold eI; omega) (Kp.sI (by unfold eI; omega) Kp.rfl')
theorem Ke_at (σ : Sta) (x : Int32) : Ke σ (sI σ 260 x) := Kp.sI (by unfold eI; omega) Kp.rfl'
theorem f_exp {k0 : Nat} (h : BX K m c L t d σ τ) (hk0 : KV k0) (h1 : k0 ≠ 103) (h2 : k0 < 202) (a b : Int32) (ha : a = nI (kC k0)) (hb : b = nI k0) :
    (K t = k0 ∧ t < L ∧ f_X1_expect a σ = some (nI t, sI σ 260 (nI (t + 1))) ∧ f_X10_take_ b τ = some (.inl (), tkM τ L t) ∧ BX K m c L (t + 1) d (sI σ 260 (nI (t + 1))) (tkM τ L t)) ∨
    (¬ (K t = k0 ∧ t < L) ∧ f_X1_expect a σ = some (nI t, erC σ 1 t) ∧ f_X10_take_ b τ = some (.inr (1, gA σ 12 t), τ)) := by
  subst ha
  subst hb
  have hm := h.1.1
  have ht := h.2.2.1
  have hV := (BX_K h ht).1
  unfold f_X1_expect f_X1_expect_32 f_X10_take_
  rw [h.2.2.2.2.2.2.1, lt_e, c_look h, bnd_s, m_is h (by omega), bnd_s]
  by_cases q : K t = k0
  · by_cases q2 : t < L
    · refine Or.inl ⟨q, q2, ?_, ?_, BX_take h (BX_m h (by omega)) q2⟩
      · rw [if_pos q2, if_pos (by rw [q]), lt_e, h.2.2.2.2.2.2.1, nI_1]
      · rw [if_pos q, if_neg (by decide), m_take h, if_pos q2, bnw_l]
    · refine Or.inr ⟨fun e => q2 e.2, ?_, ?_⟩
      · rw [if_neg q2, if_neg (kC_279 hk0 h1 (by omega)), c_fail h.2.2.2.2.2.1 1 (by omega), bnd_s]; rfl
      · rw [if_pos q, if_neg (by decide), m_take h, if_neg q2, bnw_r]
  · refine Or.inr ⟨fun e => q e.1, ?_, ?_⟩
    · by_cases q2 : t < L
      · rw [if_pos q2, if_neg (fun e => q ((kC_eq hV hk0 h1 (by omega)).mp e)), c_fail h.2.2.2.2.2.1 1 (by omega), bnd_s]; rfl
      · rw [if_neg q2, if_neg (kC_279 hk0 h1 (by omega)), c_fail h.2.2.2.2.2.1 1 (by omega), bnd_s]; rfl
    · rw [if_neg q, if_pos rfl, m_wrong h, bnr_s]
theorem exp_sk {σ : Sta} (h : gI σ 262 ≠ 0) {a : Int32} (ha : ¬ 279 = a) : f_X1_expect a σ = some (gI σ 260, σ) := by
  unfold f_X1_expect f_X1_expect_32
  rw [lt_e, c_look_sk h, bnd_s, if_neg ha, c_fail_sk h, bnd_s]
theorem DD_exp {l : Nat} {p : Int32} {σ : Sta} (hm : m ≤ 1500) (h : DD K m c L l p σ) {a : Int32} (ha : ¬ 279 = a) : ∃ r σ', f_X1_expect a σ = some (r, σ') ∧ gI σ' 262 = 1 ∧ gI σ' 263 = p ∧ Ke σ σ' ∧ (SF σ → SF σ') := by
  rcases h with ⟨h1, h2⟩ | ⟨h0, h1, h2, h3, h4, h5, h6⟩
  · exact ⟨_, σ, exp_sk (by rw [h1]; decide) ha, h1, h2, Kp.rfl', fun e => e⟩
  · refine ⟨nI L, erC σ 1 L, ?_, rfl, h5.symm, Ke_er _ _ _, fun e => e⟩
    unfold f_X1_expect f_X1_expect_32
    rw [lt_e, DD_look hm (Or.inr ⟨h0, h1, h2, h3, h4, h5, h6⟩), bnd_s, if_neg ha, h3, c_fail h1 1 (by omega), bnd_s]
    rfl
theorem BX_dep (d' : Nat) (h : BX K m c L t d σ τ) : BX K m c L t d' σ (sI τ 31 (nI d')) :=
  ⟨TOK_k h.1 Kp.rfl' (Kp.sI (by unfold fI; omega) Kp.rfl'), h.2.1, h.2.2.1, h.2.2.2.1, h.2.2.2.2.1, h.2.2.2.2.2.1, h.2.2.2.2.2.2.1, h.2.2.2.2.2.2.2.1, h.2.2.2.2.2.2.2.2.1, h.2.2.2.2.2.2.2.2.2.1, rfl, h.2.2.2.2.2.2.2.2.2.2.2⟩
theorem m_deep (h : BX K m c L t d σ τ) (hd : d ≤ 8) : f_X10_deeper τ = if d < 8 then some (.inl (), sI τ 31 (nI (d + 1))) else some (.inr (1, gA σ 12 t), τ) := by
  unfold f_X10_deeper
  rw [h.2.2.2.2.2.2.2.2.2.2.1]
  by_cases q : d < 8
  · rw [if_neg (by rw [nI_eqL (by omega) (by decide)]; omega), lt_e, nI_1, if_pos q]
  · rw [if_pos (by rw [nI_eqL (by omega) (by decide)]; omega), m_wrong h, bnr_s, if_neg q]
theorem f_open (h : BX K m c L t d σ τ) (hd : d ≤ 8) :
    (K t = 100 ∧ t < L ∧ d < 8 ∧ f_X1_acceptDeeper 40 (nI d) σ = some (1, sI σ 260 (nI (t + 1))) ∧ ∃ τ1, f_X10_open τ = some (.inl (), τ1) ∧ Kg τ τ1 ∧ BX K m c L (t + 1) (d + 1) (sI σ 260 (nI (t + 1))) τ1) ∨
    (f_X1_acceptDeeper 40 (nI d) σ = some (0, erC σ 1 t) ∧ ∃ τ1, f_X10_open τ = some (.inr (1, gA σ 12 t), τ1) ∧ Kg τ τ1) := by
  have hm := h.1.1
  have ht := h.2.2.1
  have hV := (BX_K h ht).1
  have hne : ∀ x, x = (if t < L then nI (kC (K t)) else 279) → ¬ (K t = 100 ∧ t < L) → ¬ x = 40 := fun x hx hn e => by
    rw [hx] at e
    by_cases q2 : t < L
    · rw [if_pos q2] at e
      exact hn ⟨(kC_eq (k0 := 100) hV (Or.inr (Or.inl ⟨by decide, by decide⟩)) (by decide) (by decide)).mp e, q2⟩
    · rw [if_neg q2] at e
      exact absurd e (by decide)
  unfold f_X1_acceptDeeper f_X1_acceptDeeper_14 f_X10_open
  rw [c_look h, bnd_s, m_isL h 100 100 rfl (by decide), bnd_s]
  by_cases q : K t = 100
  · rw [if_pos q, ite10, m_deep h hd]
    by_cases q3 : d < 8
    · have h' := BX_dep (d + 1) h
      have hf : Kg τ (sI τ 31 (nI (d + 1))) := Kp.sI (by unfold g0I; omega) Kp.rfl'
      rw [if_pos q3, bnw_l, m_take h']
      by_cases q2 : t < L
      · refine Or.inl ⟨q, q2, q3, ?_, tkM (sI τ 31 (nI (d + 1))) L t, ?_, Kg_take hf, BX_take h' (BX_m h (by omega)) q2⟩
        · rw [if_pos q2, q, if_pos (show nI (kC 100) = 40 from rfl), if_pos (by rw [nI_ltL (by omega) (by decide)]; omega), lt_e, h.2.2.2.2.2.2.1, nI_1]
        · rw [if_pos q2, bnw_l]
      · refine Or.inr ⟨?_, _, by rw [if_neg q2, bnw_r], hf⟩
        rw [if_neg (hne _ rfl (fun e => q2 e.2)), h.2.2.2.2.2.2.1, c_fail h.2.2.2.2.2.1 1 (by omega), bnd_s]; rfl
    · refine Or.inr ⟨?_, τ, by rw [if_neg q3, bnw_r], Kp.rfl'⟩
      by_cases q2 : t < L
      · rw [if_pos q2, q, if_pos (show nI (kC 100) = 40 from rfl), if_neg (show ¬ nI d < 8 by rw [nI_ltL (by omega) (by decide)]; omega), h.2.2.2.2.2.2.1, c_fail h.2.2.2.2.2.1 1 (by omega), bnd_s]; rfl
      · rw [if_neg (hne _ rfl (fun e => q2 e.2)), h.2.2.2.2.2.2.1, c_fail h.2.2.2.2.2.1 1 (by omega), bnd_s]; rfl
  · refine Or.inr ⟨?_, τ, by rw [if_neg q, ite00, m_wrong h, bnr_s], Kp.rfl'⟩
    rw [if_neg (hne _ rfl (fun e => q e.1)), h.2.2.2.2.2.2.1, c_fail h.2.2.2.2.2.1 1 (by omega), bnd_s]; rfl
theorem f_close (h : BX K m c L t (d + 1) σ τ) :
    (K t = 101 ∧ t < L ∧ f_X1_expect 41 σ = some (nI t, sI σ 260 (nI (t + 1))) ∧ ∃ τ1, f_X10_close τ = some (.inl (), τ1) ∧ Kg τ τ1 ∧ BX K m c L (t + 1) d (sI σ 260 (nI (t + 1))) τ1) ∨
    (f_X1_expect 41 σ = some (nI t, erC σ 1 t) ∧ f_X10_close τ = some (.inr (1, gA σ 12 t), τ)) := by
  unfold f_X10_close
  rcases f_exp (k0 := 101) h (Or.inr (Or.inl ⟨by decide, by decide⟩)) (by decide) (by decide) 41 101 rfl rfl with ⟨a1, a2, a3, a4, a5⟩ | ⟨a1, a2, a3⟩
  · refine Or.inl ⟨a1, a2, a3, sI (tkM τ L t) 31 (nI d), ?_, Kp.sI (by unfold g0I; omega) (Kg_take Kp.rfl'), BX_dep d a5⟩
    rw [a4, bnw_l, lt_e, a5.2.2.2.2.2.2.2.2.2.2.1, nI_pred]
  · exact Or.inr ⟨a2, by rw [a3, bnw_r]⟩
end FB
