/-! Factors: what both sides do, by the kind of the first token. -/
section FS
variable {K : Nat → Nat} {m c L d t : Nat} {σ τ : Sta}
theorem mf_num (n : Nat) (h : BX K m c L t d σ τ) (q : K t = 201) : (fr_X10R (n + 1)).2.2.2.2.2 τ = bnd (f_X10_emit 0 (gJ τ 5 t) τ) (fun _ σ71 => bnw (f_X10_take σ71) (fun _ σ74 => some (.inl (), σ74))) := by
  have hm := h.1.1
  have ht := h.2.2.1
  show fb_X10_factor _ _ _ _ _ _ τ = _
  unfold fb_X10_factor f_X10_factor_258
  rw [m_isL h 201 201 rfl (by decide), bnd_s, if_pos q, ite10, h.2.2.2.2.2.2.2.1, if_neg (nI_in (by omega) (by omega)), nI_clamp (by omega)]
theorem mf_name (n : Nat) (h : BX K m c L t d σ τ) (q : K t = 200) : (fr_X10R (n + 1)).2.2.2.2.2 τ = bnw (f_X10_variableHere τ) (fun r60 σ61 => bnd (f_X10_emit 1 r60.toInt64 σ61) (fun _ σ64 => bnw (f_X10_take σ64) (fun _ σ67 => some (.inl (), σ67)))) := by
  show fb_X10_factor _ _ _ _ _ _ τ = _
  unfold fb_X10_factor f_X10_factor_258
  rw [m_isL h 201 201 rfl (by decide), bnd_s, if_neg (show ¬ K t = 201 by omega), ite00, m_isL h 200 200 rfl (by decide), bnd_s, if_pos q, ite10]
theorem mf_un (n : Nat) (h : BX K m c L t d σ τ) (q : K t = 107 ∨ K t = 13) : (fr_X10R (n + 1)).2.2.2.2.2 τ = bnw (f_X10_deeper τ) (fun _ σ2 => bnw (f_X10_take σ2) (fun _ σ5 => bnw ((fr_X10R n).2.2.2.2.2 σ5) (fun _ σ8 => lt (sI σ8 31 ((gI σ8 31) - 1)) (fun σ10 => bnd (f_X10_emit (if K t = 107 then 41 else 40) 0 σ10) (fun _ σ12 => some (.inl (), σ12)))))) := by
  show fb_X10_factor _ _ _ _ _ _ τ = _
  unfold fb_X10_factor
  rw [m_isL h 201 201 rfl (by decide), bnd_s, if_neg (show ¬ K t = 201 by omega), ite00, m_isL h 200 200 rfl (by decide), bnd_s, if_neg (show ¬ K t = 200 by omega), ite00, m_isL h 107 107 rfl (by decide), bnd_s]
  by_cases q1 : K t = 107
  · rw [if_pos q1, ite10]
    unfold f_X10_factor_76 f_X10_factor_92 f_X10_factor_258
    rw [m_isL h 107 107 rfl (by decide), bnd_s, if_pos q1, ite10, if_pos q1]
  · rw [if_neg q1, ite00, m_isL h 13 13 rfl (by decide), bnd_s, if_pos (show K t = 13 by omega), ite10]
    unfold f_X10_factor_76 f_X10_factor_92 f_X10_factor_258
    rw [m_isL h 107 107 rfl (by decide), bnd_s, if_neg q1, ite00, if_neg q1]
theorem mf_br (n : Nat) (h : BX K m c L t d σ τ) (q : K t = 100) : (fr_X10R (n + 1)).2.2.2.2.2 τ = bnw (mB1 (fr_X10R n).1 τ) (fun _ σ => some (.inl (), σ)) := by
  rw [mB1_k]
  show fb_X10_factor _ _ _ _ _ _ τ = _
  unfold fb_X10_factor f_X10_factor_258
  rw [m_isL h 201 201 rfl (by decide), bnd_s, if_neg (show ¬ K t = 201 by omega), ite00, m_isL h 200 200 rfl (by decide), bnd_s, if_neg (show ¬ K t = 200 by omega), ite00, m_isL h 107 107 rfl (by decide), bnd_s, if_neg (show ¬ K t = 107 by omega), ite00, m_isL h 13 13 rfl (by decide), bnd_s, if_neg (show ¬ K t = 13 by omega), ite00, m_isL h 100 100 rfl (by decide), bnd_s, if_pos q, ite10]
theorem mf_abs (n : Nat) (h : BX K m c L t d σ τ) (q : K t = 16) : (fr_X10R (n + 1)).2.2.2.2.2 τ = bnw (f_X10_take τ) (fun _ σ37 => bnw (mB1 (fr_X10R n).1 σ37) (fun _ σ46 => bnd (f_X10_emit 42 0 σ46) (fun _ σ49 => some (.inl (), σ49)))) := by
  have e : (fun (_ : Unit) σ37 => bnw (mB1 (fr_X10R n).1 σ37) (fun _ σ46 => bnd (f_X10_emit 42 0 σ46) (fun _ σ49 => some (Sum.inl (), σ49)))) = fun (_ : Unit) σ37 => bnw (f_X10_open σ37) (fun _ τ1 => bnw ((fr_X10R n).1 τ1) (fun _ τ2 => bnw (f_X10_close τ2) (fun _ σ46 => bnd (f_X10_emit 42 0 σ46) (fun _ σ49 => some (.inl (), σ49))))) := funext fun _ => funext fun σ37 => mB1_k _ _ _
  rw [e]
  show fb_X10_factor _ _ _ _ _ _ τ = _
  unfold fb_X10_factor f_X10_factor_258
  rw [m_isL h 201 201 rfl (by decide), bnd_s, if_neg (show ¬ K t = 201 by omega), ite00, m_isL h 200 200 rfl (by decide), bnd_s, if_neg (show ¬ K t = 200 by omega), ite00, m_isL h 107 107 rfl (by decide), bnd_s, if_neg (show ¬ K t = 107 by omega), ite00, m_isL h 13 13 rfl (by decide), bnd_s, if_neg (show ¬ K t = 13 by omega), ite00, m_isL h 100 100 rfl (by decide), bnd_s, if_neg (show ¬ K t = 100 by omega), ite00, m_isL h 16 16 rfl (by decide), bnd_s, if_pos q, ite10]
theorem mf_mm (n : Nat) (h : BX K m c L t d σ τ) (q : K t = 14 ∨ K t = 15) : (fr_X10R (n + 1)).2.2.2.2.2 τ = bnw (f_X10_take τ) (fun _ σ37 => bnw (mB2 (fr_X10R n).1 σ37) (fun _ σ46 => bnd (f_X10_emit (if K t = 14 then 32 else 33) 0 σ46) (fun _ σ49 => some (.inl (), σ49)))) := by
  have e : ∀ x : Int32, (fun (_ : Unit) σ37 => bnw (mB2 (fr_X10R n).1 σ37) (fun _ σ46 => bnd (f_X10_emit x 0 σ46) (fun _ σ49 => some (Sum.inl (), σ49)))) = fun (_ : Unit) σ37 => bnw (f_X10_open σ37) (fun _ τ1 => bnw ((fr_X10R n).1 τ1) (fun _ τ2 => bnw (f_X10_take_ 104 τ2) (fun _ τ3 => bnw ((fr_X10R n).1 τ3) (fun _ τ4 => bnw (f_X10_close τ4) (fun _ σ46 => bnd (f_X10_emit x 0 σ46) (fun _ σ49 => some (.inl (), σ49))))))) := fun x => funext fun _ => funext fun σ37 => mB2_k _ _ _
  rw [e]
  show fb_X10_factor _ _ _ _ _ _ τ = _
  unfold fb_X10_factor
  rw [m_isL h 201 201 rfl (by decide), bnd_s, if_neg (show ¬ K t = 201 by omega), ite00, m_isL h 200 200 rfl (by decide), bnd_s, if_neg (show ¬ K t = 200 by omega), ite00, m_isL h 107 107 rfl (by decide), bnd_s, if_neg (show ¬ K t = 107 by omega), ite00, m_isL h 13 13 rfl (by decide), bnd_s, if_neg (show ¬ K t = 13 by omega), ite00, m_isL h 100 100 rfl (by decide), bnd_s, if_neg (show ¬ K t = 100 by omega), ite00, m_isL h 16 16 rfl (by decide), bnd_s, if_neg (show ¬ K t = 16 by omega), ite00, m_isL h 14 14 rfl (by decide), bnd_s]
  by_cases q1 : K t = 14
  · rw [if_pos q1, ite10]
    unfold f_X10_factor_201 f_X10_factor_217 f_X10_factor_258
    rw [m_isL h 14 14 rfl (by decide), bnd_s, if_pos q1, ite10, if_pos q1]
  · rw [if_neg q1, ite00, m_isL h 15 15 rfl (by decide), bnd_s, if_pos (show K t = 15 by omega), ite10]
    unfold f_X10_factor_201 f_X10_factor_217 f_X10_factor_258
    rw [m_isL h 14 14 rfl (by decide), bnd_s, if_neg q1, ite00, if_neg q1]
theorem mf_no (n : Nat) (h : BX K m c L t d σ τ) (q : K t ≠ 201 ∧ K t ≠ 200 ∧ K t ≠ 107 ∧ K t ≠ 13 ∧ K t ≠ 100 ∧ K t ≠ 16 ∧ K t ≠ 14 ∧ K t ≠ 15) : (fr_X10R (n + 1)).2.2.2.2.2 τ = some (.inr (1, gA σ 12 t), τ) := by
  show fb_X10_factor _ _ _ _ _ _ τ = _
  unfold fb_X10_factor
  rw [m_isL h 201 201 rfl (by decide), bnd_s, if_neg q.1, ite00, m_isL h 200 200 rfl (by decide), bnd_s, if_neg q.2.1, ite00, m_isL h 107 107 rfl (by decide), bnd_s, if_neg q.2.2.1, ite00, m_isL h 13 13 rfl (by decide), bnd_s, if_neg q.2.2.2.1, ite00, m_isL h 100 100 rfl (by decide), bnd_s, if_neg q.2.2.2.2.1, ite00, m_isL h 16 16 rfl (by decide), bnd_s, if_neg q.2.2.2.2.2.1, ite00, m_isL h 14 14 rfl (by decide), bnd_s, if_neg q.2.2.2.2.2.2.1, ite00, m_isL h 15 15 rfl (by decide), bnd_s, if_neg q.2.2.2.2.2.2.2, ite00, m_wrong h, bnr_s]
theorem cf_cont (h : BX K m c L t d σ τ) (hk : K t < 203) : f_X7_contentOf (gI σ 260) σ = some (gJ τ 5 t, σ) := by
  have hm := h.1.1
  have ht := h.2.2.1
  have hc := h.1.2.1
  have hc2 := h.1.2.2.1
  unfold f_X7_contentOf f_X7_contentOf_22
  rw [h.2.2.2.2.2.2.1, if_neg (nI_pos (by omega)), h.1.2.2.2.1, if_neg (nI_ge (by omega) (by omega)), if_neg (nI_in (by omega) (by omega)), nI_clamp (by omega), (BX_K h ht).2.2.2.2.1 hk]
theorem cf_num (n : Nat) (h : BX K m c L t d σ τ) (q : K t = 201) (ht : t < L) : (fr_X1R (n + 1)).2.1 (nI d) σ = bnd (f_X0_add 274 (gJ τ 5 t) σ) (fun _ σ48 => some ((), sI σ48 260 ((gI σ48 260) + 1))) := by
  show fb_X1_readFactor _ _ _ (nI d) σ = _
  unfold fb_X1_readFactor f_X1_readFactor_275
  rw [c_look h, bnd_s, if_pos ht, q, if_neg (by decide), if_neg (by decide), if_neg (by decide), if_neg (by decide), if_neg (by decide), if_neg (by decide), if_neg (by decide), if_pos (by decide), cf_cont h (by omega), bnd_s]
  rfl
theorem cf_name (n : Nat) (h : BX K m c L t d σ τ) (q : K t = 200) (ht : t < L) : (fr_X1R (n + 1)).2.1 (nI d) σ = bnd (f_X4_variableNamed (gJ τ 5 t) σ) (fun r39 σ40 => if r39 < 0 then f_X1_readFactor_143 (fr_X1R n).1 (fr_X1R n).2.1 (fr_X1R n).2.2 r39 0 σ40 else f_X1_readFactor_143 (fr_X1R n).1 (fr_X1R n).2.1 (fr_X1R n).2.2 r39 1 σ40) := by
  show fb_X1_readFactor _ _ _ (nI d) σ = _
  unfold fb_X1_readFactor
  rw [c_look h, bnd_s, if_pos ht, q, if_neg (by decide), if_neg (by decide), if_neg (by decide), if_neg (by decide), if_neg (by decide), if_neg (by decide), if_pos (by decide), cf_cont h (by omega), bnd_s]
theorem cf_deep (h : BX K m c L t d σ τ) (hd : d ≤ 8) (ht : t < L) : f_X1_acceptDeeper (nI (kC (K t))) (nI d) σ = if d < 8 then some (1, sI σ 260 (nI (t + 1))) else some (0, erC σ 1 t) := by
  have hm := h.1.1
  have htm := h.2.2.1
  unfold f_X1_acceptDeeper f_X1_acceptDeeper_14
  rw [c_look h, bnd_s, if_pos ht, if_pos rfl]
  by_cases q : d < 8
  · rw [if_pos (by rw [nI_ltL (by omega) (by decide)]; omega), lt_e, h.2.2.2.2.2.2.1, nI_1, if_pos q]
  · rw [if_neg (by rw [nI_ltL (by omega) (by decide)]; omega), h.2.2.2.2.2.2.1, c_fail h.2.2.2.2.2.1 1 (by omega), bnd_s, if_neg q]
    rfl
theorem cf_un (n : Nat) (h : BX K m c L t d σ τ) (hd : d ≤ 8) (q : K t = 107 ∨ K t = 13) (ht : t < L) : (fr_X1R (n + 1)).2.1 (nI d) σ = if d < 8 then bnd ((fr_X1R n).2.1 (nI (d + 1)) (sI σ 260 (nI (t + 1)))) (fun _ σ14 => bnd (f_X0_add (if K t = 107 then 280 else 269) 0 σ14) (fun _ σ2 => some ((), σ2))) else some ((), erC σ 1 t) := by
  have hD := cf_deep h hd ht
  show fb_X1_readFactor _ _ _ (nI d) σ = _
  unfold fb_X1_readFactor f_X1_readFactor_275
  rw [c_look h, bnd_s, if_pos ht]
  rcases q with q | q
  · rw [q] at hD ⊢
    rw [if_neg (by decide), if_pos (by decide), hD]
    by_cases q2 : d < 8
    · rw [if_pos q2, bnd_s, ite10, nI_1, if_pos q2]
      rfl
    · rw [if_neg q2, bnd_s, ite00, if_neg q2]
  · rw [q] at hD ⊢
    rw [if_neg (by decide), if_neg (by decide), if_pos (by decide), hD]
    by_cases q2 : d < 8
    · rw [if_pos q2, bnd_s, ite10, nI_1, if_pos q2]
      rfl
    · rw [if_neg q2, bnd_s, ite00, if_neg q2]
theorem cf_br (n : Nat) (h : BX K m c L t d σ τ) (q : K t = 100) (ht : t < L) : (fr_X1R (n + 1)).2.1 (nI d) σ = bnd ((fr_X1R n).2.2 (nI 1) (nI d) σ) (fun _ σ6 => some ((), σ6)) := by
  show fb_X1_readFactor _ _ _ (nI d) σ = _
  unfold fb_X1_readFactor f_X1_readFactor_275
  rw [c_look h, bnd_s, if_pos ht, q, if_pos (by decide)]
  rfl
theorem cf_abs (n : Nat) (h : BX K m c L t d σ τ) (q : K t = 16) (ht : t < L) : (fr_X1R (n + 1)).2.1 (nI d) σ = bnd ((fr_X1R n).2.2 (nI 1) (nI d) (sI σ 260 (nI (t + 1)))) (fun _ σ2 => bnd (f_X0_add 272 0 σ2) (fun _ σ5 => some ((), σ5))) := by
  show fb_X1_readFactor _ _ _ (nI d) σ = _
  unfold fb_X1_readFactor f_X1_readFactor_275
  rw [c_look h, bnd_s, if_pos ht, q, if_neg (by decide), if_neg (by decide), if_neg (by decide), if_neg (by decide), if_neg (by decide), if_pos (by decide), lt_e, if_pos (by decide), h.2.2.2.2.2.2.1, nI_1]
  rfl
theorem cf_mm (n : Nat) (h : BX K m c L t d σ τ) (q : K t = 14 ∨ K t = 15) (ht : t < L) : (fr_X1R (n + 1)).2.1 (nI d) σ = bnd ((fr_X1R n).2.2 (nI 2) (nI d) (sI σ 260 (nI (t + 1)))) (fun _ σ2 => bnd (f_X0_add (nI (kC (K t))) 0 σ2) (fun _ σ5 => some ((), σ5))) := by
  show fb_X1_readFactor _ _ _ (nI d) σ = _
  unfold fb_X1_readFactor f_X1_readFactor_275
  rw [c_look h, bnd_s, if_pos ht]
  rcases q with q | q
  · rw [q, if_neg (by decide), if_neg (by decide), if_neg (by decide), if_pos (by decide), lt_e, if_neg (by decide), h.2.2.2.2.2.2.1, nI_1]
    rfl
  · rw [q, if_neg (by decide), if_neg (by decide), if_neg (by decide), if_neg (by decide), if_pos (by decide), lt_e, if_neg (by decide), h.2.2.2.2.2.2.1, nI_1]
    rfl
theorem cf_no1 (n : Nat) (x : Int32) (h : f_X1_look σ = some (x, σ)) (hx : x ≠ 40 ∧ x ≠ 45 ∧ x ≠ 269 ∧ x ≠ 270 ∧ x ≠ 271 ∧ x ≠ 272 ∧ x ≠ 273 ∧ x ≠ 274) (h0 : gI σ 262 = 0) (ht : t ≤ 1500) (ha : gI σ 260 = nI t) : (fr_X1R (n + 1)).2.1 (nI d) σ = some ((), erC σ 1 t) := by
  show fb_X1_readFactor _ _ _ (nI d) σ = _
  unfold fb_X1_readFactor f_X1_readFactor_275
  rw [h, bnd_s, if_neg hx.1, if_neg hx.2.1, if_neg hx.2.2.1, if_neg hx.2.2.2.1, if_neg hx.2.2.2.2.1, if_neg hx.2.2.2.2.2.1, if_neg hx.2.2.2.2.2.2.1, if_neg hx.2.2.2.2.2.2.2, ha, c_fail h0 1 ht, bnd_s]
  rfl
theorem kC_no0 : ∀ k, k < 204 → (k ∈ [201, 200, 107, 13, 100, 16, 14, 15]) ∨ ¬ KV k ∨ ((nI (kC k)) ∉ [(40 : Int32), 45, 269, 270, 271, 272, 273, 274]) := by decide +kernel
theorem kC_no (k : Nat) (h : k < 204) (hV : KV k) (q : k ≠ 201 ∧ k ≠ 200 ∧ k ≠ 107 ∧ k ≠ 13 ∧ k ≠ 100 ∧ k ≠ 16 ∧ k ≠ 14 ∧ k ≠ 15) : (nI (kC k) ≠ 40 ∧ nI (kC k) ≠ 45 ∧ nI (kC k) ≠ 269 ∧ nI (kC k) ≠ 270 ∧ nI (kC k) ≠ 271 ∧ nI (kC k) ≠ 272 ∧ nI (kC k) ≠ 273 ∧ nI (kC k) ≠ 274) := by
  rcases kC_no0 k h with a | a | a
  · simp only [List.mem_cons, List.not_mem_nil, or_false] at a
    omega
  · exact absurd hV a
  · simp only [List.mem_cons, List.not_mem_nil, or_false, not_or] at a
    exact a
theorem cf_no (n : Nat) (h : BX K m c L t d σ τ) (q : ¬ t < L ∨ (K t ≠ 201 ∧ K t ≠ 200 ∧ K t ≠ 107 ∧ K t ≠ 13 ∧ K t ≠ 100 ∧ K t ≠ 16 ∧ K t ≠ 14 ∧ K t ≠ 15)) : (fr_X1R (n + 1)).2.1 (nI d) σ = some ((), erC σ 1 t) := by
  have hm := h.1.1
  have ht := h.2.2.1
  refine cf_no1 n _ (c_look h) ?_ h.2.2.2.2.2.1 (by omega) h.2.2.2.2.2.2.1
  by_cases q2 : t < L
  · rw [if_pos q2]
    exact kC_no (K t) (BX_op h) (BX_K h ht).1 (q.resolve_left (fun e => e q2))
  · rw [if_neg q2]
    decide
end FS
