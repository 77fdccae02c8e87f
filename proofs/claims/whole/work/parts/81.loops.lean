/-! The reference's loops of each level, as steps. -/
section FW
variable {K : Nat → Nat} {m c L d : Nat}
theorem m_isL {t : Nat} {σ τ : Sta} (h : BX K m c L t d σ τ) (k : Nat) (a : Int32) (ha : a = nI k) (hk : k < 2 ^ 31) : f_X10_is a τ = some (if K t = k then 1 else 0, τ) := by rw [ha]; exact m_is h hk
/-- a relation, with what follows -/
def RL83 (ms : Sta → Option ((Unit ⊕ (Int32 × Int32)) × Sta)) (tail : Sta → Option ((Unit ⊕ (Int32 × Int32)) × Sta)) (s0 : Int32) (σ : Sta) : Option ((Unit ⊕ (Int32 × Int32)) × Sta) :=
  if s0 = -1 then some (.inl (), σ) else bnw (f_X10_take σ) (fun _ σ3 => bnw (ms σ3) (fun _ σ6 => bnd (f_X10_emit (20 + s0) 0 σ6) (fun _ σ9 => tail σ9)))
def RLm (ms : Sta → Option ((Unit ⊕ (Int32 × Int32)) × Sta)) : Nat → Sta → Option ((Unit ⊕ (Int32 × Int32)) × Sta)
  | 0, σ => some (.inl (), σ)
  | k + 1, σ2 => bnd (f_X10_is 105 σ2) (fun r4 σ5 =>
  if r4 = 0 then
    bnd (f_X10_is 115 σ5) (fun r8 σ9 =>
    if r8 = 0 then
      bnd (f_X10_is 111 σ9) (fun r12 σ13 =>
      if r12 = 0 then
        bnd (f_X10_is 112 σ13) (fun r16 σ17 =>
        if r16 = 0 then
          bnd (f_X10_is 113 σ17) (fun r20 σ21 =>
          if r20 = 0 then
            bnd (f_X10_is 114 σ21) (fun r24 σ25 =>
            if r24 = 0 then
              RL83 ms (RLm ms k) (-1) σ25
            else
              RL83 ms (RLm ms k) 5 σ25)
          else
            RL83 ms (RLm ms k) 4 σ21)
        else
          RL83 ms (RLm ms k) 3 σ17)
      else
        RL83 ms (RLm ms k) 2 σ13)
    else
      RL83 ms (RLm ms k) 1 σ9)
  else
    RL83 ms (RLm ms k) 0 σ5)
theorem RLm_rel (n : Nat) (τ : Sta) : (fr_X10R (n + 1)).2.2.1 τ = bnw ((fr_X10R n).2.2.2.1 τ) (fun _ τ2 => RLm (fr_X10R n).2.2.2.1 1 τ2) := rfl
variable {ms : Sta → Option ((Unit ⊕ (Int32 × Int32)) × Sta)} {t : Nat} {σ τ : Sta}
theorem M0 (n : Nat) : ∀ k t σ τ, BX K m c L t d σ τ → f_X10_expression_4 (fr_X10R n).1 (fr_X10R n).2.1 (fr_X10R n).2.2.1 (fr_X10R n).2.2.2.1 (fr_X10R n).2.2.2.2.1 (fr_X10R n).2.2.2.2.2 (k + 1) τ = if opL (K t) = 0 then bnw (f_X10_take τ) (fun _ τ1 => bnw ((fr_X10R n).2.1 τ1) (fun _ τ2 => bnd (f_X10_emit (eCF (K t)) 0 τ2) (fun _ τ3 => f_X10_expression_4 (fr_X10R n).1 (fr_X10R n).2.1 (fr_X10R n).2.2.1 (fr_X10R n).2.2.2.1 (fr_X10R n).2.2.2.2.1 (fr_X10R n).2.2.2.2.2 k τ3))) else some (.inl (), τ) := fun k t σ τ h => by
  rw [f_X10_expression_4, m_isL h 12 12 rfl (by decide), bnd_s]
  by_cases q : K t = 12
  · rw [if_pos q, if_neg (by decide), if_pos (opL_0.mpr q), q]
    rfl
  · rw [if_neg q, if_pos rfl, if_neg (fun e => q (opL_0.mp e))]
theorem M1 (n : Nat) : ∀ k t σ τ, BX K m c L t d σ τ → f_X10_both_4 (fr_X10R n).1 (fr_X10R n).2.1 (fr_X10R n).2.2.1 (fr_X10R n).2.2.2.1 (fr_X10R n).2.2.2.2.1 (fr_X10R n).2.2.2.2.2 (k + 1) τ = if opL (K t) = 1 then bnw (f_X10_take τ) (fun _ τ1 => bnw ((fr_X10R n).2.2.1 τ1) (fun _ τ2 => bnd (f_X10_emit (eCF (K t)) 0 τ2) (fun _ τ3 => f_X10_both_4 (fr_X10R n).1 (fr_X10R n).2.1 (fr_X10R n).2.2.1 (fr_X10R n).2.2.2.1 (fr_X10R n).2.2.2.2.1 (fr_X10R n).2.2.2.2.2 k τ3))) else some (.inl (), τ) := fun k t σ τ h => by
  have hT := (opL_tab (K t) (BX_op h)).1
  rw [f_X10_both_4, m_isL h 11 11 rfl (by decide), bnd_s]
  by_cases q : K t = 11
  · rw [if_pos q, if_neg (by decide), if_pos (hT.mpr q), q]
    rfl
  · rw [if_neg q, if_pos rfl, if_neg (fun e => q (hT.mp e))]
theorem M2 : ∀ k t σ τ, BX K m c L t d σ τ → RLm ms (k + 1) τ = if opL (K t) = 2 then bnw (f_X10_take τ) (fun _ τ1 => bnw (ms τ1) (fun _ τ2 => bnd (f_X10_emit (eCF (K t)) 0 τ2) (fun _ τ3 => RLm ms k τ3))) else some (.inl (), τ) := fun k t σ τ h => by
  have hT := (opL_tab (K t) (BX_op h)).2.1
  rw [RLm, m_isL h 105 105 rfl (by decide), bnd_s]
  by_cases q1 : K t = 105
  · rw [if_pos q1, if_neg (by decide), if_pos (hT.mpr (by omega)), q1]
    rfl
  rw [if_neg q1, if_pos rfl, m_isL h 115 115 rfl (by decide), bnd_s]
  by_cases q2 : K t = 115
  · rw [if_pos q2, if_neg (by decide), if_pos (hT.mpr (by omega)), q2]
    rfl
  rw [if_neg q2, if_pos rfl, m_isL h 111 111 rfl (by decide), bnd_s]
  by_cases q3 : K t = 111
  · rw [if_pos q3, if_neg (by decide), if_pos (hT.mpr (by omega)), q3]
    rfl
  rw [if_neg q3, if_pos rfl, m_isL h 112 112 rfl (by decide), bnd_s]
  by_cases q4 : K t = 112
  · rw [if_pos q4, if_neg (by decide), if_pos (hT.mpr (by omega)), q4]
    rfl
  rw [if_neg q4, if_pos rfl, m_isL h 113 113 rfl (by decide), bnd_s]
  by_cases q5 : K t = 113
  · rw [if_pos q5, if_neg (by decide), if_pos (hT.mpr (by omega)), q5]
    rfl
  rw [if_neg q5, if_pos rfl, m_isL h 114 114 rfl (by decide), bnd_s]
  by_cases q6 : K t = 114
  · rw [if_pos q6, if_neg (by decide), if_pos (hT.mpr (by omega)), q6]
    rfl
  rw [if_neg q6, if_pos rfl, if_neg (fun e => by have := hT.mp e; omega)]
  rfl
theorem M3 (n : Nat) : ∀ k t σ τ, BX K m c L t d σ τ → f_X10_sum_4 (fr_X10R n).1 (fr_X10R n).2.1 (fr_X10R n).2.2.1 (fr_X10R n).2.2.2.1 (fr_X10R n).2.2.2.2.1 (fr_X10R n).2.2.2.2.2 (k + 1) τ = if opL (K t) = 3 then bnw (f_X10_take τ) (fun _ τ1 => bnw ((fr_X10R n).2.2.2.2.1 τ1) (fun _ τ2 => bnd (f_X10_emit (eCF (K t)) 0 τ2) (fun _ τ3 => f_X10_sum_4 (fr_X10R n).1 (fr_X10R n).2.1 (fr_X10R n).2.2.1 (fr_X10R n).2.2.2.1 (fr_X10R n).2.2.2.2.1 (fr_X10R n).2.2.2.2.2 k τ3))) else some (.inl (), τ) := fun k t σ τ h => by
  have hT := (opL_tab (K t) (BX_op h)).2.2.1
  have hm := h.1.1
  have ht := h.2.2.1
  rw [f_X10_sum_4, m_isL h 106 106 rfl (by decide), bnd_s]
  by_cases q1 : K t = 106
  · rw [if_pos q1, if_neg (by decide), if_pos (hT.mpr (by omega))]
    unfold f_X10_sum_22
    rw [h.2.2.2.2.2.2.2.1, if_neg (nI_in (by omega) (by omega)), nI_clamp (by omega), (BX_K h ht).2.1, q1, lt_e]
    rfl
  rw [if_neg q1, if_pos rfl, m_isL h 107 107 rfl (by decide), bnd_s]
  by_cases q2 : K t = 107
  · rw [if_pos q2, if_neg (by decide), if_pos (hT.mpr (by omega))]
    unfold f_X10_sum_22
    rw [h.2.2.2.2.2.2.2.1, if_neg (nI_in (by omega) (by omega)), nI_clamp (by omega), (BX_K h ht).2.1, q2, lt_e]
    rfl
  rw [if_neg q2, if_pos rfl, if_neg (fun e => by have := hT.mp e; omega)]
theorem M4 (n : Nat) : ∀ k t σ τ, BX K m c L t d σ τ → f_X10_product_4 (fr_X10R n).1 (fr_X10R n).2.1 (fr_X10R n).2.2.1 (fr_X10R n).2.2.2.1 (fr_X10R n).2.2.2.2.1 (fr_X10R n).2.2.2.2.2 (k + 1) τ = if opL (K t) = 4 then bnw (f_X10_take τ) (fun _ τ1 => bnw ((fr_X10R n).2.2.2.2.2 τ1) (fun _ τ2 => bnd (f_X10_emit (eCF (K t)) 0 τ2) (fun _ τ3 => f_X10_product_4 (fr_X10R n).1 (fr_X10R n).2.1 (fr_X10R n).2.2.1 (fr_X10R n).2.2.2.1 (fr_X10R n).2.2.2.2.1 (fr_X10R n).2.2.2.2.2 k τ3))) else some (.inl (), τ) := fun k t σ τ h => by
  have hT := (opL_tab (K t) (BX_op h)).2.2.2
  have hm := h.1.1
  have ht := h.2.2.1
  have hK := BX_op h
  rw [f_X10_product_4, h.2.2.2.2.2.2.2.1, if_neg (nI_in (by omega) (by omega)), nI_clamp (by omega), (BX_K h ht).2.1, e_isIn, bnd_s, nI_l (by omega)]
  by_cases q : 108 ≤ K t ∧ K t ≤ 110
  · rw [if_pos (show ((108 : Int64) ≤ lN (K t) ∧ lN (K t) ≤ (110 : Int64)) from (lN_rng (lo := 108) (hi := 110) (by omega) (by decide) (by decide)).mpr q), if_neg (by decide), if_pos (hT.mpr q), h.2.2.2.2.2.2.2.1, if_neg (nI_in (by omega) (by omega)), nI_clamp (by omega), (BX_K h ht).2.1, lt_e]
    have e : (10 : Int32) + (nI (K t) - 106) = eCF (K t) := by
      have : K t = 108 ∨ K t = 109 ∨ K t = 110 := by omega
      rcases this with e | e | e <;> rw [e] <;> decide
    rw [e]
  · rw [if_neg (show ¬ ((108 : Int64) ≤ lN (K t) ∧ lN (K t) ≤ (110 : Int64)) from fun e => q ((lN_rng (lo := 108) (hi := 110) (by omega) (by decide) (by decide)).mp e)), if_pos rfl, if_neg (fun e => q (hT.mp e))]
end FW
