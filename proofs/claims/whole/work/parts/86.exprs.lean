/-! Expressions: the form, all together. -/
def mLv (n : Nat) : Nat → Sta → Option ((Unit ⊕ (Int32 × Int32)) × Sta)
  | 0 => (fr_X10R n).1
  | 1 => (fr_X10R n).2.1
  | 2 => (fr_X10R n).2.2.1
  | 3 => (fr_X10R n).2.2.2.1
  | 4 => (fr_X10R n).2.2.2.2.1
  | _ => (fr_X10R n).2.2.2.2.2
section FA
variable {K : Nat → Nat} {m c L : Nat}
theorem f_all (hL : L < 5000) : ∀ n,
    (∀ l d t σ τ n', l ≤ 5 → d ≤ 8 → 8 * (8 - d) + 8 - l ≤ n → 6 * (8 - d) + 6 - l ≤ n' → BX K m c L t d σ τ → SF σ → gI τ 30 = 0 → RES K m c L n l d t σ τ ((fr_X1R n).1 (nI l) (nI d) σ) (mLv n' l τ)) ∧
    (∀ d t σ τ n', d ≤ 8 → 8 * (8 - d) + 2 ≤ n → 6 * (8 - d) + 1 ≤ n' → BX K m c L t d σ τ → SF σ → gI τ 30 = 0 → RES K m c L n 6 d t σ τ ((fr_X1R n).2.1 (nI d) σ) ((fr_X10R n').2.2.2.2.2 τ)) ∧
    (∀ d t σ τ n', d ≤ 8 → 8 * (8 - d) + 1 ≤ n → 6 * (8 - d) ≤ n' → BX K m c L t d σ τ → SF σ → gI τ 30 = 0 → RES K m c L n 7 d t σ τ ((fr_X1R n).2.2 (nI 1) (nI d) σ) (mB1 (fr_X10R n').1 τ) ∧ RES K m c L n 8 d t σ τ ((fr_X1R n).2.2 (nI 2) (nI d) σ) (mB2 (fr_X10R n').1 τ))
  | 0 => ⟨fun l d t σ τ n' h1 h2 h3 => by omega, fun d t σ τ n' h1 h2 => by omega, fun d t σ τ n' h1 h2 => by omega⟩
  | n + 1 => by
    obtain ⟨I1, I2, I3⟩ := f_all hL n
    refine ⟨fun l d t σ τ n' h1 h2 h3 h4 hB hS h30 => ?_, fun d t σ τ n' h2 h3 h4 hB hS h30 => ?_, fun d t σ τ n' h2 h3 h4 hB hS h30 => ?_⟩
    · by_cases q : l < 5
      · obtain ⟨n2, rfl⟩ : ∃ n2, n' = n2 + 1 := ⟨n' - 1, by omega⟩
        have HS : ∀ t σ τ, BX K m c L t d σ τ → SF σ → gI τ 30 = 0 → RES K m c L n (l + 1) d t σ τ ((fr_X1R n).1 (nI (l + 1)) (nI d) σ) (mLv n2 (l + 1) τ) := fun t σ τ a b e => I1 (l + 1) d t σ τ n2 (by omega) h2 (by omega) (by omega) a b e
        have hFU : 60 < FU := FU_lt (by decide)
        have : l = 0 ∨ l = 1 ∨ l = 2 ∨ l = 3 ∨ l = 4 := by omega
        rcases this with rfl | rfl | rfl | rfl | rfl
        · exact f_level (l := 0) (k0 := FU) (eC := eCF) (by decide) hL HS (M0 n2) (fun e => absurd e (by decide)) (fun e => absurd e (by decide)) (fun _ => hFU) hB hS h30
        · exact f_level (l := 1) (k0 := FU) (eC := eCF) (by decide) hL HS (M1 n2) (fun e => absurd e (by decide)) (fun e => absurd e (by decide)) (fun _ => hFU) hB hS h30
        · exact f_level (l := 2) (k0 := 1) (eC := eCF) (ML := RLm (mLv n2 3)) (by decide) hL HS M2 (fun _ _ => rfl) (fun _ => rfl) (fun e => absurd rfl e) hB hS h30
        · exact f_level (l := 3) (k0 := FU) (eC := eCF) (by decide) hL HS (M3 n2) (fun e => absurd e (by decide)) (fun e => absurd e (by decide)) (fun _ => hFU) hB hS h30
        · exact f_level (l := 4) (k0 := FU) (eC := eCF) (by decide) hL HS (M4 n2) (fun e => absurd e (by decide)) (fun e => absurd e (by decide)) (fun _ => hFU) hB hS h30
      · have hl : l = 5 := by omega
        subst hl
        have hC : (fr_X1R (n + 1)).1 (nI 5) (nI d) σ = bnd ((fr_X1R n).2.1 (nI d) σ) (fun _ σ7 => some ((), σ7)) := by
          show fb_X1_readLevel (fr_X1R n).1 (fr_X1R n).2.1 (fr_X1R n).2.2 (nI 5) (nI d) σ = _
          unfold fb_X1_readLevel
          rw [if_neg (by decide)]
        rw [hC]
        rcases I2 d t σ τ n' h2 (by omega) (by omega) hB hS h30 with ⟨σ1, τ1, t1, a1, a2, a3, a4, a5, a6, a7, a8⟩ | ⟨σ1, τ1, p, a1, a2, a3, a4, a5, a6⟩
        · exact Or.inl ⟨σ1, τ1, t1, by rw [a1, bnd_s], a2, a3, a4, a5, a6, a7, a8⟩
        · exact Or.inr ⟨σ1, τ1, p, by rw [a1, bnd_s], a2, a3, a4, a5, DD_mono a6 (fun e => absurd e (by decide))⟩
    · obtain ⟨n2, rfl⟩ : ∃ n2, n' = n2 + 1 := ⟨n' - 1, by omega⟩
      exact f_factor h2 (by omega) (fun q t σ τ a b e => I2 (d + 1) t σ τ n2 (by omega) (by omega) (by omega) a b e) (fun t σ τ a b e => I3 d t σ τ n2 h2 (by omega) (by omega) a b e) hB hS h30
    · exact f_br h2 (fun q => by omega) (fun q t σ τ a b e => I1 0 (d + 1) t σ τ n' (by omega) (by omega) (by omega) (by omega) a b e) hB hS h30
/-! outside of expressions -/
def xeI : Nat → Prop := fun q => q = 130 ∨ q = 133 ∨ q = 260 ∨ q = 261 ∨ q = 262 ∨ q = 263
def xeA : Nat → Prop := fun q => q = 14 ∨ q = 16 ∨ q = 17
def Kxe (σ σ' : Sta) : Prop := Kp xeI n0 xeA eJ σ σ'
theorem Ke_x {σ σ' : Sta} (h : Ke σ σ') : Kxe σ σ' := h.mono (fun k e => by unfold eI at e; unfold xeI; omega) (fun _ e => e) (fun k e => by unfold eA at e; unfold xeA; omega) (fun _ e => e)
/-- wrong, or before an operator that the reference has refused -/
def DU (K : Nat → Nat) (m c : Nat) (p : Int32) (σ : Sta) : Prop := (gI σ 262 = 1 ∧ gI σ 263 = p) ∨ ∃ t, gI σ 262 = 0 ∧ gI σ 260 = nI t ∧ t ≤ m ∧ gI σ 261 = nI c ∧ opL (K t) < 5 ∧ p = gA σ 12 t ∧ gA σ 11 t = nI (kC (K t)) ∧ KV (K t)
theorem TOK_x {m c : Nat} {σ τ σ' τ' : Sta} (h : TOK m c σ τ) (hc : Kxe σ σ') (hm : Kf τ τ') : TOK m c σ' τ' := by
  have e : tk τ' = tk τ := funext fun j => by unfold tk; rw [hm.2.2.1 3 (by unfold fA; omega)]
  refine ⟨h.1, h.2.1, h.2.2.1, by rw [hc.1 67 (by unfold xeI; omega)]; exact h.2.2.2.1, by rw [hm.1 4 (by unfold fI; omega)]; exact h.2.2.2.2.1, fun j hj => ?_, fun j hj => by rw [e]; exact h.2.2.2.2.2.2.1 j hj, by rw [e]; exact h.2.2.2.2.2.2.2⟩
  rw [e, hm.2.2.1 3 (by unfold fA; omega), hm.2.2.1 4 (by unfold fA; omega), hm.2.2.2.1 5 (by unfold fJ; omega), hc.2.2.1 11 (by unfold xeA; omega), hc.2.2.1 12 (by unfold xeA; omega), hc.2.2.2.1 13 (by unfold eJ; omega)]
  exact h.2.2.2.2.2.1 j hj
/-- an expression is begun -/
def begC (σ : Sta) (n x : Nat) : Sta := sI (sA (sA σ 16 (upd (gA σ 16) x (nI n))) 17 (upd (gA σ 17) x (nI n))) 133 (nI (x + 1))
theorem c_beginX {σ : Sta} {n x : Nat} (h2 : gI σ 130 = nI n) (h3 : x < 1500) (h4 : gI σ 133 = nI x) : f_X0_beginExpression σ = some (nI x, begC σ n x) := by
  unfold f_X0_beginExpression begC
  rw [h4, if_pos (show nI x < 1500 by rw [nI_ltL (by omega) (by decide)]; exact h3), if_neg (nI_in h3 (by decide)), lt_e, gI_sA, h4, if_neg (nI_in h3 (by decide)), lt_e, lt_e, gI_sA, gI_sA, gI_sA, h4, h2, nI_1, gI_sI, if_pos rfl, nI_pred, nI_clamp (by omega)]
  rfl
theorem c_begin {σ : Sta} (h : SF σ) : ∃ r σ', f_X0_beginExpression σ = some (r, σ') ∧ SF σ' ∧ Kxe σ σ' ∧ gI σ' 260 = gI σ 260 ∧ gI σ' 261 = gI σ 261 ∧ gI σ' 262 = gI σ 262 ∧ gI σ' 263 = gI σ 263 := by
  obtain ⟨⟨n, h1, h2⟩, ⟨x, h3, h4⟩, h5⟩ := h
  by_cases q : x < 1500
  · refine ⟨_, _, c_beginX h2 q h4, ⟨⟨n, h1, h2⟩, ⟨x + 1, by omega, rfl⟩, h5⟩, ?_, rfl, rfl, rfl, rfl⟩
    exact Kp.sI (by unfold xeI; omega) (Kp.sA (by unfold xeA; omega) (Kp.sA (by unfold xeA; omega) Kp.rfl'))
  · refine ⟨-1, σ, ?_, ⟨⟨n, h1, h2⟩, ⟨x, h3, h4⟩, h5⟩, Kp.rfl', rfl, rfl, rfl, rfl⟩
    unfold f_X0_beginExpression
    rw [h4, if_neg (show ¬ nI x < 1500 by rw [nI_ltL (by omega) (by decide)]; exact q)]
theorem f_expr {t : Nat} {σ τ : Sta} (hB : BX K m c 5000 t 0 σ τ) (hS : SF σ) (h30 : gI τ 30 = 0) :
    (∃ r σ' τ' t', f_X1_readExpression σ = some (r, σ') ∧ f_X10_whole τ = some (.inl (gI τ 26), τ') ∧ SF σ' ∧ Kxe σ σ' ∧ Kg τ τ' ∧ t < t' ∧ BX K m c 5000 t' 0 σ' τ' ∧ GX K (t + 60) 100 0 0 t t') ∨
    (∃ r σ' τ' p, f_X1_readExpression σ = some (r, σ') ∧ f_X10_whole τ = some (.inr (1, p), τ') ∧ SF σ' ∧ Kxe σ σ' ∧ Kg τ τ' ∧ DU K m c p σ') := by
  have hm := hB.1.1
  have htm := hB.2.2.1
  have hc := hB.1.2.1
  have hc2 := hB.1.2.2.1
  obtain ⟨h1, h2, h3, h4, h5, h6, h7, h8, h9, h10, h11, h12⟩ := hB
  have h67 := h1.2.2.2.1
  have hmin : (if gI σ 67 < gI σ 260 + 60 then gI σ 67 else gI σ 260 + 60) = nI (min (t + 60) c) := by
    rw [h67, h7, nI_addL]
    by_cases q : c < t + 60
    · rw [if_pos (nI_lt q (by omega)), show min (t + 60) c = c by omega]
    · rw [if_neg (nI_nlt (by omega) (by omega)), show min (t + 60) c = t + 60 by omega]
  obtain ⟨r, σ1, b1, b2, b3, b4, b5, b6, b7⟩ := c_begin (σ := sI σ 261 (nI (min (t + 60) c))) hS
  have k0 : Kxe σ (sI σ 261 (nI (min (t + 60) c))) := Kp.sI (by unfold xeI; omega) Kp.rfl'
  have k1 := Kp.trans k0 b3
  have kf : Kg τ (sI τ 32 60) := Kp.sI (by unfold g0I; omega) Kp.rfl'
  have hB1 : BX K m c (t + 60) t 0 σ1 (sI τ 32 60) := by
    refine ⟨TOK_x h1 k1 (Kg_f kf), h2, h3, by omega, Or.inl (Nat.le_refl _), by rw [b6]; exact h6, by rw [b4]; exact h7, h8, by rw [b5]; rfl, ?_, h11, ?_⟩
    · show (60 : Int32) = bud (t + 60) t
      unfold bud
      rw [if_neg (by omega), show t + 60 - t = 60 by omega]
      rfl
    · rw [k1.1 259 (by unfold xeI; omega), b7]
      exact h12
  have hR := (f_all (K := K) (m := m) (c := c) (L := t + 60) (by omega) 100).1 0 0 t σ1 (sI τ 32 60) 100 (by decide) (by decide) (by decide) (by decide) hB1 b2 h30
  have hC : f_X1_readExpression σ = bnd ((fr_X1R 100).1 (nI 0) (nI 0) σ1) (fun _ σ6 => some (r, sI σ6 261 (gI σ6 67))) := by
    unfold f_X1_readExpression
    rw [hmin, lt_e, b1, bnd_s]
    rfl
  have hM : f_X10_whole τ = bnw (mLv 100 0 (sI τ 32 60)) (fun _ σ4 => bnd (f_X10_emit 50 0 (sI σ4 32 (-1))) (fun _ σ8 => some (.inl (gI τ 26), σ8))) := rfl
  rw [hC, hM]
  rcases hR with ⟨σ2, τ2, t2, a1, a2, a3, a4, a5, a6, a7, a8⟩ | ⟨σ2, τ2, p, a1, a2, a3, a4, a5, a6⟩
  · have h32 : gI τ2 30 = 0 := (Kg_30 a5).trans h30
    have k2 : Kxe σ2 (sI σ2 261 (gI σ2 67)) := Kp.sI (by unfold xeI; omega) Kp.rfl'
    have kf2 : Kg τ2 (sI τ2 32 (-1)) := Kp.sI (by unfold g0I; omega) Kp.rfl'
    refine Or.inl ⟨r, sI σ2 261 (gI σ2 67), sI τ2 32 (-1), t2, by rw [a1, bnd_s], ?_, a3, Kp.trans k1 (Kp.trans (Ke_x a4) k2), Kp.trans kf (Kp.trans a5 kf2), a6, ?_, a8⟩
    · rw [a2, bnw_l, emit0 (show gI (sI τ2 32 (-1)) 30 = 0 from h32), bnd_s]
    · obtain ⟨c1, c2, c3, c4, c5, c6, c7, c8, c9, c10, c11, c12⟩ := a7
      refine ⟨TOK_x c1 k2 (Kg_f kf2), c2, c3, by omega, Or.inr rfl, c6, c7, c8, ?_, ?_, c11, c12⟩
      · show gI σ2 67 = _
        rw [c1.2.2.2.1, show min 5000 c = c by omega]
      · show (-1 : Int32) = bud 5000 t2
        rfl
  · refine Or.inr ⟨r, sI σ2 261 (gI σ2 67), τ2, p, by rw [a1, bnd_s], by rw [a2, bnw_r], a3, Kp.trans k1 (Kp.trans (Ke_x a4) (Kp.sI (by unfold xeI; omega) Kp.rfl')), Kp.trans kf a5, ?_⟩
    have hT2 := TOK_x h1 (Kp.trans k1 (Ke_x a4)) (Kg_f (Kp.trans kf a5))
    rcases a6 with ⟨e1, e2⟩ | ⟨e0, e1, e2, e3, e4, e5, e6⟩
    · exact Or.inl ⟨e1, e2⟩
    · have ek : ∀ j, tk τ2 j = K j := fun j => by
        have := h2 j
        unfold tk at this ⊢
        rw [(Kg_f (Kp.trans kf a5)).2.2.1 3 (by unfold fA; omega)]
        exact this
      have hj := hT2.2.2.2.2.2.1 (t + 60) (by omega)
      rw [ek] at hj
      exact Or.inr ⟨t + 60, e1, e3, e2, hT2.2.2.2.1, e4, e5, hj.2.2.1, hj.1⟩
end FA
