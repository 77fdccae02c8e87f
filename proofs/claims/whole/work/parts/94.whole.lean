/-! Outside of expressions: accepting, whole numbers (in both passes). -/
def hI : Nat → Prop := fun q => 29 ≤ q ∧ q ≤ 34 ∧ q ≠ 30
def hA : Nat → Prop := fun q => q = 17 ∨ q = 18
/-- what the reference's form pass may change -/
def Kh (τ τ' : Sta) : Prop := Kp hI n0 hA n0 τ τ'
theorem Kg_h {τ τ' : Sta} (h : Kg τ τ') : Kh τ τ' := h.mono (fun k e => by unfold g0I at e; unfold hI; omega) (fun _ e => e) (fun _ e => e.elim) (fun _ e => e)
theorem Kh_30 {τ τ' : Sta} (h : Kh τ τ') : gI τ' 30 = gI τ 30 := h.1 30 (by unfold hI; omega)
theorem TOK_h {m c : Nat} {σ τ σ' τ' : Sta} (h : TOK m c σ τ) (hc : Kxe σ σ') (hm : Kh τ τ') : TOK m c σ' τ' ∧ tk τ' = tk τ := by
  have e : tk τ' = tk τ := funext fun j => by unfold tk; rw [hm.2.2.1 3 (by unfold hA; omega)]
  refine ⟨⟨h.1, h.2.1, h.2.2.1, by rw [hc.1 67 (by unfold xeI; omega)]; exact h.2.2.2.1, by rw [hm.1 4 (by unfold hI; omega)]; exact h.2.2.2.2.1, fun j hj => ?_, fun j hj => by rw [e]; exact h.2.2.2.2.2.2.1 j hj, by rw [e]; exact h.2.2.2.2.2.2.2⟩, e⟩
  rw [e, hm.2.2.1 3 (by unfold hA; omega), hm.2.2.1 4 (by unfold hA; omega), hm.2.2.2.1 5 id, hc.2.2.1 11 (by unfold xeA; omega), hc.2.2.1 12 (by unfold xeA; omega), hc.2.2.2.1 13 (by unfold eJ; omega)]
  exact h.2.2.2.2.2.1 j hj
section WH
variable {K : Nat → Nat} {m c t d : Nat} {σ τ : Sta}
/-- the reference's own notes change -/
theorem BX_h {L : Nat} {τ' : Sta} (h : BX K m c L t d σ τ) (hm : Kh τ τ') (h29 : gI τ' 29 = gI τ 29) (h31 : gI τ' 31 = gI τ 31) (h32 : gI τ' 32 = gI τ 32) : BX K m c L t d σ τ' := by
  obtain ⟨h1, h2, h3, h4, h5, h6, h7, h8, h9, h10, h11, h12⟩ := h
  obtain ⟨a1, a2⟩ := TOK_h h1 (Kp.rfl' : Kxe σ σ) hm
  exact ⟨a1, fun j => by rw [a2]; exact h2 j, h3, h4, h5, h6, h7, by rw [h29]; exact h8, h9, by rw [h32]; exact h10, by rw [h31]; exact h11, by rw [Kh_30 hm]; exact h12⟩
theorem e_acc {k0 : Nat} (h : BX K m c 5000 t d σ τ) (hk0 : KV k0) (h1 : k0 ≠ 103) (h2 : k0 < 202) (a b : Int32) (ha : a = nI (kC k0)) (hb : b = nI k0) :
    (K t = k0 ∧ f_X1_accept a σ = some (1, sI σ 260 (nI (t + 1))) ∧ f_X10_is b τ = some (1, τ) ∧ f_X10_take τ = some (.inl (), tkM τ 5000 t) ∧ BX K m c 5000 (t + 1) d (sI σ 260 (nI (t + 1))) (tkM τ 5000 t)) ∨
    (K t ≠ k0 ∧ f_X1_accept a σ = some (0, σ) ∧ f_X10_is b τ = some (0, τ)) := by
  subst ha
  subst hb
  have hm := h.1.1
  have ht := h.2.2.1
  have hV := (BX_K h ht).1
  have htL : t < 5000 := by omega
  unfold f_X1_accept
  rw [c_look h, bnd_s, if_pos htL, m_is h (by omega)]
  by_cases q : K t = k0
  · refine Or.inl ⟨q, ?_, by rw [if_pos q], by rw [m_take h, if_pos htL], BX_take h (BX_m h (by omega)) htL⟩
    rw [if_pos (by rw [q]), lt_e, h.2.2.2.2.2.2.1, nI_1]
  · refine Or.inr ⟨q, ?_, by rw [if_neg q]⟩
    rw [if_neg (fun e => q ((kC_eq hV hk0 h1 (by omega)).mp e))]
/-- a whole number: t' is behind it -/
def GW (K : Nat → Nat) (t t' : Nat) : Prop := (K t = 107 ∧ K (t + 1) = 201 ∧ t' = t + 2) ∨ (K t = 201 ∧ t' = t + 1)
def wv (τ : Sta) (t t' : Nat) : Int32 := if t' = t + 2 then -((gJ τ 5 (t' - 1)).toInt32) else (gJ τ 5 (t' - 1)).toInt32
theorem e_num201 (v1 : Int32) (h : BX K m c 5000 t d σ τ) :
    (K t = 201 ∧ f_X1_expect 274 σ = some (nI t, sI σ 260 (nI (t + 1))) ∧ ∃ τ', f_X10_wholeNumber_15 v1 τ = some (.inl (if v1 = 0 then (gJ τ 5 t).toInt32 else -((gJ τ 5 t).toInt32)), τ') ∧ gI τ' 33 = gA σ 12 t ∧ Kh τ τ' ∧ BX K m c 5000 (t + 1) d (sI σ 260 (nI (t + 1))) τ') ∨
    (K t ≠ 201 ∧ f_X1_expect 274 σ = some (nI t, erC σ 1 t) ∧ f_X10_wholeNumber_15 v1 τ = some (.inr (1, gA σ 12 t), τ)) := by
  have hm := h.1.1
  have ht := h.2.2.1
  have htL : t < 5000 := by omega
  unfold f_X10_wholeNumber_15 f_X10_wholeNumber_68
  rcases f_exp (k0 := 201) h (Or.inr (Or.inr ⟨by decide, by decide⟩)) (by decide) (by decide) 274 201 rfl rfl with ⟨a1, a2, a3, a4, a5⟩ | ⟨a1, a2, a3⟩
  · have k33 : Kh τ (sI τ 33 (gA τ 4 t)) := Kp.sI (by unfold hI; omega) Kp.rfl'
    have hB33 := BX_h h k33 rfl rfl rfl
    refine Or.inl ⟨a1, a3, tkM (sI τ 33 (gA τ 4 t)) 5000 t, ?_, ?_, Kp.trans k33 (Kg_h (Kg_take Kp.rfl')), BX_take hB33 (BX_m h (by omega)) htL⟩
    · rw [m_isL h 201 201 rfl (by decide), bnd_s, if_pos a1, ite10, h.2.2.2.2.2.2.2.1, if_neg (nI_in (by omega) (by omega)), lt_e, nI_clamp (by omega), show gI (sI τ 33 (gA τ 4 t)) 29 = nI t from h.2.2.2.2.2.2.2.1, if_neg (nI_in (by omega) (by omega)), lt_e, nI_clamp (by omega), m_take hB33, if_pos htL, bnw_l]
      by_cases q : v1 = 0
      · rw [if_pos q, if_pos q]; rfl
      · rw [if_neg q, if_neg q]; rfl
    · rw [tkM_I _ 5000 t (by decide) (by decide), (BX_K h ht).2.2.2.1]
      rfl
  · have q : K t ≠ 201 := fun e => a1 ⟨e, htL⟩
    refine Or.inr ⟨q, a2, ?_⟩
    rw [m_isL h 201 201 rfl (by decide), bnd_s, if_neg q, ite00, m_wrong h, bnr_s]
theorem e_wholeN (h : BX K m c 5000 t d σ τ) :
    (∃ t' τ', GW K t t' ∧ t < t' ∧ f_X1_readWhole σ = some (nI (t' - 1), sI σ 260 (nI t')) ∧ f_X10_wholeNumber τ = some (.inl (wv τ t t'), τ') ∧ gI τ' 33 = gA σ 12 (t' - 1) ∧ Kh τ τ' ∧ BX K m c 5000 t' d (sI σ 260 (nI t')) τ') ∨
    (∃ r σ' τ' p, f_X1_readWhole σ = some (r, σ') ∧ f_X10_wholeNumber τ = some (.inr (1, p), τ') ∧ Ke σ σ' ∧ Kh τ τ' ∧ (SF σ → SF σ') ∧ gI σ' 262 = 1 ∧ gI σ' 263 = p) := by
  unfold f_X1_readWhole f_X10_wholeNumber
  rcases e_acc (k0 := 107) h (Or.inr (Or.inl ⟨by decide, by decide⟩)) (by decide) (by decide) 45 107 rfl rfl with ⟨a1, a2, a3, a4, a5⟩ | ⟨a1, a2, a3⟩
  · have kt : Kh τ (tkM τ 5000 t) := Kg_h (Kg_take Kp.rfl')
    rw [a2, bnd_s, a3, bnd_s, ite10, a4, bnw_l]
    rcases e_num201 1 a5 with ⟨b1, b2, τ', b3, b4, b5, b6⟩ | ⟨b1, b2, b3⟩
    · rw [sI_sI] at b2 b6
      refine Or.inl ⟨t + 2, τ', Or.inl ⟨a1, b1, rfl⟩, by omega, by rw [b2, bnd_s]; rfl, ?_, b4, Kp.trans kt b5, b6⟩
      rw [b3]
      unfold wv
      rw [if_neg (by decide), if_pos rfl, show t + 2 - 1 = t + 1 by omega, (tkM_A τ 5000 t 5).2]
    · exact Or.inr ⟨_, _, _, _, by rw [b2, bnd_s], b3, Kp.trans (Ke_at _ _) (Ke_er _ _ _), kt, fun e => e, rfl, rfl⟩
  · rw [a2, bnd_s, a3, bnd_s, ite00]
    rcases e_num201 0 h with ⟨b1, b2, τ', b3, b4, b5, b6⟩ | ⟨b1, b2, b3⟩
    · refine Or.inl ⟨t + 1, τ', Or.inr ⟨b1, rfl⟩, by omega, by rw [b2, bnd_s]; rfl, ?_, b4, b5, b6⟩
      rw [b3]
      unfold wv
      rw [if_pos rfl, if_neg (by omega)]
      rfl
    · exact Or.inr ⟨_, _, _, _, by rw [b2, bnd_s], b3, Ke_er _ _ _, Kp.rfl', fun e => e, rfl, rfl⟩
end WH
