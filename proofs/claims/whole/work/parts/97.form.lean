/-! The form of a program: what its statements are. -/
def GIv (K : Nat → Nat) (s e : Nat) : Prop := K s = 0 ∧ K (s + 1) = 200 ∧ K (s + 2) = 105 ∧ ∃ a, s + 3 < a ∧ GW K (s + 3) a ∧ K a = 1 ∧ ∃ b, a + 1 < b ∧ GW K (a + 1) b ∧ K b = 2 ∧ ∃ c, b + 1 < c ∧ GW K (b + 1) c ∧ K c = 102 ∧ e = c + 1
def GIg (K : Nat → Nat) (s e : Nat) : Prop := K s = 3 ∧ K (s + 1) = 200 ∧ ∃ a, ((K (s + 2) ≠ 4 ∧ a = s + 2) ∨ (K (s + 2) = 4 ∧ K (s + 3) = 200 ∧ a = s + 4)) ∧ K a = 105 ∧ ∃ b, a + 1 < b ∧ GX K (a + 1 + 60) 100 0 0 (a + 1) b ∧ K b = 102 ∧ e = b + 1
def GIo (K : Nat → Nat) (s e : Nat) : Prop := K s = 5 ∧ ∃ b, s + 1 < b ∧ GX K (s + 1 + 60) 100 0 0 (s + 1) b ∧ K b = 102 ∧ e = b + 1
def GS (K : Nat → Nat) : Nat → Nat → Nat → Prop
  | 0, _, _ => False
  | n + 1, s, e => K s = 200 ∧ K (s + 1) = 105 ∧ ∃ x, s + 2 < x ∧ GX K (s + 2 + 60) 100 0 0 (s + 2) x ∧ ((K x ≠ 104 ∧ e = x) ∨ (K x = 104 ∧ GS K n (x + 1) e))
def GB1 (K : Nat → Nat) (s e : Nat) : Prop := K s = 8 ∧ K (s + 1) = 201 ∧ ((K (s + 2) ≠ 9 ∧ e = s + 2) ∨ (K (s + 2) = 9 ∧ ∃ n, s + 3 < e ∧ GS K n (s + 3) e))
def GB (K : Nat → Nat) : Nat → Nat → Nat → Prop
  | 0, _, _ => False
  | n + 1, s, e => ∃ x, s < x ∧ GB1 K s x ∧ ((K x ≠ 10 ∧ e = x) ∨ (K x = 10 ∧ GB K n (x + 1) e))
def GIc (K : Nat → Nat) (s e : Nat) : Prop := K s = 6 ∧ K (s + 1) = 200 ∧ K (s + 2) = 7 ∧ ∃ b, s + 3 < b ∧ GX K (s + 3 + 60) 100 0 0 (s + 3) b ∧ ∃ n x, b < x ∧ GB K n b x ∧ K x = 102 ∧ e = x + 1
def GI (K : Nat → Nat) (s e : Nat) : Prop := GIv K s e ∨ GIg K s e ∨ GIo K s e ∨ GIc K s e
def GPN (K : Nat → Nat) : Nat → Nat → Nat → Prop
  | 0, s, e => e = s
  | n + 1, s, e => ∃ x, s + 1 < x ∧ GI K s x ∧ GPN K n x e
/-! The form pass, on both sides. -/
def FO (K : Nat → Nat) (m c : Nat) (σ0 τ0 : Sta) (t : Nat) (σ τ : Sta) : Prop := BX K m c 5000 t 0 σ τ ∧ SFM σ ∧ gI τ 30 = 0 ∧ Kxe σ0 σ ∧ Kh τ0 τ
section FP
variable {K : Nat → Nat} {m c t : Nat} {σ0 τ0 σ τ : Sta}
theorem FO.hm (h : FO K m c σ0 τ0 t σ τ) : m ≤ 1500 ∧ m < c ∧ c ≤ 1501 := ⟨h.1.1.1, h.1.1.2.1, h.1.1.2.2.1⟩
theorem FO.qt (h : FO K m c σ0 τ0 t σ τ) : QQ σ := ⟨h.2.1, Or.inl (h.1.2.2.2.2.2.2.2.2.2.2.2.1.trans h.2.2.1)⟩
theorem FO.go {t' : Nat} {σ' τ' : Sta} (h : FO K m c σ0 τ0 t σ τ) (hB : BX K m c 5000 t' 0 σ' τ') (hS : SF σ') (hc : Kxe σ σ') (hm : Kh τ τ') : FO K m c σ0 τ0 t' σ' τ' := ⟨hB, SFM_x h.2.1 hc hS, (Kh_30 hm).trans h.2.2.1, Kp.trans h.2.2.2.1 hc, Kp.trans h.2.2.2.2 hm⟩
theorem FO.at (h : FO K m c σ0 τ0 t σ τ) (hB : BX K m c 5000 (t + 1) 0 (sI σ 260 (nI (t + 1))) (tkM τ 5000 t)) : FO K m c σ0 τ0 (t + 1) (sI σ 260 (nI (t + 1))) (tkM τ 5000 t) := h.go hB h.2.1.1 (Ke_x (Ke_at _ _)) (Kg_h (Kg_take Kp.rfl'))
theorem FO.er (h : FO K m c σ0 τ0 t σ τ) (j : Nat) : SK σ0 1 (gA σ 12 j) (erC σ 1 j) := SK_er h.2.1 (Kxe_q h.2.2.2.1) (by decide) rfl
theorem fo_exp (h : FO K m c σ0 τ0 t σ τ) {k0 : Nat} (hk0 : KV k0) (h1 : k0 ≠ 103) (h2 : k0 < 202) (a b : Int32) (ha : a = nI (kC k0)) (hb : b = nI k0) :
    SIM (SK σ0) τ0 (f_X1_expect a σ) (f_X10_take_ b τ) (fun r σ' _ τ' => K t = k0 ∧ r = nI t ∧ FO K m c σ0 τ0 (t + 1) σ' τ') := by
  rcases f_exp h.1 hk0 h1 h2 a b ha hb with ⟨a1, a2, a3, a4, a5⟩ | ⟨a1, a2, a3⟩
  · rw [a3, a4]
    exact SIM.ok ⟨a1, rfl, h.at a5⟩
  · rw [a2, a3]
    exact Or.inr ⟨_, _, _, _, _, rfl, rfl, h.er t, Kh_m h.2.2.2.2⟩
theorem fo_tok (h : FO K m c σ0 τ0 t σ τ) {k0 : Nat} (hk : K t = k0) (hk0 : KV k0) (h1 : k0 ≠ 103) (h2 : k0 < 202) (a : Int32) (ha : a = nI (kC k0)) :
    f_X1_expect a σ = some (nI t, sI σ 260 (nI (t + 1))) ∧ f_X10_take τ = some (.inl (), tkM τ 5000 t) ∧ FO K m c σ0 τ0 (t + 1) (sI σ 260 (nI (t + 1))) (tkM τ 5000 t) := by
  have ht := h.1.2.2.1
  have hm := h.1.1.1
  rcases f_exp h.1 hk0 h1 h2 a (nI k0) ha rfl with ⟨a1, a2, a3, a4, a5⟩ | ⟨a1, a2, a3⟩
  · exact ⟨a3, by rw [m_take h.1, if_pos (by omega)], h.at a5⟩
  · exact absurd ⟨hk, by omega⟩ a1
theorem fo_acc (h : FO K m c σ0 τ0 t σ τ) {k0 : Nat} (hk0 : KV k0) (h1 : k0 ≠ 103) (h2 : k0 < 202) (a b : Int32) (ha : a = nI (kC k0)) (hb : b = nI k0) :
    (K t = k0 ∧ f_X1_accept a σ = some (1, sI σ 260 (nI (t + 1))) ∧ f_X10_is b τ = some (1, τ) ∧ f_X10_take τ = some (.inl (), tkM τ 5000 t) ∧ FO K m c σ0 τ0 (t + 1) (sI σ 260 (nI (t + 1))) (tkM τ 5000 t)) ∨
    (K t ≠ k0 ∧ f_X1_accept a σ = some (0, σ) ∧ f_X10_is b τ = some (0, τ)) := by
  rcases e_acc h.1 hk0 h1 h2 a b ha hb with ⟨a1, a2, a3, a4, a5⟩ | ⟨a1, a2, a3⟩
  · exact Or.inl ⟨a1, a2, a3, a4, h.at a5⟩
  · exact Or.inr ⟨a1, a2, a3⟩
theorem DU_dx {σ' : Sta} {p : Int32} (h : SFM σ') (hq : Kq σ0 σ') (h9 : gI σ' 259 = 0) (hD : DU K m c p σ') : DX K m c σ0 1 p σ' := by
  rcases hD with ⟨a, b⟩ | ⟨t, a1, a2, a3, a4, a5, a6, a7, a8⟩
  · exact ⟨h, hq, Or.inl ⟨a, by decide, b⟩⟩
  · exact ⟨h, hq, Or.inr ⟨h9, a1, rfl, t, a2, a3, a4, a5, a6, a7, a8⟩⟩
theorem fo_expr (h : FO K m c σ0 τ0 t σ τ) : SIM (DX K m c σ0) τ0 (f_X1_readExpression σ) (f_X10_whole τ) (fun _ σ' _ τ' => ∃ t', t < t' ∧ GX K (t + 60) 100 0 0 t t' ∧ FO K m c σ0 τ0 t' σ' τ') := by
  rcases f_expr h.1 h.2.1.1 h.2.2.1 with ⟨r, σ', τ', t', a1, a2, a3, a4, a5, a6, a7, a8⟩ | ⟨r, σ', τ', p, a1, a2, a3, a4, a5, a6⟩
  · rw [a1, a2]
    exact SIM.ok ⟨t', a6, a8, h.go a7 a3 a4 (Kg_h a5)⟩
  · rw [a1, a2]
    refine Or.inr ⟨_, _, _, _, _, rfl, rfl, DU_dx (SFM_x h.2.1 a4 a3) (Kxe_q (Kp.trans h.2.2.2.1 a4)) ?_ a6, Kh_m (Kp.trans h.2.2.2.2 (Kg_h a5))⟩
    rw [a4.1 259 (by unfold xeI; omega)]
    exact h.1.2.2.2.2.2.2.2.2.2.2.2.1.trans h.2.2.1
theorem fo_whole (h : FO K m c σ0 τ0 t σ τ) : SIM (SK σ0) τ0 (f_X1_readWhole σ) (f_X10_wholeNumber τ) (fun _ σ' _ τ' => ∃ t', t < t' ∧ GW K t t' ∧ FO K m c σ0 τ0 t' σ' τ') := by
  rcases e_wholeN h.1 with ⟨t', τ', a1, a2, a3, a4, a5, a6, a7⟩ | ⟨r, σ', τ', p, a1, a2, a3, a4, a5, a6, a7⟩
  · rw [a3, a4]
    exact SIM.ok ⟨t', a2, a1, h.go a7 h.2.1.1 (Ke_x (Ke_at _ _)) a6⟩
  · rw [a1, a2]
    exact Or.inr ⟨_, _, _, _, _, rfl, rfl, ⟨SFM_x h.2.1 (Ke_x a3) (a5 h.2.1.1), Kxe_q (Kp.trans h.2.2.2.1 (Ke_x a3)), a6, by decide, a7⟩, Kh_m (Kp.trans h.2.2.2.2 a4)⟩
theorem must0 {τ : Sta} (h : gI τ 30 = 0) (a b c : Int32) : f_X10_must a b c τ = some (.inl (), τ) := by
  unfold f_X10_must f_X10_must_21
  rw [if_pos h]
theorem m_idx0 (q n : Nat) (v : Int64) (τ : Sta) : f_X10_indexOf q n 0 v τ = some (-1, τ) := by
  unfold f_X10_indexOf
  rw [show FU = 999999999 + 1 from rfl, f_X10_indexOf_3, if_pos (by decide)]
theorem FO.at29 (h : FO K m c σ0 τ0 t σ τ) : gI τ 29 = nI t := h.1.2.2.2.2.2.2.2.1
theorem fo_name (h8 : gI τ0 8 = 0) (h : FO K m c σ0 τ0 t σ τ) : SIM (SK σ0) τ0 (f_X1_expect 273 σ) (f_X10_newName τ) (fun r σ' _ τ' => K t = 200 ∧ r = nI t ∧ FO K m c σ0 τ0 (t + 1) σ' τ') := by
  have ht := h.1.2.2.1
  have hm := h.1.1.1
  have h30 := h.2.2.1
  unfold f_X10_newName
  rw [m_isL h.1 200 200 rfl (by decide), bnd_s]
  rcases f_exp (k0 := 200) h.1 (Or.inr (Or.inr ⟨by decide, by decide⟩)) (by decide) (by decide) 273 (nI 200) rfl rfl with ⟨a1, a2, a3, a4, a5⟩ | ⟨a1, a2, a3⟩
  · rw [a3, if_pos a1, ite10, h.at29, if_neg (nI_in (by omega) (by omega)), lt_e, h.2.2.2.2.1 8 (by unfold hI; omega), h8, m_idx0, bnd_s, if_pos rfl]
    unfold f_X10_newName_47 f_X10_newName_87
    rw [h.at29, if_neg (nI_in (by omega) (by omega)), must0 h30, bnw_l, if_pos h30, m_take h.1, if_pos (by omega), bnw_l]
    exact SIM.ok ⟨a1, rfl, h.at a5⟩
  · rw [a2, if_neg (fun e => a1 ⟨e, by omega⟩), ite00, m_wrong h.1, bnr_s]
    exact Or.inr ⟨_, _, _, _, _, rfl, rfl, h.er t, Kh_m h.2.2.2.2⟩
/-! a statement, on the reference's side -/
theorem m_item (h : BX K m c 5000 t 0 σ τ) : f_X10_item τ = if K t = 0 ∨ K t = 3 ∨ K t = 5 ∨ K t = 6 then f_X10_item_45 (nI (K t)) (gA σ 12 t) τ else some (.inr (1, gA σ 12 t), τ) := by
  have ht := h.2.2.1
  have hm := h.1.1
  have hV := (BX_K h ht).1
  have e0 : nI (K t) = 0 ↔ K t = 0 := nI_eqL (by omega) (by decide)
  have e3 : nI (K t) = 3 ↔ K t = 3 := nI_eqL (by omega) (by decide)
  have e5 : nI (K t) = 5 ↔ K t = 5 := nI_eqL (by omega) (by decide)
  have e6 : nI (K t) = 6 ↔ K t = 6 := nI_eqL (by omega) (by decide)
  unfold f_X10_item
  rw [h.2.2.2.2.2.2.2.1, if_neg (nI_in (by omega) (by omega)), lt_e, if_neg (nI_in (by omega) (by omega)), lt_e, nI_clamp (by omega), (BX_K h ht).2.1, ← (BX_K h ht).2.2.2.1, m_wrong h, bnr_s]
  by_cases q0 : K t = 0
  · rw [if_pos (e0.mpr q0), if_pos (Or.inl q0)]
  rw [if_neg (fun e => q0 (e0.mp e))]
  by_cases q3 : K t = 3
  · rw [if_pos (e3.mpr q3), if_pos (Or.inr (Or.inl q3))]
  rw [if_neg (fun e => q3 (e3.mp e))]
  by_cases q5 : K t = 5
  · rw [if_pos (e5.mpr q5), if_pos (Or.inr (Or.inr (Or.inl q5)))]
  rw [if_neg (fun e => q5 (e5.mp e))]
  by_cases q6 : K t = 6
  · rw [if_pos (e6.mpr q6), if_pos (Or.inr (Or.inr (Or.inr q6)))]
  rw [if_neg (fun e => q6 (e6.mp e)), if_neg (by omega)]
/-- whether there is room for one more -/
def rm1 (k : Nat) (τ : Sta) : Int32 := if k = 0 then (if 6 ≤ gI τ 10 then 0 else 1) else if k = 3 then (if 3 ≤ gI τ 15 then 0 else 1) else if k = 6 then (if 16 ≤ gI τ 19 then 0 else 1) else if gI τ 18 = -1 then 1 else 0
theorem m_item45 (h : BX K m c 5000 t 0 σ τ) (p : Int32) : f_X10_item_45 (nI (K t)) p τ = f_X10_item_128 (nI (K t)) p (rm1 (K t) τ) (tkM τ 5000 t) := by
  have ht := h.2.2.1
  have hm := h.1.1
  have hV := (BX_K h ht).1
  have e0 : nI (K t) = 0 ↔ K t = 0 := nI_eqL (by omega) (by decide)
  have e3 : nI (K t) = 3 ↔ K t = 3 := nI_eqL (by omega) (by decide)
  have e6 : nI (K t) = 6 ↔ K t = 6 := nI_eqL (by omega) (by decide)
  unfold f_X10_item_45 rm1
  rw [m_take h, if_pos (by omega), bnw_l, tkM_I τ 5000 t (q := 10) (by decide) (by decide), tkM_I τ 5000 t (q := 15) (by decide) (by decide), tkM_I τ 5000 t (q := 19) (by decide) (by decide), tkM_I τ 5000 t (q := 18) (by decide) (by decide)]
  by_cases q0 : K t = 0
  · rw [if_pos (e0.mpr q0), if_pos q0]
    by_cases q : 6 ≤ gI τ 10
    · rw [if_pos q, if_pos q]
    · rw [if_neg q, if_neg q]
  rw [if_neg (fun e => q0 (e0.mp e)), if_neg q0]
  by_cases q3 : K t = 3
  · rw [if_pos (e3.mpr q3), if_pos q3]
    by_cases q : 3 ≤ gI τ 15
    · rw [if_pos q, if_pos q]
    · rw [if_neg q, if_neg q]
  rw [if_neg (fun e => q3 (e3.mp e)), if_neg q3]
  by_cases q6 : K t = 6
  · rw [if_pos (e6.mpr q6), if_pos q6]
    by_cases q : 16 ≤ gI τ 19
    · rw [if_pos q, if_pos q]
    · rw [if_neg q, if_neg q]
  rw [if_neg (fun e => q6 (e6.mp e)), if_neg q6]
  by_cases q : gI τ 18 = -1
  · rw [if_pos q, if_pos q]
  · rw [if_neg q, if_neg q]
theorem m_item0 (h : BX K m c 5000 t 0 σ τ) (hk : K t = 0 ∨ K t = 3 ∨ K t = 5 ∨ K t = 6) : f_X10_item τ = f_X10_item_128 (nI (K t)) (gA σ 12 t) (rm1 (K t) τ) (tkM τ 5000 t) := by rw [m_item h, if_pos hk, m_item45 h]
/-- behind a statement -/
theorem fo_semi (h : FO K m c σ0 τ0 t σ τ) : SIM (SK σ0) τ0 (f_X1_expect 59 σ) (f_X10_item_186 τ) (fun r σ' _ τ' => K t = 102 ∧ r = nI t ∧ FO K m c σ0 τ0 (t + 1) σ' τ') := by
  unfold f_X10_item_186
  rcases fo_exp h (k0 := 102) (Or.inr (Or.inl ⟨by decide, by decide⟩)) (by decide) (by decide) 59 102 rfl rfl with ⟨r, σ', b, τ', a1, a2, a3⟩ | ⟨r, σ', τ', e, p, a1, a2, a3, a4⟩
  · exact Or.inl ⟨r, σ', (), τ', a1, by rw [a2, bnw_l], a3⟩
  · exact Or.inr ⟨r, σ', τ', e, p, a1, by rw [a2, bnw_r], a3, a4⟩
theorem f_var (h8 : gI τ0 8 = 0) (h : FO K m c σ0 τ0 t σ τ) (hk : K t = 0) : SIM (SK σ0) τ0 (f_X1_readVariable σ) (f_X10_item τ) (fun _ σ' _ τ' => ∃ e, t + 1 < e ∧ GI K t e ∧ FO K m c σ0 τ0 e σ' τ') := by
  obtain ⟨a1, a2, a3⟩ := fo_tok h hk (Or.inl (by decide)) (by decide) (by decide) 256 rfl
  rw [m_item0 h.1 (Or.inl hk)]
  unfold f_X10_item_128 f_X1_readVariable f_X10_variable
  rw [a1, bnd_s, must0 a3.2.2.1, bnw_l, hk, if_pos (show nI 0 = 0 from rfl), bnw_as]
  refine SIM.bnd (fo_name h8 a3) (fun r1 σ b τ ⟨k1, _, h⟩ => ?_) (fun _ _ e p d => Go.bnd (sk_exp d (by decide)) fun _ _ d => Go.bnd (sk_whole d) fun _ _ d => Go.bnd (sk_exp d (by decide)) fun _ _ d => Go.bnd (sk_whole d) fun _ _ d => Go.bnd (sk_exp d (by decide)) fun _ _ d => Go.bnd (sk_whole d) fun _ _ d => Go.bnd (sk_exp d (by decide)) fun _ _ d => sk_v81 d _ _ _ _ _)
  rw [bnw_as]
  refine SIM.bnd (fo_exp h (k0 := 105) (Or.inr (Or.inl ⟨by decide, by decide⟩)) (by decide) (by decide) 61 105 rfl rfl) (fun r2 σ b2 τ ⟨k2, _, h⟩ => ?_) (fun _ _ e p d => Go.bnd (sk_whole d) fun _ _ d => Go.bnd (sk_exp d (by decide)) fun _ _ d => Go.bnd (sk_whole d) fun _ _ d => Go.bnd (sk_exp d (by decide)) fun _ _ d => Go.bnd (sk_whole d) fun _ _ d => Go.bnd (sk_exp d (by decide)) fun _ _ d => sk_v81 d _ _ _ _ _)
  rw [bnw_as]
  refine SIM.bnd (fo_whole h) (fun r3 σ b3 τ ⟨x, x1, x2, h⟩ => ?_) (fun _ _ e p d => Go.bnd (sk_exp d (by decide)) fun _ _ d => Go.bnd (sk_whole d) fun _ _ d => Go.bnd (sk_exp d (by decide)) fun _ _ d => Go.bnd (sk_whole d) fun _ _ d => Go.bnd (sk_exp d (by decide)) fun _ _ d => sk_v81 d _ _ _ _ _)
  rw [lt_e, bnw_as]
  refine SIM.bnd (fo_exp h (k0 := 1) (Or.inl (by decide)) (by decide) (by decide) 257 1 rfl rfl) (fun r4 σ b4 τ ⟨k4, _, h⟩ => ?_) (fun _ _ e p d => Go.bnd (sk_whole d) fun _ _ d => Go.bnd (sk_exp d (by decide)) fun _ _ d => Go.bnd (sk_whole d) fun _ _ d => Go.bnd (sk_exp d (by decide)) fun _ _ d => sk_v81 d _ _ _ _ _)
  rw [bnw_as]
  refine SIM.bnd (fo_whole h) (fun r5 σ b5 τ ⟨y, y1, y2, h⟩ => ?_) (fun _ _ e p d => Go.bnd (sk_exp d (by decide)) fun _ _ d => Go.bnd (sk_whole d) fun _ _ d => Go.bnd (sk_exp d (by decide)) fun _ _ d => sk_v81 d _ _ _ _ _)
  rw [e_isIn, bnd_s, must0 h.2.2.1, bnw_l, bnw_as]
  refine SIM.bnd (fo_exp h (k0 := 2) (Or.inl (by decide)) (by decide) (by decide) 258 2 rfl rfl) (fun r6 σ b6 τ ⟨k6, _, h⟩ => ?_) (fun _ _ e p d => Go.bnd (sk_whole d) fun _ _ d => Go.bnd (sk_exp d (by decide)) fun _ _ d => sk_v81 d _ _ _ _ _)
  rw [bnw_as]
  refine SIM.bnd (fo_whole h) (fun r7 σ b7 τ ⟨z, z1, z2, h⟩ => ?_) (fun _ _ e p d => Go.bnd (sk_exp d (by decide)) fun _ _ d => sk_v81 d _ _ _ _ _)
  have hV : ∀ (pl : Int32) s0, f_X10_variable_93 b b3 pl b5 b7 s0 τ = some (.inl (), τ) := fun pl s0 => by
    unfold f_X10_variable_93
    rw [must0 h.2.2.1, bnw_l, e_isIn, bnd_s, must0 h.2.2.1, bnw_l, if_pos h.2.2.1]
  rw [e_isIn, bnd_s]
  unfold f_X10_variable_92
  rw [hV, hV, show ∀ (P Q : Prop) [Decidable P] [Decidable Q] (A : Option ((Unit ⊕ (Int32 × Int32)) × Sta)), (if P then A else if Q then A else A) = A from fun P Q _ _ A => by
    by_cases q : P
    · rw [if_pos q]
    · rw [if_neg q]
      by_cases q2 : Q
      · rw [if_pos q2]
      · rw [if_neg q2], bnw_l]
  have hQ := fo_semi h
  rcases hQ with ⟨r, σ', b, τ', c1, c2, c3, c4, c5⟩ | ⟨r, σ', τ', e, p, c1, c2, c3, c4⟩
  · rw [c1, c2, bnd_s, q_varEnd c5.qt, q_varEnd c5.qt, show ∀ (P : Prop) [Decidable P] (A : Option (Unit × Sta)), (if P then A else A) = A from fun P _ A => by
      by_cases q : P
      · rw [if_pos q]
      · rw [if_neg q]]
    exact SIM.ok ⟨z + 1, by omega, Or.inl ⟨hk, k1, k2, x, x1, x2, k4, y, y1, y2, k6, z, z1, z2, c3, rfl⟩, c5⟩
  · rw [c1, c2, bnd_s]
    obtain ⟨⟨r', σ''⟩, d1, d2⟩ := sk_v81 c3 (nI t) r1 r3 r5 r7
    exact Or.inr ⟨_, _, _, _, _, d1, rfl, d2, c4⟩
end FP
