/-! A lone expression. -/
theorem bnc_l {α β : Type} (r : α) (σ : Sta) (k : α → Sta → Option β) (kx : Int32 × Int32 → Sta → Option β) : bnc (some (.inl r, σ)) k kx = k r σ := rfl
theorem bnc_r {α β : Type} (X : Int32 × Int32) (σ : Sta) (k : α → Sta → Option β) (kx : Int32 × Int32 → Sta → Option β) : bnc (some (.inr X, σ)) k kx = kx X σ := rfl
def begP (σ : Sta) (a : Int32) : Sta := sI (sI (sI (sI (sI (sI (sI σ 259 a) 260 0) 261 (gI σ 67)) 262 0) 263 (-1)) 130 0) 133 0
theorem c_beginP {a : Int32} (h : a = 0 ∨ a = 1) (σ : Sta) : f_X1_begin a σ = some ((), begP σ a) := by
  unfold f_X1_begin f_X0_clear
  rw [if_neg (fun q => q h)]
  rfl
def pI : Nat → Prop := fun q => q = 130 ∨ q = 133 ∨ (259 ≤ q ∧ q ≤ 263)
def pmI : Nat → Prop := fun q => q = 26 ∨ (29 ≤ q ∧ q ≤ 32)
def Kpl (σ σ' : Sta) : Prop := Kp pI n0 xeA eJ σ σ'
def Kml (τ τ' : Sta) : Prop := Kp pmI n0 fA fJ τ τ'
theorem Kxe_l {σ σ' : Sta} (h : Kxe σ σ') : Kpl σ σ' := h.mono (fun k e => by unfold xeI at e; unfold pI; omega) (fun _ e => e) (fun _ e => e) (fun _ e => e)
theorem Kf_l {τ τ' : Sta} (h : Kf τ τ') : Kml τ τ' := h.mono (fun k e => by unfold fI at e; unfold pmI; omega) (fun _ e => e) (fun _ e => e) (fun _ e => e)
theorem Kpl_beg (σ : Sta) (a : Int32) : Kpl σ (begP σ a) := Kp.sI (by unfold pI; omega) (Kp.sI (by unfold pI; omega) (Kp.sI (by unfold pI; omega) (Kp.sI (by unfold pI; omega) (Kp.sI (by unfold pI; omega) (Kp.sI (by unfold pI; omega) (Kp.sI (by unfold pI; omega) Kp.rfl'))))))
def begM (τ : Sta) (a : Int32) : Sta := sI (sI (sI (sI τ 30 a) 29 0) 31 0) 32 (-1)
theorem Kml_beg (τ : Sta) (a : Int32) : Kml τ (begM τ a) := Kp.sI (by unfold pmI; omega) (Kp.sI (by unfold pmI; omega) (Kp.sI (by unfold pmI; omega) (Kp.sI (by unfold pmI; omega) Kp.rfl')))
theorem TOK_l {m c : Nat} {σ τ σ' τ' : Sta} (h : TOK m c σ τ) (hc : Kpl σ σ') (hm : Kml τ τ') : TOK m c σ' τ' ∧ tk τ' = tk τ := by
  have e : tk τ' = tk τ := funext fun j => by unfold tk; rw [hm.2.2.1 3 (by unfold fA; omega)]
  refine ⟨⟨h.1, h.2.1, h.2.2.1, by rw [hc.1 67 (by unfold pI; omega)]; exact h.2.2.2.1, by rw [hm.1 4 (by unfold pmI; omega)]; exact h.2.2.2.2.1, fun j hj => ?_, fun j hj => by rw [e]; exact h.2.2.2.2.2.2.1 j hj, by rw [e]; exact h.2.2.2.2.2.2.2⟩, e⟩
  rw [e, hm.2.2.1 3 (by unfold fA; omega), hm.2.2.1 4 (by unfold fA; omega), hm.2.2.2.1 5 (by unfold fJ; omega), hc.2.2.1 11 (by unfold xeA; omega), hc.2.2.1 12 (by unfold xeA; omega), hc.2.2.2.1 13 (by unfold eJ; omega)]
  exact h.2.2.2.2.2.1 j hj
section LO
variable {m c : Nat} {σ τ : Sta}
theorem BX_beg (h : TOK m c σ τ) (a : Int32) : BX (tk τ) m c 5000 0 0 (begP σ a) (begM τ a) := by
  obtain ⟨h1, h2⟩ := TOK_l h (Kpl_beg σ a) (Kml_beg τ a)
  have hc := h.2.2.1
  refine ⟨h1, fun j => by rw [h2], Nat.zero_le _, Nat.zero_le _, Or.inr rfl, rfl, rfl, rfl, ?_, rfl, rfl, rfl, rfl⟩
  show gI σ 67 = _
  rw [h.2.2.2.1, show min 5000 c = c by omega]
theorem whole_beg (τ : Sta) (a : Int32) : f_X10_whole (sI (sI (sI τ 30 a) 29 0) 31 0) = f_X10_whole (begM τ a) := by
  unfold f_X10_whole begM
  rw [lt_e, lt_e, lt_e, lt_e, sI_sI]
  rfl
theorem t61 {a : Int32} (ha : a = 0 ∨ a = 1) (k43 : Int32 → Int32 → Int32 → Int32 → Sta → Option (Int32 × Sta)) (v1 v2 v3 v4 : Int32) : f_X10_test_61 k43 v1 v2 v3 v4 a τ = bnc (f_X10_whole (begM τ a)) (fun r5 σ6 =>
    bnd (f_X10_is 202 σ6) (fun r13 σ14 =>
    if r13 = 0 then
      bnr (f_X10_wrong σ14) (fun X18 =>
        lt (X18.1) (fun x21 =>
        lt (sI σ14 35 X18.2) (fun σ22 =>
        f_X10_test_130 x21 v3 σ22)))
    else
      lt (v4 + 1) (fun x17 =>
      k43 v1 v2 v3 x17 σ14))) (fun X8 σ10 =>
    lt (X8.1) (fun x11 =>
    lt (sI σ10 35 X8.2) (fun σ12 =>
    f_X10_test_130 x11 v3 σ12))) := by
  rw [← whole_beg]
  unfold f_X10_test_61
  rw [if_neg (fun q => q ha)]
  rfl
/-- behind the expression -/
theorem l_end {K : Nat → Nat} {t : Nat} (hB : BX K m c 5000 t 0 σ τ) : ∃ x, f_X1_look σ = some (x, σ) ∧ (x = 278 ↔ K t = 202) := by
  have ht := hB.2.2.1
  have hm := hB.1.1
  refine ⟨_, c_look hB, ?_⟩
  rw [if_pos (by omega)]
  exact kC_eq (k0 := 202) (BX_K hB ht).1 (Or.inr (Or.inr ⟨by decide, by decide⟩)) (by decide) (by decide)
theorem DU_end {K : Nat → Nat} {p : Int32} (hm : m ≤ 1500) (hc : m < c) (hc2 : c ≤ 1501) (h : DU K m c p σ) : ∃ x σ', f_X1_look σ = some (x, σ) ∧ x ≠ 278 ∧ f_X1_fail 1 (gI σ 260) σ = some ((), σ') ∧ Kpl σ σ' ∧ gI σ' 262 = 1 ∧ gI σ' 263 = p := by
  rcases h with ⟨h1, h2⟩ | ⟨t, h1, h2, h3, h4, h5, h6, h7, h8⟩
  · exact ⟨279, σ, c_look_sk (by rw [h1]; decide), by decide, c_fail_sk (by rw [h1]; decide) _ _, Kp.rfl', h1, h2⟩
  · refine ⟨nI (kC (K t)), erC σ 1 t, ?_, ?_, ?_, Kp.sI (by unfold pI; omega) (Kp.sI (by unfold pI; omega) Kp.rfl'), rfl, h6.symm⟩
    · unfold f_X1_look f_X1_look_38 f_X1_look_61
      rw [if_pos h1, h4, h2, if_neg (nI_ge (by omega) (by omega)), if_neg (by rw [nI_Lle (by omega) (by decide)]; omega), if_neg (show ¬ (1 : Int32) = 0 by decide), if_neg (nI_in (by omega) (by omega)), nI_clamp (by omega), h7]
    · intro e
      have := (kC_eq (k0 := 202) h8 (Or.inr (Or.inr ⟨by decide, by decide⟩)) (by decide) (by decide)).mp e
      have := opL_lt h5
      omega
    · rw [h2, c_fail h1 1 (by omega)]
      rfl
theorem l_form (hT : TOK m c σ τ) (hnv : ∃ n, n ≤ 6 ∧ gI σ 192 = nI n) :
    (∃ σ' τ' t', f_X1_readLoneExpression 0 σ = some ((), σ') ∧ gI σ' 262 = 0 ∧ Kpl σ σ' ∧ Kml τ τ' ∧ gI τ' 26 = gI τ 26 ∧ tk τ t' = 202 ∧ GX (tk τ) 60 100 0 0 0 t' ∧ ∀ k43 v1 v2 v3 v4, f_X10_test_61 k43 v1 v2 v3 v4 0 τ = k43 v1 v2 v3 (v4 + 1) τ') ∨
    (∃ σ' τ', f_X1_readLoneExpression 0 σ = some ((), σ') ∧ gI σ' 262 = 1 ∧ Kpl σ σ' ∧ Kml τ τ' ∧ ∀ k43 v1 v2 v3 v4, f_X10_test_61 k43 v1 v2 v3 v4 0 τ = f_X10_test_130 1 v3 (sI τ' 35 (gI σ' 263))) := by
  have hB := BX_beg hT 0
  have hS : SF (begP σ 0) := ⟨⟨0, by omega, rfl⟩, ⟨0, by omega, rfl⟩, hnv⟩
  have hC : f_X1_readLoneExpression 0 σ = bnd (f_X1_readExpression (begP σ 0)) (fun r4 σ5 => bnd (f_X1_look σ5) (fun r7 σ8 => if r7 = 278 then some ((), σ8) else bnd (f_X1_fail 1 (gI σ8 260) σ8) (fun _ σ12 => some ((), σ12)))) := by
    unfold f_X1_readLoneExpression
    rw [c_beginP (Or.inl rfl), bnd_s]
    rfl
  rw [hC]
  rcases f_expr hB hS rfl with ⟨r, σ1, τ1, t1, a1, a2, a3, a4, a5, a6, a7, a8⟩ | ⟨r, σ1, τ1, p, a1, a2, a3, a4, a5, a6⟩
  · obtain ⟨x, x1, x2⟩ := l_end a7
    have hm := a7.1.1
    have ht := a7.2.2.1
    by_cases q : tk τ t1 = 202
    · refine Or.inl ⟨σ1, τ1, t1, ?_, a7.2.2.2.2.2.1, Kp.trans (Kpl_beg σ 0) (Kxe_l a4), Kp.trans (Kml_beg τ 0) (Kf_l (Kg_f a5)), a5.1 26 (by unfold g0I; omega), q, a8, fun k43 v1 v2 v3 v4 => ?_⟩
      · rw [a1, bnd_s, x1, bnd_s, if_pos (x2.mpr q)]
      · rw [t61 (Or.inl rfl), a2, bnc_l, m_isL a7 202 202 rfl (by decide), bnd_s, if_pos q, ite10, lt_e]
    · refine Or.inr ⟨erC σ1 1 t1, τ1, ?_, rfl, Kp.trans (Kpl_beg σ 0) (Kp.trans (Kxe_l a4) (Kp.sI (by unfold pI; omega) (Kp.sI (by unfold pI; omega) Kp.rfl'))), Kp.trans (Kml_beg τ 0) (Kf_l (Kg_f a5)), fun k43 v1 v2 v3 v4 => ?_⟩
      · rw [a1, bnd_s, x1, bnd_s, if_neg (fun e => q (x2.mp e)), a7.2.2.2.2.2.2.1, c_fail a7.2.2.2.2.2.1 1 (by omega), bnd_s]
        rfl
      · rw [t61 (Or.inl rfl), a2, bnc_l, m_isL a7 202 202 rfl (by decide), bnd_s, if_neg q, ite00, m_wrong a7, bnr_s]
        rfl
  · obtain ⟨x, σ2, x1, x2, x3, x4, x5, x6⟩ := DU_end hT.1 hT.2.1 hT.2.2.1 a6
    refine Or.inr ⟨σ2, τ1, ?_, x5, Kp.trans (Kpl_beg σ 0) (Kp.trans (Kxe_l a4) x4), Kp.trans (Kml_beg τ 0) (Kf_l (Kg_f a5)), fun k43 v1 v2 v3 v4 => ?_⟩
    · rw [a1, bnd_s, x1, bnd_s, if_neg x2, x3, bnd_s]
    · rw [t61 (Or.inl rfl), a2, bnc_r, x6]
      rfl
theorem l_mean {nv sz t' : Nat} (hT : TOK m c σ τ) (h1 : nv ≤ 6) (h2 : gI σ 192 = nI nv) (h3 : gI τ 10 = nI nv) (h4 : ∀ v, v < nv → gJ σ 19 v = gJ τ 7 v) (h5 : gI τ 26 = nI sz) (h6 : sz ≤ 1500) (hK : tk τ t' = 202) (hG : GX (tk τ) 60 100 0 0 0 t') :
    (∃ σ' τ', f_X1_readLoneExpression 1 σ = some ((), σ') ∧ gI σ' 262 = 0 ∧ gI σ' 263 = -1 ∧ Kpl σ σ' ∧ Kml τ τ' ∧ ER σ' τ' nv 0 (nI sz) ∧ ∀ k43 v1 v2 v3 v4, f_X10_test_61 k43 v1 v2 v3 v4 1 τ = k43 v1 v2 v3 (v4 + 1) τ') ∨
    (∃ σ' τ', f_X1_readLoneExpression 1 σ = some ((), σ') ∧ gI σ' 262 = 2 ∧ Kpl σ σ' ∧ Kml τ τ' ∧ ∀ k43 v1 v2 v3 v4, f_X10_test_61 k43 v1 v2 v3 v4 1 τ = f_X10_test_130 2 v3 (sI τ' 35 (gI σ' 263))) := by
  have hB := BX_beg hT 1
  have hS : MO nv 0 0 sz 0 (begP σ 1) (begM τ 1) := ⟨rfl, by omega, rfl, by omega, h5, by omega, rfl, h1, h2, h3, h4⟩
  have hC : f_X1_readLoneExpression 1 σ = bnd (f_X1_readExpression (begP σ 1)) (fun r4 σ5 => bnd (f_X1_look σ5) (fun r7 σ8 => if r7 = 278 then some ((), σ8) else bnd (f_X1_fail 1 (gI σ8 260) σ8) (fun _ σ12 => some ((), σ12)))) := by
    unfold f_X1_readLoneExpression
    rw [c_beginP (Or.inr rfl), bnd_s]
    rfl
  rw [hC]
  rcases b_expr hB hS hG with ⟨σ1, τ1, k, a1, a2, a4, a5, a6, a7, a8, a9, a10, a11, a12, a13⟩ | ⟨r, σ1, τ1, p, a1, a2, a3, a4, aF, a5, a6⟩
  · obtain ⟨x, x1, x2⟩ := l_end a7
    have hm := a7.1.1
    have ht := a7.2.2.1
    refine Or.inl ⟨σ1, τ1, ?_, a7.2.2.2.2.2.1, a7.2.2.2.2.2.2.2.2.2.2.2.2, Kp.trans (Kpl_beg σ 1) (Kxe_l a4), Kp.trans (Kml_beg τ 1) (Kf_l a5), ERb_ER a13 (by omega) (by omega) (by omega) a10, fun k43 v1 v2 v3 v4 => ?_⟩
    · rw [a1, bnd_s, x1, bnd_s, if_pos (x2.mpr hK)]
    · rw [t61 (Or.inr rfl), a2, bnc_l, m_isL a7 202 202 rfl (by decide), bnd_s, if_pos hK, ite10, lt_e]
  · have hne : gI σ1 262 ≠ 0 := by rw [a5]; decide
    refine Or.inr ⟨σ1, τ1, ?_, a5, Kp.trans (Kpl_beg σ 1) (Kxe_l a4), Kp.trans (Kml_beg τ 1) (Kf_l aF), fun k43 v1 v2 v3 v4 => ?_⟩
    · rw [a1, bnd_s, c_look_sk hne, bnd_s, if_neg (by decide), c_fail_sk hne, bnd_s]
    · rw [t61 (Or.inr rfl), a2, bnc_r, a6]
      rfl
end LO
