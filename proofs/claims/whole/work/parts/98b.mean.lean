/-! The meaning pass: tokens that are known. -/
theorem sI_gI (σ : Sta) (k : Nat) : sI σ k (gI σ k) = σ := by
  show (va_up σ.1 k (σ.1 k), σ.2) = σ
  rw [va_upg]
theorem sI_comm {σ : Sta} {a b : Nat} {v w : Int32} (h : a ≠ b) : sI (sI σ a v) b w = sI (sI σ b w) a v := by
  show (va_up (va_up σ.1 a v) b w, σ.2) = (va_up (va_up σ.1 b w) a v, σ.2)
  congr 1
  funext j
  unfold va_up
  by_cases q : j = b
  · rw [if_pos q, if_neg (show ¬ j = a by omega), if_pos q]
  · rw [if_neg q, if_neg q]
section MT
variable {K : Nat → Nat} {m c t : Nat} {σ τ : Sta}
theorem BX_mv (h : BX K m c 5000 t 0 σ τ) {j : Nat} (hj : j ≤ m) : BX K m c 5000 j 0 (sI σ 260 (nI j)) (sI τ 29 (nI j)) := by
  have hm := h.1.1
  have hc : Ke σ (sI σ 260 (nI j)) := Ke_at _ _
  have hm' : Kf τ (sI τ 29 (nI j)) := Kp.sI (by unfold fI; omega) Kp.rfl'
  obtain ⟨h1, h2, h3, h4, h5, h6, h7, h8, h9, h10, h11, h12⟩ := h
  refine ⟨TOK_k h1 hc hm', h2, hj, by omega, Or.inr rfl, h6, rfl, rfl, h9, ?_, h11, h12⟩
  show gI τ 32 = bud 5000 j
  rw [h10]
  rfl
theorem BX_260 (h : BX K m c 5000 t 0 σ τ) : σ = sI σ 260 (nI t) := by
  have h1 := sI_gI σ 260
  rw [h.2.2.2.2.2.2.1] at h1
  exact h1.symm
/-- the class takes a token that is known -/
theorem c_at (h : BX K m c 5000 t 0 σ τ) {j k0 : Nat} (hj : j ≤ m) (hk : K j = k0) (hk0 : KV k0) (h1 : k0 ≠ 103) (h2 : k0 < 202) (a : Int32) (ha : a = nI (kC k0)) : f_X1_expect a (sI σ 260 (nI j)) = some (nI j, sI σ 260 (nI (j + 1))) := by
  have hB := BX_mv h hj
  have hm := h.1.1
  rcases f_exp hB hk0 h1 h2 a (nI k0) ha rfl with ⟨a1, a2, a3, a4, a5⟩ | ⟨a1, a2, a3⟩
  · rw [a3, sI_sI]
  · exact absurd ⟨hk, by omega⟩ a1
theorem c_atA (h : BX K m c 5000 t 0 σ τ) {j k0 : Nat} (hj : j ≤ m) (hk0 : KV k0) (h1 : k0 ≠ 103) (h2 : k0 < 202) (a : Int32) (ha : a = nI (kC k0)) : f_X1_accept a (sI σ 260 (nI j)) = if K j = k0 then some (1, sI σ 260 (nI (j + 1))) else some (0, sI σ 260 (nI j)) := by
  have hB := BX_mv h hj
  rcases e_acc hB hk0 h1 h2 a (nI k0) ha rfl with ⟨a1, a2, a3, a4, a5⟩ | ⟨a1, a2, a3⟩
  · rw [a2, if_pos a1, sI_sI]
  · rw [a2, if_neg a1]
theorem c_atW (h : BX K m c 5000 t 0 σ τ) {j j' : Nat} (hj' : j' ≤ m) (hG : GW K j j') : f_X1_readWhole (sI σ 260 (nI j)) = some (nI (j' - 1), sI σ 260 (nI j')) := by
  unfold f_X1_readWhole
  rcases hG with ⟨h1, h2, h3⟩ | ⟨h1, h3⟩
  · rw [c_atA h (j := j) (by omega) (k0 := 107) (Or.inr (Or.inl ⟨by decide, by decide⟩)) (by decide) (by decide) 45 rfl, if_pos h1, bnd_s, c_at h (by omega) h2 (Or.inr (Or.inr ⟨by decide, by decide⟩)) (by decide) (by decide) 274 rfl, bnd_s, h3]
    rfl
  · rw [c_atA h (j := j) (by omega) (k0 := 107) (Or.inr (Or.inl ⟨by decide, by decide⟩)) (by decide) (by decide) 45 rfl, if_neg (by omega), bnd_s, c_at h (by omega) h1 (Or.inr (Or.inr ⟨by decide, by decide⟩)) (by decide) (by decide) 274 rfl, bnd_s, h3]
    rfl
/-- the reference takes a token that is known -/
theorem m_at (h : BX K m c 5000 t 0 σ τ) (hk : K t < 202) : f_X10_take τ = some (.inl (), sI τ 29 (nI (t + 1))) := by
  have hm := h.1.1
  have ht := h.2.2.1
  rw [m_take h, if_pos (by omega)]
  rfl
theorem m_atK (h : BX K m c 5000 t 0 σ τ) {k0 : Nat} (hk : K t = k0) (h2 : k0 < 202) (b : Int32) (hb : b = nI k0) : f_X10_take_ b τ = some (.inl (), sI τ 29 (nI (t + 1))) := by
  unfold f_X10_take_
  rw [m_isL h k0 b hb (by omega), bnd_s, if_pos hk, ite10, m_at h (by omega), bnw_l]
theorem d_num201 (v1 : Int32) (h : BX K m c 5000 t 0 σ τ) (hk : K t = 201) : f_X10_wholeNumber_15 v1 τ = some (.inl (if v1 = 0 then (gJ τ 5 t).toInt32 else -((gJ τ 5 t).toInt32)), sI (sI τ 33 (gA σ 12 t)) 29 (nI (t + 1))) := by
  have hm := h.1.1
  have ht := h.2.2.1
  have htL : t < 5000 := by omega
  have k33 : Kh τ (sI τ 33 (gA τ 4 t)) := Kp.sI (by unfold hI; omega) Kp.rfl'
  have hB33 := BX_h h k33 rfl rfl rfl
  unfold f_X10_wholeNumber_15 f_X10_wholeNumber_68
  rw [m_isL h 201 201 rfl (by decide), bnd_s, if_pos hk, ite10, h.2.2.2.2.2.2.2.1, if_neg (nI_in (by omega) (by omega)), lt_e, nI_clamp (by omega), show gI (sI τ 33 (gA τ 4 t)) 29 = nI t from h.2.2.2.2.2.2.2.1, if_neg (nI_in (by omega) (by omega)), lt_e, nI_clamp (by omega), m_at hB33 (by omega), bnw_l, (BX_K h ht).2.2.2.1]
  by_cases q : v1 = 0
  · rw [if_pos q, if_pos q]; rfl
  · rw [if_neg q, if_neg q]; rfl
theorem d_whole (h : BX K m c 5000 t 0 σ τ) {t' : Nat} (ht' : t' ≤ m) (hG : GW K t t') : f_X10_wholeNumber τ = some (.inl (wv τ t t'), sI (sI τ 33 (gA σ 12 (t' - 1))) 29 (nI t')) := by
  unfold f_X10_wholeNumber
  rw [m_isL h 107 107 rfl (by decide), bnd_s]
  rcases hG with ⟨h1, h2, h3⟩ | ⟨h1, h3⟩
  · have hB := BX_mv h (j := t + 1) (by omega)
    rw [if_pos h1, ite10, m_at h (by omega), bnw_l, d_num201 1 hB h2, if_neg (by decide), h3]
    unfold wv
    rw [if_pos rfl, show t + 2 - 1 = t + 1 by omega, sI_comm (σ := τ) (a := 29) (b := 33) (by decide), sI_sI]
    rfl
  · rw [if_neg (show ¬ K t = 107 by omega), ite00, d_num201 0 h h1, if_pos rfl, h3]
    unfold wv
    rw [if_neg (by omega), show t + 1 - 1 = t by omega]
theorem c_contOf (h : BX K m c 5000 t 0 σ τ) {j : Nat} (hj : j < m) : f_X7_contentOf (nI j) σ = some (gJ τ 5 j, σ) := by
  have hm := h.1.1
  have hc := h.1.2.1
  have hj2 := h.1.2.2.2.2.2.2.1 j hj
  have hK := BX_K h (j := j) (by omega)
  rw [h.2.1] at hj2
  unfold f_X7_contentOf f_X7_contentOf_22
  rw [if_neg (nI_pos (by omega)), h.1.2.2.2.1, if_neg (nI_ge (by omega) (by have := h.1.2.2.1; omega)), if_neg (nI_in (by omega) (by omega)), nI_clamp (by omega), hK.2.2.2.2.1 (by omega)]
theorem c_kindOf (h : BX K m c 5000 t 0 σ τ) {j : Nat} (hj : j ≤ m) : f_X7_kindOf (nI j) σ = some (nI (kC (K j)), σ) := by
  have hm := h.1.1
  have hc := h.1.2.1
  have hK := BX_K h hj
  unfold f_X7_kindOf f_X7_kindOf_24
  rw [if_neg (nI_pos (by omega)), h.1.2.2.2.1, if_neg (nI_ge (by omega) (by have := h.1.2.2.1; omega)), if_neg (nI_in (by omega) (by omega)), nI_clamp (by omega), hK.2.2.1]
theorem c_wholeAt (h : BX K m c 5000 t 0 σ τ) {j j' : Nat} (hj' : j' ≤ m) (h0 : 0 < j) (hp : K (j - 1) ≠ 107) (hG : GW K j j') : f_X1_wholeAt (nI (j' - 1)) σ = some (wv τ j j', σ) := by
  have hm := h.1.1
  have hjj : j < j' := by rcases hG with ⟨_, _, e⟩ | ⟨_, e⟩ <;> omega
  have e45 : ∀ i, i ≤ m → (nI (kC (K i)) = 45 ↔ K i = 107) := fun i hi => kC_in (BX_K h hi).1 (k0 := 107) (Or.inr (Or.inl ⟨by decide, by decide⟩)) (by decide) (by decide) 45 rfl
  unfold f_X1_wholeAt f_X1_wholeAt_31 wv
  rw [c_contOf h (by omega), bnd_s, lt_e, nI_subL (show OfNat.ofNat 1 ≤ j' - 1 by show 1 ≤ j' - 1; omega)]
  rw [show j' - 1 - OfNat.ofNat 1 = j' - 2 from rfl, c_kindOf h (by omega), bnd_s]
  rcases hG with ⟨h1, h2, h3⟩ | ⟨h1, h3⟩
  · rw [if_pos ((e45 _ (by omega)).mpr (by rw [h3]; exact h1)), if_pos h3]
  · rw [if_neg (fun e => hp (by
      have e2 := (e45 _ (by omega)).mp e
      rw [h3] at e2
      exact e2)), if_neg (by omega)]
/-! what is demanded -/
theorem d_demand (h : BX K m c 5000 t 0 σ τ) (h30 : gI τ 30 = 1) (a e : Int32) {j : Nat} (hj : j ≤ m) : f_X1_demand a e (nI j) σ = some ((), if a = 0 then erC σ e j else σ) := by
  have hm := h.1.1
  have h9 : gI σ 259 = 1 := h.2.2.2.2.2.2.2.2.2.2.2.1.trans h30
  unfold f_X1_demand f_X1_demand_17
  rw [if_neg (by rw [h9]; decide), c_fail h.2.2.2.2.2.1 e (by omega), bnd_s]
  by_cases q : a = 0
  · rw [if_pos q, if_pos q]; rfl
  · rw [if_neg q, if_neg q]
theorem d_right (h : BX K m c 5000 t 0 σ τ) (h30 : gI τ 30 = 1) : f_X1_isMeaningRight σ = some (1, σ) := by
  have h9 : gI σ 259 = 1 := h.2.2.2.2.2.2.2.2.2.2.2.1.trans h30
  unfold f_X1_isMeaningRight f_X1_isMeaningRight_19
  rw [if_neg (by rw [h9]; decide), if_pos h.2.2.2.2.2.1, if_neg (by decide)]
theorem must1 {τ : Sta} (h : gI τ 30 = 1) (a b c : Int32) : f_X10_must a b c τ = if a = 0 then some (.inr (b, c), τ) else some (.inl (), τ) := by
  unfold f_X10_must f_X10_must_21
  rw [if_neg (by rw [h]; decide)]
end MT
theorem lg_0 (a b : Int64) : lg_cmp a b = 0 ↔ a = b := lg_cmp_eq a b
theorem c_idx {q0 n0 N : Nat} {v : Int64} {σ : Sta} (hN : N ≤ n0) (hn0 : n0 < 2 ^ 30) : ∀ (r k n : Nat), k + r = N → r < n → (∀ i, i < k → gJ σ q0 i ≠ v) →
    (∃ i, i < N ∧ gJ σ q0 i = v ∧ f_X4_indexOf_3 q0 n0 n (nI N) v (nI k) σ = some (nI i, σ)) ∨ ((∀ i, i < N → gJ σ q0 i ≠ v) ∧ f_X4_indexOf_3 q0 n0 n (nI N) v (nI k) σ = some (-1, σ))
  | _, _, 0, _, hn, _ => absurd hn (Nat.not_lt_zero _)
  | r, k, n + 1, hk, hn, hlow => by
    rw [f_X4_indexOf_3]
    unfold f_X4_indexOf_34
    by_cases q : N ≤ k
    · exact Or.inr ⟨fun i hi => hlow i (by omega), by rw [if_pos (nI_le q (by omega))]⟩
    · rw [if_neg (nI_ge (by omega) (by omega)), if_neg (show ¬ Int32.ofNat n0 ≤ nI k from nI_ge (b := n0) (by omega) (by omega)), if_neg (nI_in (by omega) (by omega)), nI_clamp (by omega)]
      by_cases q2 : gJ σ q0 k = v
      · exact Or.inl ⟨k, by omega, q2, by rw [if_pos ((lg_0 _ _).mpr q2)]⟩
      · rw [if_neg (fun e => q2 ((lg_0 _ _).mp e)), lt_e, nI_1]
        exact c_idx hN hn0 (r - 1) (k + 1) n (by omega) (by omega) (fun i hi => by
          by_cases q3 : i = k
          · rw [q3]; exact q2
          · exact hlow i (by omega))
theorem m_idx {q0 n0 N : Nat} {v : Int64} {τ : Sta} (hN : N ≤ n0) (hn0 : n0 < 2 ^ 30) : ∀ (r k n : Nat), k + r = N → r < n → (∀ i, i < k → gJ τ q0 i ≠ v) →
    (∃ i, i < N ∧ gJ τ q0 i = v ∧ f_X10_indexOf_3 q0 n0 n (nI N) v (nI k) τ = some (nI i, τ)) ∨ ((∀ i, i < N → gJ τ q0 i ≠ v) ∧ f_X10_indexOf_3 q0 n0 n (nI N) v (nI k) τ = some (-1, τ))
  | _, _, 0, _, hn, _ => absurd hn (Nat.not_lt_zero _)
  | r, k, n + 1, hk, hn, hlow => by
    rw [f_X10_indexOf_3]
    by_cases q : N ≤ k
    · exact Or.inr ⟨fun i hi => hlow i (by omega), by rw [if_pos (nI_le q (by omega))]⟩
    · rw [if_neg (nI_ge (by omega) (by omega)), if_neg (nI_in (by omega) (by omega)), nI_clamp (by omega)]
      by_cases q2 : gJ τ q0 k = v
      · exact Or.inl ⟨k, by omega, q2, by rw [if_pos ((lg_0 _ _).mpr q2)]⟩
      · rw [if_neg (fun e => q2 ((lg_0 _ _).mp e)), lt_e, nI_1]
        exact m_idx hN hn0 (r - 1) (k + 1) n (by omega) (by omega) (fun i hi => by
          by_cases q3 : i = k
          · rw [q3]; exact q2
          · exact hlow i (by omega))
theorem c_idx' {q0 n0 N : Nat} {σ : Sta} (v : Int64) (hN : N ≤ n0) (hn0 : n0 < 1000) : (∃ i, i < N ∧ gJ σ q0 i = v ∧ f_X4_indexOf q0 n0 (nI N) v σ = some (nI i, σ)) ∨ ((∀ i, i < N → gJ σ q0 i ≠ v) ∧ f_X4_indexOf q0 n0 (nI N) v σ = some (-1, σ)) :=
  c_idx hN (by omega) N 0 FU (by omega) (FU_lt (by omega)) (fun i hi => absurd hi (Nat.not_lt_zero _))
theorem m_idx' {q0 n0 N : Nat} {τ : Sta} (v : Int64) (hN : N ≤ n0) (hn0 : n0 < 1000) : (∃ i, i < N ∧ gJ τ q0 i = v ∧ f_X10_indexOf q0 n0 (nI N) v τ = some (nI i, τ)) ∨ ((∀ i, i < N → gJ τ q0 i ≠ v) ∧ f_X10_indexOf q0 n0 (nI N) v τ = some (-1, τ)) :=
  m_idx hN (by omega) N 0 FU (by omega) (FU_lt (by omega)) (fun i hi => absurd hi (Nat.not_lt_zero _))
/-- all names: on the class's side in three rows, on the reference's in one -/
def NM (nv ng nc : Nat) (σ τ : Sta) : Prop := gI τ 8 = nI (nv + ng + nc) ∧ ∀ w : Int64, (∃ i, i < nv + ng + nc ∧ gJ τ 6 i = w) ↔ ((∃ v, v < nv ∧ gJ σ 19 v = w) ∨ (∃ g, g < ng ∧ gJ σ 23 g = w) ∨ (∃ k, k < nc ∧ gJ σ 26 k = w))
theorem nm_taken {nv ng nc : Nat} {σ τ : Sta} (h : NM nv ng nc σ τ) (h1 : nv ≤ 6) (h2 : ng ≤ 3) (h3 : nc ≤ 16) (e1 : gI σ 192 = nI nv) (e2 : gI σ 197 = nI ng) (e3 : gI σ 202 = nI nc) (w : Int64) :
    (f_X4_isNameTaken w σ = some (1, σ) ∧ ∃ r, r ≠ -1 ∧ f_X10_indexOf 6 25 (gI τ 8) w τ = some (r, τ)) ∨ (f_X4_isNameTaken w σ = some (0, σ) ∧ f_X10_indexOf 6 25 (gI τ 8) w τ = some (-1, τ) ∧ ∀ i, i < nv + ng + nc → gJ τ 6 i ≠ w) := by
  have x1 : ∀ s : Sta, f_X4_isNameTaken_38 s = some (1, s) := fun s => rfl
  have x0 : ∀ s : Sta, f_X4_isNameTaken_43 0 s = some (0, s) := fun s => rfl
  have yes : (∃ i, i < nv + ng + nc ∧ gJ τ 6 i = w) → ∃ r, r ≠ -1 ∧ f_X10_indexOf 6 25 (gI τ 8) w τ = some (r, τ) := fun ⟨i, i1, i2⟩ => by
    rw [h.1]
    rcases m_idx' (q0 := 6) (n0 := 25) (N := nv + ng + nc) (τ := τ) w (by omega) (by decide) with ⟨j, j1, j2, j3⟩ | ⟨j1, j2⟩
    · exact ⟨nI j, ne_m1 (by omega), j3⟩
    · exact absurd i2 (j1 i i1)
  unfold f_X4_isNameTaken f_X4_variableNamed
  rw [e1]
  rcases c_idx' (q0 := 19) (n0 := 6) (N := nv) (σ := σ) w h1 (by decide) with ⟨j, j1, j2, j3⟩ | ⟨j1, j2⟩
  · refine Or.inl ⟨?_, yes ((h.2 w).mpr (Or.inl ⟨j, j1, j2⟩))⟩
    rw [j3, bnd_s, bnd_s, if_pos (nI_pos' (by omega)), x1]
  · rw [j2, bnd_s, bnd_s, if_neg (by decide), e2]
    rcases c_idx' (q0 := 23) (n0 := 3) (N := ng) (σ := σ) w h2 (by decide) with ⟨k, k1, k2, k3⟩ | ⟨k1, k2⟩
    · refine Or.inl ⟨?_, yes ((h.2 w).mpr (Or.inr (Or.inl ⟨k, k1, k2⟩)))⟩
      rw [k3, bnd_s, if_pos (nI_pos' (by omega)), x1]
    · rw [k2, bnd_s, if_neg (by decide), e3]
      rcases c_idx' (q0 := 26) (n0 := 16) (N := nc) (σ := σ) w h3 (by decide) with ⟨l, l1, l2, l3⟩ | ⟨l1, l2⟩
      · refine Or.inl ⟨?_, yes ((h.2 w).mpr (Or.inr (Or.inr ⟨l, l1, l2⟩)))⟩
        rw [l3, bnd_s, if_neg (nI_pos (by omega)), x1]
      · have no : ∀ i, i < nv + ng + nc → gJ τ 6 i ≠ w := fun i hi e => by
          rcases (h.2 w).mp ⟨i, hi, e⟩ with ⟨v, v1, v2⟩ | ⟨v, v1, v2⟩ | ⟨v, v1, v2⟩
          · exact j1 v v1 v2
          · exact k1 v v1 v2
          · exact l1 v v1 v2
        refine Or.inr ⟨?_, ?_, no⟩
        · rw [l2, bnd_s, if_pos (by decide), x0]
        · rw [h.1]
          rcases m_idx' (q0 := 6) (n0 := 25) (N := nv + ng + nc) (τ := τ) w (by omega) (by decide) with ⟨j, j1, j2, j3⟩ | ⟨j1, j2⟩
          · exact absurd j2 (no j j1)
          · exact j2
