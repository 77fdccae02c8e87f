/-! The form pass of a program: what is asked of an empty program. -/
/-- the program is empty, and only the form is looked at -/
def FZ (σ : Sta) : Prop := gI σ 192 = 0 ∧ gI σ 197 = 0 ∧ gI σ 202 = 0 ∧ gI σ 201 = -1 ∧ gI σ 259 = 0 ∧ ∃ c : Nat, c ≤ 1501 ∧ gI σ 67 = nI c
theorem FZ_k {σ σ' : Sta} (h : FZ σ) (hc : Kxe σ σ') : FZ σ' := by
  obtain ⟨h1, h2, h3, h4, h5, c, h6, h7⟩ := h
  exact ⟨by rw [hc.1 192 (by unfold xeI; omega)]; exact h1, by rw [hc.1 197 (by unfold xeI; omega)]; exact h2, by rw [hc.1 202 (by unfold xeI; omega)]; exact h3, by rw [hc.1 201 (by unfold xeI; omega)]; exact h4, by rw [hc.1 259 (by unfold xeI; omega)]; exact h5, c, h6, by rw [hc.1 67 (by unfold xeI; omega)]; exact h7⟩
theorem z_idx (q0 n0 : Nat) (v : Int64) (σ : Sta) : f_X4_indexOf q0 n0 0 v σ = some (-1, σ) := by
  unfold f_X4_indexOf
  rw [show FU = 999999999 + 1 from rfl, f_X4_indexOf_3, if_pos (by decide)]
  rfl
theorem z_var {σ : Sta} (h : FZ σ) (v : Int64) : f_X4_variableNamed v σ = some (-1, σ) := by
  unfold f_X4_variableNamed
  rw [h.1, z_idx, bnd_s]
theorem z_taken {σ : Sta} (h : FZ σ) (v : Int64) : f_X4_isNameTaken v σ = some (0, σ) := by
  unfold f_X4_isNameTaken f_X4_isNameTaken_43
  rw [z_var h, bnd_s, if_neg (by decide), h.2.1, z_idx, bnd_s, if_neg (by decide), h.2.2.1, z_idx, bnd_s, if_pos (by decide), if_neg (by decide)]
theorem z_demand {σ : Sta} (h : FZ σ) (a b c : Int32) : f_X1_demand a b c σ = some ((), σ) := by
  unfold f_X1_demand f_X1_demand_17
  rw [if_pos h.2.2.2.2.1]
theorem z_right {σ : Sta} (h : FZ σ) : f_X1_isMeaningRight σ = some (0, σ) := by
  unfold f_X1_isMeaningRight f_X1_isMeaningRight_18 f_X1_isMeaningRight_19
  rw [if_pos h.2.2.2.2.1, if_neg (by decide)]
theorem z_cont {σ : Sta} (h : FZ σ) (x : Int32) : ∃ v, f_X7_contentOf x σ = some (v, σ) := by
  obtain ⟨_, _, _, _, _, c, h6, h7⟩ := h
  unfold f_X7_contentOf f_X7_contentOf_21 f_X7_contentOf_22
  rcases ix_cases x (n := c) (by omega) with ⟨j, hj, rfl⟩ | hx
  · exact ⟨_, by rw [if_neg (nI_pos (by omega)), h7, if_neg (nI_ge hj (by omega)), if_neg (nI_in (by omega) (by omega))]⟩
  · by_cases q : x < 0
    · exact ⟨_, by rw [if_pos q]⟩
    · exact ⟨_, by rw [if_neg q, h7, if_pos (hx.resolve_left q)]⟩
theorem z_kind {σ : Sta} (h : FZ σ) (x : Int32) : ∃ v, f_X7_kindOf x σ = some (v, σ) := by
  obtain ⟨_, _, _, _, _, c, h6, h7⟩ := h
  unfold f_X7_kindOf f_X7_kindOf_21 f_X7_kindOf_24
  rcases ix_cases x (n := c) (by omega) with ⟨j, hj, rfl⟩ | hx
  · exact ⟨_, by rw [if_neg (nI_pos (by omega)), h7, if_neg (nI_ge hj (by omega)), if_neg (nI_in (by omega) (by omega))]⟩
  · by_cases q : x < 0
    · exact ⟨_, by rw [if_pos q]⟩
    · exact ⟨_, by rw [if_neg q, h7, if_pos (hx.resolve_left q)]⟩
theorem z_wholeAt {σ : Sta} (h : FZ σ) (x : Int32) : ∃ v, f_X1_wholeAt x σ = some (v, σ) := by
  obtain ⟨v, hv⟩ := z_cont h x
  obtain ⟨k, hk⟩ := z_kind h (x - 1)
  unfold f_X1_wholeAt f_X1_wholeAt_31
  rw [hv, bnd_s, lt_e, hk, bnd_s]
  by_cases q : k = 45
  · exact ⟨_, by rw [if_pos q]⟩
  · exact ⟨_, by rw [if_neg q]⟩
theorem z_new {σ : Sta} (h : FZ σ) (x : Int32) : f_X1_demandNewName x σ = some ((), σ) := by
  obtain ⟨v, hv⟩ := z_cont h x
  unfold f_X1_demandNewName f_X1_demandNewName_24
  rw [hv, bnd_s, z_taken h, bnd_s, if_pos rfl, z_demand h, bnd_s]
theorem z_varEnd {σ : Sta} (h : FZ σ) (v1 v2 v3 v4 v5 s0 : Int32) : f_X1_readVariable_81 v1 v2 v3 v4 v5 s0 σ = some ((), σ) := by
  obtain ⟨a, ha⟩ := z_wholeAt h v4
  obtain ⟨b, hb⟩ := z_wholeAt h v5
  obtain ⟨e, he⟩ := z_wholeAt h v3
  have e205 : ∀ x1 x2 x3 x4 x5 x6, f_X1_readVariable_205 x1 x2 x3 x4 x5 x6 σ = some ((), σ) := fun x1 x2 x3 x4 x5 x6 => by
    unfold f_X1_readVariable_205 f_X1_readVariable_238
    rw [z_demand h, bnd_s, z_right h, bnd_s, if_pos rfl]
  have e179 : ∀ x1 x2 x3 x4 x5 x6 x7, f_X1_readVariable_179 x1 x2 x3 x4 x5 x6 x7 σ = some ((), σ) := fun x1 x2 x3 x4 x5 x6 x7 => by
    unfold f_X1_readVariable_179 f_X1_readVariable_204
    rw [z_demand h, bnd_s, e205, e205]
    by_cases q : x6 < x4
    · rw [if_pos q]
    · rw [if_neg q]
      by_cases q2 : x5 < x6
      · rw [if_pos q2]
      · rw [if_neg q2]
  have e160 : ∀ x1 x2 x3 x4 x5 x6 x7, f_X1_readVariable_160 x1 x2 x3 x4 x5 x6 x7 σ = some ((), σ) := fun x1 x2 x3 x4 x5 x6 x7 => by
    unfold f_X1_readVariable_160
    rw [z_demand h, bnd_s, e179, e179]
    by_cases q : x5 < x4
    · rw [if_pos q]
    · rw [if_neg q]
  have e134 : ∀ x1 x2 x3 x4 x5 x6 x7 x8, f_X1_readVariable_134 x1 x2 x3 x4 x5 x6 x7 x8 σ = some ((), σ) := fun x1 x2 x3 x4 x5 x6 x7 x8 => by
    unfold f_X1_readVariable_134 f_X1_readVariable_159
    rw [z_demand h, bnd_s, e160, e160]
    by_cases q : x6 < -99
    · rw [if_pos q]
    · rw [if_neg q]
      by_cases q2 : 99 < x6
      · rw [if_pos q2]
      · rw [if_neg q2]
  unfold f_X1_readVariable_81 f_X1_readVariable_133
  rw [z_demand h, bnd_s, z_new h, bnd_s, ha, bnd_s, hb, bnd_s, he, bnd_s, e134, e134]
  by_cases q : a < -99
  · rw [if_pos q]
  · rw [if_neg q]
    by_cases q2 : 99 < a
    · rw [if_pos q2]
    · rw [if_neg q2]
