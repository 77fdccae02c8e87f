/-! The class's parser, where it asks nothing: in the form pass, or when something is wrong. -/
def qI : Nat → Prop := fun q => q = 130 ∨ q = 133 ∨ q = 192 ∨ q = 197 ∨ q = 201 ∨ q = 202 ∨ (259 ≤ q ∧ q ≤ 263)
def qA : Nat → Prop := fun q => q = 14 ∨ q = 16 ∨ q = 17 ∨ (20 ≤ q ∧ q ≤ 22) ∨ q = 24 ∨ q = 25 ∨ (27 ≤ q ∧ q ≤ 31)
def qJ : Nat → Prop := fun q => q = 15 ∨ q = 19 ∨ q = 23 ∨ q = 26
/-- what the class's parser may change -/
def Kq (σ σ' : Sta) : Prop := Kp qI n0 qA qJ σ σ'
theorem Kxe_q {σ σ' : Sta} (h : Kxe σ σ') : Kq σ σ' := h.mono (fun k e => by unfold xeI at e; unfold qI; omega) (fun _ e => e) (fun k e => by unfold xeA at e; unfold qA; omega) (fun k e => by unfold eJ at e; unfold qJ; omega)
def SFM (σ : Sta) : Prop := SF σ ∧ (∃ c, c ≤ 1501 ∧ gI σ 67 = nI c) ∧ (∃ n, n ≤ 3 ∧ gI σ 197 = nI n) ∧ ∃ n b, n ≤ 16 ∧ gI σ 202 = nI n ∧ b ≤ 4 ∧ (n = 0 ∨ gA σ 29 (n - 1) = nI b)
theorem SFM_x {σ σ' : Sta} (h : SFM σ) (hc : Kxe σ σ') (hS : SF σ') : SFM σ' := by
  obtain ⟨h1, ⟨c, h2, h3⟩, ⟨n, h4, h5⟩, n', b, h6, h7, h8, h9⟩ := h
  refine ⟨hS, ⟨c, h2, by rw [hc.1 67 (by unfold xeI; omega)]; exact h3⟩, ⟨n, h4, by rw [hc.1 197 (by unfold xeI; omega)]; exact h5⟩, n', b, h6, by rw [hc.1 202 (by unfold xeI; omega)]; exact h7, h8, ?_⟩
  rw [hc.2.2.1 29 (by unfold xeA; omega)]
  exact h9
/-- nothing is asked -/
def QQ (σ : Sta) : Prop := SFM σ ∧ (gI σ 259 = 0 ∨ gI σ 262 ≠ 0)
theorem s_idx {q0 n0 N : Nat} {σ : Sta} (h : N ≤ n0) (hn : n0 ≤ 1000) (v : Int64) : ∃ x, f_X4_indexOf q0 n0 (nI N) v σ = some (x, σ) := by
  unfold f_X4_indexOf
  exact c_indexOf q0 n0 (by omega) v σ n0 0 FU N (by omega) (FU_lt (by omega)) h
theorem s_taken {σ : Sta} (h : SFM σ) (v : Int64) : ∃ r, (r = 0 ∨ r = 1) ∧ f_X4_isNameTaken v σ = some (r, σ) := by
  obtain ⟨a, ha⟩ := c_varN h.1 v
  obtain ⟨h1, _, ⟨n, h4, h5⟩, n', b, h6, h7, h8, h9⟩ := h
  obtain ⟨x, hx⟩ := s_idx (q0 := 23) (n0 := 3) (σ := σ) h4 (by decide) v
  obtain ⟨y, hy⟩ := s_idx (q0 := 26) (n0 := 16) (σ := σ) h6 (by decide) v
  have e1 : ∀ τ, f_X4_isNameTaken_38 τ = some (1, τ) := fun τ => rfl
  have e0 : ∀ τ, f_X4_isNameTaken_43 0 τ = some (0, τ) := fun τ => rfl
  unfold f_X4_isNameTaken
  rw [ha, bnd_s]
  by_cases q : 0 ≤ a
  · exact ⟨1, Or.inr rfl, by rw [if_pos q, e1]⟩
  · rw [if_neg q, h5, hx, bnd_s]
    by_cases q2 : 0 ≤ x
    · exact ⟨1, Or.inr rfl, by rw [if_pos q2, e1]⟩
    · rw [if_neg q2, h7, hy, bnd_s]
      by_cases q3 : y < 0
      · exact ⟨0, Or.inl rfl, by rw [if_pos q3, e0]⟩
      · exact ⟨1, Or.inr rfl, by rw [if_neg q3, e1]⟩
theorem s_cont {σ : Sta} (h : SFM σ) (x : Int32) : ∃ v, f_X7_contentOf x σ = some (v, σ) := by
  obtain ⟨_, ⟨c, h6, h7⟩, _⟩ := h
  unfold f_X7_contentOf f_X7_contentOf_21 f_X7_contentOf_22
  rcases ix_cases x (n := c) (by omega) with ⟨j, hj, rfl⟩ | hx
  · exact ⟨_, by rw [if_neg (nI_pos (by omega)), h7, if_neg (nI_ge hj (by omega)), if_neg (nI_in (by omega) (by omega))]⟩
  · by_cases q : x < 0
    · exact ⟨_, by rw [if_pos q]⟩
    · exact ⟨_, by rw [if_neg q, h7, if_pos (hx.resolve_left q)]⟩
theorem s_kind {σ : Sta} (h : SFM σ) (x : Int32) : ∃ v, f_X7_kindOf x σ = some (v, σ) := by
  obtain ⟨_, ⟨c, h6, h7⟩, _⟩ := h
  unfold f_X7_kindOf f_X7_kindOf_21 f_X7_kindOf_24
  rcases ix_cases x (n := c) (by omega) with ⟨j, hj, rfl⟩ | hx
  · exact ⟨_, by rw [if_neg (nI_pos (by omega)), h7, if_neg (nI_ge hj (by omega)), if_neg (nI_in (by omega) (by omega))]⟩
  · by_cases q : x < 0
    · exact ⟨_, by rw [if_pos q]⟩
    · exact ⟨_, by rw [if_neg q, h7, if_pos (hx.resolve_left q)]⟩
theorem s_wholeAt {σ : Sta} (h : SFM σ) (x : Int32) : ∃ v, f_X1_wholeAt x σ = some (v, σ) := by
  obtain ⟨v, hv⟩ := s_cont h x
  obtain ⟨k, hk⟩ := s_kind h (x - 1)
  unfold f_X1_wholeAt f_X1_wholeAt_31
  rw [hv, bnd_s, lt_e, hk, bnd_s]
  by_cases q : k = 45
  · exact ⟨_, by rw [if_pos q]⟩
  · exact ⟨_, by rw [if_neg q]⟩
theorem s_lb {σ : Sta} (h : SFM σ) : ∃ n b, n ≤ 16 ∧ gI σ 202 = nI n ∧ b ≤ 4 ∧ (n = 0 → b = 0) ∧ f_X4_latestBranches σ = some (nI b, σ) := by
  obtain ⟨_, _, _, n', b, h6, h7, h8, h9⟩ := h
  unfold f_X4_latestBranches f_X4_latestBranches_22
  by_cases q : n' = 0
  · subst q
    exact ⟨0, 0, by omega, h7, by omega, fun _ => rfl, by rw [h7, if_pos (by decide)]; rfl⟩
  · refine ⟨n', b, h6, h7, h8, fun e => absurd e q, ?_⟩
    rw [h7, if_neg (nI_nle (by omega) (by omega)), nI_subL (show OfNat.ofNat 1 ≤ n' from Nat.pos_of_ne_zero q), if_neg (nI_in (by show n' - 1 < 16; omega) (by decide)), nI_clamp (by show n' - 1 < 2 ^ 31; omega)]
    rw [show (n' - OfNat.ofNat 1) = n' - 1 from rfl, h9.resolve_left q]
theorem s_setAt {σ : Sta} (h : SFM σ) (x : Int32) : f_X4_latestSetting x σ = some (-1, σ) ∨ ∃ k, k < 384 ∧ f_X4_latestSetting x σ = some (nI k, σ) := by
  obtain ⟨n, b, h1, h2, h3, h4, h5⟩ := s_lb h
  have e19 : f_X4_latestSetting_19 σ = some (-1, σ) := rfl
  unfold f_X4_latestSetting
  rw [h5, bnd_s]
  by_cases q : nI b = 0
  · exact Or.inl (by rw [if_pos q, e19])
  · have hb : b ≠ 0 := fun e => q (by rw [e]; rfl)
    have hn : n ≠ 0 := fun e => hb (h4 e)
    rw [if_neg q]
    by_cases q2 : x < 0
    · exact Or.inl (by rw [if_pos q2, e19])
    · rw [if_neg q2]
      by_cases q3 : x < 6
      · rcases ix_cases x (n := 6) (by decide) with ⟨j, hj, rfl⟩ | hx
        · refine Or.inr ⟨(((n - 1) * 4) + b - 1) * 6 + j, by omega, ?_⟩
          rw [if_pos q3, lt_e, h2, nI_subL (show OfNat.ofNat 1 ≤ n from Nat.pos_of_ne_zero hn), nI_mulL, nI_add, nI_subL (show OfNat.ofNat 1 ≤ (n - OfNat.ofNat 1) * OfNat.ofNat 4 + b from by show 1 ≤ (n - 1) * 4 + b; omega), nI_mulL, nI_add]
        · rcases hx with hx | hx
          · exact absurd hx q2
          · exact absurd q3 (Int32.not_lt.mpr hx)
      · exact Or.inl (by rw [if_neg q3, e19])
theorem s_set {σ : Sta} (h : SFM σ) (x : Int32) : ∃ r, f_X4_isSetInLatest x σ = some (r, σ) := by
  have e23 : f_X4_isSetInLatest_23 σ = some (0, σ) := rfl
  have e24 : f_X4_isSetInLatest_24 1 σ = some (1, σ) := rfl
  unfold f_X4_isSetInLatest
  rcases s_setAt h x with h1 | ⟨k, hk, h1⟩
  · exact ⟨_, by rw [h1, bnd_s, if_pos (by decide), e23]⟩
  · rw [h1, bnd_s, if_neg (nI_pos (by omega)), if_neg (nI_in (by omega) (by omega))]
    by_cases q : gA σ 31 ((nI k).toNatClampNeg) < 0
    · exact ⟨_, by rw [if_pos q, e23]⟩
    · exact ⟨_, by rw [if_neg q, e24]⟩
theorem s_lcl {σ : Sta} (h : SFM σ) : ∀ (r k n : Nat) (v1 : Int32), k + r = 4 → r < n → ∃ x, f_X4_latestChances_4 n v1 (nI k) σ = some (x, σ)
  | _, _, 0, _, _, hn => absurd hn (Nat.not_lt_zero _)
  | r, k, n + 1, v1, hk, hn => by
    obtain ⟨c, b, h1, h2, h3, h4, h5⟩ := s_lb h
    rw [f_X4_latestChances_4, h5, bnd_s]
    by_cases q : b ≤ k
    · exact ⟨_, by rw [if_pos (nI_le q (by omega))]⟩
    · have hn : c ≠ 0 := fun e => by have := h4 e; omega
      rw [if_neg (nI_ge (by omega) (by omega)), h2, nI_subL (show OfNat.ofNat 1 ≤ c from Nat.pos_of_ne_zero hn), nI_mulL, nI_add, if_neg (nI_in (by show (c - 1) * 4 + k < 64; omega) (by decide)), lt_e, lt_e, nI_1]
      exact s_lcl h (r - 1) (k + 1) n _ (by omega) (by omega)
theorem s_lc {σ : Sta} (h : SFM σ) : ∃ x, f_X4_latestChances σ = some (x, σ) := s_lcl h 4 0 FU 0 rfl (FU_lt (by decide))
theorem s_cmdl {σ : Sta} (h : SFM σ) {c : Nat} (hc : c ≤ 1501) (h67 : gI σ 67 = nI c) (v1 : Int64) : ∀ (r k n : Nat) (v3 : Int32), k + r = c → r + 1 < n → ∃ x, f_X1_commandNamed_5 n v1 v3 (nI k) σ = some (x, σ)
  | _, _, 0, _, _, hn => absurd hn (Nat.not_lt_zero _)
  | r, k, n + 1, v3, hk, hn => by
    rw [f_X1_commandNamed_5, h67, nI_1]
    by_cases q : c ≤ k + 1
    · exact ⟨_, by rw [if_pos (nI_le q (by omega))]⟩
    · obtain ⟨a, ha⟩ := s_kind h (nI k)
      obtain ⟨b, hb⟩ := s_cont h (nI (k + 1))
      have next : ∀ v, ∃ x, f_X1_commandNamed_55 (f_X1_commandNamed_5 n) v1 v (nI k) σ = some (x, σ) := fun v => by
        unfold f_X1_commandNamed_55
        rw [lt_e, nI_1]
        exact s_cmdl h hc h67 v1 (r - 1) (k + 1) n v (by omega) (by omega)
      rw [if_neg (nI_ge (by omega) (by omega)), ha, bnd_s]
      by_cases q2 : a = 262
      · rw [if_pos q2, hb, bnd_s]
        by_cases q3 : lg_cmp b v1 = 0
        · exact ⟨_, by rw [if_pos q3]⟩
        · rw [if_neg q3, lt_e]
          exact next _
      · rw [if_neg q2]
        exact next _
theorem s_cmd {σ : Sta} (h : SFM σ) (v : Int64) : ∃ x, f_X1_commandNamed v σ = some (x, σ) := by
  obtain ⟨c, h1, h2⟩ := h.2.1
  exact s_cmdl h h1 h2 v c 0 FU 0 (by omega) (FU_lt (by omega))
/-! nothing is asked -/
theorem q_demand {σ : Sta} (h : QQ σ) (a b c : Int32) : f_X1_demand a b c σ = some ((), σ) := by
  unfold f_X1_demand f_X1_demand_17
  rcases h.2 with q | q
  · rw [if_pos q]
  · by_cases q1 : gI σ 259 = 0
    · rw [if_pos q1]
    · rw [if_neg q1]
      by_cases q2 : a = 0
      · rw [if_pos q2, c_fail_sk q, bnd_s]
      · rw [if_neg q2]
theorem q_right {σ : Sta} (h : QQ σ) : f_X1_isMeaningRight σ = some (0, σ) := by
  unfold f_X1_isMeaningRight f_X1_isMeaningRight_18 f_X1_isMeaningRight_19
  rcases h.2 with q | q
  · rw [if_pos q, if_neg (by decide)]
  · by_cases q1 : gI σ 259 = 0
    · rw [if_pos q1, if_neg (by decide)]
    · rw [if_neg q1, if_neg q, if_neg (by decide)]
theorem q_new {σ : Sta} (h : QQ σ) (x : Int32) : f_X1_demandNewName x σ = some ((), σ) := by
  obtain ⟨v, hv⟩ := s_cont h.1 x
  obtain ⟨r, _, hr⟩ := s_taken h.1 v
  unfold f_X1_demandNewName f_X1_demandNewName_24
  rw [hv, bnd_s, hr, bnd_s, q_demand h, q_demand h, bnd_s]
  by_cases q : r = 0
  · rw [if_pos q]
  · rw [if_neg q]
theorem q_205 {σ : Sta} (h : QQ σ) (x1 x2 x3 x4 x5 x6 : Int32) : f_X1_readVariable_205 x1 x2 x3 x4 x5 x6 σ = some ((), σ) := by
  unfold f_X1_readVariable_205 f_X1_readVariable_238
  rw [q_demand h, bnd_s, q_right h, bnd_s, if_pos rfl]
theorem q_179 {σ : Sta} (h : QQ σ) (x1 x2 x3 x4 x5 x6 x7 : Int32) : f_X1_readVariable_179 x1 x2 x3 x4 x5 x6 x7 σ = some ((), σ) := by
  unfold f_X1_readVariable_179 f_X1_readVariable_204
  rw [q_demand h, bnd_s, q_205 h, q_205 h]
  by_cases q : x6 < x4
  · rw [if_pos q]
  · rw [if_neg q]
    by_cases q2 : x5 < x6
    · rw [if_pos q2]
    · rw [if_neg q2]
theorem q_160 {σ : Sta} (h : QQ σ) (x1 x2 x3 x4 x5 x6 x7 : Int32) : f_X1_readVariable_160 x1 x2 x3 x4 x5 x6 x7 σ = some ((), σ) := by
  unfold f_X1_readVariable_160
  rw [q_demand h, bnd_s, q_179 h, q_179 h]
  by_cases q : x5 < x4
  · rw [if_pos q]
  · rw [if_neg q]
theorem q_134 {σ : Sta} (h : QQ σ) (x1 x2 x3 x4 x5 x6 x7 x8 : Int32) : f_X1_readVariable_134 x1 x2 x3 x4 x5 x6 x7 x8 σ = some ((), σ) := by
  unfold f_X1_readVariable_134 f_X1_readVariable_159
  rw [q_demand h, bnd_s, q_160 h, q_160 h]
  by_cases q : x6 < -99
  · rw [if_pos q]
  · rw [if_neg q]
    by_cases q2 : 99 < x6
    · rw [if_pos q2]
    · rw [if_neg q2]
theorem q_varEnd {σ : Sta} (h : QQ σ) (v1 v2 v3 v4 v5 s0 : Int32) : f_X1_readVariable_81 v1 v2 v3 v4 v5 s0 σ = some ((), σ) := by
  obtain ⟨a, ha⟩ := s_wholeAt h.1 v4
  obtain ⟨b, hb⟩ := s_wholeAt h.1 v5
  obtain ⟨e, he⟩ := s_wholeAt h.1 v3
  unfold f_X1_readVariable_81 f_X1_readVariable_133
  rw [q_demand h, bnd_s, q_new h, bnd_s, ha, bnd_s, hb, bnd_s, he, bnd_s, q_134 h, q_134 h]
  by_cases q : a < -99
  · rw [if_pos q]
  · rw [if_neg q]
    by_cases q2 : 99 < a
    · rw [if_pos q2]
    · rw [if_neg q2]
