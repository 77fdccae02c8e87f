/-! The parser: looking, failing, taking. -/
theorem bnw_l {α β : Type} (r : α) (σ : Sta) (k : α → Sta → Option ((β ⊕ (Int32 × Int32)) × Sta)) : bnw (some (.inl r, σ)) k = k r σ := rfl
theorem bnw_r {α β : Type} (X : Int32 × Int32) (σ : Sta) (k : α → Sta → Option ((β ⊕ (Int32 × Int32)) × Sta)) : bnw (some (.inr X, σ)) k = some (.inr X, σ) := rfl
theorem bnr_s {α : Type} (X : Int32 × Int32) (k : Int32 × Int32 → Option α) : bnr (some X) k = k X := rfl
def eI : Nat → Prop := fun q => q = 130 ∨ q = 260 ∨ q = 262 ∨ q = 263
def eA : Nat → Prop := fun q => q = 14 ∨ q = 17
def eJ : Nat → Prop := fun q => q = 15
def fI : Nat → Prop := fun q => q = 26 ∨ q = 29 ∨ q = 31 ∨ q = 32
def fA : Nat → Prop := fun q => q = 19
def fJ : Nat → Prop := fun q => q = 20
def Ke (σ σ' : Sta) : Prop := Kp eI n0 eA eJ σ σ'
def Kf (τ τ' : Sta) : Prop := Kp fI n0 fA fJ τ τ'
theorem TOK_k {m c : Nat} {σ τ σ' τ' : Sta} (h : TOK m c σ τ) (hc : Ke σ σ') (hm : Kf τ τ') : TOK m c σ' τ' := by
  have e : tk τ' = tk τ := funext fun j => by unfold tk; rw [hm.2.2.1 3 (by unfold fA; omega)]
  refine ⟨h.1, h.2.1, h.2.2.1, by rw [hc.1 67 (by unfold eI; omega)]; exact h.2.2.2.1, by rw [hm.1 4 (by unfold fI; omega)]; exact h.2.2.2.2.1, fun j hj => ?_, fun j hj => by rw [e]; exact h.2.2.2.2.2.2.1 j hj, by rw [e]; exact h.2.2.2.2.2.2.2⟩
  rw [e, hm.2.2.1 3 (by unfold fA; omega), hm.2.2.1 4 (by unfold fA; omega), hm.2.2.2.1 5 (by unfold fJ; omega), hc.2.2.1 11 (by unfold eA; omega), hc.2.2.1 12 (by unfold eA; omega), hc.2.2.2.1 13 (by unfold eJ; omega)]
  exact h.2.2.2.2.2.1 j hj
/-- the budget that is left before the token L; 5000 stands for none -/
def bud (L t : Nat) : Int32 := if L = 5000 then -1 else nI (L - t)
/-- both parsers stand before the token t, and nothing is wrong -/
def BX (K : Nat → Nat) (m c L t d : Nat) (σ τ : Sta) : Prop := TOK m c σ τ ∧ (∀ j, tk τ j = K j) ∧ t ≤ m ∧ t ≤ L ∧ (L ≤ t + 60 ∨ L = 5000) ∧ gI σ 262 = 0 ∧ gI σ 260 = nI t ∧ gI τ 29 = nI t ∧ gI σ 261 = nI (min L c) ∧ gI τ 32 = bud L t ∧ gI τ 31 = nI d ∧ gI σ 259 = gI τ 30 ∧ gI σ 263 = -1
/-- room for codes, and how many variables there are -/
def SF (σ : Sta) : Prop := (∃ n, n ≤ 1500 ∧ gI σ 130 = nI n) ∧ (∃ n, n ≤ 1500 ∧ gI σ 133 = nI n) ∧ (∃ n, n ≤ 6 ∧ gI σ 192 = nI n)
section PA
variable {K : Nat → Nat} {m c L t d : Nat} {σ τ : Sta}
theorem BX_K (h : BX K m c L t d σ τ) {j : Nat} (hj : j ≤ m) : KV (K j) ∧ gA τ 3 j = nI (K j) ∧ gA σ 11 j = nI (kC (K j)) ∧ gA σ 12 j = gA τ 4 j ∧ (K j < 203 → gJ σ 13 j = gJ τ 5 j) ∧ (K j = 200 → gJ τ 5 j ≠ 0) := by
  have h1 := h.1.2.2.2.2.2.1 j (by omega)
  rw [h.2.1 j] at h1
  exact h1
theorem BX_m (h : BX K m c L t d σ τ) (hk : K t < 202) : t < m := by
  have h1 := h.1.2.2.2.2.2.2.2
  rw [h.2.1 m] at h1
  rcases Nat.lt_or_ge t m with q | q
  · exact q
  · have : t = m := by have := h.2.2.1; omega
    rw [this] at hk
    omega
theorem c_look (h : BX K m c L t d σ τ) : f_X1_look σ = some (if t < L then nI (kC (K t)) else 279, σ) := by
  obtain ⟨h1, h2, h3, h4, h5, h6, h7, h8, h9, h10, h11, h12⟩ := h
  have hm := h1.1
  have hc := h1.2.1
  have hc2 := h1.2.2.1
  unfold f_X1_look f_X1_look_37 f_X1_look_38 f_X1_look_61
  rw [if_pos h6, h9, h7]
  by_cases q : t < L
  · rw [if_neg (nI_ge (by omega) (by omega)), if_neg (by rw [nI_Lle (by omega) (by decide)]; omega), if_neg (show ¬ (1 : Int32) = 0 by decide), if_neg (nI_in (by omega) (by omega)), nI_clamp (by omega), (h1.2.2.2.2.2.1 t (by omega)).2.2.1, if_pos q, h2]
  · rw [if_pos (nI_le (by omega) (by omega)), if_pos rfl, if_neg q]
theorem c_look_sk {σ : Sta} (h : gI σ 262 ≠ 0) : f_X1_look σ = some (279, σ) := by
  unfold f_X1_look f_X1_look_37 f_X1_look_38 f_X1_look_61
  rw [if_neg h, if_pos rfl]
theorem c_fail {σ : Sta} (h : gI σ 262 = 0) (e : Int32) {t : Nat} (ht : t ≤ 1500) : f_X1_fail e (nI t) σ = some ((), sI (sI σ 262 e) 263 (gA σ 12 t)) := by
  unfold f_X1_fail f_X1_fail_38 f_X1_fail_41
  rw [if_pos h, lt_e, if_neg (by rw [nI_Lle (by omega) (by decide)]; omega), if_neg (nI_in (by omega) (by omega)), nI_clamp (by omega), lt_e, gA_sI]
theorem c_fail_sk {σ : Sta} (h : gI σ 262 ≠ 0) (e x : Int32) : f_X1_fail e x σ = some ((), σ) := by
  unfold f_X1_fail f_X1_fail_41
  rw [if_neg h]
theorem m_is (h : BX K m c L t d σ τ) {k : Nat} (hk : k < 2 ^ 31) : f_X10_is (nI k) τ = some (if K t = k then 1 else 0, τ) := by
  have hm := h.1.1
  have ht := h.2.2.1
  have hV := (BX_K h ht).1
  unfold f_X10_is f_X10_is_18
  rw [h.2.2.2.2.2.2.2.1, if_neg (nI_in (by omega) (by omega)), nI_clamp (by omega), (BX_K h ht).2.1]
  by_cases q : K t = k
  · rw [if_pos (by rw [q]), if_pos q, if_neg (by decide)]
  · rw [if_neg (fun e => q ((nI_eq (by omega) hk).mp e)), if_neg q, if_neg (by decide)]
theorem m_wrong (h : BX K m c L t d σ τ) : f_X10_wrong τ = some (1, gA σ 12 t) := by
  have hm := h.1.1
  have ht := h.2.2.1
  unfold f_X10_wrong
  rw [h.2.2.2.2.2.2.2.1, if_neg (nI_in (by omega) (by omega)), nI_clamp (by omega), (BX_K h ht).2.2.2.1]
/-- the states behind a token that is taken -/
def tkM (τ : Sta) (L t : Nat) : Sta := sI (if L = 5000 then τ else sI τ 32 (nI (L - (t + 1)))) 29 (nI (t + 1))
theorem m_take (h : BX K m c L t d σ τ) : f_X10_take τ = if t < L then some (.inl (), tkM τ L t) else some (.inr (1, gA σ 12 t), τ) := by
  have hm := h.1.1
  have ht := h.2.2.1
  have hL := h.2.2.2.1
  have hL2 := h.2.2.2.2.1
  unfold f_X10_take f_X10_take_29 tkM
  rw [h.2.2.2.2.2.2.2.2.2.1]
  unfold bud
  by_cases q : L = 5000
  · rw [if_pos q, if_neg (by decide), if_pos (by decide), lt_e, if_pos (by omega), h.2.2.2.2.2.2.2.1, nI_1, if_pos q]
  · rw [if_neg q, if_neg q]
    by_cases q2 : t < L
    · rw [if_neg (nI_ne0 (by omega) (by omega)), if_neg (nI_nle (by omega) (by omega)), lt_e, lt_e, nI_subL (by omega), gI_sI, if_neg (by decide), h.2.2.2.2.2.2.2.1, nI_1, if_pos q2, show L - t - 1 = L - (t + 1) by omega]
    · rw [if_pos (by rw [show L - t = 0 by omega]; rfl), m_wrong h, bnr_s, if_neg q2]
theorem Kf_take {τ0 τ : Sta} (h : Kf τ0 τ) : Kf τ0 (tkM τ L t) := by
  unfold tkM
  by_cases q : L = 5000
  · rw [if_pos q]; exact Kp.sI (by unfold fI; omega) h
  · rw [if_neg q]; exact Kp.sI (by unfold fI; omega) (Kp.sI (by unfold fI; omega) h)
theorem BX_take (h : BX K m c L t d σ τ) (hk : t < m) (hL : t < L) : BX K m c L (t + 1) d (sI σ 260 (nI (t + 1))) (tkM τ L t) := by
  have hc : Ke σ (sI σ 260 (nI (t + 1))) := Kp.sI (by unfold eI; omega) Kp.rfl'
  have hm : Kf τ (tkM τ L t) := Kf_take Kp.rfl'
  obtain ⟨h1, h2, h3, h4, h5, h6, h7, h8, h9, h10, h11, h12⟩ := h
  refine ⟨TOK_k h1 hc hm, fun j => ?_, by omega, by omega, by omega, h6, rfl, rfl, h9, ?_, ?_, ?_⟩
  · rw [← h2 j]
    unfold tk
    rw [hm.2.2.1 3 (by unfold fA; omega)]
  · unfold tkM bud
    rw [gI_sI, if_neg (by decide)]
    by_cases q : L = 5000
    · rw [if_pos q, if_pos q, h10]
      unfold bud
      rw [if_pos q]
    · rw [if_neg q, if_neg q, gI_sI, if_pos rfl]
  · unfold tkM
    rw [gI_sI, if_neg (by decide)]
    by_cases q : L = 5000
    · rw [if_pos q]; exact h11
    · rw [if_neg q, gI_sI, if_neg (by decide)]; exact h11
  · rw [hm.1 30 (by unfold fI; omega)]; exact h12
/-- a code is added -/
def addC (σ : Sta) (n x : Nat) (a : Int32) (v : Int64) : Sta := sA (sI (sJ (sA σ 14 (upd (gA σ 14) n a)) 15 (vp_updL (gJ σ 15) n v)) 130 (nI (n + 1))) 17 (upd (gA σ 17) (x - 1) (nI (n + 1)))
theorem c_addX {σ : Sta} {n x : Nat} (h1 : n < 1500) (h2 : gI σ 130 = nI n) (h3 : x ≤ 1500) (h0 : 0 < x) (h4 : gI σ 133 = nI x) (a : Int32) (v : Int64) : f_X0_add a v σ = some ((), addC σ n x a v) := by
  unfold f_X0_add f_X0_add_64 addC
  rw [h2, if_neg (show ¬ (1500 : Int32) ≤ nI n by rw [nI_Lle (by omega) (by decide)]; omega), h4, if_neg (nI_nle h0 (by omega)), if_neg (nI_in h1 (by decide)), lt_e, gI_sA, h2, if_neg (nI_in h1 (by decide)), lt_e, lt_e, gI_sJ, gI_sA, h2, nI_1, gI_sI, if_neg (show ¬ (133 : Nat) = 130 by decide), gI_sJ, gI_sA, h4, nI_subL (show 1 ≤ x from h0), nI_clamp (by omega), nI_clamp (by omega), if_neg (nI_in2 (c := x - 1) (N := 1500) (by omega) (by omega)), lt_e]
  rfl
/-- codes may be added -/
theorem c_add {σ : Sta} (h : SF σ) (a : Int32) (v : Int64) : ∃ σ', f_X0_add a v σ = some ((), σ') ∧ SF σ' ∧ Ke σ σ' ∧ gI σ' 260 = gI σ 260 ∧ gI σ' 262 = gI σ 262 ∧ gI σ' 263 = gI σ 263 := by
  obtain ⟨⟨n, h1, h2⟩, ⟨x, h3, h4⟩, h5⟩ := h
  by_cases q : n < 1500
  · by_cases q2 : 0 < x
    · refine ⟨_, c_addX q h2 h3 q2 h4 a v, ⟨⟨n + 1, by omega, rfl⟩, ⟨x, h3, h4⟩, h5⟩, ?_, rfl, rfl, rfl⟩
      exact Kp.sA (Or.inr rfl) (Kp.sI (Or.inl rfl) (Kp.sJ rfl (Kp.sA (Or.inl rfl) Kp.rfl')))
    · refine ⟨σ, ?_, ⟨⟨n, h1, h2⟩, ⟨x, h3, h4⟩, h5⟩, Kp.rfl', rfl, rfl, rfl⟩
      unfold f_X0_add f_X0_add_64
      rw [h2, if_neg (show ¬ (1500 : Int32) ≤ nI n by rw [nI_Lle (by omega) (by decide)]; omega), h4, if_pos (by rw [show x = 0 by omega]; decide)]
  · refine ⟨σ, ?_, ⟨⟨n, h1, h2⟩, ⟨x, h3, h4⟩, h5⟩, Kp.rfl', rfl, rfl, rfl⟩
    unfold f_X0_add f_X0_add_64
    rw [h2, if_pos (by rw [nI_Lle (by omega) (by decide)]; omega)]
end PA
