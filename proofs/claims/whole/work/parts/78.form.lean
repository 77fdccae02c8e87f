/-! Expressions: the form. -/
def g0I : Nat → Prop := fun q => q = 29 ∨ q = 31 ∨ q = 32
def Kg (τ τ' : Sta) : Prop := Kp g0I n0 n0 n0 τ τ'
theorem Kg_f {τ τ' : Sta} (h : Kg τ τ') : Kf τ τ' := h.mono (fun k e => by unfold g0I at e; unfold fI; omega) (fun _ e => e) (fun _ e => e.elim) (fun _ e => e.elim)
theorem Kg_take {L t : Nat} {τ0 τ : Sta} (h : Kg τ0 τ) : Kg τ0 (tkM τ L t) := by
  unfold tkM
  by_cases q : L = 5000
  · rw [if_pos q]; exact Kp.sI (by unfold g0I; omega) h
  · rw [if_neg q]; exact Kp.sI (by unfold g0I; omega) (Kp.sI (by unfold g0I; omega) h)
/-- the level of an operator between two operands; 9 if the kind is none -/
def opL (k : Nat) : Nat := if k = 12 then 0 else if k = 11 then 1 else if k = 105 ∨ (111 ≤ k ∧ k ≤ 115) then 2 else if k = 106 ∨ k = 107 then 3 else if 108 ≤ k ∧ k ≤ 110 then 4 else 9
def lvF (a : Int32) : Int32 := if a = 37 then 4 else if a = 42 then 4 else if a = 43 then 3 else if a = 45 then 3 else if a = 47 then 4 else if a = 60 then 2 else if a = 61 then 2 else if a = 62 then 2 else if a = 267 then 1 else if a = 268 then 0 else if a = 275 then 2 else if a = 276 then 2 else if a = 277 then 2 else -1
theorem lv_F (a : Int32) (σ : Sta) : f_X1_levelOf a σ = some (lvF a, σ) := by
  unfold f_X1_levelOf lvF
  by_cases h0 : a = 37
  · rw [if_pos h0, if_pos h0]
  rw [if_neg h0, if_neg h0]
  by_cases h1 : a = 42
  · rw [if_pos h1, if_pos h1]
  rw [if_neg h1, if_neg h1]
  by_cases h2 : a = 43
  · rw [if_pos h2, if_pos h2]
  rw [if_neg h2, if_neg h2]
  by_cases h3 : a = 45
  · rw [if_pos h3, if_pos h3]
  rw [if_neg h3, if_neg h3]
  by_cases h4 : a = 47
  · rw [if_pos h4, if_pos h4]
  rw [if_neg h4, if_neg h4]
  by_cases h5 : a = 60
  · rw [if_pos h5, if_pos h5]
  rw [if_neg h5, if_neg h5]
  by_cases h6 : a = 61
  · rw [if_pos h6, if_pos h6]
  rw [if_neg h6, if_neg h6]
  by_cases h7 : a = 62
  · rw [if_pos h7, if_pos h7]
  rw [if_neg h7, if_neg h7]
  by_cases h8 : a = 267
  · rw [if_pos h8, if_pos h8]
  rw [if_neg h8, if_neg h8]
  by_cases h9 : a = 268
  · rw [if_pos h9, if_pos h9]
  rw [if_neg h9, if_neg h9]
  by_cases h10 : a = 275
  · rw [if_pos h10, if_pos h10]
  rw [if_neg h10, if_neg h10]
  by_cases h11 : a = 276
  · rw [if_pos h11, if_pos h11]
  rw [if_neg h11, if_neg h11]
  by_cases h12 : a = 277
  · rw [if_pos h12, if_pos h12]
  rw [if_neg h12, if_neg h12]
theorem lv_tab : ∀ k, k < 204 → KV k → lvF (nI (kC k)) = if opL k = 9 then -1 else nI (opL k) := by decide +kernel
theorem opL_9 (k : Nat) : opL k < 5 ∨ opL k = 9 := by
  unfold opL
  by_cases h1 : k = 12
  · rw [if_pos h1]; omega
  · rw [if_neg h1]
    by_cases h2 : k = 11
    · rw [if_pos h2]; omega
    · rw [if_neg h2]
      by_cases h3 : k = 105 ∨ (111 ≤ k ∧ k ≤ 115)
      · rw [if_pos h3]; omega
      · rw [if_neg h3]
        by_cases h4 : k = 106 ∨ k = 107
        · rw [if_pos h4]; omega
        · rw [if_neg h4]
          by_cases h5 : 108 ≤ k ∧ k ≤ 110
          · rw [if_pos h5]; omega
          · rw [if_neg h5]; omega
theorem c_level {k l : Nat} (hk : KV k) (hl : l < 5) (σ : Sta) : ∃ r, f_X1_levelOf (nI (kC k)) σ = some (r, σ) ∧ (r = nI l ↔ opL k = l) := by
  refine ⟨_, lv_F _ σ, ?_⟩
  rw [lv_tab k (by omega) hk]
  rcases opL_9 k with q | q
  · rw [if_neg (by omega), nI_eq (by omega) (by omega)]
  · rw [if_pos q, q]
    exact ⟨fun e => absurd e.symm (fun e2 => (nI_nm1 (by omega)).mp e2), fun e => by omega⟩
theorem c_level9 {l : Nat} (hl : l < 5) (σ : Sta) : ∃ r, f_X1_levelOf 279 σ = some (r, σ) ∧ r ≠ nI l := ⟨-1, rfl, fun e => (nI_nm1 (show l < 2 ^ 31 by omega)).mp e.symm⟩
def GL (P : Nat → Nat → Prop) (op Z : Nat → Prop) (L : Nat) : Nat → Nat → Nat → Prop
  | 0, t, t' => t' = t ∧ Z t
  | q + 1, t, t' => (¬ op t ∧ t' = t) ∨ (op t ∧ t < L ∧ ∃ t1, P (t + 1) t1 ∧ GL P op Z L q t1 t')
/-- the tokens from t up to t' are an expression (0), operands of the levels 1 to 5, a factor (6), one or two expressions in a bracket (7, 8) -/
def GX (K : Nat → Nat) (L : Nat) : Nat → Nat → Nat → Nat → Nat → Prop
  | 0, _, _, _, _ => False
  | n + 1, l, d, t, t' =>
    if l < 5 then ∃ t1, GX K L n (l + 1) d t t1 ∧ GL (fun x y => GX K L n (l + 1) d x y) (fun x => opL (K x) = l) (fun x => (if l = 2 then 1 else 60) = 60 → opL (K x) ≠ l) L (if l = 2 then 1 else 60) t1 t'
    else if l = 5 then GX K L n 6 d t t'
    else if l = 6 then t < L ∧ (((K t = 201 ∨ K t = 200) ∧ t' = t + 1) ∨ ((K t = 107 ∨ K t = 13) ∧ d < 8 ∧ GX K L n 6 (d + 1) (t + 1) t') ∨ (K t = 100 ∧ GX K L n 7 d t t') ∨ (K t = 16 ∧ GX K L n 7 d (t + 1) t') ∨ ((K t = 14 ∨ K t = 15) ∧ GX K L n 8 d (t + 1) t'))
    else K t = 100 ∧ t < L ∧ d < 8 ∧ ∃ t1, GX K L n 0 (d + 1) (t + 1) t1 ∧ t1 < L ∧ ((l = 7 ∧ K t1 = 101 ∧ t' = t1 + 1) ∨ (l = 8 ∧ K t1 = 104 ∧ ∃ t2, GX K L n 0 (d + 1) (t1 + 1) t2 ∧ t2 < L ∧ K t2 = 101 ∧ t' = t2 + 1))
/-- the class's parser stands before an operator that the reference has refused -/
def Doom (K : Nat → Nat) (m c L : Nat) (p : Int32) (σ : Sta) : Prop := gI σ 262 = 0 ∧ L ≤ m ∧ gI σ 260 = nI L ∧ opL (K L) < 5 ∧ p = gA σ 12 L ∧ gI σ 261 = nI (min L c)
def DD (K : Nat → Nat) (m c L l : Nat) (p : Int32) (σ : Sta) : Prop := (gI σ 262 = 1 ∧ gI σ 263 = p) ∨ (l < 5 ∧ Doom K m c L p σ)
def RES (K : Nat → Nat) (m c L n l d t : Nat) (σ τ : Sta) (Cr : Option (Unit × Sta)) (Mr : Option ((Unit ⊕ (Int32 × Int32)) × Sta)) : Prop :=
  (∃ σ' τ' t', Cr = some ((), σ') ∧ Mr = some (.inl (), τ') ∧ SF σ' ∧ Ke σ σ' ∧ Kg τ τ' ∧ t < t' ∧ BX K m c L t' d σ' τ' ∧ GX K L n l d t t') ∨
  (∃ σ' τ' p, Cr = some ((), σ') ∧ Mr = some (.inr (1, p), τ') ∧ SF σ' ∧ Ke σ σ' ∧ Kg τ τ' ∧ DD K m c L l p σ')
theorem DD_look {K : Nat → Nat} {m c L l : Nat} {p : Int32} {σ : Sta} (hm : m ≤ 1500) (h : DD K m c L l p σ) : f_X1_look σ = some (279, σ) := by
  rcases h with ⟨h1, h2⟩ | ⟨h0, h1, h2, h3, h4, h5, h6⟩
  · exact c_look_sk (by rw [h1]; decide)
  · unfold f_X1_look f_X1_look_37 f_X1_look_38 f_X1_look_61
    rw [if_pos h1, h6, h3, if_pos (nI_le (by omega) (by omega)), if_pos rfl]
theorem DD_mono {K : Nat → Nat} {m c L l l' : Nat} {p : Int32} {σ : Sta} (h : DD K m c L l p σ) (hl : l < 5 → l' < 5) : DD K m c L l' p σ := by
  rcases h with h | ⟨h0, h⟩
  · exact Or.inl h
  · exact Or.inr ⟨hl h0, h⟩
theorem DD_add {K : Nat → Nat} {m c L l : Nat} {p : Int32} {σ σ' : Sta} (h : DD K m c L l p σ) (hk : Ke σ σ') (h0 : gI σ' 260 = gI σ 260) (h2 : gI σ' 262 = gI σ 262) (h3 : gI σ' 263 = gI σ 263) : DD K m c L l p σ' := by
  rcases h with ⟨a, b⟩ | ⟨a, b1, b2, b3, b4, b5, b6⟩
  · exact Or.inl ⟨by rw [h2]; exact a, by rw [h3]; exact b⟩
  · exact Or.inr ⟨a, by rw [h2]; exact b1, b2, by rw [h0]; exact b3, b4, by rw [hk.2.2.1 12 (by unfold eA; omega)]; exact b5, by rw [hk.1 261 (by unfold eI; omega)]; exact b6⟩
theorem BX_add {K : Nat → Nat} {m c L t d : Nat} {σ τ σ' : Sta} (h : BX K m c L t d σ τ) (hk : Ke σ σ') (h0 : gI σ' 260 = gI σ 260) (h2 : gI σ' 262 = gI σ 262) (h3 : gI σ' 263 = gI σ 263) : BX K m c L t d σ' τ :=
  ⟨TOK_k h.1 hk Kp.rfl', h.2.1, h.2.2.1, h.2.2.2.1, h.2.2.2.2.1, by rw [h2]; exact h.2.2.2.2.2.1, by rw [h0]; exact h.2.2.2.2.2.2.1, h.2.2.2.2.2.2.2.1, by rw [hk.1 261 (by unfold eI; omega)]; exact h.2.2.2.2.2.2.2.2.1, h.2.2.2.2.2.2.2.2.2.1, h.2.2.2.2.2.2.2.2.2.2.1, by rw [hk.1 259 (by unfold eI; omega), h3]; exact h.2.2.2.2.2.2.2.2.2.2.2⟩
/-! nothing is read when something is wrong -/
theorem k_fac {n : Nat} {d : Int32} {σ : Sta} (h : gI σ 262 ≠ 0) : (fr_X1R (n + 1)).2.1 d σ = some ((), σ) := by
  show fb_X1_readFactor _ _ _ d σ = _
  unfold fb_X1_readFactor f_X1_readFactor_275
  rw [c_look_sk h, bnd_s, if_neg (by decide), if_neg (by decide), if_neg (by decide), if_neg (by decide), if_neg (by decide), if_neg (by decide), if_neg (by decide), if_neg (by decide), c_fail_sk h, bnd_s]
theorem k_loop {n : Nat} {R1 : Int32 → Int32 → Sta → Option (Unit × Sta)} {R2 : Int32 → Sta → Option (Unit × Sta)} {R3 : Int32 → Int32 → Sta → Option (Unit × Sta)} {l : Nat} (hl : l < 5) (d v3 v5 : Int32) (σ : Sta) : f_X1_readLevel_40 R1 R2 R3 (n + 1) (nI l) d v3 279 v5 σ = some ((), σ) := by
  rw [f_X1_readLevel_40]
  unfold f_X1_readLevel_95
  by_cases q : v3 ≤ v5
  · rw [if_pos q]
  · obtain ⟨r, r1, r2⟩ := c_level9 hl σ
    rw [if_neg q, r1, bnd_s, if_neg r2]
theorem k_lev : ∀ (n l : Nat) (d : Int32) (σ : Sta), gI σ 262 ≠ 0 → 7 ≤ n + l → l ≤ 5 → (fr_X1R n).1 (nI l) d σ = some ((), σ)
  | 0, l, d, σ, h, hn, hl => by omega
  | n + 1, l, d, σ, h, hn, hl => by
    show fb_X1_readLevel _ _ _ (nI l) d σ = _
    unfold fb_X1_readLevel f_X1_readLevel_30
    by_cases q : l < 5
    · rw [if_pos (by rw [nI_leL (by omega) (by decide)]; omega), nI_1, k_lev n (l + 1) d σ h (by omega) (by omega), bnd_s, c_look_sk h, bnd_s]
      by_cases q2 : nI l = 2
      · rw [if_pos q2]; exact k_loop q _ _ _ _
      · rw [if_neg q2, bnd_s]; exact k_loop q _ _ _ _
    · rw [if_neg (by rw [nI_leL (by omega) (by decide)]; omega)]
      obtain ⟨n2, rfl⟩ : ∃ n2, n = n2 + 1 := ⟨n - 1, by omega⟩
      rw [k_fac h, bnd_s]
