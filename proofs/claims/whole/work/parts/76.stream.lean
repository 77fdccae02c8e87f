/-! The stream of tokens. -/
def kt67 : Nat → Prop := fun q => q = 67
def kt11 : Nat → Prop := fun q => q = 11 ∨ q = 12
def kt13 : Nat → Prop := fun q => q = 13
def kt4 : Nat → Prop := fun q => q = 4
def kt3 : Nat → Prop := fun q => q = 3 ∨ q = 4
def kt5 : Nat → Prop := fun q => q = 5
def KtC (σ σ' : Sta) : Prop := Kp kt67 n0 kt11 kt13 σ σ'
def KtM (τ τ' : Sta) : Prop := Kp kt4 n0 kt3 kt5 τ τ'
theorem KtC_put (σ : Sta) (m : Nat) (c p : Int32) (v : Int64) : KtC σ (putC σ m c p v) := Kp.sI rfl (Kp.sJ rfl (Kp.sA (Or.inr rfl) (Kp.sA (Or.inl rfl) Kp.rfl')))
theorem KtM_put (τ : Sta) (m : Nat) (c p : Int32) (v : Int64) : KtM τ (putM τ m c p v) := Kp.sI rfl (Kp.sJ rfl (Kp.sA (Or.inr rfl) (Kp.sA (Or.inl rfl) Kp.rfl')))
/-- the reference's kind of the token j -/
def tk (τ : Sta) (j : Nat) : Nat := (gA τ 3 j).toNatClampNeg
def TK (m : Nat) (σ τ : Sta) : Prop := ∀ j, j < m → KV (tk τ j) ∧ gA τ 3 j = nI (tk τ j) ∧ gA σ 11 j = nI (kC (tk τ j)) ∧ gA σ 12 j = gA τ 4 j ∧ (tk τ j < 203 → gJ σ 13 j = gJ τ 5 j) ∧ (tk τ j = 200 → gJ τ 5 j ≠ 0)
def TOK (m c : Nat) (σ τ : Sta) : Prop := m ≤ 1500 ∧ m < c ∧ c ≤ 1501 ∧ gI σ 67 = nI c ∧ gI τ 4 = nI (m + 1) ∧ TK (m + 1) σ τ ∧ (∀ j, j < m → tk τ j < 202) ∧ ((tk τ m = 202 ∧ c = m + 1) ∨ tk τ m = 203)
section TS
variable {tl : Nat} {B : Nat → Nat}
theorem TB_k {σ τ σ' τ' : Sta} (h : TB tl B σ τ) (hc : KtC σ σ') (hm : KtM τ τ') : TB tl B σ' τ' := by
  refine ⟨by rw [hm.1 3 (by unfold kt4; omega)]; exact h.1, fun j hj => ?_⟩
  rw [hc.2.2.1 8 (by unfold kt11; omega), hm.2.2.1 2 (by unfold kt3; omega)]
  exact h.2 j hj
theorem tk_put {τ : Sta} {m k : Nat} (hk : k < 2 ^ 31) (p : Int32) (v : Int64) (j : Nat) : tk (putM τ m (nI k) p v) j = if j = m then k else tk τ j := by
  unfold tk
  show (upd (gA τ 3) m (nI k) j).toNatClampNeg = _
  rw [upd_at]
  by_cases q : j = m
  · rw [if_pos q, if_pos q, nI_clamp hk]
  · rw [if_neg q, if_neg q]
theorem TK_put {σ τ : Sta} {m k : Nat} {p : Int32} {v v' : Int64} (h : TK m σ τ) (hk : KV k) (hv : k < 203 → v = v') (hz : k = 200 → v ≠ 0) : TK (m + 1) (putC σ m (nI (kC k)) p v) (putM τ m (nI k) p v') := fun j hj => by
  have hk2 : k < 2 ^ 31 := by omega
  rw [tk_put hk2]
  show _ ∧ upd (gA τ 3) m (nI k) j = _ ∧ upd (gA σ 11) m (nI (kC k)) j = _ ∧ upd (gA σ 12) m p j = upd (gA τ 4) m p j ∧ (_ → vp_updL (gJ σ 13) m v j = vp_updL (gJ τ 5) m v' j) ∧ (_ → vp_updL (gJ τ 5) m v' j ≠ 0)
  rw [upd_at, upd_at, upd_at, upd_at, updL_at, updL_at]
  by_cases q : j = m
  · rw [if_pos q, if_pos q, if_pos q, if_pos q, if_pos q, if_pos q, if_pos q]
    exact ⟨hk, rfl, rfl, rfl, hv, fun e => by rw [← hv (by omega)]; exact hz e⟩
  · rw [if_neg q, if_neg q, if_neg q, if_neg q, if_neg q, if_neg q, if_neg q]
    exact h j (by omega)
theorem e_rest {τ : Sta} (htl : tl ≤ 1500) (hK : ∀ k, k < 17 → gJ τ 1 k = kwW k) {m' : Nat} (h4 : gI τ 4 = nI m') (hm' : m' < 1501) : ∀ (n i m cnt : Nat) (σ : Sta), tl - i < n → i ≤ tl → m ≤ cnt → cnt ≤ i → TB tl B σ τ → gI σ 67 = nI m →
    ∃ σ' c, f_X7_read_10 n (nI tl) (nI i) (nI cnt) σ = some ((), σ') ∧ gI σ' 67 = nI c ∧ m < c ∧ c ≤ 1501 ∧ (∀ j, j < m → gA σ' 11 j = gA σ 11 j ∧ gA σ' 12 j = gA σ 12 j ∧ gJ σ' 13 j = gJ σ 13 j) ∧ KtC σ σ'
  | 0, _, _, _, _, hn, _, _, _, _, _ => absurd hn (Nat.not_lt_zero _)
  | n + 1, i, m, cnt, σ, hn, hi, hm, hc, hT, h67 => by
    have low : ∀ (cc p : Int32) (v : Int64) (j : Nat), j < m → gA (putC σ m cc p v) 11 j = gA σ 11 j ∧ gA (putC σ m cc p v) 12 j = gA σ 12 j ∧ gJ (putC σ m cc p v) 13 j = gJ σ 13 j := fun cc p v j hj => by
      refine ⟨?_, ?_, ?_⟩
      · show upd (gA σ 11) m cc j = _
        rw [upd_at, if_neg (by omega)]
      · show upd (gA σ 12) m p j = _
        rw [upd_at, if_neg (by omega)]
      · show vp_updL (gJ σ 13) m v j = _
        rw [updL_at, if_neg (by omega)]
    by_cases q : tl ≤ i
    · refine ⟨putC σ m 278 (nI tl) 0, m + 1, ?_, rfl, by omega, by omega, fun j hj => low _ _ _ j hj, KtC_put _ _ _ _ _⟩
      rw [f_X7_read_10]
      unfold f_X7_read_37
      rw [if_pos (show nI tl ≤ nI i from nI_le q (by omega)), e_put h67 (by omega), bnd_s]
      by_cases q2 : (1500 : Int32) ≤ nI cnt
      · rw [if_pos q2]
      · rw [if_neg q2]
    · have hi' : i < tl := by omega
      have hst : ¬ (1500 : Int32) ≤ nI cnt := by rw [nI_Lle (by omega) (by decide)]; omega
      rcases e_lex hT htl hK hi' h67 (by omega) h4 hm' (fun _ _ => none) with ⟨a1, a2⟩ | ⟨k, i', v, v', a1, a2, a3, a4, a5, a6, a7, a8⟩
      · obtain ⟨σ', c, b1, b2, b3, b4, b5, b6⟩ := e_rest htl hK h4 hm' n (i + 1) m (cnt + 1) σ (by omega) (by omega) (by omega) (by omega) hT h67
        refine ⟨σ', c, ?_, b2, b3, b4, b5, b6⟩
        rw [f_X7_read_10, if_neg hst, if_neg (nI_ge hi' (by omega)), a1, bnd_s, lt_e, nI_1, b1]
      · have hK1 := KtC_put σ m (nI (kC k)) (nI i) v
        obtain ⟨σ', c, b1, b2, b3, b4, b5, b6⟩ := e_rest htl hK h4 hm' n i' (m + 1) (cnt + 1) (putC σ m (nI (kC k)) (nI i) v) (by omega) (by omega) (by omega) (by omega) (TB_k hT hK1 Kp.rfl') rfl
        refine ⟨σ', c, ?_, b2, by omega, b4, fun j hj => ?_, Kp.trans hK1 b6⟩
        · rw [f_X7_read_10, if_neg hst, if_neg (nI_ge hi' (by omega)), a7, bnd_s, lt_e, nI_1, b1]
        · obtain ⟨c1, c2, c3⟩ := b5 j (by omega)
          obtain ⟨d1, d2, d3⟩ := low (nI (kC k)) (nI i) v j hj
          exact ⟨c1.trans d1, c2.trans d2, c3.trans d3⟩
theorem e_main (htl : tl ≤ 1500) : ∀ (n i m cnt n7 n31 : Nat) (σ τ : Sta), tl - i < n → tl - i < n7 → tl - i < n31 → i ≤ tl → m ≤ cnt → cnt ≤ i → TB tl B σ τ → (∀ k, k < 17 → gJ τ 1 k = kwW k) → gI σ 67 = nI m → gI τ 4 = nI m → TK m σ τ → (∀ j, j < m → tk τ j < 202) →
    ∃ σ' τ' m' c, f_X7_read_10 n (nI tl) (nI i) (nI cnt) σ = some ((), σ') ∧ f_X10_cutTokens_31 (f_X10_cutTokens_7 n7) n31 (nI i) τ = some ((), τ') ∧ TOK m' c σ' τ' ∧ KtC σ σ' ∧ KtM τ τ'
  | 0, _, _, _, _, _, _, _, hn, _, _, _, _, _, _, _, _, _, _, _ => absurd hn (Nat.not_lt_zero _)
  | _, _, _, _, 0, _, _, _, _, hn, _, _, _, _, _, _, _, _, _, _ => absurd hn (Nat.not_lt_zero _)
  | _, _, _, _, _, 0, _, _, _, _, hn, _, _, _, _, _, _, _, _, _ => absurd hn (Nat.not_lt_zero _)
  | n + 1, i, m, cnt, n7 + 1, n31 + 1, σ, τ, hn, hn7, hn31, hi, hm, hc, hT, hK, h67, h4, hTK, hlow => by
    have stop : ∀ (k : Nat) (p : Int32) (v : Int64) (x : Int32), 202 ≤ k → k < 2 ^ 31 → f_X10_cutTokens_7 (n7 + 1) x (putM τ m (nI k) p v) = some ((), putM τ m (nI k) p v) := fun k p v x h1 h2 => by
      rw [f_X10_cutTokens_7, show gI (putM τ m (nI k) p v) 4 = nI (m + 1) from rfl, if_neg (nI_ne0 (by omega) (by omega)), nI_subL (by omega), if_neg (nI_in (by omega) (by omega)), nI_clamp (by omega), show gA (putM τ m (nI k) p v) 3 (m + 1 - 1) = upd (gA τ 3) m (nI k) (m + 1 - 1) from rfl, upd_at, if_pos (show m + 1 - 1 = m by omega), if_pos (by rw [nI_Lle (by omega) (by decide)]; exact h1)]
    by_cases q : tl ≤ i
    · refine ⟨putC σ m 278 (nI tl) 0, putM τ m 202 (nI tl) 0, m, m + 1, ?_, ?_, ⟨by omega, by omega, by omega, rfl, rfl, TK_put (k := 202) hTK (Or.inr (Or.inr ⟨by decide, by decide⟩)) (fun _ => rfl) (fun e => absurd e (by decide)), fun j hj => ?_, Or.inl ⟨?_, rfl⟩⟩, KtC_put _ _ _ _ _, KtM_put _ _ _ _ _⟩
      · rw [f_X7_read_10]
        unfold f_X7_read_37
        rw [if_pos (show nI tl ≤ nI i from nI_le q (by omega)), e_put h67 (by omega), bnd_s]
        by_cases q2 : (1500 : Int32) ≤ nI cnt
        · rw [if_pos q2]
        · rw [if_neg q2]
      · rw [f_X10_cutTokens_31, m_byte hT htl (by omega), if_neg (show ¬ i < tl by omega), bnd_s, if_neg (by decide), m_byte hT htl (by omega), if_neg (show ¬ i < tl by omega), bnd_s, if_neg (by decide), m_byte hT htl (by omega), if_neg (show ¬ i < tl by omega), bnd_s, if_pos rfl, e_tok h4 (by omega), bnd_s, hT.1]
        unfold f_X10_cutTokens_279
        exact stop 202 (nI tl) 0 (nI i) (by decide) (by decide)
      · rw [show putM τ m 202 (nI tl) 0 = putM τ m (nI 202) (nI tl) 0 from rfl, tk_put (by decide), if_neg (by omega)]
        exact hlow j hj
      · rw [show putM τ m 202 (nI tl) 0 = putM τ m (nI 202) (nI tl) 0 from rfl, tk_put (by decide), if_pos rfl]
    · have hi' : i < tl := by omega
      have hst : ¬ (1500 : Int32) ≤ nI cnt := by rw [nI_Lle (by omega) (by decide)]; omega
      rcases e_lex hT htl hK hi' h67 (by omega) h4 (by omega) (f_X10_cutTokens_7 (n7 + 1)) with ⟨a1, a2⟩ | ⟨k, i', v, v', a1, a2, a3, a4, a5, a6, a7, a8⟩
      · obtain ⟨σ', τ', m', c, b1, b2, b3, b4, b5⟩ := e_main htl n (i + 1) m (cnt + 1) (n7 + 1) n31 σ τ (by omega) (by omega) (by omega) (by omega) (by omega) (by omega) hT hK h67 h4 hTK hlow
        refine ⟨σ', τ', m', c, ?_, ?_, b3, b4, b5⟩
        · rw [f_X7_read_10, if_neg hst, if_neg (nI_ge hi' (by omega)), a1, bnd_s, lt_e, nI_1, b1]
        · rw [a2, b2]
      · have hK1 := KtC_put σ m (nI (kC k)) (nI i) v
        have hM1 := KtM_put τ m (nI k) (nI i) v'
        have hk2 : k < 2 ^ 31 := by omega
        have hT1 := TB_k hT hK1 hM1
        have hTK1 := TK_put (p := nI i) hTK a1 a5 a6
        have hKey : ∀ j, j < 17 → gJ (putM τ m (nI k) (nI i) v') 1 j = kwW j := fun j hj => by rw [hM1.2.2.2.1 1 (by unfold kt5; omega)]; exact hK j hj
        by_cases q2 : k = 203
        · obtain ⟨σ', c, b1, b2, b3, b4, b5, b6⟩ := e_rest htl hKey (m' := m + 1) rfl (by omega) n i' (m + 1) (cnt + 1) (putC σ m (nI (kC k)) (nI i) v) (by omega) (by omega) (by omega) (by omega) hT1 rfl
          refine ⟨σ', putM τ m (nI k) (nI i) v', m, c, ?_, ?_, ⟨by omega, by omega, b4, b2, rfl, fun j hj => ?_, fun j hj => ?_, Or.inr ?_⟩, Kp.trans hK1 b6, hM1⟩
          · rw [f_X7_read_10, if_neg hst, if_neg (nI_ge hi' (by omega)), a7, bnd_s, lt_e, nI_1, b1]
          · rw [a8, stop k _ _ _ (by omega) hk2]
          · obtain ⟨c1, c2, c3⟩ := b5 j hj
            rw [c1, c2, c3]
            exact hTK1 j hj
          · rw [tk_put hk2, if_neg (by omega)]
            exact hlow j hj
          · rw [tk_put hk2, if_pos rfl]
            exact q2
        · obtain ⟨σ', τ', m', c, b1, b2, b3, b4, b5⟩ := e_main htl n i' (m + 1) (cnt + 1) n7 FU (putC σ m (nI (kC k)) (nI i) v) (putM τ m (nI k) (nI i) v') (by omega) (by omega) (Nat.lt_of_le_of_lt (by omega) (FU_lt (n := 1500) (by decide))) (by omega) (by omega) (by omega) hT1 hKey rfl rfl hTK1 (fun j hj => by
            rw [tk_put hk2]
            by_cases q3 : j = m
            · rw [if_pos q3]; omega
            · rw [if_neg q3]; exact hlow j (by omega))
          refine ⟨σ', τ', m', c, ?_, ?_, b3, Kp.trans hK1 b4, Kp.trans hM1 b5⟩
          · rw [f_X7_read_10, if_neg hst, if_neg (nI_ge hi' (by omega)), a7, bnd_s, lt_e, nI_1, b1]
          · rw [a8, f_X10_cutTokens_7, show gI (putM τ m (nI k) (nI i) v') 4 = nI (m + 1) from rfl, if_neg (nI_ne0 (by omega) (by omega)), nI_subL (by omega), if_neg (nI_in (by omega) (by omega)), nI_clamp (by omega), show gA (putM τ m (nI k) (nI i) v') 3 (m + 1 - 1) = upd (gA τ 3) m (nI k) (m + 1 - 1) from rfl, upd_at, if_pos (show m + 1 - 1 = m by omega), if_neg (by rw [nI_Lle (by omega) (by decide)]; omega), b2]
/-- reading the tape, on both sides -/
theorem e_read {σ τ : Sta} (htl : tl ≤ 1500) (hT : TB tl B σ τ) (hK : ∀ k, k < 17 → gJ τ 1 k = kwW k) : ∃ σ' τ' m c, f_X7_read (nI tl) σ = some ((), σ') ∧ f_X10_cutTokens τ = some ((), τ') ∧ TOK m c σ' τ' ∧ KtC σ σ' ∧ KtM τ τ' := by
  have hc : KtC σ (sI σ 67 0) := Kp.sI rfl Kp.rfl'
  have hm : KtM τ (sI τ 4 0) := Kp.sI rfl Kp.rfl'
  obtain ⟨σ', τ', m, c, b1, b2, b3, b4, b5⟩ := e_main (B := B) htl FU 0 0 0 999999999 FU (sI σ 67 0) (sI τ 4 0) (Nat.lt_of_le_of_lt (by omega) (FU_lt (n := 1500) (by decide))) (by omega) (Nat.lt_of_le_of_lt (by omega) (FU_lt (n := 1500) (by decide))) (by omega) (by omega) (by omega) (TB_k hT hc hm) hK rfl rfl (fun j hj => absurd hj (Nat.not_lt_zero _)) (fun j hj => absurd hj (Nat.not_lt_zero _))
  refine ⟨σ', τ', m, c, ?_, ?_, b3, Kp.trans hc b4, Kp.trans hm b5⟩
  · unfold f_X7_read
    rw [lt_e]
    exact b1
  · unfold f_X10_cutTokens
    rw [lt_e, show FU = 999999999 + 1 from rfl, f_X10_cutTokens_7, show gI (sI τ 4 0) 4 = 0 from rfl, if_pos rfl]
    exact b2
end TS
