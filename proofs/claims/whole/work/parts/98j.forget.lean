/-! Reading the tape once more: where the last token stands. -/
section TS7
variable {tl : Nat} {B : Nat → Nat}
theorem e_main7 (htl : tl ≤ 1500) : ∀ (n i m cnt n7 n31 : Nat) (σ τ : Sta), tl - i < n → tl - i < n7 → tl - i < n31 → i ≤ tl → m ≤ cnt → cnt ≤ i → TB tl B σ τ → (∀ k, k < 17 → gJ τ 1 k = kwW k) → gI σ 67 = nI m → gI τ 4 = nI m → TK m σ τ → (∀ j, j < m → tk τ j < 202) →
    ∃ σ' τ' m' c, f_X7_read_10 n (nI tl) (nI i) (nI cnt) σ = some ((), σ') ∧ f_X10_cutTokens_31 (f_X10_cutTokens_7 n7) n31 (nI i) τ = some ((), τ') ∧ TOK m' c σ' τ' ∧ KtC σ σ' ∧ KtM τ τ' ∧ (tk τ' m' = 202 → gA τ' 4 m' = nI tl)
  | 0, _, _, _, _, _, _, _, hn, _, _, _, _, _, _, _, _, _, _, _ => absurd hn (Nat.not_lt_zero _)
  | _, _, _, _, 0, _, _, _, _, hn, _, _, _, _, _, _, _, _, _, _ => absurd hn (Nat.not_lt_zero _)
  | _, _, _, _, _, 0, _, _, _, _, hn, _, _, _, _, _, _, _, _, _ => absurd hn (Nat.not_lt_zero _)
  | n + 1, i, m, cnt, n7 + 1, n31 + 1, σ, τ, hn, hn7, hn31, hi, hm, hc, hT, hK, h67, h4, hTK, hlow => by
    have stop : ∀ (k : Nat) (p : Int32) (v : Int64) (x : Int32), 202 ≤ k → k < 2 ^ 31 → f_X10_cutTokens_7 (n7 + 1) x (putM τ m (nI k) p v) = some ((), putM τ m (nI k) p v) := fun k p v x h1 h2 => by
      rw [f_X10_cutTokens_7, show gI (putM τ m (nI k) p v) 4 = nI (m + 1) from rfl, if_neg (nI_ne0 (by omega) (by omega)), nI_subL (by omega), if_neg (nI_in (by omega) (by omega)), nI_clamp (by omega), show gA (putM τ m (nI k) p v) 3 (m + 1 - 1) = upd (gA τ 3) m (nI k) (m + 1 - 1) from rfl, upd_at, if_pos (show m + 1 - 1 = m by omega), if_pos (by rw [nI_Lle (by omega) (by decide)]; exact h1)]
    by_cases q : tl ≤ i
    · refine ⟨putC σ m 278 (nI tl) 0, putM τ m 202 (nI tl) 0, m, m + 1, ?_, ?_, ⟨by omega, by omega, by omega, rfl, rfl, TK_put (k := 202) hTK (Or.inr (Or.inr ⟨by decide, by decide⟩)) (fun _ => rfl) (fun e => absurd e (by decide)), fun j hj => ?_, Or.inl ⟨?_, rfl⟩⟩, KtC_put _ _ _ _ _, KtM_put _ _ _ _ _, fun _ => ?_⟩
      · rw [f_X7_read_10]
        unfold f_X7_read_37
        rw [if_pos (show nI tl ≤ nI i from nI_le q (by omega)), e_put h67 (by omega), bnd_s]
        by_cases q2 : (1500 : Int32) ≤ nI cnt
        · rw [if_pos q2]
        · rw [if_neg q2]
      · rw [f_X10_cutTokens_31, m_byte hT htl (by omega), if_neg (show ¬ i < tl by omega), bnd_s, if_neg (by decide), m_byte hT htl (by omega), if_neg (show ¬ i < tl by omega), bnd_s, if_neg (by decide), m_byte hT htl (by omega), if_neg (show ¬ i < tl by omega), bnd_s, if_pos rfl, e_tok h4 (by omega), bnd_s, hT.1]
        unfold f_X10_cutTokens_279
        exact stop 202 (nI tl) 0 (nI i) (by decide) (by decide)
      · rw [show putM τ m 202 (nI tl) 0 = putM τ m (nI 202) (nI tl) 0 from rfl, tk_put (by decide), if_neg (by omega)]
        exact hlow j hj
      · rw [show putM τ m 202 (nI tl) 0 = putM τ m (nI 202) (nI tl) 0 from rfl, tk_put (by decide), if_pos rfl]
      · show upd (gA τ 4) m (nI tl) m = nI tl
        rw [upd_at, if_pos rfl]
    · have hi' : i < tl := by omega
      have hst : ¬ (1500 : Int32) ≤ nI cnt := by rw [nI_Lle (by omega) (by decide)]; omega
      rcases e_lex hT htl hK hi' h67 (by omega) h4 (by omega) (f_X10_cutTokens_7 (n7 + 1)) with ⟨a1, a2⟩ | ⟨k, i', v, v', a1, a2, a3, a4, a5, a6, a7, a8⟩
      · obtain ⟨σ', τ', m', c, b1, b2, b3, b4, b5, b6⟩ := e_main7 htl n (i + 1) m (cnt + 1) (n7 + 1) n31 σ τ (by omega) (by omega) (by omega) (by omega) (by omega) (by omega) hT hK h67 h4 hTK hlow
        refine ⟨σ', τ', m', c, ?_, ?_, b3, b4, b5, b6⟩
        · rw [f_X7_read_10, if_neg hst, if_neg (nI_ge hi' (by omega)), a1, bnd_s, lt_e, nI_1, b1]
        · rw [a2, b2]
      · have hK1 := KtC_put σ m (nI (kC k)) (nI i) v
        have hM1 := KtM_put τ m (nI k) (nI i) v'
        have hk2 : k < 2 ^ 31 := by omega
        have hT1 := TB_k hT hK1 hM1
        have hTK1 := TK_put (p := nI i) hTK a1 a5 a6
        have hKey : ∀ j, j < 17 → gJ (putM τ m (nI k) (nI i) v') 1 j = kwW j := fun j hj => by rw [hM1.2.2.2.1 1 (by unfold kt5; omega)]; exact hK j hj
        by_cases q2 : k = 203
        · obtain ⟨σ', c, b1, b2, b3, b4, b5, b6⟩ := e_rest htl hKey (m' := m + 1) rfl (by omega) n i' (m + 1) (cnt + 1) (putC σ m (nI (kC k)) (nI i) v) (by omega) (by omega) (by omega) (by omega) hT1 rfl
          refine ⟨σ', putM τ m (nI k) (nI i) v', m, c, ?_, ?_, ⟨by omega, by omega, b4, b2, rfl, fun j hj => ?_, fun j hj => ?_, Or.inr ?_⟩, Kp.trans hK1 b6, hM1, fun e => ?_⟩
          · rw [f_X7_read_10, if_neg hst, if_neg (nI_ge hi' (by omega)), a7, bnd_s, lt_e, nI_1, b1]
          · rw [a8, stop k _ _ _ (by omega) hk2]
          · obtain ⟨c1, c2, c3⟩ := b5 j hj
            rw [c1, c2, c3]
            exact hTK1 j hj
          · rw [tk_put hk2, if_neg (by omega)]
            exact hlow j hj
          · rw [tk_put hk2, if_pos rfl]
            exact q2
          · rw [tk_put hk2, if_pos rfl] at e
            omega
        · obtain ⟨σ', τ', m', c, b1, b2, b3, b4, b5, b6⟩ := e_main7 htl n i' (m + 1) (cnt + 1) n7 FU (putC σ m (nI (kC k)) (nI i) v) (putM τ m (nI k) (nI i) v') (by omega) (by omega) (Nat.lt_of_le_of_lt (by omega) (FU_lt (n := 1500) (by decide))) (by omega) (by omega) (by omega) hT1 hKey rfl rfl hTK1 (fun j hj => by
            rw [tk_put hk2]
            by_cases q3 : j = m
            · rw [if_pos q3]; omega
            · rw [if_neg q3]; exact hlow j (by omega))
          refine ⟨σ', τ', m', c, ?_, ?_, b3, Kp.trans hK1 b4, Kp.trans hM1 b5, b6⟩
          · rw [f_X7_read_10, if_neg hst, if_neg (nI_ge hi' (by omega)), a7, bnd_s, lt_e, nI_1, b1]
          · rw [a8, f_X10_cutTokens_7, show gI (putM τ m (nI k) (nI i) v') 4 = nI (m + 1) from rfl, if_neg (nI_ne0 (by omega) (by omega)), nI_subL (by omega), if_neg (nI_in (by omega) (by omega)), nI_clamp (by omega), show gA (putM τ m (nI k) (nI i) v') 3 (m + 1 - 1) = upd (gA τ 3) m (nI k) (m + 1 - 1) from rfl, upd_at, if_pos (show m + 1 - 1 = m by omega), if_neg (by rw [nI_Lle (by omega) (by decide)]; omega), b2]
/-- reading the tape, on both sides -/
theorem e_read7 {σ τ : Sta} (htl : tl ≤ 1500) (hT : TB tl B σ τ) (hK : ∀ k, k < 17 → gJ τ 1 k = kwW k) : ∃ σ' τ' m c, f_X7_read (nI tl) σ = some ((), σ') ∧ f_X10_cutTokens τ = some ((), τ') ∧ TOK m c σ' τ' ∧ KtC σ σ' ∧ KtM τ τ' ∧ (tk τ' m = 202 → gA τ' 4 m = nI tl) := by
  have hc : KtC σ (sI σ 67 0) := Kp.sI rfl Kp.rfl'
  have hm : KtM τ (sI τ 4 0) := Kp.sI rfl Kp.rfl'
  obtain ⟨σ', τ', m, c, b1, b2, b3, b4, b5, b6⟩ := e_main7 (B := B) htl FU 0 0 0 999999999 FU (sI σ 67 0) (sI τ 4 0) (Nat.lt_of_le_of_lt (by omega) (FU_lt (n := 1500) (by decide))) (by omega) (Nat.lt_of_le_of_lt (by omega) (FU_lt (n := 1500) (by decide))) (by omega) (by omega) (by omega) (TB_k hT hc hm) hK rfl rfl (fun j hj => absurd hj (Nat.not_lt_zero _)) (fun j hj => absurd hj (Nat.not_lt_zero _))
  refine ⟨σ', τ', m, c, ?_, ?_, b3, Kp.trans hc b4, Kp.trans hm b5, b6⟩
  · unfold f_X7_read
    rw [lt_e]
    exact b1
  · unfold f_X10_cutTokens
    rw [lt_e, show FU = 999999999 + 1 from rfl, f_X10_cutTokens_7, show gI (sI τ 4 0) 4 = 0 from rfl, if_pos rfl]
    exact b2
end TS7
/-! A program is forgotten. -/
def fgC (σ : Sta) : Sta := fillA (sI (fillJ (sI (sI (sI (sI (sI (sI σ 192 0) 197 0) 202 0) 201 (-1)) 322 0) 450 0) 40 0 3 (fun _ => 0)) 11 0) 9 0 3 (fun _ => 0)
theorem c_forget (σ : Sta) : f_X8_forgetProgram σ = some ((), fgC σ) := by
  unfold f_X8_forgetProgram f_X4_clear f_X5_clear f_X3_clear
  simp only [lt_e, bnd_s]
  rw [e_fillJ (by decide), bnd_s, bnd_s, e_fillA (by decide), bnd_s]
  rfl
theorem m_c62 : ∀ (m k n : Nat) (τ : Sta), k + m = 4 → m < n → f_X10_clearProgram_62 n (nI k) τ = some ((), fillJ τ 37 k 4 (fun _ => 0))
  | _, _, 0, _, _, hn => absurd hn (Nat.not_lt_zero _)
  | 0, k, n + 1, τ, hk, hn => by
    rw [f_X10_clearProgram_62, if_pos (show (4 : Int32) ≤ nI k by rw [nI_Lle (by omega) (by decide)]; omega), show k = 4 by omega, fillJ_0]
  | m + 1, k, n + 1, τ, hk, hn => by
    rw [f_X10_clearProgram_62, if_neg (show ¬ (4 : Int32) ≤ nI k by rw [nI_Lle (by omega) (by decide)]; omega), if_neg (nI_in (by omega) (by decide)), lt_e, lt_e, nI_1, nI_clamp (by omega), m_c62 m (k + 1) n _ (by omega) (by omega), fillJ_s (v := fun _ => 0) (by omega)]
theorem m_c42 : ∀ (m k n : Nat) (τ : Sta), k + m = 3 → m < n → f_X10_clearProgram_42 n (nI k) τ = some ((), fillJ (fillA τ 29 k 3 (fun _ => 0)) 37 0 4 (fun _ => 0))
  | _, _, 0, _, _, hn => absurd hn (Nat.not_lt_zero _)
  | 0, k, n + 1, τ, hk, hn => by
    rw [f_X10_clearProgram_42, if_pos (show (3 : Int32) ≤ nI k by rw [nI_Lle (by omega) (by decide)]; omega), show k = 3 by omega, fillA_0]
    exact m_c62 4 0 FU τ rfl (FU_lt (by decide))
  | m + 1, k, n + 1, τ, hk, hn => by
    rw [f_X10_clearProgram_42, if_neg (show ¬ (3 : Int32) ≤ nI k by rw [nI_Lle (by omega) (by decide)]; omega), if_neg (nI_in (by omega) (by decide)), lt_e, lt_e, nI_1, nI_clamp (by omega), m_c42 m (k + 1) n _ (by omega) (by omega), fillA_s (v := fun _ => 0) (by omega)]
def clM (τ : Sta) : Sta := fillJ (fillA (sI (sI (sI (sI (sI (sI (sI (sI τ 8 0) 10 0) 15 0) 18 (-1)) 19 0) 26 0) 37 0) 47 0) 29 0 3 (fun _ => 0)) 37 0 4 (fun _ => 0)
theorem m_clear (τ : Sta) : f_X10_clearProgram τ = some ((), clM τ) := by
  unfold f_X10_clearProgram
  rw [lt_e, lt_e, lt_e, lt_e, lt_e, lt_e, lt_e, lt_e]
  exact m_c42 3 0 FU _ rfl (FU_lt (by decide))
def ccI : Nat → Prop := fun q => q = 1 ∨ q = 11 ∨ q = 12 ∨ q = 67 ∨ q = 130 ∨ q = 133 ∨ q = 192 ∨ q = 197 ∨ q = 201 ∨ q = 202 ∨ (259 ≤ q ∧ q ≤ 263) ∨ q = 322 ∨ q = 329 ∨ q = 330 ∨ q = 450
def ccA : Nat → Prop := fun q => q = 9 ∨ q = 11 ∨ q = 12 ∨ q = 14 ∨ q = 16 ∨ q = 17 ∨ (20 ≤ q ∧ q ≤ 22) ∨ q = 24 ∨ q = 25 ∨ (27 ≤ q ∧ q ≤ 35) ∨ q = 37
def ccJ : Nat → Prop := fun q => q = 13 ∨ q = 15 ∨ q = 18 ∨ q = 19 ∨ q = 23 ∨ q = 26 ∨ q = 36 ∨ q = 40
def cmI : Nat → Prop := fun q => q = 0 ∨ q = 3 ∨ q = 4 ∨ q = 8 ∨ q = 10 ∨ q = 15 ∨ q = 18 ∨ q = 19 ∨ q = 26 ∨ (29 ≤ q ∧ q ≤ 35) ∨ q = 37 ∨ q = 47
def cmA : Nat → Prop := fun q => q = 3 ∨ q = 4 ∨ (8 ≤ q ∧ q ≤ 11) ∨ (14 ≤ q ∧ q ≤ 19) ∨ (21 ≤ q ∧ q ≤ 24) ∨ q = 26 ∨ q = 28 ∨ q = 29
def cmJ : Nat → Prop := fun q => q = 5 ∨ q = 6 ∨ q = 7 ∨ q = 12 ∨ q = 13 ∨ q = 20 ∨ q = 25 ∨ q = 27 ∨ q = 37
def Kcc (σ σ' : Sta) : Prop := Kp ccI n0 ccA ccJ σ σ'
def Kcm (τ τ' : Sta) : Prop := Kp cmI n0 cmA cmJ τ τ'
theorem Kcc_fg (σ : Sta) : Kcc σ (fgC σ) := Kp.sA (by unfold ccA; omega) (Kp.sI (by unfold ccI; omega) (Kp.sJ (by unfold ccJ; omega) (Kp.sI (by unfold ccI; omega) (Kp.sI (by unfold ccI; omega) (Kp.sI (by unfold ccI; omega) (Kp.sI (by unfold ccI; omega) (Kp.sI (by unfold ccI; omega) (Kp.sI (by unfold ccI; omega) Kp.rfl'))))))))
theorem Kcm_cl (τ : Sta) : Kcm τ (clM τ) := Kp.sJ (by unfold cmJ; omega) (Kp.sA (by unfold cmA; omega) (Kp.sI (by unfold cmI; omega) (Kp.sI (by unfold cmI; omega) (Kp.sI (by unfold cmI; omega) (Kp.sI (by unfold cmI; omega) (Kp.sI (by unfold cmI; omega) (Kp.sI (by unfold cmI; omega) (Kp.sI (by unfold cmI; omega) (Kp.sI (by unfold cmI; omega) Kp.rfl')))))))))
theorem REL_cmp {w w' : AW} {σ τ σ' τ' : Sta} (h : REL w σ τ) (hc : Kcc σ σ') (hm : Kcm τ τ') (c1 : gI σ' 1 = 0) (m3 : gI τ' 3 = 0) (c11 : gI σ' 11 = 0) (m47 : gI τ' 47 = 0) (c450 : gI σ' 450 = 0) (m37 : gJ τ' 37 0 = 0) (hp : ∀ g, g < 3 → gJ τ' 37 (1 + g) = gJ σ' 40 g) (hw : ∀ g, g < 3 → gA σ' 9 g = gA τ' 29 g) (h12 : gI σ' 12 = gI τ' 35)
    (hn : ∃ nc : Nat, nc ≤ 16 ∧ gI σ' 202 = nI nc ∧ gI τ' 19 = nI nc) (hv : ∀ v, v < aNv w' → gJ σ' 19 v = gJ τ' 7 v) (hs : ∃ sz : Nat, sz ≤ 1500 ∧ gI τ' 26 = nI sz) (w1 : AWok w') (w2 : aNs w' = 0 → aNg w' = 0) (w3 : AC w' σ') (w4 : AM w' τ') : REL w' σ' τ' := by
  obtain ⟨h1, h2, h3, h4, h5, h6, h7, h8⟩ := h
  obtain ⟨kp, s1, s2, s3, s4, s5, s6⟩ := h6
  obtain ⟨r1, r2, r3, r4, r5, r6, r7, r8⟩ := h8
  refine ⟨w1, w2, w3, w4, ⟨0, by omega, c1, m3, fun j hj => absurd hj (Nat.not_lt_zero _)⟩, ⟨0, by omega, c11, m47, fun e => absurd e (Nat.not_lt_zero _), Perm_kp s5 hc (fun q e => by unfold ccJ at e; omega), fun i hi => absurd hi (Nat.not_lt_zero _)⟩, ⟨0, by omega, c450, m37, hp⟩, h12, ?_, ?_, hw, hn, hv, hs, fun k hk => ?_⟩
  · rw [hc.2.1 13 id, hm.2.1 36 id]
    exact r2
  · rw [hc.2.1 449 id, hm.2.1 55 id]
    exact r3
  · rw [hm.2.2.2.1 1 (by unfold cmJ; omega)]
    exact r8 k hk
/-- the world of no program -/
def wE : AW := (0, 0, 0, fun _ => 0, fun _ => false, fun _ _ => 0, fun _ _ _ => 0, fun _ => 0, fun _ _ => 0, fun _ _ _ => 0, fun _ _ => 0)
theorem wE_ok : AWok wE := ⟨Nat.zero_le _, Nat.zero_le _, Nat.zero_le _, fun s hs => absurd hs (Nat.not_lt_zero _), fun s c hs => absurd hs (Nat.not_lt_zero _)⟩
theorem cmp_bad {w : AW} {σ τ σe τe : Sta} {p : Int32} (h : REL w σ τ) (hc : Kcc σ σe) (hm : Kcm τ τe) (c1 : gI σe 1 = 0) : REL wE (fgC (sI σe 12 p)) (sI (clM (sI τe 35 p)) 3 0) := by
  have i3 : ∀ g, g < 3 → 0 ≤ g ∧ g < 3 := fun g hg => ⟨Nat.zero_le _, hg⟩
  refine REL_cmp (w' := wE) h (Kp.trans (Kp.trans hc (Kp.sI (by unfold ccI; omega) Kp.rfl')) (Kcc_fg _)) (Kp.sI (by unfold cmI; omega) (Kp.trans (Kp.trans hm (Kp.sI (by unfold cmI; omega) Kp.rfl')) (Kcm_cl _))) c1 rfl rfl rfl rfl rfl (fun g hg => ?_) (fun g hg => ?_) rfl ⟨0, by omega, rfl, rfl⟩ (fun v hv => absurd hv (Nat.not_lt_zero _)) ⟨0, by omega, rfl⟩ wE_ok (fun _ => rfl) ⟨rfl, rfl, rfl, fun s hs => absurd hs (Nat.not_lt_zero _), fun s c hs => absurd hs (Nat.not_lt_zero _), fun s v hs => absurd hs (Nat.not_lt_zero _)⟩ ⟨rfl, rfl, rfl, fun s hs => absurd hs (Nat.not_lt_zero _), fun s c hs => absurd hs (Nat.not_lt_zero _), fun s v hs => absurd hs (Nat.not_lt_zero _)⟩
  · show (if 0 ≤ 1 + g ∧ 1 + g < 4 then (0 : Int64) else _) = (if 0 ≤ g ∧ g < 3 then (0 : Int64) else _)
    rw [if_pos (by omega), if_pos (i3 g hg)]
  · show (if 0 ≤ g ∧ g < 3 then (0 : Int32) else _) = (if 0 ≤ g ∧ g < 3 then (0 : Int32) else _)
    rw [if_pos (i3 g hg), if_pos (i3 g hg)]
