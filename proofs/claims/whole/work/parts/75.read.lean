/-! All tokens, on both sides. -/
theorem e_pair {b : Nat} (hb : b < 256) {s r : Int32} (h1 : s = 61 ↔ r = 61) (h2 : s = 62 ↔ r = 62) (v1 : Int32) (σ τ : Sta) :
    (f_X7_kindOfPair (nI b) s σ = some (279, σ) ∧ (if nI b = 60 then f_X10_symbol_26 v1 (nI b) r τ else if nI b = 62 then f_X10_symbol_26 v1 (nI b) r τ else f_X10_symbol_32 v1 (nI b) r τ) = f_X10_symbol_48 v1 (nI b) r τ) ∨
    (s ≠ 0 ∧ ∃ k, (k = 113 ∨ k = 114 ∨ k = 115) ∧ f_X7_kindOfPair (nI b) s σ = some (nI (kC k), σ) ∧ (if nI b = 60 then f_X10_symbol_26 v1 (nI b) r τ else if nI b = 62 then f_X10_symbol_26 v1 (nI b) r τ else f_X10_symbol_32 v1 (nI b) r τ) = f_X10_symbol_89 v1 1 (nI k) τ) := by
  have e60 : nI b = 60 ↔ b = 60 := nI_eqL (by omega) (by decide)
  have e62 : nI b = 62 ↔ b = 62 := nI_eqL (by omega) (by decide)
  unfold f_X7_kindOfPair f_X7_kindOfPair_16 f_X7_kindOfPair_32 f_X7_kindOfPair_50 f_X7_kindOfPair_53 f_X10_symbol_26 f_X10_symbol_32
  by_cases q1 : b = 60
  · subst q1
    by_cases s1 : s = 61
    · right
      refine ⟨by rw [s1]; decide, 113, Or.inl rfl, ?_, ?_⟩
      · rw [if_pos (by decide), if_pos s1]; rfl
      · rw [if_pos (by decide), if_pos (h1.mp s1)]
        unfold f_X10_symbol_44 f_X10_symbol_49
        rw [m_sym hb, bnd_s, if_neg (by decide), if_neg (by decide), if_pos (h1.mp s1)]; rfl
    · by_cases s2 : s = 62
      · right
        refine ⟨by rw [s2]; decide, 115, Or.inr (Or.inr rfl), ?_, ?_⟩
        · rw [if_pos (by decide), if_neg s1, if_neg (by decide), if_pos (by decide), if_pos s2]; rfl
        · rw [if_pos (by decide), if_neg (fun e => s1 (h1.mpr e)), if_pos (by decide), if_pos (h2.mp s2)]
          unfold f_X10_symbol_44 f_X10_symbol_49
          rw [m_sym hb, bnd_s, if_neg (by decide), if_neg (by decide), if_neg (fun e => s1 (h1.mpr e))]; rfl
      · left
        refine ⟨?_, ?_⟩
        · rw [if_pos (by decide), if_neg s1, if_neg (by decide), if_pos (by decide), if_neg s2]
        · rw [if_pos (by decide), if_neg (fun e => s1 (h1.mpr e)), if_pos (by decide), if_neg (fun e => s2 (h2.mpr e))]
  · by_cases q2 : b = 62
    · subst q2
      by_cases s1 : s = 61
      · right
        refine ⟨by rw [s1]; decide, 114, Or.inr (Or.inl rfl), ?_, ?_⟩
        · rw [if_neg (by decide), if_pos (by decide), if_pos s1]; rfl
        · rw [if_neg (by decide), if_pos (by decide), if_pos (h1.mp s1)]
          unfold f_X10_symbol_44 f_X10_symbol_49
          rw [m_sym hb, bnd_s, if_neg (by decide), if_pos (by decide)]; rfl
      · left
        refine ⟨?_, ?_⟩
        · rw [if_neg (by decide), if_pos (by decide), if_neg s1, if_neg (by decide)]
        · rw [if_neg (by decide), if_pos (by decide), if_neg (fun e => s1 (h1.mpr e)), if_neg (by decide)]
    · left
      refine ⟨?_, ?_⟩
      · rw [if_neg (fun e => q1 (e60.mp e)), if_neg (fun e => q2 (e62.mp e)), if_neg (fun e => q1 (e60.mp e))]
      · rw [if_neg (fun e => q1 (e60.mp e)), if_neg (fun e => q2 (e62.mp e)), if_neg (fun e => q1 (e60.mp e))]
section TR
variable {tl : Nat} {B : Nat → Nat} {σ τ : Sta}
theorem lN_ne {N L : Nat} (h : N < 256 ^ L) (hL : L ≤ 8) (h0 : 0 < N) : lN N ≠ 0 := fun e => by
  have h1 : (lN N).toBitVec.toNat = N % 2 ^ 64 := BitVec.toNat_ofNat N 64
  rw [e] at h1
  have h2 : 256 ^ L ≤ 256 ^ 8 := Nat.pow_le_pow_right (by decide) hL
  have h3 : (256 : Nat) ^ 8 = 2 ^ 64 := by decide
  have h4 : ((0 : Int64)).toBitVec.toNat = 0 := rfl
  omega
theorem e_lex (hT : TB tl B σ τ) (htl : tl ≤ 1500) (hK : ∀ k, k < 17 → gJ τ 1 k = kwW k) {i m m' : Nat} (hi : i < tl) (h67 : gI σ 67 = nI m) (hm : m < 1501) (h4 : gI τ 4 = nI m') (hm' : m' < 1501) (k7 : Int32 → Sta → Option (Unit × Sta)) :
    (f_X7_readOne (nI tl) (nI i) σ = some (nI (i + 1), σ) ∧ ∀ n, f_X10_cutTokens_31 k7 (n + 1) (nI i) τ = f_X10_cutTokens_31 k7 n (nI (i + 1)) τ) ∨
    (∃ k i' v v', KV k ∧ k ≠ 202 ∧ i < i' ∧ i' ≤ tl ∧ (k < 203 → v = v') ∧ (k = 200 → v ≠ 0) ∧ f_X7_readOne (nI tl) (nI i) σ = some (nI i', putC σ m (nI (kC k)) (nI i) v) ∧ ∀ n, f_X10_cutTokens_31 k7 (n + 1) (nI i) τ = k7 (nI i') (putM τ m' (nI k) (nI i) v')) := by
  have hb := hT.2 i hi
  have hbt := hb.2.2
  have hby : f_X10_byteAt (nI i) τ = some (nI (B i), τ) := by rw [m_byte hT htl (by omega), if_pos hi]
  have e32 : nI (B i) = 32 ↔ B i = 32 := nI_eqL (by omega) (by decide)
  have e10 : nI (B i) = 10 ↔ B i = 10 := nI_eqL (by omega) (by decide)
  have eCg : ¬ (nI i < 0 ∨ 1500 ≤ (nI i).toNatClampNeg) := nI_in (by omega) (by omega)
  by_cases w1 : B i = 32
  · left
    refine ⟨?_, fun n => ?_⟩
    · unfold f_X7_readOne f_X7_readOne_19
      rw [if_neg eCg, nI_clamp (by omega), hb.1, lt_e, if_pos (e32.mpr w1), nI_1]
    · rw [f_X10_cutTokens_31, hby, bnd_s, if_pos (e32.mpr w1)]
      unfold f_X10_cutTokens_51
      rw [lt_e, nI_1]
  · by_cases w2 : B i = 10
    · left
      refine ⟨?_, fun n => ?_⟩
      · unfold f_X7_readOne f_X7_readOne_19
        rw [if_neg eCg, nI_clamp (by omega), hb.1, lt_e, if_neg (fun e => w1 (e32.mp e)), if_pos (e10.mpr w2), nI_1]
      · rw [f_X10_cutTokens_31, hby, bnd_s, if_neg (fun e => w1 (e32.mp e)), hby, bnd_s, if_pos (e10.mpr w2)]
        unfold f_X10_cutTokens_51
        rw [lt_e, nI_1]
    · right
      have hne : ¬ nI (B i) = -1 := fun e => (nI_nm1 (by omega)).mp e
      by_cases w3 : 97 ≤ B i ∧ B i ≤ 122
      · obtain ⟨j, N', j1, j2, j3, j4, j5, j6, j7⟩ := e_word hT htl (st := i) k7 (tl - i) i FU FU 0 (by omega) (Nat.lt_of_le_of_lt (by omega) (FU_lt (n := 1500) (by decide))) (Nat.lt_of_le_of_lt (by omega) (FU_lt (n := 1500) (by decide))) (Nat.le_refl _) (by rw [Nat.sub_self]; decide) (fun e => absurd e (Nat.lt_irrefl _)) (fun _ => ⟨hi, w3⟩)
        have hC : ∀ n, f_X10_cutTokens_31 k7 (n + 1) (nI i) τ = f_X10_cutTokens_95 k7 FU (nI i) (nI i) 0 τ := fun n => by
          rw [f_X10_cutTokens_31, hby, bnd_s, if_neg (fun e => w1 (e32.mp e)), hby, bnd_s, if_neg (fun e => w2 (e10.mp e)), hby, bnd_s, if_neg hne, m_letter hbt, bnd_s, if_pos w3, ite10]
        have hR : f_X7_readOne (nI tl) (nI i) σ = bnd (f_X7_readWord_52 (nI i) (lN N') (nI j) σ) (fun r19 σ20 => some (r19, σ20)) := by
          unfold f_X7_readOne
          rw [if_neg eCg, nI_clamp (by omega), hb.1, lt_e, if_neg (fun e => w1 (e32.mp e)), if_neg (fun e => w2 (e10.mp e)), c_letter hbt, bnd_s, if_pos w3, ite10]
          unfold f_X7_readWord
          rw [← j6]
          rfl
        have h95 : f_X10_cutTokens_95 k7 FU (nI i) (nI i) 0 τ = _ := j7
        by_cases hl : j - i ≤ 8
        · have hl' : nI j - nI i ≤ 8 := by rw [pk_sub (by omega), nI_leL (by omega) (by decide)]; exact hl
          rcases e_kw (lN N') σ τ hK with ⟨a1, a2⟩ | ⟨q, q1, a1, a2⟩
          · refine ⟨200, j, lN N', lN N', Or.inr (Or.inr ⟨by decide, by decide⟩), by decide, j2, j3, fun _ => rfl, fun _ => lN_ne j4 hl j5, ?_, fun n => ?_⟩
            · rw [hR]
              unfold f_X7_readWord_52 f_X7_readWord_73
              rw [if_pos hl', a1, bnd_s, e_put h67 hm, bnd_s, bnd_s]
              rfl
            · rw [hC, h95, a2, bnd_s, if_pos hl', if_pos rfl]
              unfold f_X10_cutTokens_182 f_X10_cutTokens_279
              rw [e_tok h4 hm', bnd_s]
              rfl
          · refine ⟨q, j, lN N', lN N', Or.inl q1, by omega, j2, j3, fun _ => rfl, fun e => by omega, ?_, fun n => ?_⟩
            · rw [hR]
              unfold f_X7_readWord_52 f_X7_readWord_73
              rw [if_pos hl', a1, bnd_s, e_put h67 hm, bnd_s, bnd_s, show kC q = 256 + q from if_pos q1]
            · rw [hC, h95, a2, bnd_s, if_pos hl', if_neg (fun e => (nI_nm1 (by omega)).mp e)]
              unfold f_X10_cutTokens_182 f_X10_cutTokens_279
              rw [e_tok h4 hm', bnd_s]
        · have hl' : ¬ nI j - nI i ≤ 8 := by rw [pk_sub (by omega), nI_leL (by omega) (by decide)]; exact hl
          refine ⟨203, j, lN N', lN N', Or.inr (Or.inr ⟨by decide, by decide⟩), by decide, j2, j3, fun _ => rfl, fun e => absurd e (by decide), ?_, fun n => ?_⟩
          · rw [hR]
            unfold f_X7_readWord_52 f_X7_readWord_73
            rw [if_neg hl', e_put h67 hm, bnd_s, bnd_s]
            rfl
          · have h2 : ∃ r, f_X10_indexOf 1 17 17 (lN N') τ = some (r, τ) := by
              rcases e_kw (lN N') σ τ hK with ⟨a1, a2⟩ | ⟨q, q1, a1, a2⟩
              · exact ⟨_, a2⟩
              · exact ⟨_, a2⟩
            obtain ⟨r, hr⟩ := h2
            rw [hC, h95, hr, bnd_s, if_neg hl']
            unfold f_X10_cutTokens_182 f_X10_cutTokens_279
            rw [e_tok h4 hm', bnd_s]
            rfl
      · by_cases w4 : 48 ≤ B i ∧ B i ≤ 57
        · obtain ⟨j, w, w', j1, j2, j3, j4, j6, j7⟩ := e_num hT htl (st := i) k7 (tl - i) i FU FU 0 0 (by omega) (Nat.lt_of_le_of_lt (by omega) (FU_lt (n := 1500) (by decide))) (Nat.lt_of_le_of_lt (by omega) (FU_lt (n := 1500) (by decide))) (Nat.le_refl _) (fun _ => rfl) (fun _ => ⟨hi, w4⟩)
          have hC : ∀ n, f_X10_cutTokens_31 k7 (n + 1) (nI i) τ = f_X10_cutTokens_198 k7 FU (nI i) (nI i) 0 τ := fun n => by
            rw [f_X10_cutTokens_31, hby, bnd_s, if_neg (fun e => w1 (e32.mp e)), hby, bnd_s, if_neg (fun e => w2 (e10.mp e)), hby, bnd_s, if_neg hne, m_letter hbt, bnd_s, if_neg w3, ite00, m_digit hbt, bnd_s, if_pos w4, ite10]
          have hR : f_X7_readOne (nI tl) (nI i) σ = bnd (f_X7_readNumber_45 (nI i) w (nI j) σ) (fun r19 σ20 => some (r19, σ20)) := by
            unfold f_X7_readOne
            rw [if_neg eCg, nI_clamp (by omega), hb.1, lt_e, if_neg (fun e => w1 (e32.mp e)), if_neg (fun e => w2 (e10.mp e)), c_letter hbt, bnd_s, if_neg w3, ite00, c_digit hbt, bnd_s, if_pos w4, ite10]
            unfold f_X7_readNumber
            rw [j6]
          by_cases hl : j - i ≤ 6
          · have hl' : nI j - nI i ≤ 6 := by rw [pk_sub (by omega), nI_leL (by omega) (by decide)]; exact hl
            refine ⟨201, j, w, w', Or.inr (Or.inr ⟨by decide, by decide⟩), by decide, j2, j3, fun _ => j4 hl, fun e => absurd e (by decide), ?_, fun n => ?_⟩
            · rw [hR]
              unfold f_X7_readNumber_45 f_X7_readNumber_64
              rw [if_pos hl', e_put h67 hm, bnd_s, bnd_s]
              rfl
            · rw [hC, j7, if_pos hl']
              unfold f_X10_cutTokens_264 f_X10_cutTokens_279
              rw [e_tok h4 hm', bnd_s]
              rfl
          · have hl' : ¬ nI j - nI i ≤ 6 := by rw [pk_sub (by omega), nI_leL (by omega) (by decide)]; exact hl
            refine ⟨203, j, w, w', Or.inr (Or.inr ⟨by decide, by decide⟩), by decide, j2, j3, fun e => absurd e (by decide), fun e => absurd e (by decide), ?_, fun n => ?_⟩
            · rw [hR]
              unfold f_X7_readNumber_45 f_X7_readNumber_64
              rw [if_neg hl', e_put h67 hm, bnd_s, bnd_s]
              rfl
            · rw [hC, j7, if_neg hl']
              unfold f_X10_cutTokens_264 f_X10_cutTokens_279
              rw [e_tok h4 hm', bnd_s]
              rfl
        · obtain ⟨s, hs⟩ : ∃ s, s = (if i + 1 < tl then nI (B (i + 1)) else (0 : Int32)) := ⟨_, rfl⟩
          obtain ⟨r, hr⟩ : ∃ r, r = (if i + 1 < tl then nI (B (i + 1)) else (-1 : Int32)) := ⟨_, rfl⟩
          have e1 : s = 61 ↔ r = 61 := by
            rw [hs, hr]
            by_cases q : i + 1 < tl
            · rw [if_pos q, if_pos q]
            · rw [if_neg q, if_neg q]; decide
          have e2 : s = 62 ↔ r = 62 := by
            rw [hs, hr]
            by_cases q : i + 1 < tl
            · rw [if_pos q, if_pos q]
            · rw [if_neg q, if_neg q]; decide
          have hC : ∀ n, f_X10_cutTokens_31 k7 (n + 1) (nI i) τ = bnd (if nI (B i) = 60 then f_X10_symbol_26 (nI i) (nI (B i)) r τ else if nI (B i) = 62 then f_X10_symbol_26 (nI i) (nI (B i)) r τ else f_X10_symbol_32 (nI i) (nI (B i)) r τ) (fun r21 σ22 => f_X10_cutTokens_279 k7 r21 σ22) := fun n => by
            rw [f_X10_cutTokens_31, hby, bnd_s, if_neg (fun e => w1 (e32.mp e)), hby, bnd_s, if_neg (fun e => w2 (e10.mp e)), hby, bnd_s, if_neg hne, m_letter hbt, bnd_s, if_neg w3, ite00, m_digit hbt, bnd_s, if_neg w4, ite00]
            unfold f_X10_symbol
            rw [hby, bnd_s, nI_1, m_byte hT htl (by omega), bnd_s, ← hr]
          have hR : f_X7_readOne (nI tl) (nI i) σ = bnd (f_X7_readSymbol_21 (nI i) (nI (B i)) s σ) (fun r19 σ20 => some (r19, σ20)) := by
            unfold f_X7_readOne
            rw [if_neg eCg, nI_clamp (by omega), hb.1, lt_e, if_neg (fun e => w1 (e32.mp e)), if_neg (fun e => w2 (e10.mp e)), c_letter hbt, bnd_s, if_neg w3, ite00, c_digit hbt, bnd_s, if_neg w4, ite00]
            unfold f_X7_readSymbol
            rw [if_neg eCg, nI_clamp (by omega), hb.1, lt_e, nI_1]
            by_cases q : i + 1 < tl
            · rw [if_neg (nI_ge q (by omega)), if_neg (nI_in (by omega) (by omega)), nI_clamp (by omega), (hT.2 (i + 1) q).1, hs, if_pos q]
            · rw [if_pos (nI_le (by omega) (by omega)), hs, if_neg q]
          rcases e_pair hbt e1 e2 (nI i) σ τ with ⟨a1, a2⟩ | ⟨a0, k, a1, a2, a3⟩
          · obtain ⟨t1, t2, t3, t4⟩ := sym_tab (B i) hbt
            refine ⟨symK (B i), i + 1, 0, 0, by omega, by omega, by omega, by omega, fun _ => rfl, fun e => by omega, ?_, fun n => ?_⟩
            · rw [hR]
              unfold f_X7_readSymbol_21 f_X7_readSymbol_72
              rw [a1, bnd_s, if_pos rfl, t4, c_sym hbt, bnd_s, ← t2]
              by_cases q : ixS bS1 ((nI (B i)).toInt8.toInt32) 12 0 < 0
              · rw [if_pos q, if_pos q, e_put h67 hm, bnd_s, bnd_s, nI_1]
              · rw [if_neg q, if_neg q, e_put h67 hm, bnd_s, bnd_s, nI_1]
            · rw [hC, a2]
              unfold f_X10_symbol_48 f_X10_symbol_49 f_X10_symbol_114 f_X10_symbol_119 f_X10_symbol_133 f_X10_cutTokens_279
              rw [m_sym hbt, bnd_s, if_pos rfl, ← t3]
              by_cases q : (0 : Int32) ≤ ixS bS2 ((nI (B i)).toInt8.toInt32) 13 0
              · rw [if_pos q, if_pos q, e_tok h4 hm', bnd_s, if_pos rfl, bnd_s, nI_1]
              · rw [if_neg q, if_neg q, e_tok h4 hm', bnd_s, if_pos rfl, bnd_s, nI_1]
          · have hq : i + 1 < tl := by
              rcases Nat.lt_or_ge (i + 1) tl with q | q
              · exact q
              · rw [if_neg (by omega)] at hs
                exact absurd hs a0
            refine ⟨k, i + 2, 0, 0, by omega, by omega, by omega, by omega, fun _ => rfl, fun e => by omega, ?_, fun n => ?_⟩
            · rw [hR]
              unfold f_X7_readSymbol_21
              rw [a2, bnd_s, if_neg (show ¬ nI (kC k) = 279 by rcases a1 with rfl | rfl | rfl <;> decide), e_put h67 hm, bnd_s, bnd_s, nI_addL]
            · rw [hC, a3]
              unfold f_X10_symbol_89 f_X10_symbol_119 f_X10_symbol_133 f_X10_cutTokens_279
              rw [e_tok h4 hm', bnd_s, if_neg (by decide), bnd_s, nI_addL]
end TR
