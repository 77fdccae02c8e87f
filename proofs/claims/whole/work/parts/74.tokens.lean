/-! One token, on both sides. -/
def putC (σ : Sta) (m : Nat) (c p : Int32) (v : Int64) : Sta := sI (sJ (sA (sA σ 11 (upd (gA σ 11) m c)) 12 (upd (gA σ 12) m p)) 13 (vp_updL (gJ σ 13) m v)) 67 (nI (m + 1))
def putM (τ : Sta) (m : Nat) (c p : Int32) (v : Int64) : Sta := sI (sJ (sA (sA τ 3 (upd (gA τ 3) m c)) 4 (upd (gA τ 4) m p)) 5 (vp_updL (gJ τ 5) m v)) 4 (nI (m + 1))
theorem e_put {σ : Sta} {m : Nat} (h : gI σ 67 = nI m) (hm : m < 1501) (c p : Int32) (v : Int64) : f_X7_put c p v σ = some ((), putC σ m c p v) := by
  unfold f_X7_put f_X7_put_52 putC
  rw [h, if_neg (by rw [nI_Lle (by omega) (by decide)]; omega), if_neg (nI_in hm (by decide)), lt_e, gI_sA, h, if_neg (nI_in hm (by decide)), lt_e, gI_sA, gI_sA, h, if_neg (nI_in hm (by decide)), lt_e, lt_e, gI_sJ, gI_sA, gI_sA, h, nI_clamp (by omega), nI_1]
  rfl
theorem e_tok {τ : Sta} {m : Nat} (h : gI τ 4 = nI m) (hm : m < 1501) (c p : Int32) (v : Int64) : f_X10_token c p v τ = some ((), putM τ m c p v) := by
  unfold f_X10_token putM
  rw [h, if_neg (nI_in hm (by decide)), lt_e, gI_sA, h, if_neg (nI_in hm (by decide)), lt_e, gI_sA, gI_sA, h, if_neg (nI_in hm (by decide)), lt_e, lt_e, gI_sJ, gI_sA, gI_sA, h, nI_clamp (by omega), nI_1]
  rfl
section TO
variable {tl : Nat} {B : Nat → Nat} {σ τ : Sta}
theorem e_word (hT : TB tl B σ τ) (htl : tl ≤ 1500) {st : Nat} (k7 : Int32 → Sta → Option (Unit × Sta)) : ∀ (r i n n' N : Nat), i + r = tl → r < n → r < n' → st ≤ i → N < 256 ^ (i - st) → (st < i → 0 < N) → (i = st → i < tl ∧ 97 ≤ B i ∧ B i ≤ 122) →
    ∃ j N', i ≤ j ∧ st < j ∧ j ≤ tl ∧ N' < 256 ^ (j - st) ∧ 0 < N' ∧ f_X7_readWord_6 n (nI tl) (nI st) (lN N) (nI i) σ = f_X7_readWord_52 (nI st) (lN N') (nI j) σ ∧
      f_X10_cutTokens_95 k7 n' (nI i) (nI st) (lN N) τ = bnd (f_X10_indexOf 1 17 17 (lN N') τ) (fun r15 σ16 => if nI j - nI st ≤ 8 then (if r15 = -1 then f_X10_cutTokens_182 k7 (nI j) (nI st) (lN N') 200 σ16 else f_X10_cutTokens_182 k7 (nI j) (nI st) (lN N') r15 σ16) else f_X10_cutTokens_182 k7 (nI j) (nI st) (lN N') 203 σ16)
  | _, _, 0, _, _, _, hn, _, _, _, _, _ => absurd hn (Nat.not_lt_zero _)
  | _, _, _, 0, _, _, _, hn, _, _, _, _ => absurd hn (Nat.not_lt_zero _)
  | 0, i, n + 1, n' + 1, N, h, hn, hn', hst, hN, hN0, h0 => by
    have hi : st < i := by
      rcases Nat.lt_or_ge st i with q | q
      · exact q
      · have := (h0 (by omega)).1
        omega
    refine ⟨i, N, Nat.le_refl _, hi, by omega, hN, hN0 hi, ?_, ?_⟩
    · rw [f_X7_readWord_6, if_pos (nI_le (by omega) (by omega))]
    · rw [f_X10_cutTokens_95, m_byte hT htl (by omega), if_neg (show ¬ i < tl by omega), bnd_s, m_letter1, bnd_s, if_pos rfl, m_byte hT htl (by omega), if_neg (show ¬ i < tl by omega), bnd_s, m_digit1, bnd_s, if_pos rfl]
  | r + 1, i, n + 1, n' + 1, N, h, hn, hn', hst, hN, hN0, h0 => by
    have hi : i < tl := by omega
    have hb := hT.2 i hi
    have go : ∀ (_ : 0 < N * 256 + B i), ∃ j N', i ≤ j ∧ st < j ∧ j ≤ tl ∧ N' < 256 ^ (j - st) ∧ 0 < N' ∧ f_X7_readWord_32 (f_X7_readWord_6 n) (nI tl) (nI st) (lN N) (nI i) σ = f_X7_readWord_52 (nI st) (lN N') (nI j) σ ∧
      f_X10_cutTokens_117 k7 (f_X10_cutTokens_95 k7 n') (nI i) (nI st) (lN N) τ = bnd (f_X10_indexOf 1 17 17 (lN N') τ) (fun r15 σ16 => if nI j - nI st ≤ 8 then (if r15 = -1 then f_X10_cutTokens_182 k7 (nI j) (nI st) (lN N') 200 σ16 else f_X10_cutTokens_182 k7 (nI j) (nI st) (lN N') r15 σ16) else f_X10_cutTokens_182 k7 (nI j) (nI st) (lN N') 203 σ16) := fun hp => by
      have hN2 : N * 256 + B i < 256 ^ (i + 1 - st) := by
        rw [show i + 1 - st = (i - st) + 1 by omega, Nat.pow_succ]
        have := hb.2.2
        omega
      obtain ⟨j, N', j1, j2, j3, j4, j5, j6, j7⟩ := e_word hT htl k7 r (i + 1) n n' (N * 256 + B i) (by omega) (by omega) (by omega) (by omega) hN2 (fun _ => hp) (fun q => by omega)
      refine ⟨j, N', by omega, j2, j3, j4, j5, ?_, ?_⟩
      · unfold f_X7_readWord_32
        rw [if_neg (nI_in (by omega) (by omega)), nI_clamp (by omega), hb.1, lt_e, lt_e, nI_1, nI_l (by omega), show lN N * 256 + lN (B i) = lN (N * 256 + B i) from by rw [← lN_add, ← lN_mul]; rfl]
        exact j6
      · unfold f_X10_cutTokens_117
        rw [m_byte hT htl (by omega), if_pos hi, bnd_s, lt_e, lt_e, nI_1, nI_l (by omega), e_pack _ _ hb.2.2]
        exact j7
    by_cases q : 97 ≤ B i ∧ B i ≤ 122
    · obtain ⟨j, N', j1, j2, j3, j4, j5, j6, j7⟩ := go (by omega)
      refine ⟨j, N', j1, j2, j3, j4, j5, ?_, ?_⟩
      · rw [f_X7_readWord_6, if_neg (nI_ge hi (by omega)), if_neg (nI_in (by omega) (by omega)), nI_clamp (by omega), hb.1, c_letter hb.2.2, bnd_s, if_pos q, ite10]
        exact j6
      · rw [f_X10_cutTokens_95, m_byte hT htl (by omega), if_pos hi, bnd_s, m_letter hb.2.2, bnd_s, if_pos q, ite10]
        exact j7
    · have hi2 : st < i := by
        rcases Nat.lt_or_ge st i with q2 | q2
        · exact q2
        · exact absurd (h0 (by omega)).2 q
      by_cases q2 : 48 ≤ B i ∧ B i ≤ 57
      · obtain ⟨j, N', j1, j2, j3, j4, j5, j6, j7⟩ := go (by omega)
        refine ⟨j, N', j1, j2, j3, j4, j5, ?_, ?_⟩
        · rw [f_X7_readWord_6, if_neg (nI_ge hi (by omega)), if_neg (nI_in (by omega) (by omega)), nI_clamp (by omega), hb.1, c_letter hb.2.2, bnd_s, if_neg q, ite00, if_neg (nI_in2 (by omega) (by omega)), hb.1, c_digit hb.2.2, bnd_s, if_pos q2, ite10]
          exact j6
        · rw [f_X10_cutTokens_95, m_byte hT htl (by omega), if_pos hi, bnd_s, m_letter hb.2.2, bnd_s, if_neg q, ite00, m_byte hT htl (by omega), if_pos hi, bnd_s, m_digit hb.2.2, bnd_s, if_pos q2, ite10]
          exact j7
      · refine ⟨i, N, Nat.le_refl _, hi2, by omega, hN, hN0 hi2, ?_, ?_⟩
        · rw [f_X7_readWord_6, if_neg (nI_ge hi (by omega)), if_neg (nI_in (by omega) (by omega)), nI_clamp (by omega), hb.1, c_letter hb.2.2, bnd_s, if_neg q, ite00, if_neg (nI_in2 (by omega) (by omega)), hb.1, c_digit hb.2.2, bnd_s, if_neg q2, ite00]
        · rw [f_X10_cutTokens_95, m_byte hT htl (by omega), if_pos hi, bnd_s, m_letter hb.2.2, bnd_s, if_neg q, ite00, m_byte hT htl (by omega), if_pos hi, bnd_s, m_digit hb.2.2, bnd_s, if_neg q2, ite00]
theorem e_num (hT : TB tl B σ τ) (htl : tl ≤ 1500) {st : Nat} (k7 : Int32 → Sta → Option (Unit × Sta)) : ∀ (r i n n' : Nat) (v v' : Int64), i + r = tl → r < n → r < n' → st ≤ i → (i - st ≤ 6 → v = v') → (i = st → i < tl ∧ 48 ≤ B i ∧ B i ≤ 57) →
    ∃ j w w', i ≤ j ∧ st < j ∧ j ≤ tl ∧ (j - st ≤ 6 → w = w') ∧ f_X7_readNumber_6 n (nI tl) (nI st) v (nI i) σ = f_X7_readNumber_45 (nI st) w (nI j) σ ∧
      f_X10_cutTokens_198 k7 n' (nI i) (nI st) v' τ = if nI j - nI st ≤ 6 then f_X10_cutTokens_264 k7 (nI j) (nI st) w' 201 τ else f_X10_cutTokens_264 k7 (nI j) (nI st) w' 203 τ
  | _, _, 0, _, _, _, _, hn, _, _, _, _ => absurd hn (Nat.not_lt_zero _)
  | _, _, _, 0, _, _, _, _, hn, _, _, _ => absurd hn (Nat.not_lt_zero _)
  | 0, i, n + 1, n' + 1, v, v', h, hn, hn', hst, hv, h0 => by
    have hi : st < i := by
      rcases Nat.lt_or_ge st i with q | q
      · exact q
      · have := (h0 (by omega)).1
        omega
    refine ⟨i, v, v', Nat.le_refl _, hi, by omega, hv, ?_, ?_⟩
    · rw [f_X7_readNumber_6, if_pos (nI_le (by omega) (by omega))]
    · rw [f_X10_cutTokens_198, m_byte hT htl (by omega), if_neg (show ¬ i < tl by omega), bnd_s, m_digit1, bnd_s, if_pos rfl]
  | r + 1, i, n + 1, n' + 1, v, v', h, hn, hn', hst, hv, h0 => by
    have hi : i < tl := by omega
    have hb := hT.2 i hi
    by_cases q : 48 ≤ B i ∧ B i ≤ 57
    · obtain ⟨z, hz, hzv⟩ : ∃ z, f_X10_cutTokens_198 k7 (n' + 1) (nI i) (nI st) v' τ = f_X10_cutTokens_198 k7 n' (nI (i + 1)) (nI st) z τ ∧ (i + 1 - st ≤ 6 → v * 10 + (nI (B i) - 48).toInt64 = z) := by
        by_cases q6 : 6 ≤ i - st
        · refine ⟨0, ?_, fun e => by omega⟩
          rw [f_X10_cutTokens_198, m_byte hT htl (by omega), if_pos hi, bnd_s, m_digit hb.2.2, bnd_s, if_pos q, ite10, pk_sub hst, if_pos (by rw [nI_Lle (by omega) (by decide)]; exact q6)]
          unfold f_X10_cutTokens_238
          rw [lt_e, nI_1]
        · refine ⟨((10 * v') + (nI (B i)).toInt64) - 48, ?_, fun e => ?_⟩
          · rw [f_X10_cutTokens_198, m_byte hT htl (by omega), if_pos hi, bnd_s, m_digit hb.2.2, bnd_s, if_pos q, ite10, pk_sub hst, if_neg (by rw [nI_Lle (by omega) (by decide)]; exact q6), m_byte hT htl (by omega), if_pos hi, bnd_s]
            unfold f_X10_cutTokens_238
            rw [lt_e, nI_1]
          · rw [hv (by omega), nI_subL (by omega), nI_l (by omega), nI_l (by omega), Int64.mul_comm v' 10, show lN (B i - 48) = lN (B i) - 48 from (lN_sub (a := B i) (b := 48) (by omega)).symm, Int64.sub_eq_add_neg, Int64.sub_eq_add_neg, Int64.add_assoc]
      obtain ⟨j, w, w', j1, j2, j3, j4, j5, j6⟩ := e_num hT htl k7 r (i + 1) n n' (v * 10 + (nI (B i) - 48).toInt64) z (by omega) (by omega) (by omega) (by omega) hzv (fun q => by omega)
      refine ⟨j, w, w', by omega, j2, j3, j4, ?_, ?_⟩
      · rw [f_X7_readNumber_6, if_neg (nI_ge hi (by omega)), if_neg (nI_in (by omega) (by omega)), nI_clamp (by omega), hb.1, c_digit hb.2.2, bnd_s, if_pos q, ite10, if_neg (nI_in2 (by omega) (by omega)), lt_e, lt_e, nI_1, hb.1]
        exact j5
      · rw [hz]
        exact j6
    · have hi2 : st < i := by
        rcases Nat.lt_or_ge st i with q2 | q2
        · exact q2
        · exact absurd (h0 (by omega)).2 q
      refine ⟨i, v, v', Nat.le_refl _, hi2, by omega, hv, ?_, ?_⟩
      · rw [f_X7_readNumber_6, if_neg (nI_ge hi (by omega)), if_neg (nI_in (by omega) (by omega)), nI_clamp (by omega), hb.1, c_digit hb.2.2, bnd_s, if_neg q, ite00]
      · rw [f_X10_cutTokens_198, m_byte hT htl (by omega), if_pos hi, bnd_s, m_digit hb.2.2, bnd_s, if_neg q, ite00]
end TO
