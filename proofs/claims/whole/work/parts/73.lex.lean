/-! Letters, digits, words, symbols: on both sides. -/
/-- the kinds of tokens: the class's number of the reference's kind k -/
def kC (k : Nat) : Nat := if k < 17 then 256 + k else if k < 116 then [40, 41, 59, 279, 44, 61, 43, 45, 42, 47, 37, 60, 62, 275, 276, 277].getD (k - 100) 279 else if k = 200 then 273 else if k = 201 then 274 else if k = 202 then 278 else 279
abbrev KV (k : Nat) : Prop := k < 17 ∨ (100 ≤ k ∧ k < 116) ∨ (200 ≤ k ∧ k ≤ 203)
theorem e_pack (N b : Nat) (hb : b < 256) : (lN N <<< ((8 : Int32).toInt64 &&& 63)) ||| lN b = lN (N * 256 + b) := by
  apply Int64.toBitVec_inj.mp
  apply BitVec.eq_of_toNat_eq
  have hl : ∀ n, (lN n).toBitVec.toNat = n % 2 ^ 64 := fun n => BitVec.toNat_ofNat n 64
  have h1 : (lN N <<< ((8 : Int32).toInt64 &&& 63)).toBitVec.toNat = 2 ^ 8 * (N % 2 ^ 56) := by
    show ((lN N).toBitVec <<< ((((8 : Int32).toInt64 &&& 63)).toBitVec.smod 64).toNat).toNat = _
    rw [show ((((8 : Int32).toInt64 &&& 63)).toBitVec.smod 64).toNat = 8 by decide, BitVec.toNat_shiftLeft, Nat.shiftLeft_eq, hl]
    omega
  show ((lN N <<< ((8 : Int32).toInt64 &&& 63)).toBitVec ||| (lN b).toBitVec).toNat = _
  rw [BitVec.toNat_or, h1, hl, hl, Nat.mod_eq_of_lt (show b < 2 ^ 64 by omega), ← Nat.two_pow_add_eq_or_of_lt (show b < 2 ^ 8 by omega)]
  omega
theorem c_letter {b : Nat} (hb : b < 256) (σ : Sta) : f_X7_isLetter (nI b) σ = some (if 97 ≤ b ∧ b ≤ 122 then 1 else 0, σ) := by
  unfold f_X7_isLetter f_X7_isLetter_16 f_X7_isLetter_17
  by_cases h1 : b < 97
  · rw [if_pos (by rw [nI_ltL (by omega) (by decide)]; omega), if_neg (by decide), if_neg (show ¬ (97 ≤ b ∧ b ≤ 122) by omega)]
  · rw [if_neg (by rw [nI_ltL (by omega) (by decide)]; omega)]
    by_cases h2 : 122 < b
    · rw [if_pos (by rw [nI_Llt (by omega) (by decide)]; omega), if_neg (by decide), if_neg (show ¬ (97 ≤ b ∧ b ≤ 122) by omega)]
    · rw [if_neg (by rw [nI_Llt (by omega) (by decide)]; omega), if_neg (by decide), if_pos (show (97 ≤ b ∧ b ≤ 122) by omega)]
theorem c_digit {b : Nat} (hb : b < 256) (σ : Sta) : f_X7_isDigit (nI b) σ = some (if 48 ≤ b ∧ b ≤ 57 then 1 else 0, σ) := by
  unfold f_X7_isDigit f_X7_isDigit_16 f_X7_isDigit_17
  by_cases h1 : b < 48
  · rw [if_pos (by rw [nI_ltL (by omega) (by decide)]; omega), if_neg (by decide), if_neg (show ¬ (48 ≤ b ∧ b ≤ 57) by omega)]
  · rw [if_neg (by rw [nI_ltL (by omega) (by decide)]; omega)]
    by_cases h2 : 57 < b
    · rw [if_pos (by rw [nI_Llt (by omega) (by decide)]; omega), if_neg (by decide), if_neg (show ¬ (48 ≤ b ∧ b ≤ 57) by omega)]
    · rw [if_neg (by rw [nI_Llt (by omega) (by decide)]; omega), if_neg (by decide), if_pos (show (48 ≤ b ∧ b ≤ 57) by omega)]
theorem lN_rng {b lo hi : Nat} (h1 : b < 2 ^ 31) (h2 : lo < 2 ^ 31) (h3 : hi < 2 ^ 31) : (lN lo ≤ lN b ∧ lN b ≤ lN hi) ↔ (lo ≤ b ∧ b ≤ hi) := by
  rw [lN_le h2 h1, lN_le h1 h3]
theorem m_letter {b : Nat} (hb : b < 256) (τ : Sta) : f_X10_isLetter (nI b) τ = some (if 97 ≤ b ∧ b ≤ 122 then 1 else 0, τ) := by
  unfold f_X10_isLetter
  rw [e_isIn, bnd_s, nI_l (by omega)]
  by_cases h : 97 ≤ b ∧ b ≤ 122
  · rw [if_pos ((show ((97 : Int64) ≤ lN b ∧ lN b ≤ (122 : Int64)) from (lN_rng (lo := 97) (hi := 122) (by omega) (by decide) (by decide)).mpr h)), if_neg (by decide), if_pos h]
  · rw [if_neg (show ¬ ((97 : Int64) ≤ lN b ∧ lN b ≤ (122 : Int64)) from fun e => h ((lN_rng (lo := 97) (hi := 122) (by omega) (by decide) (by decide)).mp e)), if_neg (by decide), if_neg h]
theorem m_digit {b : Nat} (hb : b < 256) (τ : Sta) : f_X10_isDigit (nI b) τ = some (if 48 ≤ b ∧ b ≤ 57 then 1 else 0, τ) := by
  unfold f_X10_isDigit
  rw [e_isIn, bnd_s, nI_l (by omega)]
  by_cases h : 48 ≤ b ∧ b ≤ 57
  · rw [if_pos ((show ((48 : Int64) ≤ lN b ∧ lN b ≤ (57 : Int64)) from (lN_rng (lo := 48) (hi := 57) (by omega) (by decide) (by decide)).mpr h)), if_neg (by decide), if_pos h]
  · rw [if_neg (show ¬ ((48 : Int64) ≤ lN b ∧ lN b ≤ (57 : Int64)) from fun e => h ((lN_rng (lo := 48) (hi := 57) (by omega) (by decide) (by decide)).mp e)), if_neg (by decide), if_neg h]
theorem m_letter1 (τ : Sta) : f_X10_isLetter (-1) τ = some (0, τ) := rfl
theorem m_digit1 (τ : Sta) : f_X10_isDigit (-1) τ = some (0, τ) := rfl
/-- the tape, as numbers -/
def TB (tl : Nat) (B : Nat → Nat) (σ τ : Sta) : Prop := gI τ 3 = nI tl ∧ ∀ j, j < tl → gA σ 8 j = nI (B j) ∧ gA τ 2 j = nI (B j) ∧ B j < 256
theorem m_byte {tl : Nat} {B : Nat → Nat} {σ τ : Sta} {i : Nat} (h : TB tl B σ τ) (htl : tl ≤ 1500) (hi : i ≤ 1600) : f_X10_byteAt (nI i) τ = some (if i < tl then nI (B i) else -1, τ) := by
  unfold f_X10_byteAt f_X10_byteAt_18
  by_cases q : i < tl
  · rw [h.1, if_neg (nI_ge q (by omega)), if_neg (nI_in (by omega) (by omega)), nI_clamp (by omega), (h.2 i q).2.1, if_pos q]
  · rw [h.1, if_pos (nI_le (by omega) (by omega)), if_neg q]
