/-! the symbols -/
def ixS (bs : List Int32) (c : Int32) : Nat → Nat → Int32
  | 0, _ => -1
  | r + 1, k => if bs.getD k 0 = c then nI k else ixS bs c r (k + 1)
theorem e_ixc {N : Nat} {bs : List Int32} {c : Int32} (hN : N < 2 ^ 31) (σ : Sta) : ∀ (r k n : Nat), k + r = N → r < n → f_J1_indexOfChar_4cfef_7 N bs n (nI N) c (nI k) σ = some (ixS bs c r k, σ)
  | _, _, 0, _, hn => absurd hn (Nat.not_lt_zero _)
  | 0, k, n + 1, h, hn => by
    rw [f_J1_indexOfChar_4cfef_7, if_pos (nI_le (by omega) (by omega))]
    rfl
  | r + 1, k, n + 1, h, hn => by
    rw [f_J1_indexOfChar_4cfef_7, if_neg (nI_ge (by omega) (by omega)), if_neg (nI_in (by omega) (by omega)), nI_clamp (by omega), lt_e, nI_1, e_ixc hN σ r (k + 1) n (by omega) (by omega)]
    unfold ixS
    by_cases q : bs.getD k 0 = c
    · rw [if_pos q, if_pos q]
    · rw [if_neg q, if_neg q]
      cases r <;> rfl
theorem e_ix {N b : Nat} {bs : List Int32} (h0 : 0 < N) (hN : N < 1000) (hb : b < 256) (hl : ∀ σ, f_J0_length_8abf5 N bs σ = some (nI N, σ)) (σ : Sta) : f_J0_indexOf_0f7a4 N bs (nI b) σ = some (ixS bs ((nI b).toInt8.toInt32) N 0, σ) := by
  unfold f_J0_indexOf_0f7a4 f_J0_indexOf_7cf53 f_J0_isLatin1_aae02 f_J0_isLatin1_aae02_18
  rw [if_neg (show ¬ (1 : Int32) = 0 by decide), if_pos (show (0 : Int32) = 0 from rfl), if_neg (by decide), bnd_s, if_neg (show ¬ (1 : Int32) = 0 by decide), hl, bnd_s]
  unfold f_J1_indexOf_4cfef f_J1_canEncode_9a6ad f_J1_canEncode_9a6ad_16
  rw [if_neg (nI_pos (by omega)), if_neg (by rw [nI_Llt (by omega) (by decide)]; omega), if_neg (by decide), bnd_s, if_neg (show ¬ (1 : Int32) = 0 by decide), lt_e, lt_e, if_neg (show ¬ (0 : Int32) < 0 by decide), if_neg (show ¬ Int32.ofNat N < nI N from fun q => Int32.lt_irrefl q), if_pos (show (0 : Int32) < nI N from nI_lt (a := 0) h0 (by omega))]
  unfold f_J1_indexOfChar_4cfef
  rw [lt_e, show f_J1_indexOfChar_4cfef_7 N bs FU (nI N) (nI b).toInt8.toInt32 0 σ = some (ixS bs ((nI b).toInt8.toInt32) N 0, σ) from e_ixc (by omega) σ N 0 FU (by omega) (Nat.lt_trans hN (FU_lt (by decide)))]
  rfl
theorem c_sym {b : Nat} (hb : b < 256) (σ : Sta) : f_J0_indexOf_0f7a4 12 bS1 (nI b) σ = some (ixS bS1 ((nI b).toInt8.toInt32) 12 0, σ) := e_ix (by decide) (by decide) hb (fun σ => j_len (by decide) σ) σ
theorem m_sym {b : Nat} (hb : b < 256) (σ : Sta) : f_J0_indexOf_0f7a4 13 bS2 (nI b) σ = some (ixS bS2 ((nI b).toInt8.toInt32) 13 0, σ) := e_ix (by decide) (by decide) hb (fun σ => j_len (by decide) σ) σ
def symK (b : Nat) : Nat := if (0 : Int32) ≤ ixS bS2 ((nI b).toInt8.toInt32) 13 0 then 100 + (ixS bS2 ((nI b).toInt8.toInt32) 13 0).toNatClampNeg else 203
theorem sym_tab : ∀ b, b < 256 → (symK b = 203 ∨ (100 ≤ symK b ∧ symK b < 113)) ∧ (if ixS bS1 ((nI b).toInt8.toInt32) 12 0 < 0 then (279 : Int32) else nI b) = nI (kC (symK b)) ∧ (if (0 : Int32) ≤ ixS bS2 ((nI b).toInt8.toInt32) 13 0 then 100 + ixS bS2 ((nI b).toInt8.toInt32) 13 0 else 203) = nI (symK b) ∧ ((nI b).toUInt32 % 65536).toInt32 = nI b := by decide +kernel
