/-! A whole number divided by one of 1 to 20 is no NaN. -/
/-- bits of a double that is no NaN -/
def NN (n : Nat) : Prop := ∃ s e t : Nat, s < 2 ∧ e ≤ 2047 ∧ t < 4503599627370496 ∧ n = (s * 2048 + e) * 4503599627370496 + t ∧ (e = 2047 → t = 0)
def dGood : FP.Core.Datum → Prop
  | .nan => False
  | .inf _ => True
  | .fin _ c q => c < 9007199254740992 ∧ q ≤ 971
theorem tails64 : FP.Core.Fmt.tails FP.Core.b64 = 4503599627370496 := by decide
theorem exps64 : FP.Core.Fmt.exps FP.Core.b64 = 2048 := by decide
theorem qmax64 : FP.Core.Fmt.qmax FP.Core.b64 = 971 := by decide
theorem qmin64 : FP.Core.Fmt.qmin FP.Core.b64 = -1074 := by decide
theorem p64 : (2 : Nat) ^ FP.Core.b64.p = 9007199254740992 := by decide
theorem NN_enc {D : FP.Core.Datum} (h : dGood D) : NN (FP.Core.encode FP.Core.b64 D) := by
  cases D with
  | nan => exact h.elim
  | inf s =>
    refine ⟨s.toNat, 2047, 0, by cases s <;> decide, by decide, by decide, ?_, fun _ => rfl⟩
    show FP.Core.assemble FP.Core.b64 s (FP.Core.b64.exps - 1) 0 = _
    unfold FP.Core.assemble
    rw [tails64, exps64]
  | fin s c q =>
    have h1 : c < 9007199254740992 := h.1
    have h2 : q ≤ 971 := h.2
    show NN (if c < FP.Core.b64.tails then FP.Core.assemble FP.Core.b64 s 0 c else FP.Core.assemble FP.Core.b64 s ((q - FP.Core.b64.qmin).toNat + 1) (c - FP.Core.b64.tails))
    rw [tails64, qmin64]
    by_cases h3 : c < 4503599627370496
    · rw [if_pos h3]
      refine ⟨s.toNat, 0, c, by cases s <;> decide, by decide, h3, ?_, fun e => absurd e (by decide)⟩
      unfold FP.Core.assemble
      rw [tails64, exps64]
    · rw [if_neg h3]
      refine ⟨s.toNat, (q - -1074).toNat + 1, c - 4503599627370496, by cases s <;> decide, by omega, by omega, ?_, fun e => by omega⟩
      unfold FP.Core.assemble
      rw [tails64, exps64]
theorem NN_dec {n : Nat} (h : NN n) : FP.Core.decode FP.Core.b64 n ≠ .nan := by
  obtain ⟨s, e, t, h1, h2, h3, h4, h5⟩ := h
  have hT : FP.Core.fieldT FP.Core.b64 n = t := by
    unfold FP.Core.fieldT
    rw [tails64]
    omega
  have hE : FP.Core.fieldE FP.Core.b64 n = e := by
    unfold FP.Core.fieldE
    rw [tails64, exps64]
    have : n / 4503599627370496 = s * 2048 + e := by omega
    rw [this]
    omega
  unfold FP.Core.decode
  rw [hT, hE, exps64]
  by_cases h6 : e = 2048 - 1
  · rw [if_pos h6, if_pos (h5 h6)]
    exact fun q => FP.Core.Datum.noConfusion q
  · rw [if_neg h6]
    by_cases h7 : e = 0
    · rw [if_pos h7]
      exact fun q => FP.Core.Datum.noConfusion q
    · rw [if_neg h7]
      exact fun q => FP.Core.Datum.noConfusion q
theorem good_bound (s : Bool) {c : Nat} {q : Int} (h : c < 9007199254740992) : dGood (FP.Core.bound FP.Core.b64 s c q) := by
  unfold FP.Core.bound
  rw [qmax64]
  by_cases h2 : q ≤ 971
  · rw [if_pos h2]; exact ⟨h, h2⟩
  · rw [if_neg h2]; exact True.intro
theorem good_ratio (s : Bool) (a b : Nat) (e : Int) : dGood (FP.Core.roundRatio FP.Core.b64 s a b e) := by
  unfold FP.Core.roundRatio
  by_cases h : a = 0
  · rw [if_pos h, qmin64]; exact ⟨by decide, by decide⟩
  · rw [if_neg h]
    unfold FP.Core.roundAt FP.Core.settle
    rw [p64, tails64]
    generalize FP.Core.nearest _ _ = x
    by_cases h2 : x < 9007199254740992
    · rw [if_pos h2]; exact good_bound s h2
    · rw [if_neg h2]; exact good_bound s (by decide)
theorem NN_of {n : Nat} (h : NN n) : n < 2 ^ 64 := by
  obtain ⟨s, e, t, h1, h2, h3, h4, h5⟩ := h
  omega
theorem tn64 {n : Nat} (h : n < 2 ^ 64) : (UInt64.ofNat n).toNat = n := Nat.mod_eq_of_lt h
theorem NN_l2d (v : Int64) : NN (FP.l2d v).toNat := by
  have h : NN (FP.Core.fromInt FP.Core.b64 v.toInt) := NN_enc (good_ratio _ _ _ _)
  show NN (UInt64.ofNat (FP.Core.fromInt FP.Core.b64 v.toInt)).toNat
  rw [tn64 (NN_of h)]
  exact h
def isFin0 : FP.Core.Datum → Bool
  | .fin _ d _ => d != 0
  | _ => false
theorem i2d_fin : ∀ n : Nat, n < 21 → 1 ≤ n → isFin0 (FP.Core.decode FP.Core.b64 (UInt64.ofNat (FP.Core.fromInt FP.Core.b64 (n : Int))).toNat) = true := by decide +kernel
theorem ddiv_ok (v : Int64) {n : Nat} (h1 : 1 ≤ n) (h2 : n ≤ 20) : ((FP.ddiv (FP.l2d v) (FP.i2d (nI n))) &&& 0x7fffffffffffffff ≤ 0x7ff0000000000000) := by
  have hx := NN_dec (NN_l2d v)
  have hy := i2d_fin n (by omega) h1
  have hq : dGood (FP.Core.quotient FP.Core.b64 (FP.Core.decode FP.Core.b64 (FP.l2d v).toNat) (FP.Core.decode FP.Core.b64 (UInt64.ofNat (FP.Core.fromInt FP.Core.b64 (n : Int))).toNat)) := by
    generalize FP.Core.decode FP.Core.b64 (FP.l2d v).toNat = X at hx
    generalize FP.Core.decode FP.Core.b64 (UInt64.ofNat (FP.Core.fromInt FP.Core.b64 (n : Int))).toNat = Y at hy
    cases Y with
    | nan => exact absurd hy (by decide)
    | inf s => exact absurd hy (by simp [isFin0])
    | fin t d r =>
      have hd : d ≠ 0 := by
        intro e
        rw [e] at hy
        simp [isFin0] at hy
      cases X with
      | nan => exact absurd rfl hx
      | inf s => exact True.intro
      | fin s c q =>
        show dGood (if d = 0 then (if c = 0 then .nan else .inf (s != t)) else FP.Core.roundRatio FP.Core.b64 (s != t) c d (q - r))
        rw [if_neg hd]
        exact good_ratio _ _ _ _
  have hn : NN (FP.ddiv (FP.l2d v) (FP.i2d (nI n))).toNat := by
    have h3 := NN_enc hq
    have e1 : (FP.ddiv (FP.l2d v) (FP.i2d (nI n))).toNat = (UInt64.ofNat (FP.Core.encode FP.Core.b64 (FP.Core.quotient FP.Core.b64 (FP.Core.decode FP.Core.b64 (FP.l2d v).toNat) (FP.Core.decode FP.Core.b64 (UInt64.ofNat (FP.Core.fromInt FP.Core.b64 (n : Int))).toNat)))).toNat := by
      show (UInt64.ofNat (FP.Core.encode FP.Core.b64 (FP.Core.quotient FP.Core.b64 (FP.Core.decode FP.Core.b64 (FP.l2d v).toNat) (FP.Core.decode FP.Core.b64 (UInt64.ofNat (FP.Core.fromInt FP.Core.b64 (nI n).toInt)).toNat)))).toNat = _
      rw [nI_toInt (by omega)]
    rw [e1, tn64 (NN_of h3)]
    exact h3
  generalize FP.ddiv (FP.l2d v) (FP.i2d (nI n)) = z at hn
  obtain ⟨s, e, t, g1, g2, g3, g4, g5⟩ := hn
  rw [UInt64.le_iff_toNat_le, UInt64.toNat_and]
  show z.toNat &&& (2 ^ 63 - 1) ≤ 9218868437227405312
  rw [Nat.and_two_pow_sub_one_eq_mod, g4]
  have h9 : ((s * 2048 + e) * 4503599627370496 + t) % 2 ^ 63 = e * 4503599627370496 + t := by omega
  rw [h9]
  by_cases h8 : e = 2047
  · rw [h8, g5 h8]
    decide
  · omega
