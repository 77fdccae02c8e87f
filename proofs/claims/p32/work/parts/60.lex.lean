/-! The tape as tokens: a lexer over lists of bytes, and that the class's own reads the same. -/
def lal (c : Nat) : Bool := Nat.ble 97 c && Nat.ble c 122
def ldg (c : Nat) : Bool := Nat.ble 48 c && Nat.ble c 57
def lsy (c : Nat) : Nat := bif (c == 40 || c == 41 || c == 59 || c == 44 || c == 61 || c == 43 || c == 45 || c == 42 || c == 47 || c == 37 || c == 60 || c == 62) then c else 279
/-- a token: (1000, a packed word), (274, a number), (the kind of a symbol, 0); 279 fits nowhere -/
abbrev Tk : Type := Nat × Nat
def wtk (a n : Nat) : Tk := (bif Nat.ble n 8 then 1000 else 279, a)
def ntk (a n : Nat) : Tk := (bif Nat.ble n 6 then 274 else 279, a)
def ld (c : Nat) (k : Nat → Nat → Nat → List Tk) : List Tk :=
  bif (c == 32 || c == 10) then k 0 0 0 else bif lal c then k 1 c 1 else bif ldg c then k 2 (c - 48) 1 else bif c == 60 then k 3 0 0 else bif c == 62 then k 4 0 0 else (lsy c, 0) :: k 0 0 0
def lx : List Nat → Nat → Nat → Nat → List Tk
  | [], m, a, n => bif m == 1 then [wtk a n] else bif m == 2 then [ntk a n] else bif m == 3 then [(60, 0)] else bif m == 4 then [(62, 0)] else []
  | c :: r, m, a, n =>
    bif m == 1 then (bif lal c || ldg c then lx r 1 (a * 256 + c) (n + 1) else wtk a n :: ld c (lx r))
    else bif m == 2 then (bif ldg c then lx r 2 (a * 10 + (c - 48)) (n + 1) else ntk a n :: ld c (lx r))
    else bif m == 3 then (bif c == 61 then (275, 0) :: lx r 0 0 0 else bif c == 62 then (277, 0) :: lx r 0 0 0 else (60, 0) :: ld c (lx r))
    else bif m == 4 then (bif c == 61 then (276, 0) :: lx r 0 0 0 else (62, 0) :: ld c (lx r))
    else ld c (lx r)
theorem lx_0 (c : Nat) (r : List Nat) : lx (c :: r) 0 0 0 = ld c (lx r) := rfl
theorem lx_w {c : Nat} (h : (lal c || ldg c) = false) (r : List Nat) (a n : Nat) : lx (c :: r) 1 a n = wtk a n :: lx (c :: r) 0 0 0 := by
  show (bif (lal c || ldg c) then _ else _) = _
  rw [h]
  rfl
theorem lx_ww {c : Nat} (h : (lal c || ldg c) = true) (r : List Nat) (a n : Nat) : lx (c :: r) 1 a n = lx r 1 (a * 256 + c) (n + 1) := by
  show (bif (lal c || ldg c) then _ else _) = _
  rw [h]
  rfl
theorem lx_n {c : Nat} (h : ldg c = false) (r : List Nat) (a n : Nat) : lx (c :: r) 2 a n = ntk a n :: lx (c :: r) 0 0 0 := by
  show (bif ldg c then _ else _) = _
  rw [h]
  rfl
theorem lx_nn {c : Nat} (h : ldg c = true) (r : List Nat) (a n : Nat) : lx (c :: r) 2 a n = lx r 2 (a * 10 + (c - 48)) (n + 1) := by
  show (bif ldg c then _ else _) = _
  rw [h]
  rfl
theorem lal_i {c : Nat} : lal c = true ↔ 97 ≤ c ∧ c ≤ 122 := by
  unfold lal
  rw [Bool.and_eq_true, Nat.ble_eq, Nat.ble_eq]
theorem ldg_i {c : Nat} : ldg c = true ↔ 48 ≤ c ∧ c ≤ 57 := by
  unfold ldg
  rw [Bool.and_eq_true, Nat.ble_eq, Nat.ble_eq]
def kC (t : Tk) : Int32 := if t.1 = 1000 then kwS (lN t.2) bKW 256 0 else nI t.1
def TKs (σ : Sta) : Nat → List Tk → Prop
  | _, [] => True
  | m, t :: r => gA σ 11 m = kC t ∧ gJ σ 13 m = lN t.2 ∧ TKs σ (m + 1) r
def AtB (B : Nat → Nat) (tl : Nat) : Nat → List Nat → Prop
  | i, [] => i = tl
  | i, c :: r => i < tl ∧ B i = c ∧ AtB B tl (i + 1) r
theorem AtB_len {B : Nat → Nat} {tl : Nat} : ∀ (l : List Nat) (i : Nat), AtB B tl i l → i + l.length = tl
  | [], i, h => h
  | c :: r, i, h => by
    have h1 := AtB_len r (i + 1) h.2.2
    show i + (r.length + 1) = tl
    omega
def TB1 (tl : Nat) (B : Nat → Nat) (σ : Sta) : Prop := ∀ j, j < tl → gA σ 8 j = nI (B j) ∧ B j < 256
theorem TB1_k {tl : Nat} {B : Nat → Nat} {σ σ' : Sta} (h : TB1 tl B σ) (hc : KtC σ σ') : TB1 tl B σ' := fun j hj => by
  rw [hc.2.2.1 8 (by unfold kt11; omega)]
  exact h j hj
section LX
variable {tl : Nat} {B : Nat → Nat} {σ : Sta}
theorem e_wordC (hT : TB1 tl B σ) (htl : tl ≤ 1500) {st : Nat} : ∀ (l : List Nat) (i n a : Nat), AtB B tl i l → l.length < n → st ≤ i →
    ∃ j a' l', AtB B tl j l' ∧ (i ≤ j ∧ ∀ c0 r0, l = c0 :: r0 → (lal c0 || ldg c0) = true → i < j) ∧ lx l 1 a (i - st) = wtk a' (j - st) :: lx l' 0 0 0 ∧ f_X7_readWord_6 n (nI tl) (nI st) (lN a) (nI i) σ = f_X7_readWord_52 (nI st) (lN a') (nI j) σ
  | _, _, 0, _, _, hn, _ => absurd hn (Nat.not_lt_zero _)
  | [], i, n + 1, a, h, _, hst => by
    have hi : i = tl := h
    refine ⟨i, a, [], h, ⟨Nat.le_refl _, fun _ _ e => nomatch e⟩, rfl, ?_⟩
    rw [f_X7_readWord_6, if_pos (nI_le (by omega) (by omega))]
  | c :: r, i, n + 1, a, h, hn, hst => by
    obtain ⟨h1, h2, h3⟩ := h
    have hn' : r.length < n := Nat.lt_of_succ_lt_succ hn
    obtain ⟨t1, t2⟩ := hT i h1
    rw [h2] at t1 t2
    have go := e_wordC hT htl (st := st) r (i + 1) n (a * 256 + c) h3 hn' (by omega)
    have e32 : f_X7_readWord_32 (f_X7_readWord_6 n) (nI tl) (nI st) (lN a) (nI i) σ = f_X7_readWord_6 n (nI tl) (nI st) (lN (a * 256 + c)) (nI (i + 1)) σ := by
      unfold f_X7_readWord_32
      rw [if_neg (nI_in (by omega) (by omega)), nI_clamp (by omega), lt_e, lt_e, t1, nI_l (by omega), nI_1, show (256 : Int64) = lN 256 from rfl, lN_mul, lN_add]
    have gd : ¬ (nI i < 0 ∨ 1500 ≤ (nI i).toNatClampNeg) := nI_in (by omega) (by omega)
    by_cases q : (lal c || ldg c) = true
    · obtain ⟨j, a', l', g1, g2, g3, g4⟩ := go
      refine ⟨j, a', l', g1, ⟨by omega, fun _ _ _ _ => by omega⟩, ?_, ?_⟩
      · rw [lx_ww q, ← g3, show i + 1 - st = i - st + 1 by omega]
      · rw [f_X7_readWord_6, if_neg (nI_ge (by omega) (by omega)), if_neg gd, nI_clamp (by omega), t1, c_letter t2, bnd_s]
        by_cases q1 : 97 ≤ c ∧ c ≤ 122
        · rw [if_pos q1, if_neg (show ¬ (1 : Int32) = 0 by decide), e32, g4]
        · have q2 : 48 ≤ c ∧ c ≤ 57 := by
            rcases (Bool.or_eq_true _ _).mp q with q | q
            · exact absurd (lal_i.mp q) q1
            · exact ldg_i.mp q
          rw [if_neg q1, if_pos (show (0 : Int32) = 0 from rfl), if_neg (nI_in2 (by omega) (by omega)), t1, c_digit t2, bnd_s, if_pos q2, if_neg (show ¬ (1 : Int32) = 0 by decide), e32, g4]
    · have q' : (lal c || ldg c) = false := by
        cases hq : (lal c || ldg c) with
        | true => exact absurd hq q
        | false => rfl
      have q1 : ¬ (97 ≤ c ∧ c ≤ 122) := fun e => q (by rw [lal_i.mpr e]; rfl)
      have q2 : ¬ (48 ≤ c ∧ c ≤ 57) := fun e => q (by rw [ldg_i.mpr e, Bool.or_true])
      refine ⟨i, a, c :: r, ⟨h1, h2, h3⟩, ⟨Nat.le_refl _, fun c0 r0 e hc0 => by cases e; rw [q'] at hc0; cases hc0⟩, lx_w q' r a (i - st), ?_⟩
      rw [f_X7_readWord_6, if_neg (nI_ge (by omega) (by omega)), if_neg gd, nI_clamp (by omega), t1, c_letter t2, bnd_s, if_neg q1, if_pos (show (0 : Int32) = 0 from rfl), if_neg (nI_in2 (by omega) (by omega)), t1, c_digit t2, bnd_s, if_neg q2, if_pos (show (0 : Int32) = 0 from rfl)]
theorem e_numC (hT : TB1 tl B σ) (htl : tl ≤ 1500) {st : Nat} : ∀ (l : List Nat) (i n a : Nat), AtB B tl i l → l.length < n → st ≤ i →
    ∃ j a' l', AtB B tl j l' ∧ (i ≤ j ∧ ∀ c0 r0, l = c0 :: r0 → ldg c0 = true → i < j) ∧ lx l 2 a (i - st) = ntk a' (j - st) :: lx l' 0 0 0 ∧ f_X7_readNumber_6 n (nI tl) (nI st) (lN a) (nI i) σ = f_X7_readNumber_45 (nI st) (lN a') (nI j) σ
  | _, _, 0, _, _, hn, _ => absurd hn (Nat.not_lt_zero _)
  | [], i, n + 1, a, h, _, hst => by
    have hi : i = tl := h
    refine ⟨i, a, [], h, ⟨Nat.le_refl _, fun _ _ e => nomatch e⟩, rfl, ?_⟩
    rw [f_X7_readNumber_6, if_pos (nI_le (by omega) (by omega))]
  | c :: r, i, n + 1, a, h, hn, hst => by
    obtain ⟨h1, h2, h3⟩ := h
    have hn' : r.length < n := Nat.lt_of_succ_lt_succ hn
    obtain ⟨t1, t2⟩ := hT i h1
    rw [h2] at t1 t2
    have go := e_numC hT htl (st := st) r (i + 1) n (a * 10 + (c - 48)) h3 hn' (by omega)
    have gd : ¬ (nI i < 0 ∨ 1500 ≤ (nI i).toNatClampNeg) := nI_in (by omega) (by omega)
    by_cases q2 : 48 ≤ c ∧ c ≤ 57
    · obtain ⟨j, a', l', g1, g2, g3, g4⟩ := go
      refine ⟨j, a', l', g1, ⟨by omega, fun _ _ _ _ => by omega⟩, ?_, ?_⟩
      · rw [lx_nn (ldg_i.mpr q2), ← g3, show i + 1 - st = i - st + 1 by omega]
      · rw [f_X7_readNumber_6, if_neg (nI_ge (by omega) (by omega)), if_neg gd, nI_clamp (by omega), t1, c_digit t2, bnd_s, if_pos q2, if_neg (show ¬ (1 : Int32) = 0 by decide), if_neg (nI_in2 (by omega) (by omega)), lt_e, lt_e, t1, show (48 : Int32) = nI 48 from rfl, pk_sub q2.1, nI_l (by omega), nI_1, show (10 : Int64) = lN 10 from rfl, lN_mul, lN_add, g4]
    · have q' : ldg c = false := by
        cases hq : ldg c with
        | true => exact absurd (ldg_i.mp hq) q2
        | false => rfl
      refine ⟨i, a, c :: r, ⟨h1, h2, h3⟩, ⟨Nat.le_refl _, fun c0 r0 e hc0 => by cases e; rw [q'] at hc0; cases hc0⟩, lx_n q' r a (i - st), ?_⟩
      rw [f_X7_readNumber_6, if_neg (nI_ge (by omega) (by omega)), if_neg gd, nI_clamp (by omega), t1, c_digit t2, bnd_s, if_neg q2, if_pos (show (0 : Int32) = 0 from rfl)]
theorem e_kindW (v : Int64) (σ : Sta) : f_X7_kindOfWord v σ = some (kwS v bKW 256 0, σ) := by
  unfold f_X7_kindOfWord
  exact kw_run v σ bKW 0 FU 256 0 (by decide) rfl (Nat.lt_of_le_of_lt (by decide : bKW.length ≤ 67) (FU_lt (by decide)))
theorem ble_f {a b : Nat} (h : ¬ a ≤ b) : Nat.ble a b = false := by
  cases hq : Nat.ble a b with
  | true => exact absurd (Nat.ble_eq.mp hq) h
  | false => rfl
theorem e_wtok {st a j m : Nat} (hj : j ≤ 1500) (hst : st ≤ j) (hm : gI σ 67 = nI m) (hm2 : m < 1501) : f_X7_readWord_52 (nI st) (lN a) (nI j) σ = some (nI j, putC σ m (kC (wtk a (j - st))) (nI st) (lN a)) := by
  unfold f_X7_readWord_52 f_X7_readWord_73 kC wtk
  rw [pk_sub hst]
  by_cases q : j - st ≤ 8
  · rw [if_pos (show nI (j - st) ≤ 8 from nI_le q (by decide)), e_kindW, bnd_s, e_put hm hm2, bnd_s, Nat.ble_eq.mpr q]
    rfl
  · rw [if_neg (show ¬ nI (j - st) ≤ 8 from nI_ge (b := j - st) (a := 8) (by omega) (by omega)), e_put hm hm2, bnd_s, ble_f q]
    rfl
theorem e_ntok {st a j m : Nat} (hj : j ≤ 1500) (hst : st ≤ j) (hm : gI σ 67 = nI m) (hm2 : m < 1501) : f_X7_readNumber_45 (nI st) (lN a) (nI j) σ = some (nI j, putC σ m (kC (ntk a (j - st))) (nI st) (lN a)) := by
  unfold f_X7_readNumber_45 f_X7_readNumber_64 kC ntk
  rw [pk_sub hst]
  by_cases q : j - st ≤ 6
  · rw [if_pos (show nI (j - st) ≤ 6 from nI_le q (by decide)), e_put hm hm2, bnd_s, Nat.ble_eq.mpr q]
    rfl
  · rw [if_neg (show ¬ nI (j - st) ≤ 6 from nI_ge (b := j - st) (a := 6) (by omega) (by omega)), e_put hm hm2, bnd_s, ble_f q]
    rfl
theorem sy_tab : ∀ b, b < 256 → (if ixS bS1 ((nI b).toInt8.toInt32) 12 0 < 0 then (279 : Int32) else nI b) = nI (lsy b) ∧ ((nI b).toUInt32 % 65536).toInt32 = nI b ∧ lsy b ≠ 1000 := by decide +kernel
/-- the kind of a pair of bytes -/
theorem e_pairC (a b : Int32) (σ : Sta) : f_X7_kindOfPair a b σ = some (if a = 60 ∧ b = 61 then 275 else if a = 62 ∧ b = 61 then 276 else if a = 60 ∧ b = 62 then 277 else 279, σ) := by
  unfold f_X7_kindOfPair f_X7_kindOfPair_16 f_X7_kindOfPair_32 f_X7_kindOfPair_50 f_X7_kindOfPair_53
  by_cases h1 : a = 60
  · subst h1
    by_cases h2 : b = 61
    · simp [h2]
    · by_cases h3 : b = 62 <;> simp [h2, h3]
  · by_cases h4 : a = 62
    · subst h4
      by_cases h2 : b = 61 <;> simp [h2]
    · simp [h1, h4]
end LX
