/-! What is known of a compiled program with its states, told once for both sides: number of states, of gains, of variables; by state: choices, whether it is a goal; by state and choice: the command; by state, choice and branch: the target; by command: branches; by command and branch: chances; gains by state, choice and gain; values. -/
abbrev AW : Type := Nat × Nat × Nat × (Nat → Nat) × (Nat → Bool) × (Nat → Nat → Nat) × (Nat → Nat → Nat → Nat) × (Nat → Nat) × (Nat → Nat → Nat) × (Nat → Nat → Nat → Int64) × (Nat → Nat → Int32)
def aNs (w : AW) : Nat := w.1
def aNg (w : AW) : Nat := w.2.1
def aNv (w : AW) : Nat := w.2.2.1
def aCh (w : AW) : Nat → Nat := w.2.2.2.1
def aGl (w : AW) : Nat → Bool := w.2.2.2.2.1
def aCm (w : AW) : Nat → Nat → Nat := w.2.2.2.2.2.1
def aTg (w : AW) : Nat → Nat → Nat → Nat := w.2.2.2.2.2.2.1
def aNb (w : AW) : Nat → Nat := w.2.2.2.2.2.2.2.1
def aPc (w : AW) : Nat → Nat → Nat := w.2.2.2.2.2.2.2.2.1
def aGn (w : AW) : Nat → Nat → Nat → Int64 := w.2.2.2.2.2.2.2.2.2.1
def aVl (w : AW) : Nat → Nat → Int32 := w.2.2.2.2.2.2.2.2.2.2
def aAccN (f : Nat → Nat) : Nat → Nat → Nat → Nat
  | 0, _, a => a
  | m + 1, k, a => aAccN f m (k + 1) (a + f k)
def aAcc (f : Nat → Int64) : Nat → Nat → Int64 → Int64
  | 0, _, a => a
  | m + 1, k, a => aAcc f m (k + 1) (a + f k)
def AWok (w : AW) : Prop := aNs w ≤ 100 ∧ aNg w ≤ 3 ∧ aNv w ≤ 6 ∧ (∀ s, s < aNs w → aCh w s ≤ 16 ∧ (aGl w s = true → aCh w s = 0)) ∧
  (∀ s c, s < aNs w → c < aCh w s → aCm w s c < 16 ∧ aNb w (aCm w s c) ≤ 4 ∧ (∀ b, b < aNb w (aCm w s c) → aTg w s c b < aNs w ∧ aPc w (aCm w s c) b ≤ 100) ∧ aAccN (aPc w (aCm w s c)) (aNb w (aCm w s c)) 0 0 = 100)
/-- the class's side -/
def AC (w : AW) (σ : Sta) : Prop := gI σ 322 = nI (aNs w) ∧ gI σ 197 = nI (aNg w) ∧ gI σ 192 = nI (aNv w) ∧ (∀ s, s < aNs w → gA σ 33 s = if aGl w s = true then -1 else nI (aCh w s)) ∧
  (∀ s c, s < aNs w → c < aCh w s → gA σ 34 (s * 16 + c) = nI (aCm w s c) ∧ gA σ 29 (aCm w s c) = nI (aNb w (aCm w s c)) ∧ (∀ b, b < aNb w (aCm w s c) → gA σ 30 (aCm w s c * 4 + b) = nI (aPc w (aCm w s c) b) ∧ gA σ 35 ((s * 16 + c) * 4 + b) = nI (aTg w s c b)) ∧
    (∀ g, g < aNg w → (gA σ 24 g < 0 ∧ gJ σ 36 (s * 3 + g) = aGn w s c g) ∨ (¬ gA σ 24 g < 0 ∧ gA σ 24 g = nI (aCm w s c) ∧ gJ σ 36 (s * 3 + g) = aGn w s c g) ∨ (¬ gA σ 24 g < 0 ∧ gA σ 24 g ≠ nI (aCm w s c) ∧ aGn w s c g = 0))) ∧
  (∀ s v, s < aNs w → v < aNv w → gA σ 32 (s * 6 + v) = aVl w s v)
/-- the model's side -/
def AM (w : AW) (τ : Sta) : Prop := gI τ 37 = nI (aNs w) ∧ gI τ 15 = nI (aNg w) ∧ gI τ 10 = nI (aNv w) ∧ (∀ s, s < aNs w → gA τ 23 s = nI (aCh w s) ∧ gA τ 22 s = if aGl w s = true then 1 else 0) ∧
  (∀ s c, s < aNs w → c < aCh w s → gA τ 24 (16 * s + c) = nI (aCm w s c) ∧ gA τ 16 (aCm w s c) = nI (aNb w (aCm w s c)) ∧ (∀ b, b < aNb w (aCm w s c) → gA τ 17 (aCm w s c * 4 + b) = nI (aPc w (aCm w s c) b) ∧ gA τ 26 (4 * (16 * s + c) + b) = nI (aTg w s c b)) ∧
    (∀ g, g < aNg w → gJ τ 25 (3 * (16 * s + c) + g) = aGn w s c g)) ∧
  (∀ s v, s < aNs w → v < aNv w → gA τ 21 (6 * s + v) = aVl w s v)
theorem AC_sI {w : AW} {σ : Sta} {k : Nat} {v : Int32} (h : k ≠ 322 ∧ k ≠ 197 ∧ k ≠ 192) (hA : AC w σ) : AC w (sI σ k v) := by
  unfold AC at *
  simp only [gI_sI, gA_sI, gJ_sI]
  rw [if_neg (fun e => h.1 e.symm), if_neg (fun e => h.2.1 e.symm), if_neg (fun e => h.2.2 e.symm)]
  exact hA
theorem AC_sL {w : AW} {σ : Sta} {k : Nat} {v : Int64} (hA : AC w σ) : AC w (sL σ k v) := hA
theorem AC_sP {w : AW} {σ : Sta} {k : Nat} {v : Nat} (hA : AC w σ) : AC w (sP σ k v) := hA
theorem AC_sA {w : AW} {σ : Sta} {k : Nat} {v : Nat → Int32} (h : k ≠ 33 ∧ k ≠ 34 ∧ k ≠ 29 ∧ k ≠ 30 ∧ k ≠ 35 ∧ k ≠ 24 ∧ k ≠ 32) (hA : AC w σ) : AC w (sA σ k v) := by
  unfold AC at *
  simp only [gI_sA, gA_sA, gJ_sA]
  rw [if_neg (fun e => h.1 e.symm), if_neg (fun e => h.2.1 e.symm), if_neg (fun e => h.2.2.1 e.symm), if_neg (fun e => h.2.2.2.1 e.symm), if_neg (fun e => h.2.2.2.2.1 e.symm), if_neg (fun e => h.2.2.2.2.2.1 e.symm), if_neg (fun e => h.2.2.2.2.2.2 e.symm)]
  exact hA
theorem AC_sJ {w : AW} {σ : Sta} {k : Nat} {v : Nat → Int64} (h : k ≠ 36) (hA : AC w σ) : AC w (sJ σ k v) := by
  unfold AC at *
  simp only [gI_sJ, gA_sJ, gJ_sJ]
  rw [if_neg (fun e => h e.symm)]
  exact hA
theorem AM_sI {w : AW} {σ : Sta} {k : Nat} {v : Int32} (h : k ≠ 37 ∧ k ≠ 15 ∧ k ≠ 10) (hA : AM w σ) : AM w (sI σ k v) := by
  unfold AM at *
  simp only [gI_sI, gA_sI, gJ_sI]
  rw [if_neg (fun e => h.1 e.symm), if_neg (fun e => h.2.1 e.symm), if_neg (fun e => h.2.2 e.symm)]
  exact hA
theorem AM_sL {w : AW} {σ : Sta} {k : Nat} {v : Int64} (hA : AM w σ) : AM w (sL σ k v) := hA
theorem AM_sA {w : AW} {σ : Sta} {k : Nat} {v : Nat → Int32} (h : k ≠ 23 ∧ k ≠ 22 ∧ k ≠ 24 ∧ k ≠ 16 ∧ k ≠ 17 ∧ k ≠ 26 ∧ k ≠ 21) (hA : AM w σ) : AM w (sA σ k v) := by
  unfold AM at *
  simp only [gI_sA, gA_sA, gJ_sA]
  rw [if_neg (fun e => h.1 e.symm), if_neg (fun e => h.2.1 e.symm), if_neg (fun e => h.2.2.1 e.symm), if_neg (fun e => h.2.2.2.1 e.symm), if_neg (fun e => h.2.2.2.2.1 e.symm), if_neg (fun e => h.2.2.2.2.2.1 e.symm), if_neg (fun e => h.2.2.2.2.2.2 e.symm)]
  exact hA
theorem AM_sJ {w : AW} {σ : Sta} {k : Nat} {v : Nat → Int64} (h : k ≠ 25) (hA : AM w σ) : AM w (sJ σ k v) := by
  unfold AM at *
  simp only [gI_sJ, gA_sJ, gJ_sJ]
  rw [if_neg (fun e => h e.symm)]
  exact hA
/-! what the class's small readers tell -/
theorem e_entry {q N k : Nat} {σ : Sta} (h : k < N) (hN : N < 2 ^ 31) : f_X8_entry q N (nI k) σ = some (gA σ q k, σ) := by
  unfold f_X8_entry
  rw [if_neg (nI_pos (by omega)), nI_ofN, if_neg (nI_ge h hN), if_neg (nI_in h hN), nI_clamp (by omega)]
  rfl
theorem e_entryL {q N k : Nat} {σ : Sta} (h : k < N) (hN : N < 2 ^ 31) : f_X8_entry_ q N (nI k) σ = some (gJ σ q k, σ) := by
  unfold f_X8_entry_
  rw [if_neg (nI_pos (by omega)), nI_ofN, if_neg (nI_ge h hN), if_neg (nI_in h hN), nI_clamp (by omega)]
  rfl
theorem ok_s {w : AW} (hw : AWok w) {s c : Nat} (hs : s < aNs w) (hc : c < aCh w s) : s < 100 ∧ c < 16 ∧ aCm w s c < 16 ∧ aNb w (aCm w s c) ≤ 4 :=
  ⟨Nat.lt_of_lt_of_le hs hw.1, Nat.lt_of_lt_of_le hc (hw.2.2.2.1 s hs).1, (hw.2.2.2.2 s c hs hc).1, (hw.2.2.2.2 s c hs hc).2.1⟩
theorem e_commandOf {w : AW} {σ : Sta} (hw : AWok w) (h : AC w σ) {s c : Nat} (hs : s < aNs w) (hc : c < aCh w s) : f_X5_commandOf (nI s) (nI c) σ = some (nI (aCm w s c), σ) := by
  have h1 := ok_s hw hs hc
  unfold f_X5_commandOf
  rw [nI_mulL, nI_add, e_entry (by omega) (by omega), bnd_s, (h.2.2.2.2.1 s c hs hc).1]
theorem e_branchesOf {w : AW} {σ : Sta} (hw : AWok w) (h : AC w σ) {s c : Nat} (hs : s < aNs w) (hc : c < aCh w s) : f_X5_branchesOf (nI s) (nI c) σ = some (nI (aNb w (aCm w s c)), σ) := by
  have h1 := ok_s hw hs hc
  unfold f_X5_branchesOf
  rw [e_commandOf hw h hs hc, bnd_s, e_entry (by omega) (by omega), bnd_s, (h.2.2.2.2.1 s c hs hc).2.1]
theorem e_chanceOf {w : AW} {σ : Sta} (hw : AWok w) (h : AC w σ) {s c b : Nat} (hs : s < aNs w) (hc : c < aCh w s) (hb : b < aNb w (aCm w s c)) : f_X5_chanceOf (nI s) (nI c) (nI b) σ = some (nI (aPc w (aCm w s c) b), σ) := by
  have h1 := ok_s hw hs hc
  unfold f_X5_chanceOf
  rw [e_commandOf hw h hs hc, bnd_s, nI_mulL, nI_add, e_entry (by omega) (by omega), bnd_s, ((h.2.2.2.2.1 s c hs hc).2.2.1 b hb).1]
theorem e_targetOf {w : AW} {σ : Sta} (hw : AWok w) (h : AC w σ) {s c b : Nat} (hs : s < aNs w) (hc : c < aCh w s) (hb : b < aNb w (aCm w s c)) : f_X5_targetOf (nI s) (nI c) (nI b) σ = some (nI (aTg w s c b), σ) := by
  have h1 := ok_s hw hs hc
  unfold f_X5_targetOf
  rw [nI_mulL, nI_add, nI_mulL, nI_add, e_entry (by omega) (by omega), bnd_s, ((h.2.2.2.2.1 s c hs hc).2.2.1 b hb).2]
theorem e_gainOf {w : AW} {σ : Sta} (hw : AWok w) (h : AC w σ) {s c g : Nat} (hs : s < aNs w) (hc : c < aCh w s) (hg : g < aNg w) : f_X5_gainOf (nI s) (nI c) (nI g) σ = some (aGn w s c g, σ) := by
  have h1 := ok_s hw hs hc
  have h2 := hw.2.1
  have h3 : f_X5_gainOf_31 (nI s) (nI g) σ = some (gJ σ 36 (s * 3 + g), σ) := by
    unfold f_X5_gainOf_31
    rw [nI_mulL, nI_add, e_entryL (by omega) (by omega), bnd_s]
  unfold f_X5_gainOf
  rw [e_entry (by omega) (by omega), bnd_s]
  rcases (h.2.2.2.2.1 s c hs hc).2.2.2 g hg with ⟨a1, a2⟩ | ⟨a1, a2, a3⟩ | ⟨a1, a2, a3⟩
  · rw [if_pos a1, h3, a2]
  · rw [if_neg a1, e_commandOf hw h hs hc, bnd_s, if_pos a2, h3, a3]
  · rw [if_neg a1, e_commandOf hw h hs hc, bnd_s, if_neg a2, a3]
/-- the mean of numbers behind -/
def aLater (w : AW) (row : Nat → Int64) (s c : Nat) : Int64 := aAcc (fun b => (nI (aPc w (aCm w s c) b)).toInt64 * row (aTg w s c b)) (aNb w (aCm w s c)) 0 0 / 100
theorem e_later_l {w : AW} {σ : Sta} (hw : AWok w) (h : AC w σ) {s c q N fr : Nat} (hs : s < aNs w) (hc : c < aCh w s) (hN : fr + aNs w ≤ N) (hN2 : N < 2 ^ 31) : ∀ (m k n : Nat) (a : Int64), k + m = aNb w (aCm w s c) → m < n →
    f_X2_later_6 q N n (nI fr) (nI s) (nI c) a (nI k) σ = some (aAcc (fun b => (nI (aPc w (aCm w s c) b)).toInt64 * gJ σ q (fr + aTg w s c b)) m k a / 100, σ)
  | _, _, 0, _, _, hn => absurd hn (Nat.not_lt_zero _)
  | 0, k, n + 1, a, hk, hn => by
    have h1 := ok_s hw hs hc
    rw [f_X2_later_6, e_branchesOf hw h hs hc, bnd_s, if_pos (nI_le (by omega) (by omega))]
    rfl
  | m + 1, k, n + 1, a, hk, hn => by
    have h1 := ok_s hw hs hc
    have h2 := ((hw.2.2.2.2 s c hs hc).2.2.1 k (by omega)).1
    rw [f_X2_later_6, e_branchesOf hw h hs hc, bnd_s, if_neg (nI_ge (by omega) (by omega)), e_targetOf hw h hs hc (by omega), bnd_s, nI_add, e_entryL (by omega) hN2, bnd_s, e_chanceOf hw h hs hc (by omega), bnd_s, lt_e, lt_e, nI_1, e_later_l hw h hs hc hN hN2 m (k + 1) n _ (by omega) (by omega)]
    rfl
theorem e_later {w : AW} {σ : Sta} (hw : AWok w) (h : AC w σ) {s c q N fr : Nat} (hs : s < aNs w) (hc : c < aCh w s) (hN : fr + aNs w ≤ N) (hN2 : N < 2 ^ 31) : f_X2_later q N (nI fr) (nI s) (nI c) σ = some (aLater w (fun t => gJ σ q (fr + t)) s c, σ) := by
  have h1 := ok_s hw hs hc
  exact e_later_l hw h hs hc hN hN2 (aNb w (aCm w s c)) 0 FU 0 (by omega) (FU_lt (by omega))
theorem e_weighted_l {w : AW} {σ : Sta} (hw : AWok w) (h : AC w σ) {s c d : Nat} (hs : s < aNs w) (hc : c < aCh w s) : ∀ (m k n : Nat) (a : Int64), k + m = aNg w → m < n →
    f_X2_weighted_6 d n (nI s) (nI c) a (nI k) σ = some (aAcc (fun g => (gA σ (41 + 5 * d + 1) g).toInt64 * aGn w s c g) m k a, σ)
  | _, _, 0, _, _, hn => absurd hn (Nat.not_lt_zero _)
  | 0, k, n + 1, a, hk, hn => by
    have h2 := hw.2.1
    rw [f_X2_weighted_6, h.2.1, if_pos (nI_le (by omega) (by omega))]
    rfl
  | m + 1, k, n + 1, a, hk, hn => by
    have h2 := hw.2.1
    rw [f_X2_weighted_6, h.2.1, if_neg (nI_ge (by omega) (by omega)), if_neg (nI_in (by omega) (by omega)), e_gainOf hw h hs hc (by omega), bnd_s, lt_e, lt_e, nI_1, nI_clamp (by omega), e_weighted_l hw h hs hc m (k + 1) n _ (by omega) (by omega)]
    rfl
theorem e_weighted {w : AW} {σ : Sta} (hw : AWok w) (h : AC w σ) {s c d : Nat} (hs : s < aNs w) (hc : c < aCh w s) : f_X2_weighted d (nI s) (nI c) σ = some (aAcc (fun g => (gA σ (41 + 5 * d + 1) g).toInt64 * aGn w s c g) (aNg w) 0 0, σ) := by
  have h2 := hw.2.1
  exact e_weighted_l hw h hs hc (aNg w) 0 FU 0 (by omega) (FU_lt (by omega))
/-! the model's -/
theorem e_manyBranches {w : AW} {σ : Sta} (hw : AWok w) (h : AM w σ) {s c : Nat} (hs : s < aNs w) (hc : c < aCh w s) : f_X10_manyBranches (nI (16 * s + c)) σ = some (nI (aNb w (aCm w s c)), σ) := by
  have h1 := ok_s hw hs hc
  unfold f_X10_manyBranches
  rw [if_neg (nI_in (by omega) (by omega)), nI_clamp (by omega), (h.2.2.2.2.1 s c hs hc).1, if_neg (nI_in (by omega) (by omega)), nI_clamp (by omega), (h.2.2.2.2.1 s c hs hc).2.1]
theorem e_chanceOfM {w : AW} {σ : Sta} (hw : AWok w) (h : AM w σ) {s c b : Nat} (hs : s < aNs w) (hc : c < aCh w s) (hb : b < aNb w (aCm w s c)) : f_X10_chanceOf (nI (16 * s + c)) (nI b) σ = some (nI (aPc w (aCm w s c) b), σ) := by
  have h1 := ok_s hw hs hc
  unfold f_X10_chanceOf
  rw [if_neg (nI_in (by omega) (by omega)), nI_clamp (by omega), (h.2.2.2.2.1 s c hs hc).1, nI_mulL, nI_add, if_neg (nI_in (by omega) (by omega)), nI_clamp (by omega), ((h.2.2.2.2.1 s c hs hc).2.2.1 b hb).1]
theorem e_expected_l {w : AW} {σ : Sta} (hw : AWok w) (h : AM w σ) {s c q N fr : Nat} (hs : s < aNs w) (hc : c < aCh w s) (hN : fr + aNs w ≤ N) (hN2 : N < 2 ^ 31) : ∀ (m k n : Nat) (a : Int64), k + m = aNb w (aCm w s c) → m < n →
    f_X10_expected_6 q N n (nI (16 * s + c)) (nI fr) a (nI k) σ = some (aAcc (fun b => (nI (aPc w (aCm w s c) b)).toInt64 * gJ σ q (fr + aTg w s c b)) m k a / 100, σ)
  | _, _, 0, _, _, hn => absurd hn (Nat.not_lt_zero _)
  | 0, k, n + 1, a, hk, hn => by
    have h1 := ok_s hw hs hc
    rw [f_X10_expected_6, e_manyBranches hw h hs hc, bnd_s, if_pos (nI_le (by omega) (by omega))]
    rfl
  | m + 1, k, n + 1, a, hk, hn => by
    have h1 := ok_s hw hs hc
    have h2 := ((hw.2.2.2.2 s c hs hc).2.2.1 k (by omega)).1
    rw [f_X10_expected_6, e_manyBranches hw h hs hc, bnd_s, if_neg (nI_ge (by omega) (by omega)), e_chanceOfM hw h hs hc (by omega), bnd_s, nI_Lmul, nI_add, if_neg (nI_in (by omega) (by omega)), nI_clamp (by omega), ((h.2.2.2.2.1 s c hs hc).2.2.1 k (by omega)).2, nI_add, if_neg (nI_in (by omega) hN2), nI_clamp (by omega), lt_e, lt_e, nI_1, e_expected_l hw h hs hc hN hN2 m (k + 1) n _ (by omega) (by omega)]
    rfl
theorem e_expected {w : AW} {σ : Sta} (hw : AWok w) (h : AM w σ) {s c q N fr : Nat} (hs : s < aNs w) (hc : c < aCh w s) (hN : fr + aNs w ≤ N) (hN2 : N < 2 ^ 31) : f_X10_expected (nI (16 * s + c)) q N (nI fr) σ = some (aLater w (fun t => gJ σ q (fr + t)) s c, σ) := by
  have h1 := ok_s hw hs hc
  exact e_expected_l hw h hs hc hN hN2 (aNb w (aCm w s c)) 0 FU 0 (by omega) (FU_lt (by omega))
