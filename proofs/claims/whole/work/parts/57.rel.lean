/-! How the class's world and the reference's hang together between calls. -/
def Tape (σ τ : Sta) : Prop := ∃ tl : Nat, tl ≤ 1500 ∧ gI σ 1 = nI tl ∧ gI τ 3 = nI tl ∧ ∀ j, j < tl → gA σ 8 j = gA τ 2 j ∧ ∃ b : Nat, b < 256 ∧ gA σ 8 j = nI b
/-- a strategy that is kept, on both sides -/
def Kept (w : AW) (i : Nat) (σ τ : Sta) : Prop := ∃ (st : Nat) (T : Nat → Nat → Int32) (W : Nat → Nat → Int64) (B : Nat → Int64) (P : Int32), 1 ≤ st ∧ st ≤ 30 ∧ (∀ n, n < st → TV w (T n)) ∧ StrC w (gP σ i) st T W B P σ ∧ StrM w i st T W B P τ
def Perm (σ : Sta) : Prop := (∀ i, i < 13 → gP σ i < 13) ∧ (∀ i j, i < 13 → j < 13 → gP σ i = gP σ j → i = j) ∧ (∀ d t, d < 13 → t < 100 → gJ σ (41 + 5 * d + 3) t = 0)
def Strs (w : AW) (σ τ : Sta) : Prop := ∃ kp : Nat, kp ≤ 12 ∧ gI σ 11 = nI kp ∧ gI τ 47 = nI kp ∧ (0 < kp → 0 < aNs w) ∧ Perm σ ∧ ∀ i, i < kp → Kept w i σ τ
def Plays (σ τ : Sta) : Prop := ∃ p : Nat, p ≤ 30 ∧ gI σ 450 = nI p ∧ gJ τ 37 0 = lN p ∧ ∀ g, g < 3 → gJ τ 37 (1 + g) = gJ σ 40 g
/-- the keywords, packed -/
def kwW : Nat → Int64 := fun k => [7758194, 26990, 29807, 1734437230, 7366002, 1735352684, 25711, 2003330414, 26479, 7562612, 1634497391, 6385252, 28530, 7237492, 7170414, 7168376, 6382195].getD k 0
def Rest (w : AW) (σ τ : Sta) : Prop := gI σ 12 = gI τ 35 ∧ gL σ 13 = gL τ 36 ∧ gL σ 449 = gL τ 55 ∧ (∀ g, g < 3 → gA σ 9 g = gA τ 29 g) ∧ (∃ nc : Nat, nc ≤ 16 ∧ gI σ 202 = nI nc ∧ gI τ 19 = nI nc) ∧ (∀ v, v < aNv w → gJ σ 19 v = gJ τ 7 v) ∧ (∃ sz : Nat, sz ≤ 1500 ∧ gI τ 26 = nI sz) ∧ (∀ k, k < 17 → gJ τ 1 k = kwW k)
def REL (w : AW) (σ τ : Sta) : Prop := AWok w ∧ (aNs w = 0 → aNg w = 0) ∧ AC w σ ∧ AM w τ ∧ Tape σ τ ∧ Strs w σ τ ∧ Plays σ τ ∧ Rest w σ τ
/-- an answer, or one of the exceptions e1, e2, e3; the reference answers r and has thrown th -/
def Out {α : Type} (o : α ⊕ String) (r : α) (th : Int32) (e1 e2 e3 : String) : Prop := (o = .inl r ∧ th = 0) ∨ (o = .inr e1 ∧ th = 1) ∨ (o = .inr e2 ∧ th = 2) ∨ (o = .inr e3 ∧ th = 3)
/-! (begun from kit/laws/NUMBERS.to-paste: fa_ rows) -/
theorem fa_lt (a b : Int32) : a < b ↔ a.toInt < b.toInt := Int32.lt_iff_toInt_lt
theorem fa_le (a b : Int32) : a ≤ b ↔ a.toInt ≤ b.toInt := Int32.le_iff_toInt_le
theorem fa_eq (a b : Int32) : a = b ↔ a.toInt = b.toInt := Int32.toInt_inj.symm
theorem fa_lt64 (a b : Int64) : a < b ↔ a.toInt < b.toInt := Int64.lt_iff_toInt_lt
theorem fa_le64 (a b : Int64) : a ≤ b ↔ a.toInt ≤ b.toInt := Int64.le_iff_toInt_le
theorem fa_eq64 (a b : Int64) : a = b ↔ a.toInt = b.toInt := Int64.toInt_inj.symm
theorem fa_wide_lt (a b : Int32) : a.toInt64 < b.toInt64 ↔ a < b := by rw [fa_lt64, fa_lt, Int32.toInt_toInt64, Int32.toInt_toInt64]
theorem fa_wide_le (a b : Int32) : a.toInt64 ≤ b.toInt64 ↔ a ≤ b := by rw [fa_le64, fa_le, Int32.toInt_toInt64, Int32.toInt_toInt64]
theorem fa_wide_eq (a b : Int32) : a.toInt64 = b.toInt64 ↔ a = b := by rw [fa_eq64, fa_eq, Int32.toInt_toInt64, Int32.toInt_toInt64]
/-! numbers in a range -/
theorem nI_sub1 {n : Nat} (hn : n < 2 ^ 31) : (nI n - 1).toInt = (n : Int) - 1 := by
  cases n with
  | zero => decide
  | succ m => rw [nI_pred, nI_toInt (by omega)]; omega
theorem e_isIn (a lo hi : Int64) (σ : Sta) : f_X10_isIn a lo hi σ = some (if lo ≤ a ∧ a ≤ hi then 1 else 0, σ) := by
  unfold f_X10_isIn f_X10_isIn_17 f_X10_isIn_18
  by_cases h : a < lo
  · rw [if_pos ((lg_cmp_lt _ _).mpr h), if_neg (by decide), if_neg (fun e => Int64.not_le.mpr h e.1)]
  · rw [if_neg (fun e => h ((lg_cmp_lt _ _).mp e))]
    by_cases h2 : hi < a
    · rw [if_pos ((lg_cmp_gt _ _).mpr h2), if_neg (by decide), if_neg (fun e => Int64.not_le.mpr h2 e.2)]
    · rw [if_neg (fun e => h2 ((lg_cmp_gt _ _).mp e)), if_neg (by decide), if_pos ⟨Int64.not_lt.mp h, Int64.not_lt.mp h2⟩]
theorem e_isR (x lo hi : Int32) (σ : Sta) : f_X10_isIn x.toInt64 lo.toInt64 hi.toInt64 σ = some (if lo ≤ x ∧ x ≤ hi then 1 else 0, σ) := by
  rw [e_isIn]
  by_cases h : lo ≤ x ∧ x ≤ hi
  · rw [if_pos h, if_pos ⟨(fa_wide_le _ _).mpr h.1, (fa_wide_le _ _).mpr h.2⟩]
  · rw [if_neg h, if_neg (fun e => h ⟨(fa_wide_le _ _).mp e.1, (fa_wide_le _ _).mp e.2⟩)]
theorem e_cR (x lo hi : Int32) (σ : Sta) : f_X8_checkRange x lo hi σ = some (if lo ≤ x ∧ x ≤ hi then .inl () else .inr eIAE, σ) := by
  unfold f_X8_checkRange f_X8_checkRange_10
  by_cases h : x < lo
  · rw [if_pos h, if_neg (fun e => Int32.not_le.mpr h e.1)]
  · rw [if_neg h]
    by_cases h2 : x ≤ hi
    · rw [if_pos h2, if_pos ⟨Int32.not_lt.mp h, h2⟩]
    · rw [if_neg h2, if_neg (fun e => h2 e.2)]
theorem ix_cases (x : Int32) {n : Nat} (hn : n < 2 ^ 31) : (∃ j, j < n ∧ x = nI j) ∨ (x < 0 ∨ nI n ≤ x) := by
  rcases pk_ix x hn with h | h | h
  · exact Or.inr (Or.inl h)
  · exact Or.inr (Or.inr h)
  · exact Or.inl h
theorem e_cI_in {j n : Nat} (h : j < n) (hn : n < 2 ^ 31) (σ : Sta) : f_X8_checkIndex (nI j) (nI n) σ = some (.inl (), σ) := by
  unfold f_X8_checkIndex
  rw [if_neg (nI_pos (by omega)), if_pos (nI_lt h hn)]
theorem e_cI_out {x : Int32} {n : Nat} (h : x < 0 ∨ nI n ≤ x) (σ : Sta) : f_X8_checkIndex x (nI n) σ = some (.inr eIOB, σ) := by
  unfold f_X8_checkIndex f_X8_checkIndex_9
  by_cases h1 : x < 0
  · rw [if_pos h1]
  · rw [if_neg h1, if_neg (Int32.not_lt.mpr (h.resolve_left h1))]
theorem e_iI_in {j n : Nat} (h : j < n) (hn : n < 2 ^ 31) (σ : Sta) : f_X10_isIn (nI j).toInt64 0 ((nI n - 1).toInt64) σ = some (1, σ) := by
  rw [show (0 : Int64) = (0 : Int32).toInt64 by decide, e_isR, if_pos]
  refine ⟨nI_pos' (by omega), ?_⟩
  rw [fa_le, nI_sub1 hn, nI_toInt (by omega)]
  omega
theorem e_iI_out {x : Int32} {n : Nat} (h : x < 0 ∨ nI n ≤ x) (hn : n < 2 ^ 31) (σ : Sta) : f_X10_isIn x.toInt64 0 ((nI n - 1).toInt64) σ = some (0, σ) := by
  rw [show (0 : Int64) = (0 : Int32).toInt64 by decide, e_isR, if_neg]
  intro e
  rcases h with h | h
  · exact Int32.not_le.mpr h e.1
  · have h1 := e.2
    rw [fa_le, nI_sub1 hn] at h1
    rw [fa_le, nI_toInt hn] at h
    omega
theorem e_failM (n : Int32) (τ : Sta) : f_X10_fail n τ = some (0, sI τ 0 n) := rfl
theorem bnx_l {α β : Type} (r : α) (σ : Sta) (k : α → Sta → Option ((β ⊕ String) × Sta)) : bnx (some (.inl r, σ)) k = k r σ := rfl
theorem bnx_r {α β : Type} (X : String) (σ : Sta) (k : α → Sta → Option ((β ⊕ String) × Sta)) : bnx (some (.inr X, σ)) k = some (.inr X, σ) := rfl
/-! the checks of the class -/
theorem e_cState_in {w : AW} {σ : Sta} (hw : AWok w) (h : AC w σ) {s : Nat} (hs : s < aNs w) : f_X8_checkState (nI s) σ = some (.inl (), σ) := by
  have h2 := hw.1
  unfold f_X8_checkState
  rw [h.1, e_cI_in hs (by omega), bnx_l]
theorem e_cState_out {w : AW} {σ : Sta} (h : AC w σ) {x : Int32} (hx : x < 0 ∨ nI (aNs w) ≤ x) : f_X8_checkState x σ = some (.inr eIOB, σ) := by
  unfold f_X8_checkState
  rw [h.1, e_cI_out hx, bnx_r]
theorem e_cGain_in {w : AW} {σ : Sta} (hw : AWok w) (h : AC w σ) {s : Nat} (hs : s < aNg w) : f_X8_checkGain (nI s) σ = some (.inl (), σ) := by
  have h2 := hw.2.1
  unfold f_X8_checkGain
  rw [h.2.1, e_cI_in hs (by omega), bnx_l]
theorem e_cGain_out {w : AW} {σ : Sta} (h : AC w σ) {x : Int32} (hx : x < 0 ∨ nI (aNg w) ≤ x) : f_X8_checkGain x σ = some (.inr eIOB, σ) := by
  unfold f_X8_checkGain
  rw [h.2.1, e_cI_out hx, bnx_r]
theorem e_cStr_in {σ : Sta} {kp s : Nat} (h : gI σ 11 = nI kp) (hk : kp ≤ 12) (hs : s < kp) : f_X8_checkStrategy (nI s) σ = some (.inl (), σ) := by
  unfold f_X8_checkStrategy
  rw [h, e_cI_in hs (by omega), bnx_l]
theorem e_cStr_out {σ : Sta} {kp : Nat} (h : gI σ 11 = nI kp) {x : Int32} (hx : x < 0 ∨ nI kp ≤ x) : f_X8_checkStrategy x σ = some (.inr eIOB, σ) := by
  unfold f_X8_checkStrategy
  rw [h, e_cI_out hx, bnx_r]
theorem e_cChoice_in {w : AW} {σ : Sta} (hw : AWok w) (h : AC w σ) {s c : Nat} (hs : s < aNs w) (hc : c < aCh w s) : f_X8_checkChoice (nI s) (nI c) σ = some (.inl (), σ) := by
  have h2 := hw.1
  have h3 := hw.2.2.2.1 s hs
  unfold f_X8_checkChoice
  rw [e_cState_in hw h hs, bnx_l, if_neg (nI_in (by omega) (by omega)), nI_clamp (by omega), h.2.2.2.1 s hs, if_neg (fun e => by have := h3.2 e; omega), e_cI_in hc (by omega), bnx_l]
theorem e_cChoice_out {w : AW} {σ : Sta} (hw : AWok w) (h : AC w σ) {s : Nat} {x : Int32} (hs : s < aNs w) (hx : x < 0 ∨ nI (aCh w s) ≤ x) : f_X8_checkChoice (nI s) x σ = some (.inr eIOB, σ) := by
  have h2 := hw.1
  have h3 := hw.2.2.2.1 s hs
  unfold f_X8_checkChoice
  rw [e_cState_in hw h hs, bnx_l, if_neg (nI_in (by omega) (by omega)), nI_clamp (by omega), h.2.2.2.1 s hs]
  by_cases hg : aGl w s = true
  · have h4 : f_X8_checkIndex x (-1) σ = some (.inr eIOB, σ) := by
      unfold f_X8_checkIndex f_X8_checkIndex_9
      by_cases h1 : x < 0
      · rw [if_pos h1]
      · rw [if_neg h1, if_neg (fun e => h1 (Int32.lt_of_lt_of_le e (by decide)))]
    rw [if_pos hg, h4, bnx_r]
  · rw [if_neg hg, e_cI_out hx, bnx_r]
/-! the checks of the reference -/
theorem e_mState_in {w : AW} {σ : Sta} (hw : AWok w) (h : AM w σ) {s : Nat} (hs : s < aNs w) : f_X10_isState (nI s) σ = some (1, σ) := by
  have h2 := hw.1
  unfold f_X10_isState
  rw [h.1, e_iI_in hs (by omega), bnd_s, if_neg (by decide)]
theorem e_mState_out {w : AW} {σ : Sta} (hw : AWok w) (h : AM w σ) {x : Int32} (hx : x < 0 ∨ nI (aNs w) ≤ x) : f_X10_isState x σ = some (0, σ) := by
  have h2 := hw.1
  unfold f_X10_isState
  rw [h.1, e_iI_out hx (by omega), bnd_s, if_neg (by decide)]
theorem e_mGain_in {w : AW} {σ : Sta} (hw : AWok w) (h : AM w σ) {s : Nat} (hs : s < aNg w) : f_X10_isGain (nI s) σ = some (1, σ) := by
  have h2 := hw.2.1
  unfold f_X10_isGain
  rw [h.2.1, e_iI_in hs (by omega), bnd_s, if_neg (by decide)]
theorem e_mGain_out {w : AW} {σ : Sta} (hw : AWok w) (h : AM w σ) {x : Int32} (hx : x < 0 ∨ nI (aNg w) ≤ x) : f_X10_isGain x σ = some (0, σ) := by
  have h2 := hw.2.1
  unfold f_X10_isGain
  rw [h.2.1, e_iI_out hx (by omega), bnd_s, if_neg (by decide)]
theorem e_mStr_in {σ : Sta} {kp s : Nat} (h : gI σ 47 = nI kp) (hk : kp ≤ 12) (hs : s < kp) : f_X10_isStrategy (nI s) σ = some (1, σ) := by
  unfold f_X10_isStrategy
  rw [h, e_iI_in hs (by omega), bnd_s, if_neg (by decide)]
theorem e_mStr_out {σ : Sta} {kp : Nat} (h : gI σ 47 = nI kp) (hk : kp ≤ 12) {x : Int32} (hx : x < 0 ∨ nI kp ≤ x) : f_X10_isStrategy x σ = some (0, σ) := by
  unfold f_X10_isStrategy
  rw [h, e_iI_out hx (by omega), bnd_s, if_neg (by decide)]
theorem e_mChoice_in {w : AW} {σ : Sta} (hw : AWok w) (h : AM w σ) {s c : Nat} (hs : s < aNs w) (hc : c < aCh w s) : f_X10_isChoice (nI s) (nI c) σ = some (1, σ) := by
  have h2 := hw.1
  have h3 := hw.2.2.2.1 s hs
  unfold f_X10_isChoice f_X10_isChoice_31
  rw [e_mState_in hw h hs, bnd_s, if_neg (by decide), if_neg (nI_in (by omega) (by omega)), nI_clamp (by omega), (h.2.2.2.1 s hs).1, e_iI_in hc (by omega), bnd_s, if_neg (by decide), if_neg (by decide)]
theorem e_mChoice_out {w : AW} {σ : Sta} (hw : AWok w) (h : AM w σ) {s : Nat} {x : Int32} (hs : s < aNs w) (hx : x < 0 ∨ nI (aCh w s) ≤ x) : f_X10_isChoice (nI s) x σ = some (0, σ) := by
  have h2 := hw.1
  have h3 := hw.2.2.2.1 s hs
  unfold f_X10_isChoice f_X10_isChoice_30 f_X10_isChoice_31
  rw [e_mState_in hw h hs, bnd_s, if_neg (by decide), if_neg (nI_in (by omega) (by omega)), nI_clamp (by omega), (h.2.2.2.1 s hs).1, e_iI_out hx (by omega), bnd_s, if_pos rfl, if_neg (by decide)]
theorem e_mChoice_outs {w : AW} {σ : Sta} (hw : AWok w) (h : AM w σ) {x y : Int32} (hx : x < 0 ∨ nI (aNs w) ≤ x) : f_X10_isChoice x y σ = some (0, σ) := by
  unfold f_X10_isChoice f_X10_isChoice_30 f_X10_isChoice_31
  rw [e_mState_out hw h hx, bnd_s, if_pos rfl, if_neg (by decide)]
theorem e_cChoice_outs {w : AW} {σ : Sta} (h : AC w σ) {x y : Int32} (hx : x < 0 ∨ nI (aNs w) ≤ x) : f_X8_checkChoice x y σ = some (.inr eIOB, σ) := by
  unfold f_X8_checkChoice
  rw [e_cState_out h hx, bnx_r]
/-! what was thrown -/
theorem REL_th {w : AW} {σ τ : Sta} (h : REL w σ τ) (v : Int32) : REL w σ (sI τ 0 v) := by
  refine ⟨h.1, h.2.1, h.2.2.1, AM_sI (by decide) h.2.2.2.1, ?_, ?_, ?_, ?_⟩
  · obtain ⟨tl, a1, a2, a3, a4⟩ := h.2.2.2.2.1
    exact ⟨tl, a1, a2, by rw [gI_sI, if_neg (by decide)]; exact a3, a4⟩
  · obtain ⟨kp, a1, a2, a3, a4, a5, a6⟩ := h.2.2.2.2.2.1
    exact ⟨kp, a1, a2, by rw [gI_sI, if_neg (by decide)]; exact a3, a4, a5, a6⟩
  · exact h.2.2.2.2.2.2.1
  · obtain ⟨a1, a2, a3, a4, a5, a6, a7, a8⟩ := h.2.2.2.2.2.2.2
    refine ⟨by rw [gI_sI, if_neg (by decide)]; exact a1, a2, a3, a4, ?_, a6, ?_, a8⟩
    · obtain ⟨nc, b1, b2, b3⟩ := a5
      exact ⟨nc, b1, b2, by rw [gI_sI, if_neg (by decide)]; exact b3⟩
    · obtain ⟨sz, b1, b2⟩ := a7
      exact ⟨sz, b1, by rw [gI_sI, if_neg (by decide)]; exact b2⟩
theorem th_0 (τ : Sta) (v : Int32) : gI (sI τ 0 v) 0 = v := by rw [gI_sI, if_pos rfl]
