/-! (class-only rows of the pure level, taken over from the claim whole) -/
theorem nI_ofN (n : Nat) : Int32.ofNat n = nI n := rfl
theorem nI_addL (a n : Nat) : nI a + (OfNat.ofNat n : Int32) = nI (a + OfNat.ofNat n) := nI_add a n
theorem nI_Ladd (a n : Nat) : (OfNat.ofNat n : Int32) + nI a = nI (OfNat.ofNat n + a) := nI_add n a
theorem nI_mulL (a n : Nat) : nI a * (OfNat.ofNat n : Int32) = nI (a * OfNat.ofNat n) := pk_mul a n
theorem nI_Lmul (a n : Nat) : (OfNat.ofNat n : Int32) * nI a = nI (OfNat.ofNat n * a) := pk_mul n a
theorem nI_subL {a n : Nat} (h : OfNat.ofNat n ≤ a) : nI a - (OfNat.ofNat n : Int32) = nI (a - OfNat.ofNat n) := pk_sub h
theorem nI_Lsub {a n : Nat} (h : a ≤ OfNat.ofNat n) : (OfNat.ofNat n : Int32) - nI a = nI (OfNat.ofNat n - a) := pk_sub h
theorem pk_m1' {a : Nat} (h : 0 < a) : nI a + (-1) = nI (a - 1) := by
  obtain ⟨b, rfl⟩ : ∃ b, a = b + 1 := ⟨a - 1, by omega⟩
  exact pk_m1 b
theorem nI_leL {a n : Nat} (ha : a < 2 ^ 31) (hn : OfNat.ofNat n < 2 ^ 31) : nI a ≤ (OfNat.ofNat n : Int32) ↔ a ≤ OfNat.ofNat n := nI_leI ha hn
theorem nI_Lle {a n : Nat} (ha : a < 2 ^ 31) (hn : OfNat.ofNat n < 2 ^ 31) : (OfNat.ofNat n : Int32) ≤ nI a ↔ OfNat.ofNat n ≤ a := nI_leI hn ha
theorem nI_ltL {a n : Nat} (ha : a < 2 ^ 31) (hn : OfNat.ofNat n < 2 ^ 31) : nI a < (OfNat.ofNat n : Int32) ↔ a < OfNat.ofNat n := nI_ltI ha hn
theorem nI_Llt {a n : Nat} (ha : a < 2 ^ 31) (hn : OfNat.ofNat n < 2 ^ 31) : (OfNat.ofNat n : Int32) < nI a ↔ OfNat.ofNat n < a := nI_ltI hn ha
theorem nI_eqL {a n : Nat} (ha : a < 2 ^ 31) (hn : OfNat.ofNat n < 2 ^ 31) : nI a = (OfNat.ofNat n : Int32) ↔ a = OfNat.ofNat n := nI_eq ha hn
theorem nI_nneg {a : Nat} (ha : a < 2 ^ 31) : nI a < 0 ↔ False := iff_false_intro (nI_pos ha)
theorem nI_nm1 {a : Nat} (ha : a < 2 ^ 31) : nI a = -1 ↔ False := iff_false_intro (fun e => by
  have h1 := nI_toInt ha
  rw [e] at h1
  have h2 : ((-1 : Int32)).toInt = -1 := by decide
  omega)
theorem nI_clampL {n : Nat} (hn : OfNat.ofNat n < 2 ^ 31) : (OfNat.ofNat n : Int32).toNatClampNeg = OfNat.ofNat n := nI_clamp hn
theorem gdI {α : Type} {k n : Nat} {X : Option α} (h : k < n) (hn : n ≤ 2 ^ 31) : (if nI k < 0 ∨ n ≤ (nI k).toNatClampNeg then none else X) = X := by
  rw [if_neg]
  rw [nI_clamp (by omega)]
  intro h2
  rcases h2 with h2 | h2
  · exact nI_pos (by omega) h2
  · omega
theorem gdN {α : Type} {k n : Nat} {X : Option α} (h : k < n) : (if False ∨ n ≤ k then none else X) = X := by
  rw [if_neg]
  intro h2
  rcases h2 with h2 | h2
  · exact h2
  · omega
theorem gI_sL (σ : Sta) (k : Nat) (v : Int64) (j : Nat) : gI (sL σ k v) j = gI σ j := rfl
theorem gI_sA (σ : Sta) (k : Nat) (v : Nat → Int32) (j : Nat) : gI (sA σ k v) j = gI σ j := rfl
theorem gI_sJ (σ : Sta) (k : Nat) (v : Nat → Int64) (j : Nat) : gI (sJ σ k v) j = gI σ j := rfl
theorem gI_sP (σ : Sta) (k v : Nat) (j : Nat) : gI (sP σ k v) j = gI σ j := rfl
theorem gL_sI (σ : Sta) (k : Nat) (v : Int32) (j : Nat) : gL (sI σ k v) j = gL σ j := rfl
theorem gL_sA (σ : Sta) (k : Nat) (v : Nat → Int32) (j : Nat) : gL (sA σ k v) j = gL σ j := rfl
theorem gL_sJ (σ : Sta) (k : Nat) (v : Nat → Int64) (j : Nat) : gL (sJ σ k v) j = gL σ j := rfl
theorem gL_sP (σ : Sta) (k v : Nat) (j : Nat) : gL (sP σ k v) j = gL σ j := rfl
theorem gA_sI (σ : Sta) (k : Nat) (v : Int32) (j : Nat) : gA (sI σ k v) j = gA σ j := rfl
theorem gA_sL (σ : Sta) (k : Nat) (v : Int64) (j : Nat) : gA (sL σ k v) j = gA σ j := rfl
theorem gA_sJ (σ : Sta) (k : Nat) (v : Nat → Int64) (j : Nat) : gA (sJ σ k v) j = gA σ j := rfl
theorem gA_sP (σ : Sta) (k v : Nat) (j : Nat) : gA (sP σ k v) j = gA σ j := rfl
theorem gJ_sI (σ : Sta) (k : Nat) (v : Int32) (j : Nat) : gJ (sI σ k v) j = gJ σ j := rfl
theorem gJ_sL (σ : Sta) (k : Nat) (v : Int64) (j : Nat) : gJ (sL σ k v) j = gJ σ j := rfl
theorem gJ_sA (σ : Sta) (k : Nat) (v : Nat → Int32) (j : Nat) : gJ (sA σ k v) j = gJ σ j := rfl
theorem gJ_sP (σ : Sta) (k v : Nat) (j : Nat) : gJ (sP σ k v) j = gJ σ j := rfl
theorem gP_sI (σ : Sta) (k : Nat) (v : Int32) (j : Nat) : gP (sI σ k v) j = gP σ j := rfl
theorem gP_sL (σ : Sta) (k : Nat) (v : Int64) (j : Nat) : gP (sL σ k v) j = gP σ j := rfl
theorem gP_sA (σ : Sta) (k : Nat) (v : Nat → Int32) (j : Nat) : gP (sA σ k v) j = gP σ j := rfl
theorem gP_sJ (σ : Sta) (k : Nat) (v : Nat → Int64) (j : Nat) : gP (sJ σ k v) j = gP σ j := rfl
theorem va_up2 {α : Type} (f : Nat → α) (k : Nat) (v w : α) : va_up (va_up f k v) k w = va_up f k w := by
  funext j
  unfold va_up
  by_cases h : j = k
  · rw [if_pos h, if_pos h]
  · rw [if_neg h, if_neg h, if_neg h]
theorem va_upg {α : Type} (f : Nat → α) (k : Nat) : va_up f k (f k) = f := by
  funext j
  unfold va_up
  by_cases h : j = k
  · rw [if_pos h, h]
  · rw [if_neg h]
theorem sI_sI (σ : Sta) (k : Nat) (v w : Int32) : sI (sI σ k v) k w = sI σ k w := by
  show (va_up (va_up σ.1 k v) k w, σ.2) = (va_up σ.1 k w, σ.2)
  rw [va_up2]
theorem sL_sL (σ : Sta) (k : Nat) (v w : Int64) : sL (sL σ k v) k w = sL σ k w := by
  show (σ.1, va_up (va_up σ.2.1 k v) k w, σ.2.2) = (σ.1, va_up σ.2.1 k w, σ.2.2)
  rw [va_up2]
theorem sA_sA (σ : Sta) (k : Nat) (v w : Nat → Int32) : sA (sA σ k v) k w = sA σ k w := by
  show (σ.1, σ.2.1, va_up (va_up σ.2.2.1 k v) k w, σ.2.2.2) = (σ.1, σ.2.1, va_up σ.2.2.1 k w, σ.2.2.2)
  rw [va_up2]
theorem sJ_sJ (σ : Sta) (k : Nat) (v w : Nat → Int64) : sJ (sJ σ k v) k w = sJ σ k w := by
  show (σ.1, σ.2.1, σ.2.2.1, va_up (va_up σ.2.2.2.1 k v) k w, σ.2.2.2.2) = (σ.1, σ.2.1, σ.2.2.1, va_up σ.2.2.2.1 k w, σ.2.2.2.2)
  rw [va_up2]
theorem sA_gA (σ : Sta) (k : Nat) : sA σ k (gA σ k) = σ := by
  show (σ.1, σ.2.1, va_up σ.2.2.1 k (σ.2.2.1 k), σ.2.2.2) = σ
  rw [va_upg]
theorem sJ_gJ (σ : Sta) (k : Nat) : sJ σ k (gJ σ k) = σ := by
  show (σ.1, σ.2.1, σ.2.2.1, va_up σ.2.2.2.1 k (σ.2.2.2.1 k), σ.2.2.2.2) = σ
  rw [va_upg]
/-- the orders of writes: sI outermost, then sL, sA, sJ, sP -/
theorem sA_sI (σ : Sta) (k j : Nat) (v : Int32) (f : Nat → Int32) : sA (sI σ j v) k f = sI (sA σ k f) j v := rfl
theorem sJ_sI (σ : Sta) (k j : Nat) (v : Int32) (f : Nat → Int64) : sJ (sI σ j v) k f = sI (sJ σ k f) j v := rfl
theorem sJ_sA (σ : Sta) (k j : Nat) (v : Nat → Int32) (f : Nat → Int64) : sJ (sA σ j v) k f = sA (sJ σ k f) j v := rfl
theorem sL_sI (σ : Sta) (k j : Nat) (v : Int32) (f : Int64) : sL (sI σ j v) k f = sI (sL σ k f) j v := rfl
theorem sA_sL (σ : Sta) (k j : Nat) (v : Int64) (f : Nat → Int32) : sA (sL σ j v) k f = sL (sA σ k f) j v := rfl
theorem sJ_sL (σ : Sta) (k j : Nat) (v : Int64) (f : Nat → Int64) : sJ (sL σ j v) k f = sL (sJ σ k f) j v := rfl
theorem upd_at (f : Nat → Int32) (k : Nat) (x : Int32) (j : Nat) : upd f k x j = if j = k then x else f j := rfl
theorem updL_at (f : Nat → Int64) (k : Nat) (x : Int64) (j : Nat) : vp_updL f k x j = if j = k then x else f j := rfl
theorem cpy_at {α : Type} (f g : Nat → α) (sp dp n j : Nat) : va_cpy f g sp dp n j = if dp ≤ j ∧ j < dp + n then f (sp + (j - dp)) else g j := rfl
theorem bnd_s {α β : Type} (r : α) (σ : Sta) (k : α → Sta → Option β) : bnd (some (r, σ)) k = k r σ := rfl
theorem lt_e {α β : Type} (a : α) (k : α → β) : lt a k = k a := rfl
/-- a range of cells is filled -/
def fillA (σ : Sta) (q k n : Nat) (v : Nat → Int32) : Sta := sA σ q (fun j => if k ≤ j ∧ j < n then v j else gA σ q j)
def fillJ (σ : Sta) (q k n : Nat) (v : Nat → Int64) : Sta := sJ σ q (fun j => if k ≤ j ∧ j < n then v j else gJ σ q j)
theorem fillA_0 (σ : Sta) (q n : Nat) (v : Nat → Int32) : fillA σ q n n v = σ := by
  unfold fillA
  have h : (fun j => if n ≤ j ∧ j < n then v j else gA σ q j) = gA σ q := by
    funext j
    rw [if_neg (by omega)]
  rw [h, sA_gA]
theorem fillJ_0 (σ : Sta) (q n : Nat) (v : Nat → Int64) : fillJ σ q n n v = σ := by
  unfold fillJ
  have h : (fun j => if n ≤ j ∧ j < n then v j else gJ σ q j) = gJ σ q := by
    funext j
    rw [if_neg (by omega)]
  rw [h, sJ_gJ]
theorem fillA_s {σ : Sta} {q k n : Nat} {v : Nat → Int32} (h : k < n) : fillA (sA σ q (upd (gA σ q) k (v k))) q (k + 1) n v = fillA σ q k n v := by
  unfold fillA
  rw [sA_sA]
  congr 1
  funext j
  rw [gA_sA, if_pos rfl, upd_at]
  by_cases h1 : j = k
  · subst h1
    rw [if_neg (by omega), if_pos rfl, if_pos (by omega)]
  · rw [if_neg h1]
    by_cases h2 : k ≤ j ∧ j < n
    · rw [if_pos h2, if_pos (by omega)]
    · rw [if_neg h2, if_neg (by omega)]
theorem fillJ_s {σ : Sta} {q k n : Nat} {v : Nat → Int64} (h : k < n) : fillJ (sJ σ q (vp_updL (gJ σ q) k (v k))) q (k + 1) n v = fillJ σ q k n v := by
  unfold fillJ
  rw [sJ_sJ]
  congr 1
  funext j
  rw [gJ_sJ, if_pos rfl, updL_at]
  by_cases h1 : j = k
  · subst h1
    rw [if_neg (by omega), if_pos rfl, if_pos (by omega)]
  · rw [if_neg h1]
    by_cases h2 : k ≤ j ∧ j < n
    · rw [if_pos h2, if_pos (by omega)]
    · rw [if_neg h2, if_neg (by omega)]
theorem FU_lt {n : Nat} (h : n < 1000000) : n < FU := by
  unfold FU
  omega
/-- how two outcomes hang together -/
def Go {α : Type} (x : Option α) (Q : α → Prop) : Prop := ∃ o, x = some o ∧ Q o
theorem Go.of {α : Type} {o : α} {Q : α → Prop} (h : Q o) : Go (some o) Q := ⟨o, rfl, h⟩
theorem Go.imp {α : Type} {x : Option α} {Q Q' : α → Prop} (h : Go x Q) (k : ∀ o, Q o → Q' o) : Go x Q' := by
  obtain ⟨o, h1, h2⟩ := h
  exact ⟨o, h1, k o h2⟩
theorem Go.bnd {α β : Type} {a : Option (α × Sta)} {k : α → Sta → Option β} {P : α × Sta → Prop} {Q : β → Prop} (h : Go a P) (hk : ∀ r s, P (r, s) → Go (k r s) Q) : Go (bnd a k) Q := by
  obtain ⟨⟨r, s⟩, rfl, h2⟩ := h
  exact hk r s h2

abbrev AW : Type := Nat × Nat × Nat × (Nat → Nat) × (Nat → Bool) × (Nat → Nat → Nat) × (Nat → Nat → Nat → Nat) × (Nat → Nat) × (Nat → Nat → Nat) × (Nat → Nat → Nat → Int64) × (Nat → Nat → Int32)
def aNs (w : AW) : Nat := w.1
def aNg (w : AW) : Nat := w.2.1
def aNv (w : AW) : Nat := w.2.2.1
def aCh (w : AW) : Nat → Nat := w.2.2.2.1
def aGl (w : AW) : Nat → Bool := w.2.2.2.2.1
def aCm (w : AW) : Nat → Nat → Nat := w.2.2.2.2.2.1
def aTg (w : AW) : Nat → Nat → Nat → Nat := w.2.2.2.2.2.2.1
def aNb (w : AW) : Nat → Nat := w.2.2.2.2.2.2.2.1
def aPc (w : AW) : Nat → Nat → Nat := w.2.2.2.2.2.2.2.2.1
def aGn (w : AW) : Nat → Nat → Nat → Int64 := w.2.2.2.2.2.2.2.2.2.1
def aVl (w : AW) : Nat → Nat → Int32 := w.2.2.2.2.2.2.2.2.2.2
def aAccN (f : Nat → Nat) : Nat → Nat → Nat → Nat
  | 0, _, a => a
  | m + 1, k, a => aAccN f m (k + 1) (a + f k)
def aAcc (f : Nat → Int64) : Nat → Nat → Int64 → Int64
  | 0, _, a => a
  | m + 1, k, a => aAcc f m (k + 1) (a + f k)
def AWok (w : AW) : Prop := aNs w ≤ 100 ∧ aNg w ≤ 3 ∧ aNv w ≤ 6 ∧ (∀ s, s < aNs w → aCh w s ≤ 16 ∧ (aGl w s = true → aCh w s = 0)) ∧
  (∀ s c, s < aNs w → c < aCh w s → aCm w s c < 16 ∧ aNb w (aCm w s c) ≤ 4 ∧ (∀ b, b < aNb w (aCm w s c) → aTg w s c b < aNs w ∧ aPc w (aCm w s c) b ≤ 100) ∧ aAccN (aPc w (aCm w s c)) (aNb w (aCm w s c)) 0 0 = 100)
/-- the class's side -/
def AC (w : AW) (σ : Sta) : Prop := gI σ 322 = nI (aNs w) ∧ gI σ 197 = nI (aNg w) ∧ gI σ 192 = nI (aNv w) ∧ (∀ s, s < aNs w → gA σ 33 s = if aGl w s = true then -1 else nI (aCh w s)) ∧
  (∀ s c, s < aNs w → c < aCh w s → gA σ 34 (s * 16 + c) = nI (aCm w s c) ∧ gA σ 29 (aCm w s c) = nI (aNb w (aCm w s c)) ∧ (∀ b, b < aNb w (aCm w s c) → gA σ 30 (aCm w s c * 4 + b) = nI (aPc w (aCm w s c) b) ∧ gA σ 35 ((s * 16 + c) * 4 + b) = nI (aTg w s c b)) ∧
    (∀ g, g < aNg w → (gA σ 24 g < 0 ∧ gJ σ 36 (s * 3 + g) = aGn w s c g) ∨ (¬ gA σ 24 g < 0 ∧ gA σ 24 g = nI (aCm w s c) ∧ gJ σ 36 (s * 3 + g) = aGn w s c g) ∨ (¬ gA σ 24 g < 0 ∧ gA σ 24 g ≠ nI (aCm w s c) ∧ aGn w s c g = 0))) ∧
  (∀ s v, s < aNs w → v < aNv w → gA σ 32 (s * 6 + v) = aVl w s v)
theorem e_entry {q N k : Nat} {σ : Sta} (h : k < N) (hN : N < 2 ^ 31) : f_X8_entry q N (nI k) σ = some (gA σ q k, σ) := by
  unfold f_X8_entry
  rw [if_neg (nI_pos (by omega)), nI_ofN, if_neg (nI_ge h hN), if_neg (nI_in h hN), nI_clamp (by omega)]
  rfl
theorem e_entryL {q N k : Nat} {σ : Sta} (h : k < N) (hN : N < 2 ^ 31) : f_X8_entry_ q N (nI k) σ = some (gJ σ q k, σ) := by
  unfold f_X8_entry_
  rw [if_neg (nI_pos (by omega)), nI_ofN, if_neg (nI_ge h hN), if_neg (nI_in h hN), nI_clamp (by omega)]
  rfl
theorem ok_s {w : AW} (hw : AWok w) {s c : Nat} (hs : s < aNs w) (hc : c < aCh w s) : s < 100 ∧ c < 16 ∧ aCm w s c < 16 ∧ aNb w (aCm w s c) ≤ 4 :=
  ⟨Nat.lt_of_lt_of_le hs hw.1, Nat.lt_of_lt_of_le hc (hw.2.2.2.1 s hs).1, (hw.2.2.2.2 s c hs hc).1, (hw.2.2.2.2 s c hs hc).2.1⟩
theorem e_commandOf {w : AW} {σ : Sta} (hw : AWok w) (h : AC w σ) {s c : Nat} (hs : s < aNs w) (hc : c < aCh w s) : f_X5_commandOf (nI s) (nI c) σ = some (nI (aCm w s c), σ) := by
  have h1 := ok_s hw hs hc
  unfold f_X5_commandOf
  rw [nI_mulL, nI_add, e_entry (by omega) (by omega), bnd_s, (h.2.2.2.2.1 s c hs hc).1]
theorem e_branchesOf {w : AW} {σ : Sta} (hw : AWok w) (h : AC w σ) {s c : Nat} (hs : s < aNs w) (hc : c < aCh w s) : f_X5_branchesOf (nI s) (nI c) σ = some (nI (aNb w (aCm w s c)), σ) := by
  have h1 := ok_s hw hs hc
  unfold f_X5_branchesOf
  rw [e_commandOf hw h hs hc, bnd_s, e_entry (by omega) (by omega), bnd_s, (h.2.2.2.2.1 s c hs hc).2.1]
theorem e_chanceOf {w : AW} {σ : Sta} (hw : AWok w) (h : AC w σ) {s c b : Nat} (hs : s < aNs w) (hc : c < aCh w s) (hb : b < aNb w (aCm w s c)) : f_X5_chanceOf (nI s) (nI c) (nI b) σ = some (nI (aPc w (aCm w s c) b), σ) := by
  have h1 := ok_s hw hs hc
  unfold f_X5_chanceOf
  rw [e_commandOf hw h hs hc, bnd_s, nI_mulL, nI_add, e_entry (by omega) (by omega), bnd_s, ((h.2.2.2.2.1 s c hs hc).2.2.1 b hb).1]
theorem e_targetOf {w : AW} {σ : Sta} (hw : AWok w) (h : AC w σ) {s c b : Nat} (hs : s < aNs w) (hc : c < aCh w s) (hb : b < aNb w (aCm w s c)) : f_X5_targetOf (nI s) (nI c) (nI b) σ = some (nI (aTg w s c b), σ) := by
  have h1 := ok_s hw hs hc
  unfold f_X5_targetOf
  rw [nI_mulL, nI_add, nI_mulL, nI_add, e_entry (by omega) (by omega), bnd_s, ((h.2.2.2.2.1 s c hs hc).2.2.1 b hb).2]
theorem e_gainOf {w : AW} {σ : Sta} (hw : AWok w) (h : AC w σ) {s c g : Nat} (hs : s < aNs w) (hc : c < aCh w s) (hg : g < aNg w) : f_X5_gainOf (nI s) (nI c) (nI g) σ = some (aGn w s c g, σ) := by
  have h1 := ok_s hw hs hc
  have h2 := hw.2.1
  have h3 : f_X5_gainOf_31 (nI s) (nI g) σ = some (gJ σ 36 (s * 3 + g), σ) := by
    unfold f_X5_gainOf_31
    rw [nI_mulL, nI_add, e_entryL (by omega) (by omega), bnd_s]
  unfold f_X5_gainOf
  rw [e_entry (by omega) (by omega), bnd_s]
  rcases (h.2.2.2.2.1 s c hs hc).2.2.2 g hg with ⟨a1, a2⟩ | ⟨a1, a2, a3⟩ | ⟨a1, a2, a3⟩
  · rw [if_pos a1, h3, a2]
  · rw [if_neg a1, e_commandOf hw h hs hc, bnd_s, if_pos a2, h3, a3]
  · rw [if_neg a1, e_commandOf hw h hs hc, bnd_s, if_neg a2, a3]
/-- the mean of numbers behind -/
def aLater (w : AW) (row : Nat → Int64) (s c : Nat) : Int64 := aAcc (fun b => (nI (aPc w (aCm w s c) b)).toInt64 * row (aTg w s c b)) (aNb w (aCm w s c)) 0 0 / 100
theorem e_later_l {w : AW} {σ : Sta} (hw : AWok w) (h : AC w σ) {s c q N fr : Nat} (hs : s < aNs w) (hc : c < aCh w s) (hN : fr + aNs w ≤ N) (hN2 : N < 2 ^ 31) : ∀ (m k n : Nat) (a : Int64), k + m = aNb w (aCm w s c) → m < n →
    f_X2_later_6 q N n (nI fr) (nI s) (nI c) a (nI k) σ = some (aAcc (fun b => (nI (aPc w (aCm w s c) b)).toInt64 * gJ σ q (fr + aTg w s c b)) m k a / 100, σ)
  | _, _, 0, _, _, hn => absurd hn (Nat.not_lt_zero _)
  | 0, k, n + 1, a, hk, hn => by
    have h1 := ok_s hw hs hc
    rw [f_X2_later_6, e_branchesOf hw h hs hc, bnd_s, if_pos (nI_le (by omega) (by omega))]
    rfl
  | m + 1, k, n + 1, a, hk, hn => by
    have h1 := ok_s hw hs hc
    have h2 := ((hw.2.2.2.2 s c hs hc).2.2.1 k (by omega)).1
    rw [f_X2_later_6, e_branchesOf hw h hs hc, bnd_s, if_neg (nI_ge (by omega) (by omega)), e_targetOf hw h hs hc (by omega), bnd_s, nI_add, e_entryL (by omega) hN2, bnd_s, e_chanceOf hw h hs hc (by omega), bnd_s, lt_e, lt_e, nI_1, e_later_l hw h hs hc hN hN2 m (k + 1) n _ (by omega) (by omega)]
    rfl
theorem e_later {w : AW} {σ : Sta} (hw : AWok w) (h : AC w σ) {s c q N fr : Nat} (hs : s < aNs w) (hc : c < aCh w s) (hN : fr + aNs w ≤ N) (hN2 : N < 2 ^ 31) : f_X2_later q N (nI fr) (nI s) (nI c) σ = some (aLater w (fun t => gJ σ q (fr + t)) s c, σ) := by
  have h1 := ok_s hw hs hc
  exact e_later_l hw h hs hc hN hN2 (aNb w (aCm w s c)) 0 FU 0 (by omega) (FU_lt (by omega))
theorem e_weighted_l {w : AW} {σ : Sta} (hw : AWok w) (h : AC w σ) {s c d : Nat} (hs : s < aNs w) (hc : c < aCh w s) : ∀ (m k n : Nat) (a : Int64), k + m = aNg w → m < n →
    f_X2_weighted_6 d n (nI s) (nI c) a (nI k) σ = some (aAcc (fun g => (gA σ (41 + 5 * d + 1) g).toInt64 * aGn w s c g) m k a, σ)
  | _, _, 0, _, _, hn => absurd hn (Nat.not_lt_zero _)
  | 0, k, n + 1, a, hk, hn => by
    have h2 := hw.2.1
    rw [f_X2_weighted_6, h.2.1, if_pos (nI_le (by omega) (by omega))]
    rfl
  | m + 1, k, n + 1, a, hk, hn => by
    have h2 := hw.2.1
    rw [f_X2_weighted_6, h.2.1, if_neg (nI_ge (by omega) (by omega)), if_neg (nI_in (by omega) (by omega)), e_gainOf hw h hs hc (by omega), bnd_s, lt_e, lt_e, nI_1, nI_clamp (by omega), e_weighted_l hw h hs hc m (k + 1) n _ (by omega) (by omega)]
    rfl
theorem e_weighted {w : AW} {σ : Sta} (hw : AWok w) (h : AC w σ) {s c d : Nat} (hs : s < aNs w) (hc : c < aCh w s) : f_X2_weighted d (nI s) (nI c) σ = some (aAcc (fun g => (gA σ (41 + 5 * d + 1) g).toInt64 * aGn w s c g) (aNg w) 0 0, σ) := by
  have h2 := hw.2.1
  exact e_weighted_l hw h hs hc (aNg w) 0 FU 0 (by omega) (FU_lt (by omega))
theorem aAcc_congr {f g : Nat → Int64} : ∀ (m k : Nat) (a : Int64), (∀ j, k ≤ j → j < k + m → f j = g j) → aAcc f m k a = aAcc g m k a
  | 0, _, _, _ => rfl
  | m + 1, k, a, h => by
    unfold aAcc
    rw [h k (Nat.le_refl _) (by omega), aAcc_congr m (k + 1) _ (fun j h1 h2 => h j (by omega) (by omega))]
theorem aLater_congr {w : AW} (hw : AWok w) {f g : Nat → Int64} {s c : Nat} (hs : s < aNs w) (hc : c < aCh w s) (h : ∀ t, t < aNs w → f t = g t) : aLater w f s c = aLater w g s c := by
  unfold aLater
  rw [aAcc_congr _ _ _ (fun j h1 h2 => by rw [h _ ((hw.2.2.2.2 s c hs hc).2.2.1 j (by omega)).1])]
def aBest (f : Nat → Int64) : Nat → Nat → Int32 → Int64 → Int32 × Int64
  | 0, _, b, a => (b, a)
  | m + 1, k, b, a => if b < 0 ∨ a < f k then aBest f m (k + 1) (nI k) (f k) else aBest f m (k + 1) b a
theorem aBest_congr {f g : Nat → Int64} : ∀ (m k : Nat) (b : Int32) (a : Int64), (∀ j, k ≤ j → j < k + m → f j = g j) → aBest f m k b a = aBest g m k b a
  | 0, _, _, _, _ => rfl
  | m + 1, k, b, a, h => by
    unfold aBest
    rw [h k (Nat.le_refl _) (by omega), aBest_congr m (k + 1) _ _ (fun j h1 h2 => h j (by omega) (by omega)), aBest_congr m (k + 1) _ _ (fun j h1 h2 => h j (by omega) (by omega))]
theorem aBest_in {f : Nat → Int64} : ∀ (m k : Nat) (b : Int32) (a : Int64), k + m < 2 ^ 31 → (∃ c, c < k + m ∧ b = nI c) → ∃ c, c < k + m ∧ (aBest f m k b a).1 = nI c
  | 0, k, b, a, _, h => h
  | m + 1, k, b, a, hk, h => by
    unfold aBest
    split
    · obtain ⟨c, h1, h2⟩ := aBest_in (f := f) m (k + 1) (nI k) (f k) (by omega) ⟨k, by omega, rfl⟩
      exact ⟨c, by omega, h2⟩
    · obtain ⟨c, h1, h2⟩ := aBest_in (f := f) m (k + 1) b a (by omega) (by obtain ⟨c, h3, h4⟩ := h; exact ⟨c, by omega, h4⟩)
      exact ⟨c, by omega, h2⟩
theorem aBest_v {f : Nat → Int64} {m : Nat} (hm : m < 2 ^ 31) : (m = 0 ∧ (aBest f m 0 (-1) 0).1 = -1) ∨ ∃ c, c < m ∧ (aBest f m 0 (-1) 0).1 = nI c := by
  cases m with
  | zero => exact Or.inl ⟨rfl, rfl⟩
  | succ m =>
    refine Or.inr ?_
    unfold aBest
    rw [if_pos (Or.inl (by decide))]
    obtain ⟨c, h1, h2⟩ := aBest_in (f := f) m 1 (nI 0) (f 0) (by omega) ⟨0, by omega, rfl⟩
    exact ⟨c, by omega, h2⟩
def aWt (w : AW) (wt : Nat → Int32) (s c : Nat) : Int64 := aAcc (fun g => (wt g).toInt64 * aGn w s c g) (aNg w) 0 0
def aWorth (w : AW) (wt : Nat → Int32) : Nat → Nat → Int64
  | 0 => fun _ => 0
  | n + 1 => fun s => (aBest (fun c => 10000 * aWt w wt s c + aLater w (aWorth w wt n) s c) (aCh w s) 0 (-1) 0).2
/-- what is taken with n + 1 steps left -/
def aTake (w : AW) (wt : Nat → Int32) (n s : Nat) : Int32 := (aBest (fun c => 10000 * aWt w wt s c + aLater w (aWorth w wt n) s c) (aCh w s) 0 (-1) 0).1
/-- choices that are ones -/
def TV (w : AW) (T : Nat → Int32) : Prop := ∀ t, t < aNs w → (aCh w t = 0 ∧ T t = -1) ∨ ∃ c, c < aCh w t ∧ T t = nI c
theorem aTake_v {w : AW} (hw : AWok w) (wt : Nat → Int32) (n : Nat) : TV w (aTake w wt n) := fun t ht => by
  have h1 := (hw.2.2.2.1 t ht).1
  exact aBest_v (m := aCh w t) (by omega)
def aStepG (w : AW) (T : Nat → Int32) (B : Nat → Int64) (g t : Nat) : Int64 := if T t < 0 then 0 else 10000 * aGn w t ((T t).toNatClampNeg) g + aLater w B t ((T t).toNatClampNeg)
def aStepP (w : AW) (T : Nat → Int32) (B : Nat → Int64) (t : Nat) : Int64 := if T t < 0 then B t else aLater w B t ((T t).toNatClampNeg)
def aFolG (w : AW) (T : Nat → Nat → Int32) (g : Nat) : Nat → Nat → Int64
  | 0 => fun _ => 0
  | n + 1 => aStepG w (T n) (aFolG w T g n) g
def aFolP (w : AW) (T : Nat → Nat → Int32) : Nat → Nat → Int64
  | 0 => fun t => if aGl w t = true then 1000000 else 0
  | n + 1 => aStepP w (T n) (aFolP w T n)
theorem m1neg : (-1 : Int32) < 0 := by decide
def Kp (I L A J : Nat → Prop) (σ σ' : Sta) : Prop := (∀ k, ¬ I k → gI σ' k = gI σ k) ∧ (∀ k, ¬ L k → gL σ' k = gL σ k) ∧ (∀ q, ¬ A q → gA σ' q = gA σ q) ∧ (∀ q, ¬ J q → gJ σ' q = gJ σ q) ∧ (∀ i, gP σ' i = gP σ i)
def n0 : Nat → Prop := fun _ => False
theorem Kp.rfl' {I L A J : Nat → Prop} {σ : Sta} : Kp I L A J σ σ := ⟨fun _ _ => rfl, fun _ _ => rfl, fun _ _ => rfl, fun _ _ => rfl, fun _ => rfl⟩
theorem Kp.trans {I L A J : Nat → Prop} {σ σ1 σ2 : Sta} (h : Kp I L A J σ σ1) (h2 : Kp I L A J σ1 σ2) : Kp I L A J σ σ2 :=
  ⟨fun k hk => (h2.1 k hk).trans (h.1 k hk), fun k hk => (h2.2.1 k hk).trans (h.2.1 k hk), fun k hk => (h2.2.2.1 k hk).trans (h.2.2.1 k hk), fun k hk => (h2.2.2.2.1 k hk).trans (h.2.2.2.1 k hk), fun k => (h2.2.2.2.2 k).trans (h.2.2.2.2 k)⟩
theorem Kp.mono {I L A J I' L' A' J' : Nat → Prop} {σ σ1 : Sta} (h : Kp I L A J σ σ1) (hI : ∀ k, I k → I' k) (hL : ∀ k, L k → L' k) (hA : ∀ k, A k → A' k) (hJ : ∀ k, J k → J' k) : Kp I' L' A' J' σ σ1 :=
  ⟨fun k hk => h.1 k (fun e => hk (hI k e)), fun k hk => h.2.1 k (fun e => hk (hL k e)), fun k hk => h.2.2.1 k (fun e => hk (hA k e)), fun k hk => h.2.2.2.1 k (fun e => hk (hJ k e)), h.2.2.2.2⟩
theorem Kp.sI {I L A J : Nat → Prop} {σ σ1 : Sta} {k : Nat} {v : Int32} (hk : I k) (h : Kp I L A J σ σ1) : Kp I L A J σ (sI σ1 k v) :=
  ⟨fun j hj => by rw [gI_sI, if_neg (fun (e : j = k) => hj (by rw [e]; exact hk))]; exact h.1 j hj, h.2.1, h.2.2.1, h.2.2.2.1, h.2.2.2.2⟩
theorem Kp.sA {I L A J : Nat → Prop} {σ σ1 : Sta} {k : Nat} {v : Nat → Int32} (hk : A k) (h : Kp I L A J σ σ1) : Kp I L A J σ (sA σ1 k v) :=
  ⟨h.1, h.2.1, fun j hj => by rw [gA_sA, if_neg (fun (e : j = k) => hj (by rw [e]; exact hk))]; exact h.2.2.1 j hj, h.2.2.2.1, h.2.2.2.2⟩
theorem Kp.sJ {I L A J : Nat → Prop} {σ σ1 : Sta} {k : Nat} {v : Nat → Int64} (hk : J k) (h : Kp I L A J σ σ1) : Kp I L A J σ (sJ σ1 k v) :=
  ⟨h.1, h.2.1, h.2.2.1, fun j hj => by rw [gJ_sJ, if_neg (fun (e : j = k) => hj (by rw [e]; exact hk))]; exact h.2.2.2.1 j hj, h.2.2.2.2⟩
theorem AC_kp {w : AW} {I L A J : Nat → Prop} {σ σ1 : Sta} (h : Kp I L A J σ σ1) (hI : ¬ I 322 ∧ ¬ I 197 ∧ ¬ I 192) (hA : ¬ A 33 ∧ ¬ A 34 ∧ ¬ A 29 ∧ ¬ A 30 ∧ ¬ A 35 ∧ ¬ A 24 ∧ ¬ A 32) (hJ : ¬ J 36) (h0 : AC w σ) : AC w σ1 := by
  unfold AC at *
  rw [h.1 _ hI.1, h.1 _ hI.2.1, h.1 _ hI.2.2, h.2.2.1 _ hA.1, h.2.2.1 _ hA.2.1, h.2.2.1 _ hA.2.2.1, h.2.2.1 _ hA.2.2.2.1, h.2.2.1 _ hA.2.2.2.2.1, h.2.2.1 _ hA.2.2.2.2.2.1, h.2.2.1 _ hA.2.2.2.2.2.2, h.2.2.2.1 _ hJ]
  exact h0
theorem e_fillA_l {q N : Nat} {v : Int32} (hN : N < 1000000) : ∀ (m k n : Nat) (σ : Sta), k + m = N → m < n → f_J7_fill_53178_5 q N n v (nI k) (nI N) σ = some ((), fillA σ q k N (fun _ => v))
  | _, _, 0, _, _, hn => absurd hn (Nat.not_lt_zero _)
  | 0, k, n + 1, σ, hk, hn => by
    rw [f_J7_fill_53178_5, if_pos (nI_le (by omega) (by omega)), show k = N by omega, fillA_0]
  | m + 1, k, n + 1, σ, hk, hn => by
    rw [f_J7_fill_53178_5, if_neg (nI_ge (by omega) (by omega)), if_neg (nI_in (by omega) (by omega)), lt_e, lt_e, nI_1, nI_clamp (by omega), e_fillA_l hN m (k + 1) n _ (by omega) (by omega)]
    exact congrArg (fun z => some ((), z)) (fillA_s (v := fun _ => v) (by omega))
theorem e_fillA {q N : Nat} {v : Int32} (hN : N < 1000000) (σ : Sta) : f_J7_fill_53178 q N v σ = some ((), fillA σ q 0 N (fun _ => v)) := by
  unfold f_J7_fill_53178
  rw [lt_e, nI_ofN]
  exact e_fillA_l hN N 0 FU σ (by omega) (FU_lt hN)
theorem e_fillJ_l {q N : Nat} {v : Int64} (hN : N < 1000000) : ∀ (m k n : Nat) (σ : Sta), k + m = N → m < n → f_J7_fill_d0a16_6 q N n v (nI k) (nI N) σ = some ((), fillJ σ q k N (fun _ => v))
  | _, _, 0, _, _, hn => absurd hn (Nat.not_lt_zero _)
  | 0, k, n + 1, σ, hk, hn => by
    rw [f_J7_fill_d0a16_6, if_pos (nI_le (by omega) (by omega)), show k = N by omega, fillJ_0]
  | m + 1, k, n + 1, σ, hk, hn => by
    rw [f_J7_fill_d0a16_6, if_neg (nI_ge (by omega) (by omega)), if_neg (nI_in (by omega) (by omega)), lt_e, lt_e, nI_1, nI_clamp (by omega), e_fillJ_l hN m (k + 1) n _ (by omega) (by omega)]
    exact congrArg (fun z => some ((), z)) (fillJ_s (v := fun _ => v) (by omega))
theorem e_fillJ {q N : Nat} {v : Int64} (hN : N < 1000000) (σ : Sta) : f_J7_fill_d0a16 q N v σ = some ((), fillJ σ q 0 N (fun _ => v)) := by
  unfold f_J7_fill_d0a16
  rw [lt_e, nI_ofN]
  exact e_fillJ_l hN N 0 FU σ (by omega) (FU_lt hN)
theorem AC_le {w : AW} {σ : Sta} (hw : AWok w) (h : AC w σ) {s k : Nat} (hs : s < aNs w) (hk : aCh w s ≤ k) (hk2 : k < 2 ^ 31) : gA σ 33 s ≤ nI k := by
  rw [h.2.2.2.1 s hs]
  split
  · exact Int32.le_of_lt (Int32.lt_of_lt_of_le m1neg (nI_pos' hk2))
  · exact nI_le hk hk2
theorem AC_nle {w : AW} {σ : Sta} (hw : AWok w) (h : AC w σ) {s k : Nat} (hs : s < aNs w) (hk : k < aCh w s) : ¬ gA σ 33 s ≤ nI k := by
  rw [h.2.2.2.1 s hs]
  have h1 := hw.2.2.2.1 s hs
  split
  · rename_i h2
    have := h1.2 h2
    omega
  · exact nI_ge hk (by omega)
def cF (w : AW) (σ : Sta) (d n s c : Nat) : Int64 := 10000 * aWt w (gA σ (41 + 5 * d + 1)) s c + aLater w (fun t => gJ σ (41 + 5 * d + 3) (n * 100 + t)) s c
def cSet (σ : Sta) (d n s : Nat) (r : Int32 × Int64) : Sta := sJ (sA σ (41 + 5 * d + 2) (upd (gA σ (41 + 5 * d + 2)) (n * 100 + s) r.1)) (41 + 5 * d + 3) (vp_updL (gJ σ (41 + 5 * d + 3)) ((n + 1) * 100 + s) r.2)
theorem e_choose_l {w : AW} {σ : Sta} (hw : AWok w) (h : AC w σ) {s d i : Nat} (hs : s < aNs w) (hi : i < 30) : ∀ (m k n : Nat) (b : Int32) (a : Int64), k + m = aCh w s → m < n →
    f_X2_choose_9 d n (nI s) (nI (i + 1)) b a (nI k) σ = some ((), cSet σ d i s (aBest (cF w σ d i s) m k b a))
  | _, _, 0, _, _, _, hn => absurd hn (Nat.not_lt_zero _)
  | 0, k, n + 1, b, a, hk, hn => by
    have h1 := (hw.2.2.2.1 s hs).1
    have h2 := hw.1
    rw [f_X2_choose_9, if_neg (nI_in (by omega) (by omega)), nI_clamp (by omega), if_pos (AC_le hw h hs (by omega) (by omega)), nI_pred, nI_mulL, nI_add, if_neg (nI_in (by omega) (by omega)), lt_e, nI_mulL, nI_add, if_neg (nI_in (by omega) (by omega)), lt_e, nI_clamp (by omega), nI_clamp (by omega)]
    rfl
  | m + 1, k, n + 1, b, a, hk, hn => by
    have h1 := (hw.2.2.2.1 s hs).1
    have h2 := hw.1
    rw [f_X2_choose_9, if_neg (nI_in (by omega) (by omega)), nI_clamp (by omega), if_neg (AC_nle hw h hs (by omega)), e_weighted hw h hs (by omega), bnd_s, nI_pred, nI_mulL, e_later hw h hs (by omega) (by omega) (by omega), bnd_s, lt_e]
    unfold f_X2_choose_68 f_X2_choose_76
    rw [lt_e, lt_e, nI_1, e_choose_l hw h hs hi m (k + 1) n _ _ (by omega) (by omega), e_choose_l hw h hs hi m (k + 1) n _ _ (by omega) (by omega)]
    show (if b < 0 then some ((), cSet σ d i s (aBest (cF w σ d i s) m (k + 1) (nI k) (cF w σ d i s k))) else if lg_cmp (cF w σ d i s k) a ≤ 0 then _ else _) = _
    rw [aBest]
    by_cases h3 : b < 0
    · rw [if_pos h3, if_pos (Or.inl h3)]
    · rw [if_neg h3]
      by_cases h4 : a < cF w σ d i s k
      · rw [if_neg (fun e => Int64.not_le.mpr h4 ((lg_cmp_le _ _).mp e)), if_pos (Or.inr h4)]
        rfl
      · rw [if_pos ((lg_cmp_le _ _).mpr (Int64.not_lt.mp h4)), if_neg (fun e => e.elim h3 h4)]
theorem e_choose {w : AW} {σ : Sta} (hw : AWok w) (h : AC w σ) {s d i : Nat} (hs : s < aNs w) (hi : i < 30) : f_X2_choose d (nI s) (nI (i + 1)) σ = some ((), cSet σ d i s (aBest (cF w σ d i s) (aCh w s) 0 (-1) 0)) := by
  have h1 := (hw.2.2.2.1 s hs).1
  unfold f_X2_choose
  rw [lt_e]
  exact e_choose_l hw h hs hi (aCh w s) 0 FU (-1) 0 (by omega) (FU_lt (by omega))
/-- a world with a strategy's row half made: i steps are made, and s states of the next -/
def PlanAt (w : AW) (wt : Nat → Int32) (d i s : Nat) (σ : Sta) : Prop :=
  (∀ g, g < aNg w → gA σ (41 + 5 * d + 1) g = wt g) ∧ (∀ n t, n < i → t < aNs w → gA σ (41 + 5 * d + 2) (n * 100 + t) = aTake w wt n t) ∧ (∀ n t, n ≤ i → t < aNs w → gJ σ (41 + 5 * d + 3) (n * 100 + t) = aWorth w wt n t) ∧
  (∀ t, t < s → gA σ (41 + 5 * d + 2) (i * 100 + t) = aTake w wt i t ∧ gJ σ (41 + 5 * d + 3) ((i + 1) * 100 + t) = aWorth w wt (i + 1) t) ∧ (∀ t, t < 100 → gJ σ (41 + 5 * d + 3) t = 0)
def kA (d : Nat) : Nat → Prop := fun q => q = 41 + 5 * d + 2
def kJ (d : Nat) : Nat → Prop := fun q => q = 41 + 5 * d + 3
theorem AC_plan {w : AW} {σ σ1 : Sta} {d : Nat} {I L : Nat → Prop} (h : Kp I L (kA d) (kJ d) σ σ1) (hI : ¬ I 322 ∧ ¬ I 197 ∧ ¬ I 192) (h0 : AC w σ) : AC w σ1 :=
  AC_kp h hI ⟨by unfold kA; omega, by unfold kA; omega, by unfold kA; omega, by unfold kA; omega, by unfold kA; omega, by unfold kA; omega, by unfold kA; omega⟩ (by unfold kJ; omega) h0
theorem cF_spec {w : AW} {wt : Nat → Int32} {σ : Sta} (hw : AWok w) {d i s t : Nat} (ht : t < aNs w) (hP : PlanAt w wt d i s σ) : aBest (cF w σ d i t) (aCh w t) 0 (-1) 0 = (aTake w wt i t, aWorth w wt (i + 1) t) := by
  rw [aBest_congr (g := fun c => 10000 * aWt w wt t c + aLater w (aWorth w wt i) t c)]
  · rfl
  · intro c _ hc
    show 10000 * aWt w _ t c + aLater w _ t c = _
    unfold aWt
    rw [aLater_congr hw ht (by omega) (fun u hu => hP.2.2.1 i u (Nat.le_refl _) hu), aAcc_congr _ _ _ (fun g _ hg => by rw [hP.1 g (by omega)])]
theorem e_plan18 {w : AW} {wt : Nat → Int32} (hw : AWok w) {d i : Nat} (hi : i < 30) {k2 : Int32 → Sta → Option (Unit × Sta)} : ∀ (m s n : Nat) (σ : Sta), s + m = aNs w → m < n → AC w σ → PlanAt w wt d i s σ →
    ∃ σ', f_X2_plan_18 d k2 n (nI (i + 1)) (nI s) σ = k2 (nI (i + 2)) σ' ∧ Kp n0 n0 (kA d) (kJ d) σ σ' ∧ PlanAt w wt d (i + 1) 0 σ'
  | _, _, 0, _, _, hn, _, _ => absurd hn (Nat.not_lt_zero _)
  | 0, s, n + 1, σ, hk, hn, h, hP => by
    have h2 := hw.1
    refine ⟨σ, ?_, Kp.rfl', hP.1, fun n' t h3 ht => ?_, fun n' t h3 ht => ?_, fun t ht => absurd ht (Nat.not_lt_zero _), hP.2.2.2.2⟩
    · rw [f_X2_plan_18, h.1, if_pos (nI_le (by omega) (by omega)), lt_e, nI_1]
    · by_cases h4 : n' = i
      · rw [h4]; exact (hP.2.2.2.1 t (by omega)).1
      · exact hP.2.1 n' t (by omega) ht
    · by_cases h4 : n' = i + 1
      · rw [h4]; exact (hP.2.2.2.1 t (by omega)).2
      · exact hP.2.2.1 n' t (by omega) ht
  | m + 1, s, n + 1, σ, hk, hn, h, hP => by
    have h2 := hw.1
    have hs : s < aNs w := by omega
    have hK : Kp n0 n0 (kA d) (kJ d) σ (cSet σ d i s (aTake w wt i s, aWorth w wt (i + 1) s)) := Kp.sJ rfl (Kp.sA rfl Kp.rfl')
    have hP2 : PlanAt w wt d i (s + 1) (cSet σ d i s (aTake w wt i s, aWorth w wt (i + 1) s)) := by
      unfold cSet
      refine ⟨fun g hg => ?_, fun n' t h3 ht => ?_, fun n' t h3 ht => ?_, fun t ht => ⟨?_, ?_⟩, fun t ht => ?_⟩
      · rw [gA_sJ, gA_sA, if_neg (by omega)]; exact hP.1 g hg
      · rw [gA_sJ, gA_sA, if_pos rfl, upd_at, if_neg (by omega)]; exact hP.2.1 n' t h3 ht
      · rw [gJ_sJ, if_pos rfl, updL_at, if_neg (by omega)]; exact hP.2.2.1 n' t h3 ht
      · rw [gA_sJ, gA_sA, if_pos rfl, upd_at]
        by_cases h4 : t = s
        · rw [if_pos (by omega), h4]
        · rw [if_neg (by omega)]; exact (hP.2.2.2.1 t (by omega)).1
      · rw [gJ_sJ, if_pos rfl, updL_at]
        by_cases h4 : t = s
        · rw [if_pos (by omega), h4]
        · rw [if_neg (by omega)]; exact (hP.2.2.2.1 t (by omega)).2
      · rw [gJ_sJ, if_pos rfl, updL_at, if_neg (by omega)]; exact hP.2.2.2.2 t ht
    obtain ⟨σ', e1, e2, e3⟩ := e_plan18 hw hi (k2 := k2) m (s + 1) n _ (by omega) (by omega) (AC_plan hK ⟨id, id, id⟩ h) hP2
    refine ⟨σ', ?_, hK.trans e2, e3⟩
    rw [f_X2_plan_18, h.1, if_neg (nI_ge (by omega) (by omega)), e_choose hw h hs hi, cF_spec hw hs hP, bnd_s, lt_e, nI_1]
    exact e1
theorem e_plan2 {w : AW} {wt : Nat → Int32} (hw : AWok w) {d st : Nat} (hst : st ≤ 30) : ∀ (m i n : Nat) (σ : Sta), i + m = st → m < n → AC w σ → gI σ (64 * (41 + 5 * d) + 1) = nI st → PlanAt w wt d i 0 σ →
    ∃ σ', f_X2_plan_2 d n (nI (i + 1)) σ = f_X2_plan_48 d σ' ∧ Kp n0 n0 (kA d) (kJ d) σ σ' ∧ PlanAt w wt d st 0 σ'
  | _, _, 0, _, _, hn, _, _, _ => absurd hn (Nat.not_lt_zero _)
  | 0, i, n + 1, σ, hk, hn, h, hS, hP => by
    refine ⟨σ, ?_, Kp.rfl', ?_⟩
    · rw [f_X2_plan_2, hS, if_pos (nI_lt (by omega) (by omega))]
    · rw [show st = i by omega]; exact hP
  | m + 1, i, n + 1, σ, hk, hn, h, hS, hP => by
    have h2 := hw.1
    obtain ⟨σ1, e1, e2, e3⟩ := e_plan18 hw (d := d) (i := i) (by omega) (k2 := f_X2_plan_2 d n) (aNs w) 0 FU σ (by omega) (FU_lt (by omega)) h hP
    obtain ⟨σ', g1, g2, g3⟩ := e_plan2 hw hst m (i + 1) n σ1 (by omega) (by omega) (AC_plan e2 ⟨id, id, id⟩ h) (by rw [e2.1 _ id]; exact hS) e3
    refine ⟨σ', ?_, e2.trans g2, g3⟩
    rw [f_X2_plan_2, hS, if_neg (nI_nlt (by omega) (by omega)), if_neg (by rw [nI_Llt (by omega) (by decide)]; omega)]
    exact e1.trans g1

theorem aStepG_congr {w : AW} (hw : AWok w) {T : Nat → Int32} (hT : TV w T) {B B' : Nat → Int64} {g t : Nat} (ht : t < aNs w) (h : ∀ u, u < aNs w → B u = B' u) : aStepG w T B g t = aStepG w T B' g t := by
  unfold aStepG
  rcases hT t ht with ⟨h1, h2⟩ | ⟨c, h1, h2⟩
  · rw [h2, if_pos m1neg, if_pos m1neg]
  · have h3 := (hw.2.2.2.1 t ht).1
    rw [h2, if_neg (nI_pos (by omega)), if_neg (nI_pos (by omega)), nI_clamp (by omega), aLater_congr hw ht h1 h]
theorem aStepP_congr {w : AW} (hw : AWok w) {T : Nat → Int32} (hT : TV w T) {B B' : Nat → Int64} {t : Nat} (ht : t < aNs w) (h : ∀ u, u < aNs w → B u = B' u) : aStepP w T B t = aStepP w T B' t := by
  unfold aStepP
  rcases hT t ht with ⟨h1, h2⟩ | ⟨c, h1, h2⟩
  · rw [h2, if_pos m1neg, if_pos m1neg, h t ht]
  · have h3 := (hw.2.2.2.1 t ht).1
    rw [h2, if_neg (nI_pos (by omega)), if_neg (nI_pos (by omega)), nI_clamp (by omega), aLater_congr hw ht h1 h]
theorem e_later0 {w : AW} {σ : Sta} (hw : AWok w) (h : AC w σ) {s c q N : Nat} (hs : s < aNs w) (hc : c < aCh w s) (hN : aNs w ≤ N) (hN2 : N < 2 ^ 31) : f_X2_later q N 0 (nI s) (nI c) σ = some (aLater w (gJ σ q) s c, σ) := by
  have h1 := e_later hw h (q := q) (fr := 0) hs hc (by omega) hN2
  rw [aLater_congr hw (g := gJ σ q) hs hc (fun t _ => by rw [Nat.zero_add])] at h1
  exact h1
theorem e_stepOn (σ : Sta) : f_X2_stepOn σ = some ((), sJ σ 38 (va_cpy (gJ σ 39) (gJ σ 38) 0 0 100)) := by
  unfold f_X2_stepOn
  rw [if_neg (by decide), lt_e]
  rfl
theorem e_takenIn {d s i : Nat} {σ : Sta} (hs : s < 100) (hi : i < 30) : f_X6_takenIn d (nI s) (nI (i + 1)) σ = some (gA σ (41 + 5 * d + 2) (i * 100 + s), σ) := by
  unfold f_X6_takenIn
  rw [nI_pred, nI_mulL, nI_add, e_entry (by omega) (by omega), bnd_s]
def kB : Nat → Prop := fun q => q = 38 ∨ q = 39
theorem AC_B {w : AW} {σ σ1 : Sta} {I L : Nat → Prop} (h : Kp I L n0 kB σ σ1) (hI : ¬ I 322 ∧ ¬ I 197 ∧ ¬ I 192) (h0 : AC w σ) : AC w σ1 :=
  AC_kp h hI ⟨id, id, id, id, id, id, id⟩ (by unfold kB; omega) h0
theorem nneg1 : ¬ (0 : Int32) ≤ -1 := by decide
theorem e_gain21 {w : AW} {T : Nat → Int32} (hw : AWok w) (hT : TV w T) {d i g : Nat} (hi : i < 30) (hg : g < aNg w) {k10 : Int32 → Int32 → Sta → Option (Int64 × Sta)} : ∀ (m s n : Nat) (σ : Sta), s + m = aNs w → m < n → AC w σ →
    (∀ t, t < aNs w → gA σ (41 + 5 * d + 2) (i * 100 + t) = T t) → (∀ t, t < s → gJ σ 39 t = aStepG w T (gJ σ 38) g t) →
    ∃ σ', f_X2_gainOfAll_21 d k10 n (nI g) (nI (i + 1)) (nI s) σ = k10 (nI g) (nI (i + 2)) σ' ∧ Kp n0 n0 n0 kB σ σ' ∧ (∀ t, t < aNs w → gJ σ' 38 t = aStepG w T (gJ σ 38) g t)
  | _, _, 0, _, _, hn, _, _, _ => absurd hn (Nat.not_lt_zero _)
  | 0, s, n + 1, σ, hk, hn, h, hA, hN => by
    have h2 := hw.1
    refine ⟨sJ σ 38 (va_cpy (gJ σ 39) (gJ σ 38) 0 0 100), ?_, Kp.sJ (Or.inl rfl) Kp.rfl', fun t ht => ?_⟩
    · rw [f_X2_gainOfAll_21, h.1, if_pos (nI_le (by omega) (by omega)), e_stepOn, bnd_s, lt_e, nI_1]
    · rw [gJ_sJ, if_pos rfl, cpy_at, if_pos (by omega), show 0 + (t - 0) = t by omega]
      exact hN t (by omega)
  | m + 1, s, n + 1, σ, hk, hn, h, hA, hN => by
    have h2 := hw.1
    have hs : s < aNs w := by omega
    have hK : Kp n0 n0 n0 kB σ (sJ σ 39 (vp_updL (gJ σ 39) s (aStepG w T (gJ σ 38) g s))) := Kp.sJ (Or.inr rfl) Kp.rfl'
    have e38 : gJ (sJ σ 39 (vp_updL (gJ σ 39) s (aStepG w T (gJ σ 38) g s))) 38 = gJ σ 38 := by rw [gJ_sJ, if_neg (by decide)]
    obtain ⟨σ', e1, e2, e3⟩ := e_gain21 hw hT (d := d) hi hg (k10 := k10) m (s + 1) n _ (by omega) (by omega) (AC_B hK ⟨id, id, id⟩ h) (fun t ht => hA t ht) (fun t ht => by
      rw [e38, gJ_sJ, if_pos rfl, updL_at]
      by_cases h4 : t = s
      · rw [if_pos h4, h4]
      · rw [if_neg h4]; exact hN t (by omega))
    rw [e38] at e3
    refine ⟨σ', ?_, hK.trans e2, e3⟩
    rw [← e1, f_X2_gainOfAll_21, h.1, if_neg (nI_ge (by omega) (by omega)), e_takenIn (by omega) hi, bnd_s, hA s hs]
    unfold f_X2_gainOfAll_87
    have hv : aStepG w T (gJ σ 38) g s = if T s < 0 then 0 else 10000 * aGn w s ((T s).toNatClampNeg) g + aLater w (gJ σ 38) s ((T s).toNatClampNeg) := rfl
    rcases hT s hs with ⟨h5, h6⟩ | ⟨c, h5, h6⟩
    · rw [h6, if_pos m1neg] at hv
      rw [h6, if_neg nneg1, if_neg (nI_in (by omega) (by omega)), lt_e, lt_e, nI_1, nI_clamp (by omega), hv]
    · have h7 := (hw.2.2.2.1 s hs).1
      rw [h6, if_neg (nI_pos (by omega)), nI_clamp (by omega)] at hv
      rw [h6, if_pos (nI_pos' (by omega)), e_gainOf hw h hs h5 hg, bnd_s, e_later0 hw h hs h5 (by omega) (by omega), bnd_s, if_neg (nI_in (by omega) (by omega)), lt_e, lt_e, nI_1, nI_clamp (by omega), hv]
theorem e_gain10 {w : AW} {T : Nat → Nat → Int32} (hw : AWok w) (h0 : 0 < aNs w) {d g st : Nat} (hst : st ≤ 30) (hT : ∀ n, n < st → TV w (T n)) (hg : g < aNg w) : ∀ (m i n : Nat) (σ : Sta), i + m = st → m < n → AC w σ → gI σ (64 * (41 + 5 * d) + 1) = nI st →
    (∀ n t, n < st → t < aNs w → gA σ (41 + 5 * d + 2) (n * 100 + t) = T n t) → (∀ t, t < aNs w → gJ σ 38 t = aFolG w T g i t) →
    ∃ σ', f_X2_gainOfAll_10 d n (nI g) (nI (i + 1)) σ = some (aFolG w T g st 0, σ') ∧ Kp n0 n0 n0 kB σ σ'
  | _, _, 0, _, _, hn, _, _, _, _ => absurd hn (Nat.not_lt_zero _)
  | 0, i, n + 1, σ, hk, hn, h, hS, hA, hB => by
    refine ⟨σ, ?_, Kp.rfl'⟩
    rw [f_X2_gainOfAll_10, hS, if_pos (nI_lt (by omega) (by omega)), if_neg (by decide), show ((0 : Int32).toNatClampNeg) = 0 from rfl, hB 0 h0, show i = st by omega]
  | m + 1, i, n + 1, σ, hk, hn, h, hS, hA, hB => by
    have h2 := hw.1
    obtain ⟨σ1, e1, e2, e3⟩ := e_gain21 hw (hT i (by omega)) (d := d) (i := i) (by omega) hg (k10 := f_X2_gainOfAll_10 d n) (aNs w) 0 FU σ (by omega) (FU_lt (by omega)) h (fun t ht => hA i t (by omega) ht) (fun t ht => absurd ht (Nat.not_lt_zero _))
    obtain ⟨σ', g1, g2⟩ := e_gain10 hw h0 hst hT hg m (i + 1) n σ1 (by omega) (by omega) (AC_B e2 ⟨id, id, id⟩ h) (by rw [e2.1 _ id]; exact hS) (fun n t h3 h4 => by rw [e2.2.2.1 _ id]; exact hA n t h3 h4) (fun t ht => by
      rw [e3 t ht]
      exact aStepG_congr hw (hT i (by omega)) ht hB)
    refine ⟨σ', ?_, e2.trans g2⟩
    rw [f_X2_gainOfAll_10, hS, if_neg (nI_nlt (by omega) (by omega))]
    exact e1.trans g1
theorem e_gainOfAll {w : AW} {T : Nat → Nat → Int32} (hw : AWok w) (h0 : 0 < aNs w) {d g st : Nat} {σ : Sta} (hst : st ≤ 30) (hT : ∀ n, n < st → TV w (T n)) (hg : g < aNg w) (h : AC w σ) (hS : gI σ (64 * (41 + 5 * d) + 1) = nI st)
    (hA : ∀ n t, n < st → t < aNs w → gA σ (41 + 5 * d + 2) (n * 100 + t) = T n t) : ∃ σ', f_X2_gainOfAll d (nI g) σ = some (aFolG w T g st 0, σ') ∧ Kp n0 n0 n0 kB σ σ' := by
  have h2 := hw.1
  have hK : Kp n0 n0 n0 kB σ (fillJ σ 38 0 100 (fun _ => 0)) := Kp.sJ (Or.inl rfl) Kp.rfl'
  obtain ⟨σ', g1, g2⟩ := e_gain10 hw h0 (d := d) hst hT hg st 0 FU (fillJ σ 38 0 100 (fun _ => 0)) (by omega) (FU_lt (by omega)) (AC_B hK ⟨id, id, id⟩ h) hS hA (fun t ht => by
    unfold fillJ
    rw [gJ_sJ, if_pos rfl, if_pos (by omega)]
    rfl)
  refine ⟨σ', ?_, hK.trans g2⟩
  unfold f_X2_gainOfAll
  rw [e_fillJ (by omega), bnd_s]
  exact g1
theorem e_isGoal {w : AW} {σ : Sta} (hw : AWok w) (h : AC w σ) {s : Nat} (hs : s < aNs w) : f_X5_isGoal (nI s) σ = some (if aGl w s = true then 1 else 0, σ) := by
  have h2 := hw.1
  have h3 := (hw.2.2.2.1 s hs).1
  unfold f_X5_isGoal f_X5_isGoal_16
  rw [e_entry (by omega) (by omega), bnd_s, h.2.2.2.1 s hs]
  by_cases h1 : aGl w s = true
  · rw [if_pos h1, if_neg nneg1, if_pos h1, if_neg (by decide)]
  · rw [if_neg h1, if_pos (nI_pos' (by omega)), if_neg h1, if_neg (by decide)]
theorem e_startChances_l {w : AW} {T : Nat → Nat → Int32} (hw : AWok w) : ∀ (m s n : Nat) (σ : Sta), s + m = aNs w → m < n → AC w σ → (∀ t, t < s → gJ σ 38 t = aFolP w T 0 t) →
    ∃ σ', f_X2_startChances_2 n (nI s) σ = some ((), σ') ∧ Kp n0 n0 n0 kB σ σ' ∧ (∀ t, t < aNs w → gJ σ' 38 t = aFolP w T 0 t)
  | _, _, 0, _, _, hn, _, _ => absurd hn (Nat.not_lt_zero _)
  | 0, s, n + 1, σ, hk, hn, h, hN => by
    have h2 := hw.1
    refine ⟨σ, ?_, Kp.rfl', fun t ht => hN t (by omega)⟩
    rw [f_X2_startChances_2, h.1, if_pos (nI_le (by omega) (by omega))]
  | m + 1, s, n + 1, σ, hk, hn, h, hN => by
    have h2 := hw.1
    have hs : s < aNs w := by omega
    have hK : Kp n0 n0 n0 kB σ (sJ σ 38 (vp_updL (gJ σ 38) s (aFolP w T 0 s))) := Kp.sJ (Or.inl rfl) Kp.rfl'
    obtain ⟨σ', e1, e2, e3⟩ := e_startChances_l (T := T) hw m (s + 1) n _ (by omega) (by omega) (AC_B hK ⟨id, id, id⟩ h) (fun t ht => by
      rw [gJ_sJ, if_pos rfl, updL_at]
      by_cases h4 : t = s
      · rw [if_pos h4, h4]
      · rw [if_neg h4]; exact hN t (by omega))
    refine ⟨σ', ?_, hK.trans e2, e3⟩
    rw [← e1, f_X2_startChances_2, h.1, if_neg (nI_ge (by omega) (by omega)), e_isGoal hw h hs, bnd_s]
    unfold f_X2_startChances_36
    have hv : aFolP w T 0 s = if aGl w s = true then 1000000 else 0 := rfl
    by_cases h5 : aGl w s = true
    · rw [if_pos h5] at hv
      rw [if_pos h5, if_neg (by decide), if_neg (nI_in (by omega) (by omega)), lt_e, lt_e, nI_1, nI_clamp (by omega), hv]
    · rw [if_neg h5] at hv
      rw [if_neg h5, if_pos rfl, if_neg (nI_in (by omega) (by omega)), lt_e, lt_e, nI_1, nI_clamp (by omega), hv]
theorem e_startChances {w : AW} {T : Nat → Nat → Int32} (hw : AWok w) {σ : Sta} (h : AC w σ) : ∃ σ', f_X2_startChances σ = some ((), σ') ∧ Kp n0 n0 n0 kB σ σ' ∧ (∀ t, t < aNs w → gJ σ' 38 t = aFolP w T 0 t) := by
  have h2 := hw.1
  exact e_startChances_l hw (aNs w) 0 FU σ (by omega) (FU_lt (by omega)) h (fun t ht => absurd ht (Nat.not_lt_zero _))
theorem e_chance16 {w : AW} {T : Nat → Int32} (hw : AWok w) (hT : TV w T) {d i : Nat} (hi : i < 30) {k6 : Int32 → Sta → Option (Int32 × Sta)} : ∀ (m s n : Nat) (σ : Sta), s + m = aNs w → m < n → AC w σ →
    (∀ t, t < aNs w → gA σ (41 + 5 * d + 2) (i * 100 + t) = T t) → (∀ t, t < s → gJ σ 39 t = aStepP w T (gJ σ 38) t) →
    ∃ σ', f_X2_chanceOfAll_16 d k6 n (nI (i + 1)) (nI s) σ = k6 (nI (i + 2)) σ' ∧ Kp n0 n0 n0 kB σ σ' ∧ (∀ t, t < aNs w → gJ σ' 38 t = aStepP w T (gJ σ 38) t)
  | _, _, 0, _, _, hn, _, _, _ => absurd hn (Nat.not_lt_zero _)
  | 0, s, n + 1, σ, hk, hn, h, hA, hN => by
    have h2 := hw.1
    refine ⟨sJ σ 38 (va_cpy (gJ σ 39) (gJ σ 38) 0 0 100), ?_, Kp.sJ (Or.inl rfl) Kp.rfl', fun t ht => ?_⟩
    · rw [f_X2_chanceOfAll_16, h.1, if_pos (nI_le (by omega) (by omega)), e_stepOn, bnd_s, lt_e, nI_1]
    · rw [gJ_sJ, if_pos rfl, cpy_at, if_pos (by omega), show 0 + (t - 0) = t by omega]
      exact hN t (by omega)
  | m + 1, s, n + 1, σ, hk, hn, h, hA, hN => by
    have h2 := hw.1
    have hs : s < aNs w := by omega
    have hK : Kp n0 n0 n0 kB σ (sJ σ 39 (vp_updL (gJ σ 39) s (aStepP w T (gJ σ 38) s))) := Kp.sJ (Or.inr rfl) Kp.rfl'
    have e38 : gJ (sJ σ 39 (vp_updL (gJ σ 39) s (aStepP w T (gJ σ 38) s))) 38 = gJ σ 38 := by rw [gJ_sJ, if_neg (by decide)]
    obtain ⟨σ', e1, e2, e3⟩ := e_chance16 hw hT (d := d) hi (k6 := k6) m (s + 1) n _ (by omega) (by omega) (AC_B hK ⟨id, id, id⟩ h) (fun t ht => hA t ht) (fun t ht => by
      rw [e38, gJ_sJ, if_pos rfl, updL_at]
      by_cases h4 : t = s
      · rw [if_pos h4, h4]
      · rw [if_neg h4]; exact hN t (by omega))
    rw [e38] at e3
    refine ⟨σ', ?_, hK.trans e2, e3⟩
    rw [← e1, f_X2_chanceOfAll_16, h.1, if_neg (nI_ge (by omega) (by omega)), e_takenIn (by omega) hi, bnd_s, hA s hs]
    unfold f_X2_chanceOfAll_66
    have hv : aStepP w T (gJ σ 38) s = if T s < 0 then gJ σ 38 s else aLater w (gJ σ 38) s ((T s).toNatClampNeg) := rfl
    rcases hT s hs with ⟨h5, h6⟩ | ⟨c, h5, h6⟩
    · rw [h6, if_pos m1neg] at hv
      rw [h6, if_neg nneg1, if_neg (nI_in (by omega) (by omega)), if_neg (nI_in (by omega) (by omega)), lt_e, lt_e, nI_1, nI_clamp (by omega), hv]
    · have h7 := (hw.2.2.2.1 s hs).1
      rw [h6, if_neg (nI_pos (by omega)), nI_clamp (by omega)] at hv
      rw [h6, if_pos (nI_pos' (by omega)), e_later0 hw h hs h5 (by omega) (by omega), bnd_s, if_neg (nI_in (by omega) (by omega)), lt_e, lt_e, nI_1, nI_clamp (by omega), hv]
theorem e_chance6 {w : AW} {T : Nat → Nat → Int32} (hw : AWok w) (h0 : 0 < aNs w) {d st : Nat} (hst : st ≤ 30) (hT : ∀ n, n < st → TV w (T n)) : ∀ (m i n : Nat) (σ : Sta), i + m = st → m < n → AC w σ → gI σ (64 * (41 + 5 * d) + 1) = nI st →
    (∀ n t, n < st → t < aNs w → gA σ (41 + 5 * d + 2) (n * 100 + t) = T n t) → (∀ t, t < aNs w → gJ σ 38 t = aFolP w T i t) →
    ∃ σ', f_X2_chanceOfAll_6 d n (nI (i + 1)) σ = some ((aFolP w T st 0).toInt32, σ') ∧ Kp n0 n0 n0 kB σ σ'
  | _, _, 0, _, _, hn, _, _, _, _ => absurd hn (Nat.not_lt_zero _)
  | 0, i, n + 1, σ, hk, hn, h, hS, hA, hB => by
    refine ⟨σ, ?_, Kp.rfl'⟩
    rw [f_X2_chanceOfAll_6, hS, if_pos (nI_lt (by omega) (by omega)), if_neg (by decide), show ((0 : Int32).toNatClampNeg) = 0 from rfl, hB 0 h0, show i = st by omega]
  | m + 1, i, n + 1, σ, hk, hn, h, hS, hA, hB => by
    have h2 := hw.1
    obtain ⟨σ1, e1, e2, e3⟩ := e_chance16 hw (hT i (by omega)) (d := d) (i := i) (by omega) (k6 := f_X2_chanceOfAll_6 d n) (aNs w) 0 FU σ (by omega) (FU_lt (by omega)) h (fun t ht => hA i t (by omega) ht) (fun t ht => absurd ht (Nat.not_lt_zero _))
    obtain ⟨σ', g1, g2⟩ := e_chance6 hw h0 hst hT m (i + 1) n σ1 (by omega) (by omega) (AC_B e2 ⟨id, id, id⟩ h) (by rw [e2.1 _ id]; exact hS) (fun n t h3 h4 => by rw [e2.2.2.1 _ id]; exact hA n t h3 h4) (fun t ht => by
      rw [e3 t ht]
      exact aStepP_congr hw (hT i (by omega)) ht hB)
    refine ⟨σ', ?_, e2.trans g2⟩
    rw [f_X2_chanceOfAll_6, hS, if_neg (nI_nlt (by omega) (by omega))]
    exact e1.trans g1
theorem e_chanceOfAll {w : AW} {T : Nat → Nat → Int32} (hw : AWok w) (h0 : 0 < aNs w) {d st : Nat} {σ : Sta} (hst : st ≤ 30) (hT : ∀ n, n < st → TV w (T n)) (h : AC w σ) (hS : gI σ (64 * (41 + 5 * d) + 1) = nI st)
    (hA : ∀ n t, n < st → t < aNs w → gA σ (41 + 5 * d + 2) (n * 100 + t) = T n t) : ∃ σ', f_X2_chanceOfAll d σ = some ((aFolP w T st 0).toInt32, σ') ∧ Kp n0 n0 n0 kB σ σ' := by
  obtain ⟨σ1, e1, e2, e3⟩ := e_startChances (T := T) hw h
  obtain ⟨σ', g1, g2⟩ := e_chance6 hw h0 (d := d) hst hT st 0 FU σ1 (by omega) (FU_lt (by omega)) (AC_B e2 ⟨id, id, id⟩ h) (by rw [e2.1 _ id]; exact hS) (fun n t h3 h4 => by rw [e2.2.2.1 _ id]; exact hA n t h3 h4) e3
  refine ⟨σ', ?_, e2.trans g2⟩
  unfold f_X2_chanceOfAll
  rw [e1, bnd_s]
  exact g1
/-- a strategy's row as it is told by numbers: its steps, what it takes, is worth, brings, its chance -/
def StrC (w : AW) (d st : Nat) (T : Nat → Nat → Int32) (W : Nat → Nat → Int64) (B : Nat → Int64) (P : Int32) (σ : Sta) : Prop :=
  gI σ (64 * (41 + 5 * d) + 1) = nI st ∧ (∀ n t, n < st → t < aNs w → gA σ (41 + 5 * d + 2) (n * 100 + t) = T n t) ∧ (∀ n t, n ≤ st → t < aNs w → gJ σ (41 + 5 * d + 3) (n * 100 + t) = W n t) ∧ (∀ g, g < aNg w → gJ σ (41 + 5 * d + 4) g = B g) ∧ gI σ (64 * (41 + 5 * d) + 5) = P
def kIs (d : Nat) : Nat → Prop := fun q => q = 64 * (41 + 5 * d) + 5
def kJs (d : Nat) : Nat → Prop := fun q => q = 38 ∨ q = 39 ∨ q = 41 + 5 * d + 3 ∨ q = 41 + 5 * d + 4
def kJt (d : Nat) : Nat → Prop := fun q => q = 38 ∨ q = 39 ∨ q = 41 + 5 * d + 4
theorem AC_str {w : AW} {σ σ1 : Sta} {d : Nat} (h : Kp (kIs d) n0 (kA d) (kJs d) σ σ1) (h0 : AC w σ) : AC w σ1 :=
  AC_kp h ⟨by unfold kIs; omega, by unfold kIs; omega, by unfold kIs; omega⟩ ⟨by unfold kA; omega, by unfold kA; omega, by unfold kA; omega, by unfold kA; omega, by unfold kA; omega, by unfold kA; omega, by unfold kA; omega⟩ (by unfold kJs; omega) h0
theorem kJt_s {d : Nat} {σ σ1 : Sta} (h : Kp (kIs d) n0 (kA d) (kJt d) σ σ1) : Kp (kIs d) n0 (kA d) (kJs d) σ σ1 :=
  h.mono (fun _ e => e) (fun _ e => e) (fun _ e => e) (fun _ e => e.elim Or.inl (fun e => Or.inr (e.elim Or.inl (fun e => Or.inr (Or.inr e)))))
theorem kB_s {d : Nat} {σ σ1 : Sta} (h : Kp n0 n0 n0 kB σ σ1) : Kp (kIs d) n0 (kA d) (kJt d) σ σ1 :=
  h.mono (fun _ e => e.elim) (fun _ e => e.elim) (fun _ e => e.elim) (fun _ e => e.elim Or.inl (fun e => Or.inr (Or.inl e)))
theorem e_plan50 {w : AW} {T : Nat → Nat → Int32} {W : Nat → Nat → Int64} (hw : AWok w) (h0 : 0 < aNs w) {d st : Nat} (hst : st ≤ 30) (hT : ∀ n, n < st → TV w (T n)) : ∀ (m g n : Nat) (σ : Sta), g + m = aNg w → m < n → AC w σ → gI σ (64 * (41 + 5 * d) + 1) = nI st →
    (∀ n t, n < st → t < aNs w → gA σ (41 + 5 * d + 2) (n * 100 + t) = T n t) → (∀ n t, n ≤ st → t < aNs w → gJ σ (41 + 5 * d + 3) (n * 100 + t) = W n t) → (∀ j, j < g → gJ σ (41 + 5 * d + 4) j = aFolG w T j st 0) →
    ∃ σ', f_X2_plan_50 d n (nI g) σ = some ((), σ') ∧ Kp (kIs d) n0 (kA d) (kJt d) σ σ' ∧ StrC w d st T W (fun j => aFolG w T j st 0) ((aFolP w T st 0).toInt32) σ'
  | _, _, 0, _, _, hn, _, _, _, _, _ => absurd hn (Nat.not_lt_zero _)
  | 0, g, n + 1, σ, hk, hn, h, hS, hA, hW, hB => by
    have h2 := hw.2.1
    obtain ⟨σ1, e1, e2⟩ := e_chanceOfAll hw h0 (d := d) hst hT h hS hA
    refine ⟨sI σ1 (64 * (41 + 5 * d) + 5) ((aFolP w T st 0).toInt32), ?_, Kp.sI rfl (kB_s e2), ?_, fun n t h3 h4 => ?_, fun n t h3 h4 => ?_, fun j hj => ?_, ?_⟩
    · rw [f_X2_plan_50, h.2.1, if_pos (nI_le (by omega) (by omega)), e1, bnd_s, lt_e]
    · rw [gI_sI, if_neg (by omega), e2.1 _ id]; exact hS
    · rw [gA_sI, e2.2.2.1 _ id]; exact hA n t h3 h4
    · rw [gJ_sI, e2.2.2.2.1 _ (by unfold kB; omega)]; exact hW n t h3 h4
    · rw [gJ_sI, e2.2.2.2.1 _ (by unfold kB; omega)]; exact hB j (by omega)
    · rw [gI_sI, if_pos rfl]
  | m + 1, g, n + 1, σ, hk, hn, h, hS, hA, hW, hB => by
    have h2 := hw.2.1
    obtain ⟨σ1, e1, e2⟩ := e_gainOfAll hw h0 (d := d) (g := g) hst hT (by omega) h hS hA
    have hK : Kp (kIs d) n0 (kA d) (kJt d) σ (sJ σ1 (41 + 5 * d + 4) (vp_updL (gJ σ1 (41 + 5 * d + 4)) g (aFolG w T g st 0))) := Kp.sJ (Or.inr (Or.inr rfl)) (kB_s e2)
    obtain ⟨σ', g1, g2, g3⟩ := e_plan50 (W := W) hw h0 hst hT m (g + 1) n _ (by omega) (by omega) (AC_str (kJt_s hK) h) (by rw [gI_sJ, e2.1 _ id]; exact hS) (fun n t h3 h4 => by rw [gA_sJ, e2.2.2.1 _ id]; exact hA n t h3 h4)
      (fun n t h3 h4 => by rw [gJ_sJ, if_neg (by omega), e2.2.2.2.1 _ (by unfold kB; omega)]; exact hW n t h3 h4)
      (fun j hj => by
        rw [gJ_sJ, if_pos rfl, updL_at]
        by_cases h4 : j = g
        · rw [if_pos h4, h4]
        · rw [if_neg h4, e2.2.2.2.1 _ (by unfold kB; omega)]; exact hB j (by omega))
    refine ⟨σ', ?_, hK.trans g2, g3⟩
    rw [← g1, f_X2_plan_50, h.2.1, if_neg (nI_ge (by omega) (by omega)), e1, bnd_s, if_neg (nI_in (by omega) (by omega)), lt_e, lt_e, nI_1, nI_clamp (by omega)]
/-- a strategy is made -/
theorem e_plan {w : AW} {wt : Nat → Int32} (hw : AWok w) (h0 : 0 < aNs w) {d st : Nat} {σ : Sta} (hst : st ≤ 30) (h : AC w σ) (hS : gI σ (64 * (41 + 5 * d) + 1) = nI st) (hg : ∀ g, g < aNg w → gA σ (41 + 5 * d + 1) g = wt g) (hz : ∀ t, t < 100 → gJ σ (41 + 5 * d + 3) t = 0) :
    ∃ σ', f_X2_plan d σ = some ((), σ') ∧ Kp (kIs d) n0 (kA d) (kJs d) σ σ' ∧ StrC w d st (aTake w wt) (aWorth w wt) (fun j => aFolG w (aTake w wt) j st 0) ((aFolP w (aTake w wt) st 0).toInt32) σ' ∧ (∀ t, t < 100 → gJ σ' (41 + 5 * d + 3) t = 0) := by
  have h2 := hw.1
  have h3 := hw.2.1
  obtain ⟨σ1, e1, e2, e3⟩ := e_plan2 (wt := wt) hw (d := d) hst st 0 FU σ (by omega) (FU_lt (by omega)) h hS ⟨hg, fun n t h4 _ => absurd h4 (Nat.not_lt_zero _), fun n t h4 ht => by
    rw [show n * 100 + t = t by omega, show n = 0 by omega]; exact hz t (by omega), fun t ht => absurd ht (Nat.not_lt_zero _), hz⟩
  have hK : Kp (kIs d) n0 (kA d) (kJs d) σ σ1 := e2.mono (fun _ e => e.elim) (fun _ e => e.elim) (fun _ e => e) (fun _ e => Or.inr (Or.inr (Or.inl e)))
  obtain ⟨σ', g1, g2, g3⟩ := e_plan50 (T := aTake w wt) (W := aWorth w wt) hw h0 (d := d) hst (fun n _ => aTake_v hw wt n) (aNg w) 0 FU σ1 (by omega) (FU_lt (by omega)) (AC_str hK h) (by rw [e2.1 _ id]; exact hS) e3.2.1 e3.2.2.1 (fun j hj => absurd hj (Nat.not_lt_zero _))
  refine ⟨σ', ?_, hK.trans (kJt_s g2), g3, fun t ht => by rw [g2.2.2.2.1 _ (by unfold kJt; omega)]; exact e3.2.2.2.2 t ht⟩
  unfold f_X2_plan
  exact e1.trans g1

def kAM : Nat → Prop := fun q => q = 30 ∨ q = 31 ∨ q = 34
def kJM : Nat → Prop := fun q => q = 32 ∨ q = 33 ∨ q = 35 ∨ q = 36
/-- only the row k of the strategies, and the two rows of numbers by state, may have changed -/
def KM (k : Nat) (σ σ' : Sta) : Prop := Kp n0 n0 kAM kJM σ σ' ∧ (∀ j, (j < 3100 * k ∨ 3100 * k + 3100 ≤ j) → gA σ' 31 j = gA σ 31 j ∧ gJ σ' 32 j = gJ σ 32 j) ∧ (∀ j, j ≠ k → gA σ' 30 j = gA σ 30 j ∧ gA σ' 34 j = gA σ 34 j) ∧ (∀ j, (j < 3 * k ∨ 3 * k + 3 ≤ j) → gJ σ' 33 j = gJ σ 33 j)
theorem KM.rfl' {k : Nat} {σ : Sta} : KM k σ σ := ⟨Kp.rfl', fun _ _ => ⟨rfl, rfl⟩, fun _ _ => ⟨rfl, rfl⟩, fun _ _ => rfl⟩
theorem KM.trans {k : Nat} {σ σ1 σ2 : Sta} (h : KM k σ σ1) (h2 : KM k σ1 σ2) : KM k σ σ2 :=
  ⟨h.1.trans h2.1, fun j hj => ⟨(h2.2.1 j hj).1.trans (h.2.1 j hj).1, (h2.2.1 j hj).2.trans (h.2.1 j hj).2⟩, fun j hj => ⟨(h2.2.2.1 j hj).1.trans (h.2.2.1 j hj).1, (h2.2.2.1 j hj).2.trans (h.2.2.1 j hj).2⟩, fun j hj => (h2.2.2.2 j hj).trans (h.2.2.2 j hj)⟩
/-- only the taken choices and worths of row k may have changed -/
def k31 : Nat → Prop := fun q => q = 31
def k32 : Nat → Prop := fun q => q = 32
def KR (k : Nat) (σ σ' : Sta) : Prop := Kp n0 n0 k31 k32 σ σ' ∧ (∀ j, (j < 3100 * k ∨ 3100 * k + 3100 ≤ j) → gA σ' 31 j = gA σ 31 j ∧ gJ σ' 32 j = gJ σ 32 j)
theorem KR.rfl' {k : Nat} {σ : Sta} : KR k σ σ := ⟨Kp.rfl', fun _ _ => ⟨rfl, rfl⟩⟩
theorem KR.trans {k : Nat} {σ σ1 σ2 : Sta} (h : KR k σ σ1) (h2 : KR k σ1 σ2) : KR k σ σ2 :=
  ⟨h.1.trans h2.1, fun j hj => ⟨(h2.2 j hj).1.trans (h.2 j hj).1, (h2.2 j hj).2.trans (h.2 j hj).2⟩⟩
theorem fa_lt (a b : Int32) : a < b ↔ a.toInt < b.toInt := Int32.lt_iff_toInt_lt
theorem fa_le (a b : Int32) : a ≤ b ↔ a.toInt ≤ b.toInt := Int32.le_iff_toInt_le
theorem fa_eq (a b : Int32) : a = b ↔ a.toInt = b.toInt := Int32.toInt_inj.symm
theorem fa_lt64 (a b : Int64) : a < b ↔ a.toInt < b.toInt := Int64.lt_iff_toInt_lt
theorem fa_le64 (a b : Int64) : a ≤ b ↔ a.toInt ≤ b.toInt := Int64.le_iff_toInt_le
theorem fa_eq64 (a b : Int64) : a = b ↔ a.toInt = b.toInt := Int64.toInt_inj.symm
theorem fa_wide_lt (a b : Int32) : a.toInt64 < b.toInt64 ↔ a < b := by rw [fa_lt64, fa_lt, Int32.toInt_toInt64, Int32.toInt_toInt64]
theorem fa_wide_le (a b : Int32) : a.toInt64 ≤ b.toInt64 ↔ a ≤ b := by rw [fa_le64, fa_le, Int32.toInt_toInt64, Int32.toInt_toInt64]
theorem fa_wide_eq (a b : Int32) : a.toInt64 = b.toInt64 ↔ a = b := by rw [fa_eq64, fa_eq, Int32.toInt_toInt64, Int32.toInt_toInt64]
def aExt (least : Bool) (f : Nat → Int64) : Nat → Nat → Int64 → Int64
  | 0, _, e => e
  | m + 1, k, e => aExt least f m (k + 1) (if k = 0 ∨ (least = true ∧ f k < e) ∨ (least = false ∧ e < f k) then f k else e)
theorem aExt_congr {f g : Nat → Int64} (least : Bool) : ∀ (m k : Nat) (e : Int64), (∀ j, k ≤ j → j < k + m → f j = g j) → aExt least f m k e = aExt least g m k e
  | 0, _, _, _ => rfl
  | m + 1, k, e, h => by
    unfold aExt
    rw [h k (Nat.le_refl _) (by omega), aExt_congr least m (k + 1) _ (fun j h1 h2 => h j (by omega) (by omega))]
def aGl0 (w : AW) (t : Nat) : Int64 := if aGl w t = true then 1000000 else 0
def aR (w : AW) (least : Bool) : Nat → Nat → Int64
  | 0 => aGl0 w
  | n + 1 => fun s => aExt least (aLater w (aR w least n) s) (aCh w s) 0 (aR w least n s)
theorem e_ext_l {w : AW} {σ : Sta} (hw : AWok w) (h : AC w σ) {s : Nat} {b : Int32} (hs : s < aNs w) : ∀ (m k n : Nat) (e : Int64), k + m = aCh w s → m < n →
    f_X2_extremeIn_10 n (nI s) b e (nI k) σ = some (aExt (decide (b ≠ 0)) (aLater w (gJ σ 38) s) m k e, σ)
  | _, _, 0, _, _, hn => absurd hn (Nat.not_lt_zero _)
  | 0, k, n + 1, e, hk, hn => by
    have h1 := hw.1
    have h3 := (hw.2.2.2.1 s hs).1
    rw [f_X2_extremeIn_10, if_neg (nI_in (by omega) (by omega)), nI_clamp (by omega), if_pos (AC_le hw h hs (by omega) (by omega))]
    rfl
  | m + 1, k, n + 1, e, hk, hn => by
    have h1 := hw.1
    have h3 := (hw.2.2.2.1 s hs).1
    have ih := fun e => e_ext_l (b := b) hw h hs m (k + 1) n e (by omega) (by omega)
    rw [f_X2_extremeIn_10, if_neg (nI_in (by omega) (by omega)), nI_clamp (by omega), if_neg (AC_nle hw h hs (by omega)), e_later0 hw h hs (by omega) (by omega) (by omega), bnd_s, aExt]
    unfold f_X2_extremeIn_64 f_X2_extremeIn_67
    rw [lt_e, lt_e, nI_1, ih, ih]
    by_cases hk0 : k = 0
    · rw [if_pos (by rw [hk0]; rfl), if_pos (Or.inl hk0)]
    · rw [if_neg (nI_ne0 (by omega) (by omega))]
      by_cases hb : b = 0
      · rw [if_pos hb]
        by_cases h4 : e < aLater w (gJ σ 38) s k
        · rw [if_neg (fun q => Int64.not_le.mpr h4 ((lg_cmp_le _ _).mp q)), if_pos (Or.inr (Or.inr ⟨by simp [hb], h4⟩))]
        · rw [if_pos ((lg_cmp_le _ _).mpr (Int64.not_lt.mp h4)), if_neg (fun q => by
            rcases q with q | q | q
            · exact hk0 q
            · simp [hb] at q
            · exact h4 q.2)]
      · rw [if_neg hb]
        by_cases h4 : aLater w (gJ σ 38) s k < e
        · rw [if_neg (fun q => Int64.not_le.mpr h4 ((lg_cmp_ge _ _).mp q)), if_pos (Or.inr (Or.inl ⟨by simp [hb], h4⟩))]
        · rw [if_pos ((lg_cmp_ge _ _).mpr (Int64.not_lt.mp h4)), if_neg (fun q => by
            rcases q with q | q | q
            · exact hk0 q
            · exact h4 q.2
            · simp [hb] at q)]
theorem e_ext14 {w : AW} (hw : AWok w) {st i : Nat} {b : Int32} {k6 : Int32 → Int32 → Int32 → Sta → Option (Int32 × Sta)} : ∀ (m s n : Nat) (σ : Sta), s + m = aNs w → m < n → AC w σ →
    (∀ t, t < aNs w → gJ σ 38 t = aR w (decide (b ≠ 0)) i t) → (∀ t, t < s → gJ σ 39 t = aR w (decide (b ≠ 0)) (i + 1) t) →
    ∃ σ', f_X2_extremeChance_14 k6 n (nI st) b (nI (i + 1)) (nI s) σ = k6 (nI st) b (nI (i + 2)) σ' ∧ Kp n0 n0 n0 kB σ σ' ∧ (∀ t, t < aNs w → gJ σ' 38 t = aR w (decide (b ≠ 0)) (i + 1) t)
  | _, _, 0, _, _, hn, _, _, _ => absurd hn (Nat.not_lt_zero _)
  | 0, s, n + 1, σ, hk, hn, h, hB, hN => by
    have h2 := hw.1
    refine ⟨sJ σ 38 (va_cpy (gJ σ 39) (gJ σ 38) 0 0 100), ?_, Kp.sJ (Or.inl rfl) Kp.rfl', fun t ht => ?_⟩
    · rw [f_X2_extremeChance_14, h.1, if_pos (nI_le (by omega) (by omega)), e_stepOn, bnd_s, lt_e, nI_1]
    · rw [gJ_sJ, if_pos rfl, cpy_at, if_pos (by omega), show 0 + (t - 0) = t by omega]
      exact hN t (by omega)
  | m + 1, s, n + 1, σ, hk, hn, h, hB, hN => by
    have h2 := hw.1
    have hs : s < aNs w := by omega
    have hch := (hw.2.2.2.1 s hs).1
    have hK : Kp n0 n0 n0 kB σ (sJ σ 39 (vp_updL (gJ σ 39) s (aR w (decide (b ≠ 0)) (i + 1) s))) := Kp.sJ (Or.inr rfl) Kp.rfl'
    obtain ⟨σ', e1, e2, e3⟩ := e_ext14 (st := st) (k6 := k6) hw m (s + 1) n _ (by omega) (by omega) (AC_B hK ⟨id, id, id⟩ h) (fun t ht => by rw [gJ_sJ, if_neg (by decide)]; exact hB t ht) (fun t ht => by
      rw [gJ_sJ, if_pos rfl, updL_at]
      by_cases h4 : t = s
      · rw [if_pos h4, h4]
      · rw [if_neg h4]; exact hN t (by omega))
    refine ⟨σ', ?_, hK.trans e2, e3⟩
    have hx : f_X2_extremeIn (nI s) b σ = some (aR w (decide (b ≠ 0)) (i + 1) s, σ) := by
      unfold f_X2_extremeIn
      rw [if_neg (nI_in (by omega) (by omega)), lt_e, nI_clamp (by omega), hB s hs]
      refine (e_ext_l hw h hs (aCh w s) 0 FU _ (by omega) (FU_lt (by omega))).trans ?_
      rw [aExt_congr _ _ _ _ (fun j _ hj => aLater_congr hw hs (by omega) hB)]
      rfl
    rw [← e1, f_X2_extremeChance_14, h.1, if_neg (nI_ge (by omega) (by omega)), hx, bnd_s, if_neg (nI_in (by omega) (by omega)), lt_e, lt_e, nI_1, nI_clamp (by omega)]
theorem e_ext6 {w : AW} (hw : AWok w) (h0 : 0 < aNs w) {st : Nat} {b : Int32} (hst : st ≤ 30) : ∀ (m i n : Nat) (σ : Sta), i + m = st → m < n → AC w σ → (∀ t, t < aNs w → gJ σ 38 t = aR w (decide (b ≠ 0)) i t) →
    ∃ σ', f_X2_extremeChance_6 n (nI st) b (nI (i + 1)) σ = some ((aR w (decide (b ≠ 0)) st 0).toInt32, σ') ∧ Kp n0 n0 n0 kB σ σ'
  | _, _, 0, _, _, hn, _, _ => absurd hn (Nat.not_lt_zero _)
  | 0, i, n + 1, σ, hk, hn, h, hB => by
    refine ⟨σ, ?_, Kp.rfl'⟩
    rw [f_X2_extremeChance_6, if_pos (nI_lt (by omega) (by omega)), if_neg (by decide), show ((0 : Int32).toNatClampNeg) = 0 from rfl, hB 0 h0, show i = st by omega]
  | m + 1, i, n + 1, σ, hk, hn, h, hB => by
    have h2 := hw.1
    obtain ⟨σ1, e1, e2, e3⟩ := e_ext14 (st := st) (k6 := f_X2_extremeChance_6 n) hw (aNs w) 0 FU σ (by omega) (FU_lt (by omega)) h hB (fun t ht => absurd ht (Nat.not_lt_zero _))
    obtain ⟨σ', g1, g2⟩ := e_ext6 hw h0 hst m (i + 1) n σ1 (by omega) (by omega) (AC_B e2 ⟨id, id, id⟩ h) e3
    refine ⟨σ', ?_, e2.trans g2⟩
    rw [f_X2_extremeChance_6, if_neg (nI_nlt (by omega) (by omega))]
    exact e1.trans g1
def k2 : Nat → Prop := fun q => q = 2
def cOp (o : Nat) : Int32 := [274, 273, 43, 45, 42, 47, 37, 61, 277, 60, 62, 275, 276, 267, 268, 270, 271, 269, 280, 272].getD o 0
abbrev XL : Type := List (Nat × Int64)
theorem nI_in2 {c N : Nat} (h : c < N) (hc : c < 2 ^ 31) : ¬ (nI c < 0 ∨ N ≤ c) := fun q => by
  rcases q with q | q
  · exact nI_pos hc q
  · omega
def XC (σ : Sta) : Nat → XL → Prop
  | _, [] => True
  | b, p :: l => gA σ 14 b = cOp p.1 ∧ (p.1 < 2 → gJ σ 15 b = p.2) ∧ XC σ (b + 1) l
def k18 : Nat → Prop := fun q => q = 18
theorem XC_kp {σ σ' : Sta} (h : Kp n0 n0 n0 k18 σ σ') : ∀ (l : XL) (b : Nat), XC σ b l → XC σ' b l
  | [], _, _ => True.intro
  | p :: l, b, ⟨h1, h2, h3⟩ => ⟨by rw [h.2.2.1 _ id]; exact h1, fun e => by rw [h.2.2.2.1 _ (by unfold k18; omega)]; exact h2 e, XC_kp h l (b + 1) h3⟩
theorem isUn (σ : Sta) : ∀ o, o < 20 → f_X0_isUnary (cOp o) σ = some (if 17 ≤ o then 1 else 0, σ)
  | 0, _ | 1, _ | 2, _ | 3, _ | 4, _ | 5, _ | 6, _ | 7, _ | 8, _ | 9, _ | 10, _ | 11, _ | 12, _ | 13, _ | 14, _ | 15, _ | 16, _ | 17, _ | 18, _ | 19, _ => rfl
  | n + 20, h => absurd h (by omega)
theorem cOp_274 : ∀ o, o < 20 → (cOp o = 274 ↔ o = 0) := by decide
theorem cOp_273 : ∀ o, o < 20 → (cOp o = 273 ↔ o = 1) := by decide
def xI : Nat → Prop := fun q => q = 322 ∨ q = 329 ∨ q = 330
def xA : Nat → Prop := fun q => q = 32 ∨ q = 33 ∨ q = 34 ∨ q = 35 ∨ q = 37
def xJ : Nat → Prop := fun q => q = 18 ∨ q = 36
def yI : Nat → Prop := fun q => q = 37
def yA : Nat → Prop := fun q => q = 21 ∨ q = 22 ∨ q = 23 ∨ q = 24 ∨ q = 26 ∨ q = 28
def yJ : Nat → Prop := fun q => q = 25 ∨ q = 27
def Kx (σ σ' : Sta) : Prop := Kp xI n0 xA xJ σ σ'
def Ky (τ τ' : Sta) : Prop := Kp yI n0 yA yJ τ τ'
/-- what is below these bounds has not changed -/
def Fx (s k g0 : Nat) (σ τ σ' τ' : Sta) : Prop := Kx σ σ' ∧ Ky τ τ' ∧ (∀ j, j < s → gA σ' 33 j = gA σ 33 j ∧ gA τ' 22 j = gA τ 22 j ∧ gA τ' 23 j = gA τ 23 j) ∧ (∀ j, j < s * 16 + k → gA σ' 34 j = gA σ 34 j ∧ gA τ' 24 j = gA τ 24 j) ∧ (∀ j, j < (s * 16 + k) * 4 → gA σ' 35 j = gA σ 35 j ∧ gA τ' 26 j = gA τ 26 j) ∧ (∀ j, j < g0 → gJ σ' 36 j = gJ σ 36 j) ∧ (∀ j, j < 3 * (16 * s + k) → gJ τ' 25 j = gJ τ 25 j)
theorem Fx.rfl' {s k g0 : Nat} {σ τ : Sta} : Fx s k g0 σ τ σ τ := ⟨Kp.rfl', Kp.rfl', fun _ _ => ⟨rfl, rfl, rfl⟩, fun _ _ => ⟨rfl, rfl⟩, fun _ _ => ⟨rfl, rfl⟩, fun _ _ => rfl, fun _ _ => rfl⟩
theorem Fx.trans {s k g0 : Nat} {σ τ σ1 τ1 σ2 τ2 : Sta} (h : Fx s k g0 σ τ σ1 τ1) (g : Fx s k g0 σ1 τ1 σ2 τ2) : Fx s k g0 σ τ σ2 τ2 :=
  ⟨Kp.trans h.1 g.1, Kp.trans h.2.1 g.2.1, fun j hj => ⟨(g.2.2.1 j hj).1.trans (h.2.2.1 j hj).1, (g.2.2.1 j hj).2.1.trans (h.2.2.1 j hj).2.1, (g.2.2.1 j hj).2.2.trans (h.2.2.1 j hj).2.2⟩,
    fun j hj => ⟨(g.2.2.2.1 j hj).1.trans (h.2.2.2.1 j hj).1, (g.2.2.2.1 j hj).2.trans (h.2.2.2.1 j hj).2⟩, fun j hj => ⟨(g.2.2.2.2.1 j hj).1.trans (h.2.2.2.2.1 j hj).1, (g.2.2.2.2.1 j hj).2.trans (h.2.2.2.2.1 j hj).2⟩,
    fun j hj => (g.2.2.2.2.2.1 j hj).trans (h.2.2.2.2.2.1 j hj), fun j hj => (g.2.2.2.2.2.2 j hj).trans (h.2.2.2.2.2.2 j hj)⟩
theorem Fx.mono {s k g0 s' k' g1 : Nat} {σ τ σ1 τ1 : Sta} (h : Fx s k g0 σ τ σ1 τ1) (h1 : s' ≤ s) (h2 : s' * 16 + k' ≤ s * 16 + k) (h3 : g1 ≤ g0) : Fx s' k' g1 σ τ σ1 τ1 :=
  ⟨h.1, h.2.1, fun j hj => h.2.2.1 j (by omega), fun j hj => h.2.2.2.1 j (by omega), fun j hj => h.2.2.2.2.1 j (by omega), fun j hj => h.2.2.2.2.2.1 j (by omega), fun j hj => h.2.2.2.2.2.2 j (by omega)⟩
/-- the values of the states below ns are what they were -/
def Vs (ns : Nat) (σ τ σ' τ' : Sta) : Prop := ∀ j, j < 6 * ns → gA σ' 32 j = gA σ 32 j ∧ gA τ' 21 j = gA τ 21 j
theorem Vs.trans {ns ns' : Nat} {σ τ σ1 τ1 σ2 τ2 : Sta} (h : Vs ns σ τ σ1 τ1) (g : Vs ns' σ1 τ1 σ2 τ2) (hn : ns ≤ ns') : Vs ns σ τ σ2 τ2 := fun j hj => ⟨(g j (by omega)).1.trans (h j hj).1, (g j (by omega)).2.trans (h j hj).2⟩
theorem c_letter {b : Nat} (hb : b < 256) (σ : Sta) : f_X7_isLetter (nI b) σ = some (if 97 ≤ b ∧ b ≤ 122 then 1 else 0, σ) := by
  unfold f_X7_isLetter f_X7_isLetter_16 f_X7_isLetter_17
  by_cases h1 : b < 97
  · rw [if_pos (by rw [nI_ltL (by omega) (by decide)]; omega), if_neg (by decide), if_neg (show ¬ (97 ≤ b ∧ b ≤ 122) by omega)]
  · rw [if_neg (by rw [nI_ltL (by omega) (by decide)]; omega)]
    by_cases h2 : 122 < b
    · rw [if_pos (by rw [nI_Llt (by omega) (by decide)]; omega), if_neg (by decide), if_neg (show ¬ (97 ≤ b ∧ b ≤ 122) by omega)]
    · rw [if_neg (by rw [nI_Llt (by omega) (by decide)]; omega), if_neg (by decide), if_pos (show (97 ≤ b ∧ b ≤ 122) by omega)]
theorem c_digit {b : Nat} (hb : b < 256) (σ : Sta) : f_X7_isDigit (nI b) σ = some (if 48 ≤ b ∧ b ≤ 57 then 1 else 0, σ) := by
  unfold f_X7_isDigit f_X7_isDigit_16 f_X7_isDigit_17
  by_cases h1 : b < 48
  · rw [if_pos (by rw [nI_ltL (by omega) (by decide)]; omega), if_neg (by decide), if_neg (show ¬ (48 ≤ b ∧ b ≤ 57) by omega)]
  · rw [if_neg (by rw [nI_ltL (by omega) (by decide)]; omega)]
    by_cases h2 : 57 < b
    · rw [if_pos (by rw [nI_Llt (by omega) (by decide)]; omega), if_neg (by decide), if_neg (show ¬ (48 ≤ b ∧ b ≤ 57) by omega)]
    · rw [if_neg (by rw [nI_Llt (by omega) (by decide)]; omega), if_neg (by decide), if_pos (show (48 ≤ b ∧ b ≤ 57) by omega)]
def kwS (v0 : Int64) : List Int32 → Int32 → Int64 → Int32
  | [], _, _ => 273
  | c :: l, v2, v3 => if c = 32 then (if lg_cmp v3 v0 = 0 then v2 else kwS v0 l (v2 + 1) 0) else kwS v0 l v2 (v3 * 256 + c.toInt64)
theorem j_len {N : Nat} {bs : List Int32} (h : Int32.ofNat N >>> ((0 : Int32) &&& 31) = nI N) (σ : Sta) : f_J0_length_8abf5 N bs σ = some (nI N, σ) := by
  unfold f_J0_length_8abf5 f_J0_coder_7d493 f_J0_coder_7d493_14
  rw [if_neg (show ¬ (1 : Int32) = 0 by decide), if_neg (show ¬ ¬ ((0 : Int32).toInt8.toInt32 = 0) by decide), bnd_s, h]
theorem kw_len (σ : Sta) : f_J0_length_8abf5 67 bKW σ = some (67, σ) := j_len (N := 67) (by decide) σ
theorem kw_ch0 : ∀ i, i < 67 → (((bKW.getD i 0) &&& 255).toUInt32 % 65536).toInt32 = bKW.getD i 0 ∧ (bKW.getD i 0).toUInt32.toUInt16.toUInt32.toInt32 = bKW.getD i 0 := by decide +kernel
theorem kw_ch {i : Nat} (hi : i < 67) (σ : Sta) : f_J0_charAt_5068e 67 bKW (nI i) σ = some (bKW.getD i 0, σ) := by
  unfold f_J0_charAt_5068e f_J0_isLatin1_aae02 f_J0_isLatin1_aae02_18
  rw [if_neg (by decide), if_pos rfl, if_neg (by decide), bnd_s, if_neg (by decide)]
  unfold f_J1_charAt_3b067 f_J0_checkIndex_df160 f_J3_checkIndex_8e157
  rw [if_neg (nI_pos (by omega)), if_pos (show nI i < Int32.ofNat 67 from nI_lt hi (by decide)), bnd_s, bnd_s, if_neg (nI_in hi (by decide)), nI_clamp (by omega), (kw_ch0 i hi).1, bnd_s, if_neg (fun q => q (kw_ch0 i hi).2)]
theorem kw_run (v0 : Int64) (σ : Sta) : ∀ (l : List Int32) (i n : Nat) (v2 : Int32) (v3 : Int64), i + l.length = 67 → bKW.drop i = l → l.length < n → f_X7_kindOfWord_9 n v0 v2 v3 (nI i) σ = some (kwS v0 l v2 v3, σ)
  | _, _, 0, _, _, _, _, hn => absurd hn (Nat.not_lt_zero _)
  | [], i, n + 1, v2, v3, h, hd, hn => by
    have h' : i + 0 = 67 := h
    rw [f_X7_kindOfWord_9, kw_len, bnd_s, if_pos (show (67 : Int32) ≤ nI i from nI_le (a := 67) (by omega) (by omega))]
    rfl
  | c :: l, i, n + 1, v2, v3, h, hd, hn => by
    have h' : i + (l.length + 1) = 67 := h
    have hn' : l.length < n := Nat.lt_of_succ_lt_succ hn
    have hc : bKW.getD i 0 = c := by
      rw [List.getD_eq_getElem?_getD, show bKW[i]? = (bKW.drop i)[0]? by rw [List.getElem?_drop, Nat.add_zero], hd]
      rfl
    have hd' : bKW.drop (i + 1) = l := by rw [← List.drop_drop, hd]; rfl
    have go : ∀ (a : Int32) (b : Int64), f_X7_kindOfWord_9 n v0 a b (nI (i + 1)) σ = some (kwS v0 l a b, σ) := fun a b => kw_run v0 σ l (i + 1) n a b (by omega) hd' hn'
    rw [f_X7_kindOfWord_9, kw_len, bnd_s, if_neg (show ¬ (67 : Int32) ≤ nI i from nI_ge (b := 67) (by omega) (by decide)), kw_ch (by omega), bnd_s, hc]
    unfold f_X7_kindOfWord_61 kwS
    by_cases q : c = 32
    · rw [if_pos q, if_pos q]
      by_cases q2 : lg_cmp v3 v0 = 0
      · rw [if_pos q2, if_pos q2]
      · rw [if_neg q2, if_neg q2, lt_e, lt_e, nI_1, go]
    · rw [if_neg q, if_neg q, lt_e, lt_e, nI_1, go]
def ixS (bs : List Int32) (c : Int32) : Nat → Nat → Int32
  | 0, _ => -1
  | r + 1, k => if bs.getD k 0 = c then nI k else ixS bs c r (k + 1)
theorem e_ixc {N : Nat} {bs : List Int32} {c : Int32} (hN : N < 2 ^ 31) (σ : Sta) : ∀ (r k n : Nat), k + r = N → r < n → f_J1_indexOfChar_4cfef_7 N bs n (nI N) c (nI k) σ = some (ixS bs c r k, σ)
  | _, _, 0, _, hn => absurd hn (Nat.not_lt_zero _)
  | 0, k, n + 1, h, hn => by
    rw [f_J1_indexOfChar_4cfef_7, if_pos (nI_le (by omega) (by omega))]
    rfl
  | r + 1, k, n + 1, h, hn => by
    rw [f_J1_indexOfChar_4cfef_7, if_neg (nI_ge (by omega) (by omega)), if_neg (nI_in (by omega) (by omega)), nI_clamp (by omega), lt_e, nI_1, e_ixc hN σ r (k + 1) n (by omega) (by omega)]
    unfold ixS
    by_cases q : bs.getD k 0 = c
    · rw [if_pos q, if_pos q]
    · rw [if_neg q, if_neg q]
      cases r <;> rfl
theorem e_ix {N b : Nat} {bs : List Int32} (h0 : 0 < N) (hN : N < 1000) (hb : b < 256) (hl : ∀ σ, f_J0_length_8abf5 N bs σ = some (nI N, σ)) (σ : Sta) : f_J0_indexOf_0f7a4 N bs (nI b) σ = some (ixS bs ((nI b).toInt8.toInt32) N 0, σ) := by
  unfold f_J0_indexOf_0f7a4 f_J0_indexOf_7cf53 f_J0_isLatin1_aae02 f_J0_isLatin1_aae02_18
  rw [if_neg (show ¬ (1 : Int32) = 0 by decide), if_pos (show (0 : Int32) = 0 from rfl), if_neg (by decide), bnd_s, if_neg (show ¬ (1 : Int32) = 0 by decide), hl, bnd_s]
  unfold f_J1_indexOf_4cfef f_J1_canEncode_9a6ad f_J1_canEncode_9a6ad_16
  rw [if_neg (nI_pos (by omega)), if_neg (by rw [nI_Llt (by omega) (by decide)]; omega), if_neg (by decide), bnd_s, if_neg (show ¬ (1 : Int32) = 0 by decide), lt_e, lt_e, if_neg (show ¬ (0 : Int32) < 0 by decide), if_neg (show ¬ Int32.ofNat N < nI N from fun q => Int32.lt_irrefl q), if_pos (show (0 : Int32) < nI N from nI_lt (a := 0) h0 (by omega))]
  unfold f_J1_indexOfChar_4cfef
  rw [lt_e, show f_J1_indexOfChar_4cfef_7 N bs FU (nI N) (nI b).toInt8.toInt32 0 σ = some (ixS bs ((nI b).toInt8.toInt32) N 0, σ) from e_ixc (by omega) σ N 0 FU (by omega) (Nat.lt_trans hN (FU_lt (by decide)))]
  rfl
theorem c_sym {b : Nat} (hb : b < 256) (σ : Sta) : f_J0_indexOf_0f7a4 12 bS1 (nI b) σ = some (ixS bS1 ((nI b).toInt8.toInt32) 12 0, σ) := e_ix (by decide) (by decide) hb (fun σ => j_len (by decide) σ) σ
def putC (σ : Sta) (m : Nat) (c p : Int32) (v : Int64) : Sta := sI (sJ (sA (sA σ 11 (upd (gA σ 11) m c)) 12 (upd (gA σ 12) m p)) 13 (vp_updL (gJ σ 13) m v)) 67 (nI (m + 1))
theorem e_put {σ : Sta} {m : Nat} (h : gI σ 67 = nI m) (hm : m < 1501) (c p : Int32) (v : Int64) : f_X7_put c p v σ = some ((), putC σ m c p v) := by
  unfold f_X7_put f_X7_put_52 putC
  rw [h, if_neg (by rw [nI_Lle (by omega) (by decide)]; omega), if_neg (nI_in hm (by decide)), lt_e, gI_sA, h, if_neg (nI_in hm (by decide)), lt_e, gI_sA, gI_sA, h, if_neg (nI_in hm (by decide)), lt_e, lt_e, gI_sJ, gI_sA, gI_sA, h, nI_clamp (by omega), nI_1]
  rfl
def kt67 : Nat → Prop := fun q => q = 67
def kt11 : Nat → Prop := fun q => q = 11 ∨ q = 12
def kt13 : Nat → Prop := fun q => q = 13
def KtC (σ σ' : Sta) : Prop := Kp kt67 n0 kt11 kt13 σ σ'
theorem KtC_put (σ : Sta) (m : Nat) (c p : Int32) (v : Int64) : KtC σ (putC σ m c p v) := Kp.sI rfl (Kp.sJ rfl (Kp.sA (Or.inr rfl) (Kp.sA (Or.inl rfl) Kp.rfl')))
