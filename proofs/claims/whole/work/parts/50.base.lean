/-! The pure level: numbers and states, as rows for simp. -/
theorem nI_ofN (n : Nat) : Int32.ofNat n = nI n := rfl
theorem nI_addL (a n : Nat) : nI a + (OfNat.ofNat n : Int32) = nI (a + OfNat.ofNat n) := nI_add a n
theorem nI_Ladd (a n : Nat) : (OfNat.ofNat n : Int32) + nI a = nI (OfNat.ofNat n + a) := nI_add n a
theorem nI_mulL (a n : Nat) : nI a * (OfNat.ofNat n : Int32) = nI (a * OfNat.ofNat n) := pk_mul a n
theorem nI_Lmul (a n : Nat) : (OfNat.ofNat n : Int32) * nI a = nI (OfNat.ofNat n * a) := pk_mul n a
theorem nI_subL {a n : Nat} (h : OfNat.ofNat n ≤ a) : nI a - (OfNat.ofNat n : Int32) = nI (a - OfNat.ofNat n) := pk_sub h
theorem nI_Lsub {a n : Nat} (h : a ≤ OfNat.ofNat n) : (OfNat.ofNat n : Int32) - nI a = nI (OfNat.ofNat n - a) := pk_sub h
theorem pk_m1' {a : Nat} (h : 0 < a) : nI a + (-1) = nI (a - 1) := by
  obtain ⟨b, rfl⟩ : ∃ b, a = b + 1 := ⟨a - 1, by omega⟩
  exact pk_m1 b
theorem nI_leL {a n : Nat} (ha : a < 2 ^ 31) (hn : OfNat.ofNat n < 2 ^ 31) : nI a ≤ (OfNat.ofNat n : Int32) ↔ a ≤ OfNat.ofNat n := nI_leI ha hn
theorem nI_Lle {a n : Nat} (ha : a < 2 ^ 31) (hn : OfNat.ofNat n < 2 ^ 31) : (OfNat.ofNat n : Int32) ≤ nI a ↔ OfNat.ofNat n ≤ a := nI_leI hn ha
theorem nI_ltL {a n : Nat} (ha : a < 2 ^ 31) (hn : OfNat.ofNat n < 2 ^ 31) : nI a < (OfNat.ofNat n : Int32) ↔ a < OfNat.ofNat n := nI_ltI ha hn
theorem nI_Llt {a n : Nat} (ha : a < 2 ^ 31) (hn : OfNat.ofNat n < 2 ^ 31) : (OfNat.ofNat n : Int32) < nI a ↔ OfNat.ofNat n < a := nI_ltI hn ha
theorem nI_eqL {a n : Nat} (ha : a < 2 ^ 31) (hn : OfNat.ofNat n < 2 ^ 31) : nI a = (OfNat.ofNat n : Int32) ↔ a = OfNat.ofNat n := nI_eq ha hn
theorem nI_nneg {a : Nat} (ha : a < 2 ^ 31) : nI a < 0 ↔ False := iff_false_intro (nI_pos ha)
theorem nI_nm1 {a : Nat} (ha : a < 2 ^ 31) : nI a = -1 ↔ False := iff_false_intro (fun e => by
  have h1 := nI_toInt ha
  rw [e] at h1
  have h2 : ((-1 : Int32)).toInt = -1 := by decide
  omega)
theorem nI_clampL {n : Nat} (hn : OfNat.ofNat n < 2 ^ 31) : (OfNat.ofNat n : Int32).toNatClampNeg = OfNat.ofNat n := nI_clamp hn
theorem gdI {α : Type} {k n : Nat} {X : Option α} (h : k < n) (hn : n ≤ 2 ^ 31) : (if nI k < 0 ∨ n ≤ (nI k).toNatClampNeg then none else X) = X := by
  rw [if_neg]
  rw [nI_clamp (by omega)]
  intro h2
  rcases h2 with h2 | h2
  · exact nI_pos (by omega) h2
  · omega
theorem gdN {α : Type} {k n : Nat} {X : Option α} (h : k < n) : (if False ∨ n ≤ k then none else X) = X := by
  rw [if_neg]
  intro h2
  rcases h2 with h2 | h2
  · exact h2
  · omega
theorem gI_sL (σ : Sta) (k : Nat) (v : Int64) (j : Nat) : gI (sL σ k v) j = gI σ j := rfl
theorem gI_sA (σ : Sta) (k : Nat) (v : Nat → Int32) (j : Nat) : gI (sA σ k v) j = gI σ j := rfl
theorem gI_sJ (σ : Sta) (k : Nat) (v : Nat → Int64) (j : Nat) : gI (sJ σ k v) j = gI σ j := rfl
theorem gI_sP (σ : Sta) (k v : Nat) (j : Nat) : gI (sP σ k v) j = gI σ j := rfl
theorem gL_sI (σ : Sta) (k : Nat) (v : Int32) (j : Nat) : gL (sI σ k v) j = gL σ j := rfl
theorem gL_sA (σ : Sta) (k : Nat) (v : Nat → Int32) (j : Nat) : gL (sA σ k v) j = gL σ j := rfl
theorem gL_sJ (σ : Sta) (k : Nat) (v : Nat → Int64) (j : Nat) : gL (sJ σ k v) j = gL σ j := rfl
theorem gL_sP (σ : Sta) (k v : Nat) (j : Nat) : gL (sP σ k v) j = gL σ j := rfl
theorem gA_sI (σ : Sta) (k : Nat) (v : Int32) (j : Nat) : gA (sI σ k v) j = gA σ j := rfl
theorem gA_sL (σ : Sta) (k : Nat) (v : Int64) (j : Nat) : gA (sL σ k v) j = gA σ j := rfl
theorem gA_sJ (σ : Sta) (k : Nat) (v : Nat → Int64) (j : Nat) : gA (sJ σ k v) j = gA σ j := rfl
theorem gA_sP (σ : Sta) (k v : Nat) (j : Nat) : gA (sP σ k v) j = gA σ j := rfl
theorem gJ_sI (σ : Sta) (k : Nat) (v : Int32) (j : Nat) : gJ (sI σ k v) j = gJ σ j := rfl
theorem gJ_sL (σ : Sta) (k : Nat) (v : Int64) (j : Nat) : gJ (sL σ k v) j = gJ σ j := rfl
theorem gJ_sA (σ : Sta) (k : Nat) (v : Nat → Int32) (j : Nat) : gJ (sA σ k v) j = gJ σ j := rfl
theorem gJ_sP (σ : Sta) (k v : Nat) (j : Nat) : gJ (sP σ k v) j = gJ σ j := rfl
theorem gP_sI (σ : Sta) (k : Nat) (v : Int32) (j : Nat) : gP (sI σ k v) j = gP σ j := rfl
theorem gP_sL (σ : Sta) (k : Nat) (v : Int64) (j : Nat) : gP (sL σ k v) j = gP σ j := rfl
theorem gP_sA (σ : Sta) (k : Nat) (v : Nat → Int32) (j : Nat) : gP (sA σ k v) j = gP σ j := rfl
theorem gP_sJ (σ : Sta) (k : Nat) (v : Nat → Int64) (j : Nat) : gP (sJ σ k v) j = gP σ j := rfl
theorem va_up2 {α : Type} (f : Nat → α) (k : Nat) (v w : α) : va_up (va_up f k v) k w = va_up f k w := by
  funext j
  unfold va_up
  by_cases h : j = k
  · rw [if_pos h, if_pos h]
  · rw [if_neg h, if_neg h, if_neg h]
theorem va_upg {α : Type} (f : Nat → α) (k : Nat) : va_up f k (f k) = f := by
  funext j
  unfold va_up
  by_cases h : j = k
  · rw [if_pos h, h]
  · rw [if_neg h]
theorem sI_sI (σ : Sta) (k : Nat) (v w : Int32) : sI (sI σ k v) k w = sI σ k w := by
  show (va_up (va_up σ.1 k v) k w, σ.2) = (va_up σ.1 k w, σ.2)
  rw [va_up2]
theorem sL_sL (σ : Sta) (k : Nat) (v w : Int64) : sL (sL σ k v) k w = sL σ k w := by
  show (σ.1, va_up (va_up σ.2.1 k v) k w, σ.2.2) = (σ.1, va_up σ.2.1 k w, σ.2.2)
  rw [va_up2]
theorem sA_sA (σ : Sta) (k : Nat) (v w : Nat → Int32) : sA (sA σ k v) k w = sA σ k w := by
  show (σ.1, σ.2.1, va_up (va_up σ.2.2.1 k v) k w, σ.2.2.2) = (σ.1, σ.2.1, va_up σ.2.2.1 k w, σ.2.2.2)
  rw [va_up2]
theorem sJ_sJ (σ : Sta) (k : Nat) (v w : Nat → Int64) : sJ (sJ σ k v) k w = sJ σ k w := by
  show (σ.1, σ.2.1, σ.2.2.1, va_up (va_up σ.2.2.2.1 k v) k w, σ.2.2.2.2) = (σ.1, σ.2.1, σ.2.2.1, va_up σ.2.2.2.1 k w, σ.2.2.2.2)
  rw [va_up2]
theorem sA_gA (σ : Sta) (k : Nat) : sA σ k (gA σ k) = σ := by
  show (σ.1, σ.2.1, va_up σ.2.2.1 k (σ.2.2.1 k), σ.2.2.2) = σ
  rw [va_upg]
theorem sJ_gJ (σ : Sta) (k : Nat) : sJ σ k (gJ σ k) = σ := by
  show (σ.1, σ.2.1, σ.2.2.1, va_up σ.2.2.2.1 k (σ.2.2.2.1 k), σ.2.2.2.2) = σ
  rw [va_upg]
/-- the orders of writes: sI outermost, then sL, sA, sJ, sP -/
theorem sA_sI (σ : Sta) (k j : Nat) (v : Int32) (f : Nat → Int32) : sA (sI σ j v) k f = sI (sA σ k f) j v := rfl
theorem sJ_sI (σ : Sta) (k j : Nat) (v : Int32) (f : Nat → Int64) : sJ (sI σ j v) k f = sI (sJ σ k f) j v := rfl
theorem sJ_sA (σ : Sta) (k j : Nat) (v : Nat → Int32) (f : Nat → Int64) : sJ (sA σ j v) k f = sA (sJ σ k f) j v := rfl
theorem sL_sI (σ : Sta) (k j : Nat) (v : Int32) (f : Int64) : sL (sI σ j v) k f = sI (sL σ k f) j v := rfl
theorem sA_sL (σ : Sta) (k j : Nat) (v : Int64) (f : Nat → Int32) : sA (sL σ j v) k f = sL (sA σ k f) j v := rfl
theorem sJ_sL (σ : Sta) (k j : Nat) (v : Int64) (f : Nat → Int64) : sJ (sL σ j v) k f = sL (sJ σ k f) j v := rfl
theorem upd_at (f : Nat → Int32) (k : Nat) (x : Int32) (j : Nat) : upd f k x j = if j = k then x else f j := rfl
theorem updL_at (f : Nat → Int64) (k : Nat) (x : Int64) (j : Nat) : vp_updL f k x j = if j = k then x else f j := rfl
theorem cpy_at {α : Type} (f g : Nat → α) (sp dp n j : Nat) : va_cpy f g sp dp n j = if dp ≤ j ∧ j < dp + n then f (sp + (j - dp)) else g j := rfl
theorem bnd_s {α β : Type} (r : α) (σ : Sta) (k : α → Sta → Option β) : bnd (some (r, σ)) k = k r σ := rfl
theorem lt_e {α β : Type} (a : α) (k : α → β) : lt a k = k a := rfl
/-- a range of cells is filled -/
def fillA (σ : Sta) (q k n : Nat) (v : Nat → Int32) : Sta := sA σ q (fun j => if k ≤ j ∧ j < n then v j else gA σ q j)
def fillJ (σ : Sta) (q k n : Nat) (v : Nat → Int64) : Sta := sJ σ q (fun j => if k ≤ j ∧ j < n then v j else gJ σ q j)
theorem fillA_0 (σ : Sta) (q n : Nat) (v : Nat → Int32) : fillA σ q n n v = σ := by
  unfold fillA
  have h : (fun j => if n ≤ j ∧ j < n then v j else gA σ q j) = gA σ q := by
    funext j
    rw [if_neg (by omega)]
  rw [h, sA_gA]
theorem fillJ_0 (σ : Sta) (q n : Nat) (v : Nat → Int64) : fillJ σ q n n v = σ := by
  unfold fillJ
  have h : (fun j => if n ≤ j ∧ j < n then v j else gJ σ q j) = gJ σ q := by
    funext j
    rw [if_neg (by omega)]
  rw [h, sJ_gJ]
theorem fillA_s {σ : Sta} {q k n : Nat} {v : Nat → Int32} (h : k < n) : fillA (sA σ q (upd (gA σ q) k (v k))) q (k + 1) n v = fillA σ q k n v := by
  unfold fillA
  rw [sA_sA]
  congr 1
  funext j
  rw [gA_sA, if_pos rfl, upd_at]
  by_cases h1 : j = k
  · subst h1
    rw [if_neg (by omega), if_pos rfl, if_pos (by omega)]
  · rw [if_neg h1]
    by_cases h2 : k ≤ j ∧ j < n
    · rw [if_pos h2, if_pos (by omega)]
    · rw [if_neg h2, if_neg (by omega)]
theorem fillJ_s {σ : Sta} {q k n : Nat} {v : Nat → Int64} (h : k < n) : fillJ (sJ σ q (vp_updL (gJ σ q) k (v k))) q (k + 1) n v = fillJ σ q k n v := by
  unfold fillJ
  rw [sJ_sJ]
  congr 1
  funext j
  rw [gJ_sJ, if_pos rfl, updL_at]
  by_cases h1 : j = k
  · subst h1
    rw [if_neg (by omega), if_pos rfl, if_pos (by omega)]
  · rw [if_neg h1]
    by_cases h2 : k ≤ j ∧ j < n
    · rw [if_pos h2, if_pos (by omega)]
    · rw [if_neg h2, if_neg (by omega)]
theorem FU_lt {n : Nat} (h : n < 1000000) : n < FU := by
  unfold FU
  omega
/-- how two outcomes hang together -/
def Go {α : Type} (x : Option α) (Q : α → Prop) : Prop := ∃ o, x = some o ∧ Q o
theorem Go.of {α : Type} {o : α} {Q : α → Prop} (h : Q o) : Go (some o) Q := ⟨o, rfl, h⟩
theorem Go.imp {α : Type} {x : Option α} {Q Q' : α → Prop} (h : Go x Q) (k : ∀ o, Q o → Q' o) : Go x Q' := by
  obtain ⟨o, h1, h2⟩ := h
  exact ⟨o, h1, k o h2⟩
theorem Go.bnd {α β : Type} {a : Option (α × Sta)} {k : α → Sta → Option β} {P : α × Sta → Prop} {Q : β → Prop} (h : Go a P) (hk : ∀ r s, P (r, s) → Go (k r s) Q) : Go (bnd a k) Q := by
  obtain ⟨⟨r, s⟩, rfl, h2⟩ := h
  exact hk r s h2
