/-! What strategies are, as numbers. -/
theorem aAcc_congr {f g : Nat → Int64} : ∀ (m k : Nat) (a : Int64), (∀ j, k ≤ j → j < k + m → f j = g j) → aAcc f m k a = aAcc g m k a
  | 0, _, _, _ => rfl
  | m + 1, k, a, h => by
    unfold aAcc
    rw [h k (Nat.le_refl _) (by omega), aAcc_congr m (k + 1) _ (fun j h1 h2 => h j (by omega) (by omega))]
theorem aLater_congr {w : AW} (hw : AWok w) {f g : Nat → Int64} {s c : Nat} (hs : s < aNs w) (hc : c < aCh w s) (h : ∀ t, t < aNs w → f t = g t) : aLater w f s c = aLater w g s c := by
  unfold aLater
  rw [aAcc_congr _ _ _ (fun j h1 h2 => by rw [h _ ((hw.2.2.2.2 s c hs hc).2.2.1 j (by omega)).1])]
def aBest (f : Nat → Int64) : Nat → Nat → Int32 → Int64 → Int32 × Int64
  | 0, _, b, a => (b, a)
  | m + 1, k, b, a => if b < 0 ∨ a < f k then aBest f m (k + 1) (nI k) (f k) else aBest f m (k + 1) b a
theorem aBest_congr {f g : Nat → Int64} : ∀ (m k : Nat) (b : Int32) (a : Int64), (∀ j, k ≤ j → j < k + m → f j = g j) → aBest f m k b a = aBest g m k b a
  | 0, _, _, _, _ => rfl
  | m + 1, k, b, a, h => by
    unfold aBest
    rw [h k (Nat.le_refl _) (by omega), aBest_congr m (k + 1) _ _ (fun j h1 h2 => h j (by omega) (by omega)), aBest_congr m (k + 1) _ _ (fun j h1 h2 => h j (by omega) (by omega))]
theorem aBest_in {f : Nat → Int64} : ∀ (m k : Nat) (b : Int32) (a : Int64), k + m < 2 ^ 31 → (∃ c, c < k + m ∧ b = nI c) → ∃ c, c < k + m ∧ (aBest f m k b a).1 = nI c
  | 0, k, b, a, _, h => h
  | m + 1, k, b, a, hk, h => by
    unfold aBest
    split
    · obtain ⟨c, h1, h2⟩ := aBest_in (f := f) m (k + 1) (nI k) (f k) (by omega) ⟨k, by omega, rfl⟩
      exact ⟨c, by omega, h2⟩
    · obtain ⟨c, h1, h2⟩ := aBest_in (f := f) m (k + 1) b a (by omega) (by obtain ⟨c, h3, h4⟩ := h; exact ⟨c, by omega, h4⟩)
      exact ⟨c, by omega, h2⟩
theorem aBest_v {f : Nat → Int64} {m : Nat} (hm : m < 2 ^ 31) : (m = 0 ∧ (aBest f m 0 (-1) 0).1 = -1) ∨ ∃ c, c < m ∧ (aBest f m 0 (-1) 0).1 = nI c := by
  cases m with
  | zero => exact Or.inl ⟨rfl, rfl⟩
  | succ m =>
    refine Or.inr ?_
    unfold aBest
    rw [if_pos (Or.inl (by decide))]
    obtain ⟨c, h1, h2⟩ := aBest_in (f := f) m 1 (nI 0) (f 0) (by omega) ⟨0, by omega, rfl⟩
    exact ⟨c, by omega, h2⟩
def aWt (w : AW) (wt : Nat → Int32) (s c : Nat) : Int64 := aAcc (fun g => (wt g).toInt64 * aGn w s c g) (aNg w) 0 0
def aWorth (w : AW) (wt : Nat → Int32) : Nat → Nat → Int64
  | 0 => fun _ => 0
  | n + 1 => fun s => (aBest (fun c => 10000 * aWt w wt s c + aLater w (aWorth w wt n) s c) (aCh w s) 0 (-1) 0).2
/-- what is taken with n + 1 steps left -/
def aTake (w : AW) (wt : Nat → Int32) (n s : Nat) : Int32 := (aBest (fun c => 10000 * aWt w wt s c + aLater w (aWorth w wt n) s c) (aCh w s) 0 (-1) 0).1
/-- choices that are ones -/
def TV (w : AW) (T : Nat → Int32) : Prop := ∀ t, t < aNs w → (aCh w t = 0 ∧ T t = -1) ∨ ∃ c, c < aCh w t ∧ T t = nI c
theorem aTake_v {w : AW} (hw : AWok w) (wt : Nat → Int32) (n : Nat) : TV w (aTake w wt n) := fun t ht => by
  have h1 := (hw.2.2.2.1 t ht).1
  exact aBest_v (m := aCh w t) (by omega)
def aStepG (w : AW) (T : Nat → Int32) (B : Nat → Int64) (g t : Nat) : Int64 := if T t < 0 then 0 else 10000 * aGn w t ((T t).toNatClampNeg) g + aLater w B t ((T t).toNatClampNeg)
def aStepP (w : AW) (T : Nat → Int32) (B : Nat → Int64) (t : Nat) : Int64 := if T t < 0 then B t else aLater w B t ((T t).toNatClampNeg)
def aFolG (w : AW) (T : Nat → Nat → Int32) (g : Nat) : Nat → Nat → Int64
  | 0 => fun _ => 0
  | n + 1 => aStepG w (T n) (aFolG w T g n) g
def aFolP (w : AW) (T : Nat → Nat → Int32) : Nat → Nat → Int64
  | 0 => fun t => if aGl w t = true then 1000000 else 0
  | n + 1 => aStepP w (T n) (aFolP w T n)
theorem aFolP_0 {w : AW} {T : Nat → Nat → Int32} (t : Nat) : ∀ n, (∀ k, k < n → T k t = -1) → aFolP w T n t = aFolP w T 0 t
  | 0, _ => rfl
  | n + 1, h => by
    show aStepP w (T n) (aFolP w T n) t = _
    unfold aStepP
    rw [if_pos (by rw [h n (by omega)]; decide), aFolP_0 t n (fun k hk => h k (by omega))]
theorem m1neg : (-1 : Int32) < 0 := by decide
/-! which cells may have changed -/
def Kp (I L A J : Nat → Prop) (σ σ' : Sta) : Prop := (∀ k, ¬ I k → gI σ' k = gI σ k) ∧ (∀ k, ¬ L k → gL σ' k = gL σ k) ∧ (∀ q, ¬ A q → gA σ' q = gA σ q) ∧ (∀ q, ¬ J q → gJ σ' q = gJ σ q) ∧ (∀ i, gP σ' i = gP σ i)
def n0 : Nat → Prop := fun _ => False
theorem Kp.rfl' {I L A J : Nat → Prop} {σ : Sta} : Kp I L A J σ σ := ⟨fun _ _ => rfl, fun _ _ => rfl, fun _ _ => rfl, fun _ _ => rfl, fun _ => rfl⟩
theorem Kp.trans {I L A J : Nat → Prop} {σ σ1 σ2 : Sta} (h : Kp I L A J σ σ1) (h2 : Kp I L A J σ1 σ2) : Kp I L A J σ σ2 :=
  ⟨fun k hk => (h2.1 k hk).trans (h.1 k hk), fun k hk => (h2.2.1 k hk).trans (h.2.1 k hk), fun k hk => (h2.2.2.1 k hk).trans (h.2.2.1 k hk), fun k hk => (h2.2.2.2.1 k hk).trans (h.2.2.2.1 k hk), fun k => (h2.2.2.2.2 k).trans (h.2.2.2.2 k)⟩
theorem Kp.mono {I L A J I' L' A' J' : Nat → Prop} {σ σ1 : Sta} (h : Kp I L A J σ σ1) (hI : ∀ k, I k → I' k) (hL : ∀ k, L k → L' k) (hA : ∀ k, A k → A' k) (hJ : ∀ k, J k → J' k) : Kp I' L' A' J' σ σ1 :=
  ⟨fun k hk => h.1 k (fun e => hk (hI k e)), fun k hk => h.2.1 k (fun e => hk (hL k e)), fun k hk => h.2.2.1 k (fun e => hk (hA k e)), fun k hk => h.2.2.2.1 k (fun e => hk (hJ k e)), h.2.2.2.2⟩
theorem Kp.sI {I L A J : Nat → Prop} {σ σ1 : Sta} {k : Nat} {v : Int32} (hk : I k) (h : Kp I L A J σ σ1) : Kp I L A J σ (sI σ1 k v) :=
  ⟨fun j hj => by rw [gI_sI, if_neg (fun (e : j = k) => hj (by rw [e]; exact hk))]; exact h.1 j hj, h.2.1, h.2.2.1, h.2.2.2.1, h.2.2.2.2⟩
theorem Kp.sL {I L A J : Nat → Prop} {σ σ1 : Sta} {k : Nat} {v : Int64} (hk : L k) (h : Kp I L A J σ σ1) : Kp I L A J σ (sL σ1 k v) :=
  ⟨h.1, fun j hj => by rw [gL_sL, if_neg (fun (e : j = k) => hj (by rw [e]; exact hk))]; exact h.2.1 j hj, h.2.2.1, h.2.2.2.1, h.2.2.2.2⟩
theorem Kp.sA {I L A J : Nat → Prop} {σ σ1 : Sta} {k : Nat} {v : Nat → Int32} (hk : A k) (h : Kp I L A J σ σ1) : Kp I L A J σ (sA σ1 k v) :=
  ⟨h.1, h.2.1, fun j hj => by rw [gA_sA, if_neg (fun (e : j = k) => hj (by rw [e]; exact hk))]; exact h.2.2.1 j hj, h.2.2.2.1, h.2.2.2.2⟩
theorem Kp.sJ {I L A J : Nat → Prop} {σ σ1 : Sta} {k : Nat} {v : Nat → Int64} (hk : J k) (h : Kp I L A J σ σ1) : Kp I L A J σ (sJ σ1 k v) :=
  ⟨h.1, h.2.1, h.2.2.1, fun j hj => by rw [gJ_sJ, if_neg (fun (e : j = k) => hj (by rw [e]; exact hk))]; exact h.2.2.2.1 j hj, h.2.2.2.2⟩
theorem AC_kp {w : AW} {I L A J : Nat → Prop} {σ σ1 : Sta} (h : Kp I L A J σ σ1) (hI : ¬ I 322 ∧ ¬ I 197 ∧ ¬ I 192) (hA : ¬ A 33 ∧ ¬ A 34 ∧ ¬ A 29 ∧ ¬ A 30 ∧ ¬ A 35 ∧ ¬ A 24 ∧ ¬ A 32) (hJ : ¬ J 36) (h0 : AC w σ) : AC w σ1 := by
  unfold AC at *
  rw [h.1 _ hI.1, h.1 _ hI.2.1, h.1 _ hI.2.2, h.2.2.1 _ hA.1, h.2.2.1 _ hA.2.1, h.2.2.1 _ hA.2.2.1, h.2.2.1 _ hA.2.2.2.1, h.2.2.1 _ hA.2.2.2.2.1, h.2.2.1 _ hA.2.2.2.2.2.1, h.2.2.1 _ hA.2.2.2.2.2.2, h.2.2.2.1 _ hJ]
  exact h0
theorem AM_kp {w : AW} {I L A J : Nat → Prop} {σ σ1 : Sta} (h : Kp I L A J σ σ1) (hI : ¬ I 37 ∧ ¬ I 15 ∧ ¬ I 10) (hA : ¬ A 23 ∧ ¬ A 22 ∧ ¬ A 24 ∧ ¬ A 16 ∧ ¬ A 17 ∧ ¬ A 26 ∧ ¬ A 21) (hJ : ¬ J 25) (h0 : AM w σ) : AM w σ1 := by
  unfold AM at *
  rw [h.1 _ hI.1, h.1 _ hI.2.1, h.1 _ hI.2.2, h.2.2.1 _ hA.1, h.2.2.1 _ hA.2.1, h.2.2.1 _ hA.2.2.1, h.2.2.1 _ hA.2.2.2.1, h.2.2.1 _ hA.2.2.2.2.1, h.2.2.1 _ hA.2.2.2.2.2.1, h.2.2.1 _ hA.2.2.2.2.2.2, h.2.2.2.1 _ hJ]
  exact h0
