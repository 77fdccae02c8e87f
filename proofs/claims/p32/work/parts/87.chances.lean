/-! Chances as numbers: the least, the greatest, that of a strategy. -/
theorem lN_div100 {a : Nat} (h : a < 2 ^ 31) : lN a / 100 = lN (a / 100) := by
  apply Int64.toInt_inj.mp
  rw [Int64.toInt_div, lN_toInt h, lN_toInt (by omega), show ((100 : Int64)).toInt = 100 from rfl, Int.tdiv_eq_ediv_of_nonneg (by omega)]
  rw [Int.bmod_eq_of_le (by omega) (by omega)]
  omega
theorem aAccN_mono {f g : Nat → Nat} : ∀ (m k a b : Nat), a ≤ b → (∀ j, k ≤ j → j < k + m → f j ≤ g j) → aAccN f m k a ≤ aAccN g m k b
  | 0, _, _, _, h, _ => h
  | m + 1, k, a, b, h, hj => aAccN_mono m (k + 1) (a + f k) (b + g k) (Nat.add_le_add h (hj k (Nat.le_refl _) (by omega))) (fun j h1 h2 => hj j (by omega) (by omega))
theorem aAccN_mul (M : Nat) (f : Nat → Nat) : ∀ (m k a : Nat), aAccN (fun b => f b * M) m k (a * M) = aAccN f m k a * M
  | 0, _, _ => rfl
  | m + 1, k, a => by
    show aAccN (fun b => f b * M) m (k + 1) (a * M + f k * M) = aAccN f m (k + 1) (a + f k) * M
    rw [← Nat.add_mul]
    exact aAccN_mul M f m (k + 1) (a + f k)
theorem aAcc_N {f : Nat → Int64} {g : Nat → Nat} : ∀ (m k a : Nat), (∀ j, k ≤ j → j < k + m → f j = lN (g j)) → aAcc f m k (lN a) = lN (aAccN g m k a)
  | 0, _, _, _ => rfl
  | m + 1, k, a, h => by
    show aAcc f m (k + 1) (lN a + f k) = lN (aAccN g m (k + 1) (a + g k))
    rw [h k (Nat.le_refl _) (by omega), lN_add]
    exact aAcc_N m (k + 1) (a + g k) (fun j h1 h2 => h j (by omega) (by omega))
def mN (w : AW) (r : Nat → Nat) (s c : Nat) : Nat := aAccN (fun b => aPc w (aCm w s c) b * r (aTg w s c b)) (aNb w (aCm w s c)) 0 0 / 100
section MN
variable {w : AW} {s c : Nat} {r r' : Nat → Nat}
theorem mN_mono (hw : AWok w) (hs : s < aNs w) (hc : c < aCh w s) (h : ∀ t, t < aNs w → r t ≤ r' t) : mN w r s c ≤ mN w r' s c :=
  Nat.div_le_div_right (aAccN_mono _ _ _ _ (Nat.le_refl _) (fun j _ hj => Nat.mul_le_mul_left _ (h _ ((hw.2.2.2.2 s c hs hc).2.2.1 j (by omega)).1)))
theorem mN_sum (hw : AWok w) (hs : s < aNs w) (hc : c < aCh w s) (h : ∀ t, t < aNs w → r t ≤ 1000000) : aAccN (fun b => aPc w (aCm w s c) b * r (aTg w s c b)) (aNb w (aCm w s c)) 0 0 ≤ 100000000 := by
  have h1 := aAccN_mono (f := fun b => aPc w (aCm w s c) b * r (aTg w s c b)) (g := fun b => aPc w (aCm w s c) b * 1000000) (aNb w (aCm w s c)) 0 0 (0 * 1000000) (Nat.zero_le _) (fun j _ hj => Nat.mul_le_mul_left _ (h _ ((hw.2.2.2.2 s c hs hc).2.2.1 j (by omega)).1))
  rw [aAccN_mul, (hw.2.2.2.2 s c hs hc).2.2.2] at h1
  exact h1
theorem mN_le (hw : AWok w) (hs : s < aNs w) (hc : c < aCh w s) (h : ∀ t, t < aNs w → r t ≤ 1000000) : mN w r s c ≤ 1000000 := by
  have := mN_sum hw hs hc h
  unfold mN
  omega
theorem aLater_N (hw : AWok w) {row : Nat → Int64} (hs : s < aNs w) (hc : c < aCh w s) (h : ∀ t, t < aNs w → row t = lN (r t) ∧ r t ≤ 1000000) : aLater w row s c = lN (mN w r s c) := by
  have hsum := mN_sum hw hs hc (fun t ht => (h t ht).2)
  unfold aLater mN
  rw [show (0 : Int64) = lN 0 from rfl, aAcc_N (g := fun b => aPc w (aCm w s c) b * r (aTg w s c b)) _ _ _ (fun j _ hj => by
    have h1 := (hw.2.2.2.2 s c hs hc).2.2.1 j (by omega)
    rw [(h _ h1.1).1, nI_l (by omega), lN_mul]), lN_div100 (by omega)]
end MN
def exN (least : Bool) (g : Nat → Nat) : Nat → Nat → Nat → Nat
  | 0, _, e => e
  | m + 1, k, e => exN least g m (k + 1) (if k = 0 ∨ (least = true ∧ g k < e) ∨ (least = false ∧ e < g k) then g k else e)
theorem aExt_N {least : Bool} {f : Nat → Int64} {g : Nat → Nat} : ∀ (m k e : Nat), (∀ j, k ≤ j → j < k + m → f j = lN (g j) ∧ g j ≤ 1000000) → e ≤ 1000000 → aExt least f m k (lN e) = lN (exN least g m k e)
  | 0, _, _, _, _ => rfl
  | m + 1, k, e, h, he => by
    obtain ⟨h1, h2⟩ := h k (Nat.le_refl _) (by omega)
    have hr := fun j a b => h j (Nat.le_of_succ_le a) (show j < k + (m + 1) by have : j < k + 1 + m := b; omega)
    show aExt least f m (k + 1) (if k = 0 ∨ (least = true ∧ f k < lN e) ∨ (least = false ∧ lN e < f k) then f k else lN e) = lN (exN least g m (k + 1) (if k = 0 ∨ (least = true ∧ g k < e) ∨ (least = false ∧ e < g k) then g k else e))
    rw [h1]
    have i1 : (lN (g k) < lN e) ↔ g k < e := lN_lt (by omega) (by omega)
    have i2 : (lN e < lN (g k)) ↔ e < g k := lN_lt (by omega) (by omega)
    by_cases q : k = 0 ∨ (least = true ∧ g k < e) ∨ (least = false ∧ e < g k)
    · rw [if_pos q, if_pos (q.imp id (Or.imp (fun x => ⟨x.1, i1.mpr x.2⟩) (fun x => ⟨x.1, i2.mpr x.2⟩)))]
      exact aExt_N m (k + 1) (g k) hr h2
    · rw [if_neg q, if_neg (fun x => q (x.imp id (Or.imp (fun x => ⟨x.1, i1.mp x.2⟩) (fun x => ⟨x.1, i2.mp x.2⟩))))]
      exact aExt_N m (k + 1) e hr he
theorem exN_s {least : Bool} {g : Nat → Nat} : ∀ (m k e : Nat), 0 < k → (exN least g m k e = e ∨ ∃ c, k ≤ c ∧ c < k + m ∧ exN least g m k e = g c) ∧ (least = false → e ≤ exN least g m k e ∧ ∀ c, k ≤ c → c < k + m → g c ≤ exN least g m k e) ∧ (least = true → exN least g m k e ≤ e ∧ ∀ c, k ≤ c → c < k + m → exN least g m k e ≤ g c)
  | 0, k, e, _ => ⟨Or.inl rfl, fun _ => ⟨Nat.le_refl _, fun c h1 h2 => by omega⟩, fun _ => ⟨Nat.le_refl _, fun c h1 h2 => by omega⟩⟩
  | m + 1, k, e, hk => by
    show (exN least g m (k + 1) (if k = 0 ∨ (least = true ∧ g k < e) ∨ (least = false ∧ e < g k) then g k else e) = e ∨ ∃ c, k ≤ c ∧ c < k + (m + 1) ∧ exN least g m (k + 1) (if k = 0 ∨ (least = true ∧ g k < e) ∨ (least = false ∧ e < g k) then g k else e) = g c) ∧ (least = false → e ≤ exN least g m (k + 1) (if k = 0 ∨ (least = true ∧ g k < e) ∨ (least = false ∧ e < g k) then g k else e) ∧ ∀ c, k ≤ c → c < k + (m + 1) → g c ≤ exN least g m (k + 1) (if k = 0 ∨ (least = true ∧ g k < e) ∨ (least = false ∧ e < g k) then g k else e)) ∧ (least = true → exN least g m (k + 1) (if k = 0 ∨ (least = true ∧ g k < e) ∨ (least = false ∧ e < g k) then g k else e) ≤ e ∧ ∀ c, k ≤ c → c < k + (m + 1) → exN least g m (k + 1) (if k = 0 ∨ (least = true ∧ g k < e) ∨ (least = false ∧ e < g k) then g k else e) ≤ g c)
    by_cases q : k = 0 ∨ (least = true ∧ g k < e) ∨ (least = false ∧ e < g k)
    · rw [if_pos q]
      obtain ⟨a, b, d⟩ := exN_s (least := least) (g := g) m (k + 1) (g k) (Nat.succ_pos _)
      refine ⟨Or.inr ?_, fun hl => ?_, fun hl => ?_⟩
      · rcases a with a | ⟨c, a1, a2, a3⟩
        · exact ⟨k, Nat.le_refl _, by omega, a⟩
        · exact ⟨c, by omega, by omega, a3⟩
      · have b' := b hl
        have : e < g k := by
          rcases q with q | ⟨q1, q2⟩ | ⟨q1, q2⟩
          · omega
          · rw [hl] at q1; exact nomatch q1
          · exact q2
        refine ⟨by omega, fun c h1 h2 => ?_⟩
        by_cases qc : c = k
        · rw [qc]; exact b'.1
        · exact b'.2 c (by omega) (by omega)
      · have d' := d hl
        have : g k < e := by
          rcases q with q | ⟨q1, q2⟩ | ⟨q1, q2⟩
          · omega
          · exact q2
          · rw [hl] at q1; exact nomatch q1
        refine ⟨by omega, fun c h1 h2 => ?_⟩
        by_cases qc : c = k
        · rw [qc]; exact d'.1
        · exact d'.2 c (by omega) (by omega)
    · rw [if_neg q]
      obtain ⟨a, b, d⟩ := exN_s (least := least) (g := g) m (k + 1) e (Nat.succ_pos _)
      refine ⟨a.imp id (fun ⟨c, a1, a2, a3⟩ => ⟨c, by omega, by omega, a3⟩), fun hl => ?_, fun hl => ?_⟩
      · have b' := b hl
        have : g k ≤ e := Nat.le_of_not_lt (fun x => q (Or.inr (Or.inr ⟨hl, x⟩)))
        refine ⟨b'.1, fun c h1 h2 => ?_⟩
        by_cases qc : c = k
        · rw [qc]; exact Nat.le_trans this b'.1
        · exact b'.2 c (by omega) (by omega)
      · have d' := d hl
        have : e ≤ g k := Nat.le_of_not_lt (fun x => q (Or.inr (Or.inl ⟨hl, x⟩)))
        refine ⟨d'.1, fun c h1 h2 => ?_⟩
        by_cases qc : c = k
        · rw [qc]; exact Nat.le_trans d'.1 this
        · exact d'.2 c (by omega) (by omega)
theorem exN_0 {least : Bool} {g : Nat → Nat} {m e : Nat} (hm : 0 < m) : (∃ c, c < m ∧ exN least g m 0 e = g c) ∧ (least = false → ∀ c, c < m → g c ≤ exN least g m 0 e) ∧ (least = true → ∀ c, c < m → exN least g m 0 e ≤ g c) := by
  obtain ⟨m, rfl⟩ : ∃ k, m = k + 1 := ⟨m - 1, by omega⟩
  obtain ⟨a, b, d⟩ := exN_s (least := least) (g := g) m 1 (g 0) (by decide)
  have e0 : exN least g (m + 1) 0 e = exN least g m 1 (g 0) := by
    show exN least g m 1 (if (0 = 0 ∨ (least = true ∧ g 0 < e) ∨ (least = false ∧ e < g 0)) then g 0 else e) = _
    rw [if_pos (Or.inl rfl)]
  rw [e0]
  refine ⟨?_, fun hl c hc => ?_, fun hl c hc => ?_⟩
  · rcases a with a | ⟨c, a1, a2, a3⟩
    · exact ⟨0, by omega, a⟩
    · exact ⟨c, by omega, a3⟩
  · by_cases qc : c = 0
    · rw [qc]; exact (b hl).1
    · exact (b hl).2 c (by omega) (by omega)
  · by_cases qc : c = 0
    · rw [qc]; exact (d hl).1
    · exact (d hl).2 c (by omega) (by omega)
def gN (w : AW) (t : Nat) : Nat := if aGl w t = true then 1000000 else 0
def RN (w : AW) (least : Bool) : Nat → Nat → Nat
  | 0 => gN w
  | n + 1 => fun s => exN least (mN w (RN w least n) s) (aCh w s) 0 (RN w least n s)
theorem gN_e (w : AW) (t : Nat) : aGl0 w t = lN (gN w t) ∧ gN w t ≤ 1000000 := by
  unfold aGl0 gN
  by_cases q : aGl w t = true
  · rw [if_pos q, if_pos q]; exact ⟨rfl, Nat.le_refl _⟩
  · rw [if_neg q, if_neg q]; exact ⟨rfl, by decide⟩
section RN
variable {w : AW}
theorem RN_e (hw : AWok w) (b : Bool) : ∀ (n s : Nat), s < aNs w → aR w b n s = lN (RN w b n s) ∧ RN w b n s ≤ 1000000
  | 0, s, _ => gN_e w s
  | n + 1, s, hs => by
    have ih := RN_e hw b n
    have hm : ∀ c, c < aCh w s → mN w (RN w b n) s c ≤ 1000000 := fun c hc => mN_le hw hs hc (fun t ht => (ih t ht).2)
    constructor
    · show aExt b (aLater w (aR w b n) s) (aCh w s) 0 (aR w b n s) = _
      rw [(ih s hs).1]
      exact aExt_N (aCh w s) 0 (RN w b n s) (fun j _ hj => ⟨aLater_N hw hs (by omega) ih, hm j (by omega)⟩) (ih s hs).2
    · show exN b (mN w (RN w b n) s) (aCh w s) 0 (RN w b n s) ≤ _
      by_cases q : 0 < aCh w s
      · obtain ⟨⟨c, c1, c2⟩, -⟩ := exN_0 (least := b) (g := mN w (RN w b n) s) (e := RN w b n s) q
        rw [c2]
        exact hm c c1
      · rw [show aCh w s = 0 by omega]
        exact (ih s hs).2
theorem RN_z {b : Bool} {n s : Nat} (h : aCh w s = 0) : RN w b (n + 1) s = RN w b n s := by
  show exN b (mN w (RN w b n) s) (aCh w s) 0 (RN w b n s) = _
  rw [h]
  rfl
theorem RN_c {n s c : Nat} (hc : c < aCh w s) : mN w (RN w false n) s c ≤ RN w false (n + 1) s ∧ RN w true (n + 1) s ≤ mN w (RN w true n) s c :=
  ⟨(exN_0 (least := false) (by omega)).2.1 rfl c hc, (exN_0 (least := true) (by omega)).2.2 rfl c hc⟩
theorem RN_up (hw : AWok w) : ∀ (n s : Nat), s < aNs w → RN w false n s ≤ RN w false (n + 1) s
  | 0, s, hs => by
    by_cases q : aCh w s = 0
    · rw [RN_z q]
      exact Nat.le_refl _
    · have hg : ¬ aGl w s = true := fun e => q ((hw.2.2.2.1 s hs).2 e)
      show gN w s ≤ _
      unfold gN
      rw [if_neg hg]
      exact Nat.zero_le _
  | n + 1, s, hs => by
    by_cases q : aCh w s = 0
    · rw [RN_z q, RN_z q]
      exact RN_up hw n s hs
    · obtain ⟨⟨c, c1, c2⟩, -⟩ := exN_0 (least := false) (g := mN w (RN w false n) s) (e := RN w false n s) (m := aCh w s) (by omega)
      have e : RN w false (n + 1) s = mN w (RN w false n) s c := c2
      rw [e]
      exact Nat.le_trans (mN_mono hw hs c1 (fun t ht => RN_up hw n t ht)) (RN_c c1).1
theorem RN_le (hw : AWok w) : ∀ (n s : Nat), s < aNs w → RN w true n s ≤ RN w false n s
  | 0, s, _ => Nat.le_refl _
  | n + 1, s, hs => by
    by_cases q : aCh w s = 0
    · rw [RN_z q, RN_z q]
      exact RN_le hw n s hs
    · have h0 : 0 < aCh w s := by omega
      exact Nat.le_trans (Nat.le_trans (RN_c h0).2 (mN_mono hw hs h0 (fun t ht => RN_le hw n t ht))) (RN_c h0).1
/-- a strategy's chance lies between -/
theorem FP_in (hw : AWok w) {T : Nat → Nat → Int32} : ∀ (n : Nat), (∀ i, i < n → TV w (T i)) → ∀ s, s < aNs w → ∃ a, aFolP w T n s = lN a ∧ a ≤ 1000000 ∧ RN w true n s ≤ a ∧ a ≤ RN w false n s
  | 0, _, s, _ => by
    obtain ⟨h1, h2⟩ := gN_e w s
    exact ⟨gN w s, h1, h2, Nat.le_refl _, Nat.le_refl _⟩
  | n + 1, hT, s, hs => by
    have ih := FP_in hw n (fun i hi => hT i (by omega))
    show ∃ a, aStepP w (T n) (aFolP w T n) s = lN a ∧ _
    unfold aStepP
    rcases hT n (by omega) s hs with ⟨q1, q2⟩ | ⟨c, q1, q2⟩
    · rw [q2, if_pos (by decide), RN_z q1, RN_z q1]
      exact ih s hs
    · have hc16 := (hw.2.2.2.1 s hs).1
      rw [q2, if_neg (nI_pos (by omega)), nI_clamp (by omega)]
      -- the numbers behind, as a function
      have pick : ∃ r : Nat → Nat, ∀ t, t < aNs w → aFolP w T n t = lN (r t) ∧ r t ≤ 1000000 ∧ RN w true n t ≤ r t ∧ r t ≤ RN w false n t := by
        refine ⟨fun t => (aFolP w T n t).toInt.toNat, fun t ht => ?_⟩
        obtain ⟨a, a1, a2, a3, a4⟩ := ih t ht
        have : (aFolP w T n t).toInt.toNat = a := by
          rw [a1, lN_toInt (by omega)]
          rfl
        show _ = lN ((aFolP w T n t).toInt.toNat) ∧ (aFolP w T n t).toInt.toNat ≤ _ ∧ _ ≤ (aFolP w T n t).toInt.toNat ∧ (aFolP w T n t).toInt.toNat ≤ _
        rw [this]
        exact ⟨a1, a2, a3, a4⟩
      obtain ⟨r, hr⟩ := pick
      refine ⟨mN w r s c, aLater_N hw hs q1 (fun t ht => ⟨(hr t ht).1, (hr t ht).2.1⟩), mN_le hw hs q1 (fun t ht => (hr t ht).2.1), ?_, ?_⟩
      · exact Nat.le_trans (RN_c q1).2 (mN_mono hw hs q1 (fun t ht => (hr t ht).2.2.1))
      · exact Nat.le_trans (mN_mono hw hs q1 (fun t ht => (hr t ht).2.2.2)) (RN_c q1).1
end RN
/-! The best of the choices. -/
theorem aBest_max {F : Nat → Int64} : ∀ (m k t : Nat), k + m < 2 ^ 31 → t < k → (∀ c, c < k → F c ≤ F t) → (∀ c, c < t → F c < F t) → ∃ t', t' < k + m ∧ aBest F m k (nI t) (F t) = (nI t', F t') ∧ (∀ c, c < k + m → F c ≤ F t') ∧ ∀ c, c < t' → F c < F t'
  | 0, k, t, _, ht, h1, h2 => ⟨t, ht, rfl, h1, h2⟩
  | m + 1, k, t, hk, ht, h1, h2 => by
    show ∃ t', t' < k + (m + 1) ∧ (if nI t < 0 ∨ F t < F k then aBest F m (k + 1) (nI k) (F k) else aBest F m (k + 1) (nI t) (F t)) = (nI t', F t') ∧ _
    by_cases q : F t < F k
    · rw [if_pos (Or.inr q)]
      have lt_k : ∀ c, c < k → F c < F k := fun c hc => Int64.lt_of_le_of_lt (h1 c hc) q
      obtain ⟨t', a, b, c, d⟩ := aBest_max (F := F) m (k + 1) k (by omega) (Nat.lt_succ_self _) (fun c hc => by
        by_cases qc : c = k
        · rw [qc]; exact Int64.le_refl _
        · exact Int64.le_of_lt (lt_k c (by omega))) lt_k
      exact ⟨t', by omega, b, fun c' hc => c c' (by omega), d⟩
    · rw [if_neg (fun e => e.elim (nI_pos (by omega)) q)]
      obtain ⟨t', a, b, c, d⟩ := aBest_max (F := F) m (k + 1) t (by omega) (by omega) (fun c hc => by
        by_cases qc : c = k
        · rw [qc]; exact Int64.not_lt.mp q
        · exact h1 c (by omega)) h2
      exact ⟨t', by omega, b, fun c' hc => c c' (by omega), d⟩
theorem aBest_0 {F : Nat → Int64} {m : Nat} (hm : 0 < m) (hm2 : m < 2 ^ 31) : ∃ t, t < m ∧ aBest F m 0 (-1) 0 = (nI t, F t) ∧ (∀ c, c < m → F c ≤ F t) ∧ ∀ c, c < t → F c < F t := by
  obtain ⟨m, rfl⟩ : ∃ k, m = k + 1 := ⟨m - 1, by omega⟩
  show ∃ t, t < m + 1 ∧ (if (-1 : Int32) < 0 ∨ 0 < F 0 then aBest F m 1 (nI 0) (F 0) else _) = _ ∧ _
  rw [if_pos (Or.inl (by decide))]
  obtain ⟨t, a, b, c, d⟩ := aBest_max (F := F) m 1 0 (by omega) (by decide) (fun c hc => by
    rw [show c = 0 by omega]
    exact Int64.le_refl _) (fun c hc => absurd hc (Nat.not_lt_zero _))
  exact ⟨t, by omega, b, fun c' hc => c c' (by omega), d⟩
