/-! The model's words behind its constructor. -/
theorem kw_ix {i : Nat} (hi : i < 67) (σ : Sta) : f_J0_indexOf_7cf53 67 bKW 32 (nI i) σ = some (ixS bKW 32 (67 - i) i, σ) := by
  unfold f_J0_indexOf_7cf53 f_J0_isLatin1_aae02 f_J0_isLatin1_aae02_18
  rw [if_neg (show ¬ (1 : Int32) = 0 by decide), if_pos (show (0 : Int32) = 0 from rfl), if_neg (by decide), bnd_s, if_neg (show ¬ (1 : Int32) = 0 by decide), kw_len, bnd_s]
  unfold f_J1_indexOf_4cfef f_J1_canEncode_9a6ad f_J1_canEncode_9a6ad_16
  rw [if_neg (show ¬ (32 : Int32) < 0 by decide), if_neg (show ¬ (255 : Int32) < 32 by decide), if_neg (by decide), bnd_s, if_neg (show ¬ (1 : Int32) = 0 by decide), lt_e, lt_e, if_neg (nI_pos (by omega)), if_neg (show ¬ Int32.ofNat 67 < 67 by decide), if_pos (show nI i < (67 : Int32) from nI_lt (b := 67) hi (by decide))]
  unfold f_J1_indexOfChar_4cfef
  rw [lt_e, show (32 : Int32).toInt8.toInt32 = 32 by decide, show f_J1_indexOfChar_4cfef_7 67 bKW FU 67 32 (nI i) σ = some (ixS bKW 32 (67 - i) i, σ) from e_ixc (N := 67) (by decide) σ (67 - i) i FU (by omega) (Nat.lt_trans (show 67 - i < 1000 by omega) (FU_lt (by decide)))]
  rfl
theorem kw_ixk : ∀ k, k < 17 → ixS bKW 32 (67 - kSt k) (kSt k) = nI (kSt (k + 1) - 1) ∧ kSt k < 67 ∧ kSt k ≤ kSt (k + 1) - 1 ∧ kSt (k + 1) - 1 < 67 ∧ kSt (k + 1) - 1 + 1 = kSt (k + 1) := by decide +kernel
def kAcc : List Int32 → Int64 → Int64
  | [], a => a
  | c :: l, a => kAcc l ((a <<< ((8 : Int32).toInt64 &&& 63)) ||| c.toInt64)
def kWd (k : Nat) : List Int32 := (bKW.drop (kSt k)).take (kSt (k + 1) - 1 - kSt k)
theorem kWd_acc : ∀ k, k < 17 → kAcc (kWd k) 0 = kwW k ∧ kSt k + (kWd k).length = kSt (k + 1) - 1 ∧ (kWd k).length < 67 ∧ (bKW.drop (kSt k)).take (kWd k).length = kWd k := by decide +kernel
theorem sJJ {τ : Sta} {q : Nat} {f g : Nat → Int64} : sJ (sJ τ q f) q g = sJ τ q g := by
  unfold sJ
  have h : va_up (va_up τ.2.2.2.1 q f) q g = va_up τ.2.2.2.1 q g := by
    funext k
    unfold va_up
    by_cases e : k = q
    · rw [if_pos e, if_pos e]
    · rw [if_neg e, if_neg e, if_neg e]
  show (τ.1, τ.2.1, τ.2.2.1, va_up (va_up τ.2.2.2.1 q f) q g, τ.2.2.2.2) = _
  rw [h]
theorem gJsJ {τ : Sta} {q : Nat} {f : Nat → Int64} : gJ (sJ τ q f) q = f := by
  show va_up τ.2.2.2.1 q f q = f
  unfold va_up
  rw [if_pos rfl]
theorem mk_in (τ : Sta) (kk : Int32 → Int32 → Sta → Option (Unit × Sta)) {k en : Nat} (hk : k < 17) (he : en < 67) : ∀ (l : List Int32) (i n : Nat) (f : Nat → Int64), i + l.length = en → (bKW.drop i).take l.length = l → l.length < n →
    ∃ g : Nat → Int64, f_X10_init_337 kk n (nI k) (nI en) (nI i) (sJ τ 1 f) = kk (nI (en + 1)) (nI (k + 1)) (sJ τ 1 g) ∧ g k = kAcc l (f k) ∧ ∀ j, j ≠ k → g j = f j
  | _, _, 0, _, _, _, hn => absurd hn (Nat.not_lt_zero _)
  | [], i, n + 1, f, h, hd, hn => by
    have h' : i + 0 = en := h
    refine ⟨f, ?_, rfl, fun _ _ => rfl⟩
    rw [f_X10_init_337, if_pos (nI_le (by omega) (by omega)), lt_e, lt_e, nI_1, nI_1]
  | c :: l, i, n + 1, f, h, hd, hn => by
    have h' : i + (l.length + 1) = en := h
    have hn' : l.length < n := Nat.lt_of_succ_lt_succ hn
    have hd0 : (bKW.drop i).take (l.length + 1) = c :: l := hd
    have hc : bKW.getD i 0 = c := by
      have h1 : ((bKW.drop i).take (l.length + 1))[0]? = some c := by rw [hd0]; rfl
      rw [List.getElem?_take_of_lt (Nat.succ_pos _), List.getElem?_drop, Nat.add_zero] at h1
      rw [List.getD_eq_getElem?_getD, h1]
      rfl
    have hd' : (bKW.drop (i + 1)).take l.length = l := by
      have h1 := congrArg List.tail hd0
      rw [← List.drop_one, List.drop_take, List.drop_drop] at h1
      exact h1
    obtain ⟨g, h1, h2, h3⟩ := mk_in τ kk hk he l (i + 1) n (vp_updL f k ((f k <<< ((8 : Int32).toInt64 &&& 63)) ||| c.toInt64)) (by omega) hd' hn'
    refine ⟨g, ?_, ?_, fun j hj => ?_⟩
    · rw [f_X10_init_337, if_neg (nI_ge (by omega) (by omega)), if_neg (nI_in hk (by decide)), kw_ch (by omega), bnd_s, if_neg (nI_in hk (by decide)), nI_clamp (by omega), lt_e, lt_e, nI_1, sJJ, gJsJ, hc, h1]
    · rw [h2]
      unfold vp_updL
      rw [if_pos rfl]
      rfl
    · rw [h3 j hj]
      unfold vp_updL
      rw [if_neg hj]
theorem mk_out (τ : Sta) : ∀ (r k n : Nat) (f : Nat → Int64), k + r = 17 → r < n → (∀ j, j < k → f j = kwW j) → (∀ j, k ≤ j → f j = 0) → ∃ g : Nat → Int64, f_X10_init_316 n (nI (kSt k)) (nI k) (sJ τ 1 f) = some ((), sJ τ 1 g) ∧ ∀ j, j < 17 → g j = kwW j
  | _, _, 0, _, _, hn, _, _ => absurd hn (Nat.not_lt_zero _)
  | 0, k, n + 1, f, h, hn, h1, h2 => ⟨f, by rw [f_X10_init_316, if_pos (show (17 : Int32) ≤ nI k from nI_le (a := 17) (by omega) (by omega))], fun j hj => h1 j (by omega)⟩
  | r + 1, k, n + 1, f, h, hn, h1, h2 => by
    have hk : k < 17 := by omega
    obtain ⟨i1, i2, i3, i4, i5⟩ := kw_ixk k hk
    obtain ⟨w1, w2, w3, w4⟩ := kWd_acc k hk
    obtain ⟨g, e1, e2, e3⟩ := mk_in τ (f_X10_init_316 n) hk i4 (kWd k) (kSt k) FU f w2 w4 (Nat.lt_trans w3 (FU_lt (by decide)))
    obtain ⟨g2, e4, e5⟩ := mk_out τ r (k + 1) n g (by omega) (by omega) (fun j hj => by
      by_cases q : j = k
      · rw [q, e2, h2 k (Nat.le_refl k), w1]
      · rw [e3 j q, h1 j (by omega)]) (fun j hj => by rw [e3 j (by omega), h2 j (by omega)])
    refine ⟨g2, ?_, e5⟩
    rw [f_X10_init_316, if_neg (show ¬ (17 : Int32) ≤ nI k from nI_ge (b := 17) (by omega) (by decide)), kw_ix i2, bnd_s, i1, e1, i5, e4]
/-- the model's state when its arrays are new, and behind its constructor -/
def τN : Sta := (fun k => if k = 35 then -1 else 0, fun _ => 0, fun _ _ => 0, fun _ _ => 0, fun _ => 0)
theorem m_init : ∃ g : Nat → Int64, f_X10_init τN = some ((), sJ τN 1 g) ∧ ∀ j, j < 17 → g j = kwW j := by
  obtain ⟨g, h1, h2⟩ := mk_out τN 17 0 FU (fun _ => 0) rfl (FU_lt (by decide)) (fun j h => absurd h (Nat.not_lt_zero j)) (fun _ _ => rfl)
  refine ⟨g, ?_, h2⟩
  unfold f_X10_init
  have e : sJ τN 1 (fun _ => 0) = τN := by
    show (τN.1, τN.2.1, τN.2.2.1, va_up τN.2.2.2.1 1 (fun _ => 0), τN.2.2.2.2) = τN
    have : va_up τN.2.2.2.1 1 (fun _ => 0) = τN.2.2.2.1 := by
      funext k
      unfold va_up
      by_cases q : k = 1
      · rw [if_pos q]; rfl
      · rw [if_neg q]
    rw [this]
  rw [e] at h1
  exact h1
