/-! digest, feed, trim -/
section DG
variable {w : AW} {σ τ : Sta}
theorem e_dg90 (hw : AWok w) (hm : AM w τ) {s : Nat} {k79 : Int64 → Int32 → Sta → Option (Int64 × Sta)} (hs : s < aNs w) (hc : AC w σ) {k5 : Int64 → Int32 → Sta → Option (Int64 × Sta)} : ∀ (m v n n' : Nat) (d : Int64), v + m = aNv w → m < n → m < n' →
    ∃ d', f_X5_addToDigest_17 k5 n d (nI s) (nI v) σ = k5 d' (nI (s + 1)) σ ∧ f_X10_digest_90 k79 n' d (nI s) (nI v) τ = k79 d' (nI (s + 1)) τ
  | _, _, 0, _, _, _, hn, _ => absurd hn (Nat.not_lt_zero _)
  | _, _, _ + 1, 0, _, _, _, hn => absurd hn (Nat.not_lt_zero _)
  | 0, v, n + 1, n' + 1, d, hv, hn, hn' => by
    have h1 := hw.1
    have h2 := hw.2.2.1
    refine ⟨(d * 31) + (if aGl w s = true then -1 else nI (aCh w s)).toInt64, ?_, ?_⟩
    rotate_left
    · rw [f_X10_digest_90, hm.2.2.1, if_pos (nI_le (by omega) (by omega)), e_told hw hm hs, bnd_s, lt_e, lt_e, nI_1]
    · rw [f_X5_addToDigest_17, hc.2.2.1, if_pos (nI_le (by omega) (by omega)), if_neg (nI_in (by omega) (by omega)), lt_e, lt_e, nI_1, nI_clamp (by omega), hc.2.2.2.1 s hs]
  | m + 1, v, n + 1, n' + 1, d, hv, hn, hn' => by
    have h1 := hw.1
    have h2 := hw.2.2.1
    rw [f_X10_digest_90, hm.2.2.1, if_neg (nI_ge (by omega) (by omega)), nI_Lmul, nI_add, if_neg (nI_in (by omega) (by omega)), lt_e, lt_e, nI_1, nI_clamp (by omega), hm.2.2.2.2.2 s v hs (by omega), f_X5_addToDigest_17, hc.2.2.1, if_neg (nI_ge (by omega) (by omega)), nI_mulL, nI_add, if_neg (nI_in (by omega) (by omega)), lt_e, lt_e, nI_1, nI_clamp (by omega), hc.2.2.2.2.2 s v hs (by omega)]
    exact e_dg90 hw hm hs hc m (v + 1) n n' _ (by omega) (by omega) (by omega)
theorem e_dg79 (hw : AWok w) (hm : AM w τ) (hc : AC w σ) : ∀ (m s n n' : Nat) (d : Int64), s + m = aNs w → m < n → m < n' →
    ∃ d', f_X5_addToDigest_5 n d (nI s) σ = some (d', σ) ∧ f_X10_digest_79 n' d (nI s) τ = f_X10_digest_146 FU d' 0 τ
  | _, _, 0, _, _, _, hn, _ => absurd hn (Nat.not_lt_zero _)
  | _, _, _ + 1, 0, _, _, _, hn => absurd hn (Nat.not_lt_zero _)
  | 0, s, n + 1, n' + 1, d, hs, hn, hn' => by
    have h1 := hw.1
    refine ⟨d, ?_, ?_⟩
    · rw [f_X5_addToDigest_5, hc.1, if_pos (nI_le (by omega) (by omega))]
    · rw [f_X10_digest_79, hm.1, if_pos (nI_le (by omega) (by omega))]
  | m + 1, s, n + 1, n' + 1, d, hs, hn, hn' => by
    have h1 := hw.1
    have h2 := hw.2.2.1
    obtain ⟨d1, e1, e2⟩ := e_dg90 (k79 := f_X10_digest_79 n') (k5 := f_X5_addToDigest_5 n) hw hm (s := s) (by omega) hc (aNv w) 0 FU FU d (by omega) (FU_lt (by omega)) (FU_lt (by omega))
    obtain ⟨d', g1, g2⟩ := e_dg79 hw hm hc m (s + 1) n n' d1 (by omega) (by omega) (by omega)
    refine ⟨d', ?_, ?_⟩
    · rw [f_X5_addToDigest_5, hc.1, if_neg (nI_ge (by omega) (by omega))]
      exact e1.trans g1
    · rw [f_X10_digest_79, hm.1, if_neg (nI_ge (by omega) (by omega))]
      exact e2.trans g2
theorem e_dg221 (hw : AWok w) (hm : AM w τ) (hc : AC w σ) {i st : Nat} {T : Nat → Nat → Int32} {W : Nat → Nat → Int64} {B : Nat → Int64} {P : Int32} (hi : i < 12) (h1 : 1 ≤ st) (h2 : st ≤ 30) (s4 : StrC w (gP σ i) st T W B P σ) (s5 : StrM w i st T W B P τ) {k5 k146 : Int64 → Int32 → Sta → Option (Int64 × Sta)} : ∀ (m s n n' : Nat) (d : Int64), s + m = aNs w → m < n → m < n' →
    ∃ d', f_X8_digestOfStrategies_88 k5 n d (nI i) (gP σ i) (nI s) σ = k5 d' (nI (i + 1)) σ ∧ f_X10_digest_221 k146 n' d (nI i) (nI s) τ = k146 d' (nI (i + 1)) τ
  | _, _, 0, _, _, _, hn, _ => absurd hn (Nat.not_lt_zero _)
  | _, _, _ + 1, 0, _, _, _, hn => absurd hn (Nat.not_lt_zero _)
  | 0, s, n + 1, n' + 1, d, hs, hn, hn' => by
    have h1 := hw.1
    refine ⟨d, ?_, ?_⟩
    · rw [f_X8_digestOfStrategies_88, hc.1, if_pos (nI_le (by omega) (by omega)), lt_e, nI_1]
    · rw [f_X10_digest_221, hm.1, if_pos (nI_le (by omega) (by omega)), lt_e, nI_1]
  | m + 1, s, n + 1, n' + 1, d, hs, hn, hn' => by
    have h0 := hw.1
    obtain ⟨q, rfl⟩ : ∃ q, st = q + 1 := ⟨st - 1, by omega⟩
    rw [f_X8_digestOfStrategies_88, hc.1, if_neg (nI_ge (by omega) (by omega)), s4.1, e_takenIn (by omega) (by omega), bnd_s, s4.2.1 q s (by omega) (by omega), lt_e, lt_e, nI_1,
      f_X10_digest_221, hm.1, if_neg (nI_ge (by omega) (by omega)), if_neg (nI_in (by omega) (by omega)), nI_clamp (n := i) (by omega), s5.1, nI_Lmul, nI_Lmul, nI_add, nI_add, if_neg (nI_in (by omega) (by omega)), lt_e, lt_e, nI_1, nI_clamp (by omega), s5.2.1 q s (by omega) (by omega)]
    exact e_dg221 hw hm hc hi h1 h2 s4 s5 m (s + 1) n n' _ (by omega) (by omega) (by omega)
theorem e_dg171 (hw : AWok w) (hm : AM w τ) (hc : AC w σ) {i st : Nat} {T : Nat → Nat → Int32} {W : Nat → Nat → Int64} {B : Nat → Int64} {P : Int32} (hi : i < 12) (h1 : 1 ≤ st) (h2 : st ≤ 30) (s4 : StrC w (gP σ i) st T W B P σ) (s5 : StrM w i st T W B P τ) {k5 k146 : Int64 → Int32 → Sta → Option (Int64 × Sta)} : ∀ (m g n n' : Nat) (d : Int64), g + m = aNg w → m < n → m < n' →
    ∃ d', f_X8_digestOfStrategies_39 k5 n d (nI i) (gP σ i) (nI g) σ = k5 d' (nI (i + 1)) σ ∧ f_X10_digest_171 k146 n' d (nI i) (nI g) τ = k146 d' (nI (i + 1)) τ
  | _, _, 0, _, _, _, hn, _ => absurd hn (Nat.not_lt_zero _)
  | _, _, _ + 1, 0, _, _, _, hn => absurd hn (Nat.not_lt_zero _)
  | 0, g, n + 1, n' + 1, d, hs, hn, hn' => by
    have h3 := hw.1
    have h4 := hw.2.1
    rw [f_X8_digestOfStrategies_39, hc.2.1, if_pos (nI_le (by omega) (by omega)), lt_e, s4.2.2.2.2, f_X10_digest_171, hm.2.1, if_pos (nI_le (by omega) (by omega)), if_neg (nI_in (by omega) (by omega)), lt_e, nI_clamp (by omega), s5.2.2.2.2]
    exact e_dg221 hw hm hc hi h1 h2 s4 s5 (aNs w) 0 FU FU _ (by omega) (FU_lt (by omega)) (FU_lt (by omega))
  | m + 1, g, n + 1, n' + 1, d, hs, hn, hn' => by
    have h4 := hw.2.1
    rw [f_X8_digestOfStrategies_39, hc.2.1, if_neg (nI_ge (by omega) (by omega)), if_neg (nI_in (by omega) (by omega)), lt_e, lt_e, nI_1, nI_clamp (by omega), s4.2.2.2.1 g (by omega),
      f_X10_digest_171, hm.2.1, if_neg (nI_ge (by omega) (by omega)), nI_Lmul, nI_add, if_neg (nI_in (by omega) (by omega)), lt_e, lt_e, nI_1, nI_clamp (by omega), s5.2.2.2.1 g (by omega)]
    exact e_dg171 hw hm hc hi h1 h2 s4 s5 m (g + 1) n n' _ (by omega) (by omega) (by omega)
theorem e_dg146 (hw : AWok w) (hm : AM w τ) (hc : AC w σ) {kp : Nat} (k1 : kp ≤ 12) (k2 : gI σ 11 = nI kp) (k3 : gI τ 47 = nI kp) (k5 : Perm σ) (k6 : ∀ i, i < kp → Kept w i σ τ) : ∀ (m i n n' : Nat) (d : Int64), i + m = kp → m < n → m < n' →
    ∃ d', f_X8_digestOfStrategies_5 n d (nI i) σ = some (d', σ) ∧ f_X10_digest_146 n' d (nI i) τ = some (d', τ)
  | _, _, 0, _, _, _, hn, _ => absurd hn (Nat.not_lt_zero _)
  | _, _, _ + 1, 0, _, _, _, hn => absurd hn (Nat.not_lt_zero _)
  | 0, i, n + 1, n' + 1, d, hs, hn, hn' => by
    refine ⟨d, ?_, ?_⟩
    · rw [f_X8_digestOfStrategies_5, k2, if_pos (nI_le (by omega) (by omega))]
    · rw [f_X10_digest_146, k3, if_pos (nI_le (by omega) (by omega))]
  | m + 1, i, n + 1, n' + 1, d, hs, hn, hn' => by
    have h4 := hw.2.1
    have hd := k5.1 i (by omega)
    obtain ⟨st, T, W, B, P, s1, s2, s3, s4, s5⟩ := k6 i (by omega)
    obtain ⟨d1, e1, e2⟩ := e_dg171 (k5 := f_X8_digestOfStrategies_5 n) (k146 := f_X10_digest_146 n') hw hm hc (by omega) s1 s2 s4 s5 (aNg w) 0 FU FU ((d * 31) + (nI st).toInt64) (by omega) (FU_lt (by omega)) (FU_lt (by omega))
    obtain ⟨d', g1, g2⟩ := e_dg146 hw hm hc k1 k2 k3 k5 k6 m (i + 1) n n' d1 (by omega) (by omega) (by omega)
    refine ⟨d', ?_, ?_⟩
    · rw [f_X8_digestOfStrategies_5, k2, if_neg (nI_ge (by omega) (by omega)), if_neg (nI_in (c := i) (N := 13) (by omega) (by omega)), nI_clamp (n := i) (by omega), if_neg (show ¬ 13 ≤ gP σ i by omega), lt_e, lt_e, s4.1]
      exact e1.trans g1
    · rw [f_X10_digest_146, k3, if_neg (nI_ge (by omega) (by omega)), if_neg (nI_in (by omega) (by omega)), nI_clamp (by omega), lt_e, s5.1]
      exact e2.trans g2
theorem e_dg49 (hw : AWok w) (hm : AM w τ) (hc : AC w σ) (hwt : ∀ g, g < 3 → gA σ 9 g = gA τ 29 g) {kp : Nat} (k1 : kp ≤ 12) (k2 : gI σ 11 = nI kp) (k3 : gI τ 47 = nI kp) (k5 : Perm σ) (k6 : ∀ i, i < kp → Kept w i σ τ) : ∀ (m g n n' : Nat) (d : Int64), g + m = aNg w → m < n → m < n' →
    ∃ d', f_X8_digest_104 n d (nI g) σ = some (d', σ) ∧ f_X10_digest_49 n' d (nI g) τ = some (d', τ)
  | _, _, 0, _, _, _, hn, _ => absurd hn (Nat.not_lt_zero _)
  | _, _, _ + 1, 0, _, _, _, hn => absurd hn (Nat.not_lt_zero _)
  | 0, g, n + 1, n' + 1, d, hs, hn, hn' => by
    have h1 := hw.1
    have h4 := hw.2.1
    obtain ⟨d1, e1, e2⟩ := e_dg79 hw hm hc (aNs w) 0 FU FU d (by omega) (FU_lt (by omega)) (FU_lt (by omega))
    obtain ⟨d', g1, g2⟩ := e_dg146 hw hm hc k1 k2 k3 k5 k6 kp 0 FU FU d1 (by omega) (FU_lt (by omega)) (FU_lt (by omega))
    refine ⟨d', ?_, ?_⟩
    · rw [f_X8_digest_104, hc.2.1, if_pos (nI_le (by omega) (by omega)), show f_X5_addToDigest d σ = _ from e1, bnd_s, show f_X8_digestOfStrategies d1 σ = _ from g1, bnd_s]
    · rw [f_X10_digest_49, hm.2.1, if_pos (nI_le (by omega) (by omega))]
      exact e2.trans g2
  | m + 1, g, n + 1, n' + 1, d, hs, hn, hn' => by
    have h4 := hw.2.1
    rw [f_X8_digest_104, hc.2.1, if_neg (nI_ge (by omega) (by omega)), if_neg (nI_in (by omega) (by omega)), lt_e, lt_e, nI_1, nI_clamp (by omega), hwt g (by omega), f_X10_digest_49, hm.2.1, if_neg (nI_ge (by omega) (by omega)), if_neg (nI_in (by omega) (by omega)), lt_e, lt_e, nI_1, nI_clamp (by omega)]
    exact e_dg49 hw hm hc hwt k1 k2 k3 k5 k6 m (g + 1) n n' _ (by omega) (by omega) (by omega)
end DG
theorem e_counted (τ : Sta) : f_X10_counted (nI 0) τ = some (gI τ 10, τ) ∧ f_X10_counted (nI 1) τ = some (gI τ 15, τ) ∧ f_X10_counted (nI 2) τ = some (gI τ 19, τ) ∧ f_X10_counted (nI 3) τ = some (gI τ 37, τ) ∧ f_X10_counted (nI 4) τ = some (gI τ 47, τ) ∧ f_X10_counted (nI 5) τ = some (gI τ 3, τ) := ⟨rfl, rfl, rfl, rfl, rfl, rfl⟩
theorem e_dg11s {τ : Sta} {n k : Nat} {d : Int64} {r : Int32} (hk : k < 6) (h : f_X10_counted (nI k) τ = some (r, τ)) : f_X10_digest_11 (n + 1) d (nI k) τ = f_X10_digest_11 n ((d * 31) + r.toInt64) (nI (k + 1)) τ := by
  rw [f_X10_digest_11, if_neg (by rw [nI_Lle (by omega) (by decide)]; omega), h, bnd_s, lt_e, lt_e, nI_1]
theorem op_digest {w : AW} {σ τ : Sta} (h : REL w σ τ) : OV w (f_X8_digest σ) (f_X10_digest τ) := by
  have hw := h.1
  have h4 := hw.2.1
  have hc := h.2.2.1
  have h0 := REL_th h 0
  have hm := h0.2.2.2.1
  obtain ⟨kp, k1, k2, k3, k4, k5, k6⟩ := h0.2.2.2.2.2.1
  obtain ⟨tl, t1, t2, t3, t4⟩ := h0.2.2.2.2.1
  obtain ⟨a1, a2, a3, a4, ⟨nc, n1, n2, n3⟩, a6, a7, a8⟩ := h0.2.2.2.2.2.2.2
  obtain ⟨c0, c1, c2, c3, c4, c5⟩ := e_counted (sI τ 0 0)
  obtain ⟨d', g1, g2⟩ := e_dg49 hw hm hc a4 k1 k2 k3 k5 k6 (aNg w) 0 FU FU (((((((((331 * 31) + (nI (aNv w)).toInt64) * 31 + (nI (aNg w)).toInt64) * 31 + (nI nc).toInt64) * 31 + (nI (aNs w)).toInt64) * 31 + (nI kp).toInt64) * 31 + (nI tl).toInt64) * 31) + gL σ 449) (by omega) (FU_lt (by omega)) (FU_lt (by omega))
  refine ⟨d', σ, sI τ 0 0, ?_, ?_, h0⟩
  · unfold f_X8_digest
    rw [lt_e, lt_e, lt_e, lt_e, lt_e, lt_e, lt_e, hc.2.2.1, hc.2.1, n2, hc.1, k2, t2]
    exact g1
  · unfold f_X10_digest
    rw [lt_e, show FU = 999999993 + 1 + 1 + 1 + 1 + 1 + 1 + 1 from rfl, show (0 : Int32) = nI 0 from rfl]
    refine (e_dg11s (by decide) c0).trans ((e_dg11s (by decide) c1).trans ((e_dg11s (by decide) c2).trans ((e_dg11s (by decide) c3).trans ((e_dg11s (by decide) c4).trans ((e_dg11s (by decide) c5).trans ?_)))))
    rw [f_X10_digest_11, if_pos (by decide), lt_e, hm.2.2.1, hm.2.1, n3, hm.1, k3, t3, ← a3]
    exact g2
