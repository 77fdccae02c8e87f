/-! the keywords -/
def kwS (v0 : Int64) : List Int32 → Int32 → Int64 → Int32
  | [], _, _ => 273
  | c :: l, v2, v3 => if c = 32 then (if lg_cmp v3 v0 = 0 then v2 else kwS v0 l (v2 + 1) 0) else kwS v0 l v2 (v3 * 256 + c.toInt64)
theorem j_len {N : Nat} {bs : List Int32} (h : Int32.ofNat N >>> ((0 : Int32) &&& 31) = nI N) (σ : Sta) : f_J0_length_8abf5 N bs σ = some (nI N, σ) := by
  unfold f_J0_length_8abf5 f_J0_coder_7d493 f_J0_coder_7d493_14
  rw [if_neg (show ¬ (1 : Int32) = 0 by decide), if_neg (show ¬ ¬ ((0 : Int32).toInt8.toInt32 = 0) by decide), bnd_s, h]
theorem kw_len (σ : Sta) : f_J0_length_8abf5 67 bKW σ = some (67, σ) := j_len (N := 67) (by decide) σ
theorem kw_ch0 : ∀ i, i < 67 → (((bKW.getD i 0) &&& 255).toUInt32 % 65536).toInt32 = bKW.getD i 0 ∧ (bKW.getD i 0).toUInt32.toUInt16.toUInt32.toInt32 = bKW.getD i 0 := by decide +kernel
theorem kw_ch {i : Nat} (hi : i < 67) (σ : Sta) : f_J0_charAt_5068e 67 bKW (nI i) σ = some (bKW.getD i 0, σ) := by
  unfold f_J0_charAt_5068e f_J0_isLatin1_aae02 f_J0_isLatin1_aae02_18
  rw [if_neg (by decide), if_pos rfl, if_neg (by decide), bnd_s, if_neg (by decide)]
  unfold f_J1_charAt_3b067 f_J0_checkIndex_df160 f_J3_checkIndex_8e157
  rw [if_neg (nI_pos (by omega)), if_pos (show nI i < Int32.ofNat 67 from nI_lt hi (by decide)), bnd_s, bnd_s, if_neg (nI_in hi (by decide)), nI_clamp (by omega), (kw_ch0 i hi).1, bnd_s, if_neg (fun q => q (kw_ch0 i hi).2)]
theorem kw_run (v0 : Int64) (σ : Sta) : ∀ (l : List Int32) (i n : Nat) (v2 : Int32) (v3 : Int64), i + l.length = 67 → bKW.drop i = l → l.length < n → f_X7_kindOfWord_9 n v0 v2 v3 (nI i) σ = some (kwS v0 l v2 v3, σ)
  | _, _, 0, _, _, _, _, hn => absurd hn (Nat.not_lt_zero _)
  | [], i, n + 1, v2, v3, h, hd, hn => by
    have h' : i + 0 = 67 := h
    rw [f_X7_kindOfWord_9, kw_len, bnd_s, if_pos (show (67 : Int32) ≤ nI i from nI_le (a := 67) (by omega) (by omega))]
    rfl
  | c :: l, i, n + 1, v2, v3, h, hd, hn => by
    have h' : i + (l.length + 1) = 67 := h
    have hn' : l.length < n := Nat.lt_of_succ_lt_succ hn
    have hc : bKW.getD i 0 = c := by
      rw [List.getD_eq_getElem?_getD, show bKW[i]? = (bKW.drop i)[0]? by rw [List.getElem?_drop, Nat.add_zero], hd]
      rfl
    have hd' : bKW.drop (i + 1) = l := by rw [← List.drop_drop, hd]; rfl
    have go : ∀ (a : Int32) (b : Int64), f_X7_kindOfWord_9 n v0 a b (nI (i + 1)) σ = some (kwS v0 l a b, σ) := fun a b => kw_run v0 σ l (i + 1) n a b (by omega) hd' hn'
    rw [f_X7_kindOfWord_9, kw_len, bnd_s, if_neg (show ¬ (67 : Int32) ≤ nI i from nI_ge (b := 67) (by omega) (by decide)), kw_ch (by omega), bnd_s, hc]
    unfold f_X7_kindOfWord_61 kwS
    by_cases q : c = 32
    · rw [if_pos q, if_pos q]
      by_cases q2 : lg_cmp v3 v0 = 0
      · rw [if_pos q2, if_pos q2]
      · rw [if_neg q2, if_neg q2, lt_e, lt_e, nI_1, go]
    · rw [if_neg q, if_neg q, lt_e, lt_e, nI_1, go]
def kSt (k : Nat) : Nat := [0, 4, 7, 10, 15, 19, 24, 27, 32, 35, 39, 44, 48, 51, 55, 59, 63, 67].getD k 67
theorem kwS_step (v0 : Int64) : ∀ k, k < 17 → kwS v0 (bKW.drop (kSt k)) (nI (256 + k)) 0 = if lg_cmp (kwW k) v0 = 0 then nI (256 + k) else kwS v0 (bKW.drop (kSt (k + 1))) (nI (256 + (k + 1))) 0
  | 0, _ | 1, _ | 2, _ | 3, _ | 4, _ | 5, _ | 6, _ | 7, _ | 8, _ | 9, _ | 10, _ | 11, _ | 12, _ | 13, _ | 14, _ | 15, _ | 16, _ => rfl
  | n + 17, h => absurd h (by omega)
theorem kw_both (v0 : Int64) (τ : Sta) (hK : ∀ k, k < 17 → gJ τ 1 k = kwW k) : ∀ (m k n : Nat), k + m = 17 → m < n →
    (kwS v0 (bKW.drop (kSt k)) (nI (256 + k)) 0 = 273 ∧ f_X10_indexOf_3 1 17 n 17 v0 (nI k) τ = some (-1, τ)) ∨ (∃ j, j < 17 ∧ kwS v0 (bKW.drop (kSt k)) (nI (256 + k)) 0 = nI (256 + j) ∧ f_X10_indexOf_3 1 17 n 17 v0 (nI k) τ = some (nI j, τ))
  | _, _, 0, _, hn => absurd hn (Nat.not_lt_zero _)
  | 0, k, n + 1, h, hn => by
    have : k = 17 := by omega
    subst this
    refine Or.inl ⟨rfl, ?_⟩
    rw [f_X10_indexOf_3, if_pos (by decide)]
  | m + 1, k, n + 1, h, hn => by
    rw [kwS_step v0 k (by omega), f_X10_indexOf_3, if_neg (show ¬ (17 : Int32) ≤ nI k from nI_ge (b := 17) (by omega) (by decide)), if_neg (nI_in (by omega) (by decide)), nI_clamp (by omega), hK k (by omega)]
    by_cases q : lg_cmp (kwW k) v0 = 0
    · rw [if_pos q, if_pos q]
      exact Or.inr ⟨k, by omega, rfl, rfl⟩
    · rw [if_neg q, if_neg q, lt_e, nI_1]
      exact kw_both v0 τ hK m (k + 1) n (by omega) (by omega)
theorem e_kw (v0 : Int64) (σ τ : Sta) (hK : ∀ k, k < 17 → gJ τ 1 k = kwW k) : (f_X7_kindOfWord v0 σ = some (273, σ) ∧ f_X10_indexOf 1 17 17 v0 τ = some (-1, τ)) ∨ (∃ j, j < 17 ∧ f_X7_kindOfWord v0 σ = some (nI (256 + j), σ) ∧ f_X10_indexOf 1 17 17 v0 τ = some (nI j, τ)) := by
  have h := kw_run v0 σ bKW 0 FU 256 0 rfl rfl (FU_lt (by decide))
  have hm := kw_both v0 τ hK 17 0 FU rfl (FU_lt (by decide))
  have h' : f_X7_kindOfWord v0 σ = some (kwS v0 (bKW.drop (kSt 0)) (nI (256 + 0)) 0, σ) := h
  rw [h']
  rcases hm with ⟨a, b⟩ | ⟨j, a, b, c⟩
  · exact Or.inl ⟨by rw [a], b⟩
  · exact Or.inr ⟨j, a, by rw [b], c⟩
