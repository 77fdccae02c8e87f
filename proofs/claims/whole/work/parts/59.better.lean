/-! Comparing strategies. -/
def b2 (b : Bool) : Int32 := if b = true then 1 else 0
theorem b2_0 (b : Bool) : b2 b = 0 ↔ b = false := by cases b <;> decide
theorem b2_ok (b : Bool) : ¬ ¬ (b2 b = 0 ∨ b2 b = 1) := by cases b <;> decide
def aBet (f g : Nat → Int64) : Nat → Nat → Bool → Bool
  | 0, _, more => more
  | m + 1, k, more => if f k < g k then false else aBet f g m (k + 1) (more || decide (g k < f k))
theorem e_bet_l {w : AW} {σ : Sta} (hw : AWok w) (h : AC w σ) {d1 d2 : Nat} {F G : Nat → Int64} (hF : ∀ g, g < aNg w → gJ σ (41 + 5 * d1 + 4) g = F g) (hG : ∀ g, g < aNg w → gJ σ (41 + 5 * d2 + 4) g = G g) : ∀ (m k n : Nat) (more : Bool), k + m = aNg w → m < n →
    f_X8_isBetter_5 d1 d2 n (b2 more) (nI k) σ = some (b2 (aBet F G m k more), σ)
  | _, _, 0, _, _, hn => absurd hn (Nat.not_lt_zero _)
  | 0, k, n + 1, more, hk, hn => by
    have h2 := hw.2.1
    rw [f_X8_isBetter_5, h.2.1, if_pos (nI_le (by omega) (by omega)), if_neg (b2_ok more)]
    rfl
  | m + 1, k, n + 1, more, hk, hn => by
    have h2 := hw.2.1
    rw [f_X8_isBetter_5, h.2.1, if_neg (nI_ge (by omega) (by omega)), if_neg (nI_in (by omega) (by omega)), if_neg (nI_in (by omega) (by omega)), if_neg (nI_in (by omega) (by omega)), if_neg (nI_in (by omega) (by omega)), nI_clamp (by omega), hF k (by omega), hG k (by omega), aBet]
    unfold f_X8_isBetter_59 f_X8_isBetter_64
    rw [lt_e, lt_e, nI_1]
    by_cases h3 : F k < G k
    · rw [if_neg (fun e => Int64.not_le.mpr h3 ((lg_cmp_ge _ _).mp e)), if_pos h3]
      rfl
    · rw [if_pos ((lg_cmp_ge _ _).mpr (Int64.not_lt.mp h3)), if_neg h3]
      have ih := fun b => e_bet_l hw h hF hG m (k + 1) n b (by omega) (by omega)
      cases more with
      | true =>
        rw [if_neg (by decide)]
        exact ih true
      | false =>
        rw [if_pos (by decide)]
        by_cases h4 : G k < F k
        · rw [if_neg (fun e => Int64.not_le.mpr h4 ((lg_cmp_le _ _).mp e)), decide_eq_true h4]
          exact ih true
        · rw [if_pos ((lg_cmp_le _ _).mpr (Int64.not_lt.mp h4)), decide_eq_false h4]
          exact ih false
theorem e_betM_l {w : AW} {τ : Sta} (hw : AWok w) (h : AM w τ) {i j : Nat} {F G : Nat → Int64} (hi : i < 22) (hj : j < 22) (hF : ∀ g, g < aNg w → gJ τ 33 (3 * i + g) = F g) (hG : ∀ g, g < aNg w → gJ τ 33 (3 * j + g) = G g) : ∀ (m k n : Nat) (more al : Bool), k + m = aNg w → m < n →
    f_X10_isBetter_8 n (nI i) (nI j) (b2 more) (b2 al) (nI k) τ = some (b2 (al && aBet F G m k more), τ)
  | _, _, 0, _, _, _, hn => absurd hn (Nat.not_lt_zero _)
  | 0, k, n + 1, more, al, hk, hn => by
    have h2 := hw.2.1
    rw [f_X10_isBetter_8, h.2.1, if_pos (nI_le (by omega) (by omega))]
    cases more <;> cases al <;> rfl
  | m + 1, k, n + 1, more, al, hk, hn => by
    have h2 := hw.2.1
    have ih := fun b c => e_betM_l hw h hi hj hF hG m (k + 1) n b c (by omega) (by omega)
    have h52 : ∀ b : Bool, f_X10_isBetter_52 (f_X10_isBetter_8 n) (nI i) (nI j) (b2 al) (nI k) (b2 b) τ = some (b2 (al && if F k < G k then false else aBet F G m (k + 1) b), τ) := fun b => by
      unfold f_X10_isBetter_52 f_X10_isBetter_88 f_X10_isBetter_89
      rw [nI_Lmul, nI_add, nI_Lmul, nI_add, if_neg (nI_in (by omega) (by omega)), if_neg (nI_in (by omega) (by omega)), nI_clamp (by omega), nI_clamp (by omega), hF k (by omega), hG k (by omega), lt_e, lt_e, nI_1]
      cases al with
      | false =>
        rw [if_pos (by decide)]
        exact ih b false
      | true =>
        rw [if_neg (by decide)]
        by_cases h3 : F k < G k
        · rw [if_pos ((lg_cmp_lt _ _).mpr h3), if_pos h3]
          exact ih b false
        · rw [if_neg (fun e => h3 ((lg_cmp_lt _ _).mp e)), if_neg h3]
          exact ih b true
    rw [f_X10_isBetter_8, h.2.1, if_neg (nI_ge (by omega) (by omega)), aBet]
    unfold f_X10_isBetter_47
    cases more with
    | true =>
      rw [if_neg (by decide)]
      exact h52 true
    | false =>
      rw [if_pos (by decide), nI_Lmul, nI_add, nI_Lmul, nI_add, if_neg (nI_in (by omega) (by omega)), if_neg (nI_in (by omega) (by omega)), nI_clamp (by omega), nI_clamp (by omega), hF k (by omega), hG k (by omega)]
      by_cases h4 : G k < F k
      · rw [if_neg (fun e => Int64.not_le.mpr h4 ((lg_cmp_le _ _).mp e)), decide_eq_true h4]
        exact h52 true
      · rw [if_pos ((lg_cmp_le _ _).mpr (Int64.not_lt.mp h4)), decide_eq_false h4]
        exact h52 false
theorem e_worth_l {w : AW} {σ τ : Sta} (hw : AWok w) (h : AC w σ) (hm : AM w τ) {kp s : Nat} (k1 : kp ≤ 12) (k2 : gI σ 11 = nI kp) (k3 : gI τ 47 = nI kp) (k5 : Perm σ) (k6 : ∀ i, i < kp → Kept w i σ τ) (hs : s < kp) : ∀ (m k n n' : Nat), k + m = kp → m < n → m < n' →
    ∃ r, f_X8_isWorthHaving_7 n (nI s) (nI k) σ = some (.inl r, σ) ∧ f_X10_isWorthHaving_32 n' (nI s) 1 (nI k) τ = some (r, τ)
  | _, _, 0, _, _, hn, _ => absurd hn (Nat.not_lt_zero _)
  | _, _, _ + 1, 0, _, _, hn => absurd hn (Nat.not_lt_zero _)
  | 0, k, n + 1, n' + 1, hk, hn, hn' => by
    refine ⟨1, ?_, ?_⟩
    · rw [f_X8_isWorthHaving_7, k2, if_pos (nI_le (by omega) (by omega))]
    · rw [f_X10_isWorthHaving_32, k3, if_pos (nI_le (by omega) (by omega))]
      rfl
  | m + 1, k, n + 1, n' + 1, hk, hn, hn' => by
    have h2 := hw.2.1
    obtain ⟨st, T, W, B, P, s1, s2, s3, s4, s5⟩ := k6 k (by omega)
    obtain ⟨st', T', W', B', P', s1', s2', s3', s4', s5'⟩ := k6 s hs
    have hd := k5.1 k (by omega)
    have hd' := k5.1 s (by omega)
    have hb : f_X8_isBetter (gP σ k) (gP σ s) σ = some (b2 (aBet B B' (aNg w) 0 false), σ) := e_bet_l hw h s4.2.2.2.1 s4'.2.2.2.1 (aNg w) 0 FU false (by omega) (FU_lt (by omega))
    have hb' : f_X10_isBetter (nI k) (nI s) τ = some (b2 (aBet B B' (aNg w) 0 false), τ) := e_betM_l hw hm (by omega) (by omega) s5.2.2.2.1 s5'.2.2.2.1 (aNg w) 0 FU false true (by omega) (FU_lt (by omega))
    rw [f_X8_isWorthHaving_7, k2, if_neg (nI_ge (by omega) (by omega)), if_neg (nI_in (c := k) (N := 13) (by omega) (by omega)), nI_clamp (n := k) (by omega), if_neg (show ¬ 13 ≤ gP σ k by omega), lt_e, if_neg (nI_in (c := s) (N := 13) (by omega) (by omega)), nI_clamp (n := s) (by omega), if_neg (show ¬ 13 ≤ gP σ s by omega), lt_e, hb, bnd_s, lt_e, nI_1, f_X10_isWorthHaving_32, k3, if_neg (nI_ge (by omega) (by omega)), ite10, hb', bnd_s]
    unfold f_X10_isWorthHaving_58
    rw [lt_e, lt_e, nI_1]
    cases aBet B B' (aNg w) 0 false with
    | false =>
      rw [if_pos (by decide), if_pos (by decide)]
      exact e_worth_l hw h hm k1 k2 k3 k5 k6 hs m (k + 1) n n' (by omega) (by omega) (by omega)
    | true =>
      refine ⟨0, by rw [if_neg (by decide)], ?_⟩
      rw [if_neg (by decide)]
      cases n' with
      | zero => omega
      | succ n'' =>
        rw [f_X10_isWorthHaving_32]
        split <;> rfl
theorem op_isWorthHaving {w : AW} {σ τ : Sta} (h : REL w σ τ) (a : Int32) : OP w (f_X8_isWorthHaving a σ) (f_X10_isWorthHaving a τ) eIOB "" "" := by
  have hw := h.1
  have hc := h.2.2.1
  obtain ⟨kp, k1, k2, k3, k4, k5, k6⟩ := h.2.2.2.2.2.1
  unfold f_X8_isWorthHaving f_X10_isWorthHaving f_X10_isWorthHaving_14 f_X10_isWorthHaving_29
  rcases ix_cases a (n := kp) (by omega) with ⟨i, hi, rfl⟩ | ha
  · have h0 := REL_th h 0
    obtain ⟨kp', k1', k2', k3', k4', k5', k6'⟩ := h0.2.2.2.2.2.1
    have hkk : kp' = kp := by
      rw [k2] at k2'
      exact ((nI_eq (by omega) (by omega)).mp k2').symm
    subst hkk
    obtain ⟨r, e1, e2⟩ := e_worth_l hw hc h0.2.2.2.1 k1 k2 k3' k5 k6' hi kp' 0 FU FU (by omega) (FU_lt (by omega)) (FU_lt (by omega))
    rw [e_cStr_in k2 k1 hi, bnx_l, e_mStr_in k3 k1 hi, bnd_s, ite10, lt_e, th_0, ite00]
    exact OP.in r e1 e2 h0 (th_0 _ _)
  · have h0 := REL_th h 1
    obtain ⟨kp', k1', k2', k3', k4', k5', k6'⟩ := h0.2.2.2.2.2.1
    rw [e_cStr_out k2 ha, bnx_r, e_mStr_out k3 k1 ha, bnd_s, ite00, lt_e, th_0, ite10]
    refine OP.e1 (r := 0) rfl ?_ h0 (th_0 _ _)
    rw [show FU = 999999999 + 1 from rfl, f_X10_isWorthHaving_32]
    split <;> rfl
/-! mixes -/
def aMix (B B' : Nat → Int64) (p g : Nat) : Int64 := ((nI p).toInt64 * B g + (nI (100 - p)).toInt64 * B' g) / 100
theorem e_mixed {σ τ : Sta} {w : AW} {a b p g st st' : Nat} {T T' : Nat → Nat → Int32} {W W' : Nat → Nat → Int64} {B B' : Nat → Int64} {P P' : Int32} (hw : AWok w) (k5 : Perm σ) (ha : a < 13) (hb : b < 13) (hp : p ≤ 100) (hg : g < aNg w)
    (s4 : StrC w (gP σ a) st T W B P σ) (s5 : StrM w a st T W B P τ) (s4' : StrC w (gP σ b) st' T' W' B' P' σ) (s5' : StrM w b st' T' W' B' P' τ) :
    f_X8_mixed (nI a) (nI b) (nI p) (nI g) σ = some (aMix B B' p g, σ) ∧ f_X10_mixOf (nI a) (nI b) (nI p) (nI g) τ = some (aMix B B' p g, τ) := by
  have h2 := hw.2.1
  have hd := k5.1 a ha
  have hd' := k5.1 b hb
  constructor
  · unfold f_X8_mixed
    rw [if_neg (nI_in (c := a) (N := 13) (by omega) (by omega)), nI_clamp (n := a) (by omega), if_neg (show ¬ 13 ≤ gP σ a by omega), lt_e, if_neg (nI_in (c := g) (N := 3) (by omega) (by omega)), lt_e, if_neg (nI_in (c := b) (N := 13) (by omega) (by omega)), nI_clamp (n := b) (by omega), if_neg (show ¬ 13 ≤ gP σ b by omega), lt_e, if_neg (nI_in (c := g) (N := 3) (by omega) (by omega)), lt_e, nI_clamp (n := g) (by omega), s4.2.2.2.1 g hg, s4'.2.2.2.1 g hg, show (100 : Int32) - nI p = nI (100 - p) from pk_sub hp]
    rfl
  · unfold f_X10_mixOf
    rw [nI_Lmul, nI_add, nI_Lmul, nI_add, if_neg (nI_in (by omega) (by omega)), if_neg (nI_in (by omega) (by omega)), nI_clamp (by omega), nI_clamp (by omega), s5.2.2.2.1 g hg, s5'.2.2.2.1 g hg, show (100 : Int32) - nI p = nI (100 - p) from pk_sub hp]
    rfl
theorem op_mix {w : AW} {σ τ : Sta} (h : REL w σ τ) (a b c g : Int32) : OP w (f_X8_mix a b c g σ) (f_X10_mix a b c g τ) eIOB eIAE "" := by
  have hw := h.1
  have h2 := hw.2.1
  have hc := h.2.2.1
  have hm := h.2.2.2.1
  obtain ⟨kp, k1, k2, k3, k4, k5, k6⟩ := h.2.2.2.2.2.1
  have hf : f_X10_mix_26 a b c g τ = some (0, sI τ 0 1) := by
    unfold f_X10_mix_26 f_X10_mix_47 f_X10_mix_70
    rw [lt_e, th_0, ite10]
  unfold f_X8_mix f_X10_mix
  rcases ix_cases a (n := kp) (by omega) with ⟨i, hi, rfl⟩ | ha
  · rw [e_cStr_in k2 k1 hi, bnx_l, e_mStr_in k3 k1 hi, bnd_s, ite10]
    rcases ix_cases b (n := kp) (by omega) with ⟨j, hj, rfl⟩ | hb
    · rw [e_cStr_in k2 k1 hj, bnx_l, e_mStr_in k3 k1 hj, bnd_s, ite10]
      rcases ix_cases g (n := aNg w) (by omega) with ⟨v, hv, rfl⟩ | hg
      · rw [e_cGain_in hw hc hv, bnx_l, e_mGain_in hw hm hv, bnd_s, ite10, e_cR, show (100 : Int64) = (100 : Int32).toInt64 by decide, show (0 : Int64) = (0 : Int32).toInt64 by decide, e_isR]
        unfold f_X10_mix_47 f_X10_mix_70
        by_cases h5 : (0 : Int32) ≤ c ∧ c ≤ 100
        · obtain ⟨p, hp, rfl⟩ := nI_of2 (M := 100) (n := 100) (by decide) (fun e => Int32.not_le.mpr e h5.1) h5.2
          have h0 := REL_th h 0
          obtain ⟨_, _, _, _, _, k5', k6'⟩ := h0.2.2.2.2.2.1
          obtain ⟨kp', k1', k2', k3', k4', k5', k6'⟩ := h0.2.2.2.2.2.1
          have hkk : kp' = kp := by
            rw [k2] at k2'
            exact ((nI_eq (by omega) (by omega)).mp k2').symm
          subst hkk
          obtain ⟨st, T, W, B, P, s1, s2, s3, s4, s5⟩ := k6' i hi
          obtain ⟨st', T', W', B', P', s1', s2', s3', s4', s5'⟩ := k6' j hj
          obtain ⟨e1, e2⟩ := e_mixed hw k5 (by omega) (by omega) hp hv s4 s5 s4' s5'
          rw [if_pos h5, if_pos h5, bnx_l, e1, bnd_s, bnd_s, ite10, lt_e, th_0, ite00, e2, bnd_s]
          exact OP.in _ rfl rfl h0 (th_0 _ _)
        · rw [if_neg h5, if_neg h5, bnx_r, bnd_s, ite00, lt_e, th_0, if_neg (by decide)]
          exact OP.e2 rfl rfl (REL_th h 2) (th_0 _ _)
      · rw [e_cGain_out hc hg, bnx_r, e_mGain_out hw hm hg, bnd_s, ite00, hf]
        exact OP.e1 rfl rfl (REL_th h 1) (th_0 _ _)
    · rw [e_cStr_out k2 hb, bnx_r, e_mStr_out k3 k1 hb, bnd_s, ite00, hf]
      exact OP.e1 rfl rfl (REL_th h 1) (th_0 _ _)
  · rw [e_cStr_out k2 ha, bnx_r, e_mStr_out k3 k1 ha, bnd_s, ite00, hf]
    exact OP.e1 rfl rfl (REL_th h 1) (th_0 _ _)
def bOk (v : Int32) : Prop := v = -1 ∨ ∃ j : Nat, j < 10000000 ∧ v = nI j
theorem bOk_neg {v : Int32} (h : bOk v) : (v < 0 ↔ v = -1) := by
  rcases h with h | ⟨j, h1, h2⟩
  · rw [h]; decide
  · rw [h2]
    exact ⟨fun e => absurd e (nI_pos (by omega)), fun e => absurd e (ne_m1 (by omega))⟩
section BM
variable {w : AW} {σ τ : Sta} {kp x y : Nat} {bound : Int64}
theorem e_bm44 (hw : AWok w) (k1 : kp ≤ 12) (k5 : Perm σ) (k6 : ∀ i, i < kp → Kept w i σ τ) (hx : x < aNg w) (hy : y < aNg w) {a b : Nat} (ha : a < kp) (hb : b < kp) {k19 : Int32 → Int32 → Int64 → Int32 → Int64 → Int32 → Sta → Option ((Int32 ⊕ String) × Sta)} {k32 : Int32 → Int32 → Int64 → Int32 → Int64 → Int32 → Int32 → Sta → Option ((Int32 ⊕ String) × Sta)} {k36 : Int32 → Int32 → Int64 → Int32 → Int64 → Int32 → Sta → Option (Int32 × Sta)} {k49 : Int32 → Int32 → Int64 → Int32 → Int64 → Int32 → Int32 → Sta → Option (Int32 × Sta)}
    (kk : ∀ v u, bOk v → ∃ r, k32 (nI x) (nI y) bound v u (nI a) (nI (b + 1)) σ = some (.inl r, σ) ∧ k49 (nI x) (nI y) bound v u (nI a) (nI (b + 1)) τ = some (r, τ)) : ∀ (m p n n' : Nat) (v : Int32) (u : Int64), p + m = 101 → m < n → m < n' → bOk v →
    ∃ r, f_X8_bestMix_44 k19 k32 n (nI x) (nI y) bound v u (nI a) (nI b) (nI p) σ = some (.inl r, σ) ∧ f_X10_bestMix_61 k36 k49 n' (nI x) (nI y) bound v u (nI a) (nI b) (nI p) τ = some (r, τ)
  | _, _, 0, _, _, _, _, hn, _, _ => absurd hn (Nat.not_lt_zero _)
  | _, _, _ + 1, 0, _, _, _, _, hn, _ => absurd hn (Nat.not_lt_zero _)
  | 0, p, n + 1, n' + 1, v, u, hp, hn, hn', hv => by
    obtain ⟨r, e1, e2⟩ := kk v u hv
    refine ⟨r, ?_, ?_⟩
    · rw [f_X8_bestMix_44, if_pos (by rw [nI_Llt (by omega) (by decide)]; omega), lt_e, nI_1]
      exact e1
    · rw [f_X10_bestMix_61, if_pos (by rw [nI_Llt (by omega) (by decide)]; omega), lt_e, nI_1]
      exact e2
  | m + 1, p, n + 1, n' + 1, v, u, hp, hn, hn', hv => by
    obtain ⟨st, T, W, B, P, s1, s2, s3, s4, s5⟩ := k6 a ha
    obtain ⟨st', T', W', B', P', s1', s2', s3', s4', s5'⟩ := k6 b hb
    obtain ⟨x1, x2⟩ := e_mixed hw k5 (by omega) (by omega) (p := p) (by omega) hx s4 s5 s4' s5'
    obtain ⟨y1, y2⟩ := e_mixed hw k5 (by omega) (by omega) (p := p) (by omega) hy s4 s5 s4' s5'
    have ih := fun v u hv => e_bm44 hw k1 k5 k6 hx hy ha hb (k19 := k19) (k36 := k36) kk m (p + 1) n n' v u (by omega) (by omega) (by omega) hv
    have hbest : bOk (nI (100000 * a + 1000 * b + p)) := Or.inr ⟨_, by omega, rfl⟩
    have h100 : ¬ (100 : Int32) < nI p := by
      rw [nI_Llt (by omega) (by decide)]
      omega
    rw [f_X8_bestMix_44, if_neg h100, x1, bnd_s, y1, bnd_s, f_X10_bestMix_61, if_neg h100, y2, bnd_s, x2, bnd_s]
    unfold f_X8_bestMix_93 f_X8_bestMix_114 f_X10_bestMix_110 f_X10_bestMix_141
    simp only [lt_e, nI_1, x2, bnd_s]
    rw [nI_Lmul, nI_Lmul, nI_add, nI_add]
    by_cases h1 : aMix B B' p y < bound
    · rw [if_pos ((lg_cmp_lt _ _).mpr h1), if_pos ((lg_cmp_lt _ _).mpr h1)]
      exact ih v u hv
    · rw [if_neg (fun e => h1 ((lg_cmp_lt _ _).mp e)), if_neg (fun e => h1 ((lg_cmp_lt _ _).mp e))]
      by_cases h2 : v < 0
      · rw [if_pos h2, if_pos ((bOk_neg hv).mp h2)]
        exact ih _ _ hbest
      · rw [if_neg h2, if_neg (fun e => h2 ((bOk_neg hv).mpr e))]
        by_cases h3 : u < aMix B B' p x
        · rw [if_neg (fun e => Int64.not_le.mpr h3 ((lg_cmp_le _ _).mp e)), if_pos ((lg_cmp_gt _ _).mpr h3)]
          exact ih _ _ hbest
        · rw [if_pos ((lg_cmp_le _ _).mpr (Int64.not_lt.mp h3)), if_neg (fun e => h3 ((lg_cmp_gt _ _).mp e))]
          exact ih v u hv
theorem e_bm32 (hw : AWok w) (k1 : kp ≤ 12) (k2 : gI σ 11 = nI kp) (k3 : gI τ 47 = nI kp) (k5 : Perm σ) (k6 : ∀ i, i < kp → Kept w i σ τ) (hx : x < aNg w) (hy : y < aNg w) {a : Nat} (ha : a < kp) {k19 : Int32 → Int32 → Int64 → Int32 → Int64 → Int32 → Sta → Option ((Int32 ⊕ String) × Sta)} {k36 : Int32 → Int32 → Int64 → Int32 → Int64 → Int32 → Sta → Option (Int32 × Sta)}
    (kk : ∀ v u, bOk v → ∃ r, k19 (nI x) (nI y) bound v u (nI (a + 1)) σ = some (.inl r, σ) ∧ k36 (nI x) (nI y) bound v u (nI (a + 1)) τ = some (r, τ)) : ∀ (m b n n' : Nat) (v : Int32) (u : Int64), b + m = kp → m < n → m < n' → bOk v →
    ∃ r, f_X8_bestMix_32 k19 n (nI x) (nI y) bound v u (nI a) (nI b) σ = some (.inl r, σ) ∧ f_X10_bestMix_49 k36 n' (nI x) (nI y) bound v u (nI a) (nI b) τ = some (r, τ)
  | _, _, 0, _, _, _, _, hn, _, _ => absurd hn (Nat.not_lt_zero _)
  | _, _, _ + 1, 0, _, _, _, _, hn, _ => absurd hn (Nat.not_lt_zero _)
  | 0, b, n + 1, n' + 1, v, u, hp, hn, hn', hv => by
    obtain ⟨r, e1, e2⟩ := kk v u hv
    refine ⟨r, ?_, ?_⟩
    · rw [f_X8_bestMix_32, k2, if_pos (nI_le (by omega) (by omega)), lt_e, nI_1]
      exact e1
    · rw [f_X10_bestMix_49, k3, if_pos (nI_le (by omega) (by omega)), lt_e, nI_1]
      exact e2
  | m + 1, b, n + 1, n' + 1, v, u, hp, hn, hn', hv => by
    rw [f_X8_bestMix_32, k2, if_neg (nI_ge (by omega) (by omega)), f_X10_bestMix_49, k3, if_neg (nI_ge (by omega) (by omega))]
    exact e_bm44 hw k1 k5 k6 hx hy ha (by omega) (fun v u hv => e_bm32 hw k1 k2 k3 k5 k6 hx hy ha kk m (b + 1) n n' v u (by omega) (by omega) (by omega) hv) 101 0 FU FU v u (by omega) (FU_lt (by omega)) (FU_lt (by omega)) hv
theorem e_bm19 (hw : AWok w) (k1 : kp ≤ 12) (k2 : gI σ 11 = nI kp) (k3 : gI τ 47 = nI kp) (k5 : Perm σ) (k6 : ∀ i, i < kp → Kept w i σ τ) (hx : x < aNg w) (hy : y < aNg w) : ∀ (m a n n' : Nat) (v : Int32) (u : Int64), a + m = kp → m < n → m < n' → bOk v →
    ∃ r, f_X8_bestMix_19 n (nI x) (nI y) bound v u (nI a) σ = some (.inl r, σ) ∧ f_X10_bestMix_36 n' (nI x) (nI y) bound v u (nI a) τ = some (r, τ)
  | _, _, 0, _, _, _, _, hn, _, _ => absurd hn (Nat.not_lt_zero _)
  | _, _, _ + 1, 0, _, _, _, _, hn, _ => absurd hn (Nat.not_lt_zero _)
  | 0, a, n + 1, n' + 1, v, u, hp, hn, hn', hv => by
    refine ⟨v, ?_, ?_⟩
    · rw [f_X8_bestMix_19, k2, if_pos (nI_le (by omega) (by omega))]
    · rw [f_X10_bestMix_36, k3, if_pos (nI_le (by omega) (by omega))]
  | m + 1, a, n + 1, n' + 1, v, u, hp, hn, hn', hv => by
    rw [f_X8_bestMix_19, k2, if_neg (nI_ge (by omega) (by omega)), f_X10_bestMix_36, k3, if_neg (nI_ge (by omega) (by omega))]
    exact e_bm32 hw k1 k2 k3 k5 k6 hx hy (by omega) (fun v u hv => e_bm19 hw k1 k2 k3 k5 k6 hx hy m (a + 1) n n' v u (by omega) (by omega) (by omega) hv) (kp - a) a FU FU v u (by omega) (FU_lt (by omega)) (FU_lt (by omega)) hv
end BM
theorem op_bestMix {w : AW} {σ τ : Sta} (h : REL w σ τ) (a b : Int32) (c : Int64) : OP w (f_X8_bestMix a b c σ) (f_X10_bestMix a b c τ) eIOB "" "" := by
  have hw := h.1
  have h2 := hw.2.1
  have hc := h.2.2.1
  have h0 := REL_th h 0
  have hm := h0.2.2.2.1
  obtain ⟨kp, k1, k2, k3, k4, k5, k6⟩ := h0.2.2.2.2.2.1
  have hf : f_X10_bestMix_21 (sI τ 0 0) = some (0, sI (sI τ 0 0) 0 1) := rfl
  unfold f_X8_bestMix f_X10_bestMix
  rw [lt_e]
  rcases ix_cases a (n := aNg w) (by omega) with ⟨x, hx, rfl⟩ | ha
  · rw [e_cGain_in hw hc hx, bnx_l, e_mGain_in hw hm hx, bnd_s, ite10]
    rcases ix_cases b (n := aNg w) (by omega) with ⟨y, hy, rfl⟩ | hb
    · rw [e_cGain_in hw hc hy, bnx_l, e_mGain_in hw hm hy, bnd_s, ite10, lt_e, lt_e]
      obtain ⟨r, e1, e2⟩ := e_bm19 (bound := c) hw k1 k2 k3 k5 k6 hx hy kp 0 FU FU (-1) 0 (by omega) (FU_lt (by omega)) (FU_lt (by omega)) (Or.inl rfl)
      exact OP.in r e1 e2 h0 (th_0 _ _)
    · rw [e_cGain_out hc hb, bnx_r, e_mGain_out hw hm hb, bnd_s, ite00, hf]
      exact OP.e1 rfl rfl (REL_fail h 0 1) (th_0 _ _)
  · rw [e_cGain_out hc ha, bnx_r, e_mGain_out hw hm ha, bnd_s, ite00, hf]
    exact OP.e1 rfl rfl (REL_fail h 0 1) (th_0 _ _)
