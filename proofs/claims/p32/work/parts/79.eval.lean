/-! A list of codes over a stack. -/
def bopb (k : Nat) : Bool := k == 37 || k == 42 || k == 43 || k == 45 || k == 60 || k == 61 || k == 62 || k == 267 || k == 270 || k == 271 || k == 276 || k == 277
theorem bopb_e {k : Nat} (h : bopb k = true) : bop k := by
  unfold bopb at h
  simp only [Bool.or_eq_true, beq_iff_eq] at h
  unfold bop
  omega
def evS (x y : Int64) : List Tk → List Int64 → Option (List Int64)
  | [], st => some st
  | p :: l, st =>
    if p.1 = 274 then evS x y l (lN p.2 :: st)
    else if p.1 = 273 then (if p.2 = 120 then evS x y l (x :: st) else if p.2 = 121 then evS x y l (y :: st) else none)
    else if p.1 = 280 ∨ p.1 = 272 then (match st with
      | v :: r => evS x y l (un p.1 v :: r)
      | [] => none)
    else if bopb p.1 = true then (match st with
      | v :: u :: r => evS x y l (bn p.1 u v :: r)
      | _ => none)
    else none
theorem evS_c (x y : Int64) (p : Tk) (l : List Tk) (st : List Int64) : evS x y (p :: l) st = (if p.1 = 274 then evS x y l (lN p.2 :: st)
    else if p.1 = 273 then (if p.2 = 120 then evS x y l (x :: st) else if p.2 = 121 then evS x y l (y :: st) else none)
    else if p.1 = 280 ∨ p.1 = 272 then (match st with
      | v :: r => evS x y l (un p.1 v :: r)
      | [] => none)
    else if bopb p.1 = true then (match st with
      | v :: u :: r => evS x y l (bn p.1 u v :: r)
      | _ => none)
    else none) := rfl
def SK (σ : Sta) : Nat → List Int64 → Prop
  | d, [] => d = 0
  | d, v :: r => ∃ k, d = k + 1 ∧ gJ σ 18 k = v ∧ SK σ k r
theorem SK_k {σ σ' : Sta} : ∀ (st : List Int64) (d : Nat), (∀ j, j < d → gJ σ' 18 j = gJ σ 18 j) → SK σ d st → SK σ' d st
  | [], _, _, h => h
  | v :: r, d, hj, ⟨k, e1, e2, e3⟩ => ⟨k, e1, by rw [hj k (by omega)]; exact e2, SK_k r k (fun j h => hj j (by omega)) e3⟩
def vJ (σ : Sta) (k : Nat) (v : Int64) : Sta := sJ σ 18 (vp_updL (gJ σ 18) k v)
theorem vJ_k (σ : Sta) (k : Nat) (v : Int64) : Kp n0 n0 n0 k18 σ (vJ σ k v) := Kp.sJ rfl Kp.rfl'
theorem SK_v {σ : Sta} {d k : Nat} {st : List Int64} (v : Int64) (h : SK σ d st) (hd : d ≤ k) (e : k = d) : SK (vJ σ k v) (k + 1) (v :: st) := by
  refine ⟨k, rfl, ?_, ?_⟩
  · show vp_updL (gJ σ 18) k v k = v
    rw [updL_at, if_pos rfl]
  · subst e
    refine SK_k st k (fun j hj => ?_) h
    show vp_updL (gJ σ 18) k v j = _
    rw [updL_at, if_neg (by omega)]
/-- what reckoning reads and does not change -/
theorem WR_18 {vr : Nat → Int32} {σ σ' : Sta} (h : Kp n0 n0 n0 k18 σ σ') {l : List Tk} {b : Nat} (hw : WR vr σ b l) : WR vr σ' b l :=
  WR_low l b (b + l.length) (Nat.le_refl _) (fun j _ => ⟨by rw [h.2.2.1 14 (fun e => e)], by rw [h.2.2.2.1 15 (fun e => absurd e (by unfold k18; decide))]⟩) hw
theorem e_push {σ : Sta} {d : Nat} (hd : d < 60) (v : Int64) : f_X0_push (nI d) v σ = some (nI (d + 1), vJ σ d v) := by
  unfold f_X0_push vJ
  rw [if_pos (show nI d < 60 from nI_lt (b := 60) hd (by decide)), if_neg (nI_in hd (by decide)), lt_e, nI_clamp (by omega), nI_1]
section EV
variable {vr : Nat → Int32} {e en f : Nat} {x y : Int64}
theorem e_evS (he : e < 1500) (hen : en ≤ 1500) (hf : f + 6 ≤ 600) (hx : vr 120 = nI 0) (hy : vr 121 = nI 1) : ∀ (o : List Tk) (b d n : Nat) (st st' : List Int64) (σ : Sta), WR vr σ b o → SK σ d st → evS x y o st = some st' → d + o.length ≤ 60 → o.length < n → b + o.length = en → gA σ 17 e = nI en → (gA σ 32 f).toInt64 = x → (gA σ 32 (f + 1)).toInt64 = y →
    ∃ n' d' σ', f_X0_reckon_25 n (nI e) (nI f) (nI d) (nI b) σ = f_X0_reckon_25 (n' + 1) (nI e) (nI f) (nI d') (nI en) σ' ∧ SK σ' d' st' ∧ Kp n0 n0 n0 k18 σ σ'
  | [], b, d, n, st, st', σ, _, hS, hv, _, hn, hb, _, _, _ => by
    obtain ⟨n, rfl⟩ : ∃ k, n = k + 1 := ⟨n - 1, by have : 0 < n := hn; omega⟩
    have hb' : b + 0 = en := hb
    obtain rfl : b = en := by omega
    cases hv
    exact ⟨n, d, σ, rfl, hS, Kp.rfl'⟩
  | p :: l, b, d, n, st, st', σ, hW, hS, hv, hd, hn, hb, h17, hX, hY => by
    obtain ⟨n, rfl⟩ : ∃ k, n = k + 1 := ⟨n - 1, by have : 0 < n := Nat.lt_of_le_of_lt (Nat.zero_le _) hn; omega⟩
    have hn' : l.length + 1 < n + 1 := hn
    have hb' : b + (l.length + 1) = en := hb
    have hd' : d + (l.length + 1) ≤ 60 := hd
    obtain ⟨w1, w2, w3⟩ := hW
    -- one code, and the rest
    have go : ∀ (d2 : Nat) (st2 : List Int64) (σ2 : Sta), f_X0_reckon_25 (n + 1) (nI e) (nI f) (nI d) (nI b) σ = f_X0_reckon_25 n (nI e) (nI f) (nI d2) (nI (b + 1)) σ2 → SK σ2 d2 st2 → Kp n0 n0 n0 k18 σ σ2 → evS x y l st2 = some st' → d2 ≤ d + 1 → ∃ n' d' σ', f_X0_reckon_25 (n + 1) (nI e) (nI f) (nI d) (nI b) σ = f_X0_reckon_25 (n' + 1) (nI e) (nI f) (nI d') (nI en) σ' ∧ SK σ' d' st' ∧ Kp n0 n0 n0 k18 σ σ' := fun d2 st2 σ2 g1 g2 g3 g4 g5 => by
      obtain ⟨n', d', σ', r1, r2, r3⟩ := e_evS he hen hf hx hy l (b + 1) d2 n st2 st' σ2 (WR_18 g3 w3) g2 g4 (by omega) (by omega) (by omega) (by rw [g3.2.2.1 17 (fun e => e)]; exact h17) (by rw [g3.2.2.1 32 (fun e => e)]; exact hX) (by rw [g3.2.2.1 32 (fun e => e)]; exact hY)
      exact ⟨n', d', σ', g1.trans r1, r2, g3.trans r3⟩
    have head : f_X0_reckon_25 (n + 1) (nI e) (nI f) (nI d) (nI b) σ = (lt (nI p.1) (fun x6 =>
      if x6 = 274 then
        bnd (f_X0_push (nI d) (od vr p) σ) (fun r38 σ39 => f_X0_reckon_188 (f_X0_reckon_25 n) (nI e) (nI f) r38 (nI b) σ39)
      else
        if x6 = 273 then
          lt (nI f + ((od vr p).toInt32)) (fun x30 =>
          bnd (f_X8_entry 32 600 x30 σ) (fun r31 σ32 =>
          bnd (f_X0_push (nI d) r31.toInt64 σ32) (fun r34 σ35 =>
          f_X0_reckon_188 (f_X0_reckon_25 n) (nI e) (nI f) r34 (nI b) σ35)))
        else
          bnd (f_X0_isUnary x6 σ) (fun r9 σ10 =>
          if r9 = 0 then
            if nI d < 2 then
              f_X0_reckon_188 (f_X0_reckon_25 n) (nI e) (nI f) (nI d) (nI b) σ10
            else
              lt (nI d + (-1)) (fun x14 =>
              if x14 - 1 < 0 ∨ 60 ≤ ((x14 - 1).toNatClampNeg) then none else (
              if x14 < 0 ∨ 60 ≤ (x14.toNatClampNeg) then none else (
              bnd (f_X0_binary x6 (gJ σ10 18 ((x14 - 1).toNatClampNeg)) (gJ σ10 18 (x14.toNatClampNeg)) σ10) (fun r17 σ18 =>
              if x14 - 1 < 0 ∨ 60 ≤ ((x14 - 1).toNatClampNeg) then none else (
              lt (sJ σ18 18 (vp_updL (gJ σ18 18) ((x14 - 1).toNatClampNeg) r17)) (fun σ21 =>
              f_X0_reckon_188 (f_X0_reckon_25 n) (nI e) (nI f) x14 (nI b) σ21)))))) 
          else
            if nI d < 1 then
              f_X0_reckon_188 (f_X0_reckon_25 n) (nI e) (nI f) (nI d) (nI b) σ10
            else
              if nI d - 1 < 0 ∨ 60 ≤ ((nI d - 1).toNatClampNeg) then none else (
              bnd (f_X0_unary x6 (gJ σ10 18 ((nI d - 1).toNatClampNeg)) σ10) (fun r24 σ25 =>
              if nI d - 1 < 0 ∨ 60 ≤ ((nI d - 1).toNatClampNeg) then none else (
              lt (sJ σ25 18 (vp_updL (gJ σ25 18) ((nI d - 1).toNatClampNeg) r24)) (fun σ28 =>
              f_X0_reckon_188 (f_X0_reckon_25 n) (nI e) (nI f) (nI d) (nI b) σ28))))))) := by
      rw [f_X0_reckon_25, if_neg (nI_in he (by decide)), nI_clamp (by omega), h17, if_neg (nI_ge (by omega) (by omega)), if_neg (nI_in (by omega) (by decide)), nI_clamp (by omega), w1, if_neg (show ¬ (nI b < 0 ∨ 1500 ≤ b) from nI_in2 (by omega) (by omega)), if_neg (show ¬ (nI b < 0 ∨ 1500 ≤ b) from nI_in2 (by omega) (by omega)), w2]
    rw [lt_e] at head
    rw [evS_c] at hv
    by_cases q1 : p.1 = 274
    · rw [if_pos q1] at hv
      rw [q1, if_pos (show nI 274 = 274 from rfl), e_push (by omega), bnd_s] at head
      have eo : od vr p = lN p.2 := if_neg (by rw [q1]; decide)
      rw [eo] at head
      refine go (d + 1) _ _ (head.trans ?_) (SK_v (lN p.2) hS (Nat.le_refl _) rfl) (vJ_k _ _ _) hv (Nat.le_refl _)
      unfold f_X0_reckon_188
      rw [lt_e, nI_1]
    rw [if_neg q1] at hv
    by_cases q2 : p.1 = 273
    · rw [if_pos q2] at hv
      have eo : od vr p = (vr p.2).toInt64 := if_pos q2
      rw [q2, if_neg (show ¬ nI 273 = 274 by decide), if_pos (show nI 273 = 273 from rfl), lt_e, eo] at head
      have both : ∀ (i : Nat) (v : Int64), i < 6 → vr p.2 = nI i → (gA σ 32 (f + i)).toInt64 = v → evS x y l (v :: st) = some st' → ∃ n' d' σ', f_X0_reckon_25 (n + 1) (nI e) (nI f) (nI d) (nI b) σ = f_X0_reckon_25 (n' + 1) (nI e) (nI f) (nI d') (nI en) σ' ∧ SK σ' d' st' ∧ Kp n0 n0 n0 k18 σ σ' := fun i v hi h1 h2 h3 => by
        have e32 : (nI i).toInt64.toInt32 = nI i := by rw [nI_l (by omega), lN_i]
        rw [h1, e32, nI_add, e_entry (by omega) (by decide), bnd_s, h2, e_push (by omega), bnd_s] at head
        refine go (d + 1) _ _ (head.trans ?_) (SK_v v hS (Nat.le_refl _) rfl) (vJ_k _ _ _) h3 (Nat.le_refl _)
        unfold f_X0_reckon_188
        rw [lt_e, nI_1]
      by_cases r1 : p.2 = 120
      · rw [if_pos r1] at hv
        exact both 0 x (by decide) (by rw [r1]; exact hx) hX hv
      rw [if_neg r1] at hv
      by_cases r2 : p.2 = 121
      · rw [if_pos r2] at hv
        exact both 1 y (by decide) (by rw [r2]; exact hy) hY hv
      · rw [if_neg r2] at hv
        cases hv
    rw [if_neg q2] at hv
    by_cases q3 : p.1 = 280 ∨ p.1 = 272
    · rw [if_pos q3] at hv
      cases st with
      | nil => cases hv
      | cons v r =>
        obtain ⟨k, rfl, s1, s2⟩ := hS
        rw [if_neg (by rcases q3 with q | q <;> rw [q] <;> decide), if_neg (by rcases q3 with q | q <;> rw [q] <;> decide), e_isUn q3, bnd_s, if_neg (by decide), if_neg (show ¬ nI (k + 1) < 1 from nI_nlt (b := 1) (by omega) (by omega)), nI_pred, if_neg (nI_in (by omega) (by decide)), nI_clamp (by omega), s1, e_un q3, bnd_s, if_neg (show ¬ (nI k < 0 ∨ 60 ≤ k) from nI_in2 (by omega) (by omega)), lt_e] at head
        refine go (k + 1) _ (vJ σ k (un p.1 v)) (head.trans ?_) (SK_v _ s2 (Nat.le_refl _) rfl) (vJ_k _ _ _) hv (by omega)
        unfold f_X0_reckon_188
        rw [lt_e, nI_1]
        rfl
    rw [if_neg q3] at hv
    by_cases q4 : bopb p.1 = true
    · rw [if_pos q4] at hv
      have hb4 := bopb_e q4
      match st, hv, hS with
      | v :: u :: r, hv, hS =>
        obtain ⟨k1, rfl, s1, k, rfl, s2, s3⟩ := hS
        have nk : ∀ m, m < 300 → p.1 ≠ m → ¬ nI p.1 = nI m := fun m hm hne => nI_neq (by unfold bop at hb4; omega) (by omega) hne
        rw [if_neg (show ¬ nI p.1 = 274 from nk 274 (by decide) q1), if_neg (show ¬ nI p.1 = 273 from nk 273 (by decide) q2), e_isBn hb4, bnd_s, if_pos rfl, if_neg (show ¬ nI (k + 1 + 1) < 2 from nI_nlt (b := 2) (by omega) (by omega)), pk_m1, lt_e, nI_pred, if_neg (nI_in (by omega) (by decide)), if_neg (nI_in (by omega) (by decide)), nI_clamp (by omega), nI_clamp (by omega), s1, s2, e_bin hb4, bnd_s, if_neg (show ¬ (nI k < 0 ∨ 60 ≤ k) from nI_in2 (by omega) (by omega)), lt_e] at head
        refine go (k + 1) _ (vJ σ k (bn p.1 u v)) (head.trans ?_) (SK_v _ s3 (Nat.le_refl _) rfl) (vJ_k _ _ _) hv (by omega)
        unfold f_X0_reckon_188
        rw [lt_e, nI_1]
        rfl
      | [v], hv, _ => cases hv
      | [], hv, _ => cases hv
    · rw [if_neg q4] at hv
      cases hv
/-- an expression's value -/
theorem e_reck {σ : Sta} {c xx : Nat} {o : List Tk} {v : Int64} (h : EQ vr σ c xx e o) (hc : c ≤ 1500) (h133 : gI σ 133 = nI xx) (hxx : xx ≤ 1500) (hf : f + 6 ≤ 600) (hx : vr 120 = nI 0) (hy : vr 121 = nI 1) (hX : (gA σ 32 f).toInt64 = x) (hY : (gA σ 32 (f + 1)).toInt64 = y) (hv : evS x y o [] = some [v]) (hl : o.length ≤ 50) :
    ∃ σ', f_X0_reckon (nI e) (nI f) σ = some (v, σ') ∧ Kp n0 n0 n0 k18 σ σ' := by
  obtain ⟨b, h1, h2, h3, h4, h5⟩ := h
  obtain ⟨n', d', σ', r1, ⟨k, rfl, s1, s2⟩, r3⟩ := e_evS (e := e) (en := b + o.length) (f := f) (by omega) (by omega) hf hx hy o b 0 FU [] [v] σ h5 rfl hv (by omega) (Nat.lt_of_le_of_lt hl (FU_lt (by decide))) rfl h3 hX hY
  have hk : k = 0 := s2
  subst hk
  refine ⟨σ', ?_, r3⟩
  unfold f_X0_reckon
  rw [if_neg (nI_pos (by omega)), h133, if_pos (nI_lt h1 (by omega)), if_neg (nI_in (by omega) (by decide)), nI_clamp (by omega), h2, lt_e]
  refine r1.trans ?_
  rw [f_X0_reckon_25, if_neg (nI_in (by omega) (by decide)), nI_clamp (by omega), r3.2.2.1 17 (fun e => e), h3, if_pos (nI_le (Nat.le_refl _) (by omega)), if_neg (show ¬ nI (0 + 1) ≤ 0 from nI_nle (by decide) (by decide)), if_neg (by decide)]
  show some (gJ σ' 18 0, σ') = _
  rw [s1]
end EV
