/-! sweep -/
def aSame (f g : Nat → Int64) : Nat → Nat → Bool
  | 0, _ => true
  | m + 1, k => decide (f k = g k) && aSame f g m (k + 1)
theorem e_same13 {w : AW} {σ : Sta} (hw : AWok w) (h : AC w σ) (hP : Perm σ) {d i : Nat} {F G : Nat → Int64} {v2 : Int32} {k2 : Int32 → Int32 → Sta → Option (Int32 × Sta)} (hi : i < 13) (hF : ∀ g, g < aNg w → gJ σ (41 + 5 * gP σ i + 4) g = F g) (hG : ∀ g, g < aNg w → gJ σ (41 + 5 * d + 4) g = G g) : ∀ (m k n : Nat) (fl : Bool), k + m = aNg w → m < n →
    f_X8_isBroughtAlready_13 d k2 n v2 (nI i) (b2 fl) (nI k) σ = if (fl && aSame F G m k) = true then some (1, σ) else k2 v2 (nI (i + 1)) σ
  | _, _, 0, _, _, hn => absurd hn (Nat.not_lt_zero _)
  | 0, k, n + 1, fl, hk, hn => by
    have h2 := hw.2.1
    rw [f_X8_isBroughtAlready_13, h.2.1, if_pos (nI_le (by omega) (by omega)), lt_e, nI_1]
    cases fl <;> rfl
  | m + 1, k, n + 1, fl, hk, hn => by
    have h2 := hw.2.1
    have hd := hP.1 i hi
    have ih := fun b => e_same13 (v2 := v2) (k2 := k2) hw h hP hi hF hG m (k + 1) n b (by omega) (by omega)
    rw [f_X8_isBroughtAlready_13, h.2.1, if_neg (nI_ge (by omega) (by omega)), aSame]
    unfold f_X8_isBroughtAlready_57 f_X8_isBroughtAlready_58
    rw [lt_e, lt_e, nI_1]
    cases fl with
    | false =>
      rw [if_pos (by decide)]
      exact ih false
    | true =>
      rw [if_neg (by decide), if_neg (nI_in (c := i) (N := 13) (by omega) (by omega)), nI_clamp (n := i) (by omega), if_neg (show ¬ 13 ≤ gP σ i by omega), lt_e, if_neg (nI_in (c := k) (N := 3) (by omega) (by omega)), if_neg (nI_in (c := k) (N := 3) (by omega) (by omega)), nI_clamp (by omega), hF k (by omega), hG k (by omega)]
      by_cases h4 : F k = G k
      · rw [if_pos ((lg_cmp_eq _ _).mpr h4), decide_eq_true h4]
        exact ih true
      · rw [if_neg (fun e => h4 ((lg_cmp_eq _ _).mp e)), decide_eq_false h4]
        exact ih false
theorem e_sameM {w : AW} {τ : Sta} (hw : AWok w) (h : AM w τ) {i j : Nat} {F G : Nat → Int64} (hi : i < 22) (hj : j < 22) (hF : ∀ g, g < aNg w → gJ τ 33 (3 * i + g) = F g) (hG : ∀ g, g < aNg w → gJ τ 33 (3 * j + g) = G g) : ∀ (m k n : Nat) (fl : Bool), k + m = aNg w → m < n →
    f_X10_bringsTheSame_5 n (nI i) (nI j) (b2 fl) (nI k) τ = some (b2 (fl && aSame F G m k), τ)
  | _, _, 0, _, _, hn => absurd hn (Nat.not_lt_zero _)
  | 0, k, n + 1, fl, hk, hn => by
    have h2 := hw.2.1
    rw [f_X10_bringsTheSame_5, h.2.1, if_pos (nI_le (by omega) (by omega)), if_neg (b2_ok fl)]
    cases fl <;> rfl
  | m + 1, k, n + 1, fl, hk, hn => by
    have h2 := hw.2.1
    have ih := fun b => e_sameM hw h hi hj hF hG m (k + 1) n b (by omega) (by omega)
    rw [f_X10_bringsTheSame_5, h.2.1, if_neg (nI_ge (by omega) (by omega)), aSame]
    unfold f_X10_bringsTheSame_48 f_X10_bringsTheSame_49
    rw [lt_e, lt_e, nI_1]
    cases fl with
    | false =>
      rw [if_pos (by decide)]
      exact ih false
    | true =>
      rw [if_neg (by decide), nI_Lmul, nI_add, nI_Lmul, nI_add, if_neg (nI_in (by omega) (by omega)), if_neg (nI_in (by omega) (by omega)), nI_clamp (by omega), nI_clamp (by omega), hF k (by omega), hG k (by omega)]
      by_cases h4 : F k = G k
      · rw [if_pos ((lg_cmp_eq _ _).mpr h4), decide_eq_true h4]
        exact ih true
      · rw [if_neg (fun e => h4 ((lg_cmp_eq _ _).mp e)), decide_eq_false h4]
        exact ih false
section SW
variable {w : AW} {k77 : Int32 → Int32 → Int32 → Int32 → Int32 → Int32 → Sta → Option (Int32 × Sta)} {v1 v2 v3 v4 v7 : Int32}
/-- the reference's search, when one that is the same is found already -/
theorem e_s113_0 {τ : Sta} {ka : Nat} (hka : ka < 22) : ∀ (m o n : Nat), o + m = ka → m < n → f_X10_sweep_113 k77 n v1 v2 v3 v4 (nI ka) v7 0 (nI o) τ = f_X10_sweep_161 k77 v1 v2 v3 v4 v7 0 (nI ka) τ
  | _, _, 0, _, hn => absurd hn (Nat.not_lt_zero _)
  | 0, o, n + 1, ho, hn => by
    rw [f_X10_sweep_113, if_pos (nI_le (by omega) (by omega)), ite00]
  | m + 1, o, n + 1, ho, hn => by
    rw [f_X10_sweep_113, if_neg (nI_ge (by omega) (by omega)), ite00]
    unfold f_X10_sweep_140 f_X10_sweep_141
    rw [lt_e, nI_1]
    exact e_s113_0 hka m (o + 1) n (by omega) (by omega)
theorem e_s113_1 {τ : Sta} (hw : AWok w) (h : AM w τ) {ka : Nat} (hka : ka < 22) : ∀ (m o n : Nat), o + m = ka → m < n → ∃ b : Bool, f_X10_sweep_113 k77 n v1 v2 v3 v4 (nI ka) v7 1 (nI o) τ = f_X10_sweep_161 k77 v1 v2 v3 v4 v7 (b2 b) (nI ka) τ
  | _, _, 0, _, hn => absurd hn (Nat.not_lt_zero _)
  | 0, o, n + 1, ho, hn => ⟨true, by rw [f_X10_sweep_113, if_pos (nI_le (by omega) (by omega)), ite10]; rfl⟩
  | m + 1, o, n + 1, ho, hn => by
    have h2 := hw.2.1
    have hb : f_X10_bringsTheSame (nI o) (nI ka) τ = some (b2 (true && aSame (fun g => gJ τ 33 (3 * o + g)) (fun g => gJ τ 33 (3 * ka + g)) (aNg w) 0), τ) := e_sameM hw h (i := o) (j := ka) (by omega) hka (fun _ _ => rfl) (fun _ _ => rfl) (aNg w) 0 FU true (by omega) (FU_lt (by omega))
    rw [f_X10_sweep_113, if_neg (nI_ge (by omega) (by omega)), ite10, hb, bnd_s]
    unfold f_X10_sweep_140 f_X10_sweep_141
    rw [lt_e, lt_e, nI_1]
    cases (true && aSame (fun g => gJ τ 33 (3 * o + g)) (fun g => gJ τ 33 (3 * ka + g)) (aNg w) 0) with
    | false =>
      rw [if_pos (by decide)]
      exact e_s113_1 hw h hka m (o + 1) n (by omega) (by omega)
    | true =>
      rw [if_neg (by decide)]
      exact ⟨false, e_s113_0 hka m (o + 1) n (by omega) (by omega)⟩
/-- both search -/
theorem e_brought {σ τ : Sta} (hw : AWok w) (hc : AC w σ) (h : AM w τ) (hP : Perm σ) {ka : Nat} (hka : ka ≤ 12) (hK : ∀ j, j < ka + 1 → Kept w j σ τ) : ∀ (m o n n' : Nat), o + m = ka → m < n → m < n' →
    ∃ b : Bool, f_X8_isBroughtAlready_2 (gP σ ka) n (nI ka) (nI o) σ = some (b2 b, σ) ∧ f_X10_sweep_113 k77 n' v1 v2 v3 v4 (nI ka) v7 1 (nI o) τ = f_X10_sweep_161 k77 v1 v2 v3 v4 v7 (b2 (!b)) (nI ka) τ
  | _, _, 0, _, _, hn, _ => absurd hn (Nat.not_lt_zero _)
  | _, _, _ + 1, 0, _, _, hn => absurd hn (Nat.not_lt_zero _)
  | 0, o, n + 1, n' + 1, ho, hn, hn' => by
    refine ⟨false, ?_, ?_⟩
    · rw [f_X8_isBroughtAlready_2, if_pos (nI_le (by omega) (by omega))]
      rfl
    · rw [f_X10_sweep_113, if_pos (nI_le (by omega) (by omega)), ite10]
      rfl
  | m + 1, o, n + 1, n' + 1, ho, hn, hn' => by
    have h2 := hw.2.1
    obtain ⟨st, T, W, B, P, s1, s2, s3, s4, s5⟩ := hK o (by omega)
    obtain ⟨st', T', W', B', P', s1', s2', s3', s4', s5'⟩ := hK ka (by omega)
    have hb : f_X10_bringsTheSame (nI o) (nI ka) τ = some (b2 (true && aSame B B' (aNg w) 0), τ) := e_sameM hw h (by omega) (by omega) s5.2.2.2.1 s5'.2.2.2.1 (aNg w) 0 FU true (by omega) (FU_lt (by omega))
    have hd : f_X8_isBroughtAlready_13 (gP σ ka) (f_X8_isBroughtAlready_2 (gP σ ka) n) FU (nI ka) (nI o) 1 0 σ = if (true && aSame B B' (aNg w) 0) = true then some (1, σ) else f_X8_isBroughtAlready_2 (gP σ ka) n (nI ka) (nI (o + 1)) σ := e_same13 hw hc hP (by omega) s4.2.2.2.1 s4'.2.2.2.1 (aNg w) 0 FU true (by omega) (FU_lt (by omega))
    rw [f_X8_isBroughtAlready_2, if_neg (nI_ge (by omega) (by omega)), hd, f_X10_sweep_113, if_neg (nI_ge (by omega) (by omega)), ite10, hb, bnd_s]
    unfold f_X10_sweep_140 f_X10_sweep_141
    rw [lt_e, lt_e, nI_1]
    cases (true && aSame B B' (aNg w) 0) with
    | false =>
      rw [if_neg (by decide), if_pos (by decide)]
      exact e_brought hw hc h hP hka hK m (o + 1) n n' (by omega) (by omega) (by omega)
    | true =>
      rw [if_pos rfl, if_neg (by decide)]
      exact ⟨true, rfl, e_s113_0 (by omega) m (o + 1) n' (by omega) (by omega)⟩
end SW
def kAS : Nat → Prop := fun q => q = 30 ∨ q = 31 ∨ q = 34 ∨ q = 38
theorem AM_S {w : AW} {τ τ' : Sta} (h : Kp n0 n0 kAS kJM τ τ') (h0 : AM w τ) : AM w τ' :=
  AM_kp h ⟨id, id, id⟩ ⟨by unfold kAS; omega, by unfold kAS; omega, by unfold kAS; omega, by unfold kAS; omega, by unfold kAS; omega, by unfold kAS; omega, by unfold kAS; omega⟩ (by unfold kJM; omega) h0
theorem KM_S {k : Nat} {τ τ' : Sta} (h : KM k τ τ') : Kp n0 n0 kAS kJM τ τ' := h.1.mono (fun _ e => e) (fun _ e => e) (fun _ e => by unfold kAM at e; unfold kAS; omega) (fun _ e => e)
def wSet (τ : Sta) (x y k n : Nat) : Sta := sA (sA τ 38 (upd (gA τ 38) x (nI k))) 38 (upd (gA (sA τ 38 (upd (gA τ 38) x (nI k))) 38) y (nI n - nI k))
theorem wSet_S {τ : Sta} {x y k n : Nat} : Kp n0 n0 kAS kJM τ (wSet τ x y k n) := Kp.sA (Or.inr (Or.inr (Or.inr rfl))) (Kp.sA (Or.inr (Or.inr (Or.inr rfl))) Kp.rfl')
theorem StrM_38 {w : AW} {i st : Nat} {T : Nat → Nat → Int32} {W : Nat → Nat → Int64} {B : Nat → Int64} {P : Int32} {τ : Sta} {x y k n : Nat} (h : StrM w i st T W B P τ) : StrM w i st T W B P (wSet τ x y k n) := by
  unfold wSet StrM at *
  simp only [gA_sA, gJ_sA]
  exact h
/-- too many: the reference goes on to the end -/
theorem e_sweepM {w : AW} (hw : AWok w) (h0 : 0 < aNs w) {x y nn st : Nat} (hx : x < 3) (hy : y < 3) (hst : st ≤ 30) : ∀ (m k ka n : Nat) (τ : Sta), k + m = nn + 1 → m < n → nn ≤ 9 → 13 ≤ ka → ka + m ≤ 22 → AM w τ →
    ∃ r τ', f_X10_sweep_77 n (nI x) (nI y) (nI nn) (nI st) (nI ka) (nI k) τ = some (r, sI τ' 0 3) ∧ Kp n0 n0 kAS kJM τ τ' ∧ (∀ i st T W B P, i < 13 → st ≤ 30 → StrM w i st T W B P τ → StrM w i st T W B P τ')
  | _, _, _, 0, _, _, hn, _, _, _, _ => absurd hn (Nat.not_lt_zero _)
  | 0, k, ka, n + 1, τ, hk, hn, hnn, h13, h22, h => by
    refine ⟨0, τ, ?_, Kp.rfl', fun _ _ _ _ _ _ _ _ e => e⟩
    rw [f_X10_sweep_77, if_pos (nI_lt (by omega) (by omega)), if_neg (by rw [nI_leL (by omega) (by decide)]; omega), e_failM, bnd_s]
  | m + 1, k, ka, n + 1, τ, hk, hn, hnn, h13, h22, h => by
    have hS := wSet_S (τ := τ) (x := x) (y := y) (k := k) (n := nn)
    obtain ⟨τ1, b1, b2', b3⟩ := e_make (wt := gA (wSet τ x y k nn) 38) (q2 := 38) (k := ka) (st := st) hw h0 (by decide) (by omega) hst (AM_S hS h) (fun _ _ => rfl)
    have hS1 := hS.trans (KM_S b2')
    obtain ⟨b, hb⟩ := e_s113_1 (k77 := f_X10_sweep_77 n) (v1 := nI x) (v2 := nI y) (v3 := nI nn) (v4 := nI st) (v7 := nI k) hw (AM_S hS1 h) (ka := ka) (by omega) ka 0 FU (by omega) (FU_lt (by omega))
    have hfin : ∀ ka', ka ≤ ka' → ka' ≤ ka + 1 → ∃ r τ', f_X10_sweep_77 n (nI x) (nI y) (nI nn) (nI st) (nI ka') (nI (k + 1)) τ1 = some (r, sI τ' 0 3) ∧ Kp n0 n0 kAS kJM τ τ' ∧ (∀ i st T W B P, i < 13 → st ≤ 30 → StrM w i st T W B P τ → StrM w i st T W B P τ') := fun ka' h3 h4 => by
      obtain ⟨r, τ', g1, g2, g3⟩ := e_sweepM hw h0 hx hy hst m (k + 1) ka' n τ1 (by omega) (by omega) hnn (by omega) (by omega) (AM_S hS1 h)
      exact ⟨r, τ', g1, hS1.trans g2, fun i st T W B P h5 h6 h7 => g3 i st T W B P h5 h6 (StrM_KM hw h6 (StrM_38 h7) b2' (by omega))⟩
    have hrun : f_X10_sweep_77 (n + 1) (nI x) (nI y) (nI nn) (nI st) (nI ka) (nI k) τ = f_X10_sweep_161 (f_X10_sweep_77 n) (nI x) (nI y) (nI nn) (nI st) (nI k) (b2 b) (nI ka) τ1 := by
      rw [f_X10_sweep_77, if_neg (nI_nlt (by omega) (by omega)), if_neg (nI_in (by omega) (by omega)), lt_e, if_neg (nI_in (by omega) (by omega)), lt_e, nI_clamp (by omega), nI_clamp (by omega)]
      show bnd (f_X10_make (nI ka) 38 3 (nI st) (wSet τ x y k nn)) _ = _
      rw [b1, bnd_s]
      exact hb
    rw [hrun]
    unfold f_X10_sweep_161
    rw [lt_e, lt_e, nI_1]
    cases b with
    | false =>
      rw [show nI ka + b2 false = nI ka from by rw [show b2 false = nI 0 from rfl, nI_add]; rfl]
      exact hfin ka (by omega) (by omega)
    | true =>
      rw [show nI ka + b2 true = nI (ka + 1) from nI_1 ka]
      exact hfin (ka + 1) (by omega) (by omega)
def kcI : Nat → Prop := fun q => 2600 ≤ q
def kcA : Nat → Prop := fun q => 41 ≤ q
def kcJ : Nat → Prop := fun q => q = 38 ∨ q = 39 ∨ 41 ≤ q
theorem AC_c {w : AW} {σ σ' : Sta} (h : Kp kcI n0 kcA kcJ σ σ') (h0 : AC w σ) : AC w σ' :=
  AC_kp h ⟨by unfold kcI; omega, by unfold kcI; omega, by unfold kcI; omega⟩ ⟨by unfold kcA; omega, by unfold kcA; omega, by unfold kcA; omega, by unfold kcA; omega, by unfold kcA; omega, by unfold kcA; omega, by unfold kcA; omega⟩ (by unfold kcJ; omega) h0
/-- the class's row is set up -/
def cRow (σ : Sta) (d x y k n st : Nat) : Sta := sI (sA (sA (fillA σ (41 + 5 * d + 1) 0 3 (fun _ => 0)) (41 + 5 * d + 1) (upd (gA (fillA σ (41 + 5 * d + 1) 0 3 (fun _ => 0)) (41 + 5 * d + 1)) x (nI k))) (41 + 5 * d + 1) (upd (gA (sA (fillA σ (41 + 5 * d + 1) 0 3 (fun _ => 0)) (41 + 5 * d + 1) (upd (gA (fillA σ (41 + 5 * d + 1) 0 3 (fun _ => 0)) (41 + 5 * d + 1)) x (nI k))) (41 + 5 * d + 1)) y (nI n - nI k))) (64 * (41 + 5 * d) + 1) (nI st)
theorem cRow_K {σ : Sta} {d x y k n st : Nat} : Kp (fun q => q = 64 * (41 + 5 * d) + 1) n0 (fun q => q = 41 + 5 * d + 1) n0 σ (cRow σ d x y k n st) := Kp.sI rfl (Kp.sA rfl (Kp.sA rfl (Kp.sA rfl Kp.rfl')))
def SwR (w : AW) (kp : Nat) (σ τ : Sta) (xc : Option ((Int32 ⊕ String) × Sta)) (xm : Option (Int32 × Sta)) : Prop :=
    (∃ ke σ' τ', kp ≤ ke ∧ ke ≤ 12 ∧ xc = some (.inl (nI (ke - kp)), sI σ' 11 (nI ke)) ∧ xm = some (nI (ke - kp), sI τ' 47 (nI ke)) ∧ Kp kcI n0 kcA kcJ σ σ' ∧ Kp n0 n0 kAS kJM τ τ' ∧ Perm σ' ∧ ∀ j, j < ke → Kept w j σ' τ') ∨
    (∃ r σ' τ', xc = some (.inr eISE, σ') ∧ xm = some (r, sI τ' 0 3) ∧ Kp kcI n0 kcA kcJ σ σ' ∧ Kp n0 n0 kAS kJM τ τ' ∧ Perm σ' ∧ ∀ j, j < kp → Kept w j σ' τ')
theorem SwR.lift {w : AW} {kp : Nat} {σ τ σ1 τ1 : Sta} {xc : Option ((Int32 ⊕ String) × Sta)} {xm : Option (Int32 × Sta)} (h : SwR w kp σ1 τ1 xc xm) (hKc3 : Kp kcI n0 kcA kcJ σ σ1) (hS1 : Kp n0 n0 kAS kJM τ τ1) : SwR w kp σ τ xc xm := by
  rcases h with ⟨ke, σ', τ', g1, g2, g3, g4, g5, g6, g7, g8⟩ | ⟨r, σ', τ', g3, g4, g5, g6, g7, g8⟩
  · exact Or.inl ⟨ke, σ', τ', g1, g2, g3, g4, hKc3.trans g5, hS1.trans g6, g7, g8⟩
  · exact Or.inr ⟨r, σ', τ', g3, g4, hKc3.trans g5, hS1.trans g6, g7, g8⟩
theorem e_sweep {w : AW} (hw : AWok w) (h0 : 0 < aNs w) {x y nn st kp : Nat} (hx : x < aNg w) (hy : y < aNg w) (hxy : x ≠ y) (h1 : 1 ≤ st) (hst : st ≤ 30) (hkp : kp ≤ 12) : ∀ (m k ka n n' : Nat) (σ τ : Sta), k + m = nn + 1 → m < n → m < n' → nn ≤ 9 → kp ≤ ka → ka ≤ 12 → AC w σ → AM w τ → Perm σ → gI σ 11 = nI kp → gI τ 47 = nI kp → (∀ j, j < ka → Kept w j σ τ) → (∀ g, g < 3 → g ≠ x → g ≠ y → gA τ 38 g = 0) →
    SwR w kp σ τ (f_X8_sweep_42 n (nI x) (nI y) (nI nn) (nI st) (nI ka) (nI k) σ) (f_X10_sweep_77 n' (nI x) (nI y) (nI nn) (nI st) (nI ka) (nI k) τ)
  | _, _, _, 0, _, _, _, _, hn, _, _, _, _, _, _, _, _, _, _, _ => absurd hn (Nat.not_lt_zero _)
  | _, _, _, _ + 1, 0, _, _, _, _, hn, _, _, _, _, _, _, _, _, _, _ => absurd hn (Nat.not_lt_zero _)
  | 0, k, ka, n + 1, n' + 1, σ, τ, hk, hn, hn', hnn, hka, h12, hc, hm, hP, q1, q2, hK, hz => by
    refine Or.inl ⟨ka, σ, τ, hka, h12, ?_, ?_, Kp.rfl', Kp.rfl', hP, hK⟩
    · rw [f_X8_sweep_42, if_pos (nI_lt (by omega) (by omega)), lt_e, lt_e, q1, pk_sub hka]
    · rw [f_X10_sweep_77, if_pos (nI_lt (by omega) (by omega)), if_pos (by rw [nI_leL (by omega) (by decide)]; omega), lt_e, lt_e, q2, pk_sub hka]
  | m + 1, k, ka, n + 1, n' + 1, σ, τ, hk, hn, hn', hnn, hka, h12, hc, hm, hP, q1, q2, hK, hz => by
    have h2 := hw.2.1
    have hd := hP.1 ka (by omega)
    have hKc := cRow_K (σ := σ) (d := gP σ ka) (x := x) (y := y) (k := k) (n := nn) (st := st)
    have hKc2 : Kp kcI n0 kcA kcJ σ (cRow σ (gP σ ka) x y k nn st) := hKc.mono (fun q e => by unfold kcI; omega) (fun _ e => e) (fun q e => by unfold kcA; omega) (fun _ e => e.elim)
    have hS := wSet_S (τ := τ) (x := x) (y := y) (k := k) (n := nn)
    have ed : gP (cRow σ (gP σ ka) x y k nn st) ka = gP σ ka := hKc.2.2.2.2 ka
    obtain ⟨σ1, τ1, f1, f2, f3, f4, f5, f6⟩ := mk_pair (i := ka) (st := st) (q2 := 38) hw h0 (AC_c hKc2 hc) (AM_S hS hm) (Perm_kp hP hKc (fun _ e => e.elim)) h12 h1 hst (by rw [ed]; unfold cRow; rw [gI_sI, if_pos rfl]) (by decide) (fun g hg => by
      rw [ed]
      unfold cRow wSet fillA
      simp only [gA_sI, gA_sA, ↓reduceIte, upd_at]
      by_cases e1 : g = y
      · rw [if_pos e1, if_pos e1]
      · rw [if_neg e1, if_neg e1]
        by_cases e2 : g = x
        · rw [if_pos e2, if_pos e2]
        · rw [if_neg e2, if_neg e2, if_pos (by omega), hz g (by omega) e2 e1]) (fun j hj => by
      obtain ⟨st', T, W, B, P, s1, s2, s3, s4, s5⟩ := hK j hj
      have h8 : gP σ j ≠ gP σ ka := fun e => by have := hP.2.1 j ka (by omega) (by omega) e; omega
      refine ⟨st', T, W, B, P, s1, s2, s3, ?_, StrM_38 s5⟩
      rw [hKc.2.2.2.2 j]
      exact StrC_kp s4 hKc ⟨by omega, by omega, by omega, id, id⟩)
    rw [ed] at f1 f3
    have hKc3 : Kp kcI n0 kcA kcJ σ σ1 := hKc2.trans (f3.mono (fun q e => by unfold kIs at e; unfold kcI; omega) (fun _ e => e) (fun q e => by unfold kA at e; unfold kcA; omega) (fun q e => by unfold kJs at e; unfold kcJ; omega))
    have hS1 := hS.trans (KM_S f4)
    have ed1 : gP σ1 ka = gP σ ka := hKc3.2.2.2.2 ka
    obtain ⟨b, hb1, hb2⟩ := e_brought (k77 := f_X10_sweep_77 n') (v1 := nI x) (v2 := nI y) (v3 := nI nn) (v4 := nI st) (v7 := nI k) hw (AC_c hKc3 hc) (AM_S hS1 hm) f5 h12 f6 ka 0 FU FU (by omega) (FU_lt (by omega)) (FU_lt (by omega))
    rw [ed1] at hb1
    have hrunM : f_X10_sweep_77 (n' + 1) (nI x) (nI y) (nI nn) (nI st) (nI ka) (nI k) τ = f_X10_sweep_161 (f_X10_sweep_77 n') (nI x) (nI y) (nI nn) (nI st) (nI k) (b2 (!b)) (nI ka) τ1 := by
      rw [f_X10_sweep_77, if_neg (nI_nlt (by omega) (by omega)), if_neg (nI_in (by omega) (by omega)), lt_e, if_neg (nI_in (by omega) (by omega)), lt_e, nI_clamp (by omega), nI_clamp (by omega)]
      show bnd (f_X10_make (nI ka) 38 3 (nI st) (wSet τ x y k nn)) _ = _
      rw [f2, bnd_s]
      exact hb2
    have hrunC : f_X8_sweep_42 (n + 1) (nI x) (nI y) (nI nn) (nI st) (nI ka) (nI k) σ = (if b2 b = 0 then bnx (f_X8_checkRoom (nI ka) σ1) (fun _ σ23 => f_X8_sweep_42 n (nI x) (nI y) (nI nn) (nI st) (nI (ka + 1)) (nI (k + 1)) σ23) else f_X8_sweep_42 n (nI x) (nI y) (nI nn) (nI st) (nI ka) (nI (k + 1)) σ1) := by
      rw [f_X8_sweep_42, if_neg (nI_nlt (by omega) (by omega)), if_neg (nI_in (c := ka) (N := 13) (by omega) (by omega)), nI_clamp (n := ka) (by omega), if_neg (show ¬ 13 ≤ gP σ ka by omega), lt_e, e_fillA (by decide), bnd_s, if_neg (nI_in (by omega) (by omega)), lt_e, if_neg (nI_in (by omega) (by omega)), lt_e, lt_e, nI_clamp (n := x) (by omega), nI_clamp (n := y) (by omega)]
      show bnd (f_X2_plan (gP σ ka) (cRow σ (gP σ ka) x y k nn st)) _ = _
      rw [f1, bnd_s, show f_X8_isBroughtAlready (gP σ ka) (nI ka) σ1 = _ from hb1, bnd_s]
      unfold f_X8_sweep_122
      simp only [lt_e, nI_1]
    have hz1 : ∀ g, g < 3 → g ≠ x → g ≠ y → gA τ1 38 g = 0 := fun g h3 h4 h5 => by
      rw [f4.1.2.2.1 38 (by unfold kAM; omega)]
      unfold wSet
      simp only [gA_sA, ↓reduceIte, upd_at]
      rw [if_neg h5, if_neg h4]
      exact hz g h3 h4 h5
    have q1' : gI σ1 11 = nI kp := by rw [hKc3.1 11 (by unfold kcI; omega)]; exact q1
    have q2' : gI τ1 47 = nI kp := by rw [hS1.1 47 id]; exact q2
    have hlift : ∀ ka', ka ≤ ka' → ka' ≤ ka + 1 → ka' ≤ 12 → f_X8_sweep_42 (n + 1) (nI x) (nI y) (nI nn) (nI st) (nI ka) (nI k) σ = f_X8_sweep_42 n (nI x) (nI y) (nI nn) (nI st) (nI ka') (nI (k + 1)) σ1 → f_X10_sweep_77 (n' + 1) (nI x) (nI y) (nI nn) (nI st) (nI ka) (nI k) τ = f_X10_sweep_77 n' (nI x) (nI y) (nI nn) (nI st) (nI ka') (nI (k + 1)) τ1 →
        SwR w kp σ τ (f_X8_sweep_42 (n + 1) (nI x) (nI y) (nI nn) (nI st) (nI ka) (nI k) σ) (f_X10_sweep_77 (n' + 1) (nI x) (nI y) (nI nn) (nI st) (nI ka) (nI k) τ) := fun ka' h3 h4 h5 e1 e2 => by
      rw [e1, e2]
      exact (e_sweep hw h0 hx hy hxy h1 hst hkp m (k + 1) ka' n n' σ1 τ1 (by omega) (by omega) (by omega) hnn (by omega) h5 (AC_c hKc3 hc) (AM_S hS1 hm) f5 q1' q2' (fun j hj => f6 j (by omega)) hz1).lift hKc3 hS1
    unfold f_X10_sweep_161 at hrunM
    rw [lt_e, lt_e, nI_1] at hrunM
    cases b with
    | true =>
      rw [if_neg (by decide)] at hrunC
      rw [show nI ka + b2 (!true) = nI ka from by rw [show b2 (!true) = nI 0 from rfl, nI_add]; rfl] at hrunM
      exact hlift ka (by omega) (by omega) h12 hrunC hrunM
    | false =>
      rw [if_pos (by decide)] at hrunC
      unfold f_X8_checkRoom at hrunC
      rw [show nI ka + b2 (!false) = nI (ka + 1) from nI_1 ka] at hrunM
      by_cases h9 : ka = 12
      · rw [if_neg (by rw [nI_ltL (by omega) (by decide)]; omega), bnx_r] at hrunC
        obtain ⟨r, τ', g1, g2, g3⟩ := e_sweepM hw h0 (x := x) (y := y) (nn := nn) (st := st) (by omega) (by omega) hst m (k + 1) (ka + 1) n' τ1 (by omega) (by omega) hnn (by omega) (by omega) (AM_S hS1 hm)
        refine Or.inr ⟨r, σ1, τ', hrunC, hrunM.trans g1, hKc3, hS1.trans g2, f5, fun j hj => ?_⟩
        obtain ⟨st', T, W, B, P, s1, s2, s3, s4, s5⟩ := f6 j (by omega)
        exact ⟨st', T, W, B, P, s1, s2, s3, s4, g3 j st' T W B P (by omega) s2 s5⟩
      · rw [if_pos (by rw [nI_ltL (by omega) (by decide)]; omega), bnx_l] at hrunC
        exact hlift (ka + 1) (by omega) (by omega) (by omega) hrunC hrunM
theorem op_sweep {w : AW} {σ τ : Sta} (h : REL w σ τ) (a b c e : Int32) : OP w (f_X8_sweep a b c e σ) (f_X10_sweep a b c e τ) eIOB eIAE eISE := by
  have hw := h.1
  have h1 := hw.1
  have h2 := hw.2.1
  have hc := h.2.2.1
  have h0 := REL_th h 0
  have hm := h0.2.2.2.1
  obtain ⟨kp, k1, k2, k3, k4, k5, k6⟩ := h0.2.2.2.2.2.1
  have hf1 : f_X10_sweep_21 (sI τ 0 0) = some (0, sI (sI τ 0 0) 0 1) := rfl
  have hf2 : f_X10_sweep_57 (sI τ 0 0) = some (0, sI (sI τ 0 0) 0 2) := rfl
  unfold f_X8_sweep f_X10_sweep f_X8_checkOther
  rw [lt_e]
  rcases ix_cases a (n := aNg w) (by omega) with ⟨x, hx, rfl⟩ | ha
  · rw [e_cGain_in hw hc hx, bnx_l, e_mGain_in hw hm hx, bnd_s, ite10]
    rcases ix_cases b (n := aNg w) (by omega) with ⟨y, hy, rfl⟩ | hb
    · rw [e_cGain_in hw hc hy, bnx_l, e_mGain_in hw hm hy, bnd_s, ite10]
      by_cases hxy : x = y
      · rw [if_pos (by rw [hxy]), bnx_r, if_pos (by rw [hxy]), hf2]
        exact OP.e2 rfl rfl (REL_fail h 0 2) (th_0 _ _)
      · have hne : ¬ nI x = nI y := fun e => hxy ((nI_eq (by omega) (by omega)).mp e)
        rw [if_neg hne, bnx_l, if_neg hne, e_cR, show (9 : Int64) = (9 : Int32).toInt64 by decide, show (1 : Int64) = (1 : Int32).toInt64 by decide, e_isR]
        by_cases h5 : (1 : Int32) ≤ c ∧ c ≤ 9
        · rw [if_pos h5, if_pos h5, bnx_l, bnd_s, ite10, e_cR, show (30 : Int64) = (30 : Int32).toInt64 by decide, e_isR]
          by_cases h6 : (1 : Int32) ≤ e ∧ e ≤ 30
          · obtain ⟨nn, hnn, rfl⟩ := nI_of2 (M := 9) (n := 9) (by decide) (fun e => Int32.not_le.mpr e (Int32.le_trans (by decide) h5.1)) h5.2
            obtain ⟨st, hst, rfl⟩ := nI_of2 (M := 30) (n := 30) (by decide) (fun e => Int32.not_le.mpr e (Int32.le_trans (by decide) h6.1)) h6.2
            have hst1 : 1 ≤ st := by
              have := h6.1
              rw [nI_Lle (by omega) (by decide)] at this
              exact this
            have hpos : 0 < aNs w := by
              have := h.2.1
              omega
            rw [if_pos h6, if_pos h6, bnx_l, bnd_s, ite10, lt_e, lt_e, lt_e, k2, k3]
            have hKm0 : Kp n0 n0 kAS kJM (sI τ 0 0) (sA (sI τ 0 0) 38 (fun _ => 0)) := Kp.sA (Or.inr (Or.inr (Or.inr rfl))) Kp.rfl'
            have hfr : ∀ σ' τ' : Sta, Kp kcI n0 kcA kcJ σ σ' → Kp n0 n0 kAS kJM (sA (sI τ 0 0) 38 (fun _ => 0)) τ' → ∀ ke, ke ≤ 12 → ∀ I' : Nat → Prop, (∀ q, I' q → q = 0 ∨ q = 47) → ∀ τ2, Kp I' n0 n0 n0 τ' τ2 → gI τ2 47 = nI ke → Perm σ' → (∀ j, j < ke → Kept w j σ' τ') → ∀ v, v = nI ke → REL w (sI σ' 11 v) τ2 := fun σ' τ' hA hB ke hke I' hI' τ2 hC hq hPp hKk v hv => by
              have hm2 := (hKm0.trans hB)
              refine REL_fr (I := fun q => q = 11 ∨ 2600 ≤ q) (L := n0) (A := kcA) (J := kcJ) (I' := I') (L' := n0) (A' := kAS) (J' := kJM) h0 (Kp.sI (Or.inl rfl) (hA.mono (fun q e => Or.inr e) (fun _ e => e) (fun _ e => e) (fun _ e => e))) ((hm2.mono (fun _ e => e.elim) (fun _ e => e) (fun _ e => e) (fun _ e => e)).trans (hC.mono (fun _ e => e) (fun _ e => e) (fun _ e => e.elim) (fun _ e => e.elim)))
                (fun q e => by omega) (fun _ e => e.elim) (fun q e => by unfold kcA at e; omega) (fun q e => by unfold kcJ at e; omega) (fun q e => by have := hI' q e; omega) (fun _ e => e.elim) (fun q e => by unfold kAS at e; omega) (fun q e => by unfold kJM at e; omega) ?_
              refine ⟨ke, hke, by rw [gI_sI, if_pos rfl, hv], hq, fun _ => hpos, hPp, fun i hi => ?_⟩
              obtain ⟨st', T, W, B, P, s1, s2, s3, s4, s5⟩ := hKk i hi
              refine ⟨st', T, W, B, P, s1, s2, s3, ?_, ?_⟩
              · exact StrC_kp s4 (Kp.sI (I := fun q => q = 11) (L := n0) (A := n0) (J := n0) rfl Kp.rfl') ⟨by omega, by omega, id, id, id⟩
              · unfold StrM at *
                rw [hC.2.2.1 _ id, hC.2.2.1 _ id, hC.2.2.1 _ id, hC.2.2.2.1 _ id, hC.2.2.2.1 _ id]
                exact s5
            rcases e_sweep hw hpos (nn := nn) hx hy hxy hst1 hst k1 (nn + 1) 0 kp FU FU σ (sA (sI τ 0 0) 38 (fun _ => 0)) (by omega) (FU_lt (by omega)) (FU_lt (by omega)) hnn (Nat.le_refl _) k1 hc (AM_sA (by decide) hm) k5 k2 (by rw [gI_sA]; exact k3) (fun j hj => by
                obtain ⟨st', T, W, B, P, s1, s2, s3, s4, s5⟩ := k6 j hj
                refine ⟨st', T, W, B, P, s1, s2, s3, s4, ?_⟩
                unfold StrM at *
                simp only [gA_sA, gJ_sA]
                exact s5) (fun g _ _ _ => by rw [gA_sA, if_pos rfl]) with ⟨ke, σ', τ', g1, g2, g3, g4, g5, g6, g7, g8⟩ | ⟨r, σ', τ', g3, g4, g5, g6, g7, g8⟩
            · refine OP.in _ g3 g4 (hfr σ' τ' g5 g6 ke g2 (fun q => q = 47) (fun q e => Or.inr e) _ (Kp.sI rfl Kp.rfl') (by rw [gI_sI, if_pos rfl]) g7 g8 _ rfl) ?_
              rw [gI_sI, if_neg (by decide), g6.1 0 id, gI_sA]
              exact th_0 _ _
            · have hR := hfr σ' τ' g5 g6 kp k1 (fun q => q = 0) (fun q e => Or.inl e) (sI τ' 0 3) (Kp.sI rfl Kp.rfl') (by rw [gI_sI, if_neg (by decide), g6.1 47 id, gI_sA]; exact k3) g7 g8 (gI σ' 11) (by rw [g5.1 11 (by unfold kcI; omega)]; exact k2)
              have hs : sI σ' 11 (gI σ' 11) = σ' := by
                show (va_up σ'.1 11 (σ'.1 11), σ'.2) = σ'
                rw [va_upg]
              rw [hs] at hR
              exact OP.e3 g3 g4 hR (th_0 _ _)
          · rw [if_neg h6, if_neg h6, bnx_r, bnd_s, ite00, hf2]
            exact OP.e2 rfl rfl (REL_fail h 0 2) (th_0 _ _)
        · rw [if_neg h5, if_neg h5, bnx_r, bnd_s, ite00, hf2]
          exact OP.e2 rfl rfl (REL_fail h 0 2) (th_0 _ _)
    · rw [e_cGain_out hc hb, bnx_r, e_mGain_out hw hm hb, bnd_s, ite00, hf1]
      exact OP.e1 rfl rfl (REL_fail h 0 1) (th_0 _ _)
  · rw [e_cGain_out hc ha, bnx_r, e_mGain_out hw hm ha, bnd_s, ite00, hf1]
    exact OP.e1 rfl rfl (REL_fail h 0 1) (th_0 _ _)
