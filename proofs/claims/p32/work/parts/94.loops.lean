/-! The law's last loops: more steps, and strategies compared. -/
def bb (b : Bool) : Int32 := if b = true then 1 else 0
theorem bb_0 (b : Bool) : bb b = 0 ↔ b = false := by cases b <;> decide
theorem bb_ok (b : Bool) : ¬ ¬ (bb b = 0 ∨ bb b = 1) := by cases b <;> decide
def aBet (f g : Nat → Int64) : Nat → Nat → Bool → Bool
  | 0, _, more => more
  | m + 1, k, more => if f k < g k then false else aBet f g m (k + 1) (more || decide (g k < f k))
section LBB
variable {w : AW} {st k : Nat} {wts : Nat → Nat → Int32} {σ : Sta}
def Bf (w : AW) (st : Nat) (wts : Nat → Nat → Int32) (j g : Nat) : Int64 := aFolG w (aTake w (wts j)) g st 0
theorem e_bet_l (h3 : aNg w = 3) (h : AC w σ) {d1 d2 : Nat} {F G : Nat → Int64} (hF : ∀ g, g < aNg w → gJ σ (41 + 5 * d1 + 4) g = F g) (hG : ∀ g, g < aNg w → gJ σ (41 + 5 * d2 + 4) g = G g) : ∀ (m k n : Nat) (more : Bool), k + m = 3 → m < n →
    f_X8_isBetter_5 d1 d2 n (bb more) (nI k) σ = some (bb (aBet F G m k more), σ)
  | _, _, 0, _, _, hn => absurd hn (Nat.not_lt_zero _)
  | 0, k, n + 1, more, hk, hn => by
    rw [f_X8_isBetter_5, h.2.1, if_pos (nI_le (by omega) (by omega)), if_neg (bb_ok more)]
    rfl
  | m + 1, k, n + 1, more, hk, hn => by
    rw [f_X8_isBetter_5, h.2.1, if_neg (nI_ge (by omega) (by omega)), if_neg (nI_in (by omega) (by omega)), if_neg (nI_in (by omega) (by omega)), if_neg (nI_in (by omega) (by omega)), if_neg (nI_in (by omega) (by omega)), nI_clamp (by omega), hF k (by omega), hG k (by omega), aBet]
    unfold f_X8_isBetter_59 f_X8_isBetter_64
    rw [lt_e, lt_e, nI_1]
    by_cases h3' : F k < G k
    · rw [if_neg (fun e => Int64.not_le.mpr h3' ((lg_cmp_ge _ _).mp e)), if_pos h3']
      rfl
    · rw [if_pos ((lg_cmp_ge _ _).mpr (Int64.not_lt.mp h3')), if_neg h3']
      have ih := fun b => e_bet_l h3 h hF hG m (k + 1) n b (by omega) (by omega)
      cases more with
      | true =>
        rw [if_neg (by decide)]
        exact ih true
      | false =>
        rw [if_pos (by decide)]
        by_cases h4 : G k < F k
        · rw [if_neg (fun e => Int64.not_le.mpr h4 ((lg_cmp_le _ _).mp e)), decide_eq_true h4]
          exact ih true
        · rw [if_pos ((lg_cmp_le _ _).mpr (Int64.not_lt.mp h4)), decide_eq_false h4]
          exact ih false
theorem q_better (h3 : aNg w = 3) (h : SI w st k wts σ) {a b : Nat} (ha : a < k) (hb : b < k) : f_X8_isBetter b a σ = some (bb (aBet (Bf w st wts b) (Bf w st wts a) 3 0 false), σ) :=
  e_bet_l h3 h.1 (h.2.2.2.2 b hb).2.2.2.1 (h.2.2.2.2 a ha).2.2.2.1 3 0 FU false rfl (FU_lt (by decide))
/-- one of those from b on is better -/
def bet (w : AW) (st : Nat) (wts : Nat → Nat → Int32) (a : Nat) : Nat → Nat → Bool → Bool
  | 0, _, bt => bt
  | m + 1, b, bt => bet w st wts a m (b + 1) (bt || aBet (Bf w st wts b) (Bf w st wts a) 3 0 false)
theorem bet_t (w : AW) (st : Nat) (wts : Nat → Nat → Int32) (a : Nat) : ∀ (m b : Nat), bet w st wts a m b true = true
  | 0, _ => rfl
  | m + 1, b => bet_t w st wts a m (b + 1)
theorem q_iwh (h3 : aNg w = 3) (h : SI w st k wts σ) (hk : k = 4) {a : Nat} (ha : a < k) : ∀ (m b n : Nat), b + m = 4 → m < n → f_X8_isWorthHaving_7 n (nI a) (nI b) σ = some (bb (!(bet w st wts a m b false)), σ)
  | _, _, 0, _, hn => absurd hn (Nat.not_lt_zero _)
  | 0, b, n + 1, hb, _ => by
    rw [f_X8_isWorthHaving_7, h.2.1, if_pos (nI_le (by omega) (by omega))]
    rfl
  | m + 1, b, n + 1, hb, hn => by
    rw [f_X8_isWorthHaving_7, h.2.1, if_neg (nI_ge (by omega) (by omega)), if_neg (nI_in (by omega) (by omega)), nI_clamp (by omega), h.2.2.1 b (by omega), if_neg (by omega), lt_e, if_neg (nI_in (by omega) (by omega)), nI_clamp (by omega), h.2.2.1 a (by omega), if_neg (by omega), lt_e, q_better h3 h ha (by omega), bnd_s]
    show (if bb (aBet (Bf w st wts b) (Bf w st wts a) 3 0 false) = 0 then _ else _) = some (bb (!(bet w st wts a m (b + 1) (false || aBet (Bf w st wts b) (Bf w st wts a) 3 0 false))), σ)
    cases aBet (Bf w st wts b) (Bf w st wts a) 3 0 false with
    | true =>
      rw [if_neg (by decide)]
      show _ = some (bb (!(bet w st wts a m (b + 1) true)), σ)
      rw [bet_t]
      rfl
    | false =>
      rw [if_pos (by decide), lt_e, nI_1]
      exact q_iwh h3 h hk ha m (b + 1) n (by omega) (by omega)
theorem q_isWorthHaving (h3 : aNg w = 3) (h : SI w st k wts σ) (hk : k = 4) {a : Nat} (ha : a < k) : f_X8_isWorthHaving (nI a) σ = some (bb (!(bet w st wts a 4 0 false)), σ) := by
  unfold f_X8_isWorthHaving
  rw [st_ok h.2.1 ha (by omega), bnd_s]
  exact q_iwh h3 h hk ha 4 0 FU rfl (FU_lt (by decide))
theorem lb582 (hw : AWok w) (h3 : aNg w = 3) (h : SI w st k wts σ) (hk : k = 4) {a b : Nat} (ha : a < k) (hb : b < k) {v3 : Int32} {k555 : Int32 → Sta → Option (Unit × Sta)} {k567 : Int32 → Int32 → Int32 → Sta → Option (Unit × Sta)} {bt : Bool} :
    ∀ (m g n : Nat) (less more : Bool), g + m = 3 → m < n → f_LB2_582 v3 k555 k567 n (nI a) (bb bt) (nI b) (bb less) (bb more) (nI g) σ = k567 (nI a) (bb (bt || (!less && aBet (Bf w st wts b) (Bf w st wts a) m g more))) (nI (b + 1)) σ
  | _, _, 0, _, _, _, hn => absurd hn (Nat.not_lt_zero _)
  | 0, g, n + 1, less, more, hg, _ => by
    have p1 : f_LB2_673 v3 k555 k567 (nI a) (nI b) σ = k567 (nI a) 1 (nI (b + 1)) σ := by
      unfold f_LB2_673 f_LB2_678
      rw [lt_e, nI_1]
    have p0 : f_LB2_677 v3 k555 k567 (nI a) (nI b) σ = k567 (nI a) 0 (nI (b + 1)) σ := by
      unfold f_LB2_677 f_LB2_678
      rw [lt_e, nI_1]
    rw [f_LB2_582, if_pos (show (3 : Int32) ≤ nI _ from nI_le (a := 3) (by omega) (by omega)), p1, p0]
    show _ = k567 (nI a) (bb (bt || (!less && more))) (nI (b + 1)) σ
    cases bt with
    | true => rw [if_neg (by decide)]; rfl
    | false =>
      rw [if_pos (by decide)]
      cases more with
      | false => rw [if_pos (by decide)]; cases less <;> rfl
      | true =>
        rw [if_neg (by decide)]
        cases less with
        | true => rw [if_neg (by decide)]; rfl
        | false => rw [if_pos (by decide)]; rfl
  | m + 1, g, n + 1, less, more, hg, hn => by
    have ih := fun l mo => lb582 hw h3 h hk ha hb (v3 := v3) (k555 := k555) (k567 := k567) (bt := bt) m (g + 1) n l mo (by omega) (by omega)
    have qb : f_X8_brings (nI b) (nI g) σ = some (Bf w st wts b g, σ) := q_brings (g := g) hw h (by omega) hb (by omega)
    have qa : f_X8_brings (nI a) (nI g) σ = some (Bf w st wts a g, σ) := q_brings (g := g) hw h (by omega) ha (by omega)
    have x650 : ∀ l s0, f_LB2_650 v3 k555 k567 (f_LB2_582 v3 k555 k567 n) (nI a) (bb bt) (nI b) l (nI g) s0 σ = f_LB2_582 v3 k555 k567 n (nI a) (bb bt) (nI b) l s0 (nI (g + 1)) σ := fun l s0 => by
      unfold f_LB2_650
      rw [lt_e, nI_1]
    have x645 : ∀ l, f_LB2_645 v3 k555 k567 (f_LB2_582 v3 k555 k567 n) (nI a) (bb bt) (nI b) l (nI g) σ = f_LB2_582 v3 k555 k567 n (nI a) (bb bt) (nI b) l 1 (nI (g + 1)) σ := fun l => by
      unfold f_LB2_645
      exact x650 l 1
    -- more, behind less
    have x618 : ∀ l, f_LB2_618 v3 k555 k567 (f_LB2_582 v3 k555 k567 n) (nI a) (bb bt) (nI b) (bb more) (nI g) (bb l) σ = f_LB2_582 v3 k555 k567 n (nI a) (bb bt) (nI b) (bb l) (bb (more || decide (Bf w st wts a g < Bf w st wts b g))) (nI (g + 1)) σ := fun l => by
      unfold f_LB2_618
      cases more with
      | true => rw [if_neg (by decide), x645]; rfl
      | false =>
        rw [if_pos (by decide), qb, bnd_s, qa, bnd_s, x650, x645]
        by_cases q : Bf w st wts a g < Bf w st wts b g
        · rw [if_neg (fun e => Int64.not_le.mpr q ((lg_cmp_le _ _).mp e)), decide_eq_true q]
          rfl
        · rw [if_pos ((lg_cmp_le _ _).mpr (Int64.not_lt.mp q)), decide_eq_false q]
          rfl
    have x613 : f_LB2_613 v3 k555 k567 (f_LB2_582 v3 k555 k567 n) (nI a) (bb bt) (nI b) (bb more) (nI g) σ = k567 (nI a) (bb (bt || false)) (nI (b + 1)) σ := by
      unfold f_LB2_613
      rw [show (1 : Int32) = bb true from rfl, x618, ih]
      rfl
    rw [f_LB2_582, if_neg (show ¬ (3 : Int32) ≤ nI _ from nI_ge (b := 3) (by omega) (by decide)), aBet]
    cases less with
    | true =>
      rw [if_neg (by decide), x613]
      rfl
    | false =>
      rw [if_pos (by decide), qb, bnd_s, qa, bnd_s]
      by_cases q : Bf w st wts b g < Bf w st wts a g
      · rw [if_neg (fun e => Int64.not_le.mpr q ((lg_cmp_ge _ _).mp e)), if_pos q, x613]
        rfl
      · rw [if_pos ((lg_cmp_ge _ _).mpr (Int64.not_lt.mp q)), if_neg q, show (0 : Int32) = bb false from rfl, x618, ih]
theorem lb567 (hw : AWok w) (h3 : aNg w = 3) (h : SI w st k wts σ) (hk : k = 4) {a : Nat} (ha : a < k) {v3 : Int32} {k555 : Int32 → Sta → Option (Unit × Sta)} :
    ∀ (m b n : Nat) (bt : Bool), b + m = 4 → m < n → bet w st wts a m b bt = bet w st wts a 4 0 false → f_LB2_567 v3 k555 n (nI a) (bb bt) (nI b) σ = k555 (nI (a + 1)) σ
  | _, _, 0, _, _, hn, _ => absurd hn (Nat.not_lt_zero _)
  | 0, b, n + 1, bt, hb, _, he => by
    have he' : bt = bet w st wts a 4 0 false := he
    rw [f_LB2_567, if_pos (show (4 : Int32) ≤ nI _ from nI_le (a := 4) (by omega) (by omega)), q_isWorthHaving h3 h hk ha, bnd_s, ← he', if_neg (by cases bt <;> decide), lt_e, nI_1]
  | m + 1, b, n + 1, bt, hb, hn, he => by
    rw [f_LB2_567, if_neg (show ¬ (4 : Int32) ≤ nI _ from nI_ge (b := 4) (by omega) (by decide))]
    refine (lb582 hw h3 h hk ha (b := b) (by omega) (v3 := v3) (k555 := k555) (k567 := f_LB2_567 v3 k555 n) (bt := bt) 3 0 FU false false rfl (FU_lt (by decide))).trans ?_
    exact lb567 hw h3 h hk ha m (b + 1) n _ (by omega) (by omega) he
theorem lb555 (hw : AWok w) (h3 : aNg w = 3) (h : SI w st k wts σ) (hk : k = 4) {v3 : Int32} : ∀ (m a n : Nat), a + m = 4 → m < n → f_LB2_555 v3 n (nI a) σ = some ((), σ)
  | _, _, 0, _, hn => absurd hn (Nat.not_lt_zero _)
  | 0, a, n + 1, hb, _ => by
    rw [f_LB2_555, if_pos (show (4 : Int32) ≤ nI _ from nI_le (a := 4) (by omega) (by omega)), q_count4 h.2.1, bnd_s, hk, if_pos (show nI 4 = 4 from rfl)]
    rfl
  | m + 1, a, n + 1, hb, hn => by
    rw [f_LB2_555, if_neg (show ¬ (4 : Int32) ≤ nI _ from nI_ge (b := 4) (by omega) (by decide))]
    exact (lb567 hw h3 h hk (a := a) (by omega) 4 0 FU false rfl (FU_lt (by decide)) rfl).trans (lb555 hw h3 h hk m (a + 1) n (by omega) (by omega))
theorem lb492 (hw : AWok w) (h0 : 0 < aNs w) (h3 : aNg w = 3) (hk : k = 4) (hst : st ≤ 30) : ∀ (m i n : Nat) (σ : Sta), SI w st k wts σ → i + m = st → m < n → ∃ σ', f_LB2_492 (nI st) n (nI (i + 1)) σ = some ((), σ')
  | _, _, 0, _, _, _, hn => absurd hn (Nat.not_lt_zero _)
  | 0, i, n + 1, σ, h, hb, _ => ⟨σ, by
    rw [f_LB2_492, if_pos (nI_lt (by omega) (by omega))]
    exact lb555 hw h3 h hk 4 0 FU rfl (FU_lt (by decide))⟩
  | m + 1, i, n + 1, σ, h, hb, hn => by
    have d1 : decide ((1 : Int32) ≠ 0) = true := rfl
    have d0 : decide ((0 : Int32) ≠ 0) = false := rfl
    obtain ⟨u1, u2⟩ := RN_e hw false (i + 1) 0 h0
    obtain ⟨v1, v2⟩ := RN_e hw false i 0 h0
    obtain ⟨x1, x2⟩ := RN_e hw true (i + 1) 0 h0
    have y1 := RN_up hw i 0 h0
    have y2 := RN_le hw (i + 1) 0 h0
    obtain ⟨σ1, r1, i1⟩ := q_reach hw h0 h (n := i + 1) (by omega) 0
    obtain ⟨σ2, r2, i2⟩ := q_reach hw h0 i1 (n := i) (by omega) 0
    obtain ⟨σ3, r3, i3⟩ := q_reach hw h0 i2 (n := i + 1) (by omega) 1
    obtain ⟨σ4, r4, i4⟩ := q_reach hw h0 i3 (n := i + 1) (by omega) 1
    obtain ⟨σ5, r5, i5⟩ := q_reach hw h0 i4 (n := i + 1) (by omega) 0
    rw [d0, u1, lN_i] at r1 r5
    rw [d0, v1, lN_i] at r2
    rw [d1, x1, lN_i] at r3 r4
    obtain ⟨σ', r, hh⟩ : ∃ σ', f_LB2_492 (nI st) n (nI (i + 1 + 1)) σ5 = some ((), σ') ∧ True := by
      obtain ⟨σ', r⟩ := lb492 hw h0 h3 hk hst m (i + 1) n σ5 i5 (by omega) (by omega)
      exact ⟨σ', r, trivial⟩
    refine ⟨σ', ?_⟩
    rw [f_LB2_492, if_neg (nI_nlt (by omega) (by omega)), r1, bnd_s, nI_pred, r2, bnd_s, if_neg (nI_nlt y1 (by omega)), r3, bnd_s, if_neg (nI_pos (by omega)), r4, bnd_s, r5, bnd_s, if_pos (nI_le y2 (by omega)), lt_e, nI_1]
    exact r
theorem lb2 (hw : AWok w) (h0 : 0 < aNs w) (h3 : aNg w = 3) (hst : st ≤ 30) (h : SI w st 4 wts σ) : ∃ σ', f_LB2 (nI st) σ = some ((), σ') := by
  unfold f_LB2
  exact lb492 hw h0 h3 rfl hst st 0 FU σ h (by omega) (FU_lt (by omega))
end LBB
