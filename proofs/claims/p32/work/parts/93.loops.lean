/-! The law's loops over a compiled program: a strategy told to its ends. -/
section LB
variable {w : AW} {st k : Nat} {wts : Nat → Nat → Int32} {σ : Sta}
def Fc (w : AW) (wt : Nat → Int32) (n s c : Nat) : Int64 := 10000 * aWt w wt s c + aLater w (aWorth w wt n) s c
theorem lb408 (hw : AWok w) (h : SI w st k wts σ) (hk : k < 13) (hst : st ≤ 30) {j s n c t : Nat} {k127 : Int32 → Sta → Option (Unit × Sta)} {k136 : Int32 → Int32 → Sta → Option (Unit × Sta)} {k216 : Int32 → Int32 → Int32 → Int32 → Int32 → Sta → Option (Unit × Sta)} {wt : Nat → Int32} {v3 v9 : Int32} {x : Int64}
    (hj : j < k) (hs : s < aNs w) (hn : n < st) (hc : c < 2 ^ 30) (ht : t < 2 ^ 30) (hx : c < t → x ≠ aWorth w (wts j) (n + 1) s) :
    f_LB1_408 wt v3 (nI j) k127 k136 k216 (nI (n + 1)) (nI s) (nI t) v9 (nI c) x σ = k216 (nI (n + 1)) (nI s) (nI t) v9 (nI (c + 1)) σ := by
  have e : ∀ σ, f_LB1_433 wt v3 (nI j) k127 k136 k216 (nI (n + 1)) (nI s) (nI t) v9 (nI c) σ = k216 (nI (n + 1)) (nI s) (nI t) v9 (nI (c + 1)) σ := fun σ => by
    unfold f_LB1_433
    rw [lt_e, nI_1]
  unfold f_LB1_408
  by_cases q : c < t
  · rw [if_neg (nI_ge q (by omega)), q_worth hw h hk hst hj hs (n := n + 1) (by omega), bnd_s, if_neg (fun e => hx q ((lg_cmp_eq _ _).mp e)), e]
  · rw [if_pos (nI_le (by omega) (by omega)), e]
theorem lb272 (hw : AWok w) (h : SI w st k wts σ) (hk : k < 13) (hst : st ≤ 30) {j s n c t : Nat} {k127 : Int32 → Sta → Option (Unit × Sta)} {k136 : Int32 → Int32 → Sta → Option (Unit × Sta)} {k216 : Int32 → Int32 → Int32 → Int32 → Int32 → Sta → Option (Unit × Sta)} {wt : Nat → Int32} {v3 v9 : Int32} {gs : Int64}
    (hj : j < k) (hs : s < aNs w) (hn : n < st) (hc : c < aCh w s) (ht : t < 2 ^ 30) (hle : 10000 * gs + aLater w (aWorth w (wts j) n) s c ≤ aWorth w (wts j) (n + 1) s) (heq : c = t → 10000 * gs + aLater w (aWorth w (wts j) n) s c = aWorth w (wts j) (n + 1) s) (hlt : c < t → 10000 * gs + aLater w (aWorth w (wts j) n) s c ≠ aWorth w (wts j) (n + 1) s) :
    ∀ (m b fu ch : Nat) (a : Int64), b + m = aNb w (aCm w s c) → m < fu → aAcc (fun b => (nI (aPc w (aCm w s c) b)).toInt64 * aWorth w (wts j) n (aTg w s c b)) m b a / 100 = aLater w (aWorth w (wts j) n) s c → aAccN (aPc w (aCm w s c)) m b ch = 100 →
      f_LB1_272 wt v3 (nI j) k127 k136 k216 fu (nI (n + 1)) (nI s) (nI t) v9 (nI c) gs a (nI ch) (nI b) σ = k216 (nI (n + 1)) (nI s) (nI t) v9 (nI (c + 1)) σ
  | _, _, 0, _, _, _, hf, _, _ => absurd hf (Nat.not_lt_zero _)
  | 0, b, fu + 1, ch, a, hb, _, h1, h2 => by
    have o := ok_s hw hs hc
    have h1' : a / 100 = aLater w (aWorth w (wts j) n) s c := h1
    have h2' : ch = 100 := h2
    rw [f_LB1_272, q_choice1 hw h.1 hs hc, bnd_s, if_pos (nI_le (by omega) (by omega)), lt_e, h1', h2', if_pos (show nI 100 = 100 from rfl), q_worth hw h hk hst hj hs (n := n + 1) (by omega), bnd_s, if_neg (fun e => Int64.not_lt.mpr hle ((lg_cmp_gt _ _).mp e))]
    by_cases q : c = t
    · rw [if_pos (by rw [q]), q_worth hw h hk hst hj hs (n := n + 1) (by omega), bnd_s, if_pos ((lg_cmp_eq _ _).mpr (heq q))]
      exact lb408 hw h hk hst hj hs hn (by omega) ht hlt
    · rw [if_neg (fun e => q ((nI_eq (by omega) (by omega)).mp e))]
      exact lb408 hw h hk hst hj hs hn (by omega) ht hlt
  | m + 1, b, fu + 1, ch, a, hb, hf, h1, h2 => by
    have o := ok_s hw hs hc
    have h4 := ((hw.2.2.2.2 s c hs hc).2.2.1 b (by omega)).1
    rw [f_LB1_272, q_choice1 hw h.1 hs hc, bnd_s, if_neg (nI_ge (by omega) (by omega)), q_branch1 hw h.1 hs hc (by omega), bnd_s, q_branch0 hw h.1 hs hc (by omega), bnd_s, nI_pred, q_worth hw h hk hst hj h4 (by omega), bnd_s, lt_e, q_branch1 hw h.1 hs hc (by omega), bnd_s, lt_e, lt_e, nI_1, nI_add]
    exact lb272 hw h hk hst hj hs hn hc ht hle heq hlt m (b + 1) fu _ _ (by omega) (by omega) h1 h2
theorem lb229 (hw : AWok w) (h3 : aNg w = 3) (h : SI w st k wts σ) {j s n c t : Nat} {k127 : Int32 → Sta → Option (Unit × Sta)} {k136 : Int32 → Int32 → Sta → Option (Unit × Sta)} {k216 : Int32 → Int32 → Int32 → Int32 → Int32 → Sta → Option (Unit × Sta)} {wt : Nat → Int32} {v3 v9 : Int32}
    (hs : s < aNs w) (hc : c < aCh w s) :
    ∀ (m g fu : Nat) (a : Int64), g + m = 3 → m < fu → 
      f_LB1_229 wt v3 (nI j) k127 k136 k216 fu (nI (n + 1)) (nI s) (nI t) v9 (nI c) a (nI g) σ = f_LB1_272 wt v3 (nI j) k127 k136 k216 FU (nI (n + 1)) (nI s) (nI t) v9 (nI c) (aAcc (fun g => (wt g).toInt64 * aGn w s c g) m g a) 0 0 0 σ
  | _, _, 0, _, _, hf => absurd hf (Nat.not_lt_zero _)
  | 0, g, fu + 1, a, hb, _ => by
    rw [f_LB1_229, if_pos (show (3 : Int32) ≤ nI _ from nI_le (a := 3) (by omega) (by omega))]
    rfl
  | m + 1, g, fu + 1, a, hb, hf => by
    rw [f_LB1_229, if_neg (show ¬ (3 : Int32) ≤ nI _ from nI_ge (b := 3) (by omega) (by decide)), if_neg (nI_in (by omega) (by omega)), q_gain hw h.1 hs hc (by omega), bnd_s, lt_e, lt_e, nI_1, nI_clamp (by omega)]
    exact lb229 hw h3 h hs hc m (g + 1) fu _ (by omega) (by omega)
theorem lb216 (hw : AWok w) (h3 : aNg w = 3) (h : SI w st k wts σ) (hk : k < 13) (hst : st ≤ 30) {j s n t : Nat} {k127 : Int32 → Sta → Option (Unit × Sta)} {k136 : Int32 → Int32 → Sta → Option (Unit × Sta)} {wt : Nat → Int32} {v3 : Int32}
    (hj : j < k) (hwj : ∀ g, g < 3 → wt g = wts j g) (hs : s < aNs w) (hn : n < st) (ht : t < 2 ^ 30) (hle : ∀ c, c < aCh w s → Fc w (wts j) n s c ≤ aWorth w (wts j) (n + 1) s) (heq : Fc w (wts j) n s t = aWorth w (wts j) (n + 1) s) (hlt : ∀ c, c < t → Fc w (wts j) n s c < aWorth w (wts j) (n + 1) s) :
    ∀ (m c fu : Nat), c + m = aCh w s → m < fu → 
      f_LB1_216 wt v3 (nI j) k127 k136 fu (nI (n + 1)) (nI s) (nI t) (nI (aCh w s)) (nI c) σ = k136 (nI (n + 1)) (nI (s + 1)) σ
  | _, _, 0, _, hf => absurd hf (Nat.not_lt_zero _)
  | 0, c, fu + 1, hb, _ => by
    have o := (hw.2.2.2.1 s hs).1
    rw [f_LB1_216, if_pos (nI_le (by omega) (by omega)), lt_e, nI_1]
  | m + 1, c, fu + 1, hb, hf => by
    have o := (hw.2.2.2.1 s hs).1
    have hc : c < aCh w s := by omega
    have eg : aAcc (fun g => (wt g).toInt64 * aGn w s c g) 3 0 0 = aWt w (wts j) s c := by
      unfold aWt
      rw [h3]
      exact aAcc_congr 3 0 0 (fun i _ hi => by rw [hwj i (by omega)])
    rw [f_LB1_216, if_neg (nI_ge (by omega) (by omega)), show (0 : Int32) = nI 0 from rfl, lb229 hw h3 h hs hc 3 0 FU _ rfl (FU_lt (by decide)), eg]
    have o2 := ok_s hw hs hc
    refine (lb272 hw h hk hst hj hs hn hc ht (hle c hc) (fun e => by rw [e]; exact heq) (fun e => ?_) (aNb w (aCm w s c)) 0 FU 0 0 (by omega) (FU_lt (by omega)) rfl (hw.2.2.2.2 s c hs hc).2.2.2).trans ?_
    · exact fun e' => Int64.lt_irrefl (by
        have := hlt c e
        unfold Fc at this
        rw [e'] at this
        exact this)
    · exact lb216 hw h3 h hk hst hj hwj hs hn ht hle heq hlt m (c + 1) fu (by omega) (by omega)
theorem lb136 (hw : AWok w) (h3 : aNg w = 3) (h : SI w st k wts σ) (hk : k < 13) (hst : st ≤ 30) {j n : Nat} {k127 : Int32 → Sta → Option (Unit × Sta)} {wt : Nat → Int32} {v3 : Int32}
    (hj : j < k) (hwj : ∀ g, g < 3 → wt g = wts j g) (hn : n < st) :
    ∀ (m s fu : Nat), s + m = aNs w → m < fu → f_LB1_136 wt v3 (nI j) k127 fu (nI (n + 1)) (nI s) σ = k127 (nI (n + 2)) σ
  | _, _, 0, _, hf => absurd hf (Nat.not_lt_zero _)
  | 0, s, fu + 1, hb, _ => by
    have h1 := hw.1
    rw [f_LB1_136, q_count3 h.1, bnd_s, if_pos (nI_le (by omega) (by omega)), lt_e, nI_1]
  | m + 1, s, fu + 1, hb, hf => by
    have h1 := hw.1
    have hs : s < aNs w := by omega
    have o := (hw.2.2.2.1 s hs).1
    have ih := lb136 hw h3 h hk hst (k127 := k127) (v3 := v3) hj hwj hn m (s + 1) fu (by omega) (by omega)
    rw [f_LB1_136, q_count3 h.1, bnd_s, if_neg (nI_ge (by omega) (by omega)), q_takes hw h hk hst hj hs hn, bnd_s, q_choices hw h.1 hs, bnd_s, lt_e]
    have em : (if 0 < (if aGl w s = true then (-1 : Int32) else nI (aCh w s)) then (if aGl w s = true then (-1 : Int32) else nI (aCh w s)) else 0) = nI (aCh w s) := by
      by_cases q : aGl w s = true
      · rw [if_pos q, (hw.2.2.2.1 s hs).2 q, if_neg (by decide)]
        rfl
      · rw [if_neg q]
        by_cases q2 : aCh w s = 0
        · rw [q2]
          rfl
        · rw [if_pos (show 0 < nI (aCh w s) from nI_lt (a := 0) (Nat.pos_of_ne_zero q2) (by omega))]
    rw [em]
    by_cases q : aCh w s = 0
    · have et : aTake w (wts j) n s = -1 := by
        unfold aTake
        rw [q]
        rfl
      have ew : aWorth w (wts j) (n + 1) s = 0 := by
        show (aBest (fun c => 10000 * aWt w (wts j) s c + aLater w (aWorth w (wts j) n) s c) (aCh w s) 0 (-1) 0).2 = 0
        rw [q]
        rfl
      rw [et, if_pos (by rw [q]; rfl), if_pos rfl, q_worth hw h hk hst hj hs (n := n + 1) (by omega), bnd_s, ew, if_pos ((lg_cmp_eq _ _).mpr rfl)]
      unfold f_LB1_213
      rw [q, show FU = (FU - 1) + 1 from rfl, f_LB1_216, if_pos (by decide), lt_e, nI_1]
      exact ih
    · obtain ⟨t, t1, t2, t3, t4⟩ := aBest_0 (F := Fc w (wts j) n s) (m := aCh w s) (by omega) (by omega)
      have et : aTake w (wts j) n s = nI t := congrArg Prod.fst t2
      have ew : aWorth w (wts j) (n + 1) s = Fc w (wts j) n s t := congrArg Prod.snd t2
      rw [et, if_neg (nI_ne0 (by omega) (by omega)), if_neg (nI_pos (by omega)), if_pos (nI_lt t1 (by omega))]
      unfold f_LB1_213
      refine (lb216 hw h3 h hk hst hj hwj hs hn (by omega) (fun c hc => ?_) ew.symm (fun c hc => ?_) (aCh w s) 0 FU (by omega) (FU_lt (by omega))).trans ih
      · rw [ew]; exact t3 c hc
      · rw [ew]; exact t4 c hc
theorem rn_take (hw : AWok w) (h0 : 0 < aNs w) (wt : Nat → Int32) (st : Nat) : ∃ a l g, (aFolP w (aTake w wt) st 0).toInt32 = nI a ∧ (aR w true st 0).toInt32 = nI l ∧ (aR w false st 0).toInt32 = nI g ∧ a ≤ 1000000 ∧ g ≤ 1000000 ∧ l ≤ a ∧ a ≤ g := by
  obtain ⟨a, a1, a2, a3, a4⟩ := FP_in hw (T := aTake w wt) st (fun i _ => aTake_v hw wt i) 0 h0
  obtain ⟨l1, l2⟩ := RN_e hw true st 0 h0
  obtain ⟨g1, g2⟩ := RN_e hw false st 0 h0
  refine ⟨a, RN w true st 0, RN w false st 0, ?_, ?_, ?_, a2, g2, a3, a4⟩
  · rw [a1, lN_i]
  · rw [l1, lN_i]
  · rw [g1, lN_i]
theorem lb127 (hw : AWok w) (h0 : 0 < aNs w) (h3 : aNg w = 3) (h : SI w st k wts σ) (hk : k < 13) (hst : st ≤ 30) {j : Nat} {wt : Nat → Int32}
    (hj : j < k) (hwj : ∀ g, g < 3 → wt g = wts j g) :
    ∀ (m n fu : Nat), n + m = st → m < fu → ∃ σ', f_LB1_127 wt (nI st) (nI j) fu (nI (n + 1)) σ = some ((), σ') ∧ SI w st k wts σ'
  | _, _, 0, _, hf => absurd hf (Nat.not_lt_zero _)
  | 0, n, fu + 1, hb, _ => by
    obtain ⟨a, l, g, e1, e2, e3, a1, g1, la, ag⟩ := rn_take hw h0 (wts j) st
    obtain ⟨σ1, r1, i1⟩ := q_reach hw h0 h hst 1
    obtain ⟨σ2, r2, i2⟩ := q_reach hw h0 i1 hst 0
    have d1 : decide ((1 : Int32) ≠ 0) = true := rfl
    have d0 : decide ((0 : Int32) ≠ 0) = false := rfl
    rw [d1, e2] at r1
    rw [d0, e3] at r2
    refine ⟨σ2, ?_, i2⟩
    rw [f_LB1_127, if_pos (nI_lt (by omega) (by omega)), q_chance h hk hj, bnd_s, r1, bnd_s, e1, if_neg (nI_nlt la (by omega)), q_chance i1 hk hj, bnd_s, r2, bnd_s, e1, if_pos (nI_le ag (by omega))]
  | m + 1, n, fu + 1, hb, hf => by
    have h1 := hw.1
    obtain ⟨σ', r, i⟩ := lb127 hw h0 h3 h hk hst hj hwj m (n + 1) fu (by omega) (by omega)
    refine ⟨σ', ?_, i⟩
    rw [f_LB1_127, if_neg (nI_nlt (by omega) (by omega)), show (0 : Int32) = nI 0 from rfl, lb136 hw h3 h hk hst hj hwj (n := n) (by omega) (aNs w) 0 FU (by omega) (FU_lt (by omega))]
    exact r
/-- a strategy is made and told -/
theorem lb1 {wt : Nat → Int32} (hw : AWok w) (h0 : 0 < aNs w) (h3 : aNg w = 3) (h : SI w st k wts σ) (hk : k < 12) (s1 : 1 ≤ st) (hst : st ≤ 30) (hwt : ∀ g, g < 3 → gA σ 9 g = wt g) :
    ∃ σ', f_LB1 wt (nI st) (nI k) σ = some ((), σ') ∧ SI w st (k + 1) (fun j => if j = k then wt else wts j) σ' := by
  obtain ⟨σ1, a1, a2, a3⟩ := q_solve (wt := wt) hw h0 h3 h hk s1 hst (fun g hg => hwt g (by omega))
  obtain ⟨σ2, b1, b2⟩ := lb127 (j := k) (wt := wt) hw h0 h3 a2 (by omega) hst (Nat.lt_succ_self _) (fun g _ => by rw [if_pos rfl]) st 0 FU (by omega) (FU_lt (by omega))
  refine ⟨σ2, ?_, b2⟩
  unfold f_LB1
  rw [a1, bnd_s, if_pos rfl]
  exact b1
end LB
