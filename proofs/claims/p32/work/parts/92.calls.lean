/-! The calls of the law over a compiled program. -/
def Str (w : AW) (st : Nat) (wt : Nat → Int32) (j : Nat) (σ : Sta) : Prop := StrC w j st (aTake w wt) (aWorth w wt) (fun g => aFolG w (aTake w wt) g st 0) ((aFolP w (aTake w wt) st 0).toInt32) σ
def SI (w : AW) (st k : Nat) (wts : Nat → Nat → Int32) (σ : Sta) : Prop := AC w σ ∧ gI σ 11 = nI k ∧ (∀ i, i < 13 → gP σ i = i) ∧ (∀ d, d < 13 → ∀ t, t < 100 → gJ σ (41 + 5 * d + 3) t = 0) ∧ ∀ j, j < k → Str w st (wts j) j σ
theorem ci_ok {i n : Nat} {σ : Sta} (h : i < n) (hn : n < 2 ^ 31) : f_X8_checkIndex (nI i) (nI n) σ = some ((), σ) := by
  unfold f_X8_checkIndex
  rw [if_neg (nI_pos (by omega)), if_pos (nI_lt h hn)]
theorem cr_ok {a lo hi : Int32} {σ : Sta} (h1 : ¬ a < lo) (h2 : a ≤ hi) : f_X8_checkRange a lo hi σ = some ((), σ) := by
  unfold f_X8_checkRange
  rw [if_neg h1, if_pos h2]
section CALLS
variable {w : AW} {st k : Nat} {wts : Nat → Nat → Int32} {σ : Sta} {s c b g j n : Nat}
theorem cs_ok (hw : AWok w) (h : AC w σ) (hs : s < aNs w) : f_X8_checkState (nI s) σ = some ((), σ) := by
  have h1 := hw.1
  unfold f_X8_checkState
  rw [h.1, ci_ok hs (by omega), bnd_s]
theorem cg_ok (hw : AWok w) (h : AC w σ) (hg : g < aNg w) : f_X8_checkGain (nI g) σ = some ((), σ) := by
  have h1 := hw.2.1
  unfold f_X8_checkGain
  rw [h.2.1, ci_ok hg (by omega), bnd_s]
theorem ac_ch (hw : AWok w) (h : AC w σ) (hs : s < aNs w) (hc : c < aCh w s) : gA σ 33 s = nI (aCh w s) := by
  rw [h.2.2.2.1 s hs, if_neg]
  intro e
  rw [(hw.2.2.2.1 s hs).2 e] at hc
  exact Nat.not_lt_zero _ hc
theorem cc_ok (hw : AWok w) (h : AC w σ) (hs : s < aNs w) (hc : c < aCh w s) : f_X8_checkChoice (nI s) (nI c) σ = some ((), σ) := by
  have h1 := hw.1
  have h2 := (hw.2.2.2.1 s hs).1
  unfold f_X8_checkChoice
  rw [cs_ok hw h hs, bnd_s, if_neg (nI_in (by omega) (by omega)), nI_clamp (by omega), ac_ch hw h hs hc, ci_ok hc (by omega), bnd_s]
theorem q_count3 (h : AC w σ) : f_X8_count 3 σ = some (nI (aNs w), σ) := by
  unfold f_X8_count
  rw [if_neg (by decide), if_neg (by decide), if_neg (by decide), if_pos rfl, h.1]
theorem q_count4 (h : gI σ 11 = nI k) : f_X8_count 4 σ = some (nI k, σ) := by
  unfold f_X8_count
  rw [if_neg (by decide), if_neg (by decide), if_neg (by decide), if_neg (by decide), if_pos rfl, h]
theorem q_choices (hw : AWok w) (h : AC w σ) (hs : s < aNs w) : f_X8_choices (nI s) σ = some (if aGl w s = true then -1 else nI (aCh w s), σ) := by
  have h1 := hw.1
  unfold f_X8_choices
  rw [cs_ok hw h hs, bnd_s, if_neg (nI_in (by omega) (by omega)), nI_clamp (by omega), h.2.2.2.1 s hs]
theorem q_choice1 (hw : AWok w) (h : AC w σ) (hs : s < aNs w) (hc : c < aCh w s) : f_X8_choice (nI s) (nI c) 1 σ = some (nI (aNb w (aCm w s c)), σ) := by
  have e : f_X8_checkIndex 1 2 σ = some ((), σ) := ci_ok (i := 1) (n := 2) (by decide) (by decide)
  unfold f_X8_choice
  rw [cc_ok hw h hs hc, bnd_s, e, bnd_s, if_neg (by decide), e_branchesOf hw h hs hc, bnd_s]
  rfl
theorem q_gain (hw : AWok w) (h : AC w σ) (hs : s < aNs w) (hc : c < aCh w s) (hg : g < aNg w) : f_X8_gain (nI s) (nI c) (nI g) σ = some (aGn w s c g, σ) := by
  unfold f_X8_gain
  rw [cc_ok hw h hs hc, bnd_s, cg_ok hw h hg, bnd_s, e_gainOf hw h hs hc hg, bnd_s]
theorem q_branch1 (hw : AWok w) (h : AC w σ) (hs : s < aNs w) (hc : c < aCh w s) (hb : b < aNb w (aCm w s c)) : f_X8_branch (nI s) (nI c) (nI b) 1 σ = some (nI (aPc w (aCm w s c) b), σ) := by
  have h1 := ok_s hw hs hc
  unfold f_X8_branch
  rw [cc_ok hw h hs hc, bnd_s, e_branchesOf hw h hs hc, bnd_s, ci_ok hb (by omega), bnd_s, if_neg (by decide), e_chanceOf hw h hs hc hb, bnd_s]
theorem q_branch0 (hw : AWok w) (h : AC w σ) (hs : s < aNs w) (hc : c < aCh w s) (hb : b < aNb w (aCm w s c)) : f_X8_branch (nI s) (nI c) (nI b) 0 σ = some (nI (aTg w s c b), σ) := by
  have h1 := ok_s hw hs hc
  unfold f_X8_branch
  rw [cc_ok hw h hs hc, bnd_s, e_branchesOf hw h hs hc, bnd_s, ci_ok hb (by omega), bnd_s, if_pos rfl, e_targetOf hw h hs hc hb, bnd_s]
theorem q_weigh {a : Int32} (hw : AWok w) (h : AC w σ) (hg : g < aNg w) (h1 : ¬ a < -9) (h2 : a ≤ 9) : f_X8_weigh (nI g) a σ = some (gA σ 9 g, sA σ 9 (upd (gA σ 9) g a)) := by
  have h3 := hw.2.1
  unfold f_X8_weigh
  rw [cg_ok hw h hg, bnd_s, cr_ok h1 h2, bnd_s, if_neg (nI_in (by omega) (by omega)), lt_e, if_neg (nI_in (by omega) (by omega)), lt_e, nI_clamp (by omega)]
theorem st_ok (h : gI σ 11 = nI k) (hj : j < k) (hk : k < 13) : f_X8_checkStrategy (nI j) σ = some ((), σ) := by
  unfold f_X8_checkStrategy
  rw [h, ci_ok hj (by omega), bnd_s]
theorem q_takes (hw : AWok w) (h : SI w st k wts σ) (hk : k < 13) (hst : st ≤ 30) (hj : j < k) (hs : s < aNs w) (hn : n < st) : f_X8_takes (nI j) (nI s) (nI (n + 1)) σ = some (aTake w (wts j) n s, σ) := by
  have h1 := hw.1
  have hS := h.2.2.2.2 j hj
  unfold f_X8_takes
  rw [st_ok h.2.1 hj hk, bnd_s, cs_ok hw h.1 hs, bnd_s, if_neg (nI_in (by omega) (by omega)), nI_clamp (by omega), h.2.2.1 j (by omega), if_neg (by omega), lt_e, hS.1, cr_ok (show ¬ nI (n + 1) < 1 from nI_nlt (a := n + 1) (b := 1) (by omega) (by omega)) (nI_le (by omega) (by omega)), bnd_s, e_takenIn (by omega) (by omega), bnd_s, hS.2.1 n s hn hs]
theorem q_worth (hw : AWok w) (h : SI w st k wts σ) (hk : k < 13) (hst : st ≤ 30) (hj : j < k) (hs : s < aNs w) (hn : n ≤ st) : f_X8_worth (nI j) (nI s) (nI n) σ = some (aWorth w (wts j) n s, σ) := by
  have h1 := hw.1
  have hS := h.2.2.2.2 j hj
  unfold f_X8_worth
  rw [st_ok h.2.1 hj hk, bnd_s, cs_ok hw h.1 hs, bnd_s, if_neg (nI_in (by omega) (by omega)), nI_clamp (by omega), h.2.2.1 j (by omega), if_neg (by omega), lt_e, hS.1, cr_ok (nI_pos (by omega)) (nI_le (by omega) (by omega)), bnd_s, nI_mulL, nI_add, e_entryL (by omega) (by omega), bnd_s, hS.2.2.1 n s hn hs]
theorem q_brings (hw : AWok w) (h : SI w st k wts σ) (hk : k < 13) (hj : j < k) (hg : g < aNg w) : f_X8_brings (nI j) (nI g) σ = some (aFolG w (aTake w (wts j)) g st 0, σ) := by
  have h1 := hw.2.1
  have hS := h.2.2.2.2 j hj
  unfold f_X8_brings
  rw [st_ok h.2.1 hj hk, bnd_s, cg_ok hw h.1 hg, bnd_s, if_neg (nI_in (by omega) (by omega)), nI_clamp (by omega), h.2.2.1 j (by omega), if_neg (by omega), lt_e, if_neg (nI_in (by omega) (by omega)), nI_clamp (by omega), hS.2.2.2.1 g hg]
theorem q_chance (h : SI w st k wts σ) (hk : k < 13) (hj : j < k) : f_X8_chance (nI j) σ = some ((aFolP w (aTake w (wts j)) st 0).toInt32, σ) := by
  have hS := h.2.2.2.2 j hj
  unfold f_X8_chance
  rw [st_ok h.2.1 hj hk, bnd_s, if_neg (nI_in (by omega) (by omega)), nI_clamp (by omega), h.2.2.1 j (by omega), if_neg (by omega), lt_e, hS.2.2.2.2]
theorem Str_keep {wt : Nat → Int32} {σ' : Sta} (h : Str w st wt j σ) (h1 : gI σ' (64 * (41 + 5 * j) + 1) = gI σ (64 * (41 + 5 * j) + 1)) (h2 : gI σ' (64 * (41 + 5 * j) + 5) = gI σ (64 * (41 + 5 * j) + 5)) (h3 : gA σ' (41 + 5 * j + 2) = gA σ (41 + 5 * j + 2)) (h4 : gJ σ' (41 + 5 * j + 3) = gJ σ (41 + 5 * j + 3)) (h5 : gJ σ' (41 + 5 * j + 4) = gJ σ (41 + 5 * j + 4)) : Str w st wt j σ' := by
  unfold Str StrC
  rw [h1, h2, h3, h4, h5]
  exact h
theorem SI_B {σ' : Sta} (hk : Kp n0 n0 n0 kB σ σ') (h : SI w st k wts σ) : SI w st k wts σ' := by
  refine ⟨AC_B hk ⟨id, id, id⟩ h.1, (hk.1 11 id).trans h.2.1, fun i hi => (hk.2.2.2.2 i).trans (h.2.2.1 i hi), fun d hd t ht => ?_, fun j hj => ?_⟩
  · rw [hk.2.2.2.1 _ (by unfold kB; omega)]
    exact h.2.2.2.1 d hd t ht
  · exact Str_keep (h.2.2.2.2 j hj) (hk.1 _ id) (hk.1 _ id) (hk.2.2.1 _ id) (hk.2.2.2.1 _ (by unfold kB; omega)) (hk.2.2.2.1 _ (by unfold kB; omega))
theorem q_reach (hw : AWok w) (h0 : 0 < aNs w) (h : SI w st k wts σ) (hn : n ≤ 30) (b : Int32) : ∃ σ', f_X8_reach (nI n) b σ = some ((aR w (decide (b ≠ 0)) n 0).toInt32, σ') ∧ SI w st k wts σ' := by
  have h1 := hw.1
  obtain ⟨σ1, e1, e2, e3⟩ := e_startChances (T := fun _ _ => 0) hw h.1
  obtain ⟨σ2, g1, g2⟩ := e_ext6 (b := b) hw h0 hn n 0 FU σ1 (by omega) (FU_lt (by omega)) (AC_B e2 ⟨id, id, id⟩ h.1) e3
  refine ⟨σ2, ?_, SI_B (e2.trans g2) h⟩
  unfold f_X8_reach f_X8_checkProgram f_X2_extremeChance
  rw [cr_ok (nI_pos (by omega)) (show nI n ≤ 30 from nI_le (b := 30) hn (by decide)), bnd_s, h.1.1, if_neg (nI_ne0 h0 (by omega)), bnd_s, e1, bnd_s, show (1 : Int32) = nI (0 + 1) from rfl, g1, bnd_s]
def kW (d : Nat) : Nat → Prop := fun q => q = 41 + 5 * d + 1
theorem q_sol32 {d : Nat} {v : Int32} : ∀ (m g n : Nat) (σ : Sta), g + m = 3 → m < n → (∀ i, i < g → gA σ (41 + 5 * d + 1) i = gA σ 9 i) →
    ∃ σ1, f_X8_solve_32 n v d (nI g) σ = bnd (f_X2_plan d (sI σ1 (64 * (41 + 5 * d) + 1) v)) (fun _ σ4 => some (gI (sI σ4 11 (gI σ4 11 + 1)) 11 - 1, sI σ4 11 (gI σ4 11 + 1))) ∧ Kp n0 n0 (kW d) n0 σ σ1 ∧ ∀ i, i < 3 → gA σ1 (41 + 5 * d + 1) i = gA σ 9 i
  | _, _, 0, _, _, hn, _ => absurd hn (Nat.not_lt_zero _)
  | 0, g, n + 1, σ, hg, _, hi => by
    refine ⟨σ, ?_, Kp.rfl', fun i h => hi i (by omega)⟩
    rw [f_X8_solve_32, if_pos (show (3 : Int32) ≤ nI _ from nI_le (a := 3) (by omega) (by omega)), lt_e]
    rfl
  | m + 1, g, n + 1, σ, hg, hn, hi => by
    obtain ⟨σ1, a1, a2, a3⟩ := q_sol32 (d := d) (v := v) m (g + 1) n (sA σ (41 + 5 * d + 1) (upd (gA σ (41 + 5 * d + 1)) g (gA σ 9 g))) (by omega) (by omega) (fun i h => by
      rw [gA_sA, if_pos rfl, upd_at, gA_sA, if_neg (show ¬ 9 = 41 + 5 * d + 1 by omega)]
      by_cases q : i = g
      · rw [if_pos q, q]
      · rw [if_neg q]
        exact hi i (by omega))
    refine ⟨σ1, ?_, (Kp.sA (show kW d (41 + 5 * d + 1) from rfl) Kp.rfl').trans a2, fun i h => ?_⟩
    · rw [f_X8_solve_32, if_neg (show ¬ (3 : Int32) ≤ nI _ from nI_ge (b := 3) (by omega) (by decide)), if_neg (nI_in (by omega) (by omega)), if_neg (nI_in (by omega) (by omega)), lt_e, lt_e, nI_1, nI_clamp (by omega)]
      exact a1
    · rw [a3 i h, gA_sA, if_neg (show ¬ 9 = 41 + 5 * d + 1 by omega)]
theorem q_solve {wt : Nat → Int32} (hw : AWok w) (h0 : 0 < aNs w) (h3 : aNg w = 3) (h : SI w st k wts σ) (hk : k < 12) (s1 : 1 ≤ st) (hst : st ≤ 30) (hwt : ∀ g, g < aNg w → gA σ 9 g = wt g) :
    ∃ σ', f_X8_solve (nI st) σ = some (nI k, σ') ∧ SI w st (k + 1) (fun j => if j = k then wt else wts j) σ' ∧ gA σ' 9 = gA σ 9 := by
  have h1 := hw.1
  obtain ⟨σ1, a1, a2, a3⟩ := q_sol32 (d := k) (v := nI st) 3 0 FU σ rfl (FU_lt (by decide)) (fun i hi => absurd hi (Nat.not_lt_zero _))
  have K1 : Kp (fun q => q = 64 * (41 + 5 * k) + 1) n0 (kW k) n0 σ (sI σ1 (64 * (41 + 5 * k) + 1) (nI st)) := Kp.sI rfl (a2.mono (fun _ e => e.elim) (fun _ e => e) (fun _ e => e) (fun _ e => e))
  have A1 : AC w (sI σ1 (64 * (41 + 5 * k) + 1) (nI st)) := AC_kp K1 ⟨by omega, by omega, by omega⟩ ⟨by unfold kW; omega, by unfold kW; omega, by unfold kW; omega, by unfold kW; omega, by unfold kW; omega, by unfold kW; omega, by unfold kW; omega⟩ id h.1
  obtain ⟨σ2, b1, b2, b3, b4⟩ := e_plan (wt := wt) (d := k) (st := st) hw h0 hst A1 (by rw [gI_sI, if_pos rfl]) (fun g hg => by
    rw [gA_sI, a3 g (by omega)]
    exact hwt g hg) (fun t ht => by
    rw [K1.2.2.2.1 _ id]
    exact h.2.2.2.1 k (by omega) t ht)
  have e11 : gI σ2 11 = nI k := by
    rw [b2.1 11 (by unfold kIs; omega), K1.1 11 (by omega)]
    exact h.2.1
  refine ⟨sI σ2 11 (nI (k + 1)), ?_, ⟨?_, ?_, fun i hi => ?_, fun d hd t ht => ?_, fun j hj => ?_⟩, ?_⟩
  · unfold f_X8_solve f_X8_checkProgram f_X8_checkRoom
    rw [cr_ok (show ¬ nI st < 1 from nI_nlt (a := st) (b := 1) s1 (by omega)) (show nI st ≤ 30 from nI_le (b := 30) hst (by decide)), bnd_s, h.1.1, if_neg (nI_ne0 h0 (by omega)), bnd_s, h.2.1, if_pos (show nI k < 12 from nI_lt (b := 12) hk (by decide)), bnd_s, h.2.1, if_neg (nI_in (by omega) (by omega)), nI_clamp (by omega), h.2.2.1 k (by omega), if_neg (by omega), lt_e, show (0 : Int32) = nI 0 from rfl, a1, b1, bnd_s, e11, nI_1, gI_sI, if_pos rfl, nI_pred]
  · exact AC_kp (I := fun q => q = 11) (L := n0) (A := n0) (J := n0) (Kp.sI rfl Kp.rfl') ⟨by decide, by decide, by decide⟩ ⟨id, id, id, id, id, id, id⟩ id (AC_str b2 A1)
  · rw [gI_sI, if_pos rfl]
  · rw [gP_sI, b2.2.2.2.2 i, K1.2.2.2.2 i]
    exact h.2.2.1 i hi
  · rw [gJ_sI]
    by_cases q : d = k
    · rw [q]
      exact b4 t ht
    · rw [b2.2.2.2.1 _ (by unfold kJs; omega), K1.2.2.2.1 _ id]
      exact h.2.2.2.1 d hd t ht
  · by_cases q : j = k
    · subst q
      show Str w st (if j = j then wt else wts j) j _
      rw [if_pos rfl]
      have b3' : Str w st wt j σ2 := b3
      exact Str_keep b3' (by rw [gI_sI, if_neg (by omega)]) (by rw [gI_sI, if_neg (by omega)]) rfl rfl rfl
    · show Str w st (if j = k then wt else wts j) j _
      rw [if_neg q]
      exact Str_keep (h.2.2.2.2 j (by omega)) (by rw [gI_sI, if_neg (by omega), b2.1 _ (by unfold kIs; omega), K1.1 _ (by omega)]) (by rw [gI_sI, if_neg (by omega), b2.1 _ (by unfold kIs; omega), K1.1 _ (by omega)]) (by rw [gA_sI, b2.2.2.1 _ (by unfold kA; omega), K1.2.2.1 _ (by unfold kW; omega)]) (by rw [gJ_sI, b2.2.2.2.1 _ (by unfold kJs; omega), K1.2.2.2.1 _ id]) (by rw [gJ_sI, b2.2.2.2.1 _ (by unfold kJs; omega), K1.2.2.2.1 _ id])
  · rw [gA_sI, b2.2.2.1 _ (by unfold kA; omega), K1.2.2.1 _ (by unfold kW; omega)]
end CALLS
