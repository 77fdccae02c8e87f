/-! What stays when cells change. -/
/-- all but the strategies -/
def RELx (w : AW) (σ τ : Sta) : Prop := AWok w ∧ (aNs w = 0 → aNg w = 0) ∧ AC w σ ∧ AM w τ ∧ Tape σ τ ∧ Plays σ τ ∧ Rest w σ τ
theorem RELx.rel {w : AW} {σ τ : Sta} (h : RELx w σ τ) (hS : Strs w σ τ) : REL w σ τ := ⟨h.1, h.2.1, h.2.2.1, h.2.2.2.1, h.2.2.2.2.1, hS, h.2.2.2.2.2.1, h.2.2.2.2.2.2⟩
theorem RELx_fr {w : AW} {σ τ σ' τ' : Sta} {I L A J I' L' A' J' : Nat → Prop} (h : REL w σ τ) (hc : Kp I L A J σ σ') (hm : Kp I' L' A' J' τ τ')
    (cI : ∀ q, I q → q ≠ 322 ∧ q ≠ 197 ∧ q ≠ 192 ∧ q ≠ 1 ∧ q ≠ 450 ∧ q ≠ 12 ∧ q ≠ 202) (cL : ∀ q, L q → q ≠ 13 ∧ q ≠ 449) (cA : ∀ q, A q → q ≠ 33 ∧ q ≠ 34 ∧ q ≠ 29 ∧ q ≠ 30 ∧ q ≠ 35 ∧ q ≠ 24 ∧ q ≠ 32 ∧ q ≠ 8 ∧ q ≠ 9) (cJ : ∀ q, J q → q ≠ 36 ∧ q ≠ 40 ∧ q ≠ 19)
    (mI : ∀ q, I' q → q ≠ 37 ∧ q ≠ 15 ∧ q ≠ 10 ∧ q ≠ 3 ∧ q ≠ 35 ∧ q ≠ 19 ∧ q ≠ 26) (mL : ∀ q, L' q → q ≠ 36 ∧ q ≠ 55) (mA : ∀ q, A' q → q ≠ 23 ∧ q ≠ 22 ∧ q ≠ 24 ∧ q ≠ 16 ∧ q ≠ 17 ∧ q ≠ 26 ∧ q ≠ 21 ∧ q ≠ 2 ∧ q ≠ 29) (mJ : ∀ q, J' q → q ≠ 25 ∧ q ≠ 37 ∧ q ≠ 7 ∧ q ≠ 1)
    : RELx w σ' τ' := by
  have c1 : ∀ q, (q = 322 ∨ q = 197 ∨ q = 192 ∨ q = 1 ∨ q = 450 ∨ q = 12 ∨ q = 202) → gI σ' q = gI σ q := fun q hq => hc.1 q (fun e => by have := cI q e; omega)
  have c2 : ∀ q, (q = 13 ∨ q = 449) → gL σ' q = gL σ q := fun q hq => hc.2.1 q (fun e => by have := cL q e; omega)
  have c3 : ∀ q, (q = 33 ∨ q = 34 ∨ q = 29 ∨ q = 30 ∨ q = 35 ∨ q = 24 ∨ q = 32 ∨ q = 8 ∨ q = 9) → gA σ' q = gA σ q := fun q hq => hc.2.2.1 q (fun e => by have := cA q e; omega)
  have c4 : ∀ q, (q = 36 ∨ q = 40 ∨ q = 19) → gJ σ' q = gJ σ q := fun q hq => hc.2.2.2.1 q (fun e => by have := cJ q e; omega)
  have m1 : ∀ q, (q = 37 ∨ q = 15 ∨ q = 10 ∨ q = 3 ∨ q = 35 ∨ q = 19 ∨ q = 26) → gI τ' q = gI τ q := fun q hq => hm.1 q (fun e => by have := mI q e; omega)
  have m2 : ∀ q, (q = 36 ∨ q = 55) → gL τ' q = gL τ q := fun q hq => hm.2.1 q (fun e => by have := mL q e; omega)
  have m3 : ∀ q, (q = 23 ∨ q = 22 ∨ q = 24 ∨ q = 16 ∨ q = 17 ∨ q = 26 ∨ q = 21 ∨ q = 2 ∨ q = 29) → gA τ' q = gA τ q := fun q hq => hm.2.2.1 q (fun e => by have := mA q e; omega)
  have m4 : ∀ q, (q = 25 ∨ q = 37 ∨ q = 7 ∨ q = 1) → gJ τ' q = gJ τ q := fun q hq => hm.2.2.2.1 q (fun e => by have := mJ q e; omega)
  refine ⟨h.1, h.2.1, ?_, ?_, ?_, ?_, ?_⟩
  · exact AC_kp hc ⟨fun e => by have := cI _ e; omega, fun e => by have := cI _ e; omega, fun e => by have := cI _ e; omega⟩ ⟨fun e => by have := cA _ e; omega, fun e => by have := cA _ e; omega, fun e => by have := cA _ e; omega, fun e => by have := cA _ e; omega, fun e => by have := cA _ e; omega, fun e => by have := cA _ e; omega, fun e => by have := cA _ e; omega⟩ (fun e => by have := cJ _ e; omega) h.2.2.1
  · exact AM_kp hm ⟨fun e => by have := mI _ e; omega, fun e => by have := mI _ e; omega, fun e => by have := mI _ e; omega⟩ ⟨fun e => by have := mA _ e; omega, fun e => by have := mA _ e; omega, fun e => by have := mA _ e; omega, fun e => by have := mA _ e; omega, fun e => by have := mA _ e; omega, fun e => by have := mA _ e; omega, fun e => by have := mA _ e; omega⟩ (fun e => by have := mJ _ e; omega) h.2.2.2.1
  · obtain ⟨tl, a1, a2, a3, a4⟩ := h.2.2.2.2.1
    refine ⟨tl, a1, ?_, ?_, fun j hj => ?_⟩
    · rw [c1 1 (by omega)]; exact a2
    · rw [m1 3 (by omega)]; exact a3
    · rw [c3 8 (by omega), m3 2 (by omega)]; exact a4 j hj
  · obtain ⟨p, a1, a2, a3, a4⟩ := h.2.2.2.2.2.2.1
    refine ⟨p, a1, ?_, ?_, fun j hj => ?_⟩
    · rw [c1 450 (by omega)]; exact a2
    · rw [m4 37 (by omega)]; exact a3
    · rw [c4 40 (by omega), m4 37 (by omega)]; exact a4 j hj
  · obtain ⟨a1, a2, a3, a4, a5, a6, a7, a8⟩ := h.2.2.2.2.2.2.2
    unfold Rest
    rw [c1 12 (by omega), m1 35 (by omega), c2 13 (by omega), m2 36 (by omega), c2 449 (by omega), m2 55 (by omega), c3 9 (by omega), m3 29 (by omega), c1 202 (by omega), m1 19 (by omega), c4 19 (by omega), m4 7 (by omega), m1 26 (by omega), m4 1 (by omega)]
    exact ⟨a1, a2, a3, a4, a5, a6, a7, a8⟩
theorem REL_fr {w : AW} {σ τ σ' τ' : Sta} {I L A J I' L' A' J' : Nat → Prop} (h : REL w σ τ) (hc : Kp I L A J σ σ') (hm : Kp I' L' A' J' τ τ')
    (cI : ∀ q, I q → q ≠ 322 ∧ q ≠ 197 ∧ q ≠ 192 ∧ q ≠ 1 ∧ q ≠ 450 ∧ q ≠ 12 ∧ q ≠ 202) (cL : ∀ q, L q → q ≠ 13 ∧ q ≠ 449) (cA : ∀ q, A q → q ≠ 33 ∧ q ≠ 34 ∧ q ≠ 29 ∧ q ≠ 30 ∧ q ≠ 35 ∧ q ≠ 24 ∧ q ≠ 32 ∧ q ≠ 8 ∧ q ≠ 9) (cJ : ∀ q, J q → q ≠ 36 ∧ q ≠ 40 ∧ q ≠ 19)
    (mI : ∀ q, I' q → q ≠ 37 ∧ q ≠ 15 ∧ q ≠ 10 ∧ q ≠ 3 ∧ q ≠ 35 ∧ q ≠ 19 ∧ q ≠ 26) (mL : ∀ q, L' q → q ≠ 36 ∧ q ≠ 55) (mA : ∀ q, A' q → q ≠ 23 ∧ q ≠ 22 ∧ q ≠ 24 ∧ q ≠ 16 ∧ q ≠ 17 ∧ q ≠ 26 ∧ q ≠ 21 ∧ q ≠ 2 ∧ q ≠ 29) (mJ : ∀ q, J' q → q ≠ 25 ∧ q ≠ 37 ∧ q ≠ 7 ∧ q ≠ 1)
    (hS : Strs w σ' τ') : REL w σ' τ' := (RELx_fr h hc hm cI cL cA cJ mI mL mA mJ).rel hS
theorem StrC_kp {w : AW} {d st : Nat} {T : Nat → Nat → Int32} {W : Nat → Nat → Int64} {B : Nat → Int64} {P : Int32} {σ σ' : Sta} {I L A J : Nat → Prop} (h : StrC w d st T W B P σ) (hc : Kp I L A J σ σ') (a : ¬ I (64 * (41 + 5 * d) + 1) ∧ ¬ I (64 * (41 + 5 * d) + 5) ∧ ¬ A (41 + 5 * d + 2) ∧ ¬ J (41 + 5 * d + 3) ∧ ¬ J (41 + 5 * d + 4)) : StrC w d st T W B P σ' := by
  unfold StrC at *
  rw [hc.1 _ a.1, hc.1 _ a.2.1, hc.2.2.1 _ a.2.2.1, hc.2.2.2.1 _ a.2.2.2.1, hc.2.2.2.1 _ a.2.2.2.2]
  exact h
theorem StrM_KM {w : AW} (hw : AWok w) {i k st : Nat} {T : Nat → Nat → Int32} {W : Nat → Nat → Int64} {B : Nat → Int64} {P : Int32} {τ τ' : Sta} (hst : st ≤ 30) (h : StrM w i st T W B P τ) (hk : KM k τ τ') (hi : i ≠ k) : StrM w i st T W B P τ' := by
  have h1 := hw.1
  have h2 := hw.2.1
  refine ⟨?_, fun n t h3 h4 => ?_, fun n t h3 h4 => ?_, fun g hg => ?_, ?_⟩
  · rw [(hk.2.2.1 i hi).1]; exact h.1
  · rw [(hk.2.1 _ (by omega)).1]; exact h.2.1 n t h3 h4
  · rw [(hk.2.1 _ (by omega)).2]; exact h.2.2.1 n t h3 h4
  · rw [hk.2.2.2 _ (by omega)]; exact h.2.2.2.1 g hg
  · rw [(hk.2.2.1 i hi).2]; exact h.2.2.2.2
/-- both sides make the strategy of row i -/
theorem mk_pair {w : AW} {σ τ : Sta} (hw : AWok w) (h0 : 0 < aNs w) (hc : AC w σ) (hm : AM w τ) (hP : Perm σ) {i st q2 : Nat} (hi : i ≤ 12) (h1 : 1 ≤ st) (h2 : st ≤ 30) (hS : gI σ (64 * (41 + 5 * gP σ i) + 1) = nI st) (hq : q2 ≠ 31 ∧ q2 ≠ 30) (hg : ∀ g, g < aNg w → gA σ (41 + 5 * gP σ i + 1) g = gA τ q2 g) (hK : ∀ j, j < i → Kept w j σ τ) :
    ∃ σ' τ', f_X2_plan (gP σ i) σ = some ((), σ') ∧ f_X10_make (nI i) q2 3 (nI st) τ = some ((), τ') ∧ Kp (kIs (gP σ i)) n0 (kA (gP σ i)) (kJs (gP σ i)) σ σ' ∧ KM i τ τ' ∧ Perm σ' ∧ ∀ j, j < i + 1 → Kept w j σ' τ' := by
  have hd := hP.1 i (by omega)
  obtain ⟨σ', a1, a2, a3, a4⟩ := e_plan (wt := gA τ q2) hw h0 h2 hc hS hg (fun t ht => hP.2.2 _ t hd ht)
  obtain ⟨τ', b1, b2, b3⟩ := e_make (wt := gA τ q2) (k := i) (st := st) hw h0 hq (by omega) h2 hm (fun _ _ => rfl)
  refine ⟨σ', τ', a1, b1, a2, b2, ⟨fun j hj => ?_, fun j j' hj hj' e => ?_, fun d t h3 h4 => ?_⟩, fun j hj => ?_⟩
  · rw [a2.2.2.2.2 j]; exact hP.1 j hj
  · rw [a2.2.2.2.2 j, a2.2.2.2.2 j'] at e; exact hP.2.1 j j' hj hj' e
  · by_cases h5 : d = gP σ i
    · rw [h5]; exact a4 t h4
    · rw [a2.2.2.2.1 _ (by unfold kJs; omega)]; exact hP.2.2 d t h3 h4
  · by_cases h5 : j = i
    · rw [h5]
      refine ⟨st, _, _, _, _, h1, h2, fun n _ => aTake_v hw (gA τ q2) n, ?_, b3⟩
      rw [a2.2.2.2.2 i]
      exact a3
    · obtain ⟨st', T, W, B, P, s1, s2, s3, s4, s5⟩ := hK j (by omega)
      have h6 : gP σ j ≠ gP σ i := fun e => h5 (hP.2.1 j i (by omega) (by omega) e)
      refine ⟨st', T, W, B, P, s1, s2, s3, ?_, StrM_KM hw s2 s5 b2 h5⟩
      rw [a2.2.2.2.2 j]
      exact StrC_kp s4 a2 ⟨by unfold kIs; omega, by unfold kIs; omega, by unfold kA; omega, by unfold kJs; omega, by unfold kJs; omega⟩
theorem Perm_kp {σ σ' : Sta} {I L A J : Nat → Prop} (h : Perm σ) (hc : Kp I L A J σ σ') (hJ : ∀ q, J q → q < 41) : Perm σ' :=
  ⟨fun j hj => by rw [hc.2.2.2.2 j]; exact h.1 j hj, fun j j' hj hj' e => by rw [hc.2.2.2.2 j, hc.2.2.2.2 j'] at e; exact h.2.1 j j' hj hj' e, fun d t h3 h4 => by rw [hc.2.2.2.1 _ (fun e => by have := hJ _ e; omega)]; exact h.2.2 d t h3 h4⟩
/-- strategies stay, when no cell of theirs changes -/
theorem Strs_kp {w : AW} {σ τ σ' τ' : Sta} {I L A J I' L' A' J' : Nat → Prop} (h : Strs w σ τ) (hc : Kp I L A J σ σ') (hm : Kp I' L' A' J' τ τ') (cI : ∀ q, I q → q ≠ 11 ∧ q < 2600) (cA : ∀ q, A q → q < 41) (cJ : ∀ q, J q → q < 41) (mI : ∀ q, I' q → q ≠ 47) (mA : ∀ q, A' q → q ≠ 30 ∧ q ≠ 31 ∧ q ≠ 34) (mJ : ∀ q, J' q → q ≠ 32 ∧ q ≠ 33) : Strs w σ' τ' := by
  obtain ⟨kp, k1, k2, k3, k4, k5, k6⟩ := h
  refine ⟨kp, k1, by rw [hc.1 _ (fun e => (cI _ e).1 rfl)]; exact k2, by rw [hm.1 _ (fun e => mI _ e rfl)]; exact k3, k4, Perm_kp k5 hc cJ, fun i hi => ?_⟩
  obtain ⟨st, T, W, B, P, s1, s2, s3, s4, s5⟩ := k6 i hi
  refine ⟨st, T, W, B, P, s1, s2, s3, ?_, ?_⟩
  · rw [hc.2.2.2.2 i]
    exact StrC_kp s4 hc ⟨fun e => by have := cI _ e; omega, fun e => by have := cI _ e; omega, fun e => by have := cA _ e; omega, fun e => by have := cJ _ e; omega, fun e => by have := cJ _ e; omega⟩
  · unfold StrM at *
    rw [hm.2.2.1 30 (fun e => (mA _ e).1 rfl), hm.2.2.1 31 (fun e => (mA _ e).2.1 rfl), hm.2.2.1 34 (fun e => (mA _ e).2.2 rfl), hm.2.2.2.1 32 (fun e => (mJ _ e).1 rfl), hm.2.2.2.1 33 (fun e => (mJ _ e).2 rfl)]
    exact s5
