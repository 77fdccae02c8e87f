/-! Items of a program: variables, gains, the goal. -/
section IM
variable {K V : Nat → Nat} {M : Nat} {fm : Int32} {t c x nv ng nc : Nat} {σ : Sta} {vr : Nat → Int32}
theorem fm_01 (h : fm = 0 ∨ fm = 1) {P : Prop} (a : fm = 0 → P) (b : fm = 1 → P) : P := h.elim a b
theorem it_var (h : IT K V M fm t c x σ) (hf : fm = 0 ∨ fm = 1) (hp : PG nv ng nc σ) {a0 a1 a2 a3 a4 nm v lo hi : Nat} {r : List Tk} (hS : Sf K V M t ((256, a0) :: (273, nm) :: (61, a1) :: (274, v) :: (257, a2) :: (274, lo) :: (258, a3) :: (274, hi) :: (59, a4) :: r)) (hv : v < 100) (hlo : lo < 100) (hhi : hi < 100) (h1 : lo ≤ v) (h2 : v ≤ hi) (hn : fm = 0 ∨ (nv < 6 ∧ NT nv ng nc (lN nm) σ)) :
    f_X1_readVariable σ = some ((), oV fm (A2 σ (t + 9)) nv (lN nm) (nI v) (nI lo) (nI hi)) ∧ Sf K V M (t + 9) r := by
  obtain ⟨k0, v0, s1⟩ := Sf_cons hS
  obtain ⟨k1, v1, s2⟩ := Sf_cons s1
  obtain ⟨k2, v2, s3⟩ := Sf_cons s2
  obtain ⟨k3, v3, s4⟩ := Sf_cons s3
  obtain ⟨k4, v4, s5⟩ := Sf_cons s4
  obtain ⟨k5, v5, s6⟩ := Sf_cons s5
  obtain ⟨k6, v6, s7⟩ := Sf_cons s6
  obtain ⟨k7, v7, s8⟩ := Sf_cons s7
  obtain ⟨k8, v8, s9⟩ := Sf_cons s8
  have hl := Sf_len _ _ s8
  have hl' : t + 1 + 1 + 1 + 1 + 1 + 1 + 1 + 1 + (r.length + 1) = M := hl
  have hX := h.1
  have ex : ∀ {j k : Nat}, j < M → K j = k → f_X1_expect (nI k) (A2 σ j) = some (nI j, A2 σ (j + 1)) := fun hj hk => a_exp hX hj hk
  refine ⟨?_, s9⟩
  have key : ∀ s, (fm = 0 ∨ ¬ s = 0) → f_X1_readVariable_81 (nI t) (nI (t + 1)) (nI (t + 3)) (nI (t + 5)) (nI (t + 7)) s (A2 σ (t + 9)) = some ((), oV fm (A2 σ (t + 9)) nv (lN nm) (nI v) (nI lo) (nI hi)) := fun s hs => by
    unfold f_X1_readVariable_81 f_X1_readVariable_134 f_X1_readVariable_160 f_X1_readVariable_179 f_X1_readVariable_205 f_X1_readVariable_238
    have w5 := a_whole hX (i := t + 4) (j := t + 9) (by omega) (fun e => absurd (k4.symm.trans e) (show ¬ (257 : Nat) = 45 by decide))
    have w7 := a_whole hX (i := t + 6) (j := t + 9) (by omega) (fun e => absurd (k6.symm.trans e) (show ¬ (258 : Nat) = 45 by decide))
    have w3 := a_whole hX (i := t + 2) (j := t + 9) (by omega) (fun e => absurd (k2.symm.trans e) (show ¬ (61 : Nat) = 45 by decide))
    rw [show t + 4 + 1 = t + 5 from rfl, show V (t + 5) = lo from v5] at w5
    rw [show t + 6 + 1 = t + 7 from rfl, show V (t + 7) = hi from v7] at w7
    rw [show t + 2 + 1 = t + 3 from rfl, show V (t + 3) = v from v3] at w3
    rw [a_dem hX _ _ hs, bnd_s, a_new hX hp (by omega) (hn.imp id (fun e => by rw [v1]; exact e.2)), bnd_s, w5, bnd_s, w7, bnd_s, w3, bnd_s, if_neg (n99 hlo).1, if_neg (n99 hlo).2, a_dem hX _ _ (Or.inr (by decide)), bnd_s, if_neg (n99 hhi).1, if_neg (n99 hhi).2, a_dem hX _ _ (Or.inr (by decide)), bnd_s, if_neg (nI_nlt (by omega) (by omega)), a_dem hX _ _ (Or.inr (by decide)), bnd_s, if_neg (nI_nlt (by omega) (by omega)), if_neg (nI_nlt (by omega) (by omega)), a_dem hX _ _ (Or.inr (by decide)), bnd_s]
    rcases hf with rfl | rfl
    · rw [a_mr0 hX, bnd_s, if_pos rfl]
      rfl
    · rw [a_mr1 hX, bnd_s, if_neg (by decide), a_con hX (by omega), bnd_s, v1, p_addV (σ := A2 σ (t + 9)) (nv := nv) hp.1 (hn.resolve_left (by decide)).1, bnd_s]
  unfold f_X1_readVariable
  have e0 : f_X1_expect 256 σ = some (nI t, A2 σ (t + 1)) := by
    have := ex (j := t) (k := 256) (by omega) k0
    rw [A2_0 hX] at this
    exact this
  rw [e0, bnd_s, show (273 : Int32) = nI 273 from rfl, ex (by omega) k1, bnd_s, show (61 : Int32) = nI 61 from rfl, ex (by omega) k2, bnd_s, a_rw hX (by omega) k3, bnd_s, show (257 : Int32) = nI 257 from rfl, ex (by omega) k4, bnd_s, a_rw hX (by omega) k5, bnd_s, show (258 : Int32) = nI 258 from rfl, ex (by omega) k6, bnd_s, a_rw hX (by omega) k7, bnd_s, show (59 : Int32) = nI 59 from rfl, ex (by omega) k8, bnd_s, show gI (A2 σ (t + 1 + 1 + 1 + 1 + 1 + 1 + 1 + 1 + 1)) 192 = nI nv from hp.1]
  by_cases q : 6 ≤ nv
  · rw [if_pos (show (6 : Int32) ≤ nI nv from nI_le (a := 6) q (by have := hp.2.2.2.1; omega))]
    exact key 0 (Or.inl (hn.resolve_right (fun e => by omega)))
  · rw [if_neg (show ¬ (6 : Int32) ≤ nI nv from nI_ge (b := 6) (by omega) (by decide))]
    exact key 1 (Or.inr (by decide))
/-- the command of a name, wherever it stands -/
theorem p_cmd (h : PX K V M fm M t σ) {j0 cn : Nat} (h1 : ∀ j, j < j0 → K j ≠ 262) (h2 : K j0 = 262) (h3 : V (j0 + 1) = cn) (h4 : j0 + 1 < M) {i : Nat} : f_X1_commandNamed (lN cn) (A2 σ i) = some (0, A2 σ i) := by
  have hX := A2_X h i
  have go : ∀ (m j n : Nat), j + m = j0 → m < n → f_X1_commandNamed_5 n (lN cn) 0 (nI j) (A2 σ i) = some (0, A2 σ i) := by
    intro m
    induction m with
    | zero =>
      intro j n hj hn
      obtain ⟨n, rfl⟩ : ∃ k, n = k + 1 := ⟨n - 1, by omega⟩
      have hj' : j = j0 := by omega
      subst hj'
      rw [f_X1_commandNamed_5, nI_1, hX.2.1, if_neg (nI_ge (by omega) (by have := hX.2.2.1; omega)), a_kind h (by omega), bnd_s, h2, if_pos (show nI 262 = 262 from rfl), a_con h h4, bnd_s, h3, if_pos ((lg_cmp_eq _ _).mpr rfl)]
    | succ m ih =>
      intro j n hj hn
      obtain ⟨n, rfl⟩ : ∃ k, n = k + 1 := ⟨n - 1, by omega⟩
      have hK := PX_K h (show j < M by omega)
      rw [f_X1_commandNamed_5, nI_1, hX.2.1, if_neg (nI_ge (by omega) (by have := hX.2.2.1; omega)), a_kind h (by omega), bnd_s, if_neg (show ¬ nI (K j) = 262 from nI_neq (b := 262) (by omega) (by decide) (h1 j (by omega)))]
      unfold f_X1_commandNamed_55
      rw [lt_e, nI_1]
      exact ih (j + 1) n (by omega) (by omega)
  unfold f_X1_commandNamed
  exact go j0 0 FU (by omega) (Nat.lt_of_le_of_lt (by have := h.2.2.1; omega : j0 ≤ 2000) (FU_lt (by decide)))
/-- the end of a gain: its expression -/
theorem it_gainE (h : IT K V M fm t c x σ) (hf : fm = 0 ∨ fm = 1) (hp : PG nv ng nc σ) (hx : x < 1400) (hV : VR fm vr σ) {i j a1 a2 nm : Nat} {cm : Int32} {l r o : List Tk} (hi : i < M) (hVi : V i = nm) (hS : Sf K V M j ((61, a1) :: l)) (hr : rX 99 0 0 0 l = some ((59, a2) :: r, o)) (ho : o ≠ []) (hc : c + o.length ≤ 1400) (hlen : l.length < r.length + 61) (hn : fm = 0 ∨ ng < 3) :
    ∃ j' σ', f_X1_readGain_94 (nI i) cm (A2 σ j) = some ((), oG fm (A2 σ' j') ng (lN nm) cm (nI x)) ∧ Sf K V M j' r ∧ IT K V M fm j' (c + o.length) (x + 1) (A2 σ' j') ∧ EQ vr σ' (c + o.length) (x + 1) x o ∧ KC c x σ σ' ∧ Kq σ σ' := by
  obtain ⟨k0, v0, s1⟩ := Sf_cons hS
  have hl := Sf_len _ _ hS
  have hl' : j + (l.length + 1) = M := hl
  have hX := h.1
  obtain ⟨j', σ', e1, e2, e3, e4, e5, e6, e7⟩ := a_expr h hx hV s1 hr ho hc (Nat.succ_pos _) (by show l.length < r.length + 1 + 60; omega)
  obtain ⟨k9, v9, s9⟩ := Sf_cons e2
  have hl9 := Sf_len _ _ e2
  have hl9' : j' + (r.length + 1) = M := hl9
  have hX' := e4.1
  refine ⟨j' + 1, σ', ?_, s9, A2_I e4 (j' + 1), e5, e6, e7⟩
  unfold f_X1_readGain_94 f_X1_readGain_137
  rw [show (61 : Int32) = nI 61 from rfl, a_exp hX (by omega) k0, bnd_s, e1, bnd_s, show (59 : Int32) = nI 59 from rfl, a_exp hX' (by omega) k9, bnd_s]
  rcases hf with rfl | rfl
  · rw [a_mr0 hX', bnd_s, if_pos rfl]
    rfl
  · have h197 : gI (A2 σ' (j' + 1)) 197 = nI ng := (e7.1 197 (by unfold qI; omega)).trans hp.2.1
    rw [a_mr1 hX', bnd_s, if_neg (by decide), a_con hX' hi, bnd_s, hVi, p_addG h197 (hn.resolve_left (by decide)), bnd_s]
theorem it_gain (h : IT K V M fm t c x σ) (hf : fm = 0 ∨ fm = 1) (hp : PG nv ng nc σ) (hx : x < 1400) (hV : VR fm vr σ) {a0 a1 a2 nm : Nat} {l r o : List Tk} (hS : Sf K V M t ((259, a0) :: (273, nm) :: (61, a1) :: l)) (hr : rX 99 0 0 0 l = some ((59, a2) :: r, o)) (ho : o ≠ []) (hc : c + o.length ≤ 1400) (hlen : l.length < r.length + 61) (hn : fm = 0 ∨ (ng < 3 ∧ NT nv ng nc (lN nm) σ)) :
    ∃ j' σ', f_X1_readGain σ = some ((), oG fm (A2 σ' j') ng (lN nm) (-1) (nI x)) ∧ Sf K V M j' r ∧ IT K V M fm j' (c + o.length) (x + 1) (A2 σ' j') ∧ EQ vr σ' (c + o.length) (x + 1) x o ∧ KC c x σ σ' ∧ Kq σ σ' := by
  obtain ⟨k0, v0, s1⟩ := Sf_cons hS
  obtain ⟨k1, v1, s2⟩ := Sf_cons s1
  have hl := Sf_len _ _ s2
  have hl' : t + 1 + 1 + (l.length + 1) = M := hl
  have hX := h.1
  obtain ⟨k2, -, -⟩ := Sf_cons s2
  obtain ⟨j', σ', g1, g2⟩ := it_gainE (i := t + 1) (cm := -1) h hf hp hx hV (by omega) v1 s2 hr ho hc hlen (hn.imp id (fun e => e.1))
  refine ⟨j', σ', ?_, g2⟩
  have key : ∀ s, (fm = 0 ∨ ¬ s = 0) → f_X1_readGain_17 s σ = some ((), oG fm (A2 σ' j') ng (lN nm) (-1) (nI x)) := fun s hs => by
    unfold f_X1_readGain_17
    have d0 := a_dem hX (j := t) (s := s) 4 (gI σ 260) hs
    rw [A2_0 hX] at d0
    have e0 := a_exp hX (j := t) (k := 259) (by omega) k0
    rw [A2_0 hX] at e0
    rw [d0, bnd_s, show (259 : Int32) = nI 259 from rfl, e0, bnd_s, show (273 : Int32) = nI 273 from rfl, a_exp hX (by omega) k1, bnd_s, a_new hX hp (by omega) (hn.imp id (fun e => by rw [v1]; exact e.2)), bnd_s, lt_e, show (260 : Int32) = nI 260 from rfl, a_accN hX (by omega) (fun e => absurd (k2.symm.trans e) (show ¬ (61 : Nat) = 260 by decide)) (by decide), bnd_s, if_pos rfl]
    exact g1
  unfold f_X1_readGain
  rw [show gI σ 197 = nI ng from hp.2.1]
  by_cases q : 3 ≤ ng
  · rw [if_pos (show (3 : Int32) ≤ nI ng from nI_le (a := 3) q (by have := hp.2.2.2.2.1; omega))]
    exact key 0 (Or.inl (hn.resolve_right (fun e => by omega)))
  · rw [if_neg (show ¬ (3 : Int32) ≤ nI ng from nI_ge (b := 3) (by omega) (by decide))]
    exact key 1 (Or.inr (by decide))
theorem it_gainP (h : IT K V M fm t c x σ) (hf : fm = 0 ∨ fm = 1) (hp : PG nv ng nc σ) (hx : x < 1400) (hV : VR fm vr σ) {a0 a1 a2 a3 nm cn j0 : Nat} {l r o : List Tk} (hS : Sf K V M t ((259, a0) :: (273, nm) :: (260, a3) :: (273, cn) :: (61, a1) :: l)) (hr : rX 99 0 0 0 l = some ((59, a2) :: r, o)) (ho : o ≠ []) (hc : c + o.length ≤ 1400) (hlen : l.length < r.length + 61) (hn : fm = 0 ∨ (ng < 3 ∧ NT nv ng nc (lN nm) σ))
    (c1 : ∀ j, j < j0 → K j ≠ 262) (c2 : K j0 = 262) (c3 : V (j0 + 1) = cn) (c4 : j0 + 1 < M) :
    ∃ j' σ', f_X1_readGain σ = some ((), oG fm (A2 σ' j') ng (lN nm) 0 (nI x)) ∧ Sf K V M j' r ∧ IT K V M fm j' (c + o.length) (x + 1) (A2 σ' j') ∧ EQ vr σ' (c + o.length) (x + 1) x o ∧ KC c x σ σ' ∧ Kq σ σ' := by
  obtain ⟨k0, v0, s1⟩ := Sf_cons hS
  obtain ⟨k1, v1, s2⟩ := Sf_cons s1
  obtain ⟨k2, v2, s3⟩ := Sf_cons s2
  obtain ⟨k3, v3, s4⟩ := Sf_cons s3
  have hl := Sf_len _ _ s4
  have hl' : t + 1 + 1 + 1 + 1 + (l.length + 1) = M := hl
  have hX := h.1
  obtain ⟨j', σ', g1, g2⟩ := it_gainE (i := t + 1) (cm := 0) h hf hp hx hV (by omega) v1 s4 hr ho hc hlen (hn.imp id (fun e => e.1))
  refine ⟨j', σ', ?_, g2⟩
  have key : ∀ s, (fm = 0 ∨ ¬ s = 0) → f_X1_readGain_17 s σ = some ((), oG fm (A2 σ' j') ng (lN nm) 0 (nI x)) := fun s hs => by
    unfold f_X1_readGain_17 f_X1_readGain_89
    have d0 := a_dem hX (j := t) (s := s) 4 (gI σ 260) hs
    rw [A2_0 hX] at d0
    have e0 := a_exp hX (j := t) (k := 259) (by omega) k0
    rw [A2_0 hX] at e0
    have cmd := p_cmd hX c1 c2 c3 c4 (i := t + 1 + 1 + 1 + 1)
    rw [d0, bnd_s, show (259 : Int32) = nI 259 from rfl, e0, bnd_s, show (273 : Int32) = nI 273 from rfl, a_exp hX (by omega) k1, bnd_s, a_new hX hp (by omega) (hn.imp id (fun e => by rw [v1]; exact e.2)), bnd_s, lt_e, show (260 : Int32) = nI 260 from rfl, a_accY hX (by omega) k2, bnd_s, if_neg (by decide), a_exp hX (by omega) k3, bnd_s, a_con hX (by omega), bnd_s, v3, cmd, bnd_s, if_neg (by decide), a_dem hX _ _ (Or.inr (by decide)), bnd_s]
    exact g1
  unfold f_X1_readGain
  rw [show gI σ 197 = nI ng from hp.2.1]
  by_cases q : 3 ≤ ng
  · rw [if_pos (show (3 : Int32) ≤ nI ng from nI_le (a := 3) q (by have := hp.2.2.2.2.1; omega))]
    exact key 0 (Or.inl (hn.resolve_right (fun e => by omega)))
  · rw [if_neg (show ¬ (3 : Int32) ≤ nI ng from nI_ge (b := 3) (by omega) (by decide))]
    exact key 1 (Or.inr (by decide))
theorem it_goal (h : IT K V M fm t c x σ) (hf : fm = 0 ∨ fm = 1) (hx : x < 1400) (hV : VR fm vr σ) {a0 a2 : Nat} {l r o : List Tk} (hS : Sf K V M t ((261, a0) :: l)) (hr : rX 99 0 0 0 l = some ((59, a2) :: r, o)) (ho : o ≠ []) (hc : c + o.length ≤ 1400) (hlen : l.length < r.length + 61) (hg : gI σ 201 = -1) :
    ∃ j' σ', f_X1_readGoal σ = some ((), oZ fm (A2 σ' j') (nI x)) ∧ Sf K V M j' r ∧ IT K V M fm j' (c + o.length) (x + 1) (A2 σ' j') ∧ EQ vr σ' (c + o.length) (x + 1) x o ∧ KC c x σ σ' ∧ Kq σ σ' := by
  obtain ⟨k0, v0, s1⟩ := Sf_cons hS
  have hl := Sf_len _ _ hS
  have hl' : t + (l.length + 1) = M := hl
  have hX := h.1
  obtain ⟨j', σ', e1, e2, e3, e4, e5, e6, e7⟩ := a_expr h hx hV s1 hr ho hc (Nat.succ_pos _) (by show l.length < r.length + 1 + 60; omega)
  obtain ⟨k9, v9, s9⟩ := Sf_cons e2
  have hl9 := Sf_len _ _ e2
  have hl9' : j' + (r.length + 1) = M := hl9
  have hX' := e4.1
  refine ⟨j' + 1, σ', ?_, s9, A2_I e4 (j' + 1), e5, e6, e7⟩
  unfold f_X1_readGoal f_X1_readGoal_16 f_X1_readGoal_59
  have d0 := a_dem hX (j := t) (s := 1) 4 (gI σ 260) (Or.inr (by decide))
  rw [A2_0 hX] at d0
  have e0 := a_exp hX (j := t) (k := 261) (by omega) k0
  rw [A2_0 hX] at e0
  rw [hg, if_neg (by decide), d0, bnd_s, show (261 : Int32) = nI 261 from rfl, e0, bnd_s, e1, bnd_s, show (59 : Int32) = nI 59 from rfl, a_exp hX' (by omega) k9, bnd_s]
  rcases hf with rfl | rfl
  · rw [a_mr0 hX', bnd_s, if_pos rfl]
    rfl
  · rw [a_mr1 hX', bnd_s, if_neg (by decide), lt_e]
    rfl
end IM
