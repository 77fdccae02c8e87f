/-! Commands, and the items of a program one behind another. -/
section CM
variable {K V : Nat → Nat} {M : Nat} {fm : Int32} {t c x c1 x1 c2 x2 k nv ng : Nat} {σ : Sta} {vr : Nat → Int32} {l1 l2 : List Tk} {op1 op2 : Sta → Sta} {es1 es2 : List (Nat × List Tk)}
/-- one step behind another -/
theorem StR.then' {y : Option (Unit × Sta)} {σ1 : Sta} (hag : ∀ ρ, AG ρ σ → AG (op1 ρ) σ1) (hkc : KC c x σ σ1) (hkz : Kz σ σ1) (he : ∀ q ∈ es1, EQ vr σ1 c1 x1 q.1 q.2) (hc : c ≤ c1) (hx : x ≤ x1) (h : StR K V M fm vr y c1 x1 l2 c2 x2 op2 es2 σ1) (hc2 : c1 ≤ c2) (hx2 : x1 ≤ x2) :
    StR K V M fm vr y c x l2 c2 x2 (fun ρ => op2 (op1 ρ)) (es1 ++ es2) σ := by
  obtain ⟨j, τ, e1, e2, e3, e4, e5, e6, e7⟩ := h
  refine ⟨j, τ, e1, e2, e3, fun ρ hρ => e4 _ (hag ρ hρ), hkc.go e5 hc hx, hkz.trans e6, fun q hq => ?_⟩
  rcases List.mem_append.mp hq with h | h
  · exact (he q h).keep e5 hc2 hx2
  · exact e7 q h
/-- a branch, and more behind it -/
theorem br_step {n i : Nat} {v1 : Int32} {a : Nat} (hi : i < 1000) (h : StR K V M fm vr (f_X1_readBranch σ) c x ((266, a) :: l1) c1 x1 op1 es1 σ) (hc : c ≤ c1) (hx : x ≤ x1) (hc2 : c1 ≤ c2) (hx2 : x1 ≤ x2)
    (go : ∀ (j : Nat) (σ1 : Sta), Sf K V M j l1 → IT K V M fm j c1 x1 σ1 → (∀ ρ, AG ρ σ → AG (op1 ρ) σ1) → StR K V M fm vr (f_X1_readCommand_96 n v1 (nI (i + 1)) σ1) c1 x1 l2 c2 x2 op2 es2 σ1) :
    StR K V M fm vr (f_X1_readCommand_96 (n + 1) v1 (nI i) σ) c x l2 c2 x2 (fun ρ => op2 (op1 ρ)) (es1 ++ es2) σ := by
  obtain ⟨j, τ, e1, e2, e3, e4, e5, e6, e7⟩ := h
  obtain ⟨k0, -, s1⟩ := Sf_cons e2
  have hl := Sf_len _ _ e2
  have hl' : j + (l1.length + 1) = M := hl
  have ac := a_accY (σ := τ) e3.1 (j := j) (k := 266) (by omega) k0
  rw [A2_0 e3.1] at ac
  have eq : f_X1_readCommand_96 (n + 1) v1 (nI i) σ = f_X1_readCommand_96 n v1 (nI (i + 1)) (A2 τ (j + 1)) := by
    rw [f_X1_readCommand_96, e1, bnd_s, lt_e, nI_1, if_neg (show ¬ (1500 : Int32) ≤ nI (i + 1) from nI_ge (b := 1500) (by omega) (by decide)), show (266 : Int32) = nI 266 from rfl, ac, bnd_s, if_neg (by decide)]
  rw [eq]
  have hag : ∀ ρ, AG ρ σ → AG (op1 ρ) (A2 τ (j + 1)) := fun ρ hρ => AG_q (e4 ρ hρ) (A2_q _ _)
  exact StR.then' hag (e5.go (A2_C _ _ c x) (Nat.le_refl _) (Nat.le_refl _)) (e6.trans (Kz_q (A2_q _ _))) (fun q hq => (e7 q hq).keep (A2_C _ _ _ _) (Nat.le_refl _) (Nat.le_refl _)) hc hx (go (j + 1) _ s1 (A2_I e3 (j + 1)) hag) hc2 hx2
/-- the last branch -/
theorem br_last {n i : Nat} {v1 : Int32} {a : Nat} (hi : i < 1000) (h : StR K V M fm vr (f_X1_readBranch σ) c x ((59, a) :: l1) c1 x1 op1 es1 σ) (hch : ∀ τ, (∀ ρ, AG ρ σ → AG (op1 ρ) τ) → ∃ r, f_X4_latestChances τ = some (r, τ) ∧ (fm = 0 ∨ r = 100)) :
    StR K V M fm vr (f_X1_readCommand_96 (n + 1) v1 (nI i) σ) c x l1 c1 x1 op1 es1 σ := by
  obtain ⟨j, τ, e1, e2, e3, e4, e5, e6, e7⟩ := h
  obtain ⟨k0, -, s1⟩ := Sf_cons e2
  have hl := Sf_len _ _ e2
  have hl' : j + (l1.length + 1) = M := hl
  have ac := a_accN (σ := τ) e3.1 (j := j) (k := 266) (by omega) (fun e => absurd (k0.symm.trans e) (show ¬ (59 : Nat) = 266 by decide)) (by decide)
  rw [A2_0 e3.1] at ac
  have ex := a_exp (σ := τ) e3.1 (j := j) (k := 59) (by omega) k0
  rw [A2_0 e3.1] at ex
  have hag : ∀ ρ, AG ρ σ → AG (op1 ρ) (A2 τ (j + 1)) := fun ρ hρ => AG_q (e4 ρ hρ) (A2_q _ _)
  obtain ⟨r, w1, w2⟩ := hch _ hag
  refine ⟨j + 1, A2 τ (j + 1), ?_, s1, A2_I e3 (j + 1), hag, e5.go (A2_C _ _ c x) (Nat.le_refl _) (Nat.le_refl _), e6.trans (Kz_q (A2_q _ _)), fun q hq => (e7 q hq).keep (A2_C _ _ _ _) (Nat.le_refl _) (Nat.le_refl _)⟩
  rw [f_X1_readCommand_96, e1, bnd_s, lt_e, nI_1, if_neg (show ¬ (1500 : Int32) ≤ nI (i + 1) from nI_ge (b := 1500) (by omega) (by decide)), show (266 : Int32) = nI 266 from rfl, ac, bnd_s, if_pos rfl]
  unfold f_X1_readCommand_120 f_X1_readCommand_145
  rw [show (59 : Int32) = nI 59 from rfl, ex, bnd_s, w1, bnd_s]
  by_cases q : r = 100
  · rw [if_pos q, a_dem e3.1 _ _ (Or.inr (by decide)), bnd_s]
  · rw [if_neg q, a_dem e3.1 _ _ (Or.inl (w2.resolve_right q)), bnd_s]
/-- a command: its head, and what stands behind -/
theorem it_cmd (h : IT K V M fm t c x σ) (hf : fm = 0 ∨ fm = 1) (hp : PG nv ng k σ) (hx : x < 1400) (hV : VR fm vr σ) {a0 a1 a2 nm : Nat} {l o : List Tk} (hS : Sf K V M t ((262, a0) :: (273, nm) :: (263, a1) :: l)) (hr : rX 99 0 0 0 l = some ((264, a2) :: l1, o)) (ho : o ≠ []) (hc : c + o.length ≤ 1400) (hlen : l.length < l1.length + 61) (hn : fm = 0 ∨ (k < 16 ∧ NT nv ng k (lN nm) σ))
    (hc2 : c + o.length ≤ c2) (hx2 : x + 1 ≤ x2) (st : Int32)
    (go : ∀ (j : Nat) (σ1 : Sta), Sf K V M j ((264, a2) :: l1) → IT K V M fm j (c + o.length) (x + 1) σ1 → (∀ ρ, AG ρ σ → AG (oC fm ρ k (lN nm) st (nI x)) σ1) → StR K V M fm vr (f_X1_readCommand_94 (nI (t + 1)) σ1) (c + o.length) (x + 1) l2 c2 x2 op2 es2 σ1) :
    StR K V M fm vr (f_X1_readCommand σ) c x l2 c2 x2 (fun ρ => op2 (oC fm ρ k (lN nm) st (nI x))) ((x, o) :: es2) σ := by
  obtain ⟨k0, v0, s1⟩ := Sf_cons hS
  obtain ⟨k1, v1, s2⟩ := Sf_cons s1
  obtain ⟨k2, v2, s3⟩ := Sf_cons s2
  have hl := Sf_len _ _ s2
  have hl' : t + 1 + 1 + (l.length + 1) = M := hl
  have hX := h.1
  have hM := hX.2.2.1
  obtain ⟨j', σ', e1, e2, e3, e4, e5, e6, e7⟩ := a_expr h hx hV s3 hr ho hc (Nat.succ_pos _) (by show l.length < l1.length + 1 + 60; omega)
  have hX' := e4.1
  -- behind the head
  have key : ∃ s', ∀ s, (fm = 0 ∨ ¬ s = 0) → f_X1_readCommand_18 s σ = f_X1_readCommand_94 (nI (t + 1)) (oC fm (A2 σ' j') k (lN nm) s' (nI x)) := by
    refine ⟨gA (A2 σ' j') 12 (t + 1), fun s hs => ?_⟩
    unfold f_X1_readCommand_18
    have d0 := a_dem hX (j := t) (s := s) 4 (gI σ 260) hs
    rw [A2_0 hX] at d0
    have e0 := a_exp hX (j := t) (k := 262) (by omega) k0
    rw [A2_0 hX] at e0
    rw [d0, bnd_s, show (262 : Int32) = nI 262 from rfl, e0, bnd_s, show (273 : Int32) = nI 273 from rfl, a_exp hX (by omega) k1, bnd_s, a_new hX hp (by omega) (hn.imp id (fun e => by rw [v1]; exact e.2)), bnd_s, show (263 : Int32) = nI 263 from rfl, a_exp hX (by omega) k2, bnd_s, e1, bnd_s]
    rcases hf with rfl | rfl
    · rw [a_mr0 hX', bnd_s, if_pos rfl]
      rfl
    · have h202 : gI (A2 σ' j') 202 = nI k := (e7.1 202 (by unfold qI; omega)).trans hp.2.2.1
      rw [a_mr1 hX', bnd_s, if_neg (by decide), a_con hX' (by omega), bnd_s, v1, e_entry (show t + 1 < 1501 by omega) (by decide), bnd_s, p_addC h202 (hn.resolve_left (by decide)).1, bnd_s]
  obtain ⟨s', key⟩ := key
  have eq : f_X1_readCommand σ = f_X1_readCommand_94 (nI (t + 1)) (oC fm (A2 σ' j') k (lN nm) s' (nI x)) := by
    unfold f_X1_readCommand
    rw [show gI σ 202 = nI k from hp.2.2.1]
    by_cases q : 16 ≤ k
    · rw [if_pos (show (16 : Int32) ≤ nI k from nI_le (a := 16) q (by have := hp.2.2.2.2.2; omega))]
      exact key 0 (Or.inl (hn.resolve_right (fun e => by omega)))
    · rw [if_neg (show ¬ (16 : Int32) ≤ nI k from nI_ge (b := 16) (by omega) (by decide))]
      exact key 1 (Or.inr (by decide))
  rw [eq]
  have I1 := IT_r (A2_I e4 j') (Kr_C (fm := fm) k (lN nm) s' (nI x))
  have hag : ∀ ρ, AG ρ σ → AG (oC fm ρ k (lN nm) st (nI x)) (oC fm (A2 σ' j') k (lN nm) s' (nI x)) := fun ρ hρ => AG_C (AG_q (AG_q hρ e7) (A2_q _ _)) k (lN nm) st s' (nI x)
  exact StR.then' (es1 := [(x, o)]) hag ((e6.go (A2_C _ _ c x) (Nat.le_refl _) (Nat.le_refl _)).go (KC_r (Kr_C k (lN nm) s' (nI x)) c x) (Nat.le_refl _) (Nat.le_refl _)) (((Kz_q e7).trans (Kz_q (A2_q _ _))).trans (Kz_r (Kr_C k (lN nm) s' (nI x)))) (fun q hq => by
    rw [List.mem_singleton] at hq
    subst hq
    exact (e5.keep (A2_C _ _ _ _) (Nat.le_refl _) (Nat.le_refl _)).keep (KC_r (Kr_C k (lN nm) s' (nI x)) _ _) (Nat.le_refl _) (Nat.le_refl _)) (Nat.le_add_right _ _) (Nat.le_succ _) (go j' _ e2 I1 hag) hc2 hx2
/-- the item that begins with the token kd, read by f -/
def isItem (kd : Nat) (f : Sta → Option (Unit × Sta)) : Prop := (kd = 256 ∧ f = f_X1_readVariable) ∨ (kd = 259 ∧ f = f_X1_readGain) ∨ (kd = 261 ∧ f = f_X1_readGoal) ∨ (kd = 262 ∧ f = f_X1_readCommand)
theorem pr_item (h : IT K V M fm t c x σ) {kd a : Nat} {f : Sta → Option (Unit × Sta)} {l : List Tk} (hS : Sf K V M t ((kd, a) :: l)) (hk : isItem kd f) (n : Nat) (v : Int32) : f_X1_readProgram_7 (n + 1) v σ = bnd (f σ) (fun _ σ6 => f_X1_readProgram_89 (f_X1_readProgram_7 n) v σ6) := by
  obtain ⟨k0, -, -⟩ := Sf_cons hS
  have hl := Sf_len _ _ hS
  have hl' : t + (l.length + 1) = M := hl
  have lk := a_look h.1 (j := t) (by omega)
  rw [A2_0 h.1, show K t = kd from k0] at lk
  rw [f_X1_readProgram_7, lk, bnd_s]
  rcases hk with ⟨rfl, rfl⟩ | ⟨rfl, rfl⟩ | ⟨rfl, rfl⟩ | ⟨rfl, rfl⟩
  · rw [if_pos (by decide)]
  · rw [if_neg (by decide), if_neg (by decide), if_neg (by decide), if_pos (by decide)]
  · rw [if_neg (by decide), if_neg (by decide), if_neg (by decide), if_neg (by decide), if_neg (by decide), if_pos (by decide)]
  · rw [if_neg (by decide), if_neg (by decide), if_neg (by decide), if_neg (by decide), if_neg (by decide), if_neg (by decide), if_pos (by decide)]
/-- an item, and more behind it -/
theorem pr_step (h : IT K V M fm t c x σ) {n i kd a kd2 a2 : Nat} {f : Sta → Option (Unit × Sta)} {l : List Tk} (hi : i < 1000) (hS : Sf K V M t ((kd, a) :: l)) (hk : isItem kd f) (hs : StR K V M fm vr (f σ) c x ((kd2, a2) :: l1) c1 x1 op1 es1 σ) (hk2 : kd2 ≠ 278) (hc : c ≤ c1) (hx : x ≤ x1) (hc2 : c1 ≤ c2) (hx2 : x1 ≤ x2)
    (go : ∀ (j : Nat) (σ1 : Sta), Sf K V M j ((kd2, a2) :: l1) → IT K V M fm j c1 x1 σ1 → (∀ ρ, AG ρ σ → AG (op1 ρ) σ1) → StR K V M fm vr (f_X1_readProgram_7 n (nI (i + 1)) σ1) c1 x1 l2 c2 x2 op2 es2 σ1) :
    StR K V M fm vr (f_X1_readProgram_7 (n + 1) (nI i) σ) c x l2 c2 x2 (fun ρ => op2 (op1 ρ)) (es1 ++ es2) σ := by
  obtain ⟨j, τ, e1, e2, e3, e4, e5, e6, e7⟩ := hs
  obtain ⟨k0, -, -⟩ := Sf_cons e2
  have hl := Sf_len _ _ e2
  have hl' : j + (l1.length + 1) = M := hl
  have lk := a_look e3.1 (j := j) (by omega)
  rw [A2_0 e3.1, show K j = kd2 from k0] at lk
  have hK := PX_K e3.1 (show j < M by omega)
  rw [show K j = kd2 from k0] at hK
  have eq : f_X1_readProgram_7 (n + 1) (nI i) σ = f_X1_readProgram_7 n (nI (i + 1)) τ := by
    rw [pr_item h hS hk, e1, bnd_s]
    unfold f_X1_readProgram_89
    rw [lt_e, nI_1, if_neg (show ¬ (1500 : Int32) ≤ nI (i + 1) from nI_ge (b := 1500) (by omega) (by decide)), if_pos e3.1.2.2.2.2.2.2.1, lk, bnd_s, if_neg (show ¬ nI kd2 = 278 from nI_neq (b := 278) (by omega) (by decide) hk2)]
  rw [eq]
  exact StR.then' e4 e5 e6 e7 hc hx (go j τ e2 e3 e4) hc2 hx2
/-- the last item -/
theorem pr_last (h : IT K V M fm t c x σ) {n i kd a a2 : Nat} {f : Sta → Option (Unit × Sta)} {l : List Tk} (hi : i < 1000) (hS : Sf K V M t ((kd, a) :: l)) (hk : isItem kd f) (hs : StR K V M fm vr (f σ) c x [(278, a2)] c1 x1 op1 es1 σ) (hd : ∀ τ, (∀ ρ, AG ρ σ → AG (op1 ρ) τ) → fm = 0 ∨ (¬ gI τ 192 ≤ 0 ∧ ¬ gI τ 202 ≤ 0)) :
    StR K V M fm vr (f_X1_readProgram_7 (n + 1) (nI i) σ) c x [(278, a2)] c1 x1 op1 es1 σ := by
  obtain ⟨j, τ, e1, e2, e3, e4, e5, e6, e7⟩ := hs
  obtain ⟨k0, -, -⟩ := Sf_cons e2
  have hl := Sf_len _ _ e2
  have hl' : j + (0 + 1) = M := hl
  have lk := a_look e3.1 (j := j) (by omega)
  rw [A2_0 e3.1, show K j = 278 from k0] at lk
  refine ⟨j, τ, ?_, e2, e3, e4, e5, e6, e7⟩
  rw [pr_item h hS hk, e1, bnd_s]
  unfold f_X1_readProgram_89
  rw [lt_e, nI_1, if_neg (show ¬ (1500 : Int32) ≤ nI (i + 1) from nI_ge (b := 1500) (by omega) (by decide)), if_pos e3.1.2.2.2.2.2.2.1, lk, bnd_s, if_pos (show nI 278 = 278 from rfl)]
  have fin : ∀ s, (fm = 0 ∨ ¬ s = 0) → f_X1_readProgram_142 s τ = some ((), τ) := fun s hs => by
    unfold f_X1_readProgram_142
    have d := a_dem e3.1 (j := j) (s := s) 7 (gI τ 260) hs
    rw [A2_0 e3.1] at d
    rw [d, bnd_s]
  have hd' := hd τ e4
  unfold f_X1_readProgram_116 f_X1_readProgram_141
  by_cases q1 : gI τ 192 ≤ 0
  · rw [if_pos q1]
    exact fin 0 (Or.inl (hd'.resolve_right (fun e => e.1 q1)))
  · rw [if_neg q1]
    by_cases q2 : gI τ 202 ≤ 0
    · rw [if_pos q2]
      exact fin 0 (Or.inl (hd'.resolve_right (fun e => e.2 q2)))
    · rw [if_neg q2]
      exact fin 1 (Or.inr (by decide))
end CM
