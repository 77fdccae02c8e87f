/-! A whole expression, and what is kept of the codes. -/
def qI : Nat → Prop := fun q => q = 130 ∨ q = 133 ∨ q = 260 ∨ q = 261 ∨ q = 262 ∨ q = 263
def qA : Nat → Prop := fun q => q = 14 ∨ q = 16 ∨ q = 17
def qJ : Nat → Prop := fun q => q = 15
def Kq (σ σ' : Sta) : Prop := Kp qI n0 qA qJ σ σ'
theorem Kq_e {σ σ' : Sta} (h : Ke σ σ') : Kq σ σ' := h.mono (fun k e => by unfold eI at e; unfold qI; omega) (fun _ e => e) (fun k e => by unfold eA at e; unfold qA; omega) (fun k e => by unfold eJ at e; unfold qJ; omega)
/-- codes below c and expressions below x stand -/
def KC (c x : Nat) (σ σ' : Sta) : Prop := (∀ j, j < c → gA σ' 14 j = gA σ 14 j ∧ gJ σ' 15 j = gJ σ 15 j) ∧ ∀ j, j < x → gA σ' 16 j = gA σ 16 j ∧ gA σ' 17 j = gA σ 17 j
theorem KC.rfl' {c x : Nat} {σ : Sta} : KC c x σ σ := ⟨fun _ _ => ⟨rfl, rfl⟩, fun _ _ => ⟨rfl, rfl⟩⟩
theorem KC.go {c x c' x' : Nat} {σ σ1 σ2 : Sta} (h : KC c x σ σ1) (h2 : KC c' x' σ1 σ2) (hc : c ≤ c') (hx : x ≤ x') : KC c x σ σ2 :=
  ⟨fun j hj => ⟨(h2.1 j (by omega)).1.trans (h.1 j hj).1, (h2.1 j (by omega)).2.trans (h.1 j hj).2⟩, fun j hj => ⟨(h2.2 j (by omega)).1.trans (h.2 j hj).1, (h2.2 j (by omega)).2.trans (h.2 j hj).2⟩⟩
/-- the expression e has the codes o -/
def EQ (vr : Nat → Int32) (σ : Sta) (c x e : Nat) (o : List Tk) : Prop := ∃ b : Nat, e < x ∧ gA σ 16 e = nI b ∧ gA σ 17 e = nI (b + o.length) ∧ b + o.length ≤ c ∧ WR vr σ b o
theorem EQ.keep {vr : Nat → Int32} {σ σ' : Sta} {c x c' x' e : Nat} {o : List Tk} (h : EQ vr σ c x e o) (k : KC c x σ σ') (hc : c ≤ c') (hx : x ≤ x') : EQ vr σ' c' x' e o := by
  obtain ⟨b, h1, h2, h3, h4, h5⟩ := h
  exact ⟨b, by omega, by rw [(k.2 e h1).1]; exact h2, by rw [(k.2 e h1).2]; exact h3, by omega, WR_low o b c h4 k.1 h5⟩
/-- before an item: no limit but the end -/
def IT (K V : Nat → Nat) (M : Nat) (fm : Int32) (t c x : Nat) (σ : Sta) : Prop := PX K V M fm M t σ ∧ gI σ 130 = nI c ∧ gI σ 133 = nI x
section EX
variable {K V : Nat → Nat} {M : Nat} {fm : Int32} {t c x : Nat} {σ σ' : Sta} {vr : Nat → Int32}
theorem VR_q (h : VR fm vr σ) (hk : Kq σ σ') : VR fm vr σ' := by
  obtain ⟨nv, a, b, c⟩ := h
  refine ⟨nv, a, by rw [hk.1 192 (by unfold qI; omega)]; exact b, ?_⟩
  rw [hk.2.2.2.1 19 (by unfold qJ; omega)]
  exact c
def bgE (σ : Sta) (c x : Nat) : Sta := sI (sA (sA σ 16 (upd (gA σ 16) x (nI c))) 17 (upd (gA σ 17) x (nI c))) 133 (nI (x + 1))
theorem p_begin (h1 : gI σ 130 = nI c) (h2 : gI σ 133 = nI x) (hx : x < 1500) : f_X0_beginExpression σ = some (nI x, bgE σ c x) := by
  unfold f_X0_beginExpression bgE
  rw [h2, if_pos (show nI x < 1500 from nI_lt hx (by decide)), if_neg (nI_in hx (by decide)), lt_e, gI_sA, h2, if_neg (nI_in hx (by decide)), lt_e, lt_e, gI_sA, gI_sA, gI_sA, h1, h2, nI_clamp (by omega), gI_sI, if_pos rfl, nI_1, nI_pred]
  rfl
theorem e_expr (h : IT K V M fm t c x σ) (hx : x < 1400) (hV : VR fm vr σ) {l l' o : List Tk} (hS : Sf K V M t l) (hr : rX 99 0 0 0 l = some (l', o)) (ho : o ≠ []) (hc : c + o.length ≤ 1400) (hl : 0 < l'.length) (hlen : l.length < l'.length + 60) :
    ∃ t' σ', f_X1_readExpression σ = some (nI x, σ') ∧ Sf K V M t' l' ∧ t < t' ∧ IT K V M fm t' (c + o.length) (x + 1) σ' ∧ EQ vr σ' (c + o.length) (x + 1) x o ∧ KC c x σ σ' ∧ Kq σ σ' := by
  obtain ⟨hX, h1, h2⟩ := h
  have hle := Sf_len _ _ hS
  have hM := hX.2.2.1
  have at' : gI σ 260 = nI t := hX.2.2.2.2.1
  have h67 : gI σ 67 = nI M := hX.2.1
  unfold f_X1_readExpression
  obtain ⟨L, hL1, hL2, hL3, hL4⟩ : ∃ L : Nat, (if gI σ 67 < gI σ 260 + 60 then gI σ 67 else gI σ 260 + 60) = nI L ∧ L ≤ M ∧ L ≤ t + 60 ∧ M < L + l'.length := by
    rw [at', h67, show nI t + 60 = nI (t + 60) from nI_add t 60]
    by_cases q : M < t + 60
    · rw [if_pos (nI_lt q (by omega))]
      exact ⟨M, rfl, Nat.le_refl _, by omega, by omega⟩
    · rw [if_neg (nI_nlt (by omega) (by omega))]
      exact ⟨t + 60, rfl, by omega, Nat.le_refl _, by omega⟩
  rw [hL1, lt_e]
  have hb := p_begin (σ := sI σ 261 (nI L)) (c := c) (x := x) (by rw [gI_sI, if_neg (by decide)]; exact h1) (by rw [gI_sI, if_neg (by decide)]; exact h2) (by omega)
  rw [hb, bnd_s]
  have k0 : Kq σ (bgE (sI σ 261 (nI L)) c x) := Kp.sI (by unfold qI; omega) (Kp.sA (by unfold qA; omega) (Kp.sA (by unfold qA; omega) (Kp.sI (by unfold qI; omega) Kp.rfl')))
  have X0 : PX K V M fm L t (bgE (sI σ 261 (nI L)) c x) := by
    obtain ⟨a, b, c', d, e, f, g, i⟩ := hX
    exact ⟨a, b, c', d, e, rfl, g, hL2⟩
  have C0 : CO c (x + 1) (bgE (sI σ 261 (nI L)) c x) := ⟨h1, rfl, by omega, by omega, by omega⟩
  obtain ⟨t', σ1, k1, k2, k3, k4, k5⟩ := (e_rX (K := K) (V := V) (M := M) (fm := fm) (x0 := x + 1) (t0 := t) (vr := vr) hL3 99).1 100 0 0 l l' o t c _ (by decide) (by decide) (by decide) hr hS X0 C0 (VR_q hV k0) hc hL4 (Nat.le_refl _)
  unfold f_X1_readLevel
  have k1' : (fr_X1R 100).1 0 0 (bgE (sI σ 261 (nI L)) c x) = some ((), σ1) := k1
  obtain ⟨m1, m2, m3, m4, m5, m6, m7⟩ := k5
  rw [k1', bnd_s, lt_e]
  have hs67 : gI σ1 67 = nI M := k4.2.1
  refine ⟨t', sI σ1 261 (gI σ1 67), rfl, k2, k3, ⟨?_, m1, ?_⟩, ?_, ⟨m3, fun j hj => ⟨?_, ?_⟩⟩, Kp.sI (by unfold qI; omega) (k0.trans (Kq_e m7))⟩
  · obtain ⟨a, b, c', d, e, f, g, i⟩ := k4
    exact ⟨a, b, c', d, e, by rw [gI_sI, if_pos rfl]; exact b, g, Nat.le_refl _⟩
  · rw [gI_sI, if_neg (by decide), m7.1 133 (by unfold eI; omega)]
    rfl
  · refine ⟨c, Nat.lt_succ_self _, ?_, m6 ho, Nat.le_refl _, WR_low (σ := σ1) o c (c + o.length) (Nat.le_refl _) (fun _ _ => ⟨rfl, rfl⟩) m2⟩
    show gA σ1 16 x = nI c
    rw [m7.2.2.1 16 (by unfold eA; omega)]
    show upd _ x (nI c) x = nI c
    rw [upd_at, if_pos rfl]
  · show gA σ1 16 j = _
    rw [m7.2.2.1 16 (by unfold eA; omega)]
    show upd _ x (nI c) j = _
    rw [upd_at, if_neg (by omega)]
    rfl
  · show gA σ1 17 j = _
    rw [m4 j (by omega)]
    show upd _ x (nI c) j = _
    rw [upd_at, if_neg (by omega)]
    rfl
end EX
