/-! Branches, with what they set. -/
def zI : Nat → Prop := fun q => q = 130 ∨ q = 133 ∨ q = 260 ∨ q = 261 ∨ q = 262 ∨ q = 263 ∨ q = 192 ∨ q = 197 ∨ q = 201 ∨ q = 202
def zA : Nat → Prop := fun q => q = 14 ∨ q = 16 ∨ q = 17 ∨ (20 ≤ q ∧ q ≤ 31)
def zJ : Nat → Prop := fun q => q = 15 ∨ q = 19 ∨ q = 23 ∨ q = 26
def Kz (σ σ' : Sta) : Prop := Kp zI n0 zA zJ σ σ'
theorem Kz_q {σ σ' : Sta} (h : Kq σ σ') : Kz σ σ' := h.mono (fun k e => by unfold qI at e; unfold zI; omega) (fun _ e => e) (fun k e => by unfold qA at e; unfold zA; omega) (fun k e => by unfold qJ at e; unfold zJ; omega)
theorem Kz_r {σ σ' : Sta} (h : Kr σ σ') : Kz σ σ' := h.mono (fun k e => by unfold prI at e; unfold zI; omega) (fun _ e => e) (fun k e => by unfold prA at e; unfold zA; omega) (fun k e => by unfold prJ at e; unfold zJ; omega)
/-- what one step of the parser brings about: the tokens l' are left, the program's rows change as op says, the expressions es have been read -/
def StR (K V : Nat → Nat) (M : Nat) (fm : Int32) (vr : Nat → Int32) (y : Option (Unit × Sta)) (c x : Nat) (l' : List Tk) (c' x' : Nat) (op : Sta → Sta) (es : List (Nat × List Tk)) (σ : Sta) : Prop :=
  ∃ j' τ, y = some ((), τ) ∧ Sf K V M j' l' ∧ IT K V M fm j' c' x' τ ∧ (∀ ρ, AG ρ σ → AG (op ρ) τ) ∧ KC c x σ τ ∧ Kz σ τ ∧ ∀ q ∈ es, EQ vr τ c' x' q.1 q.2
theorem oB_A2 (fm : Int32) (σ : Sta) (j k b : Nat) (p : Int32) : oB fm (A2 σ j) k b p = A2 (oB fm σ k b p) j := by
  unfold oB
  by_cases q : fm = 0
  · rw [if_pos q, if_pos q]
  · rw [if_neg q, if_neg q]
    rfl
theorem oS_A2 (fm : Int32) (σ : Sta) (j k b v : Nat) (e : Int32) : oS fm (A2 σ j) k b v e = A2 (oS fm σ k b v e) j := by
  unfold oS
  by_cases q : fm = 0
  · rw [if_pos q, if_pos q]
  · rw [if_neg q, if_neg q]
    rfl
/-- the latest command is k, it has b branches; in the pass for the form there is none -/
def BL (fm : Int32) (k b : Nat) (σ : Sta) : Prop := (fm = 0 ∧ gI σ 202 = 0) ∨ (fm = 1 ∧ gI σ 202 = nI (k + 1) ∧ k < 16 ∧ gA σ 29 k = nI b ∧ b ≤ 4)
theorem BL_ag {fm : Int32} {k b : Nat} {ρ σ : Sta} (h : AG ρ σ) (hb : BL fm k b ρ) : BL fm k b σ := by
  rcases hb with ⟨a, b⟩ | ⟨a, b, c, d, e⟩
  · exact Or.inl ⟨a, by rw [h.1 202 (by unfold prI; omega)]; exact b⟩
  · exact Or.inr ⟨a, by rw [h.1 202 (by unfold prI; omega)]; exact b, c, by rw [h.2.1 29 (by unfold prA; omega)]; exact d, e⟩
theorem VR_ag {fm : Int32} {vr : Nat → Int32} {ρ σ : Sta} (h : AG ρ σ) (hb : VR fm vr ρ) : VR fm vr σ := by
  obtain ⟨nv, a, b, c⟩ := hb
  refine ⟨nv, a, by rw [h.1 192 (by unfold prI; omega)]; exact b, ?_⟩
  rw [h.2.2 19 (by unfold prJ; omega)]
  exact c
theorem PG_ag {nv ng nc : Nat} {ρ σ : Sta} (h : AG ρ σ) (hb : PG nv ng nc ρ) : PG nv ng nc σ := by
  obtain ⟨a, b, c, d⟩ := hb
  exact ⟨by rw [h.1 192 (by unfold prI; omega)]; exact a, by rw [h.1 197 (by unfold prI; omega)]; exact b, by rw [h.1 202 (by unfold prI; omega)]; exact c, d⟩
theorem NT_ag {nv ng nc : Nat} {a : Int64} {ρ σ : Sta} (h : AG ρ σ) (hb : NT nv ng nc a ρ) : NT nv ng nc a σ := by
  unfold NT
  rw [h.2.2 19 (by unfold prJ; omega), h.2.2 23 (by unfold prJ; omega), h.2.2 26 (by unfold prJ; omega)]
  exact hb
section BR
variable {K V : Nat → Nat} {M : Nat} {fm : Int32} {t c x k b : Nat} {σ : Sta} {vr : Nat → Int32}
/-- one setting -/
theorem it_set (h : IT K V M fm t c x σ) (hf : fm = 0 ∨ fm = 1) (hx : x < 1400) (hV : VR fm vr σ) (hB : BL fm k (b + 1) σ) {j nm a1 v i n : Nat} {l l' o : List Tk} (hS : Sf K V M j ((273, nm) :: (61, a1) :: l)) (hr : rX 99 0 0 0 l = some (l', o)) (ho : o ≠ []) (hc : c + o.length ≤ 1400) (hl : 0 < l'.length) (hlen : l.length < l'.length + 60) (hnm : nm = 120 ∨ nm = 121) (hv : fm = 0 ∨ vr nm = nI v) (hv6 : v < 6) (hs : fm = 0 ∨ gA σ 31 ((k * 4 + b) * 6 + v) < 0) (hi : i < 1500) :
    ∃ j' σ', f_X1_readBranch_103 (n + 1) 1 (nI i) (A2 σ j) = f_X1_readBranch_215 (f_X1_readBranch_103 n) (nI i) (A2 (oS fm σ' k b v (nI x)) j') ∧ Sf K V M j' l' ∧ IT K V M fm j' (c + o.length) (x + 1) σ' ∧ EQ vr σ' (c + o.length) (x + 1) x o ∧ KC c x σ σ' ∧ Kq σ σ' := by
  obtain ⟨k0, v0, s1⟩ := Sf_cons hS
  obtain ⟨k1, v1, s2⟩ := Sf_cons s1
  have hle := Sf_len _ _ s2
  have hll := rX_len 99 0 0 0 l l' o (by decide) hr
  have hX := h.1
  obtain ⟨j', σ', e1, e2, e3, e4, e5, e6, e7⟩ := a_expr h hx hV s2 hr ho hc hl hlen
  have hX' := e4.1
  refine ⟨j', σ', ?_, e2, e4, e5, e6, e7⟩
  rw [f_X1_readBranch_103, if_neg (show ¬ (1500 : Int32) ≤ nI i from nI_ge (b := 1500) hi (by decide)), if_neg (by decide), show (273 : Int32) = nI 273 from rfl, a_exp hX (by omega) k0, bnd_s, a_con hX (by omega), bnd_s, v0]
  obtain ⟨w1, w2⟩ := p_var (VR_q hV (A2_q σ (j + 1))) hnm
  rw [w1, bnd_s]
  have key : ∀ s, (fm = 0 ∨ ¬ s = 0) → f_X1_readBranch_154 (f_X1_readBranch_103 n) (nI i) (nI j) (vr nm) s (A2 σ (j + 1)) = f_X1_readBranch_215 (f_X1_readBranch_103 n) (nI i) (A2 (oS fm σ' k b v (nI x)) j') := fun s hs' => by
    unfold f_X1_readBranch_154
    rw [a_dem hX _ _ hs', bnd_s]
    have iss : f_X4_isSetInLatest (vr nm) (A2 σ (j + 1)) = some (0, A2 σ (j + 1)) := by
      rcases hB with ⟨rfl, q⟩ | ⟨rfl, q1, q2, q3, q4⟩
      · exact p_isSet0 (σ := A2 σ (j + 1)) q _
      · rw [hv.resolve_left (by decide)]
        exact p_isSet1 (σ := A2 σ (j + 1)) q1 q2 q3 (by omega) hv6 (hs.resolve_left (by decide))
    rw [iss, bnd_s, if_pos rfl]
    unfold f_X1_readBranch_178
    rw [a_dem hX _ _ (Or.inr (by decide)), bnd_s, show (61 : Int32) = nI 61 from rfl, a_exp hX (by omega) k1, bnd_s, e1, bnd_s]
    rcases hB with ⟨rfl, q⟩ | ⟨rfl, q1, q2, q3, q4⟩
    · rw [a_mr0 hX', bnd_s, if_pos rfl]
      rfl
    · rw [a_mr1 hX', bnd_s, if_neg (by decide), hv.resolve_left (by decide)]
      have ad := p_addS (σ := A2 σ' j') (k := k) (b := b) (v := v) ((e7.1 202 (by unfold qI; omega)).trans q1) q2 (by show gA σ' 29 k = _; rw [e7.2.2.1 29 (by unfold qA; omega)]; exact q3) (by omega) hv6 (nI x)
      rw [ad, bnd_s, oS_A2]
  by_cases q : vr nm < 0
  · rw [if_pos q]
    exact key 0 (Or.inl (w2.resolve_right (fun e => e q)))
  · rw [if_neg q]
    exact key 1 (Or.inr (by decide))
/-- behind a setting: a comma, or not -/
theorem it_215Y {τ : Sta} {j i : Nat} {k9 : Int32 → Int32 → Sta → Option (Unit × Sta)} (h : PX K V M fm M t τ) (hj : j < M) (hk : K j = 44) : f_X1_readBranch_215 k9 (nI i) (A2 τ j) = k9 1 (nI (i + 1)) (A2 τ (j + 1)) := by
  unfold f_X1_readBranch_215
  rw [show (44 : Int32) = nI 44 from rfl, a_accY h hj hk, bnd_s, lt_e, nI_1]
theorem it_215N {τ : Sta} {j i n : Nat} (h : PX K V M fm M t τ) (hj : j < M) (hk : K j ≠ 44) (hi : i < 1400) : f_X1_readBranch_215 (f_X1_readBranch_103 (n + 1)) (nI i) (A2 τ j) = some ((), A2 τ j) := by
  unfold f_X1_readBranch_215
  rw [show (44 : Int32) = nI 44 from rfl, a_accN h hj hk (by decide), bnd_s, lt_e, nI_1, f_X1_readBranch_103, if_neg (show ¬ (1500 : Int32) ≤ nI (i + 1) from nI_ge (b := 1500) (by omega) (by decide)), if_pos rfl]
  rfl
/-- the head of a branch -/
theorem it_go (h : IT K V M fm t c x σ) (hf : fm = 0 ∨ fm = 1) (hB : BL fm k b σ) (hb : b < 4) {a p : Nat} {l : List Tk} (hS : Sf K V M t ((264, a) :: (274, p) :: l)) (h1 : 1 ≤ p) (h2 : p ≤ 100) : f_X1_readBranch σ = f_X1_readBranch_91 (A2 (oB fm σ k b (nI p)) (t + 1 + 1)) ∧ Sf K V M (t + 1 + 1) l := by
  obtain ⟨k0, v0, s1⟩ := Sf_cons hS
  obtain ⟨k1, v1, s2⟩ := Sf_cons s1
  have hle := Sf_len _ _ s1
  have hle' : t + 1 + (l.length + 1) = M := hle
  have hX := h.1
  refine ⟨?_, s2⟩
  have key : f_X1_readBranch_17 1 σ = f_X1_readBranch_91 (A2 (oB fm σ k b (nI p)) (t + 1 + 1)) := by
    unfold f_X1_readBranch_17 f_X1_readBranch_70
    have d0 := a_dem hX (j := t) (s := 1) 4 (gI σ 260) (Or.inr (by decide))
    rw [A2_0 hX] at d0
    have e0 := a_exp hX (j := t) (k := 264) (by omega) k0
    rw [A2_0 hX] at e0
    rw [d0, bnd_s, show (264 : Int32) = nI 264 from rfl, e0, bnd_s, show (274 : Int32) = nI 274 from rfl, a_exp hX (by omega) k1, bnd_s, a_con hX (by omega), bnd_s, v1, if_neg (fun e => by have := (lg_cmp_lt _ _).mp e; rw [show (1 : Int64) = lN 1 from rfl, lN_lt (by omega) (by decide)] at this; omega), if_neg (fun e => by have := (lg_cmp_gt _ _).mp e; rw [show (100 : Int64) = lN 100 from rfl, lN_lt (by decide) (by omega)] at this; omega), a_dem hX _ _ (Or.inr (by decide)), bnd_s]
    rcases hB with ⟨rfl, q⟩ | ⟨rfl, q1, q2, q3, q4⟩
    · rw [a_mr0 hX, bnd_s, if_pos rfl]
      rfl
    · rw [a_mr1 hX, bnd_s, if_neg (by decide), lN_i32]
      have ad := p_addB (σ := A2 σ (t + 1 + 1)) (k := k) (b := b) q1 q2 q3 hb (nI p)
      rw [ad, bnd_s, oB_A2]
  unfold f_X1_readBranch
  rcases hB with ⟨rfl, q⟩ | ⟨rfl, q1, q2, q3, q4⟩
  · rw [p_latest0 q, bnd_s, if_neg (by decide)]
    exact key
  · rw [p_latest1 q1 q2 q3, bnd_s, if_neg (show ¬ (4 : Int32) ≤ nI b from nI_ge (b := 4) hb (by decide))]
    exact key
theorem FU_3 : ∃ F, FU = F + 1 + 1 + 1 := ⟨999999997, rfl⟩
theorem it_91Y {τ : Sta} {j : Nat} (h : PX K V M fm M t τ) (hj : j < M) (hk : K j = 265) : f_X1_readBranch_91 (A2 τ j) = f_X1_readBranch_103 FU 1 (nI 0) (A2 τ (j + 1)) := by
  unfold f_X1_readBranch_91
  rw [show (265 : Int32) = nI 265 from rfl, a_accY h hj hk, bnd_s]
  rfl
theorem it_91N {τ : Sta} {j : Nat} (h : PX K V M fm M t τ) (hj : j < M) (hk : K j ≠ 265) : f_X1_readBranch_91 (A2 τ j) = some ((), A2 τ j) := by
  obtain ⟨F, hF⟩ := FU_3
  unfold f_X1_readBranch_91
  rw [show (265 : Int32) = nI 265 from rfl, a_accN h hj hk (by decide), bnd_s, hF, f_X1_readBranch_103, if_neg (by decide), if_pos rfl]
  rfl
theorem BL_B {ρ : Sta} (hB : BL fm k b ρ) (hb : b < 4) (p : Int32) : BL fm k (b + 1) (oB fm ρ k b p) := by
  rcases hB with ⟨rfl, q⟩ | ⟨rfl, q1, q2, q3, q4⟩
  · exact Or.inl ⟨rfl, q⟩
  · refine Or.inr ⟨rfl, q1, q2, ?_, by omega⟩
    show upd (gA _ 29) k (nI (b + 1)) k = _
    rw [upd_at, if_pos rfl]
theorem BL_S {ρ : Sta} (hB : BL fm k b ρ) (k' b' v : Nat) (e : Int32) : BL fm k b (oS fm ρ k' b' v e) := by
  rcases hB with ⟨rfl, q⟩ | ⟨rfl, q1, q2, q3, q4⟩
  · exact Or.inl ⟨rfl, q⟩
  · exact Or.inr ⟨rfl, q1, q2, q3, q4⟩
theorem VR_B {ρ : Sta} (hV : VR fm vr ρ) (p : Int32) : VR fm vr (oB fm ρ k b p) := by
  unfold oB
  by_cases q : fm = 0
  · rw [if_pos q]; exact hV
  · rw [if_neg q]; exact hV
theorem VR_S {ρ : Sta} (hV : VR fm vr ρ) (v : Nat) (e : Int32) : VR fm vr (oS fm ρ k b v e) := by
  unfold oS
  by_cases q : fm = 0
  · rw [if_pos q]; exact hV
  · rw [if_neg q]; exact hV
theorem B_31 {ρ : Sta} {v : Nat} (hf : fm = 0 ∨ fm = 1) (hv : v < 6) (p : Int32) : fm = 0 ∨ gA (oB fm ρ k b p) 31 ((k * 4 + b) * 6 + v) < 0 := by
  rcases hf with rfl | rfl
  · exact Or.inl rfl
  · refine Or.inr ?_
    show (if (k * 4 + b) * 6 ≤ (k * 4 + b) * 6 + v ∧ (k * 4 + b) * 6 + v < (k * 4 + b) * 6 + 6 then (-1 : Int32) else _) < 0
    rw [if_pos ⟨by omega, by omega⟩]
    decide
theorem S_31 {ρ : Sta} {v w : Nat} {e : Int32} (hne : v ≠ w) (h : fm = 0 ∨ gA ρ 31 ((k * 4 + b) * 6 + v) < 0) (hf : fm = 0 ∨ fm = 1) : fm = 0 ∨ gA (oS fm ρ k b w e) 31 ((k * 4 + b) * 6 + v) < 0 := by
  rcases hf with rfl | rfl
  · exact Or.inl rfl
  · refine Or.inr ?_
    show upd (gA ρ 31) ((k * 4 + b) * 6 + w) e ((k * 4 + b) * 6 + v) < 0
    rw [upd_at, if_neg (by omega)]
    exact h.resolve_left (by decide)
/-- a branch that sets nothing -/
theorem it_b0 (h : IT K V M fm t c x σ) (hf : fm = 0 ∨ fm = 1) (hB : BL fm k b σ) (hb : b < 4) {a p : Nat} {q : Tk} {l : List Tk} (hS : Sf K V M t ((264, a) :: (274, p) :: q :: l)) (h1 : 1 ≤ p) (h2 : p ≤ 100) (hq : q.1 ≠ 265) :
    StR K V M fm vr (f_X1_readBranch σ) c x (q :: l) c x (fun ρ => oB fm ρ k b (nI p)) [] σ := by
  obtain ⟨e1, s2⟩ := it_go h hf hB hb hS h1 h2
  obtain ⟨kq, -, -⟩ := Sf_cons s2
  have hle := Sf_len _ _ s2
  have hle' : t + 1 + 1 + (l.length + 1) = M := hle
  have I1 := A2_I (IT_r h (Kr_B (fm := fm) k b (nI p))) (t + 1 + 1)
  refine ⟨t + 1 + 1, _, e1.trans (it_91N (IT_r h (Kr_B (fm := fm) k b (nI p))).1 (by omega) (by rw [kq]; exact hq)), s2, I1, fun ρ hρ => AG_q (AG_B hρ k b (nI p)) (A2_q _ _), ?_, ?_, fun q hq => absurd hq List.not_mem_nil⟩
  · exact (KC_r (Kr_B (fm := fm) k b (nI p)) c x).go (A2_C _ _ c x) (Nat.le_refl _) (Nat.le_refl _)
  · exact (Kz_r (Kr_B (fm := fm) k b (nI p))).trans (Kz_q (A2_q _ _))
/-- a branch that sets one variable -/
theorem it_b1 (h : IT K V M fm t c x σ) (hf : fm = 0 ∨ fm = 1) (hx : x < 1400) (hV : VR fm vr σ) (hB : BL fm k b σ) (hb : b < 4) {a a1 a2 p nm v : Nat} {q : Tk} {l l' o : List Tk} (hS : Sf K V M t ((264, a) :: (274, p) :: (265, a1) :: (273, nm) :: (61, a2) :: l)) (h1 : 1 ≤ p) (h2 : p ≤ 100) (hr : rX 99 0 0 0 l = some (q :: l', o)) (ho : o ≠ []) (hc : c + o.length ≤ 1400) (hlen : l.length < l'.length + 61) (hnm : nm = 120 ∨ nm = 121) (hv : fm = 0 ∨ vr nm = nI v) (hv6 : v < 6) (hq : q.1 ≠ 44) :
    StR K V M fm vr (f_X1_readBranch σ) c x (q :: l') (c + o.length) (x + 1) (fun ρ => oS fm (oB fm ρ k b (nI p)) k b v (nI x)) [(x, o)] σ := by
  obtain ⟨e1, s2⟩ := it_go h hf hB hb hS h1 h2
  obtain ⟨k2, -, s3⟩ := Sf_cons s2
  have hle := Sf_len _ _ s3
  have I1 := IT_r h (Kr_B (fm := fm) k b (nI p))
  obtain ⟨F, hF⟩ := FU_3
  have hM : t + 1 + 1 < M := by have : t + 1 + 1 + 1 + (l.length + 1 + 1) = M := hle; omega
  obtain ⟨j', σ', g1, g2, g3, g4, g5, g6⟩ := it_set (n := F + 1 + 1) (i := 0) I1 hf hx (VR_B (k := k) (b := b) hV (nI p)) (BL_B hB hb (nI p)) s3 hr ho hc (Nat.succ_pos _) (by show l.length < l'.length + 1 + 60; omega) hnm hv hv6 (B_31 hf hv6 (nI p)) (by decide)
  obtain ⟨kq, -, -⟩ := Sf_cons g2
  have hl2 := Sf_len _ _ g2
  have hl2' : j' + (l'.length + 1) = M := hl2
  have I2 := IT_r g3 (Kr_S (fm := fm) k b v (nI x))
  refine ⟨j', A2 (oS fm σ' k b v (nI x)) j', ?_, g2, A2_I I2 j', fun ρ hρ => AG_q (AG_S (AG_q (AG_B hρ k b (nI p)) g6) k b v (nI x)) (A2_q _ _), ?_, ?_, fun q hq => ?_⟩
  · rw [e1, it_91Y I1.1 hM k2, hF, g1]
    exact it_215N I2.1 (by omega) (by rw [kq]; exact hq) (by decide)
  · exact (((KC_r (Kr_B (fm := fm) k b (nI p)) c x).go g5 (Nat.le_refl _) (Nat.le_refl _)).go (KC_r (Kr_S (fm := fm) k b v (nI x)) c x) (Nat.le_refl _) (Nat.le_refl _)).go (A2_C _ _ c x) (Nat.le_refl _) (Nat.le_refl _)
  · exact (((Kz_r (Kr_B (fm := fm) k b (nI p))).trans (Kz_q g6)).trans (Kz_r (Kr_S (fm := fm) k b v (nI x)))).trans (Kz_q (A2_q _ _))
  · rw [List.mem_singleton] at hq
    subst hq
    exact (g4.keep (KC_r (Kr_S (fm := fm) k b v (nI x)) _ _) (Nat.le_refl _) (Nat.le_refl _)).keep (A2_C _ _ _ _) (Nat.le_refl _) (Nat.le_refl _)
/-- a branch that sets both -/
theorem it_b2 (h : IT K V M fm t c x σ) (hf : fm = 0 ∨ fm = 1) (hx : x < 1399) (hV : VR fm vr σ) (hB : BL fm k b σ) (hb : b < 4) {a a1 a2 a3 a4 p nm nm2 v w : Nat} {q : Tk} {l l1 l' o o2 : List Tk} (hS : Sf K V M t ((264, a) :: (274, p) :: (265, a1) :: (273, nm) :: (61, a2) :: l)) (h1 : 1 ≤ p) (h2 : p ≤ 100) (hr : rX 99 0 0 0 l = some ((44, a3) :: (273, nm2) :: (61, a4) :: l1, o)) (ho : o ≠ []) (hr2 : rX 99 0 0 0 l1 = some (q :: l', o2)) (ho2 : o2 ≠ []) (hc : c + o.length + o2.length ≤ 1400) (hlen : l.length < l1.length + 63) (hlen2 : l1.length < l'.length + 61) (hnm : nm = 120 ∨ nm = 121) (hv : fm = 0 ∨ vr nm = nI v) (hv6 : v < 6) (hnm2 : nm2 = 120 ∨ nm2 = 121) (hw : fm = 0 ∨ vr nm2 = nI w) (hw6 : w < 6) (hvw : w ≠ v) (hq : q.1 ≠ 44) :
    StR K V M fm vr (f_X1_readBranch σ) c x (q :: l') (c + o.length + o2.length) (x + 1 + 1) (fun ρ => oS fm (oS fm (oB fm ρ k b (nI p)) k b v (nI x)) k b w (nI (x + 1))) [(x, o), (x + 1, o2)] σ := by
  obtain ⟨e1, s2⟩ := it_go h hf hB hb hS h1 h2
  obtain ⟨k2, -, s3⟩ := Sf_cons s2
  have hle := Sf_len _ _ s3
  have I1 := IT_r h (Kr_B (fm := fm) k b (nI p))
  obtain ⟨F, hF⟩ := FU_3
  have hM : t + 1 + 1 < M := by have : t + 1 + 1 + 1 + (l.length + 1 + 1) = M := hle; omega
  obtain ⟨j', σ', g1, g2, g3, g4, g5, g6⟩ := it_set (n := F + 1 + 1) (i := 0) I1 hf (by omega) (VR_B (k := k) (b := b) hV (nI p)) (BL_B hB hb (nI p)) s3 hr ho (by omega) (Nat.succ_pos _) (by show l.length < l1.length + 1 + 1 + 1 + 60; omega) hnm hv hv6 (B_31 hf hv6 (nI p)) (by decide)
  obtain ⟨kc, -, s4⟩ := Sf_cons g2
  have hl2 := Sf_len _ _ g2
  have hl2' : j' + (l1.length + 1 + 1 + 1) = M := hl2
  have I2 := IT_r g3 (Kr_S (fm := fm) k b v (nI x))
  have gB : BL fm k (b + 1) (oS fm σ' k b v (nI x)) := BL_S (BL_ag (AG_q AG.rfl' g6) (BL_B hB hb (nI p))) k b v (nI x)
  have gV : VR fm vr (oS fm σ' k b v (nI x)) := VR_S (VR_q (VR_B (k := k) (b := b) hV (nI p)) g6) v (nI x)
  have g31 : fm = 0 ∨ gA (oS fm σ' k b v (nI x)) 31 ((k * 4 + b) * 6 + w) < 0 := S_31 hvw ((B_31 (ρ := σ) hf hw6 (nI p)).imp id (fun e => by rw [g6.2.2.1 31 (by unfold qA; omega)]; exact e)) hf
  obtain ⟨j2, τ, m1, m2, m3, m4, m5, m6⟩ := it_set (n := F + 1) (i := 1) I2 hf (by omega) gV gB s4 hr2 ho2 hc (Nat.succ_pos _) (by show l1.length < l'.length + 1 + 60; omega) hnm2 hw hw6 g31 (by decide)
  obtain ⟨kq, -, -⟩ := Sf_cons m2
  have hl3 := Sf_len _ _ m2
  have hl3' : j2 + (l'.length + 1) = M := hl3
  have I3 := IT_r m3 (Kr_S (fm := fm) k b w (nI (x + 1)))
  refine ⟨j2, A2 (oS fm τ k b w (nI (x + 1))) j2, ?_, m2, A2_I I3 j2, fun ρ hρ => AG_q (AG_S (AG_q (AG_S (AG_q (AG_B hρ k b (nI p)) g6) k b v (nI x)) m6) k b w (nI (x + 1))) (A2_q _ _), ?_, ?_, fun q hq => ?_⟩
  · rw [e1, it_91Y I1.1 hM k2, hF, g1, it_215Y I2.1 (by omega) kc, m1]
    exact it_215N I3.1 (by omega) (by rw [kq]; exact hq) (by decide)
  · exact (((((KC_r (Kr_B (fm := fm) k b (nI p)) c x).go g5 (Nat.le_refl _) (Nat.le_refl _)).go (KC_r (Kr_S (fm := fm) k b v (nI x)) c x) (Nat.le_refl _) (Nat.le_refl _)).go m5 (by omega) (by omega)).go (KC_r (Kr_S (fm := fm) k b w (nI (x + 1))) c x) (Nat.le_refl _) (Nat.le_refl _)).go (A2_C _ _ c x) (Nat.le_refl _) (Nat.le_refl _)
  · exact (((((Kz_r (Kr_B (fm := fm) k b (nI p))).trans (Kz_q g6)).trans (Kz_r (Kr_S (fm := fm) k b v (nI x)))).trans (Kz_q m6)).trans (Kz_r (Kr_S (fm := fm) k b w (nI (x + 1))))).trans (Kz_q (A2_q _ _))
  · have last : KC (c + o.length + o2.length) (x + 1 + 1) τ (A2 (oS fm τ k b w (nI (x + 1))) j2) := (KC_r (Kr_S (fm := fm) k b w (nI (x + 1))) _ _).go (A2_C _ _ _ _) (Nat.le_refl _) (Nat.le_refl _)
    rcases List.mem_cons.mp hq with rfl | hq
    · exact (((g4.keep (KC_r (Kr_S (fm := fm) k b v (nI x)) _ _) (Nat.le_refl _) (Nat.le_refl _)).keep m5 (by omega) (by omega)).keep last (Nat.le_refl _) (Nat.le_refl _))
    · rw [List.mem_singleton] at hq
      subst hq
      exact m4.keep last (Nat.le_refl _) (Nat.le_refl _)
end BR
