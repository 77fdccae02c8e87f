/-! Something is wrong already: the class's parser goes on to the end of what it reads. -/
section DS
variable {K : Nat → Nat} {m c : Nat} {σ0 : Sta}
def SK (σ0 : Sta) (e p : Int32) (σ : Sta) : Prop := SFM σ ∧ Kq σ0 σ ∧ gI σ 262 = e ∧ e ≠ 0 ∧ gI σ 263 = p
/-- wrong, or in the form pass before an operator that the reference has refused -/
def DX (K : Nat → Nat) (m c : Nat) (σ0 : Sta) (e p : Int32) (σ : Sta) : Prop := SFM σ ∧ Kq σ0 σ ∧ ((gI σ 262 = e ∧ e ≠ 0 ∧ gI σ 263 = p) ∨ (gI σ 259 = 0 ∧ gI σ 262 = 0 ∧ e = 1 ∧ ∃ t, gI σ 260 = nI t ∧ t ≤ m ∧ gI σ 261 = nI c ∧ opL (K t) < 5 ∧ p = gA σ 12 t ∧ gA σ 11 t = nI (kC (K t)) ∧ KV (K t)))
theorem SK.dx {e p : Int32} {σ : Sta} (h : SK σ0 e p σ) : DX K m c σ0 e p σ := ⟨h.1, h.2.1, Or.inl h.2.2⟩
theorem SK.qt {e p : Int32} {σ : Sta} (h : SK σ0 e p σ) : QQ σ := ⟨h.1, Or.inr (by rw [h.2.2.1]; exact h.2.2.2.1)⟩
theorem SK.ne {e p : Int32} {σ : Sta} (h : SK σ0 e p σ) : gI σ 262 ≠ 0 := by
  rw [h.2.2.1]
  exact h.2.2.2.1
theorem DX.qt {e p : Int32} {σ : Sta} (h : DX K m c σ0 e p σ) : QQ σ := by
  rcases h.2.2 with q | q
  · exact ⟨h.1, Or.inr (by rw [q.1]; exact q.2.1)⟩
  · exact ⟨h.1, Or.inl q.1⟩
theorem DX_look {e p : Int32} {σ : Sta} (HM : m ≤ 1500 ∧ m < c ∧ c ≤ 1501) (h : DX K m c σ0 e p σ) {k0 : Nat} (hk : KV k0) (h1 : k0 ≠ 103) (h2 : k0 < 202) (h3 : ¬ opL k0 < 5) : ∃ x, f_X1_look σ = some (x, σ) ∧ x ≠ nI (kC k0) := by
  rcases h.2.2 with q | ⟨q0, q1, q2, t, q3, q4, q5, q6, q7, q8, q9⟩
  · exact ⟨279, c_look_sk (by rw [q.1]; exact q.2.1), kC_279 hk h1 (by omega)⟩
  · refine ⟨nI (kC (K t)), ?_, fun e => h3 ((kC_eq q9 hk h1 (by omega)).mp e ▸ q6)⟩
    unfold f_X1_look f_X1_look_38 f_X1_look_61
    rw [if_pos q1, q5, q3, if_neg (nI_ge (by omega) (by omega)), if_neg (by rw [nI_Lle (by omega) (by decide)]; omega), if_neg (show ¬ (1 : Int32) = 0 by decide), if_neg (nI_in (by omega) (by omega)), nI_clamp (by omega), q8]
theorem dx_acc {e p : Int32} {σ : Sta} (HM : m ≤ 1500 ∧ m < c ∧ c ≤ 1501) (h : DX K m c σ0 e p σ) {k0 : Nat} (hk : KV k0) (h1 : k0 ≠ 103) (h2 : k0 < 202) (h3 : ¬ opL k0 < 5) (a : Int32) (ha : a = nI (kC k0)) : f_X1_accept a σ = some (0, σ) := by
  obtain ⟨x, x1, x2⟩ := DX_look HM h hk h1 h2 h3
  unfold f_X1_accept
  rw [x1, bnd_s, if_neg (by rw [ha]; exact x2)]
theorem SK_er {e p : Int32} {t : Nat} {σ : Sta} (h : SFM σ) (hq : Kq σ0 σ) (he : e ≠ 0) (hp : p = gA σ 12 t) : SK σ0 e p (erC σ e t) := ⟨h, Kp.trans hq (Kxe_q (Ke_x (Ke_er σ e t))), rfl, he, hp.symm⟩
theorem dx_exp {e p : Int32} {σ : Sta} (HM : m ≤ 1500 ∧ m < c ∧ c ≤ 1501) (h : DX K m c σ0 e p σ) {k0 : Nat} (hk : KV k0) (h1 : k0 ≠ 103) (h2 : k0 < 202) (h3 : ¬ opL k0 < 5) (a : Int32) (ha : a = nI (kC k0)) : Go (f_X1_expect a σ) (fun o => SK σ0 e p o.2) := by
  obtain ⟨x, x1, x2⟩ := DX_look HM h hk h1 h2 h3
  unfold f_X1_expect f_X1_expect_32
  rw [lt_e, x1, bnd_s, if_neg (by rw [ha]; exact x2)]
  rcases h.2.2 with q | ⟨q0, q1, q2, t, q3, q4, q5, q6, q7, q8, q9⟩
  · rw [c_fail_sk (by rw [q.1]; exact q.2.1), bnd_s]
    exact Go.of ⟨h.1, h.2.1, q⟩
  · rw [q3, c_fail q1 1 (by omega), bnd_s, q2]
    exact Go.of (SK_er (t := t) h.1 h.2.1 (by decide) q7)
theorem sk_look {e p : Int32} {σ : Sta} (h : SK σ0 e p σ) : f_X1_look σ = some (279, σ) := c_look_sk h.ne
theorem sk_acc {e p : Int32} {σ : Sta} (h : SK σ0 e p σ) {a : Int32} (ha : ¬ 279 = a) : f_X1_accept a σ = some (0, σ) := by
  unfold f_X1_accept
  rw [sk_look h, bnd_s, if_neg ha]
theorem sk_exp {e p : Int32} {σ : Sta} (h : SK σ0 e p σ) {a : Int32} (ha : ¬ 279 = a) : Go (f_X1_expect a σ) (fun o => SK σ0 e p o.2) := by
  rw [exp_sk h.ne ha]
  exact Go.of h
theorem sk_whole {e p : Int32} {σ : Sta} (h : SK σ0 e p σ) : Go (f_X1_readWhole σ) (fun o => SK σ0 e p o.2) := by
  unfold f_X1_readWhole
  rw [sk_acc h (by decide), bnd_s]
  exact Go.bnd (sk_exp h (by decide)) fun r s h => Go.of h
theorem sk_expr {e p : Int32} {σ : Sta} (h : SK σ0 e p σ) : Go (f_X1_readExpression σ) (fun o => SK σ0 e p o.2) := by
  obtain ⟨h1, h2, h3, h4, h5⟩ := h
  have k0 : ∀ (τ : Sta) (v : Int32), Kxe τ (sI τ 261 v) := fun τ v => Kp.sI (by unfold xeI; omega) Kp.rfl'
  unfold f_X1_readExpression
  rw [lt_e]
  obtain ⟨r, σ1, b1, b2, b3, b4, b5, b6, b7⟩ := c_begin (σ := sI σ 261 (if gI σ 67 < (gI σ 260) + 60 then gI σ 67 else (gI σ 260) + 60)) h1.1
  have k1 := Kp.trans (k0 _ _) b3
  have hne : gI σ1 262 ≠ 0 := by
    rw [b6]
    show gI σ 262 ≠ 0
    rw [h3]
    exact h4
  rw [b1, bnd_s, show f_X1_readLevel 0 0 σ1 = some ((), σ1) from k_lev 100 0 0 σ1 hne (by decide) (by decide), bnd_s, lt_e]
  refine Go.of ⟨SFM_x h1 (Kp.trans k1 (k0 _ _)) b2, Kp.trans h2 (Kxe_q (Kp.trans k1 (k0 _ _))), ?_, h4, ?_⟩
  · show gI σ1 262 = e
    rw [b6]
    exact h3
  · show gI σ1 263 = p
    rw [b7]
    exact h5
/-! the readers -/
theorem sk_v81 {e p : Int32} {σ : Sta} (h : SK σ0 e p σ) (v1 v2 v3 v4 v5 : Int32) : Go (if 6 ≤ gI σ 192 then f_X1_readVariable_81 v1 v2 v3 v4 v5 0 σ else f_X1_readVariable_81 v1 v2 v3 v4 v5 1 σ) (fun o => SK σ0 e p o.2) := by
  rw [q_varEnd h.qt, q_varEnd h.qt]
  by_cases q : 6 ≤ gI σ 192
  · rw [if_pos q]; exact Go.of h
  · rw [if_neg q]; exact Go.of h
theorem b103_0 (n : Nat) (v5 : Int32) (σ : Sta) : f_X1_readBranch_103 (n + 1) 0 v5 σ = some ((), σ) := by
  have e229 : f_X1_readBranch_229 σ = some ((), σ) := rfl
  rw [f_X1_readBranch_103]
  by_cases q : 1500 ≤ v5
  · rw [if_pos q, e229]
  · rw [if_neg q, if_pos rfl, e229]
theorem b215_0 {σ : Sta} (h : f_X1_accept 44 σ = some (0, σ)) (n : Nat) (v5 : Int32) : f_X1_readBranch_215 (f_X1_readBranch_103 (n + 1)) v5 σ = some ((), σ) := by
  unfold f_X1_readBranch_215
  rw [h, bnd_s, lt_e, b103_0]
theorem sk_178 {e p : Int32} {σ : Sta} (h : SK σ0 e p σ) (n : Nat) (v5 v6 v7 s0 : Int32) : Go (f_X1_readBranch_178 (f_X1_readBranch_103 (n + 1)) v5 v6 v7 s0 σ) (fun o => SK σ0 e p o.2) := by
  unfold f_X1_readBranch_178
  rw [q_demand h.qt, bnd_s]
  refine Go.bnd (sk_exp h (by decide)) fun r s h => Go.bnd (sk_expr h) fun r s h => ?_
  rw [q_right h.qt, bnd_s, if_pos rfl, b215_0 (sk_acc h (by decide))]
  exact Go.of h
theorem sk_154 {e p : Int32} {σ : Sta} (h : SK σ0 e p σ) (n : Nat) (v5 v6 v7 s0 : Int32) : Go (f_X1_readBranch_154 (f_X1_readBranch_103 (n + 1)) v5 v6 v7 s0 σ) (fun o => SK σ0 e p o.2) := by
  obtain ⟨r, hr⟩ := s_set h.1 v7
  unfold f_X1_readBranch_154
  rw [q_demand h.qt, bnd_s, hr, bnd_s]
  by_cases q : r = 0
  · rw [if_pos q]; exact sk_178 h n _ _ _ _
  · rw [if_neg q]; exact sk_178 h n _ _ _ _
theorem sk_91 {e p : Int32} {σ : Sta} (h : SK σ0 e p σ) : Go (f_X1_readBranch_91 σ) (fun o => SK σ0 e p o.2) := by
  unfold f_X1_readBranch_91
  rw [sk_acc h (by decide), bnd_s, show FU = 999999999 + 1 from rfl, b103_0]
  exact Go.of h
theorem sk_70 {e p : Int32} {σ : Sta} (h : SK σ0 e p σ) (v1 : Int32) (v2 : Int64) (s0 : Int32) : Go (f_X1_readBranch_70 v1 v2 s0 σ) (fun o => SK σ0 e p o.2) := by
  unfold f_X1_readBranch_70
  rw [q_demand h.qt, bnd_s, q_right h.qt, bnd_s, if_pos rfl]
  exact sk_91 h
theorem sk_b11 {e p : Int32} {σ : Sta} (h : SK σ0 e p σ) (r7 : Int32) : Go (bnd (f_X7_contentOf r7 σ) (fun r10 σ11 =>
  if lg_cmp r10 1 < 0 then
    f_X1_readBranch_69 r7 r10 σ11
  else
    if 0 < lg_cmp r10 100 then
      f_X1_readBranch_69 r7 r10 σ11
    else
      f_X1_readBranch_70 r7 r10 1 σ11)) (fun o => SK σ0 e p o.2) := by
  obtain ⟨v, hv⟩ := s_cont h.1 r7
  rw [hv, bnd_s]
  unfold f_X1_readBranch_69
  by_cases q : lg_cmp v 1 < 0
  · rw [if_pos q]; exact sk_70 h _ _ _
  · rw [if_neg q]
    by_cases q2 : 0 < lg_cmp v 100
    · rw [if_pos q2]; exact sk_70 h _ _ _
    · rw [if_neg q2]; exact sk_70 h _ _ _
theorem dx_b17 {e p : Int32} {σ : Sta} (HM : m ≤ 1500 ∧ m < c ∧ c ≤ 1501) (h : DX K m c σ0 e p σ) (s0 : Int32) : Go (f_X1_readBranch_17 s0 σ) (fun o => SK σ0 e p o.2) := by
  unfold f_X1_readBranch_17
  rw [q_demand h.qt, bnd_s]
  exact Go.bnd (dx_exp HM h (k0 := 8) (Or.inl (by decide)) (by decide) (by decide) (by decide) _ rfl) fun r s h => Go.bnd (sk_exp h (by decide)) fun r s h => sk_b11 h r
theorem dx_branch {e p : Int32} {σ : Sta} (HM : m ≤ 1500 ∧ m < c ∧ c ≤ 1501) (h : DX K m c σ0 e p σ) : Go (f_X1_readBranch σ) (fun o => SK σ0 e p o.2) := by
  obtain ⟨n, b, h1, h2, h3, h4, h5⟩ := s_lb h.1
  unfold f_X1_readBranch
  rw [h5, bnd_s]
  by_cases q : 4 ≤ nI b
  · rw [if_pos q]; exact dx_b17 HM h _
  · rw [if_neg q]; exact dx_b17 HM h _
theorem sk_145 {e p : Int32} {σ : Sta} (h : SK σ0 e p σ) (v1 s0 : Int32) : Go (f_X1_readCommand_145 v1 s0 σ) (fun o => SK σ0 e p o.2) := by
  unfold f_X1_readCommand_145
  rw [q_demand h.qt, bnd_s]
  exact Go.of h
theorem sk_120b {e p : Int32} {σ : Sta} (h : SK σ0 e p σ) (v1 : Int32) : Go (bnd (f_X4_latestChances σ) (fun r4 σ5 =>
  if r4 = 100 then
    f_X1_readCommand_145 v1 1 σ5
  else
    f_X1_readCommand_145 v1 0 σ5)) (fun o => SK σ0 e p o.2) := by
  obtain ⟨x, hx⟩ := s_lc h.1
  rw [hx, bnd_s]
  by_cases q : x = 100
  · rw [if_pos q]; exact sk_145 h _ _
  · rw [if_neg q]; exact sk_145 h _ _
theorem dx_120 {e p : Int32} {σ : Sta} (HM : m ≤ 1500 ∧ m < c ∧ c ≤ 1501) (h : DX K m c σ0 e p σ) (v1 : Int32) : Go (f_X1_readCommand_120 v1 σ) (fun o => SK σ0 e p o.2) := by
  unfold f_X1_readCommand_120
  exact Go.bnd (dx_exp HM h (k0 := 102) (Or.inr (Or.inl ⟨by decide, by decide⟩)) (by decide) (by decide) (by decide) _ rfl) fun r s h => sk_120b h v1
theorem dx_x4 {e p : Int32} {σ : Sta} (HM : m ≤ 1500 ∧ m < c ∧ c ≤ 1501) (h : DX K m c σ0 e p σ) (n : Nat) (v1 x4 : Int32) : Go (if 1500 ≤ x4 then
      f_X1_readCommand_120 v1 σ
    else
      bnd (f_X1_accept 266 σ) (fun r6 σ7 =>
      if r6 = 0 then
        f_X1_readCommand_120 v1 σ7
      else
        f_X1_readCommand_96 n v1 x4 σ7)) (fun o => SK σ0 e p o.2) := by
  by_cases q : 1500 ≤ x4
  · rw [if_pos q]; exact dx_120 HM h v1
  · rw [if_neg q, dx_acc HM h (k0 := 10) (Or.inl (by decide)) (by decide) (by decide) (by decide) 266 rfl, bnd_s, if_pos rfl]
    exact dx_120 HM h v1
theorem dx_96 {e p : Int32} {σ : Sta} (HM : m ≤ 1500 ∧ m < c ∧ c ≤ 1501) (h : DX K m c σ0 e p σ) (n : Nat) (v1 v3 : Int32) : Go (f_X1_readCommand_96 (n + 1) v1 v3 σ) (fun o => SK σ0 e p o.2) := by
  rw [f_X1_readCommand_96]
  exact Go.bnd (dx_branch HM h) fun r s h => dx_x4 HM (SK.dx (K := K) h) n v1 _
end DS
/-! Both sides at once. -/
def mqI : Nat → Prop := fun q => q = 8 ∨ q = 10 ∨ q = 15 ∨ q = 18 ∨ q = 19 ∨ q = 26 ∨ (29 ≤ q ∧ q ≤ 34 ∧ q ≠ 30)
def mqA : Nat → Prop := fun q => (8 ≤ q ∧ q ≤ 11) ∨ (14 ≤ q ∧ q ≤ 19)
def mqJ : Nat → Prop := fun q => q = 6 ∨ q = 7 ∨ q = 12 ∨ q = 13 ∨ q = 20
/-- what the reference's reading may change -/
def Km (τ τ' : Sta) : Prop := Kp mqI n0 mqA mqJ τ τ'
theorem Kh_m {τ τ' : Sta} (h : Kh τ τ') : Km τ τ' := h.mono (fun k e => by unfold hI at e; unfold mqI; omega) (fun _ e => e) (fun k e => by unfold hA at e; unfold mqA; omega) (fun k e => e.elim)
theorem Kf_m {τ τ' : Sta} (h : Kf τ τ') : Km τ τ' := h.mono (fun k e => by unfold fI at e; unfold mqI; omega) (fun _ e => e) (fun k e => by unfold fA at e; unfold mqA; omega) (fun k e => by unfold fJ at e; unfold mqJ; omega)
def SIM {α β : Type} (D : Int32 → Int32 → Sta → Prop) (τ0 : Sta) (C : Option (α × Sta)) (M : Option ((β ⊕ (Int32 × Int32)) × Sta)) (Ok : α → Sta → β → Sta → Prop) : Prop :=
  (∃ r σ b τ, C = some (r, σ) ∧ M = some (.inl b, τ) ∧ Ok r σ b τ) ∨ (∃ r σ τ e p, C = some (r, σ) ∧ M = some (.inr (e, p), τ) ∧ D e p σ ∧ Km τ0 τ)
section SI
variable {α β γ δ : Type} {D D1 D2 : Int32 → Int32 → Sta → Prop} {τ0 : Sta}
theorem SIM.ok {r : α} {σ : Sta} {b : β} {τ : Sta} {Ok : α → Sta → β → Sta → Prop} (h : Ok r σ b τ) : SIM D τ0 (some (r, σ)) (some (.inl b, τ)) Ok := Or.inl ⟨r, σ, b, τ, rfl, rfl, h⟩
theorem SIM.bnd {C : Option (α × Sta)} {M : Option ((β ⊕ (Int32 × Int32)) × Sta)} {kC : α → Sta → Option (γ × Sta)} {kM : β → Sta → Option ((δ ⊕ (Int32 × Int32)) × Sta)} {Ok : α → Sta → β → Sta → Prop} {Ok2 : γ → Sta → δ → Sta → Prop}
    (h : SIM D1 τ0 C M Ok) (hk : ∀ r σ b τ, Ok r σ b τ → SIM D2 τ0 (kC r σ) (kM b τ) Ok2) (hd : ∀ r σ e p, D1 e p σ → Go (kC r σ) (fun o => D2 e p o.2)) : SIM D2 τ0 (bnd C kC) (bnw M kM) Ok2 := by
  rcases h with ⟨r, σ, b, τ, rfl, rfl, h1⟩ | ⟨r, σ, τ, e, p, rfl, rfl, h1, h2⟩
  · exact hk r σ b τ h1
  · obtain ⟨⟨r', σ'⟩, h3, h4⟩ := hd r σ e p h1
    exact Or.inr ⟨r', σ', τ, e, p, h3, rfl, h4, h2⟩
theorem SIM.imp {C : Option (α × Sta)} {M : Option ((β ⊕ (Int32 × Int32)) × Sta)} {Ok Ok2 : α → Sta → β → Sta → Prop} (h : SIM D1 τ0 C M Ok) (hk : ∀ r σ b τ, Ok r σ b τ → Ok2 r σ b τ) (hd : ∀ σ e p, D1 e p σ → D2 e p σ) : SIM D2 τ0 C M Ok2 := by
  rcases h with ⟨r, σ, b, τ, h0, h1, h2⟩ | ⟨r, σ, τ, e, p, h0, h1, h2, h3⟩
  · exact Or.inl ⟨r, σ, b, τ, h0, h1, hk _ _ _ _ h2⟩
  · exact Or.inr ⟨r, σ, τ, e, p, h0, h1, hd _ _ _ h2, h3⟩
theorem bnw_as {M : Option ((α ⊕ (Int32 × Int32)) × Sta)} {k : α → Sta → Option ((β ⊕ (Int32 × Int32)) × Sta)} {k2 : β → Sta → Option ((γ ⊕ (Int32 × Int32)) × Sta)} : bnw (bnw M k) k2 = bnw M (fun r s => bnw (k r s) k2) := by
  rcases M with _ | ⟨⟨r⟩ | ⟨X⟩, s⟩
  · rfl
  · rfl
  · rfl
theorem Go.lt {ε : Type} {a : α} {k : α → Option ε} {Q : ε → Prop} (h : Go (k a) Q) : Go (lt a k) Q := h
end SI
