/-! States are found and numbered alike. -/
section FI
variable {nv ng nc : Nat} {nb : Nat → Nat} {pc : Nat → Nat → Nat} {σ τ : Sta}
theorem e_pl14 (h : CR nv ng nc nb pc σ τ) {t : Nat} {v1 : Int32} {k2 : Int32 → Sta → Option (Int32 × Sta)} {k2m : Int32 → Int32 → Sta → Option ((Int32 ⊕ (Int32 × Int32)) × Sta)} (ht : t < 100) (hv : ∀ u, u < nv → gA σ 32 (t * 6 + u) = gA τ 21 (6 * t + u)) (hN : ∀ u, u < nv → gA σ 37 u = gA τ 28 u) : ∀ (m v n n' : Nat) (fl : Bool), v + m = nv → m < n → m < n' →
    (f_X5_placeOfNext_14 k2 n (nI t) (b2 fl) (nI v) σ = some (nI t, σ) ∧ f_X10_find_15 k2m n' v1 (nI t) (b2 fl) (nI v) τ = some (.inl (nI t), τ)) ∨ (f_X5_placeOfNext_14 k2 n (nI t) (b2 fl) (nI v) σ = k2 (nI (t + 1)) σ ∧ f_X10_find_15 k2m n' v1 (nI t) (b2 fl) (nI v) τ = k2m v1 (nI (t + 1)) τ)
  | _, _, 0, _, _, _, hn, _ => absurd hn (Nat.not_lt_zero _)
  | _, _, _ + 1, 0, _, _, _, hn => absurd hn (Nat.not_lt_zero _)
  | 0, v, n + 1, n' + 1, fl, hvm, hn, hn' => by
    have hnv := h.1.1
    rw [f_X5_placeOfNext_14, h.2.1.1, if_pos (nI_le (by omega) (by omega)), f_X10_find_15, h.2.1.2, if_pos (nI_le (by omega) (by omega))]
    unfold f_X5_placeOfNext_61 f_X10_find_62
    rw [lt_e, lt_e, nI_1]
    cases fl with
    | false => exact Or.inr ⟨by rw [if_pos (by decide)], by rw [if_pos (by decide)]⟩
    | true => exact Or.inl ⟨by rw [if_neg (by decide)], by rw [if_neg (by decide)]⟩
  | m + 1, v, n + 1, n' + 1, fl, hvm, hn, hn' => by
    have hnv := h.1.1
    have ih := fun b => e_pl14 h (v1 := v1) (k2 := k2) (k2m := k2m) ht hv hN m (v + 1) n n' b (by omega) (by omega) (by omega)
    rw [f_X5_placeOfNext_14, h.2.1.1, if_neg (nI_ge (by omega) (by omega)), f_X10_find_15, h.2.1.2, if_neg (nI_ge (by omega) (by omega))]
    unfold f_X5_placeOfNext_61 f_X10_find_62 f_X5_placeOfNext_54 f_X10_find_55
    simp only [lt_e, nI_1]
    cases fl with
    | false => exact Or.inr ⟨by rw [if_pos (by decide), if_pos (by decide)], by rw [if_pos (by decide), if_pos (by decide)]⟩
    | true =>
      rw [if_neg (show ¬ b2 true = 0 by decide), if_neg (show ¬ b2 true = 0 by decide), nI_mulL, nI_add, if_neg (nI_in (c := t * 6 + v) (N := 600) (by omega) (by omega)), if_neg (nI_in (c := v) (N := 6) (by omega) (by omega)), nI_Lmul, nI_add, if_neg (nI_in (c := 6 * t + v) (N := 600) (by omega) (by omega)), if_neg (nI_in (c := v) (N := 6) (by omega) (by omega)), nI_clamp (n := t * 6 + v) (by omega), nI_clamp (n := 6 * t + v) (by omega), nI_clamp (n := v) (by omega), hv v (by omega), hN v (by omega)]
      by_cases q : gA τ 21 (6 * t + v) = gA τ 28 v
      · rw [if_pos q, if_pos q]; exact ih true
      · rw [if_neg q, if_neg q]; exact ih false
theorem e_pl2 (h : CR nv ng nc nb pc σ τ) {ns : Nat} {v1 : Int32} (hns : ns ≤ 100) (h1 : gI σ 322 = nI ns) (h2 : gI τ 37 = nI ns) (hv : ∀ t u, t < ns → u < nv → gA σ 32 (t * 6 + u) = gA τ 21 (6 * t + u)) (hN : ∀ u, u < nv → gA σ 37 u = gA τ 28 u) : ∀ (m t n n' : Nat), t + m = ns → m < n → m < n' →
    (∃ u, u < ns ∧ f_X5_placeOfNext_2 n (nI t) σ = some (nI u, σ) ∧ f_X10_find_2 n' v1 (nI t) τ = some (.inl (nI u), τ)) ∨ (f_X5_placeOfNext_2 n (nI t) σ = some (nI ns, σ) ∧ ∃ n2, f_X10_find_2 n' v1 (nI t) τ = f_X10_find_2 (n2 + 1) v1 (nI ns) τ)
  | _, _, 0, _, _, hn, _ => absurd hn (Nat.not_lt_zero _)
  | _, _, _ + 1, 0, _, _, hn => absurd hn (Nat.not_lt_zero _)
  | 0, t, n + 1, n' + 1, htm, hn, hn' => by
    refine Or.inr ⟨?_, n', ?_⟩
    · rw [f_X5_placeOfNext_2, h1, if_pos (nI_le (by omega) (by omega))]
    · rw [show t = ns by omega]
  | m + 1, t, n + 1, n' + 1, htm, hn, hn' => by
    have hnv := h.1.1
    rw [f_X5_placeOfNext_2, h1, if_neg (nI_ge (by omega) (by omega)), f_X10_find_2, h2, if_neg (nI_ge (by omega) (by omega))]
    rcases e_pl14 h (v1 := v1) (k2 := f_X5_placeOfNext_2 n) (k2m := f_X10_find_2 n') (t := t) (by omega) (fun u hu => hv t u (by omega) hu) hN nv 0 FU FU true (by omega) (FU_lt (by omega)) (FU_lt (by omega)) with ⟨a1, a2⟩ | ⟨a1, a2⟩
    · exact Or.inl ⟨t, by omega, a1, a2⟩
    · rcases e_pl2 h (v1 := v1) hns h1 h2 hv hN m (t + 1) n n' (by omega) (by omega) (by omega) with ⟨u, u1, u2, u3⟩ | ⟨u1, n2, u2⟩
      · exact Or.inl ⟨u, u1, a1.trans u2, a2.trans u3⟩
      · exact Or.inr ⟨a1.trans u1, n2, a2.trans u2⟩
end FI
/-- what is below these bounds has not changed -/
def Fx (s k g0 : Nat) (σ τ σ' τ' : Sta) : Prop := Kx σ σ' ∧ Ky τ τ' ∧ (∀ j, j < s → gA σ' 33 j = gA σ 33 j ∧ gA τ' 22 j = gA τ 22 j ∧ gA τ' 23 j = gA τ 23 j) ∧ (∀ j, j < s * 16 + k → gA σ' 34 j = gA σ 34 j ∧ gA τ' 24 j = gA τ 24 j) ∧ (∀ j, j < (s * 16 + k) * 4 → gA σ' 35 j = gA σ 35 j ∧ gA τ' 26 j = gA τ 26 j) ∧ (∀ j, j < g0 → gJ σ' 36 j = gJ σ 36 j) ∧ (∀ j, j < 3 * (16 * s + k) → gJ τ' 25 j = gJ τ 25 j)
theorem Fx.rfl' {s k g0 : Nat} {σ τ : Sta} : Fx s k g0 σ τ σ τ := ⟨Kp.rfl', Kp.rfl', fun _ _ => ⟨rfl, rfl, rfl⟩, fun _ _ => ⟨rfl, rfl⟩, fun _ _ => ⟨rfl, rfl⟩, fun _ _ => rfl, fun _ _ => rfl⟩
theorem Fx.trans {s k g0 : Nat} {σ τ σ1 τ1 σ2 τ2 : Sta} (h : Fx s k g0 σ τ σ1 τ1) (g : Fx s k g0 σ1 τ1 σ2 τ2) : Fx s k g0 σ τ σ2 τ2 :=
  ⟨Kp.trans h.1 g.1, Kp.trans h.2.1 g.2.1, fun j hj => ⟨(g.2.2.1 j hj).1.trans (h.2.2.1 j hj).1, (g.2.2.1 j hj).2.1.trans (h.2.2.1 j hj).2.1, (g.2.2.1 j hj).2.2.trans (h.2.2.1 j hj).2.2⟩,
    fun j hj => ⟨(g.2.2.2.1 j hj).1.trans (h.2.2.2.1 j hj).1, (g.2.2.2.1 j hj).2.trans (h.2.2.2.1 j hj).2⟩, fun j hj => ⟨(g.2.2.2.2.1 j hj).1.trans (h.2.2.2.2.1 j hj).1, (g.2.2.2.2.1 j hj).2.trans (h.2.2.2.2.1 j hj).2⟩,
    fun j hj => (g.2.2.2.2.2.1 j hj).trans (h.2.2.2.2.2.1 j hj), fun j hj => (g.2.2.2.2.2.2 j hj).trans (h.2.2.2.2.2.2 j hj)⟩
theorem Fx.mono {s k g0 s' k' g1 : Nat} {σ τ σ1 τ1 : Sta} (h : Fx s k g0 σ τ σ1 τ1) (h1 : s' ≤ s) (h2 : s' * 16 + k' ≤ s * 16 + k) (h3 : g1 ≤ g0) : Fx s' k' g1 σ τ σ1 τ1 :=
  ⟨h.1, h.2.1, fun j hj => h.2.2.1 j (by omega), fun j hj => h.2.2.2.1 j (by omega), fun j hj => h.2.2.2.2.1 j (by omega), fun j hj => h.2.2.2.2.2.1 j (by omega), fun j hj => h.2.2.2.2.2.2 j (by omega)⟩
section DN
variable (nv ng nc : Nat) (nb : Nat → Nat)
def ChOk (ns t c : Nat) (σ τ : Sta) : Prop := ∃ cm : Nat, cm < nc ∧ gA σ 34 (t * 16 + c) = nI cm ∧ gA τ 24 (16 * t + c) = nI cm ∧ (∀ b, b < nb cm → ∃ tg : Nat, tg < ns ∧ gA σ 35 ((t * 16 + c) * 4 + b) = nI tg ∧ gA τ 26 (4 * (16 * t + c) + b) = nI tg) ∧
  (∀ g, g < ng → ((gA σ 24 g < 0 ∨ gA σ 24 g = nI cm) ∧ gJ τ 25 (3 * (16 * t + c) + g) = gJ σ 36 (t * 3 + g)) ∨ (¬ gA σ 24 g < 0 ∧ gA σ 24 g ≠ nI cm ∧ gJ τ 25 (3 * (16 * t + c) + g) = 0))
def Done (ns t : Nat) (σ τ : Sta) : Prop := (gA σ 33 t = -1 ∧ gA τ 22 t = 1 ∧ gA τ 23 t = 0) ∨ ∃ k : Nat, k ≤ 16 ∧ gA σ 33 t = nI k ∧ gA τ 22 t = 0 ∧ gA τ 23 t = nI k ∧ ∀ c, c < k → ChOk ng nc nb ns t c σ τ
end DN
theorem ChOk_fr {ng nc : Nat} {nb : Nat → Nat} {ns ns' t c s k g0 : Nat} {σ τ σ' τ' : Sta} (h : ChOk ng nc nb ns t c σ τ) (hf : Fx s k g0 σ τ σ' τ') (hns : ns ≤ ns') (hb : ∀ cm, cm < nc → nb cm ≤ 4) (hg : ng ≤ 3) (h1 : t * 16 + c < s * 16 + k) (h2 : t * 3 + 3 ≤ g0) : ChOk ng nc nb ns' t c σ' τ' := by
  obtain ⟨cm, a1, a2, a3, a4, a5⟩ := h
  refine ⟨cm, a1, ?_, ?_, fun b hb' => ?_, fun g hg' => ?_⟩
  · rw [(hf.2.2.2.1 _ (by omega)).1]; exact a2
  · rw [(hf.2.2.2.1 _ (by omega)).2]; exact a3
  · obtain ⟨tg, b1, b2, b3⟩ := a4 b hb'
    have := hb cm a1
    refine ⟨tg, by omega, ?_, ?_⟩
    · rw [(hf.2.2.2.2.1 _ (by omega)).1]; exact b2
    · rw [(hf.2.2.2.2.1 _ (by omega)).2]; exact b3
  · rw [hf.1.2.2.1 24 (by unfold xA; omega), hf.2.2.2.2.2.1 _ (by omega), hf.2.2.2.2.2.2 _ (by omega)]
    exact a5 g hg'
theorem Done_fr {ng nc : Nat} {nb : Nat → Nat} {ns ns' t s k g0 : Nat} {σ τ σ' τ' : Sta} (h : Done ng nc nb ns t σ τ) (hf : Fx s k g0 σ τ σ' τ') (hns : ns ≤ ns') (hb : ∀ cm, cm < nc → nb cm ≤ 4) (hg : ng ≤ 3) (h1 : t < s) (h2 : t * 3 + 3 ≤ g0) : Done ng nc nb ns' t σ' τ' := by
  have h3 := hf.2.2.1 t h1
  unfold Done
  rw [h3.1, h3.2.1, h3.2.2]
  rcases h with h | ⟨k', a1, a2, a3, a4, a5⟩
  · exact Or.inl h
  · exact Or.inr ⟨k', a1, a2, a3, a4, fun c hc => ChOk_fr (a5 c hc) hf hns hb hg (by omega) h2⟩
/-- the states found so far -/
def XS (nv ns : Nat) (σ τ : Sta) : Prop := ns ≤ 100 ∧ gI σ 322 = nI ns ∧ gI τ 37 = nI ns ∧ ∀ t u, t < ns → u < nv → gA σ 32 (t * 6 + u) = gA τ 21 (6 * t + u)
/-- the values of the states below ns are what they were -/
def Vs (ns : Nat) (σ τ σ' τ' : Sta) : Prop := ∀ j, j < 6 * ns → gA σ' 32 j = gA σ 32 j ∧ gA τ' 21 j = gA τ 21 j
theorem Vs.trans {ns ns' : Nat} {σ τ σ1 τ1 σ2 τ2 : Sta} (h : Vs ns σ τ σ1 τ1) (g : Vs ns' σ1 τ1 σ2 τ2) (hn : ns ≤ ns') : Vs ns σ τ σ2 τ2 := fun j hj => ⟨(g j (by omega)).1.trans (h j hj).1, (g j (by omega)).2.trans (h j hj).2⟩
/-- no error so far -/
def E0 (σ : Sta) : Prop := gI σ 329 = 0 ∧ gI σ 330 = -1
theorem E0_of {σ σ' : Sta} (h : gI σ' 329 = gI σ 329) (h' : gI σ' 330 = gI σ 330) (h0 : E0 σ) : E0 σ' := ⟨h.trans h0.1, h'.trans h0.2⟩
def FailX (x : Option (Unit × Sta)) (y : Option ((Unit ⊕ (Int32 × Int32)) × Sta)) (σ τ : Sta) : Prop := ∃ σ' τ' e, x = some ((), σ') ∧ gI σ' 329 = e ∧ e ≠ 0 ∧ y = some (.inr (e, gI σ' 330), τ') ∧ Kx σ σ' ∧ Ky τ τ'
section BR
variable {nv ng nc : Nat} {nb : Nat → Nat} {pc : Nat → Nat → Nat}
theorem CR_nb {σ τ : Sta} (h : CR nv ng nc nb pc σ τ) : ∀ cm, cm < nc → nb cm ≤ 4 := fun cm hcm => (h.2.2.2.2.2.2.2.1 cm hcm).2.2.2.2.1
/-- the branches of a choice -/
theorem e_brs {s c k : Nat} (hs : s < 100) (hc : c < nc) (hk : k < 16) : ∀ (m b n n' ns : Nat) (σ τ : Sta), b + m = nb c → m < n → m < n' → CR nv ng nc nb pc σ τ → XS nv ns σ τ → s < ns → E0 σ →
    (∀ b', b' < b → ∃ tg : Nat, tg < ns ∧ gA σ 35 ((s * 16 + k) * 4 + b') = nI tg ∧ gA τ 26 (4 * (16 * s + k) + b') = nI tg) →
    FailX (f_X5_addChoice_32 n (nI s) (nI c) (nI (s * 16 + k)) (nI b) σ) (f_X10_choose_96 n' (nI s) (nI c) (nI (16 * s + k)) (nI b) τ) σ τ ∨
    (∃ σ' τ' ns' n2, f_X5_addChoice_32 n (nI s) (nI c) (nI (s * 16 + k)) (nI b) σ = some ((), σ') ∧ f_X10_choose_96 n' (nI s) (nI c) (nI (16 * s + k)) (nI b) τ = f_X10_choose_96 (n2 + 1) (nI s) (nI c) (nI (16 * s + k)) (nI (nb c)) τ' ∧ Kp xI n0 (fun q => q = 32 ∨ q = 35 ∨ q = 37) k18 σ σ' ∧ Kp yI n0 (fun q => q = 21 ∨ q = 26 ∨ q = 28) k27 τ τ' ∧ (∀ j, j < (s * 16 + k) * 4 → gA σ' 35 j = gA σ 35 j ∧ gA τ' 26 j = gA τ 26 j) ∧ Vs ns σ τ σ' τ' ∧ ns ≤ ns' ∧ XS nv ns' σ' τ' ∧ E0 σ' ∧
      (∀ b', b' < nb c → ∃ tg : Nat, tg < ns' ∧ gA σ' 35 ((s * 16 + k) * 4 + b') = nI tg ∧ gA τ' 26 (4 * (16 * s + k) + b') = nI tg))
  | _, _, 0, _, _, _, _, _, hn, _, _, _, _, _, _ => absurd hn (Nat.not_lt_zero _)
  | _, _, _ + 1, 0, _, _, _, _, _, hn, _, _, _, _, _ => absurd hn (Nat.not_lt_zero _)
  | 0, b, n + 1, n' + 1, ns, σ, τ, hb, hn, hn', h, hX, hsn, h0, hT => by
    have hnc := h.1.2.2
    obtain ⟨p1, p2, p3, p4, p5, p6, p7⟩ := h.2.2.2.2.2.2.2.1 c hc
    refine Or.inr ⟨σ, τ, ns, n', ?_, ?_, Kp.rfl', Kp.rfl', fun _ _ => ⟨rfl, rfl⟩, fun _ _ => ⟨rfl, rfl⟩, Nat.le_refl _, hX, h0, fun b' hb' => hT b' (by omega)⟩
    · rw [f_X5_addChoice_32, if_neg (nI_in (by omega) (by omega)), nI_clamp (by omega), p3, if_pos (nI_le (by omega) (by omega))]
    · rw [show b = nb c by omega]
  | m + 1, b, n + 1, n' + 1, ns, σ, τ, hb, hn, hn', h, hX, hsn, h0, hT => by
    have hnv := h.1.1
    have hnc := h.1.2.2
    obtain ⟨p1, p2, p3, p4, p5, p6, p7⟩ := h.2.2.2.2.2.2.2.1 c hc
    obtain ⟨x1, x2, x3, x4⟩ := hX
    rw [f_X5_addChoice_32, if_neg (nI_in (c := c) (N := 16) (by omega) (by omega)), nI_clamp (n := c) (by omega), p3, if_neg (nI_ge (by omega) (by omega)), f_X10_choose_96, if_neg (nI_in (c := c) (N := 16) (by omega) (by omega)), nI_clamp (n := c) (by omega), p4, if_neg (nI_ge (by omega) (by omega)), nI_mulL, nI_add]
    unfold f_X5_reckonNext
    rw [lt_e, nI_mulL]
    rcases e_next (k96 := f_X10_choose_96 n') (at_ := nI (16 * s + k)) hs hc (show b < nb c by omega) nv 0 FU FU σ τ (by omega) (FU_lt (by omega)) (FU_lt (by omega)) h (fun v hv => x4 s v hsn hv) (fun u hu => absurd hu (Nat.not_lt_zero _)) with ⟨σ1, τ1, a1, a2, a3, a4⟩ | ⟨σ1, τ1, n2, a1, a2, a3, a4, a5⟩
    · refine Or.inl ⟨sI (sI σ1 329 9) 330 (gA σ1 27 c), τ1, 9, ?_, ?_, by decide, ?_, ?_, ?_⟩
      · rw [show f_X5_reckonNext_8 FU (nI (c * 4 + b)) (nI (s * 6)) 0 σ = _ from a1, bnd_s, ite00]
        unfold f_X5_fail
        rw [lt_e, if_neg (nI_in (by omega) (by omega)), lt_e, bnd_s, nI_clamp (by omega)]
        rfl
      · rw [gI_sI, if_neg (by decide), gI_sI, if_pos rfl]
      · refine (show f_X10_choose_110 (f_X10_choose_96 n') FU (nI s) (nI c) (nI (16 * s + k)) (nI b) 0 τ = _ from a2).trans ?_
        rw [gI_sI, if_pos rfl, a3.2.2.1 27 (by unfold k37A; omega), p1]
      · exact Kp.sI (Or.inr (Or.inr rfl)) (Kp.sI (Or.inr (Or.inl rfl)) (a3.mono (fun _ e => e.elim) (fun _ e => e) (fun q e => by unfold k37A at e; unfold xA; omega) (fun q e => Or.inl e)))
      · exact a4.mono (fun _ e => e.elim) (fun _ e => e) (fun q e => by unfold k28A at e; unfold yA; omega) (fun q e => Or.inr e)
    · have hx1 : Kx σ σ1 := a3.mono (fun _ e => e.elim) (fun _ e => e) (fun q e => by unfold k37A at e; unfold xA; omega) (fun q e => Or.inl e)
      have hy1 : Ky τ τ1 := a4.mono (fun _ e => e.elim) (fun _ e => e) (fun q e => by unfold k28A at e; unfold yA; omega) (fun q e => Or.inr e)
      have hz1 : Kp xI n0 (fun q => q = 32 ∨ q = 35 ∨ q = 37) k18 σ σ1 := a3.mono (fun _ e => e.elim) (fun _ e => e) (fun q e => Or.inr (Or.inr e)) (fun q e => e)
      have hw1 : Kp yI n0 (fun q => q = 21 ∨ q = 26 ∨ q = 28) k27 τ τ1 := a4.mono (fun _ e => e.elim) (fun _ e => e) (fun q e => Or.inr (Or.inr e)) (fun q e => e)
      have h1 := CR_x hx1 hy1 h
      have e322 : gI σ1 322 = nI ns := by rw [a3.1 _ id]; exact x2
      have e37 : gI τ1 37 = nI ns := by rw [a4.1 _ id]; exact x3
      have hval : ∀ t u, t < ns → u < nv → gA σ1 32 (t * 6 + u) = gA τ1 21 (6 * t + u) := fun t u ht hu => by rw [a3.2.2.1 32 (by unfold k37A; omega), a4.2.2.1 21 (by unfold k28A; omega)]; exact x4 t u ht hu
      rw [show f_X5_reckonNext_8 FU (nI (c * 4 + b)) (nI (s * 6)) 0 σ = _ from a1, bnd_s, ite10, show f_X10_choose_110 (f_X10_choose_96 n') FU (nI s) (nI c) (nI (16 * s + k)) (nI b) 0 τ = _ from a2, f_X10_choose_110, h1.2.1.2, if_pos (nI_le (by omega) (by omega)), if_neg (nI_in (c := c) (N := 16) (by omega) (by omega)), nI_clamp (n := c) (by omega)]
      -- what follows when the target is t, of ns' states
      have cont : ∀ (t ns' : Nat) (σ2 τ2 : Sta), t < ns' → ns ≤ ns' → Kp xI n0 (fun q => q = 32 ∨ q = 35 ∨ q = 37) k18 σ1 σ2 → Kp yI n0 (fun q => q = 21 ∨ q = 26 ∨ q = 28) k27 τ1 τ2 → gA σ2 35 = gA σ1 35 → gA τ2 26 = gA τ1 26 → Vs ns σ1 τ1 σ2 τ2 → XS nv ns' σ2 τ2 → E0 σ2 →
          FailX (f_X5_addChoice_98 (f_X5_addChoice_32 n) (nI s) (nI c) (nI (s * 16 + k)) (nI b) (nI t) σ2) (if (4 * nI (16 * s + k)) + nI b < 0 ∨ 6400 ≤ (((4 * nI (16 * s + k)) + nI b).toNatClampNeg) then none else (lt (sA τ2 26 (upd (gA τ2 26) (((4 * nI (16 * s + k)) + nI b).toNatClampNeg) (nI t))) (fun σ7 => lt (nI b + 1) (fun x8 => f_X10_choose_96 n' (nI s) (nI c) (nI (16 * s + k)) x8 σ7)))) σ τ ∨
          (∃ σ' τ' ns' n2, f_X5_addChoice_98 (f_X5_addChoice_32 n) (nI s) (nI c) (nI (s * 16 + k)) (nI b) (nI t) σ2 = some ((), σ') ∧ (if (4 * nI (16 * s + k)) + nI b < 0 ∨ 6400 ≤ (((4 * nI (16 * s + k)) + nI b).toNatClampNeg) then none else (lt (sA τ2 26 (upd (gA τ2 26) (((4 * nI (16 * s + k)) + nI b).toNatClampNeg) (nI t))) (fun σ7 => lt (nI b + 1) (fun x8 => f_X10_choose_96 n' (nI s) (nI c) (nI (16 * s + k)) x8 σ7)))) = f_X10_choose_96 (n2 + 1) (nI s) (nI c) (nI (16 * s + k)) (nI (nb c)) τ' ∧ Kp xI n0 (fun q => q = 32 ∨ q = 35 ∨ q = 37) k18 σ σ' ∧ Kp yI n0 (fun q => q = 21 ∨ q = 26 ∨ q = 28) k27 τ τ' ∧ (∀ j, j < (s * 16 + k) * 4 → gA σ' 35 j = gA σ 35 j ∧ gA τ' 26 j = gA τ 26 j) ∧ Vs ns σ τ σ' τ' ∧ ns ≤ ns' ∧ XS nv ns' σ' τ' ∧ E0 σ' ∧
            (∀ b', b' < nb c → ∃ tg : Nat, tg < ns' ∧ gA σ' 35 ((s * 16 + k) * 4 + b') = nI tg ∧ gA τ' 26 (4 * (16 * s + k) + b') = nI tg)) := fun t ns' σ2 τ2 ht hns k1 k2 q1 q2 hV hX2 h02 => by
        have K1 : Kp xI n0 (fun q => q = 32 ∨ q = 35 ∨ q = 37) k18 σ (sA σ2 35 (upd (gA σ2 35) ((s * 16 + k) * 4 + b) (nI t))) := Kp.sA (Or.inr (Or.inl rfl)) (hz1.trans k1)
        have K2 : Kp yI n0 (fun q => q = 21 ∨ q = 26 ∨ q = 28) k27 τ (sA τ2 26 (upd (gA τ2 26) (4 * (16 * s + k) + b) (nI t))) := Kp.sA (Or.inr (Or.inl rfl)) (hw1.trans k2)
        have X1 : Kx σ (sA σ2 35 (upd (gA σ2 35) ((s * 16 + k) * 4 + b) (nI t))) := K1.mono (fun _ e => e) (fun _ e => e) (fun q e => by unfold xA; omega) (fun q e => Or.inl e)
        have X2 : Ky τ (sA τ2 26 (upd (gA τ2 26) (4 * (16 * s + k) + b) (nI t))) := K2.mono (fun _ e => e) (fun _ e => e) (fun q e => by unfold yA; omega) (fun q e => Or.inr e)
        have V1 : Vs ns σ τ (sA σ2 35 (upd (gA σ2 35) ((s * 16 + k) * 4 + b) (nI t))) (sA τ2 26 (upd (gA τ2 26) (4 * (16 * s + k) + b) (nI t))) := fun j hj => by
          rw [gA_sA, if_neg (by decide), gA_sA, if_neg (by decide), (hV j hj).1, (hV j hj).2, a3.2.2.1 32 (by unfold k37A; omega), a4.2.2.1 21 (by unfold k28A; omega)]
          exact ⟨rfl, rfl⟩
        have e35 : gA σ2 35 = gA σ 35 := by rw [q1, a3.2.2.1 35 (by unfold k37A; omega)]
        have e26 : gA τ2 26 = gA τ 26 := by rw [q2, a4.2.2.1 26 (by unfold k28A; omega)]
        have hrest := e_brs (k := k) hs hc hk m (b + 1) n n' ns' _ _ (by omega) (by omega) (by omega) (CR_x X1 X2 h) (show XS nv ns' (sA σ2 35 (upd (gA σ2 35) ((s * 16 + k) * 4 + b) (nI t))) (sA τ2 26 (upd (gA τ2 26) (4 * (16 * s + k) + b) (nI t))) from ⟨hX2.1, hX2.2.1, hX2.2.2.1, fun t' u ht' hu => by rw [gA_sA, if_neg (by decide), gA_sA, if_neg (by decide)]; exact hX2.2.2.2 t' u ht' hu⟩) (by omega) h02 (fun b' hb' => by
          rw [gA_sA, if_pos rfl, gA_sA, if_pos rfl, upd_at, upd_at]
          by_cases q3 : b' = b
          · rw [if_pos (by omega), if_pos (by omega)]
            exact ⟨t, ht, rfl, rfl⟩
          · rw [if_neg (by omega), if_neg (by omega), e35, e26]
            obtain ⟨tg, t1, t2, t3⟩ := hT b' (by omega)
            exact ⟨tg, by omega, t2, t3⟩)
        unfold f_X5_addChoice_98
        rw [nI_mulL, nI_add, if_neg (nI_in (by omega) (by omega)), lt_e, lt_e, nI_1, nI_clamp (n := (s * 16 + k) * 4 + b) (by omega), nI_Lmul, nI_add, if_neg (nI_in (by omega) (by omega)), lt_e, lt_e, nI_clamp (n := 4 * (16 * s + k) + b) (by omega)]
        rcases hrest with ⟨σ', τ', e, g1, g2, g3, g4, g5, g6⟩ | ⟨σ', τ', ns2, n3, g1, g2, g3, g4, g5, g6, g7, g8, g9, g10⟩
        · exact Or.inl ⟨σ', τ', e, g1, g2, g3, g4, Kp.trans X1 g5, Kp.trans X2 g6⟩
        · refine Or.inr ⟨σ', τ', ns2, n3, g1, g2, K1.trans g3, K2.trans g4, fun j hj => ?_, V1.trans g6 hns, by omega, g8, g9, g10⟩
          rw [(g5 j hj).1, (g5 j hj).2, gA_sA, if_pos rfl, gA_sA, if_pos rfl, upd_at, upd_at, if_neg (by omega), if_neg (by omega), e35, e26]
          exact ⟨rfl, rfl⟩
      rcases e_pl2 h1 (v1 := gA τ1 14 c) x1 e322 e37 hval a5 ns 0 FU FU (by omega) (FU_lt (by omega)) (FU_lt (by omega)) with ⟨u, u1, u2, u3⟩ | ⟨u1, n3, u2⟩
      · rw [show f_X5_placeOfNext σ1 = _ from u2, bnd_s, e322, if_neg (fun e => by have := (nI_eq (by omega) (by omega)).mp e; omega), show f_X10_find (gA τ1 14 c) τ1 = _ from u3]
        exact cont u ns σ1 τ1 u1 (Nat.le_refl _) Kp.rfl' Kp.rfl' rfl rfl (fun _ _ => ⟨rfl, rfl⟩) ⟨x1, e322, e37, hval⟩ (E0_of (a3.1 _ id) (a3.1 _ id) h0)
      · rw [show f_X5_placeOfNext σ1 = _ from u1, bnd_s, e322, if_pos rfl, show f_X10_find (gA τ1 14 c) τ1 = _ from u2, f_X10_find_2, e37, if_pos (nI_le (by omega) (by omega))]
        unfold f_X5_addNext
        rw [e322]
        by_cases q : ns = 100
        · rw [if_neg (show ¬ nI ns < 100 by rw [nI_ltL (by omega) (by decide)]; omega), if_pos (show nI ns = 100 by rw [q]; rfl), bnd_s, ite00]
          refine Or.inl ⟨sI (sI σ1 329 8) 330 (gA σ1 27 c), τ1, 8, ?_, ?_, by decide, ?_, Kp.sI (Or.inr (Or.inr rfl)) (Kp.sI (Or.inr (Or.inl rfl)) hx1), hy1⟩
          · unfold f_X5_fail
            rw [lt_e, if_neg (nI_in (by omega) (by omega)), lt_e, bnd_s, nI_clamp (by omega)]
            rfl
          · rw [gI_sI, if_neg (by decide), gI_sI, if_pos rfl]
          · rw [gI_sI, if_pos rfl, (h1.2.2.2.2.2.2.2.1 c hc).1]
            rfl
        · have hg6 : ∀ a : Nat, a ≤ 594 → ¬ ((0 : Int32) < 0 ∨ nI a < 0 ∨ (6 : Int32) < 0 ∨ 6 < ((0 : Int32).toNatClampNeg) + ((6 : Int32).toNatClampNeg) ∨ 600 < (nI a).toNatClampNeg + ((6 : Int32).toNatClampNeg)) := fun a ha e => by
            rw [nI_clamp (by omega), show ((6 : Int32).toNatClampNeg) = 6 from rfl, show ((0 : Int32).toNatClampNeg) = 0 from rfl] at e
            rcases e with e | e | e | e | e
            · exact absurd e (by decide)
            · exact nI_pos (by omega) e
            · exact absurd e (by decide)
            · omega
            · omega
          rw [if_pos (show nI ns < 100 by rw [nI_ltL (by omega) (by decide)]; omega), if_neg (show ¬ nI ns = 100 from fun e => q ((nI_eqL (by omega) (by decide)).mp e)), nI_mulL, if_neg (hg6 _ (by omega)), nI_Lmul, if_neg (hg6 _ (by omega)), lt_e, lt_e, lt_e, lt_e, bnd_s, ite10, nI_clamp (n := ns * 6) (by omega), nI_clamp (n := 6 * ns) (by omega), gI_sA, gI_sA, e322, e37, nI_1, gI_sI, if_pos rfl, nI_pred]
          refine cont ns (ns + 1) (sI (sA σ1 32 (va_cpy (gA σ1 37) (gA σ1 32) 0 (ns * 6) 6)) 322 (nI (ns + 1))) (sI (sA τ1 21 (va_cpy (gA τ1 28) (gA τ1 21) 0 (6 * ns) 6)) 37 (nI (ns + 1))) (by omega) (by omega) (Kp.sI (Or.inl rfl) (Kp.sA (Or.inl rfl) Kp.rfl')) (Kp.sI rfl (Kp.sA (Or.inl rfl) Kp.rfl')) rfl rfl (fun j hj => ?_) ⟨by omega, by rw [gI_sI, if_pos rfl], by rw [gI_sI, if_pos rfl], fun t u ht hu => ?_⟩ ?_
          · rw [gA_sI, gA_sA, if_pos rfl, gA_sI, gA_sA, if_pos rfl, cpy_at, cpy_at, if_neg (by omega), if_neg (by omega)]
            exact ⟨rfl, rfl⟩
          · rw [gA_sI, gA_sA, if_pos rfl, gA_sI, gA_sA, if_pos rfl, cpy_at, cpy_at]
            by_cases q3 : t = ns
            · rw [if_pos (by omega), if_pos (by omega), show 0 + (t * 6 + u - ns * 6) = u by omega, show 0 + (6 * t + u - 6 * ns) = u by omega]
              exact a5 u hu
            · rw [if_neg (by omega), if_neg (by omega)]
              exact hval t u (by omega) hu
          · exact E0_of (by rw [gI_sI, if_neg (by decide), gI_sA, a3.1 _ id]) (by rw [gI_sI, if_neg (by decide), gI_sA, a3.1 _ id]) h0
end BR
