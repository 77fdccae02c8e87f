/-! A state is visited. -/
section VI
variable {nv ng nc : Nat} {nb : Nat → Nat} {pc : Nat → Nat → Nat}
/-- what a gain yields in a state, also later on -/
def GV1 (nv s g : Nat) (r : Int64) (τ0 : Sta) : Prop := ∀ τ', Ky τ0 τ' → (∀ v, v < nv → gA τ' 21 (6 * s + v) = gA τ0 21 (6 * s + v)) → ∃ τ'', f_X10_worthOf (gA τ0 11 g) (nI s) τ' = some (r, τ'') ∧ Kp n0 n0 n0 k27 τ' τ''
theorem GV1.go {s g : Nat} {r : Int64} {τ0 τ1 : Sta} (h : GV1 nv s g r τ0) (hK : Ky τ0 τ1) (hv : ∀ v, v < nv → gA τ1 21 (6 * s + v) = gA τ0 21 (6 * s + v)) : GV1 nv s g r τ1 := fun τ' k1 k2 => by
  obtain ⟨τ'', a, b⟩ := h τ' (Kp.trans hK k1) (fun v hv' => (k2 v hv').trans (hv v hv'))
  exact ⟨τ'', by rw [hK.2.2.1 11 (by unfold yA; omega)]; exact a, b⟩
theorem e_gainsM {s c k : Nat} {σ : Sta} (hs : s < 100) (hc : c < nc) (hk : k < 16) : ∀ (m g n : Nat) (τ : Sta), g + m = ng → m < n → CR nv ng nc nb pc σ τ → (∀ g, g < ng → GV1 nv s g (gJ σ 36 (s * 3 + g)) τ) →
    (∀ g', g' < g → ((gA σ 24 g' < 0 ∨ gA σ 24 g' = nI c) ∧ gJ τ 25 (3 * (16 * s + k) + g') = gJ σ 36 (s * 3 + g')) ∨ (¬ gA σ 24 g' < 0 ∧ gA σ 24 g' ≠ nI c ∧ gJ τ 25 (3 * (16 * s + k) + g') = 0)) →
    ∃ τ', f_X10_choose_22 n (nI s) (nI c) (nI (16 * s + k)) (nI g) τ = f_X10_choose_96 FU (nI s) (nI c) (nI (16 * s + k)) 0 τ' ∧ Kp n0 n0 n0 yJ τ τ' ∧ (∀ j, j < 3 * (16 * s + k) → gJ τ' 25 j = gJ τ 25 j) ∧
      (∀ g', g' < ng → ((gA σ 24 g' < 0 ∨ gA σ 24 g' = nI c) ∧ gJ τ' 25 (3 * (16 * s + k) + g') = gJ σ 36 (s * 3 + g')) ∨ (¬ gA σ 24 g' < 0 ∧ gA σ 24 g' ≠ nI c ∧ gJ τ' 25 (3 * (16 * s + k) + g') = 0))
  | _, _, 0, _, _, hn, _, _, _ => absurd hn (Nat.not_lt_zero _)
  | 0, g, n + 1, τ, hg, hn, h, hG, hN => by
    have hng := h.1.2.1
    refine ⟨τ, ?_, Kp.rfl', fun _ _ => rfl, fun g' hg' => hN g' (by omega)⟩
    rw [f_X10_choose_22, h.2.2.1.2, if_pos (nI_le (by omega) (by omega))]
  | m + 1, g, n + 1, τ, hg, hn, h, hG, hN => by
    have hng := h.1.2.1
    have hnc := h.1.2.2
    have fin : ∀ (z : Int64) (τ1 : Sta), Kp n0 n0 n0 k27 τ τ1 → ((gA σ 24 g < 0 ∨ gA σ 24 g = nI c) ∧ z = gJ σ 36 (s * 3 + g)) ∨ (¬ gA σ 24 g < 0 ∧ gA σ 24 g ≠ nI c ∧ z = 0) →
        ∃ τ', f_X10_choose_86 (f_X10_choose_22 n) (nI s) (nI c) (nI (16 * s + k)) (nI g) z (nI (3 * (16 * s + k) + g)) τ1 = f_X10_choose_96 FU (nI s) (nI c) (nI (16 * s + k)) 0 τ' ∧ Kp n0 n0 n0 yJ τ τ' ∧ (∀ j, j < 3 * (16 * s + k) → gJ τ' 25 j = gJ τ 25 j) ∧
        (∀ g', g' < ng → ((gA σ 24 g' < 0 ∨ gA σ 24 g' = nI c) ∧ gJ τ' 25 (3 * (16 * s + k) + g') = gJ σ 36 (s * 3 + g')) ∨ (¬ gA σ 24 g' < 0 ∧ gA σ 24 g' ≠ nI c ∧ gJ τ' 25 (3 * (16 * s + k) + g') = 0)) := fun z τ1 q1 q2 => by
      have K : Kp n0 n0 n0 yJ τ (sJ τ1 25 (vp_updL (gJ τ1 25) (3 * (16 * s + k) + g) z)) := Kp.sJ (Or.inl rfl) (q1.mono (fun _ e => e) (fun _ e => e) (fun _ e => e) (fun _ e => Or.inr e))
      have KY : Ky τ (sJ τ1 25 (vp_updL (gJ τ1 25) (3 * (16 * s + k) + g) z)) := K.mono (fun _ e => e.elim) (fun _ e => e) (fun _ e => e.elim) (fun _ e => e)
      have e25 : gJ τ1 25 = gJ τ 25 := q1.2.2.2.1 25 (by unfold k27; omega)
      obtain ⟨τ', e1, e2, e3, e4⟩ := e_gainsM (k := k) hs hc hk m (g + 1) n _ (by omega) (by omega) (CR_x Kp.rfl' KY h) (fun g' hg' => (hG g' hg').go KY (fun v _ => by rw [K.2.2.1 21 id])) (fun g' hg' => by
        rw [gJ_sJ, if_pos rfl, updL_at]
        by_cases q3 : g' = g
        · rw [if_pos (by omega), q3]; exact q2
        · rw [if_neg (by omega), e25]; exact hN g' (by omega))
      refine ⟨τ', ?_, K.trans e2, fun j hj => ?_, e4⟩
      · unfold f_X10_choose_86
        rw [if_neg (nI_in (by omega) (by omega)), lt_e, lt_e, nI_1, nI_clamp (by omega)]
        exact e1
      · rw [e3 j hj, gJ_sJ, if_pos rfl, updL_at, if_neg (by omega), e25]
    have gv : ∃ τ1, f_X10_choose_70 (f_X10_choose_22 n) (nI s) (nI c) (nI (16 * s + k)) (nI g) (nI (3 * (16 * s + k) + g)) τ = f_X10_choose_86 (f_X10_choose_22 n) (nI s) (nI c) (nI (16 * s + k)) (nI g) (gJ σ 36 (s * 3 + g)) (nI (3 * (16 * s + k) + g)) τ1 ∧ Kp n0 n0 n0 k27 τ τ1 := by
      obtain ⟨τ1, a, b⟩ := hG g (by omega) τ Kp.rfl' (fun _ _ => rfl)
      refine ⟨τ1, ?_, b⟩
      unfold f_X10_choose_70
      rw [if_neg (nI_in (by omega) (by omega)), nI_clamp (by omega), a, bnd_s]
    obtain ⟨τ1, gv1, gv2⟩ := gv
    rw [f_X10_choose_22, h.2.2.1.2, if_neg (nI_ge (by omega) (by omega)), if_neg (nI_in (c := g) (N := 3) (by omega) (by omega)), if_neg (nI_in (c := g) (N := 3) (by omega) (by omega)), if_neg (nI_in (c := c) (N := 16) (by omega) (by omega)), nI_clamp (n := g) (by omega), nI_clamp (n := c) (by omega), nI_Lmul, nI_add, gv1]
    rcases (h.2.2.2.2.2.1 g (by omega)).2 with ⟨p1, p2⟩ | ⟨k0, p1, p2, p3, p4⟩
    · rw [if_pos ((lg_cmp_eq _ _).mpr p2)]
      exact fin _ τ1 gv2 (Or.inl ⟨Or.inl p1, rfl⟩)
    · rw [if_neg (fun e => p4 ((lg_cmp_eq _ _).mp e))]
      by_cases q : k0 = c
      · rw [if_pos ((lg_cmp_eq _ _).mpr (by rw [p3, q]))]
        exact fin _ τ1 gv2 (Or.inl ⟨Or.inr (by rw [p2, q]), rfl⟩)
      · rw [if_neg (fun e => q (h.2.2.2.2.2.2.2.2 k0 c p1 hc (by rw [← p3]; exact (lg_cmp_eq _ _).mp e)))]
        exact fin 0 τ Kp.rfl' (Or.inr ⟨by rw [p2]; exact nI_pos (by omega), by rw [p2]; exact fun e => q ((nI_eq (by omega) (by omega)).mp e), rfl⟩)
theorem e_chooseB {s c k ns : Nat} {σ τ : Sta} (hc : c < nc) (hk : k < 16) (h : CR nv ng nc nb pc σ τ) (hX : XS nv ns σ τ) (hsn : s < ns) (h0 : E0 σ) (h33 : gA σ 33 s = nI k) (h23 : gA τ 23 s = nI k) (hG : ∀ g, g < ng → GV1 nv s g (gJ σ 36 (s * 3 + g)) τ) :
    FailX (f_X5_addChoice (nI s) (nI c) σ) (f_X10_choose (nI s) (nI c) τ) σ τ ∨
    (∃ σ' τ' ns', f_X5_addChoice (nI s) (nI c) σ = some ((), σ') ∧ f_X10_choose (nI s) (nI c) τ = some (.inl (), τ') ∧ Fx s k (s * 3 + 3) σ τ σ' τ' ∧ Vs ns σ τ σ' τ' ∧ ns ≤ ns' ∧ XS nv ns' σ' τ' ∧ E0 σ' ∧ gA σ' 33 s = nI (k + 1) ∧ gA τ' 23 s = nI (k + 1) ∧ gA τ' 22 s = gA τ 22 s ∧ ChOk ng nc nb ns' s k σ' τ') := by
  have hns := hX.1
  have hnc := h.1.2.2
  have hng := h.1.2.1
  have hs : s < 100 := by omega
  have KC : Kp n0 n0 (fun q => q = 33 ∨ q = 34) n0 σ (sA (sA σ 34 (upd (gA σ 34) (s * 16 + k) (nI c))) 33 (upd (gA σ 33) s (nI (k + 1)))) := Kp.sA (Or.inl rfl) (Kp.sA (Or.inr rfl) Kp.rfl')
  have KM0 : Kp n0 n0 (fun q => q = 24) n0 τ (sA τ 24 (upd (gA τ 24) (16 * s + k) (nI c))) := Kp.sA rfl Kp.rfl'
  have XC1 : Kx σ (sA (sA σ 34 (upd (gA σ 34) (s * 16 + k) (nI c))) 33 (upd (gA σ 33) s (nI (k + 1)))) := KC.mono (fun _ e => e.elim) (fun _ e => e) (fun q e => by unfold xA; omega) (fun _ e => e.elim)
  have XM1 : Ky τ (sA τ 24 (upd (gA τ 24) (16 * s + k) (nI c))) := KM0.mono (fun _ e => e.elim) (fun _ e => e) (fun q e => by unfold yA; omega) (fun _ e => e.elim)
  obtain ⟨τ2, g1, g2, g3, g4⟩ := e_gainsM (k := k) hs hc hk ng 0 FU _ (by omega) (FU_lt (by omega)) (CR_x XC1 XM1 h) (fun g hg => (hG g hg).go XM1 (fun v _ => by rw [gA_sA, if_neg (by decide)])) (fun g' hg' => absurd hg' (Nat.not_lt_zero _))
  have Y2 : Ky τ τ2 := Kp.trans XM1 (g2.mono (fun _ e => e.elim) (fun _ e => e) (fun _ e => e.elim) (fun _ e => e))
  have hX2 : XS nv ns (sA (sA σ 34 (upd (gA σ 34) (s * 16 + k) (nI c))) 33 (upd (gA σ 33) s (nI (k + 1)))) τ2 := ⟨hX.1, hX.2.1, by rw [g2.1 37 id]; exact hX.2.2.1, fun t u ht hu => by
    rw [gA_sA, if_neg (by decide), gA_sA, if_neg (by decide), g2.2.2.1 21 id, gA_sA, if_neg (by decide)]
    exact hX.2.2.2 t u ht hu⟩
  have hrest := e_brs (k := k) hs hc hk (nb c) 0 FU FU ns _ τ2 (by omega) (FU_lt (by have := CR_nb h c hc; omega)) (FU_lt (by have := CR_nb h c hc; omega)) (CR_x XC1 Y2 h) hX2 hsn h0 (fun b' hb' => absurd hb' (Nat.not_lt_zero _))
  have runC : f_X5_addChoice (nI s) (nI c) σ = f_X5_addChoice_32 FU (nI s) (nI c) (nI (s * 16 + k)) 0 (sA (sA σ 34 (upd (gA σ 34) (s * 16 + k) (nI c))) 33 (upd (gA σ 33) s (nI (k + 1)))) := by
    unfold f_X5_addChoice
    rw [if_neg (nI_in (c := s) (N := 100) (by omega) (by omega)), nI_clamp (n := s) (by omega), lt_e, h33, nI_mulL, nI_add, if_neg (nI_in (c := s * 16 + k) (N := 1600) (by omega) (by omega)), lt_e, if_neg (nI_in2 (c := s) (N := 100) (by omega) (by omega)), if_neg (nI_in2 (c := s) (N := 100) (by omega) (by omega)), lt_e, gA_sA, if_neg (by decide), h33, nI_1, nI_clamp (n := s * 16 + k) (by omega)]
  have runM : f_X10_choose (nI s) (nI c) τ = f_X10_choose_96 FU (nI s) (nI c) (nI (16 * s + k)) 0 τ2 := by
    unfold f_X10_choose
    rw [if_neg (nI_in (c := s) (N := 100) (by omega) (by omega)), nI_clamp (n := s) (by omega), lt_e, h23, nI_Lmul, nI_add, if_neg (nI_in (c := 16 * s + k) (N := 1600) (by omega) (by omega)), lt_e, nI_clamp (n := 16 * s + k) (by omega)]
    exact g1
  rw [runC, runM]
  rcases hrest with ⟨σ', τ', e, a1, a2, a3, a4, a5, a6⟩ | ⟨σ', τ', ns', n2, a1, a2, a3, a4, a5, a6, a7, a8, a9, a10⟩
  · exact Or.inl ⟨σ', τ', e, a1, a2, a3, a4, Kp.trans XC1 a5, Kp.trans Y2 a6⟩
  · have e23 : gA τ' 23 s = nI k := by
      rw [a4.2.2.1 23 (by omega), g2.2.2.1 23 id, gA_sA, if_neg (by decide)]; exact h23
    have hx' : Kx σ σ' := Kp.trans XC1 (a3.mono (fun _ e => e) (fun _ e => e) (fun q e => by unfold xA; omega) (fun q e => Or.inl e))
    have hy' : Ky τ τ' := Kp.trans Y2 (a4.mono (fun _ e => e) (fun _ e => e) (fun q e => by unfold yA; omega) (fun q e => Or.inr e))
    have hyf : Ky τ (sA τ' 23 (upd (gA τ' 23) s (nI (k + 1)))) := Kp.sA (by unfold yA; omega) hy'
    refine Or.inr ⟨σ', sA τ' 23 (upd (gA τ' 23) s (nI (k + 1))), ns', a1, ?_, ⟨hx', hyf, fun j hj => ⟨?_, ?_, ?_⟩, fun j hj => ⟨?_, ?_⟩, fun j hj => ⟨?_, ?_⟩, fun j hj => ?_, fun j hj => ?_⟩, fun j hj => ⟨?_, ?_⟩, a7, ⟨a8.1, a8.2.1, a8.2.2.1, fun t u ht hu => by rw [gA_sA, if_neg (by decide)]; exact a8.2.2.2 t u ht hu⟩, a9, ?_, ?_, ?_, ?_⟩
    · have h1 := CR_x hx' hy' h
      refine a2.trans ?_
      rw [f_X10_choose_96, if_neg (nI_in (c := c) (N := 16) (by omega) (by omega)), nI_clamp (n := c) (by omega), (h1.2.2.2.2.2.2.2.1 c hc).2.2.2.1, if_pos (nI_le (by omega) (by have := CR_nb h c hc; omega)), if_neg (nI_in (c := s) (N := 100) (by omega) (by omega)), if_neg (nI_in (c := s) (N := 100) (by omega) (by omega)), lt_e, nI_clamp (n := s) (by omega), e23, nI_1]
    · rw [a3.2.2.1 33 (by omega), gA_sA, if_pos rfl, upd_at, if_neg (by omega)]
    · rw [gA_sA, if_neg (by decide), a4.2.2.1 22 (by omega), g2.2.2.1 22 id, gA_sA, if_neg (by decide)]
    · rw [gA_sA, if_pos rfl, upd_at, if_neg (by omega), a4.2.2.1 23 (by omega), g2.2.2.1 23 id, gA_sA, if_neg (by decide)]
    · rw [a3.2.2.1 34 (by omega), gA_sA, if_neg (by decide), gA_sA, if_pos rfl, upd_at, if_neg (by omega)]
    · rw [gA_sA, if_neg (by decide), a4.2.2.1 24 (by omega), g2.2.2.1 24 id, gA_sA, if_pos rfl, upd_at, if_neg (by omega)]
    · rw [(a5 j hj).1, gA_sA, if_neg (by decide), gA_sA, if_neg (by decide)]
    · rw [gA_sA, if_neg (by decide), (a5 j hj).2, g2.2.2.1 26 id, gA_sA, if_neg (by decide)]
    · rw [a3.2.2.2.1 36 (by unfold k18; omega)]
      rfl
    · rw [gJ_sA, a4.2.2.2.1 25 (by unfold k27; omega), g3 j hj]
      rfl
    · rw [(a6 j hj).1, gA_sA, if_neg (by decide), gA_sA, if_neg (by decide)]
    · rw [gA_sA, if_neg (by decide), (a6 j hj).2, g2.2.2.1 21 id, gA_sA, if_neg (by decide)]
    · rw [a3.2.2.1 33 (by omega), gA_sA, if_pos rfl, upd_at, if_pos rfl]
    · rw [gA_sA, if_pos rfl, upd_at, if_pos rfl]
    · rw [gA_sA, if_neg (by decide), a4.2.2.1 22 (by omega), g2.2.2.1 22 id, gA_sA, if_neg (by decide)]
    · refine ⟨c, hc, ?_, ?_, fun b hb => ?_, fun g hg => ?_⟩
      · rw [a3.2.2.1 34 (by omega), gA_sA, if_neg (by decide), gA_sA, if_pos rfl, upd_at, if_pos rfl]
      · rw [gA_sA, if_neg (by decide), a4.2.2.1 24 (by omega), g2.2.2.1 24 id, gA_sA, if_pos rfl, upd_at, if_pos rfl]
      · obtain ⟨tg, t1, t2, t3⟩ := a10 b hb
        exact ⟨tg, t1, t2, by rw [gA_sA, if_neg (by decide)]; exact t3⟩
      · rw [a3.2.2.1 24 (by omega), a3.2.2.2.1 36 (by unfold k18; omega), gJ_sA, a4.2.2.2.1 25 (by unfold k27; omega)]
        exact g4 g hg
/-- the commands, one after the other -/
theorem e_cmds {s : Nat} {k23 : Int32 → Sta → Option ((Unit ⊕ (Int32 × Int32)) × Sta)} : ∀ (m c k n n' ns : Nat) (σ τ : Sta), c + m = nc → m < n → m < n' → k ≤ c → CR nv ng nc nb pc σ τ → XS nv ns σ τ → s < ns → E0 σ → gA σ 33 s = nI k → gA τ 23 s = nI k → gA τ 22 s = 0 → (∀ g, g < ng → GV1 nv s g (gJ σ 36 (s * 3 + g)) τ) → (∀ c', c' < k → ChOk ng nc nb ns s c' σ τ) →
    FailX (f_X5_visit_103 n (nI s) (nI (s * 6)) 0 (nI c) σ) (f_X10_explore_73 k23 n' (nI s) (nI c) τ) σ τ ∨
    (∃ σ' τ' ns', f_X5_visit_103 n (nI s) (nI (s * 6)) 0 (nI c) σ = some ((), σ') ∧ f_X10_explore_73 k23 n' (nI s) (nI c) τ = k23 (nI (s + 1)) τ' ∧ Fx s k (s * 3 + 3) σ τ σ' τ' ∧ ns ≤ ns' ∧ XS nv ns' σ' τ' ∧ E0 σ' ∧ Done ng nc nb ns' s σ' τ')
  | _, _, _, 0, _, _, _, _, _, hn, _, _, _, _, _, _, _, _, _, _, _ => absurd hn (Nat.not_lt_zero _)
  | _, _, _, _ + 1, 0, _, _, _, _, _, hn, _, _, _, _, _, _, _, _, _, _ => absurd hn (Nat.not_lt_zero _)
  | 0, c, k, n + 1, n' + 1, ns, σ, τ, hcm, hn, hn', hkc, h, hX, hsn, h0, h33, h23, h22, hG, hC => by
    have hnc := h.1.2.2
    have hns := hX.1
    refine Or.inr ⟨σ, τ, ns, ?_, ?_, Fx.rfl', Nat.le_refl _, hX, h0, Or.inr ⟨k, by omega, h33, h22, h23, hC⟩⟩
    · rw [f_X5_visit_103, h.2.2.2.1.1, if_pos (nI_le (by omega) (by omega))]
      rfl
    · rw [f_X10_explore_73, h.2.2.2.1.2, if_pos (nI_le (by omega) (by omega))]
      unfold f_X10_explore_118
      rw [lt_e, nI_1]
  | m + 1, c, k, n + 1, n' + 1, ns, σ, τ, hcm, hn, hn', hkc, h, hX, hsn, h0, h33, h23, h22, hG, hC => by
    have hnc := h.1.2.2
    have hng := h.1.2.1
    have hns := hX.1
    have hnv := h.1.1
    have hc : c < nc := by omega
    obtain ⟨p1, p2, p3, p4, p5, p6, p7⟩ := h.2.2.2.2.2.2.2.1 c hc
    obtain ⟨r, σ1, τ1, a1, a2, a3, a4⟩ := e_reckon (s := s) (by omega) hnv p2 (fun v hv => hX.2.2.2 s v hsn hv)
    have x1 := Kx_18 a3
    have y1 := Ky_27 a4
    have h1 := CR_x x1 y1 h
    have hX1 : XS nv ns σ1 τ1 := ⟨hns, by rw [a3.1 _ id]; exact hX.2.1, by rw [a4.1 _ id]; exact hX.2.2.1, fun t u ht hu => by rw [a3.2.2.1 _ id, a4.2.2.1 _ id]; exact hX.2.2.2 t u ht hu⟩
    have F1 : Fx s k (s * 3 + 3) σ τ σ1 τ1 := ⟨x1, y1, fun j _ => ⟨by rw [a3.2.2.1 _ id], by rw [a4.2.2.1 _ id], by rw [a4.2.2.1 _ id]⟩, fun j _ => ⟨by rw [a3.2.2.1 _ id], by rw [a4.2.2.1 _ id]⟩, fun j _ => ⟨by rw [a3.2.2.1 _ id], by rw [a4.2.2.1 _ id]⟩, fun j _ => by rw [a3.2.2.2.1 36 (by unfold k18; omega)], fun j _ => by rw [a4.2.2.2.1 25 (by unfold k27; omega)]⟩
    have G1 : ∀ g, g < ng → GV1 nv s g (gJ σ1 36 (s * 3 + g)) τ1 := fun g hg => by
      rw [a3.2.2.2.1 36 (by unfold k18; omega)]
      exact (hG g hg).go y1 (fun v _ => by rw [a4.2.2.1 _ id])
    have C1 : ∀ c', c' < k → ChOk ng nc nb ns s c' σ1 τ1 := fun c' hc' => ChOk_fr (hC c' hc') F1 (Nat.le_refl _) (CR_nb h) hng (by omega) (by omega)
    rw [f_X5_visit_103, h.2.2.2.1.1, if_neg (nI_ge (by omega) (by omega)), h0.1, ite00, ite00, if_neg (nI_in (c := c) (N := 16) (by omega) (by omega)), nI_clamp (n := c) (by omega), a1, bnd_s,
      f_X10_explore_73, h.2.2.2.1.2, if_neg (nI_ge (by omega) (by omega)), if_neg (nI_in (c := s) (N := 100) (by omega) (by omega)), nI_clamp (n := s) (by omega), h22, ite00, if_neg (nI_in (c := c) (N := 16) (by omega) (by omega)), nI_clamp (n := c) (by omega), a2, bnd_s]
    unfold f_X5_visit_160 f_X10_explore_112
    simp only [lt_e, nI_1]
    by_cases hr : lg_cmp r 0 = 0
    · rw [if_pos hr, if_pos hr]
      rcases e_cmds (k23 := k23) m (c + 1) k n n' ns σ1 τ1 (by omega) (by omega) (by omega) (by omega) h1 hX1 hsn (E0_of (a3.1 _ id) (a3.1 _ id) h0) (by rw [a3.2.2.1 _ id]; exact h33) (by rw [a4.2.2.1 _ id]; exact h23) (by rw [a4.2.2.1 _ id]; exact h22) G1 C1 with ⟨σ', τ', e, b1, b2, b3, b4, b5, b6⟩ | ⟨σ', τ', ns', b1, b2, b3, b4, b5, b6, b7⟩
      · exact Or.inl ⟨σ', τ', e, b1, b2, b3, b4, Kp.trans x1 b5, Kp.trans y1 b6⟩
      · exact Or.inr ⟨σ', τ', ns', b1, b2, F1.trans b3, b4, b5, b6, b7⟩
    · rw [if_neg hr, if_neg hr]
      rcases e_chooseB (k := k) hc (by omega) h1 hX1 hsn (E0_of (a3.1 _ id) (a3.1 _ id) h0) (by rw [a3.2.2.1 _ id]; exact h33) (by rw [a4.2.2.1 _ id]; exact h23) G1 with ⟨σ2, τ2, e, b1, b2, b3, b4, b5, b6⟩ | ⟨σ2, τ2, ns2, b1, b2, b3, b4, b5, b6, b7, b8, b9, b10, b11⟩
      · refine Or.inl ⟨σ2, τ2, e, ?_, b2, b3, ?_, Kp.trans x1 b5, Kp.trans y1 b6⟩
        · rw [b1, bnd_s]
          cases n with
          | zero => omega
          | succ n =>
            rw [f_X5_visit_103, b2, if_neg b3]
            split <;> rfl
        · rw [b4]
          rfl
      · rw [b1, bnd_s, b2]
        have h2 := CR_x b3.1 b3.2.1 h1
        have V1 : ∀ v, v < nv → gA τ2 21 (6 * s + v) = gA τ1 21 (6 * s + v) := fun v hv => (b4 (6 * s + v) (by omega)).2
        rcases e_cmds (k23 := k23) m (c + 1) (k + 1) n n' ns2 σ2 τ2 (by omega) (by omega) (by omega) (by omega) h2 b6 (by omega) b7 b8 b9 (by rw [b10, a4.2.2.1 _ id]; exact h22) (fun g hg => by
          rw [b3.2.2.2.2.2.1 (s * 3 + g) (by omega)]
          exact (G1 g hg).go b3.2.1 V1) (fun c' hc' => by
          by_cases q : c' = k
          · rw [q]; exact b11
          · exact ChOk_fr (C1 c' (by omega)) b3 b5 (CR_nb h) hng (by omega) (by omega)) with ⟨σ', τ', e, g1, g2, g3, g4, g5, g6⟩ | ⟨σ', τ', ns', g1, g2, g3, g4, g5, g6, g7⟩
        · exact Or.inl ⟨σ', τ', e, g1, g2, g3, g4, Kp.trans (Kp.trans x1 b3.1) g5, Kp.trans (Kp.trans y1 b3.2.1) g6⟩
        · exact Or.inr ⟨σ', τ', ns', g1, g2, (F1.trans b3).trans (g3.mono (Nat.le_refl _) (by omega) (Nat.le_refl _)), by omega, g5, g6, g7⟩
/-- the gains of a state -/
theorem e_visit7 {s ns : Nat} {τ : Sta} (hsn : s < ns) : ∀ (m g n : Nat) (σ : Sta), g + m = ng → m < n → CR nv ng nc nb pc σ τ → XS nv ns σ τ → (∀ g', g' < g → GV1 nv s g' (gJ σ 36 (s * 3 + g')) τ) →
    ∃ σ', f_X5_visit_7 n (nI s) (nI (s * 6)) (nI g) σ = (bnd (f_X0_reckon (gI σ' 201) (nI (s * 6)) σ') (fun r2 σ3 => if lg_cmp r2 0 = 0 then f_X5_visit_84 (nI s) (nI (s * 6)) 0 σ3 else f_X5_visit_84 (nI s) (nI (s * 6)) 1 σ3)) ∧ Kp n0 n0 n0 xJ σ σ' ∧ (∀ j, j < s * 3 → gJ σ' 36 j = gJ σ 36 j) ∧ (∀ g', g' < ng → GV1 nv s g' (gJ σ' 36 (s * 3 + g')) τ)
  | _, _, 0, _, _, hn, _, _, _ => absurd hn (Nat.not_lt_zero _)
  | 0, g, n + 1, σ, hg, hn, h, hX, hN => by
    have hng := h.1.2.1
    refine ⟨σ, ?_, Kp.rfl', fun _ _ => rfl, fun g' hg' => hN g' (by omega)⟩
    rw [f_X5_visit_7, h.2.2.1.1, if_pos (nI_le (by omega) (by omega))]
  | m + 1, g, n + 1, σ, hg, hn, h, hX, hN => by
    have hng := h.1.2.1
    have hnv := h.1.1
    have hns := hX.1
    have hER := (h.2.2.2.2.2.1 g (by omega)).1
    obtain ⟨r, σ1, τ1, a1, a2, a3, a4⟩ := e_reckon (s := s) (by omega) hnv hER (fun v hv => hX.2.2.2 s v hsn hv)
    have e36 : gJ σ1 36 = gJ σ 36 := a3.2.2.2.1 36 (by unfold k18; omega)
    have K : Kp n0 n0 n0 xJ σ (sJ σ1 36 (vp_updL (gJ σ1 36) (s * 3 + g) r)) := Kp.sJ (Or.inr rfl) (a3.mono (fun _ e => e) (fun _ e => e) (fun _ e => e) (fun _ e => Or.inl e))
    have X1 : Kx σ (sJ σ1 36 (vp_updL (gJ σ1 36) (s * 3 + g) r)) := K.mono (fun _ e => e.elim) (fun _ e => e) (fun _ e => e.elim) (fun _ e => e)
    have hgv : GV1 nv s g r τ := fun τ' q1 q2 => by
      obtain ⟨r', σ1', τ'', c1, c2, c3, c4⟩ := e_reckon (s := s) (by omega) hnv (ER_x Kp.rfl' q1 hER) (fun v hv => by rw [q2 v hv]; exact hX.2.2.2 s v hsn hv)
      rw [a1] at c1
      have : r = r' := congrArg Prod.fst (Option.some.inj c1)
      rw [this]
      exact ⟨τ'', c2, c4⟩
    obtain ⟨σ', e1, e2, e3, e4⟩ := e_visit7 (ns := ns) hsn m (g + 1) n _ (by omega) (by omega) (CR_x X1 Kp.rfl' h) ⟨hns, by rw [K.1 _ id]; exact hX.2.1, hX.2.2.1, fun t u ht hu => by rw [K.2.2.1 _ id]; exact hX.2.2.2 t u ht hu⟩ (fun g' hg' => by
      rw [gJ_sJ, if_pos rfl, updL_at]
      by_cases q : g' = g
      · rw [if_pos (by omega), q]; exact hgv
      · rw [if_neg (by omega), e36]; exact hN g' (by omega))
    refine ⟨σ', ?_, K.trans e2, fun j hj => ?_, e4⟩
    · rw [← e1, f_X5_visit_7, h.2.2.1.1, if_neg (nI_ge (by omega) (by omega)), if_neg (nI_in (c := g) (N := 3) (by omega) (by omega)), nI_clamp (n := g) (by omega), a1, bnd_s, nI_mulL, nI_add, if_neg (nI_in (by omega) (by omega)), lt_e, lt_e, nI_1, nI_clamp (by omega)]
    · rw [e3 j hj, gJ_sJ, if_pos rfl, updL_at, if_neg (by omega), e36]
theorem nar0 : vp_nar .boolean 0 = 0 := by
  unfold vp_nar
  rw [zn (Or.inl rfl)]
theorem nar1 : vp_nar .boolean 1 = 1 := by
  unfold vp_nar
  rw [zn (Or.inr rfl)]
/-- a state is visited, on both sides -/
theorem e_visit {s ns : Nat} {σ τ : Sta} {n' : Nat} (h : CR nv ng nc nb pc σ τ) (hX : XS nv ns σ τ) (hsn : s < ns) (h0 : E0 σ) :
    FailX (f_X5_visit (nI s) σ) (f_X10_explore_23 (n' + 1) (nI s) τ) σ τ ∨
    (∃ σ' τ' ns', f_X5_visit (nI s) σ = some ((), σ') ∧ f_X10_explore_23 (n' + 1) (nI s) τ = f_X10_explore_23 n' (nI (s + 1)) τ' ∧ Fx s 0 (s * 3) σ τ σ' τ' ∧ ns ≤ ns' ∧ XS nv ns' σ' τ' ∧ E0 σ' ∧ Done ng nc nb ns' s σ' τ') := by
  have hng := h.1.2.1
  have hnv := h.1.1
  have hns := hX.1
  have hnc := h.1.2.2
  obtain ⟨σ1, a1, a2, a3, a4⟩ := e_visit7 (ns := ns) hsn ng 0 FU σ (by omega) (FU_lt (by omega)) h hX (fun g' hg' => absurd hg' (Nat.not_lt_zero _))
  have X1 : Kx σ σ1 := a2.mono (fun _ e => e.elim) (fun _ e => e) (fun _ e => e.elim) (fun _ e => e)
  have h1 := CR_x X1 (Kp.rfl' : Ky τ τ) h
  have hX1 : XS nv ns σ1 τ := ⟨hns, by rw [a2.1 _ id]; exact hX.2.1, hX.2.2.1, fun t u ht hu => by rw [a2.2.2.1 _ id]; exact hX.2.2.2 t u ht hu⟩
  have runC : f_X5_visit (nI s) σ = (bnd (f_X0_reckon (gI σ1 201) (nI (s * 6)) σ1) (fun r2 σ3 => if lg_cmp r2 0 = 0 then f_X5_visit_84 (nI s) (nI (s * 6)) 0 σ3 else f_X5_visit_84 (nI s) (nI (s * 6)) 1 σ3)) := by
    unfold f_X5_visit
    rw [lt_e, nI_mulL]
    exact a1
  have runM : f_X10_explore_23 (n' + 1) (nI s) τ = (if gI τ 18 = -1 then f_X10_explore_62 (f_X10_explore_23 n') (nI s) (nI s) τ else bnd (f_X10_worthOf (gI τ 18) (nI s) τ) (fun r3 σ4 => if lg_cmp r3 0 = 0 then f_X10_explore_62 (f_X10_explore_23 n') (nI s) (nI s) σ4 else f_X10_explore_63 (f_X10_explore_23 n') (nI s) 1 (nI s) σ4)) := by
    rw [f_X10_explore_23, hX.2.2.1, if_neg (nI_ge (by omega) (by omega))]
  -- behind the goal's expression
  have fin : ∀ (σ2 τ2 : Sta) (g : Bool), Kp n0 n0 n0 k18 σ1 σ2 → Kp n0 n0 n0 k27 τ τ2 →
      FailX (f_X5_visit_84 (nI s) (nI (s * 6)) (b2 g) σ2) (f_X10_explore_63 (f_X10_explore_23 n') (nI s) (b2 g) (nI s) τ2) σ τ ∨
      (∃ σ' τ' ns', f_X5_visit_84 (nI s) (nI (s * 6)) (b2 g) σ2 = some ((), σ') ∧ f_X10_explore_63 (f_X10_explore_23 n') (nI s) (b2 g) (nI s) τ2 = f_X10_explore_23 n' (nI (s + 1)) τ' ∧ Fx s 0 (s * 3) σ τ σ' τ' ∧ ns ≤ ns' ∧ XS nv ns' σ' τ' ∧ E0 σ' ∧ Done ng nc nb ns' s σ' τ') := fun σ2 τ2 g k1 k2 => by
    have K1 : Kp n0 n0 (fun q => q = 33) xJ σ (sA σ2 33 (upd (gA σ2 33) s (if g = true then -1 else 0))) := Kp.sA rfl ((a2.mono (fun _ e => e) (fun _ e => e) (fun _ e => e.elim) (fun _ e => e)).trans (k1.mono (fun _ e => e) (fun _ e => e) (fun _ e => e.elim) (fun _ e => Or.inl e)))
    have K2 : Kp n0 n0 (fun q => q = 22 ∨ q = 23) k27 τ (sA (sA τ2 22 (upd (gA τ2 22) s (b2 g))) 23 (upd (gA τ2 23) s 0)) := Kp.sA (Or.inr rfl) (Kp.sA (Or.inl rfl) (k2.mono (fun _ e => e) (fun _ e => e) (fun _ e => e.elim) (fun _ e => e)))
    have X2 : Kx σ (sA σ2 33 (upd (gA σ2 33) s (if g = true then -1 else 0))) := K1.mono (fun _ e => e.elim) (fun _ e => e) (fun q e => by unfold xA; omega) (fun _ e => e)
    have Y2 : Ky τ (sA (sA τ2 22 (upd (gA τ2 22) s (b2 g))) 23 (upd (gA τ2 23) s 0)) := K2.mono (fun _ e => e.elim) (fun _ e => e) (fun q e => by unfold yA; omega) (fun _ e => Or.inr e)
    have F2 : Fx s 0 (s * 3) σ τ (sA σ2 33 (upd (gA σ2 33) s (if g = true then -1 else 0))) (sA (sA τ2 22 (upd (gA τ2 22) s (b2 g))) 23 (upd (gA τ2 23) s 0)) := by
      refine ⟨X2, Y2, fun j hj => ⟨?_, ?_, ?_⟩, fun j _ => ⟨?_, ?_⟩, fun j _ => ⟨?_, ?_⟩, fun j hj => ?_, fun j _ => ?_⟩
      · rw [gA_sA, if_pos rfl, upd_at, if_neg (by omega), k1.2.2.1 _ id, a2.2.2.1 _ id]
      · rw [gA_sA, if_neg (by decide), gA_sA, if_pos rfl, upd_at, if_neg (by omega), k2.2.2.1 _ id]
      · rw [gA_sA, if_pos rfl, upd_at, if_neg (by omega), k2.2.2.1 _ id]
      · rw [K1.2.2.1 34 (by omega)]
      · rw [K2.2.2.1 24 (by omega)]
      · rw [K1.2.2.1 35 (by omega)]
      · rw [K2.2.2.1 26 (by omega)]
      · rw [gJ_sA, k1.2.2.2.1 36 (by unfold k18; omega)]; exact a3 j hj
      · rw [gJ_sA, gJ_sA, k2.2.2.2.1 25 (by unfold k27; omega)]
    have hX2 : XS nv ns (sA σ2 33 (upd (gA σ2 33) s (if g = true then -1 else 0))) (sA (sA τ2 22 (upd (gA τ2 22) s (b2 g))) 23 (upd (gA τ2 23) s 0)) := ⟨hns, by rw [K1.1 _ id]; exact hX.2.1, by rw [K2.1 _ id]; exact hX.2.2.1, fun t u ht hu => by rw [K1.2.2.1 32 (by omega), K2.2.2.1 21 (by omega)]; exact hX.2.2.2 t u ht hu⟩
    have hc84 : f_X5_visit_84 (nI s) (nI (s * 6)) (b2 g) σ2 = f_X5_visit_103 FU (nI s) (nI (s * 6)) (b2 g) 0 (sA σ2 33 (upd (gA σ2 33) s (if g = true then -1 else 0))) := by
      unfold f_X5_visit_84 f_X5_visit_99
      rw [if_neg (nI_in (c := s) (N := 100) (by omega) (by omega)), if_neg (nI_in (c := s) (N := 100) (by omega) (by omega)), lt_e, lt_e, nI_clamp (n := s) (by omega)]
      cases g <;> rfl
    have hm63 : f_X10_explore_63 (f_X10_explore_23 n') (nI s) (b2 g) (nI s) τ2 = f_X10_explore_73 (f_X10_explore_23 n') FU (nI s) 0 (sA (sA τ2 22 (upd (gA τ2 22) s (b2 g))) 23 (upd (gA τ2 23) s 0)) := by
      unfold f_X10_explore_63
      rw [if_neg (nI_in (c := s) (N := 100) (by omega) (by omega)), lt_e, if_neg (nI_in (c := s) (N := 100) (by omega) (by omega)), lt_e, nI_clamp (n := s) (by omega)]
      cases g
      · rw [show vp_nar .boolean (b2 false) = b2 false from nar0]; rfl
      · rw [show vp_nar .boolean (b2 true) = b2 true from nar1]; rfl
    rw [hc84, hm63]
    have h2 := CR_x X2 Y2 h
    cases g with
    | true =>
      refine Or.inr ⟨_, _, ns, ?_, ?_, F2, Nat.le_refl _, hX2, E0_of (K1.1 _ id) (K1.1 _ id) h0, Or.inl ⟨?_, ?_, ?_⟩⟩
      · rw [show FU = 999999999 + 1 from rfl, f_X5_visit_103, if_neg (show ¬ b2 true = 0 by decide), if_pos (show true = true from rfl)]
        split
        · rfl
        · split <;> rfl
      · rw [show FU = 999999999 + 1 from rfl, f_X10_explore_73, h2.2.2.2.1.2]
        unfold f_X10_explore_118
        rw [if_neg (nI_in (c := s) (N := 100) (by omega) (by omega)), nI_clamp (n := s) (by omega), show gA (sA (sA τ2 22 (upd (gA τ2 22) s (b2 true))) 23 (upd (gA τ2 23) s 0)) 22 s = 1 by rw [gA_sA, if_neg (by decide), gA_sA, if_pos rfl, upd_at, if_pos rfl]; rfl, ite10, lt_e, nI_1]
        split <;> rfl
      · rw [gA_sA, if_pos rfl, upd_at, if_pos rfl]; rfl
      · rw [gA_sA, if_neg (by decide), gA_sA, if_pos rfl, upd_at, if_pos rfl]; rfl
      · rw [gA_sA, if_pos rfl, upd_at, if_pos rfl]
    | false =>
      rcases e_cmds (s := s) (k23 := f_X10_explore_23 n') nc 0 0 FU FU ns _ _ (by omega) (FU_lt (by omega)) (FU_lt (by omega)) (Nat.le_refl _) h2 hX2 hsn (E0_of (K1.1 _ id) (K1.1 _ id) h0) (by rw [gA_sA, if_pos rfl, upd_at, if_pos rfl]; rfl) (by rw [gA_sA, if_pos rfl, upd_at, if_pos rfl]; rfl) (by rw [gA_sA, if_neg (by decide), gA_sA, if_pos rfl, upd_at, if_pos rfl]; rfl) (fun g hg => by
          rw [gJ_sA, k1.2.2.2.1 36 (by unfold k18; omega)]
          exact (a4 g hg).go Y2 (fun v _ => by rw [K2.2.2.1 21 (by omega)])) (fun c' hc' => absurd hc' (Nat.not_lt_zero _)) with ⟨σ', τ', e, b1, b2', b3, b4, b5, b6⟩ | ⟨σ', τ', ns', b1, b2', b3, b4, b5, b6, b7⟩
      · exact Or.inl ⟨σ', τ', e, b1, b2', b3, b4, Kp.trans X2 b5, Kp.trans Y2 b6⟩
      · exact Or.inr ⟨σ', τ', ns', b1, b2', F2.trans (b3.mono (Nat.le_refl _) (Nat.le_refl _) (by omega)), b4, b5, b6, b7⟩
  rw [runC, runM]
  unfold f_X10_explore_62
  rcases h1.2.2.2.2.2.2.1 with ⟨q1, q2⟩ | q
  · rw [show f_X0_reckon (gI σ1 201) (nI (s * 6)) σ1 = some (0, σ1) by unfold f_X0_reckon; rw [if_pos q1]; rfl, bnd_s, if_pos (show lg_cmp 0 0 = 0 from rfl), if_pos q2]
    exact fin σ1 τ false Kp.rfl' Kp.rfl'
  · obtain ⟨r, σ2, τ2, c1, c2, c3, c4⟩ := e_reckon (s := s) (by omega) hnv q (fun v hv => hX1.2.2.2 s v hsn hv)
    obtain ⟨e', s', bb, l, w1, w2, _, _, _, _, _, w8, _⟩ := q
    rw [c1, bnd_s, if_neg (show ¬ gI τ 18 = -1 by rw [w2]; exact ne_m1 (by omega)), c2, bnd_s]
    by_cases hr : lg_cmp r 0 = 0
    · rw [if_pos hr, if_pos hr]
      exact fin σ2 τ2 false c3 c4
    · rw [if_neg hr, if_neg hr]
      exact fin σ2 τ2 true c3 c4
end VI
