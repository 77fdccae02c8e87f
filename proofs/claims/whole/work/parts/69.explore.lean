/-! A compiled program, on both sides; its states are found. -/
def ER (σ τ : Sta) (nv : Nat) (e s : Int32) : Prop := ∃ (e' s' b : Nat) (l : XL), e = nI e' ∧ s = nI s' ∧ e' < 1500 ∧ nI e' < gI σ 133 ∧ gA σ 16 e' = nI b ∧ gA σ 17 e' = nI (b + l.length) ∧ b + l.length ≤ 1500 ∧ s' + l.length < 3004 ∧ XC σ b l ∧ XM τ s' l ∧ hOk nv l 0 1 ∧ l.length < 2000
theorem e_reckon {σ τ : Sta} {nv s : Nat} {e st : Int32} (hs : s < 100) (hnv : nv ≤ 6) (h : ER σ τ nv e st) (hv : ∀ v, v < nv → gA σ 32 (s * 6 + v) = gA τ 21 (6 * s + v)) :
    ∃ r σ' τ', f_X0_reckon e (nI (s * 6)) σ = some (r, σ') ∧ f_X10_worthOf st (nI s) τ = some (r, τ') ∧ Kp n0 n0 n0 k18 σ σ' ∧ Kp n0 n0 n0 k27 τ τ' := by
  obtain ⟨e', s', b, l, h1, h2, h3, h4, h5, h6, h7, h8, h9, h10, h11, h12⟩ := h
  obtain ⟨r, σ', τ', a1, a2, a3, a4⟩ := e_eval hs hnv l b s' 0 (b + l.length) FU FU (nI (b + l.length)) σ τ h11 h9 h10 rfl h7 h8 rfl (FU_lt (by omega)) (FU_lt (by omega)) (by omega) (fun k hk => absurd hk (Nat.not_lt_zero _)) hv e' h3 h6
  refine ⟨r, σ', τ', ?_, ?_, a3, a4⟩
  · unfold f_X0_reckon
    rw [h1, if_neg (nI_pos (by omega)), if_pos h4, if_neg (nI_in (by omega) (by omega)), lt_e, nI_clamp (by omega), h5]
    exact a1
  · unfold f_X10_worthOf
    rw [h2]
    exact a2
def CR (nv ng nc : Nat) (nb : Nat → Nat) (pc : Nat → Nat → Nat) (σ τ : Sta) : Prop := (nv ≤ 6 ∧ ng ≤ 3 ∧ nc ≤ 16) ∧ (gI σ 192 = nI nv ∧ gI τ 10 = nI nv) ∧ (gI σ 197 = nI ng ∧ gI τ 15 = nI ng) ∧ (gI σ 202 = nI nc ∧ gI τ 19 = nI nc) ∧
  (∀ v, v < nv → gA σ 20 v = gA τ 8 v ∧ gA σ 21 v = gA τ 9 v ∧ gA σ 22 v = gA τ 10 v ∧ gJ σ 19 v = gJ τ 7 v) ∧
  (∀ g, g < ng → ER σ τ nv (gA σ 25 g) (gA τ 11 g) ∧ ((gA σ 24 g < 0 ∧ gJ τ 12 g = 0) ∨ ∃ k : Nat, k < nc ∧ gA σ 24 g = nI k ∧ gJ τ 12 g = gJ τ 13 k ∧ gJ τ 12 g ≠ 0)) ∧
  ((gI σ 201 < 0 ∧ gI τ 18 = -1) ∨ ER σ τ nv (gI σ 201) (gI τ 18)) ∧
  (∀ k, k < nc → gA σ 27 k = gA τ 14 k ∧ ER σ τ nv (gA σ 28 k) (gA τ 15 k) ∧ gA σ 29 k = nI (nb k) ∧ gA τ 16 k = nI (nb k) ∧ nb k ≤ 4 ∧
    (∀ b, b < nb k → gA σ 30 (k * 4 + b) = nI (pc k b) ∧ gA τ 17 (k * 4 + b) = nI (pc k b) ∧ pc k b ≤ 100 ∧ ∀ v, v < nv → (gA σ 31 ((k * 4 + b) * 6 + v) < 0 ∧ gA τ 18 ((k * 4 + b) * 6 + v) = -1) ∨ ER σ τ nv (gA σ 31 ((k * 4 + b) * 6 + v)) (gA τ 18 ((k * 4 + b) * 6 + v))) ∧ aAccN (pc k) (nb k) 0 0 = 100) ∧
  (∀ k k', k < nc → k' < nc → gJ τ 13 k = gJ τ 13 k' → k = k')
def xI : Nat → Prop := fun q => q = 322 ∨ q = 329 ∨ q = 330
def xA : Nat → Prop := fun q => q = 32 ∨ q = 33 ∨ q = 34 ∨ q = 35 ∨ q = 37
def xJ : Nat → Prop := fun q => q = 18 ∨ q = 36
def yI : Nat → Prop := fun q => q = 37
def yA : Nat → Prop := fun q => q = 21 ∨ q = 22 ∨ q = 23 ∨ q = 24 ∨ q = 26 ∨ q = 28
def yJ : Nat → Prop := fun q => q = 25 ∨ q = 27
def Kx (σ σ' : Sta) : Prop := Kp xI n0 xA xJ σ σ'
def Ky (τ τ' : Sta) : Prop := Kp yI n0 yA yJ τ τ'
theorem XC_x {σ σ' : Sta} (h : Kx σ σ') : ∀ (l : XL) (b : Nat), XC σ b l → XC σ' b l
  | [], _, _ => True.intro
  | p :: l, b, ⟨h1, h2, h3⟩ => ⟨by rw [h.2.2.1 _ (by unfold xA; omega)]; exact h1, fun e => by rw [h.2.2.2.1 _ (by unfold xJ; omega)]; exact h2 e, XC_x h l (b + 1) h3⟩
theorem XM_y {τ τ' : Sta} (h : Ky τ τ') : ∀ (l : XL) (s : Nat), XM τ s l → XM τ' s l
  | [], _, h1 => by unfold XM at *; rw [h.2.2.1 _ (by unfold yA; omega)]; exact h1
  | p :: l, s, ⟨h1, h2, h3⟩ => ⟨by rw [h.2.2.1 _ (by unfold yA; omega)]; exact h1, fun e => by rw [h.2.2.2.1 _ (by unfold yJ; omega)]; exact h2 e, XM_y h l (s + 1) h3⟩
theorem ER_x {σ τ σ' τ' : Sta} (hc : Kx σ σ') (hm : Ky τ τ') {nv : Nat} {e s : Int32} (h : ER σ τ nv e s) : ER σ' τ' nv e s := by
  obtain ⟨e', s', b, l, h1, h2, h3, h4, h5, h6, h7, h8, h9, h10, h11, h12⟩ := h
  refine ⟨e', s', b, l, h1, h2, h3, ?_, ?_, ?_, h7, h8, XC_x hc l b h9, XM_y hm l s' h10, h11, h12⟩
  · rw [hc.1 _ (by unfold xI; omega)]; exact h4
  · rw [hc.2.2.1 _ (by unfold xA; omega)]; exact h5
  · rw [hc.2.2.1 _ (by unfold xA; omega)]; exact h6
theorem CR_x {σ τ σ' τ' : Sta} (hc : Kx σ σ') (hm : Ky τ τ') {nv ng nc : Nat} {nb : Nat → Nat} {pc : Nat → Nat → Nat} (h : CR nv ng nc nb pc σ τ) : CR nv ng nc nb pc σ' τ' := by
  obtain ⟨h1, h2, h3, h4, h5, h6, h7, h8, h9⟩ := h
  unfold CR
  rw [hc.1 192 (by unfold xI; omega), hm.1 10 (by unfold yI; omega), hc.1 197 (by unfold xI; omega), hm.1 15 (by unfold yI; omega), hc.1 202 (by unfold xI; omega), hm.1 19 (by unfold yI; omega), hc.1 201 (by unfold xI; omega), hm.1 18 (by unfold yI; omega),
    hc.2.2.1 20 (by unfold xA; omega), hm.2.2.1 8 (by unfold yA; omega), hc.2.2.1 21 (by unfold xA; omega), hm.2.2.1 9 (by unfold yA; omega), hc.2.2.1 22 (by unfold xA; omega), hm.2.2.1 10 (by unfold yA; omega), hc.2.2.2.1 19 (by unfold xJ; omega), hm.2.2.2.1 7 (by unfold yJ; omega),
    hc.2.2.1 25 (by unfold xA; omega), hm.2.2.1 11 (by unfold yA; omega), hc.2.2.1 24 (by unfold xA; omega), hm.2.2.2.1 12 (by unfold yJ; omega), hm.2.2.2.1 13 (by unfold yJ; omega), hc.2.2.1 27 (by unfold xA; omega), hm.2.2.1 14 (by unfold yA; omega), hc.2.2.1 28 (by unfold xA; omega), hm.2.2.1 15 (by unfold yA; omega),
    hc.2.2.1 29 (by unfold xA; omega), hm.2.2.1 16 (by unfold yA; omega), hc.2.2.1 30 (by unfold xA; omega), hm.2.2.1 17 (by unfold yA; omega), hc.2.2.1 31 (by unfold xA; omega), hm.2.2.1 18 (by unfold yA; omega)]
  refine ⟨h1, h2, h3, h4, h5, fun g hg => ⟨ER_x hc hm (h6 g hg).1, (h6 g hg).2⟩, h7.imp id (ER_x hc hm), fun k hk => ?_, h9⟩
  obtain ⟨a1, a2, a3, a4, a5, a6, a7⟩ := h8 k hk
  exact ⟨a1, ER_x hc hm a2, a3, a4, a5, fun b hb => ⟨(a6 b hb).1, (a6 b hb).2.1, (a6 b hb).2.2.1, fun v hv => ((a6 b hb).2.2.2 v hv).imp id (ER_x hc hm)⟩, a7⟩
theorem Kx_18 {σ σ' : Sta} (h : Kp n0 n0 n0 k18 σ σ') : Kx σ σ' := h.mono (fun _ e => e.elim) (fun _ e => e) (fun _ e => e.elim) (fun _ e => Or.inl e)
theorem Ky_27 {τ τ' : Sta} (h : Kp n0 n0 n0 k27 τ τ') : Ky τ τ' := h.mono (fun _ e => e.elim) (fun _ e => e) (fun _ e => e.elim) (fun _ e => Or.inr e)
section EX
variable {nv ng nc : Nat} {nb : Nat → Nat} {pc : Nat → Nat → Nat}
def k37A : Nat → Prop := fun q => q = 37
def k28A : Nat → Prop := fun q => q = 28
/-- the next state is reckoned -/
theorem e_next {s c b : Nat} {k96 : Int32 → Int32 → Int32 → Int32 → Sta → Option ((Unit ⊕ (Int32 × Int32)) × Sta)} {at_ : Int32} (hs : s < 100) (hc : c < nc) (hb : b < nb c) : ∀ (m v n n' : Nat) (σ τ : Sta), v + m = nv → m < n → m < n' → CR nv ng nc nb pc σ τ → (∀ v, v < nv → gA σ 32 (s * 6 + v) = gA τ 21 (6 * s + v)) → (∀ u, u < v → gA σ 37 u = gA τ 28 u) →
    (∃ σ' τ', f_X5_reckonNext_8 n (nI (c * 4 + b)) (nI (s * 6)) (nI v) σ = some (0, σ') ∧ f_X10_choose_110 k96 n' (nI s) (nI c) at_ (nI b) (nI v) τ = some (.inr (9, gA τ 14 c), τ') ∧ Kp n0 n0 k37A k18 σ σ' ∧ Kp n0 n0 k28A k27 τ τ') ∨
    (∃ σ' τ' n2, f_X5_reckonNext_8 n (nI (c * 4 + b)) (nI (s * 6)) (nI v) σ = some (1, σ') ∧ f_X10_choose_110 k96 n' (nI s) (nI c) at_ (nI b) (nI v) τ = f_X10_choose_110 k96 (n2 + 1) (nI s) (nI c) at_ (nI b) (nI nv) τ' ∧ Kp n0 n0 k37A k18 σ σ' ∧ Kp n0 n0 k28A k27 τ τ' ∧ ∀ u, u < nv → gA σ' 37 u = gA τ' 28 u)
  | _, _, 0, _, _, _, _, hn, _, _, _, _ => absurd hn (Nat.not_lt_zero _)
  | _, _, _ + 1, 0, _, _, _, _, hn, _, _, _ => absurd hn (Nat.not_lt_zero _)
  | 0, v, n + 1, n' + 1, σ, τ, hv, hn, hn', h, hval, hN => by
    have hnv := h.1.1
    refine Or.inr ⟨σ, τ, n', ?_, ?_, Kp.rfl', Kp.rfl', fun u hu => hN u (by omega)⟩
    · rw [f_X5_reckonNext_8, h.2.1.1, if_pos (nI_le (by omega) (by omega))]
    · rw [show v = nv by omega]
  | m + 1, v, n + 1, n' + 1, σ, τ, hv, hn, hn', h, hval, hN => by
    have hnv := h.1.1
    have hnc := h.1.2.2
    obtain ⟨p1, p2, p3, p4, p5, p6, p7⟩ := h.2.2.2.2.2.2.2.1 c hc
    have fin : ∀ (σ1 τ1 : Sta) (r : Int64), Kp n0 n0 n0 k18 σ σ1 → Kp n0 n0 n0 k27 τ τ1 →
        (∃ σ' τ', f_X5_reckonNext_70 (f_X5_reckonNext_8 n) (nI (c * 4 + b)) (nI (s * 6)) (nI v) r σ1 = some (0, σ') ∧ f_X10_choose_167 k96 (f_X10_choose_110 k96 n') (nI s) (nI c) at_ (nI b) (nI v) r τ1 = some (.inr (9, gA τ 14 c), τ') ∧ Kp n0 n0 k37A k18 σ σ' ∧ Kp n0 n0 k28A k27 τ τ') ∨
        (∃ σ' τ' n2, f_X5_reckonNext_70 (f_X5_reckonNext_8 n) (nI (c * 4 + b)) (nI (s * 6)) (nI v) r σ1 = some (1, σ') ∧ f_X10_choose_167 k96 (f_X10_choose_110 k96 n') (nI s) (nI c) at_ (nI b) (nI v) r τ1 = f_X10_choose_110 k96 (n2 + 1) (nI s) (nI c) at_ (nI b) (nI nv) τ' ∧ Kp n0 n0 k37A k18 σ σ' ∧ Kp n0 n0 k28A k27 τ τ' ∧ ∀ u, u < nv → gA σ' 37 u = gA τ' 28 u) := fun σ1 τ1 r hk1 hk2 => by
      have hk1' : Kp n0 n0 k37A k18 σ σ1 := hk1.mono (fun _ e => e) (fun _ e => e) (fun _ e => e.elim) (fun _ e => e)
      have hk2' : Kp n0 n0 k28A k27 τ τ1 := hk2.mono (fun _ e => e) (fun _ e => e) (fun _ e => e.elim) (fun _ e => e)
      have h1 := CR_x (Kx_18 hk1) (Ky_27 hk2) h
      have hb5 := h1.2.2.2.2.1 v (by omega)
      unfold f_X5_reckonNext_70 f_X5_reckonNext_104 f_X10_choose_167
      rw [if_neg (nI_in (c := v) (N := 6) (by omega) (by omega)), if_neg (nI_in (c := v) (N := 6) (by omega) (by omega)), if_neg (nI_in (c := v) (N := 6) (by omega) (by omega)), nI_clamp (n := v) (by omega), hb5.2.1, hb5.2.2.1, if_neg (nI_in2 (c := v) (N := 6) (by omega) (by omega)), if_neg (nI_in2 (c := v) (N := 6) (by omega) (by omega)), e_isIn, bnd_s]
      by_cases q1 : r < (gA τ1 9 v).toInt64
      · rw [if_pos ((lg_cmp_lt _ _).mpr q1), if_neg (show ¬ ((gA τ1 9 v).toInt64 ≤ r ∧ r ≤ (gA τ1 10 v).toInt64) from fun e => Int64.not_le.mpr q1 e.1), ite00, if_neg (nI_in (c := c) (N := 16) (by omega) (by omega)), nI_clamp (n := c) (by omega)]
        exact Or.inl ⟨σ1, τ1, rfl, by rw [hk2.2.2.1 _ id], hk1', hk2'⟩
      · rw [if_neg (fun e => q1 ((lg_cmp_lt _ _).mp e))]
        by_cases q2 : r ≤ (gA τ1 10 v).toInt64
        · rw [if_pos ((lg_cmp_le _ _).mpr q2), if_pos (show (gA τ1 9 v).toInt64 ≤ r ∧ r ≤ (gA τ1 10 v).toInt64 from ⟨Int64.not_lt.mp q1, q2⟩), ite10, if_neg (nI_in2 (c := v) (N := 6) (by omega) (by omega)), lt_e, lt_e, lt_e, lt_e, nI_1]
          have hk3 : Kp n0 n0 k37A k18 σ (sA σ1 37 (upd (gA σ1 37) v r.toInt32)) := Kp.sA rfl hk1'
          have hk4 : Kp n0 n0 k28A k27 τ (sA τ1 28 (upd (gA τ1 28) v r.toInt32)) := Kp.sA rfl hk2'
          have hx3 : Kx σ (sA σ1 37 (upd (gA σ1 37) v r.toInt32)) := hk3.mono (fun _ e => e.elim) (fun _ e => e) (fun q e => by unfold k37A at e; unfold xA; omega) (fun q e => Or.inl e)
          have hy3 : Ky τ (sA τ1 28 (upd (gA τ1 28) v r.toInt32)) := hk4.mono (fun _ e => e.elim) (fun _ e => e) (fun q e => by unfold k28A at e; unfold yA; omega) (fun q e => Or.inr e)
          rcases e_next (k96 := k96) (at_ := at_) hs hc hb m (v + 1) n n' _ _ (by omega) (by omega) (by omega) (CR_x hx3 hy3 h) (fun u hu => by rw [hk3.2.2.1 32 (by unfold k37A; omega), hk4.2.2.1 21 (by unfold k28A; omega)]; exact hval u hu) (fun u hu => by
            rw [gA_sA, if_pos rfl, gA_sA, if_pos rfl, upd_at, upd_at, hk1.2.2.1 _ id, hk2.2.2.1 _ id]
            by_cases q3 : u = v
            · rw [if_pos q3, if_pos q3]
            · rw [if_neg q3, if_neg q3]; exact hN u (by omega)) with ⟨σ', τ', g1, g2, g3, g4⟩ | ⟨σ', τ', n2, g1, g2, g3, g4, g5⟩
          · exact Or.inl ⟨σ', τ', g1, by rw [g2, hk4.2.2.1 14 (by unfold k28A; omega)], hk3.trans g3, hk4.trans g4⟩
          · exact Or.inr ⟨σ', τ', n2, g1, g2, hk3.trans g3, hk4.trans g4, g5⟩
        · rw [if_neg (fun e => q2 ((lg_cmp_le _ _).mp e)), if_neg (show ¬ ((gA τ1 9 v).toInt64 ≤ r ∧ r ≤ (gA τ1 10 v).toInt64) from fun e => q2 e.2), ite00, if_neg (nI_in (c := c) (N := 16) (by omega) (by omega)), nI_clamp (n := c) (by omega)]
          exact Or.inl ⟨σ1, τ1, rfl, by rw [hk2.2.2.1 _ id], hk1', hk2'⟩
    rw [f_X5_reckonNext_8, h.2.1.1, if_neg (nI_ge (by omega) (by omega)), nI_mulL, nI_add, if_neg (nI_in (c := (c * 4 + b) * 6 + v) (N := 384) (by omega) (by omega)), lt_e, nI_add, if_neg (nI_in (c := s * 6 + v) (N := 600) (by omega) (by omega)), lt_e, nI_clamp (n := (c * 4 + b) * 6 + v) (by omega), nI_clamp (n := s * 6 + v) (by omega),
      f_X10_choose_110, h.2.1.2, if_neg (nI_ge (by omega) (by omega)), nI_mulL, nI_add, nI_mulL, nI_add, if_neg (nI_in (c := (c * 4 + b) * 6 + v) (N := 384) (by omega) (by omega)), lt_e, nI_clamp (n := (c * 4 + b) * 6 + v) (by omega), nI_Lmul, nI_add, if_neg (nI_in (c := 6 * s + v) (N := 600) (by omega) (by omega)), nI_clamp (n := 6 * s + v) (by omega)]
    rcases (p6 b hb).2.2.2 v (by omega) with ⟨q1, q2⟩ | q
    · rw [if_pos q1, q2, if_pos rfl, hval v (by omega)]
      exact fin σ τ _ Kp.rfl' Kp.rfl'
    · obtain ⟨r, σ1, τ1, a1, a2, a3, a4⟩ := e_reckon hs hnv q hval
      obtain ⟨e', s', bb, l, h1, h2, h3, h4, _⟩ := q
      rw [if_neg (show ¬ gA σ 31 ((c * 4 + b) * 6 + v) < 0 from by rw [h1]; exact nI_pos (by omega)), if_neg (show ¬ gA τ 18 ((c * 4 + b) * 6 + v) = -1 from by rw [h2]; exact ne_m1 (by omega)), a1, bnd_s, a2, bnd_s]
      exact fin σ1 τ1 r a3 a4
end EX
