/-! Exploring: what is read of the program; the next state. -/
def EX (σ : Sta) (e : Int32) (x y v : Int64) : Prop := ∃ (en : Nat) (o : List Tk) (c xx : Nat), e = nI en ∧ gI σ 133 = nI xx ∧ xx ≤ 1500 ∧ c ≤ 1500 ∧ EQ (vrF 1) σ c xx en o ∧ evS x y o [] = some [v] ∧ o.length ≤ 50
def SV (σ : Sta) (br v x y old new : Nat) : Prop := (gA σ 31 (br * 6 + v) < 0 ∧ new = old) ∨ (¬ gA σ 31 (br * 6 + v) < 0 ∧ EX σ (gA σ 31 (br * 6 + v)) (lN x) (lN y) (lN new))
def nb (k : Nat) : Nat := if k = 0 then 3 else if k = 1 then 1 else 2
def PF (n : Nat) (σ : Sta) : Prop := gI σ 192 = nI 2 ∧ gI σ 197 = nI 3 ∧ gI σ 202 = nI 3 ∧ (gA σ 21 0 = nI 0 ∧ gA σ 22 0 = nI n ∧ gA σ 21 1 = nI 0 ∧ gA σ 22 1 = nI 3) ∧ (∀ g, g < 3 → ∀ x y, ∃ v, EX σ (gA σ 25 g) x y v) ∧ (gI σ 201 < 0 ∨ ∀ x y, ∃ v, EX σ (gI σ 201) x y v) ∧
  (∀ k, k < 3 → gA σ 29 k = nI (nb k) ∧ ∀ x y, x ≤ n → y < 4 → ∃ v, EX σ (gA σ 28 k) (lN x) (lN y) v ∧ (v ≠ 0 → ∀ b, b < nb k → ∃ x' y', x' ≤ n ∧ y' ≤ 3 ∧ SV σ (k * 4 + b) 0 x y x x' ∧ SV σ (k * 4 + b) 1 x y y y'))
section XK
variable {σ σ' : Sta}
theorem Kx_i {k : Nat} (h : Kx σ σ') (hk : ¬ xI k) : gI σ' k = gI σ k := h.1 k hk
theorem Kx_a {k : Nat} (h : Kx σ σ') (hk : ¬ xA k) : gA σ' k = gA σ k := h.2.2.1 k hk
theorem EX_k (hk : Kx σ σ') {e : Int32} {x y v : Int64} (h : EX σ e x y v) : EX σ' e x y v := by
  obtain ⟨en, o, c, xx, h1, h2, h3, h4, h5, h6, h7⟩ := h
  refine ⟨en, o, c, xx, h1, by rw [Kx_i hk (by unfold xI; omega)]; exact h2, h3, h4, h5.keep ⟨fun j _ => ⟨?_, ?_⟩, fun j _ => ⟨?_, ?_⟩⟩ (Nat.le_refl _) (Nat.le_refl _), h6, h7⟩
  · rw [Kx_a hk (by unfold xA; omega)]
  · rw [hk.2.2.2.1 15 (by unfold xJ; omega)]
  · rw [Kx_a hk (by unfold xA; omega)]
  · rw [Kx_a hk (by unfold xA; omega)]
theorem SV_k (hk : Kx σ σ') {br v x y old new : Nat} (h : SV σ br v x y old new) : SV σ' br v x y old new := by
  unfold SV
  rw [Kx_a hk (k := 31) (by unfold xA; omega)]
  exact h.imp id (fun e => ⟨e.1, EX_k hk e.2⟩)
theorem PF_k {n : Nat} (hk : Kx σ σ') (h : PF n σ) : PF n σ' := by
  obtain ⟨h1, h2, h3, h4, h5, h6, h7⟩ := h
  unfold PF
  rw [Kx_i hk (k := 192) (by unfold xI; omega), Kx_i hk (k := 197) (by unfold xI; omega), Kx_i hk (k := 202) (by unfold xI; omega), Kx_i hk (k := 201) (by unfold xI; omega), Kx_a hk (k := 21) (by unfold xA; omega), Kx_a hk (k := 22) (by unfold xA; omega), Kx_a hk (k := 25) (by unfold xA; omega), Kx_a hk (k := 28) (by unfold xA; omega), Kx_a hk (k := 29) (by unfold xA; omega)]
  refine ⟨h1, h2, h3, h4, fun g hg x y => (h5 g hg x y).imp (fun v e => EX_k hk e), h6.imp id (fun e x y => (e x y).imp (fun v e => EX_k hk e)), fun k hk3 => ⟨(h7 k hk3).1, fun x y hx hy => ?_⟩⟩
  obtain ⟨v, g1, g2⟩ := (h7 k hk3).2 x y hx hy
  refine ⟨v, EX_k hk g1, fun hv b hb => ?_⟩
  obtain ⟨x', y', a1, a2, a3, a4⟩ := g2 hv b hb
  exact ⟨x', y', a1, a2, SV_k hk a3, SV_k hk a4⟩
theorem Kx_18 (h : Kp n0 n0 n0 k18 σ σ') : Kx σ σ' := h.mono (fun _ e => e.elim) (fun _ e => e) (fun _ e => e.elim) (fun _ e => Or.inl e)
/-- an expression of the program reckoned in the state f / 6 -/
theorem x_reck {e : Int32} {x y v : Int64} {f : Nat} (h : EX σ e x y v) (hf : f + 6 ≤ 600) (hX : (gA σ 32 f).toInt64 = x) (hY : (gA σ 32 (f + 1)).toInt64 = y) : ∃ σ', f_X0_reckon e (nI f) σ = some (v, σ') ∧ Kp n0 n0 n0 k18 σ σ' := by
  obtain ⟨en, o, c, xx, rfl, h2, h3, h4, h5, h6, h7⟩ := h
  exact e_reck h5 h4 h2 h3 hf rfl rfl hX hY h6 h7
/-- the values of a state -/
def VS (σ : Sta) (s x y : Nat) : Prop := gA σ 32 (s * 6) = nI x ∧ gA σ 32 (s * 6 + 1) = nI y
theorem VS_x {s x y : Nat} (h : VS σ s x y) (hx : x < 100) (hy : y < 100) : (gA σ 32 (s * 6)).toInt64 = lN x ∧ (gA σ 32 (s * 6 + 1)).toInt64 = lN y := by
  rw [h.1, h.2, nI_l (by omega), nI_l (by omega)]
  exact ⟨rfl, rfl⟩
def k37 : Nat → Prop := fun q => q = 37
/-- one variable of the next state -/
theorem x_next1 {n s x y v old new lo hi br : Nat} {nn : Nat} (hs : s < 100) (hV : VS σ s x y) (hx : x < 100) (hy : y < 100) (hv : v < 2) (hbr : br < 64) (h192 : gI σ 192 = nI 2) (hold : gA σ 32 (s * 6 + v) = nI old) (ho : old < 100) (h : SV σ br v x y old new) (h21 : gA σ 21 v = nI lo) (h22 : gA σ 22 v = nI hi) (h1 : lo ≤ new) (h2 : new ≤ hi) (h3 : hi < 100) :
    ∃ σ', f_X5_reckonNext_8 (nn + 1) (nI br) (nI (s * 6)) (nI v) σ = f_X5_reckonNext_8 nn (nI br) (nI (s * 6)) (nI (v + 1)) (sA σ' 37 (upd (gA σ' 37) v (nI new))) ∧ Kp n0 n0 n0 k18 σ σ' := by
  have fin : ∀ (σ' : Sta), Kp n0 n0 n0 k18 σ σ' → f_X5_reckonNext_70 (f_X5_reckonNext_8 nn) (nI br) (nI (s * 6)) (nI v) (lN new) σ' = f_X5_reckonNext_8 nn (nI br) (nI (s * 6)) (nI (v + 1)) (sA σ' 37 (upd (gA σ' 37) v (nI new))) := fun σ' hk => by
    have a21 : gA σ' 21 v = nI lo := by rw [hk.2.2.1 21 (fun e => e)]; exact h21
    have a22 : gA σ' 22 v = nI hi := by rw [hk.2.2.1 22 (fun e => e)]; exact h22
    unfold f_X5_reckonNext_70
    rw [if_neg (nI_in (by omega) (by decide)), nI_clamp (by omega), a21, nI_l (by omega), if_neg (fun e => Int64.not_le.mpr ((lg_cmp_lt _ _).mp e) ((lN_le (by omega) (by omega)).mpr h1)), if_neg (show ¬ (nI v < 0 ∨ 6 ≤ v) from nI_in2 (by omega) (by omega)), a22, nI_l (by omega), if_pos ((lg_cmp_le _ _).mpr ((lN_le (by omega) (by omega)).mpr h2)), if_neg (show ¬ (nI v < 0 ∨ 6 ≤ v) from nI_in2 (by omega) (by omega)), lt_e, lt_e, nI_1, lN_i]
  have head : f_X5_reckonNext_8 (nn + 1) (nI br) (nI (s * 6)) (nI v) σ = if gA σ 31 (br * 6 + v) < 0 then f_X5_reckonNext_70 (f_X5_reckonNext_8 nn) (nI br) (nI (s * 6)) (nI v) ((gA σ 32 (s * 6 + v)).toInt64) σ else bnd (f_X0_reckon (gA σ 31 (br * 6 + v)) (nI (s * 6)) σ) (fun r7 σ8 => f_X5_reckonNext_70 (f_X5_reckonNext_8 nn) (nI br) (nI (s * 6)) (nI v) r7 σ8) := by
    rw [f_X5_reckonNext_8, h192, if_neg (nI_ge hv (by decide)), show (6 : Int32) = nI 6 from rfl, pk_mul, nI_add, if_neg (nI_in (by omega) (by decide)), nI_clamp (by omega), lt_e, nI_add, if_neg (nI_in (by omega) (by decide)), nI_clamp (by omega), lt_e]
  rw [head]
  rcases h with ⟨q, rfl⟩ | ⟨q, hE⟩
  · rw [if_pos q, hold, nI_l (by omega)]
    exact ⟨σ, fin σ Kp.rfl', Kp.rfl'⟩
  · rw [if_neg q]
    obtain ⟨σ', g1, g2⟩ := x_reck hE (f := s * 6) (by omega) (VS_x hV hx hy).1 (VS_x hV hx hy).2
    rw [g1, bnd_s]
    exact ⟨σ', fin σ' g2, g2⟩
def KN (σ σ' : Sta) : Prop := Kp n0 n0 k37 k18 σ σ'
theorem KN_18 (h : Kp n0 n0 n0 k18 σ σ') : KN σ σ' := h.mono (fun _ e => e) (fun _ e => e) (fun _ e => e.elim) (fun _ e => e)
theorem Kx_n (h : KN σ σ') : Kx σ σ' := h.mono (fun _ e => e.elim) (fun _ e => e) (fun k e => by unfold k37 at e; unfold xA; omega) (fun _ e => Or.inl e)
theorem VS_n (h : KN σ σ') {s x y : Nat} (hv : VS σ s x y) : VS σ' s x y := by
  unfold VS
  rw [h.2.2.1 32 (by unfold k37; decide)]
  exact hv
theorem x_next {n s x y x' y' br : Nat} (hn : n < 22) (hP : PF n σ) (hs : s < 100) (hV : VS σ s x y) (hx : x ≤ n) (hy : y < 4) (hbr : br < 64) (h0 : SV σ br 0 x y x x') (h1 : SV σ br 1 x y y y') (hx' : x' ≤ n) (hy' : y' ≤ 3) :
    ∃ σ', f_X5_reckonNext (nI s) (nI br) σ = some (1, σ') ∧ KN σ σ' ∧ gA σ' 37 0 = nI x' ∧ gA σ' 37 1 = nI y' := by
  obtain ⟨p1, p2, p3, ⟨q1, q2, q3, q4⟩, -⟩ := hP
  obtain ⟨F, hF⟩ : ∃ k, FU = k + 1 + 1 + 1 := ⟨999999997, rfl⟩
  obtain ⟨σ1, g1, g2⟩ := x_next1 (n := n) (v := 0) (lo := 0) (hi := n) (nn := F + 1 + 1) hs hV (by omega) (by omega) (by decide) hbr p1 hV.1 (by omega) h0 q1 q2 (Nat.zero_le _) hx' (by omega)
  have k1 : KN σ (sA σ1 37 (upd (gA σ1 37) 0 (nI x'))) := Kp.sA rfl (KN_18 g2)
  have V1 := VS_n k1 hV
  have a1 : ∀ k, k ≠ 37 → gA (sA σ1 37 (upd (gA σ1 37) 0 (nI x'))) k = gA σ k := fun k hk => k1.2.2.1 k hk
  obtain ⟨σ2, g3, g4⟩ := x_next1 (n := n) (v := 1) (lo := 0) (hi := 3) (nn := F + 1) hs V1 (by omega) (by omega) (by decide) hbr ((k1.1 192 (fun e => e)).trans p1) V1.2 (by omega) (SV_k (Kx_n k1) h1) (by rw [a1 21 (by decide)]; exact q3) (by rw [a1 22 (by decide)]; exact q4) (Nat.zero_le _) hy' (by decide)
  have k2 : KN σ (sA σ2 37 (upd (gA σ2 37) 1 (nI y'))) := Kp.sA rfl (k1.trans (KN_18 g4))
  refine ⟨_, ?_, k2, ?_, ?_⟩
  · unfold f_X5_reckonNext
    rw [show (6 : Int32) = nI 6 from rfl, pk_mul, lt_e, hF, show (0 : Int32) = nI 0 from rfl, g1, g3, f_X5_reckonNext_8, (k2.1 192 (fun e => e)).trans p1, if_pos (nI_le (Nat.le_refl _) (by decide))]
  · show upd (gA σ2 37) 1 (nI y') 0 = _
    rw [upd_at, if_neg (by decide), g4.2.2.1 37 (fun e => e)]
    show upd (gA σ1 37) 0 (nI x') 0 = _
    rw [upd_at, if_pos rfl]
  · show upd (gA σ2 37) 1 (nI y') 1 = _
    rw [upd_at, if_pos rfl]
end XK
