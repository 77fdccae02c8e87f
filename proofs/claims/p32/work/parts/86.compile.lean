/-! The compiled program as a world, and the call compile. -/
def pcs (p q r3 k b : Nat) : Nat := if k = 0 then (if b = 0 then p else if b = 1 then q else r3) else if k = 1 then 100 else 50
def wOf (ns p q r3 : Nat) (τ : Sta) : AW := (ns, 3, 2, fun s => if gA τ 33 s < 0 then 0 else (gA τ 33 s).toNatClampNeg, fun s => decide (gA τ 33 s < 0), fun s c => (gA τ 34 (s * 16 + c)).toNatClampNeg, fun s c b => (gA τ 35 ((s * 16 + c) * 4 + b)).toNatClampNeg, nb, pcs p q r3, fun s c g => if gA τ 24 g < 0 then gJ τ 36 (s * 3 + g) else if gA τ 24 g = gA τ 34 (s * 16 + c) then gJ τ 36 (s * 3 + g) else 0, fun s v => gA τ 32 (s * 6 + v))
section WO
variable {n ns p q r3 : Nat} {τ : Sta}
theorem w_ch {s : Nat} (h : DN s ns τ) : (gA τ 33 s = -1 ∧ aGl (wOf ns p q r3 τ) s = true ∧ aCh (wOf ns p q r3 τ) s = 0) ∨ ∃ ch, ch ≤ 3 ∧ gA τ 33 s = nI ch ∧ aGl (wOf ns p q r3 τ) s = false ∧ aCh (wOf ns p q r3 τ) s = ch ∧ CH s ch ns τ := by
  rcases h with e | ⟨ch, a, b, c⟩
  · refine Or.inl ⟨e, ?_, ?_⟩
    · show decide (gA τ 33 s < 0) = true
      rw [e]
      rfl
    · show (if gA τ 33 s < 0 then 0 else (gA τ 33 s).toNatClampNeg) = 0
      rw [e, if_pos (by decide)]
  · refine Or.inr ⟨ch, a, b, ?_, ?_, c⟩
    · show decide (gA τ 33 s < 0) = false
      rw [b]
      exact decide_eq_false (nI_pos (by omega))
    · show (if gA τ 33 s < 0 then 0 else (gA τ 33 s).toNatClampNeg) = ch
      rw [b, if_neg (nI_pos (by omega)), nI_clamp (by omega)]
theorem w_at {s c : Nat} (h : DN s ns τ) (hc : c < aCh (wOf ns p q r3 τ) s) (hns : ns ≤ 100) : ∃ k, k < 3 ∧ gA τ 34 (s * 16 + c) = nI k ∧ aCm (wOf ns p q r3 τ) s c = k ∧ ∀ b, b < nb k → aTg (wOf ns p q r3 τ) s c b < ns ∧ gA τ 35 ((s * 16 + c) * 4 + b) = nI (aTg (wOf ns p q r3 τ) s c b) := by
  rcases w_ch (p := p) (q := q) (r3 := r3) h with ⟨-, -, e⟩ | ⟨ch, a, b, d, e, g⟩
  · rw [e] at hc
    exact absurd hc (Nat.not_lt_zero _)
  · rw [e] at hc
    obtain ⟨k, k1, k2, k3⟩ := g c hc
    refine ⟨k, k1, k2, ?_, fun b' hb => ?_⟩
    · show (gA τ 34 (s * 16 + c)).toNatClampNeg = k
      rw [k2, nI_clamp (by omega)]
    · obtain ⟨t, t1, t2⟩ := k3 b' hb
      have et : aTg (wOf ns p q r3 τ) s c b' = t := by
        show (gA τ 35 ((s * 16 + c) * 4 + b')).toNatClampNeg = t
        rw [t2, nI_clamp (by omega)]
      rw [et]
      exact ⟨t1, t2⟩
theorem pcs_sum (h : p + q + r3 = 100) {k : Nat} (hk : k < 3) : aAccN (pcs p q r3 k) (nb k) 0 0 = 100 := by
  rcases (by omega : k = 0 ∨ k = 1 ∨ k = 2) with rfl | rfl | rfl
  · show 0 + p + q + r3 = 100
    omega
  · rfl
  · rfl
theorem pcs_le (h : p + q + r3 = 100) (k b : Nat) : pcs p q r3 k b ≤ 100 := by
  unfold pcs
  split
  · split
    · omega
    · split <;> omega
  · split <;> omega
theorem w_ok (hns : ns ≤ 88) (h4 : p + q + r3 = 100) (hD : ∀ j, j < ns → DN j ns τ) : AWok (wOf ns p q r3 τ) := by
  refine ⟨Nat.le_trans hns (by decide), Nat.le_refl _, (by decide : 2 ≤ 6), fun s hs => ?_, fun s c hs hc => ?_⟩
  · rcases w_ch (p := p) (q := q) (r3 := r3) (hD s hs) with ⟨-, -, e⟩ | ⟨ch, a, b, d, e, g⟩
    · rw [e]
      exact ⟨by decide, fun _ => rfl⟩
    · rw [e, d]
      exact ⟨by omega, fun h => nomatch h⟩
  · obtain ⟨k, k1, k2, k3, k4⟩ := w_at (hD s hs) hc (by omega)
    rw [k3]
    exact ⟨by omega, nb_4 k, fun b hb => ⟨(k4 b hb).1, pcs_le h4 k b⟩, pcs_sum h4 k1⟩
theorem w_ac (hns : ns ≤ 88) (hE : gI τ 322 = nI ns) (hP : PF n τ) (hD : ∀ j, j < ns → DN j ns τ) (h30 : ∀ k b, k < 3 → b < nb k → gA τ 30 (k * 4 + b) = nI (pcs p q r3 k b)) : AC (wOf ns p q r3 τ) τ := by
  refine ⟨hE, hP.2.1, hP.1, fun s hs => ?_, fun s c hs hc => ?_, fun s v _ _ => rfl⟩
  · rcases w_ch (p := p) (q := q) (r3 := r3) (hD s hs) with ⟨e1, e2, e⟩ | ⟨ch, a, b, d, e, g⟩
    · rw [e2, if_pos rfl]
      exact e1
    · rw [d, e, if_neg (fun e => nomatch e)]
      exact b
  · obtain ⟨k, k1, k2, k3, k4⟩ := w_at (p := p) (q := q) (r3 := r3) (hD s hs) hc (by omega)
    rw [k3]
    refine ⟨k2, (hP.2.2.2.2.2.2 k k1).1, fun b hb => ⟨h30 k b k1 hb, (k4 b hb).2⟩, fun g hg => ?_⟩
    have eg : aGn (wOf ns p q r3 τ) s c g = if gA τ 24 g < 0 then gJ τ 36 (s * 3 + g) else if gA τ 24 g = gA τ 34 (s * 16 + c) then gJ τ 36 (s * 3 + g) else 0 := rfl
    by_cases q1 : gA τ 24 g < 0
    · rw [if_pos q1] at eg
      exact Or.inl ⟨q1, eg.symm⟩
    · rw [if_neg q1, k2] at eg
      by_cases q2 : gA τ 24 g = nI k
      · rw [if_pos q2] at eg
        exact Or.inr (Or.inl ⟨q1, q2, eg.symm⟩)
      · rw [if_neg q2] at eg
        exact Or.inr (Or.inr ⟨q1, q2, eg⟩)
end WO
def cpI : Nat → Prop := fun q => q < 2000
def cpA : Nat → Prop := fun q => q < 41
theorem tok_len (f n : Nat) (an : Bool) (aa b : Nat) (go : Option Nat) (p q bk r3 jp : Nat) : (tok f n an aa b go p q bk r3 jp).length ≤ 1500 := by
  cases an <;> cases go <;> exact Nat.le_of_ble_eq_true rfl
theorem e_forget (σ : Sta) : ∃ σ', f_X8_forgetProgram σ = some ((), σ') ∧ CL σ' ∧ gI σ' 11 = 0 ∧ gI σ' 1 = gI σ 1 ∧ gA σ' 8 = gA σ 8 ∧ Kp cpI n0 cpA cpA σ σ' := by
  have e1 := e_fillJ (q := 40) (N := 3) (v := 0) (by decide) (sI (sI (sI (sI (sI (sI σ 192 0) 197 0) 202 0) 201 (-1)) 322 0) 450 0)
  have e2 := e_fillA (q := 9) (N := 3) (v := 0) (by decide) (sI (fillJ (sI (sI (sI (sI (sI (sI σ 192 0) 197 0) 202 0) 201 (-1)) 322 0) 450 0) 40 0 3 (fun _ => 0)) 11 0)
  refine ⟨fillA (sI (fillJ (sI (sI (sI (sI (sI (sI σ 192 0) 197 0) 202 0) 201 (-1)) 322 0) 450 0) 40 0 3 (fun _ => 0)) 11 0) 9 0 3 (fun _ => 0), ?_, ⟨rfl, rfl, rfl, rfl⟩, rfl, rfl, rfl, ?_⟩
  · unfold f_X8_forgetProgram f_X4_clear f_X5_clear f_X3_clear
    rw [lt_e, lt_e, lt_e, lt_e, bnd_s, lt_e, bnd_s, lt_e, e1, bnd_s, bnd_s, lt_e, e2, bnd_s]
  · exact Kp.sA (by unfold cpA; omega) (Kp.sI (by unfold cpI; omega) (Kp.sJ (by unfold cpA; omega) (Kp.sI (by unfold cpI; omega) (Kp.sI (by unfold cpI; omega) (Kp.sI (by unfold cpI; omega) (Kp.sI (by unfold cpI; omega) (Kp.sI (by unfold cpI; omega) (Kp.sI (by unfold cpI; omega) Kp.rfl'))))))))
theorem cp_t {σ σ' : Sta} (h : KtC σ σ') : Kp cpI n0 cpA cpA σ σ' := h.mono (fun k e => by unfold kt67 at e; unfold cpI; omega) (fun _ e => e) (fun k e => by unfold kt11 at e; unfold cpA; omega) (fun k e => by unfold kt13 at e; unfold cpA; omega)
theorem cp_9 {σ σ' : Sta} (h : Kp zI9 n0 zA zJ σ σ') : Kp cpI n0 cpA cpA σ σ' := h.mono (fun k e => by unfold zI9 zI at e; unfold cpI; omega) (fun _ e => e) (fun k e => by unfold zA at e; unfold cpA; omega) (fun k e => by unfold zJ at e; unfold cpA; omega)
theorem cp_x {σ σ' : Sta} (h : Kx σ σ') : Kp cpI n0 cpA cpA σ σ' := h.mono (fun k e => by unfold xI at e; unfold cpI; omega) (fun _ e => e) (fun k e => by unfold xA at e; unfold cpA; omega) (fun k e => by unfold xJ at e; unfold cpA; omega)
theorem TL_k {L : List Tk} {σ σ' : Sta} (h : TL L σ) (hk : Kp zI9 n0 zA zJ σ σ') : TL L σ' := by
  unfold TL
  rw [hk.2.2.1 11 (by unfold zA; omega), hk.2.2.2.1 13 (by unfold zJ; omega), hk.1 67 (by unfold zI9 zI; omega)]
  exact h
theorem e_compile {f n : Nat} {an : Bool} {aa b : Nat} {go : Option Nat} {p q bk r3 jp tl : Nat} {B : Nat → Nat} {σ : Sta} (htl : tl ≤ 1500) (h1 : gI σ 1 = nI tl) (hB : AtB B tl 0 (txt f n an aa b go p q bk r3 jp)) (hT : TB1 tl B σ)
    (hn : n < 22) (hf : f ≤ n) (ha : aa < 100) (hb : b < 100) (hg : ∀ g, go = some g → g < 100) (p1 : 1 ≤ p) (q1 : 1 ≤ q) (r1 : 1 ≤ r3) (h4 : p + q + r3 = 100) (hbk : bk < 6) (hjp : jp < 22) :
    ∃ σ' w, f_X8_compile σ = some (0, σ') ∧ AWok w ∧ AC w σ' ∧ 0 < aNs w ∧ aNs w ≤ 88 ∧ aNg w = 3 ∧ gI σ' 11 = 0 ∧ Kp cpI n0 cpA cpA σ σ' := by
  obtain ⟨σ1, f1, f2, f3, f4, f5, f6⟩ := e_forget σ
  have T1 : TB1 tl B σ1 := by
    unfold TB1
    rw [f5]
    exact hT
  obtain ⟨σ2, t1, t2, t3, t4⟩ := e_readT htl hB T1
  rw [tok_e (by omega) (by omega) ha hb hg (by omega) (by omega) (by omega) (by omega) (by omega)] at t3 t4
  have L2 := TL_of t4 t3 (tok_len f n an aa b go p q bk r3 jp)
  have C2 : CL (sI σ2 1 0) := by
    obtain ⟨c1, c2, c3, c4⟩ := f2
    refine ⟨?_, ?_, ?_, ?_⟩
    · exact (t2.1 192 (by unfold kt67; omega)).trans c1
    · exact (t2.1 197 (by unfold kt67; omega)).trans c2
    · exact (t2.1 202 (by unfold kt67; omega)).trans c3
    · exact (t2.1 201 (by unfold kt67; omega)).trans c4
  have L3 : TL (prg f n an aa b go p q bk r3 jp) (sI σ2 1 0) := L2
  obtain ⟨Ca, σ3, a1, a2, a3, a4, a5, a6, a7, a8⟩ := rp (fm := 0) (Or.inl rfl) L3 C2 (by omega) hf p1 q1 r1 h4
  have A3 : AG (sI σ2 1 0) σ3 := by
    have e : uA 0 f n go p q r3 (sI σ2 1 0) = sI σ2 1 0 := by cases go <;> rfl
    rw [e] at a6
    exact a6
  have C3 : CL σ3 := by
    obtain ⟨c1, c2, c3, c4⟩ := C2
    exact ⟨(A3.1 192 (by unfold prI; omega)).trans c1, (A3.1 197 (by unfold prI; omega)).trans c2, (A3.1 202 (by unfold prI; omega)).trans c3, (A3.1 201 (by unfold prI; omega)).trans c4⟩
  obtain ⟨Cb, σ4, b1, b2, b3, b4, b5, b6, b7, b8⟩ := rp (fm := 1) (Or.inr rfl) (TL_k L3 a7) C3 (by omega) hf p1 q1 r1 h4
  have hP4 := pf hn hbk hjp C3.2.2.2 b6 b1 b5 b8
  -- the place of the error
  have k5 : Kp (fun q => q = 12) n0 n0 n0 σ4 (sI σ4 12 (gI σ4 263)) := Kp.sI rfl Kp.rfl'
  have A5 : AG (uA 1 f n go p q r3 σ3) (sI σ4 12 (gI σ4 263)) := ⟨fun k hk => (k5.1 k (fun e => by unfold prI at hk; omega)).trans (b6.1 k hk), b6.2.1, b6.2.2⟩
  have hP5 : PF n (sI σ4 12 (gI σ4 263)) := pf hn hbk hjp C3.2.2.2 A5 b1 (by show gI σ4 133 = _; exact b5) (fun e he => (b8 e he).keep ⟨fun _ _ => ⟨rfl, rfl⟩, fun _ _ => ⟨rfl, rfl⟩⟩ (Nat.le_refl _) (Nat.le_refl _))
  have u20 := uA_20 f n go p q r3 σ3
  rw [← A5.2.1 20 (by unfold prA; omega)] at u20
  obtain ⟨ns, σ6, x1, x2, x3, x4, x5, x6⟩ := x_explore hn hP5 u20.1 u20.2 hf
  have h88 := ES_le hn x3
  have u30 := uA_30 f n go p q r3 σ3
  rw [← A5.2.1 30 (by unfold prA; omega), ← x4.2.2.1 30 (by unfold xA; omega)] at u30
  have hDN : ∀ j, j < ns → DN j ns (sI σ6 12 (gI σ6 330)) := x6
  have A6 : AG (uA 1 f n go p q r3 σ3) (sI σ6 12 (gI σ6 330)) := ⟨fun k hk => by
    rw [gI_sI, if_neg (by unfold prI at hk; omega), x4.1 k (by unfold prI at hk; unfold xI; omega)]
    exact A5.1 k hk, fun k hk => by
    rw [gA_sI, x4.2.2.1 k (by unfold prA at hk; unfold xA; omega)]
    exact A5.2.1 k hk, fun k hk => by
    rw [gJ_sI, x4.2.2.2.1 k (by unfold prJ at hk; unfold xJ; omega)]
    exact A5.2.2 k hk⟩
  have hPF : PF n (sI σ6 12 (gI σ6 330)) := pf hn hbk hjp C3.2.2.2 A6 b1 (by
    show gI σ6 133 = _
    rw [x4.1 133 (by unfold xI; omega)]
    exact b5) (fun e he => (b8 e he).keep ⟨fun j _ => by
      rw [gA_sI, gJ_sI, x4.2.2.1 14 (by unfold xA; omega), x4.2.2.2.1 15 (by unfold xJ; omega)]
      exact ⟨rfl, rfl⟩, fun j _ => by
      rw [gA_sI, gA_sI, x4.2.2.1 16 (by unfold xA; omega), x4.2.2.1 17 (by unfold xA; omega)]
      exact ⟨rfl, rfl⟩⟩ (Nat.le_refl _) (Nat.le_refl _))
  have hAC := w_ac (p := p) (q := q) (r3 := r3) (τ := sI σ6 12 (gI σ6 330)) h88 x3.1 hPF hDN (fun k b hk hb => by
    show gA σ6 30 (k * 4 + b) = _
    rcases (by omega : k = 0 ∨ k = 1 ∨ k = 2) with rfl | rfl | rfl
    · have hb' : b < 3 := hb
      rcases (by omega : b = 0 ∨ b = 1 ∨ b = 2) with rfl | rfl | rfl
      · exact u30.1
      · exact u30.2.1
      · exact u30.2.2.1
    · have hb' : b < 1 := hb
      obtain rfl : b = 0 := by omega
      exact u30.2.2.2.1
    · have hb' : b < 2 := hb
      rcases (by omega : b = 0 ∨ b = 1) with rfl | rfl
      · exact u30.2.2.2.2.1
      · exact u30.2.2.2.2.2)
  refine ⟨sI σ6 12 (gI σ6 330), wOf ns p q r3 (sI σ6 12 (gI σ6 330)), ?_, w_ok h88 h4 hDN, hAC, x2, h88, rfl, ?_, ?_⟩
  · unfold f_X8_compile f_X8_compile_50 f_X8_compile_92 f_X8_compile_100
    rw [f1, bnd_s, f4, h1, t1, bnd_s, lt_e, a2, bnd_s, if_pos a3, b2, bnd_s, lt_e, lt_e, b3, if_pos rfl, x1, bnd_s, lt_e, if_pos rfl]
  · show gI σ6 11 = 0
    rw [x4.1 11 (by unfold xI; omega)]
    show gI σ4 11 = 0
    rw [b7.1 11 (by unfold zI9 zI; omega), a7.1 11 (by unfold zI9 zI; omega)]
    show gI σ2 11 = 0
    rw [t2.1 11 (by unfold kt67; omega)]
    exact f3
  · exact Kp.sI (by unfold cpI; omega) ((((f6.trans (cp_t t2)).trans ((Kp.sI (by unfold cpI; omega) Kp.rfl' : Kp cpI n0 cpA cpA σ2 (sI σ2 1 0)).trans (cp_9 a7))).trans (cp_9 b7)).trans ((Kp.sI (by unfold cpI; omega) Kp.rfl' : Kp cpI n0 cpA cpA σ4 (sI σ4 12 (gI σ4 263))).trans (cp_x x4)))
