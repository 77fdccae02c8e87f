/-! Brackets and factors: the form. -/
def mB1 (E : Sta → Option ((Unit ⊕ (Int32 × Int32)) × Sta)) (τ : Sta) : Option ((Unit ⊕ (Int32 × Int32)) × Sta) := bnw (f_X10_open τ) (fun _ τ1 => bnw (E τ1) (fun _ τ2 => f_X10_close τ2))
def mB2 (E : Sta → Option ((Unit ⊕ (Int32 × Int32)) × Sta)) (τ : Sta) : Option ((Unit ⊕ (Int32 × Int32)) × Sta) := bnw (f_X10_open τ) (fun _ τ1 => bnw (E τ1) (fun _ τ2 => bnw (f_X10_take_ 104 τ2) (fun _ τ3 => bnw (E τ3) (fun _ τ4 => f_X10_close τ4))))
theorem bnw_a {α β γ : Type} (a : Option ((α ⊕ (Int32 × Int32)) × Sta)) (f : α → Sta → Option ((β ⊕ (Int32 × Int32)) × Sta)) (g : β → Sta → Option ((γ ⊕ (Int32 × Int32)) × Sta)) : bnw (bnw a f) g = bnw a (fun x σ => bnw (f x σ) g) := by
  cases a with
  | none => rfl
  | some p =>
    obtain ⟨r, σ⟩ := p
    cases r <;> rfl
theorem mB1_k (E : Sta → Option ((Unit ⊕ (Int32 × Int32)) × Sta)) (τ : Sta) (g : Unit → Sta → Option ((Unit ⊕ (Int32 × Int32)) × Sta)) : bnw (mB1 E τ) g = bnw (f_X10_open τ) (fun _ τ1 => bnw (E τ1) (fun _ τ2 => bnw (f_X10_close τ2) g)) := by
  unfold mB1
  rw [bnw_a]
  refine congrArg _ (funext fun _ => funext fun τ1 => ?_)
  rw [bnw_a]
theorem mB2_k (E : Sta → Option ((Unit ⊕ (Int32 × Int32)) × Sta)) (τ : Sta) (g : Unit → Sta → Option ((Unit ⊕ (Int32 × Int32)) × Sta)) : bnw (mB2 E τ) g = bnw (f_X10_open τ) (fun _ τ1 => bnw (E τ1) (fun _ τ2 => bnw (f_X10_take_ 104 τ2) (fun _ τ3 => bnw (E τ3) (fun _ τ4 => bnw (f_X10_close τ4) g)))) := by
  unfold mB2
  rw [bnw_a]
  refine congrArg _ (funext fun _ => funext fun τ1 => ?_)
  rw [bnw_a]
  refine congrArg _ (funext fun _ => funext fun τ2 => ?_)
  rw [bnw_a]
  refine congrArg _ (funext fun _ => funext fun τ3 => ?_)
  rw [bnw_a]
section FF
variable {K : Nat → Nat} {m c L d : Nat}
theorem SF_at {σ : Sta} (h : SF σ) (x : Int32) : SF (sI σ 260 x) := h
theorem SF_er {σ : Sta} (h : SF σ) (e : Int32) (t : Nat) : SF (erC σ e t) := h
theorem f_br {n : Nat} {E : Sta → Option ((Unit ⊕ (Int32 × Int32)) × Sta)} (hd : d ≤ 8) (hn : d < 8 → 7 ≤ n)
    (HE : d < 8 → ∀ t σ τ, BX K m c L t (d + 1) σ τ → SF σ → gI τ 30 = 0 → RES K m c L n 0 (d + 1) t σ τ ((fr_X1R n).1 (nI 0) (nI (d + 1)) σ) (E τ)) {t : Nat} {σ τ : Sta} (hB : BX K m c L t d σ τ) (hS : SF σ) (h30 : gI τ 30 = 0) :
    RES K m c L (n + 1) 7 d t σ τ ((fr_X1R (n + 1)).2.2 (nI 1) (nI d) σ) (mB1 E τ) ∧ RES K m c L (n + 1) 8 d t σ τ ((fr_X1R (n + 1)).2.2 (nI 2) (nI d) σ) (mB2 E τ) := by
  have hm := hB.1.1
  have hC : ∀ x, (fr_X1R (n + 1)).2.2 x (nI d) σ = bnd (f_X1_acceptDeeper 40 (nI d) σ) (fun r1 σ2 => if r1 = 0 then some ((), σ2) else bnd ((fr_X1R n).1 (nI 0) (nI d + 1) σ2) (fun _ σ6 => f_X1_readBracket_20 (fr_X1R n).1 (fr_X1R n).2.1 (fr_X1R n).2.2 FU x (nI d) 1 σ6)) := fun x => rfl
  rw [hC, hC]
  unfold mB1 mB2
  rcases f_open hB hd with ⟨o1, o2, o3, o4, τ1, o5, o6, o7⟩ | ⟨o1, τ1, o2, o3⟩
  · have h31 := (Kg_30 o6).trans h30
    rw [o4, bnd_s, bnd_s, ite10, ite10, o5, bnw_l, bnw_l, nI_1]
    rcases HE o3 (t + 1) _ _ o7 (SF_at hS _) h31 with ⟨σ2, τ2, t2, a1, a2, a3, a4, a5, a6, a7, a8⟩ | ⟨σ2, τ2, p, a1, a2, a3, a4, a5, a6⟩
    · have h32 := (Kg_30 a5).trans h31
      have e1 : f_X1_readBracket_20 (fr_X1R n).1 (fr_X1R n).2.1 (fr_X1R n).2.2 FU (nI 1) (nI d) 1 σ2 = bnd (f_X1_expect 41 σ2) (fun _ σ3 => some ((), σ3)) := by
        rw [show FU = 999999999 + 1 from rfl, f_X1_readBracket_20, if_pos (by decide)]
        rfl
      have e2 : f_X1_readBracket_20 (fr_X1R n).1 (fr_X1R n).2.1 (fr_X1R n).2.2 FU (nI 2) (nI d) 1 σ2 = bnd (f_X1_expect 44 σ2) (fun _ σ6 => bnd ((fr_X1R n).1 (nI 0) (nI (d + 1)) σ6) (fun _ σ9 => bnd (f_X1_expect 41 σ9) (fun _ σ3 => some ((), σ3)))) := by
        rw [show FU = 999999998 + 1 + 1 from rfl, f_X1_readBracket_20, if_neg (by decide)]
        refine congrArg _ (funext fun _ => funext fun σ6 => ?_)
        rw [nI_1]
        refine congrArg _ (funext fun _ => funext fun σ9 => ?_)
        rw [lt_e, f_X1_readBracket_20, if_pos (by decide)]
        rfl
      rw [a1, bnd_s, bnd_s, a2, bnw_l, bnw_l, e1, e2]
      refine ⟨?_, ?_⟩
      · rcases f_close a7 with ⟨b1, b2, b3, τ3, b4, b5, b6⟩ | ⟨b1, b2⟩
        · refine Or.inl ⟨_, τ3, t2 + 1, by rw [b3, bnd_s], b4, SF_at a3 _, Kp.trans (Ke_at _ _) (Kp.trans a4 (Ke_at _ _)), Kp.trans o6 (Kp.trans a5 b5), by omega, b6, ?_⟩
          exact ⟨o1, o2, o3, t2, a8, b2, Or.inl ⟨rfl, b1, rfl⟩⟩
        · exact Or.inr ⟨_, _, _, by rw [b1, bnd_s], b2, SF_er a3 _ _, Kp.trans (Ke_at _ _) (Kp.trans a4 (Ke_er _ _ _)), Kp.trans o6 a5, Or.inl ⟨rfl, rfl⟩⟩
      · rcases f_exp (k0 := 104) a7 (Or.inr (Or.inl ⟨by decide, by decide⟩)) (by decide) (by decide) 44 104 rfl rfl with ⟨b1, b2, b3, b4, b5⟩ | ⟨b1, b2, b3⟩
        · have hf2 : Kg τ2 (tkM τ2 L t2) := Kg_take Kp.rfl'
          have h33 := (Kg_30 hf2).trans h32
          rw [b3, bnd_s, b4, bnw_l]
          rcases HE o3 (t2 + 1) _ _ b5 (SF_at a3 _) h33 with ⟨σ4, τ4, t4, c1, c2, c3, c4, c5, c6, c7, c8⟩ | ⟨σ4, τ4, p, c1, c2, c3, c4, c5, c6⟩
          · rw [c1, bnd_s, c2, bnw_l]
            rcases f_close c7 with ⟨d1, d2, d3, τ5, d4, d5, d6⟩ | ⟨d1, d2⟩
            · refine Or.inl ⟨_, τ5, t4 + 1, by rw [d3, bnd_s], d4, SF_at c3 _, Kp.trans (Ke_at _ _) (Kp.trans a4 (Kp.trans (Ke_at _ _) (Kp.trans c4 (Ke_at _ _)))), Kp.trans o6 (Kp.trans a5 (Kp.trans hf2 (Kp.trans c5 d5))), by omega, d6, ?_⟩
              exact ⟨o1, o2, o3, t2, a8, b2, Or.inr ⟨rfl, b1, t4, c8, d2, d1, rfl⟩⟩
            · exact Or.inr ⟨_, _, _, by rw [d1, bnd_s], d2, SF_er c3 _ _, Kp.trans (Ke_at _ _) (Kp.trans a4 (Kp.trans (Ke_at _ _) (Kp.trans c4 (Ke_er _ _ _)))), Kp.trans o6 (Kp.trans a5 (Kp.trans hf2 c5)), Or.inl ⟨rfl, rfl⟩⟩
          · obtain ⟨r, σ5, d1, d2, d3, d4, d5⟩ := DD_exp hm c6 (a := 41) (by decide)
            exact Or.inr ⟨σ5, τ4, p, by rw [c1, bnd_s, d1, bnd_s], by rw [c2, bnw_r], d5 c3, Kp.trans (Ke_at _ _) (Kp.trans a4 (Kp.trans (Ke_at _ _) (Kp.trans c4 d4))), Kp.trans o6 (Kp.trans a5 (Kp.trans hf2 c5)), Or.inl ⟨d2, d3⟩⟩
        · have hne : gI (erC σ2 1 t2) 262 ≠ 0 := by
            show (1 : Int32) ≠ 0
            decide
          refine Or.inr ⟨erC σ2 1 t2, τ2, gA σ2 12 t2, ?_, by rw [b3, bnw_r], SF_er a3 _ _, Kp.trans (Ke_at _ _) (Kp.trans a4 (Ke_er _ _ _)), Kp.trans o6 a5, Or.inl ⟨rfl, rfl⟩⟩
          rw [b2, bnd_s, k_lev n 0 (nI (d + 1)) _ hne (by have := hn o3; omega) (by decide), bnd_s, exp_sk hne (by decide), bnd_s]
    · have e1 : ∀ x, (x = nI 1 ∨ x = nI 2) → ∃ σ3, f_X1_readBracket_20 (fr_X1R n).1 (fr_X1R n).2.1 (fr_X1R n).2.2 FU x (nI d) 1 σ2 = some ((), σ3) ∧ SF σ3 ∧ Ke σ2 σ3 ∧ gI σ3 262 = 1 ∧ gI σ3 263 = p := fun x hx => by
        rcases hx with rfl | rfl
        · obtain ⟨r, σ5, d1, d2, d3, d4, d5⟩ := DD_exp hm a6 (a := 41) (by decide)
          refine ⟨σ5, ?_, d5 a3, d4, d2, d3⟩
          rw [show FU = 999999999 + 1 from rfl, f_X1_readBracket_20, if_pos (by decide), d1, bnd_s]
          rfl
        · obtain ⟨r, σ5, d1, d2, d3, d4, d5⟩ := DD_exp hm a6 (a := 44) (by decide)
          have hne : gI σ5 262 ≠ 0 := by rw [d2]; decide
          refine ⟨σ5, ?_, d5 a3, d4, d2, d3⟩
          rw [show FU = 999999998 + 1 + 1 from rfl, f_X1_readBracket_20, if_neg (by decide), d1, bnd_s, nI_1, show (fr_X1R n).1 0 (nI (d + 1)) σ5 = some ((), σ5) from k_lev n 0 (nI (d + 1)) _ hne (by have := hn o3; omega) (by decide), bnd_s, lt_e, f_X1_readBracket_20, if_pos (by decide), exp_sk hne (by decide), bnd_s]
          rfl
      obtain ⟨σ3, x1, x2, x3, x4, x5⟩ := e1 (nI 1) (Or.inl rfl)
      obtain ⟨σ4, y1, y2, y3, y4, y5⟩ := e1 (nI 2) (Or.inr rfl)
      rw [a1, bnd_s, bnd_s, a2, bnw_r, bnw_r, x1, y1]
      exact ⟨Or.inr ⟨σ3, τ2, p, rfl, rfl, x2, Kp.trans (Ke_at _ _) (Kp.trans a4 x3), Kp.trans o6 a5, Or.inl ⟨x4, x5⟩⟩, Or.inr ⟨σ4, τ2, p, rfl, rfl, y2, Kp.trans (Ke_at _ _) (Kp.trans a4 y3), Kp.trans o6 a5, Or.inl ⟨y4, y5⟩⟩⟩
  · rw [o1, bnd_s, bnd_s, ite00, ite00, o2, bnw_r, bnw_r]
    exact ⟨Or.inr ⟨_, τ1, _, rfl, rfl, SF_er hS _ _, Ke_er _ _ _, o3, Or.inl ⟨rfl, rfl⟩⟩, Or.inr ⟨_, τ1, _, rfl, rfl, SF_er hS _ _, Ke_er _ _ _, o3, Or.inl ⟨rfl, rfl⟩⟩⟩
end FF
