/-! The class's readProgram. -/
/-- the tokens of a list have been read -/
def TL (L : List Tk) (σ : Sta) : Prop := (∀ j, j < L.length → gA σ 11 j = nI (L.getD j (0, 0)).1 ∧ gJ σ 13 j = lN (L.getD j (0, 0)).2 ∧ (L.getD j (0, 0)).1 < 300) ∧ gI σ 67 = nI L.length ∧ L.length ≤ 1501
theorem TL_of {f n : Nat} {an : Bool} {aa b : Nat} {go : Option Nat} {p q bk r3 jp : Nat} {σ : Sta} (h : TKs σ 0 (tok f n an aa b go p q bk r3 jp ++ [(278, 0)])) (h2 : gI σ 67 = nI ((tok f n an aa b go p q bk r3 jp).length + 1)) (h3 : (tok f n an aa b go p q bk r3 jp).length ≤ 1500) : TL (prg f n an aa b go p q bk r3 jp) σ := by
  have hl : (prg f n an aa b go p q bk r3 jp).length = (tok f n an aa b go p q bk r3 jp).length + 1 := by
    rw [← prg_e, List.length_map, List.length_append]
    rfl
  refine ⟨fun j hj => ?_, by rw [hl]; exact h2, by omega⟩
  have := TKs_pk _ 0 h (tok_ok f n an aa b go p q bk r3 jp) j (by rw [List.length_append]; show j < _ + 1; omega)
  rw [Nat.zero_add, prg_e] at this
  exact this
def zI9 : Nat → Prop := fun q => zI q ∨ q = 259
/-- the program has been forgotten -/
def CL (σ : Sta) : Prop := gI σ 192 = 0 ∧ gI σ 197 = 0 ∧ gI σ 202 = 0 ∧ gI σ 201 = -1
def bg (fm : Int32) (σ : Sta) : Sta := sI (sI (sI (sI (sI (sI (sI σ 259 fm) 260 0) 261 (gI σ 67)) 262 0) 263 (-1)) 130 0) 133 0
theorem p_bg {fm : Int32} (h : fm = 0 ∨ fm = 1) (σ : Sta) : f_X1_begin fm σ = some ((), bg fm σ) := by
  unfold f_X1_begin f_X0_clear bg
  rw [if_neg (fun e => e h), lt_e, lt_e, lt_e, lt_e, lt_e, lt_e, lt_e, bnd_s]
  rfl
theorem bg_k (fm : Int32) (σ : Sta) : Kp zI9 n0 zA zJ σ (bg fm σ) := by
  unfold bg
  repeat (first | exact Kp.rfl' | refine Kp.sI (by unfold zI9 zI; omega) ?_)
theorem bg_ag (fm : Int32) (σ : Sta) : AG σ (bg fm σ) := by
  refine ⟨fun k hk => ?_, fun _ _ => rfl, fun _ _ => rfl⟩
  unfold prI at hk
  unfold bg
  repeat rw [gI_sI, if_neg (by omega)]
theorem rp {fm : Int32} {f n : Nat} {an : Bool} {aa b : Nat} {go : Option Nat} {p q bk r3 jp : Nat} {σ : Sta} (hf : fm = 0 ∨ fm = 1) (hT : TL (prg f n an aa b go p q bk r3 jp) σ) (hC : CL σ) (hn : n < 100) (hfn : f ≤ n) (h1 : 1 ≤ p) (h2 : 1 ≤ q) (h3 : 1 ≤ r3) (h4 : p + q + r3 = 100) :
    ∃ C τ, C ≤ 100 ∧ f_X1_readProgram fm σ = some ((), τ) ∧ gI τ 262 = 0 ∧ gI τ 130 = nI C ∧ gI τ 133 = nI (zx go + 11) ∧ AG (uA fm f n go p q r3 σ) τ ∧ Kp zI9 n0 zA zJ σ τ ∧ ∀ e ∈ eA2 n an aa b go bk jp, EQ (vrF fm) τ C (zx go + 11) e.1 e.2 := by
  obtain ⟨t1, t2, t3⟩ := hT
  obtain ⟨c1, c2, c3, c4⟩ := hC
  have hI : IT (fun j => ((prg f n an aa b go p q bk r3 jp).getD j (0, 0)).1) (fun j => ((prg f n an aa b go p q bk r3 jp).getD j (0, 0)).2) (prg f n an aa b go p q bk r3 jp).length fm 0 0 0 (bg fm σ) := ⟨⟨t1, t2, t3, rfl, rfl, t2, rfl, Nat.le_refl _⟩, rfl, rfl⟩
  have hP : PG 0 0 0 (bg fm σ) := ⟨c1, c2, c3, by decide, by decide, by decide⟩
  have hA : FA fm [] [] [] (bg fm σ) := by
    rcases hf with rfl | rfl
    · exact Or.inl ⟨rfl, hP⟩
    · exact Or.inr ⟨rfl, hP, True.intro, True.intro, True.intro⟩
  obtain ⟨C, hc, j, τ, e1, e2, e3, e4, e5, e6, e7⟩ := pr_all hI hA c4 (Sf_of _ 0 (fun j hj => by rw [Nat.zero_add]; exact ⟨rfl, rfl⟩) (Nat.zero_add _)) hn hfn h1 h2 h3 h4
  refine ⟨C, τ, hc, ?_, e3.1.2.2.2.2.2.2.1, e3.2.1, e3.2.2, e4 σ (bg_ag fm σ), (bg_k fm σ).trans (e6.mono (fun k hk => Or.inl hk) (fun _ e => e) (fun _ e => e) (fun _ e => e)), e7⟩
  unfold f_X1_readProgram
  rw [p_bg hf, bnd_s]
  exact e1
