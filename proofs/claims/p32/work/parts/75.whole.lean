/-! The law's program, item by item. -/
section FU'
variable {fm : Int32} {lv lg lc : List Nat} {ρ : Sta}
theorem FA_uM (h : FA fm lv lg lc ρ) (hl : lc.length < 16) (x p q r3 : Nat) : FA fm lv lg (lc ++ [1836021349]) (uM fm (cnt fm lc) x p q r3 ρ) := FA_B (FA_S (FA_B (FA_S (FA_S (FA_B (FA_C h hl _ _ _) _ _ _) _ _ _ _) _ _ _ _) _ _ _) _ _ _ _) _ _ _
theorem FA_uR (h : FA fm lv lg lc ρ) (hl : lc.length < 16) (x : Nat) : FA fm lv lg (lc ++ [1919251316]) (uR fm (cnt fm lc) x ρ) := FA_S (FA_B (FA_C h hl _ _ _) _ _ _) _ _ _ _
theorem FA_uJ (h : FA fm lv lg lc ρ) (hl : lc.length < 16) (x : Nat) : FA fm lv lg (lc ++ [1786080624]) (uJ fm (cnt fm lc) x ρ) := FA_S (FA_B (FA_S (FA_S (FA_B (FA_C h hl _ _ _) _ _ _) _ _ _ _) _ _ _ _) _ _ _) _ _ _ _
end FU'
def cm1 (fm : Int32) : Nat := cnt fm [1836021349]
def cm2 (fm : Int32) : Nat := cnt fm [1836021349, 1919251316]
def uE (fm : Int32) (x p q r3 : Nat) (ρ : Sta) : Sta := uJ fm (cm2 fm) (x + 7) (oG fm (uR fm (cm1 fm) (x + 4) (uM fm (cnt fm []) x p q r3 ρ)) (cnt fm [103, 104]) (lN 119) (-1) (nI (x + 6)))
def eE (n bk jp x : Nat) : List (Nat × List Tk) := [(x, cM n), (x + 1, cM1), (x + 2, cM2), (x + 3, cM3 bk)] ++ ([(x + 4, cR), (x + 5, cR1)] ++ ([(x + 6, cW)] ++ [(x + 7, cJ jp), (x + 8, cJ1 jp), (x + 9, cJ2), (x + 10, cJ3)]))
section PR
variable {K V : Nat → Nat} {M : Nat} {fm : Int32} {t c x : Nat} {σ : Sta}
theorem pr_rest (h : IT K V M fm t c x σ) (hA : FA fm [120, 121] [103, 104] [] σ) (hx : x < 100) (hc : c < 100) {i F n p q bk r3 jp : Nat} (hi : i < 100) (hS : Sf K V M t (iMv n p q bk r3 (iRs (iW (iJp jp [(278, 0)]))))) (h1 : 1 ≤ p) (h2 : 1 ≤ q) (h3 : 1 ≤ r3) (h4 : p + q + r3 = 100) :
    StR K V M fm (vrF fm) (f_X1_readProgram_7 (F + 1 + 1 + 1 + 1) (nI i) σ) c x [(278, 0)] (c + 16 + 6 + 4 + 14) (x + 11) (uE fm x p q r3) (eE n bk jp x) σ := by
  refine pr_step (op1 := uM fm (cnt fm []) x p q r3) (op2 := fun ρ => uJ fm (cm2 fm) (x + 7) (oG fm (uR fm (cm1 fm) (x + 4) ρ) (cnt fm [103, 104]) (lN 119) (-1) (nI (x + 6)))) (es1 := [(x, cM n), (x + 1, cM1), (x + 2, cM2), (x + 3, cM3 bk)]) (es2 := [(x + 4, cR), (x + 5, cR1)] ++ ([(x + 6, cW)] ++ [(x + 7, cJ jp), (x + 8, cJ1 jp), (x + 9, cJ2), (x + 10, cJ3)])) (i := i) (c1 := c + 16) (x1 := x + 4) h (by omega) hS (Or.inr (Or.inr (Or.inr ⟨rfl, rfl⟩))) (st_move h hA (by omega) (by omega) hS h1 h2 h3 h4) (by decide) (by omega) (by omega) (by omega) (by omega) (fun j1 σ1 s1 i1 ag1 => ?_)
  have a1 := ag1 σ AG.rfl'
  have A1 := FA_uM hA (by decide) x p q r3
  have B1 := FA_ag a1 A1
  refine pr_step (op1 := uR fm (cm1 fm) (x + 4)) (op2 := fun ρ => uJ fm (cm2 fm) (x + 7) (oG fm ρ (cnt fm [103, 104]) (lN 119) (-1) (nI (x + 6)))) (es1 := [(x + 4, cR), (x + 5, cR1)]) (es2 := [(x + 6, cW)] ++ [(x + 7, cJ jp), (x + 8, cJ1 jp), (x + 9, cJ2), (x + 10, cJ3)]) (i := i + 1) (c1 := c + 16 + 6) (x1 := x + 6) i1 (by omega) s1 (Or.inr (Or.inr (Or.inr ⟨rfl, rfl⟩))) (st_rest i1 B1 (by omega) (by omega) s1) (by decide) (by omega) (by omega) (by omega) (by omega) (fun j2 σ2 s2 i2 ag2 => ?_)
  have a2 := ag2 _ a1
  have A2' := FA_uR A1 (by decide) (x + 4)
  have B2 := FA_ag a2 A2'
  refine pr_step (op1 := fun ρ => oG fm ρ (cnt fm [103, 104]) (lN 119) (-1) (nI (x + 6))) (op2 := uJ fm (cm2 fm) (x + 7)) (es1 := [(x + 6, cW)]) (es2 := [(x + 7, cJ jp), (x + 8, cJ1 jp), (x + 9, cJ2), (x + 10, cJ3)]) (i := i + 1 + 1) (c1 := c + 16 + 6 + 4) (x1 := x + 7) i2 (by omega) s2 (Or.inr (Or.inl ⟨rfl, rfl⟩)) (st_gain i2 B2 (by omega) s2 (cW_e _) (fun e => nomatch e) (by show c + 16 + 6 + 4 ≤ 1400; omega) (by simp only [List.length_cons]; omega) (by decide) (by decide) rfl rfl rfl) (by decide) (by omega) (by omega) (by omega) (by omega) (fun j3 σ3 s3 i3 ag3 => ?_)
  have a3 := ag3 _ a2
  have A3 := FA_G A2' (by decide) 119 (-1) (nI (x + 6))
  have B3 := FA_ag a3 A3
  refine pr_last (i := i + 1 + 1 + 1) i3 (by omega) s3 (Or.inr (Or.inr (Or.inr ⟨rfl, rfl⟩))) (st_jump i3 B3 (by omega) (by omega) s3) (fun τ hτ => ?_)
  have B4 := FA_PG (FA_ag (hτ _ a3) (FA_uJ A3 (by decide) (x + 7)))
  rcases FA_01 hA with rfl | rfl
  · exact Or.inl rfl
  · refine Or.inr ⟨?_, ?_⟩
    · rw [B4.1]
      decide
    · rw [B4.2.2.1]
      decide
end PR
