/-! The three commands of the law's program. -/
def uM (fm : Int32) (k x p q r3 : Nat) (ρ : Sta) : Sta := oB fm (oS fm (oB fm (oS fm (oS fm (oB fm (oC fm ρ k (lN 1836021349) 0 (nI x)) k 0 (nI p)) k 0 0 (nI (x + 1))) k 0 1 (nI (x + 1 + 1))) k 1 (nI q)) k 1 0 (nI (x + 1 + 1 + 1))) k 2 (nI r3)
def uR (fm : Int32) (k x : Nat) (ρ : Sta) : Sta := oS fm (oB fm (oC fm ρ k (lN 1919251316) 0 (nI x)) k 0 (nI 100)) k 0 1 (nI (x + 1))
def uJ (fm : Int32) (k x : Nat) (ρ : Sta) : Sta := oS fm (oB fm (oS fm (oS fm (oB fm (oC fm ρ k (lN 1786080624) 0 (nI x)) k 0 (nI 50)) k 0 0 (nI (x + 1))) k 0 1 (nI (x + 1 + 1))) k 1 (nI 50)) k 1 1 (nI (x + 1 + 1 + 1))
theorem ch_ok {fm : Int32} {k b : Nat} {pc : Nat → Nat} {ρ τ : Sta} (hag : AG ρ τ) (hB : BL fm k b ρ) (hp : fm = 1 → ∀ i, i < b → gA ρ 30 (k * 4 + i) = nI (pc i)) (hs : smN pc b 0 0 = 100) : ∃ r, f_X4_latestChances τ = some (r, τ) ∧ (fm = 0 ∨ r = 100) := by
  rcases BL_ag hag hB with ⟨a, b⟩ | ⟨rfl, q1, q2, q3, q4⟩
  · exact ⟨0, p_chances0 b, Or.inl a⟩
  · refine ⟨nI (smN pc b 0 0), p_chances1 q1 q2 q3 q4 (fun i hi => ?_), Or.inr (by rw [hs]; rfl)⟩
    rw [hag.2.1 30 (by unfold prA; omega)]
    exact hp rfl i hi
section C3
variable {K V : Nat → Nat} {M : Nat} {fm : Int32} {t c x : Nat} {σ : Sta}
theorem st_move (h : IT K V M fm t c x σ) (hA : FA fm [120, 121] [103, 104] [] σ) (hx : x < 1300) (hc : c < 1300) {n p q bk r3 : Nat} {r : List Tk} (hS : Sf K V M t (iMv n p q bk r3 r)) (h1 : 1 ≤ p) (h2 : 1 ≤ q) (h3 : 1 ≤ r3) (h4 : p + q + r3 = 100) :
    StR K V M fm (vrF fm) (f_X1_readCommand σ) c x r (c + 3 + 3 + 5 + 5) (x + 1 + 1 + 1 + 1) (uM fm (cnt fm []) x p q r3) [(x, cM n), (x + 1, cM1), (x + 1 + 1, cM2), (x + 1 + 1 + 1, cM3 bk)] σ := by
  have hf := FA_01 hA
  have hv : VR fm (vrF fm) σ := FA_VR hA
  have hk : cnt fm [] < 16 := by unfold cnt; split <;> decide
  refine it_cmd (es2 := [(x + 1, cM1), (x + 1 + 1, cM2)] ++ ([(x + 1 + 1 + 1, cM3 bk)] ++ [])) (op2 := fun ρ => (fun ρ => (fun ρ => oB fm ρ (cnt fm []) 2 (nI r3)) ((fun ρ => oS fm (oB fm ρ (cnt fm []) 1 (nI q)) (cnt fm []) 1 0 (nI (x + 1 + 1 + 1))) ρ)) ((fun ρ => oS fm (oS fm (oB fm ρ (cnt fm []) 0 (nI p)) (cnt fm []) 0 0 (nI (x + 1))) (cnt fm []) 0 1 (nI (x + 1 + 1))) ρ)) h hf (FA_PG hA) (by omega) hv hS (cM_e n _) (fun e => nomatch e) (by show c + 3 ≤ 1400; omega) (by show _ + 1 + 1 + 1 + 1 < _; simp only [List.length_cons]; omega) ((FA_NT (nm := 1836021349) hA (by decide) (nm_ok rfl) (nm_ok rfl) (nm_ok rfl)).imp id (fun e => ⟨hk, e⟩)) (by show c + 3 ≤ c + 3 + 3 + 5 + 5; omega) (by omega) 0 (fun j σ1 s1 i1 ag1 => ?_)
  have a1 := ag1 σ AG.rfl'
  have A1 := FA_C hA (by decide) 1836021349 0 (nI x)
  have b1 := BL_C hA (by decide) (lN 1836021349) 0 (nI x)
  have V1 : VR fm (vrF fm) σ1 := FA_VR (FA_ag a1 A1)
  unfold f_X1_readCommand_94
  obtain ⟨F, hF⟩ := FU_3
  rw [hF, show (0 : Int32) = nI 0 from rfl]
  refine br_step (op1 := (fun ρ => oS fm (oS fm (oB fm ρ (cnt fm []) 0 (nI p)) (cnt fm []) 0 0 (nI (x + 1))) (cnt fm []) 0 1 (nI (x + 1 + 1)))) (op2 := fun ρ => (fun ρ => oB fm ρ (cnt fm []) 2 (nI r3)) ((fun ρ => oS fm (oB fm ρ (cnt fm []) 1 (nI q)) (cnt fm []) 1 0 (nI (x + 1 + 1 + 1))) ρ)) (es1 := [(x + 1, cM1), (x + 1 + 1, cM2)]) (es2 := [(x + 1 + 1 + 1, cM3 bk)] ++ []) (i := 0) (c := c + 3) (x := x + 1) (c1 := c + 3 + 3 + 5) (x1 := x + 1 + 1 + 1) (by decide) (it_b2 (k := cnt fm []) (b := 0) i1 hf (by omega) V1 (BL_ag a1 b1) (by decide) s1 h1 (by omega) (cM1_e _) (fun e => nomatch e) (cM2_e _) (fun e => nomatch e) (by show c + 3 + 3 + 5 ≤ 1400; omega) (by simp only [List.length_cons]; omega) (by simp only [List.length_cons]; omega) (Or.inl rfl) (v := 0) (vrF_x fm hf) (by decide) (Or.inr rfl) (w := 1) (vrF_y fm hf) (by decide) (by decide) (by decide)) (by omega) (by omega) (by show c + 3 + 3 + 5 ≤ c + 3 + 3 + 5 + 5; omega) (by omega) (fun j2 σ2 s2 i2 ag2 => ?_)
  have a2 := ag2 _ a1
  have b2 := BL_S (BL_S (BL_B b1 (by decide) (nI p)) (cnt fm []) 0 0 (nI (x + 1))) (cnt fm []) 0 1 (nI (x + 1 + 1))
  have V2 : VR fm (vrF fm) σ2 := FA_VR (FA_ag a2 (FA_S (FA_S (FA_B A1 _ _ _) _ _ _ _) _ _ _ _))
  refine br_step (op1 := (fun ρ => oS fm (oB fm ρ (cnt fm []) 1 (nI q)) (cnt fm []) 1 0 (nI (x + 1 + 1 + 1)))) (op2 := (fun ρ => oB fm ρ (cnt fm []) 2 (nI r3))) (es1 := [(x + 1 + 1 + 1, cM3 bk)]) (es2 := []) (i := 1) (c := c + 3 + 3 + 5) (x := x + 1 + 1 + 1) (c1 := c + 3 + 3 + 5 + 5) (x1 := x + 1 + 1 + 1 + 1) (by decide) (it_b1 (k := cnt fm []) (b := 1) i2 hf (by omega) V2 (BL_ag a2 b2) (by decide) s2 h2 (by omega) (cM3_e bk _) (fun e => nomatch e) (by show c + 3 + 3 + 5 + 5 ≤ 1400; omega) (by simp only [List.length_cons]; omega) (Or.inl rfl) (v := 0) (vrF_x fm hf) (by decide) (by decide)) (by omega) (by omega) (Nat.le_refl _) (Nat.le_refl _) (fun j3 σ3 s3 i3 ag3 => ?_)
  have a3 := ag3 _ a2
  have b3 := BL_S (BL_B b2 (by decide) (nI q)) (cnt fm []) 1 0 (nI (x + 1 + 1 + 1))
  refine br_last (i := 2) (by decide) (it_b0 (k := cnt fm []) (b := 2) i3 hf (BL_ag a3 b3) (by decide) s3 h3 (by omega) (by decide)) (fun τ hτ => ?_)
  refine ch_ok (pc := fun i => if i = 0 then p else if i = 1 then q else r3) (hτ _ a3) (BL_B b3 (by decide) (nI r3)) (fun e i hi => ?_) ?_
  · subst e
    rcases (by omega : i = 0 ∨ i = 1 ∨ i = 2) with rfl | rfl | rfl <;> rfl
  · show 0 + p + q + r3 = 100
    omega
theorem st_rest (h : IT K V M fm t c x σ) (hA : FA fm [120, 121] [103, 104] [1836021349] σ) (hx : x < 1300) (hc : c < 1300) {r : List Tk} (hS : Sf K V M t (iRs r)) :
    StR K V M fm (vrF fm) (f_X1_readCommand σ) c x r (c + 3 + 3) (x + 1 + 1) (uR fm (cnt fm [1836021349]) x) [(x, cR), (x + 1, cR1)] σ := by
  have hf := FA_01 hA
  have hv : VR fm (vrF fm) σ := FA_VR hA
  have hk : cnt fm [1836021349] < 16 := by unfold cnt; split <;> decide
  refine it_cmd (es2 := [(x + 1, cR1)]) (op2 := fun ρ => oS fm (oB fm ρ (cnt fm [1836021349]) 0 (nI 100)) (cnt fm [1836021349]) 0 1 (nI (x + 1))) h hf (FA_PG hA) (by omega) hv hS (cR_e _) (fun e => nomatch e) (by show c + 3 ≤ 1400; omega) (by simp only [List.length_cons]; omega) ((FA_NT (nm := 1919251316) hA (by decide) (nm_ok rfl) (nm_ok rfl) (nm_ok rfl)).imp id (fun e => ⟨hk, e⟩)) (by show c + 3 ≤ c + 3 + 3; omega) (by omega) 0 (fun j σ1 s1 i1 ag1 => ?_)
  have a1 := ag1 σ AG.rfl'
  have A1 := FA_C hA (by decide) 1919251316 0 (nI x)
  have b1 := BL_C hA (by decide) (lN 1919251316) 0 (nI x)
  have V1 : VR fm (vrF fm) σ1 := FA_VR (FA_ag a1 A1)
  unfold f_X1_readCommand_94
  obtain ⟨F, hF⟩ := FU_3
  rw [hF, show (0 : Int32) = nI 0 from rfl]
  refine br_last (i := 0) (by decide) (it_b1 (k := cnt fm [1836021349]) (b := 0) i1 hf (by omega) V1 (BL_ag a1 b1) (by decide) s1 (by decide) (by decide) (cR1_e _) (fun e => nomatch e) (by show c + 3 + 3 ≤ 1400; omega) (by simp only [List.length_cons]; omega) (Or.inr rfl) (v := 1) (vrF_y fm hf) (by decide) (by decide)) (fun τ hτ => ?_)
  refine ch_ok (pc := fun _ => 100) (hτ _ a1) (BL_S (BL_B b1 (by decide) (nI 100)) (cnt fm [1836021349]) 0 1 (nI (x + 1))) (fun e i hi => ?_) rfl
  subst e
  obtain rfl : i = 0 := by omega
  rfl
theorem st_jump (h : IT K V M fm t c x σ) (hA : FA fm [120, 121] [103, 104, 119] [1836021349, 1919251316] σ) (hx : x < 1300) (hc : c < 1300) {jp : Nat} {r : List Tk} (hS : Sf K V M t (iJp jp r)) :
    StR K V M fm (vrF fm) (f_X1_readCommand σ) c x r (c + 7 + 3 + 3 + 1) (x + 1 + 1 + 1 + 1) (uJ fm (cnt fm [1836021349, 1919251316]) x) [(x, cJ jp), (x + 1, cJ1 jp), (x + 1 + 1, cJ2), (x + 1 + 1 + 1, cJ3)] σ := by
  have hf := FA_01 hA
  have hv : VR fm (vrF fm) σ := FA_VR hA
  have hk : cnt fm [1836021349, 1919251316] < 16 := by unfold cnt; split <;> decide
  refine it_cmd (es2 := [(x + 1, cJ1 jp), (x + 1 + 1, cJ2)] ++ [(x + 1 + 1 + 1, cJ3)]) (op2 := fun ρ => (fun ρ => oS fm (oB fm ρ (cnt fm [1836021349, 1919251316]) 1 (nI 50)) (cnt fm [1836021349, 1919251316]) 1 1 (nI (x + 1 + 1 + 1))) ((fun ρ => oS fm (oS fm (oB fm ρ (cnt fm [1836021349, 1919251316]) 0 (nI 50)) (cnt fm [1836021349, 1919251316]) 0 0 (nI (x + 1))) (cnt fm [1836021349, 1919251316]) 0 1 (nI (x + 1 + 1))) ρ)) h hf (FA_PG hA) (by omega) hv hS (cJ_e jp _) (fun e => nomatch e) (by show c + 7 ≤ 1400; omega) (by simp only [List.length_cons]; omega) ((FA_NT (nm := 1786080624) hA (by decide) (nm_ok rfl) (nm_ok rfl) (nm_ok rfl)).imp id (fun e => ⟨hk, e⟩)) (by show c + 7 ≤ c + 7 + 3 + 3 + 1; omega) (by omega) 0 (fun j σ1 s1 i1 ag1 => ?_)
  have a1 := ag1 σ AG.rfl'
  have A1 := FA_C hA (by decide) 1786080624 0 (nI x)
  have b1 := BL_C hA (by decide) (lN 1786080624) 0 (nI x)
  have V1 : VR fm (vrF fm) σ1 := FA_VR (FA_ag a1 A1)
  unfold f_X1_readCommand_94
  obtain ⟨F, hF⟩ := FU_3
  rw [hF, show (0 : Int32) = nI 0 from rfl]
  refine br_step (op1 := (fun ρ => oS fm (oS fm (oB fm ρ (cnt fm [1836021349, 1919251316]) 0 (nI 50)) (cnt fm [1836021349, 1919251316]) 0 0 (nI (x + 1))) (cnt fm [1836021349, 1919251316]) 0 1 (nI (x + 1 + 1)))) (op2 := (fun ρ => oS fm (oB fm ρ (cnt fm [1836021349, 1919251316]) 1 (nI 50)) (cnt fm [1836021349, 1919251316]) 1 1 (nI (x + 1 + 1 + 1)))) (es1 := [(x + 1, cJ1 jp), (x + 1 + 1, cJ2)]) (es2 := [(x + 1 + 1 + 1, cJ3)]) (i := 0) (c := c + 7) (x := x + 1) (c1 := c + 7 + 3 + 3) (x1 := x + 1 + 1 + 1) (by decide) (it_b2 (k := cnt fm [1836021349, 1919251316]) (b := 0) i1 hf (by omega) V1 (BL_ag a1 b1) (by decide) s1 (by decide) (by decide) (cJ1_e jp _) (fun e => nomatch e) (cJ2_e _) (fun e => nomatch e) (by show c + 7 + 3 + 3 ≤ 1400; omega) (by simp only [List.length_cons]; omega) (by simp only [List.length_cons]; omega) (Or.inl rfl) (v := 0) (vrF_x fm hf) (by decide) (Or.inr rfl) (w := 1) (vrF_y fm hf) (by decide) (by decide) (by decide)) (by omega) (by omega) (by show c + 7 + 3 + 3 ≤ c + 7 + 3 + 3 + 1; omega) (by omega) (fun j2 σ2 s2 i2 ag2 => ?_)
  have a2 := ag2 _ a1
  have b2 := BL_S (BL_S (BL_B b1 (by decide) (nI 50)) (cnt fm [1836021349, 1919251316]) 0 0 (nI (x + 1))) (cnt fm [1836021349, 1919251316]) 0 1 (nI (x + 1 + 1))
  have V2 : VR fm (vrF fm) σ2 := FA_VR (FA_ag a2 (FA_S (FA_S (FA_B A1 _ _ _) _ _ _ _) _ _ _ _))
  refine br_last (i := 1) (by decide) (it_b1 (k := cnt fm [1836021349, 1919251316]) (b := 1) i2 hf (by omega) V2 (BL_ag a2 b2) (by decide) s2 (by decide) (by decide) (cJ3_e _) (fun e => nomatch e) (by show c + 7 + 3 + 3 + 1 ≤ 1400; omega) (by simp only [List.length_cons]; omega) (Or.inr rfl) (v := 1) (vrF_y fm hf) (by decide) (by decide)) (fun τ hτ => ?_)
  refine ch_ok (pc := fun _ => 50) (hτ _ a2) (BL_S (BL_B b2 (by decide) (nI 50)) (cnt fm [1836021349, 1919251316]) 1 1 (nI (x + 1 + 1 + 1))) (fun e i hi => ?_) rfl
  subst e
  rcases (by omega : i = 0 ∨ i = 1) with rfl | rfl <;> rfl
end C3
