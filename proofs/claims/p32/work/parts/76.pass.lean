/-! A whole pass over the law's program. -/
theorem Sf_do0 {K V : Nat → Nat} {M : Nat} {a cn : Nat} {l2 : List Tk} : ∀ (l1 : List Tk) (t : Nat), Sf K V M t (l1 ++ (262, a) :: (273, cn) :: l2) → l1.all (fun p => !(Nat.beq p.1 262)) = true → (∀ j, t ≤ j → j < t + l1.length → K j ≠ 262) ∧ K (t + l1.length) = 262 ∧ V (t + l1.length + 1) = cn ∧ t + l1.length + 1 < M
  | [], t, h, _ => by
    obtain ⟨k0, v0, s1⟩ := Sf_cons h
    obtain ⟨k1, v1, s2⟩ := Sf_cons s1
    have hl := Sf_len _ _ s1
    have hl' : t + 1 + (l2.length + 1) = M := hl
    refine ⟨fun j h1 h2 => ?_, k0, v1, by show t + 0 + 1 < M; omega⟩
    have : j < t + 0 := h2
    omega
  | p :: r, t, h, ha => by
    obtain ⟨k0, v0, s1⟩ := Sf_cons h
    simp only [List.all_cons, Bool.and_eq_true] at ha
    obtain ⟨i1, i2, i3, i4⟩ := Sf_do0 r (t + 1) s1 ha.2
    have e : t + (p :: r).length = t + 1 + r.length := by rw [List.length_cons]; omega
    rw [e]
    refine ⟨fun j h1 h2 => ?_, i2, i3, i4⟩
    by_cases q : j = t
    · subst q
      intro e
      have h3 := ha.1
      rw [← k0, e] at h3
      exact absurd h3 (by decide)
    · exact i1 j (by omega) (by omega)
theorem Sf_do {K V : Nat → Nat} {M : Nat} {n a cn : Nat} {l l2 : List Tk} (h : Sf K V M 0 l) (hd : l.drop n = (262, a) :: (273, cn) :: l2) (ha : (l.take n).all (fun p => !(Nat.beq p.1 262)) = true) (hn : (l.take n).length = n) : (∀ j, j < n → K j ≠ 262) ∧ K n = 262 ∧ V (n + 1) = cn ∧ n + 1 < M := by
  rw [← List.take_append_drop n l, hd] at h
  obtain ⟨i1, i2, i3, i4⟩ := Sf_do0 _ 0 h ha
  rw [hn, Nat.zero_add] at i1 i2 i3 i4
  exact ⟨fun j hj => i1 j (Nat.zero_le _) hj, i2, i3, i4⟩
def zx (go : Option Nat) : Nat := match go with
  | none => 2
  | some _ => 3
def zd (c : Nat) (go : Option Nat) : Nat := match go with
  | none => c
  | some _ => c + 7
theorem zd_le (c : Nat) (go : Option Nat) : c ≤ zd c go ∧ zd c go ≤ c + 7 := by
  cases go
  · exact ⟨Nat.le_refl _, by show c ≤ c + 7; omega⟩
  · exact ⟨by show c ≤ c + 7; omega, Nat.le_refl _⟩
def eZ (go : Option Nat) : List (Nat × List Tk) := match go with
  | none => []
  | some g => [(2, cZ g)]
def uZ (fm : Int32) (go : Option Nat) (ρ : Sta) : Sta := match go with
  | none => ρ
  | some _ => oZ fm ρ (nI 2)
def uH (fm : Int32) (f n : Nat) (ρ : Sta) : Sta := oG fm (oG fm (oV fm (oV fm ρ (cnt fm []) (lN 120) (nI f) (nI 0) (nI n)) (cnt fm [120]) (lN 121) (nI 0) (nI 0) (nI 3)) (cnt fm []) (lN 103) (-1) (nI 0)) (cnt fm [103]) (lN 104) 0 (nI 1)
def uA (fm : Int32) (f n : Nat) (go : Option Nat) (p q r3 : Nat) (ρ : Sta) : Sta := uE fm (zx go) p q r3 (uZ fm go (uH fm f n ρ))
def eA2 (n : Nat) (an : Bool) (aa b : Nat) (go : Option Nat) (bk jp : Nat) : List (Nat × List Tk) := [] ++ ([] ++ ([(0, cG an aa b)] ++ ([(1, cH)] ++ (eZ go ++ eE n bk jp (zx go)))))
section PA
variable {K V : Nat → Nat} {M : Nat} {fm : Int32} {σ : Sta}
theorem g201V (fm : Int32) (ρ : Sta) (k : Nat) (a : Int64) (v lo hi : Int32) : gI (oV fm ρ k a v lo hi) 201 = gI ρ 201 := by
  unfold oV
  split <;> rfl
theorem g201G (fm : Int32) (ρ : Sta) (k : Nat) (a : Int64) (cm e : Int32) : gI (oG fm ρ k a cm e) 201 = gI ρ 201 := by
  unfold oG
  split <;> rfl
/-- the items from the goal on -/
theorem pr_goal {t c i F : Nat} {go : Option Nat} (h : IT K V M fm t c 2 σ) (hA : FA fm [120, 121] [103, 104] [] σ) (hg : gI σ 201 = -1) (hc : c < 60) {n p q bk r3 jp : Nat} (hi : i < 50) (hS : Sf K V M t (iZ go (iMv n p q bk r3 (iRs (iW (iJp jp [(278, 0)])))))) (h1 : 1 ≤ p) (h2 : 1 ≤ q) (h3 : 1 ≤ r3) (h4 : p + q + r3 = 100) :
    StR K V M fm (vrF fm) (f_X1_readProgram_7 (F + 1 + 1 + 1 + 1 + 1) (nI i) σ) c 2 [(278, 0)] (zd c go + 16 + 6 + 4 + 14) (zx go + 11) (fun ρ => uE fm (zx go) p q r3 (uZ fm go ρ)) (eZ go ++ eE n bk jp (zx go)) σ := by
  cases go with
  | none => exact pr_rest h hA (by decide) (by omega) (by omega) hS h1 h2 h3 h4
  | some g =>
    refine pr_step (op1 := fun ρ => oZ fm ρ (nI 2)) (op2 := uE fm 3 p q r3) (es1 := [(2, cZ g)]) (es2 := eE n bk jp 3) (c1 := c + 7) (x1 := 3) (i := i) h (by omega) hS (Or.inr (Or.inr (Or.inl ⟨rfl, rfl⟩))) (st_goal h hA (by decide) hS (cZ_e g _) (fun e => nomatch e) (by show c + 7 ≤ 1400; omega) (by simp only [List.length_cons]; omega) hg) (by decide) (by omega) (by omega) (by show c + 7 ≤ c + 7 + 16 + 6 + 4 + 14; omega) (by show 3 ≤ 3 + 11; decide) (fun j1 σ1 s1 i1 ag1 => ?_)
    exact pr_rest i1 (FA_ag (ag1 σ AG.rfl') (FA_Z hA _)) (by decide) (by omega) (by omega) s1 h1 h2 h3 h4
theorem pr_all {go : Option Nat} {an : Bool} {f n aa b p q bk r3 jp : Nat} (h : IT K V M fm 0 0 0 σ) (hA : FA fm [] [] [] σ) (hg : gI σ 201 = -1) (hS : Sf K V M 0 (prg f n an aa b go p q bk r3 jp)) (hn : n < 100) (hf : f ≤ n) (h1 : 1 ≤ p) (h2 : 1 ≤ q) (h3 : 1 ≤ r3) (h4 : p + q + r3 = 100) :
    ∃ C, C ≤ 100 ∧ StR K V M fm (vrF fm) (f_X1_readProgram_7 FU (nI 0) σ) 0 0 [(278, 0)] C (zx go + 11) (uA fm f n go p q r3) (eA2 n an aa b go bk jp) σ := by
  obtain ⟨j0, c1, c2, c3, c4⟩ : ∃ j0, (∀ j, j < j0 → K j ≠ 262) ∧ K j0 = 262 ∧ V (j0 + 1) = 1836021349 ∧ j0 + 1 < M := by
    cases an <;> cases go
    · exact ⟨38, Sf_do hS rfl rfl rfl⟩
    · exact ⟨47, Sf_do hS rfl rfl rfl⟩
    · exact ⟨39, Sf_do hS rfl rfl rfl⟩
    · exact ⟨48, Sf_do hS rfl rfl rfl⟩
  have hcg := cG_len an aa b
  obtain ⟨F, hF⟩ : ∃ F, FU = F + 1 + 1 + 1 + 1 + 1 + 1 + 1 + 1 + 1 := ⟨999999991, rfl⟩
  have hz := zd_le ((cG an aa b).length + 5) go
  refine ⟨zd ((cG an aa b).length + 5) go + 16 + 6 + 4 + 14, by omega, ?_⟩
  have hmc : ∀ {k : Nat}, k ≤ (cG an aa b).length + 5 → k ≤ zd ((cG an aa b).length + 5) go + 16 + 6 + 4 + 14 := fun hk => by omega
  have hmx : ∀ {k : Nat}, k ≤ 2 → k ≤ zx go + 11 := fun hk => by omega
  rw [hF]
  refine pr_step (op1 := fun ρ => oV fm ρ (cnt fm []) (lN 120) (nI f) (nI 0) (nI n)) (op2 := fun ρ => uE fm (zx go) p q r3 (uZ fm go (oG fm (oG fm (oV fm ρ (cnt fm [120]) (lN 121) (nI 0) (nI 0) (nI 3)) (cnt fm []) (lN 103) (-1) (nI 0)) (cnt fm [103]) (lN 104) 0 (nI 1)))) (es1 := []) (es2 := [] ++ ([(0, cG an aa b)] ++ ([(1, cH)] ++ (eZ go ++ eE n bk jp (zx go))))) (c1 := 0) (x1 := 0) (i := 0) h (by decide) hS (Or.inl ⟨rfl, rfl⟩) (st_var h hA (vrF fm) hS (by omega) (by decide) hn (by omega) hf (by decide) (by decide) rfl rfl rfl) (by decide) (Nat.le_refl _) (Nat.le_refl _) (hmc (Nat.zero_le _)) (hmx (by decide)) (fun j1 σ1 s1 i1 ag1 => ?_)
  have a1 := ag1 σ AG.rfl'
  have A1 := FA_V hA (by decide) 120 (nI f) (nI 0) (nI n)
  refine pr_step (op1 := fun ρ => oV fm ρ (cnt fm [120]) (lN 121) (nI 0) (nI 0) (nI 3)) (op2 := fun ρ => uE fm (zx go) p q r3 (uZ fm go (oG fm (oG fm ρ (cnt fm []) (lN 103) (-1) (nI 0)) (cnt fm [103]) (lN 104) 0 (nI 1)))) (es1 := []) (es2 := [(0, cG an aa b)] ++ ([(1, cH)] ++ (eZ go ++ eE n bk jp (zx go)))) (c1 := 0) (x1 := 0) (i := 1) i1 (by decide) s1 (Or.inl ⟨rfl, rfl⟩) (st_var i1 (FA_ag a1 A1) (vrF fm) s1 (by decide) (by decide) (by decide) (by decide) (by decide) (by decide) (by decide) rfl rfl rfl) (by decide) (Nat.le_refl _) (Nat.le_refl _) (hmc (Nat.zero_le _)) (hmx (by decide)) (fun j2 σ2 s2 i2 ag2 => ?_)
  have a2 := ag2 _ a1
  have A2' := FA_V A1 (by decide) 121 (nI 0) (nI 0) (nI 3)
  have s2' : Sf K V M j2 ((259, 1734437230) :: (273, 103) :: (61, 0) :: cGt an aa b (iH (iZ go (iMv n p q bk r3 (iRs (iW (iJp jp [(278, 0)]))))))) := by
    cases an <;> exact s2
  refine pr_step (op1 := fun ρ => oG fm ρ (cnt fm []) (lN 103) (-1) (nI 0)) (op2 := fun ρ => uE fm (zx go) p q r3 (uZ fm go (oG fm ρ (cnt fm [103]) (lN 104) 0 (nI 1)))) (es1 := [(0, cG an aa b)]) (es2 := [(1, cH)] ++ (eZ go ++ eE n bk jp (zx go))) (c1 := (cG an aa b).length) (x1 := 1) (i := 2) i2 (by decide) s2' (Or.inr (Or.inl ⟨rfl, rfl⟩)) (by
    have := st_gain i2 (FA_ag a2 A2') (by decide) s2' (cG_e an aa b _) hcg.2 (by omega) (cGt_len an aa b _) (by decide) (by decide) rfl rfl rfl
    rw [Nat.zero_add] at this
    exact this) (by decide) (Nat.zero_le _) (by decide) (hmc (by omega)) (hmx (by decide)) (fun j3 σ3 s3 i3 ag3 => ?_)
  have a3 := ag3 _ a2
  have A3 := FA_G A2' (by decide) 103 (-1) (nI 0)
  obtain ⟨kd, av, l9, e9, n9⟩ : ∃ kd av l9, iZ go (iMv n p q bk r3 (iRs (iW (iJp jp [(278, 0)])))) = (kd, av) :: l9 ∧ kd ≠ 278 := by
    cases go <;> exact ⟨_, _, _, rfl, by decide⟩
  have w := st_gainP i3 (FA_ag a3 A3) (by decide) s3 (cH_e _) (fun e => nomatch e) (by show (cG an aa b).length + 5 ≤ 1400; omega) (by simp only [List.length_cons]; omega) (by decide) (by decide) rfl rfl rfl c1 c2 c3 c4
  rw [e9] at w
  refine pr_step (op1 := fun ρ => oG fm ρ (cnt fm [103]) (lN 104) 0 (nI 1)) (op2 := fun ρ => uE fm (zx go) p q r3 (uZ fm go ρ)) (es1 := [(1, cH)]) (es2 := eZ go ++ eE n bk jp (zx go)) (c1 := (cG an aa b).length + 5) (x1 := 2) (i := 3) i3 (by decide) s3 (Or.inr (Or.inl ⟨rfl, rfl⟩)) w n9 (by omega) (by decide) (hmc (by omega)) (hmx (by decide)) (fun j4 σ4 s4 i4 ag4 => ?_)
  rw [← e9] at s4
  have a4 := ag4 _ a3
  have A4 := FA_G A3 (by decide) 104 0 (nI 1)
  have hg4 : gI σ4 201 = -1 := by
    rw [a4.1 201 (by unfold prI; omega), g201G, g201G, g201V, g201V]
    exact hg
  exact pr_goal (i := 4) (F := F) i4 (FA_ag a4 A4) hg4 (by omega) (by decide) s4 h1 h2 h3 h4
end PA
