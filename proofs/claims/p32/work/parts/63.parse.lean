/-! The parser, where all is right: looking, taking, adding codes. -/
def eI : Nat → Prop := fun q => q = 130 ∨ q = 260 ∨ q = 262 ∨ q = 263
def eA : Nat → Prop := fun q => q = 14 ∨ q = 17
def eJ : Nat → Prop := fun q => q = 15
def Ke (σ σ' : Sta) : Prop := Kp eI n0 eA eJ σ σ'
/-- tokens from the place t on -/
def Sf (K V : Nat → Nat) (M : Nat) : Nat → List Tk → Prop
  | t, [] => t = M
  | t, p :: r => t < M ∧ K t = p.1 ∧ V t = p.2 ∧ Sf K V M (t + 1) r
theorem Sf_len {K V : Nat → Nat} {M : Nat} : ∀ (l : List Tk) (t : Nat), Sf K V M t l → t + l.length = M
  | [], t, h => h
  | p :: r, t, h => by
    have h1 := Sf_len r (t + 1) h.2.2.2
    show t + (r.length + 1) = M
    omega
/-- the parser stands before the token t, and nothing is wrong -/
def PX (K V : Nat → Nat) (M : Nat) (fm : Int32) (L t : Nat) (σ : Sta) : Prop :=
  (∀ j, j < M → gA σ 11 j = nI (K j) ∧ gJ σ 13 j = lN (V j) ∧ K j < 300) ∧ gI σ 67 = nI M ∧ M ≤ 1501 ∧ gI σ 259 = fm ∧ gI σ 260 = nI t ∧ gI σ 261 = nI L ∧ gI σ 262 = 0 ∧ L ≤ M
/-- codes: c of them, x expressions -/
def CO (c x : Nat) (σ : Sta) : Prop := gI σ 130 = nI c ∧ gI σ 133 = nI x ∧ 0 < x ∧ x ≤ 1500 ∧ c ≤ 1400
def ixJ (f : Nat → Int64) (a : Int64) : Nat → Nat → Int32
  | 0, _ => -1
  | m + 1, k => if f k = a then nI k else ixJ f a m (k + 1)
/-- what the names x and y are -/
def VR (fm : Int32) (vr : Nat → Int32) (σ : Sta) : Prop := ∃ nv : Nat, nv ≤ 6 ∧ gI σ 192 = nI nv ∧ ∀ v, v = 120 ∨ v = 121 → vr v = ixJ (gJ σ 19) (lN v) nv 0 ∧ (fm = 0 ∨ ¬ vr v < 0)
section PY
variable {K V : Nat → Nat} {M : Nat} {fm : Int32} {L t c x : Nat} {σ σ' : Sta} {vr : Nat → Int32}
theorem PX_k (h : PX K V M fm L t σ) (hk : Ke σ σ') {t' : Nat} (h1 : gI σ' 260 = nI t') (h2 : gI σ' 262 = 0) : PX K V M fm L t' σ' := by
  obtain ⟨a, b, c, d, e, f, g, i⟩ := h
  refine ⟨fun j hj => ?_, by rw [hk.1 67 (by unfold eI; omega)]; exact b, c, by rw [hk.1 259 (by unfold eI; omega)]; exact d, h1, by rw [hk.1 261 (by unfold eI; omega)]; exact f, h2, i⟩
  rw [hk.2.2.1 11 (by unfold eA; omega), hk.2.2.2.1 13 (by unfold eJ; omega)]
  exact a j hj
theorem VR_k (h : VR fm vr σ) (hk : Ke σ σ') : VR fm vr σ' := by
  obtain ⟨nv, a, b, c⟩ := h
  refine ⟨nv, a, by rw [hk.1 192 (by unfold eI; omega)]; exact b, ?_⟩
  rw [hk.2.2.2.1 19 (by unfold eJ; omega)]
  exact c
theorem p_look (h : PX K V M fm L t σ) (ht : t < L) : f_X1_look σ = some (nI (K t), σ) := by
  obtain ⟨h1, h2, h3, h4, h5, h6, h7, h8⟩ := h
  unfold f_X1_look f_X1_look_38 f_X1_look_61
  rw [if_pos h7, h6, h5, if_neg (nI_ge (by omega) (by omega)), if_neg (show ¬ (1501 : Int32) ≤ nI t from nI_ge (b := 1501) (by omega) (by decide)), if_neg (show ¬ (1 : Int32) = 0 by decide), if_neg (nI_in (by omega) (by omega)), nI_clamp (by omega), (h1 t (by omega)).1]
theorem p_at (h : PX K V M fm L t σ) (h' : t < L) : PX K V M fm L (t + 1) (sI σ 260 (gI σ 260 + 1)) := by
  have e : gI σ 260 + 1 = nI (t + 1) := by rw [h.2.2.2.2.1, nI_1]
  rw [e]
  exact PX_k h (Kp.sI (by unfold eI; omega) Kp.rfl') rfl h.2.2.2.2.2.2.1
theorem p_expect (h : PX K V M fm L t σ) (ht : t < L) {k : Nat} (hk : K t = k) : f_X1_expect (nI k) σ = some (nI t, sI σ 260 (gI σ 260 + 1)) := by
  unfold f_X1_expect f_X1_expect_32
  rw [lt_e, p_look h ht, bnd_s, hk, if_pos rfl, lt_e, h.2.2.2.2.1]
theorem p_acceptY (h : PX K V M fm L t σ) (ht : t < L) {k : Nat} (hk : K t = k) : f_X1_accept (nI k) σ = some (1, sI σ 260 (gI σ 260 + 1)) := by
  unfold f_X1_accept
  rw [p_look h ht, bnd_s, hk, if_pos rfl, lt_e]
theorem PX_K (h : PX K V M fm L t σ) {j : Nat} (hj : j < L) : K j < 300 := (h.1 j (by have := h.2.2.2.2.2.2.2; omega)).2.2
theorem p_acceptN (h : PX K V M fm L t σ) (ht : t < L) {k : Nat} (hk : K t ≠ k) (hk2 : k < 300) : f_X1_accept (nI k) σ = some (0, σ) := by
  have := PX_K h ht
  unfold f_X1_accept
  rw [p_look h ht, bnd_s, if_neg (nI_neq (by omega) (by omega) hk)]
theorem p_content (h : PX K V M fm L t σ) {j : Nat} (hj : j < M) : f_X7_contentOf (nI j) σ = some (lN (V j), σ) := by
  have hM := h.2.2.1
  unfold f_X7_contentOf f_X7_contentOf_22
  rw [if_neg (nI_pos (by omega)), h.2.1, if_neg (nI_ge (by omega) (by omega)), if_neg (nI_in (by omega) (by omega)), nI_clamp (by omega), (h.1 j hj).2.1]
theorem p_kind (h : PX K V M fm L t σ) {j : Nat} (hj : j < M) : f_X7_kindOf (nI j) σ = some (nI (K j), σ) := by
  have hM := h.2.2.1
  unfold f_X7_kindOf f_X7_kindOf_24
  rw [if_neg (nI_pos (by omega)), h.2.1, if_neg (nI_ge (by omega) (by omega)), if_neg (nI_in (by omega) (by omega)), nI_clamp (by omega), (h.1 j hj).1]
theorem p_deeper (h : PX K V M fm L t σ) (ht : t < L) {k d : Nat} (hk : K t = k) (hd : d < 8) : f_X1_acceptDeeper (nI k) (nI d) σ = some (1, sI σ 260 (gI σ 260 + 1)) := by
  unfold f_X1_acceptDeeper
  rw [p_look h ht, bnd_s, hk, if_pos rfl, if_pos (show nI d < 8 from nI_lt hd (by decide)), lt_e]
/-- a demand that is met, or not asked -/
theorem p_demand {s : Int32} (e a : Int32) (h : gI σ 259 = 0 ∨ ¬ s = 0) : f_X1_demand s e a σ = some ((), σ) := by
  unfold f_X1_demand f_X1_demand_17
  by_cases q : gI σ 259 = 0
  · rw [if_pos q]
  · rw [if_neg q, if_neg (h.resolve_left q)]
theorem p_meaning0 (h : gI σ 259 = 0) : f_X1_isMeaningRight σ = some (0, σ) := by
  unfold f_X1_isMeaningRight f_X1_isMeaningRight_18 f_X1_isMeaningRight_19
  rw [if_pos h, if_neg (by decide)]
theorem p_meaning1 (h : gI σ 259 = 1) (h2 : gI σ 262 = 0) : f_X1_isMeaningRight σ = some (1, σ) := by
  unfold f_X1_isMeaningRight f_X1_isMeaningRight_19
  rw [if_neg (by rw [h]; decide), if_pos h2, if_neg (by decide)]
/-- a code is added -/
def addC (σ : Sta) (n x : Nat) (a : Int32) (v : Int64) : Sta := sA (sI (sJ (sA σ 14 (upd (gA σ 14) n a)) 15 (vp_updL (gJ σ 15) n v)) 130 (nI (n + 1))) 17 (upd (gA σ 17) (x - 1) (nI (n + 1)))
theorem c_addX {σ : Sta} {n x : Nat} (h1 : n < 1500) (h2 : gI σ 130 = nI n) (h3 : x ≤ 1500) (h0 : 0 < x) (h4 : gI σ 133 = nI x) (a : Int32) (v : Int64) : f_X0_add a v σ = some ((), addC σ n x a v) := by
  unfold f_X0_add f_X0_add_64 addC
  rw [h2, if_neg (show ¬ (1500 : Int32) ≤ nI n by rw [nI_Lle (by omega) (by decide)]; omega), h4, if_neg (nI_nle h0 (by omega)), if_neg (nI_in h1 (by decide)), lt_e, gI_sA, h2, if_neg (nI_in h1 (by decide)), lt_e, lt_e, gI_sJ, gI_sA, h2, nI_1, gI_sI, if_neg (show ¬ (133 : Nat) = 130 by decide), gI_sJ, gI_sA, h4, nI_subL (show 1 ≤ x from h0), nI_clamp (by omega), nI_clamp (by omega), if_neg (nI_in2 (c := x - 1) (N := 1500) (by omega) (by omega)), lt_e]
  rfl
theorem Ke_ad (σ : Sta) (n x : Nat) (a : Int32) (v : Int64) : Ke σ (addC σ n x a v) := Kp.sA (Or.inr rfl) (Kp.sI (Or.inl rfl) (Kp.sJ rfl (Kp.sA (Or.inl rfl) Kp.rfl')))
theorem ad_at (σ : Sta) (n x : Nat) (a : Int32) (v : Int64) (j : Nat) : gA (addC σ n x a v) 14 j = (if j = n then a else gA σ 14 j) ∧ gJ (addC σ n x a v) 15 j = (if j = n then v else gJ σ 15 j) ∧ gA (addC σ n x a v) 17 j = (if j = x - 1 then nI (n + 1) else gA σ 17 j) := ⟨rfl, rfl, rfl⟩
/-- the operand of a code -/
def od (vr : Nat → Int32) (p : Tk) : Int64 := if p.1 = 273 then (vr p.2).toInt64 else lN p.2
def WR (vr : Nat → Int32) (σ : Sta) : Nat → List Tk → Prop
  | _, [] => True
  | b, p :: l => gA σ 14 b = nI p.1 ∧ gJ σ 15 b = od vr p ∧ WR vr σ (b + 1) l
theorem WR_app : ∀ (a b : List Tk) (s : Nat), WR vr σ s a → WR vr σ (s + a.length) b → WR vr σ s (a ++ b)
  | [], _, _, _, hb => hb
  | p :: l, b, s, ha, hb => ⟨ha.1, ha.2.1, WR_app l b (s + 1) ha.2.2 (by rw [show s + 1 + l.length = s + (l.length + 1) by omega]; exact hb)⟩
theorem WR_low : ∀ (a : List Tk) (s e : Nat), s + a.length ≤ e → (∀ j, j < e → gA σ' 14 j = gA σ 14 j ∧ gJ σ' 15 j = gJ σ 15 j) → WR vr σ s a → WR vr σ' s a
  | [], _, _, _, _, _ => True.intro
  | p :: l, s, e, he, hl, ha => by
    have he' : s + (l.length + 1) ≤ e := he
    exact ⟨by rw [(hl s (by omega)).1]; exact ha.1, by rw [(hl s (by omega)).2]; exact ha.2.1, WR_low l (s + 1) e (by omega) hl ha.2.2⟩
/-- from σ to σ' the codes o have been added behind c codes, to the expression x - 1 -/
def EM (vr : Nat → Int32) (x c : Nat) (o : List Tk) (σ σ' : Sta) : Prop :=
  gI σ' 130 = nI (c + o.length) ∧ WR vr σ' c o ∧ (∀ j, j < c → gA σ' 14 j = gA σ 14 j ∧ gJ σ' 15 j = gJ σ 15 j) ∧ (∀ j, j ≠ x - 1 → gA σ' 17 j = gA σ 17 j) ∧ (o = [] → gA σ' 17 (x - 1) = gA σ 17 (x - 1)) ∧ (o ≠ [] → gA σ' 17 (x - 1) = nI (c + o.length)) ∧ Ke σ σ'
theorem EM_at (h : gI σ 130 = nI c) (v : Int32) : EM vr x c [] σ (sI σ 260 v) := ⟨by rw [gI_sI, if_neg (by decide)]; exact h, True.intro, fun _ _ => ⟨rfl, rfl⟩, fun _ _ => rfl, fun _ => rfl, fun e => absurd rfl e, Kp.sI (by unfold eI; omega) Kp.rfl'⟩
theorem EM_rfl (h : gI σ 130 = nI c) : EM vr x c [] σ σ := ⟨h, True.intro, fun _ _ => ⟨rfl, rfl⟩, fun _ _ => rfl, fun _ => rfl, fun e => absurd rfl e, Kp.rfl'⟩
theorem EM_add (p : Tk) : EM vr x c [p] σ (addC σ c x (nI p.1) (od vr p)) := by
  refine ⟨rfl, ⟨?_, ?_, True.intro⟩, fun j hj => ?_, fun j hj => ?_, (fun e => nomatch e), fun _ => ?_, Ke_ad _ _ _ _ _⟩
  · rw [(ad_at _ _ _ _ _ _).1, if_pos rfl]
  · rw [(ad_at _ _ _ _ _ _).2.1, if_pos rfl]
  · rw [(ad_at _ _ _ _ _ _).1, (ad_at _ _ _ _ _ _).2.1, if_neg (by omega), if_neg (by omega)]
    exact ⟨rfl, rfl⟩
  · rw [(ad_at _ _ _ _ _ _).2.2, if_neg hj]
  · rw [(ad_at _ _ _ _ _ _).2.2, if_pos rfl]
    rfl
theorem EM_app {o1 o2 : List Tk} {σ1 σ2 : Sta} (h1 : EM vr x c o1 σ σ1) (h2 : EM vr x (c + o1.length) o2 σ1 σ2) : EM vr x c (o1 ++ o2) σ σ2 := by
  obtain ⟨a1, a2, a3, a4, a5, a6, a7⟩ := h1
  obtain ⟨b1, b2, b3, b4, b5, b6, b7⟩ := h2
  have e : c + (o1 ++ o2).length = c + o1.length + o2.length := by rw [List.length_append]; omega
  refine ⟨by rw [e]; exact b1, WR_app _ _ _ (WR_low o1 c (c + o1.length) (Nat.le_refl _) b3 a2) b2, fun j hj => ⟨(b3 j (by omega)).1.trans (a3 j hj).1, (b3 j (by omega)).2.trans (a3 j hj).2⟩, fun j hj => (b4 j hj).trans (a4 j hj), fun q => ?_, fun q => ?_, a7.trans b7⟩
  · obtain ⟨q1, q2⟩ := List.append_eq_nil_iff.mp q
    exact (b5 q2).trans (a5 q1)
  · by_cases q2 : o2 = []
    · subst q2
      have q1 : o1 ≠ [] := fun e1 => q (by rw [e1]; rfl)
      rw [b5 rfl, a6 q1, List.append_nil]
    · rw [b6 q2, e]
theorem CO_em {o : List Tk} (h : CO c x σ) (he : EM vr x c o σ σ') (ho : c + o.length ≤ 1400) : CO (c + o.length) x σ' := ⟨he.1, by rw [he.2.2.2.2.2.2.1 133 (by unfold eI; omega)]; exact h.2.1, h.2.2.1, h.2.2.2.1, ho⟩
theorem p_add (h : CO c x σ) (p : Tk) : f_X0_add (nI p.1) (od vr p) σ = some ((), addC σ c x (nI p.1) (od vr p)) := c_addX (by have := h.2.2.2.2; omega) h.1 h.2.2.2.1 h.2.2.1 h.2.1 _ _
/-- a row of names -/
theorem p_idx {q N cc : Nat} (a : Int64) (hN : cc ≤ N) (hN2 : N < 1000) : ∀ (m k n : Nat), k + m = cc → m < n → f_X4_indexOf_3 q N n (nI cc) a (nI k) σ = some (ixJ (gJ σ q) a m k, σ)
  | _, _, 0, _, hn => absurd hn (Nat.not_lt_zero _)
  | 0, k, n + 1, h, hn => by
    rw [f_X4_indexOf_3, if_pos (nI_le (by omega) (by omega))]
    rfl
  | m + 1, k, n + 1, h, hn => by
    rw [f_X4_indexOf_3, if_neg (nI_ge (by omega) (by omega)), if_neg (show ¬ Int32.ofNat N ≤ nI k from nI_ge (b := N) (by omega) (by omega)), if_neg (nI_in (by omega) (by omega)), nI_clamp (by omega)]
    unfold ixJ
    by_cases h2 : gJ σ q k = a
    · rw [if_pos ((lg_cmp_eq _ _).mpr h2), if_pos h2]
    · rw [if_neg (fun e => h2 ((lg_cmp_eq _ _).mp e)), if_neg h2, lt_e, nI_1, p_idx a hN hN2 m (k + 1) n (by omega) (by omega)]
theorem p_index {q N cc : Nat} (a : Int64) (hN : cc ≤ N) (hN2 : N < 1000) : f_X4_indexOf q N (nI cc) a σ = some (ixJ (gJ σ q) a cc 0, σ) := by
  unfold f_X4_indexOf
  exact p_idx a hN hN2 cc 0 FU (by omega) (Nat.lt_trans (by omega : cc < 1000) (FU_lt (by decide)))
theorem p_named {nv : Nat} (h : nv ≤ 6) (h2 : gI σ 192 = nI nv) (a : Int64) : f_X4_variableNamed a σ = some (ixJ (gJ σ 19) a nv 0, σ) := by
  unfold f_X4_variableNamed
  rw [h2, p_index a h (by decide), bnd_s]
theorem p_var (h : VR fm vr σ) {v : Nat} (hv : v = 120 ∨ v = 121) : f_X4_variableNamed (lN v) σ = some (vr v, σ) ∧ (fm = 0 ∨ ¬ vr v < 0) := by
  obtain ⟨nv, a, b, c⟩ := h
  exact ⟨by rw [p_named a b, (c v hv).1], (c v hv).2⟩
end PY
def lvN (k : Nat) : Nat := if k = 37 ∨ k = 42 ∨ k = 47 then 4 else if k = 43 ∨ k = 45 then 3 else if k = 60 ∨ k = 61 ∨ k = 62 ∨ k = 275 ∨ k = 276 ∨ k = 277 then 2 else if k = 267 then 1 else if k = 268 then 0 else 9
def lvI (a : Int32) : Int32 := if a = 37 then 4 else if a = 42 then 4 else if a = 43 then 3 else if a = 45 then 3 else if a = 47 then 4 else if a = 60 then 2 else if a = 61 then 2 else if a = 62 then 2 else if a = 267 then 1 else if a = 268 then 0 else if a = 275 then 2 else if a = 276 then 2 else if a = 277 then 2 else -1
theorem it_s {c : Prop} [Decidable c] {a b : Int32} {σ : Sta} {X : Option (Int32 × Sta)} (h : X = some (b, σ)) : (if c then some (a, σ) else X) = some (if c then a else b, σ) := by
  by_cases q : c
  · rw [if_pos q, if_pos q]
  · rw [if_neg q, if_neg q, h]
theorem p_level (a : Int32) (σ : Sta) : f_X1_levelOf a σ = some (lvI a, σ) :=
  it_s (it_s (it_s (it_s (it_s (it_s (it_s (it_s (it_s (it_s (it_s (it_s (it_s rfl))))))))))))
theorem lv_tab : ∀ k, k < 300 → ∀ x, x < 5 → (lvI (nI k) = nI x ↔ lvN k = x) := by decide +kernel
