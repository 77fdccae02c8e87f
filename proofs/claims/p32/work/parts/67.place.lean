/-! Positions, and the program's rows. -/
def A2 (σ : Sta) (j : Nat) : Sta := sI σ 260 (nI j)
theorem sI_gI (σ : Sta) (k : Nat) : sI σ k (gI σ k) = σ := by
  unfold sI
  show (va_up σ.1 k (σ.1 k), σ.2) = σ
  rw [va_upg]
theorem A2_A2 (σ : Sta) (j i : Nat) : A2 (A2 σ j) i = A2 σ i := sI_sI _ _ _ _
/-- how many variables, gains, commands -/
def PG (nv ng nc : Nat) (σ : Sta) : Prop := gI σ 192 = nI nv ∧ gI σ 197 = nI ng ∧ gI σ 202 = nI nc ∧ nv ≤ 6 ∧ ng ≤ 3 ∧ nc ≤ 16
/-- a name that nothing has -/
def NT (nv ng nc : Nat) (a : Int64) (σ : Sta) : Prop := ixJ (gJ σ 19) a nv 0 < 0 ∧ ixJ (gJ σ 23) a ng 0 < 0 ∧ ixJ (gJ σ 26) a nc 0 < 0
section PL
variable {K V : Nat → Nat} {M : Nat} {fm : Int32} {t c x nv ng nc : Nat} {σ : Sta} {vr : Nat → Int32}
theorem A2_0 (h : PX K V M fm M t σ) : A2 σ t = σ := by
  unfold A2
  rw [← h.2.2.2.2.1, sI_gI]
theorem A2_X (h : PX K V M fm M t σ) (j : Nat) : PX K V M fm M j (A2 σ j) := by
  obtain ⟨a, b, c, d, e, f, g, i⟩ := h
  exact ⟨a, b, c, d, rfl, f, g, i⟩
theorem A2_I (h : IT K V M fm t c x σ) (j : Nat) : IT K V M fm j c x (A2 σ j) := ⟨A2_X h.1 j, h.2.1, h.2.2⟩
theorem A2_q (σ : Sta) (j : Nat) : Kq σ (A2 σ j) := Kp.sI (by unfold qI; omega) Kp.rfl'
theorem A2_C (σ : Sta) (j c x : Nat) : KC c x σ (A2 σ j) := ⟨fun _ _ => ⟨rfl, rfl⟩, fun _ _ => ⟨rfl, rfl⟩⟩
theorem a_exp (h : PX K V M fm M t σ) {j k : Nat} (hj : j < M) (hk : K j = k) : f_X1_expect (nI k) (A2 σ j) = some (nI j, A2 σ (j + 1)) := by
  rw [p_expect (A2_X h j) hj hk, show gI (A2 σ j) 260 = nI j from rfl, nI_1]
  exact congrArg (fun s => some (nI j, s)) (A2_A2 σ j (j + 1))
theorem a_accY (h : PX K V M fm M t σ) {j k : Nat} (hj : j < M) (hk : K j = k) : f_X1_accept (nI k) (A2 σ j) = some (1, A2 σ (j + 1)) := by
  rw [p_acceptY (A2_X h j) hj hk, show gI (A2 σ j) 260 = nI j from rfl, nI_1]
  exact congrArg (fun s => some (1, s)) (A2_A2 σ j (j + 1))
theorem a_accN (h : PX K V M fm M t σ) {j k : Nat} (hj : j < M) (hk : K j ≠ k) (hk2 : k < 300) : f_X1_accept (nI k) (A2 σ j) = some (0, A2 σ j) := p_acceptN (A2_X h j) hj hk hk2
theorem a_con (h : PX K V M fm M t σ) {i j : Nat} (hi : i < M) : f_X7_contentOf (nI i) (A2 σ j) = some (lN (V i), A2 σ j) := p_content (A2_X h j) hi
theorem a_kind (h : PX K V M fm M t σ) {i j : Nat} (hi : i < M) : f_X7_kindOf (nI i) (A2 σ j) = some (nI (K i), A2 σ j) := p_kind (A2_X h j) hi
theorem a_dem (h : PX K V M fm M t σ) {j : Nat} {s : Int32} (e a : Int32) (hs : fm = 0 ∨ ¬ s = 0) : f_X1_demand s e a (A2 σ j) = some ((), A2 σ j) := p_demand e a (by rw [(A2_X h j).2.2.2.1]; exact hs)
theorem a_mr0 (h : PX K V M 0 M t σ) {j : Nat} : f_X1_isMeaningRight (A2 σ j) = some (0, A2 σ j) := p_meaning0 (A2_X h j).2.2.2.1
theorem a_mr1 (h : PX K V M 1 M t σ) {j : Nat} : f_X1_isMeaningRight (A2 σ j) = some (1, A2 σ j) := p_meaning1 (A2_X h j).2.2.2.1 (A2_X h j).2.2.2.2.2.2.1
theorem a_look (h : PX K V M fm M t σ) {j : Nat} (hj : j < M) : f_X1_look (A2 σ j) = some (nI (K j), A2 σ j) := p_look (A2_X h j) hj
theorem e43_1 (σ : Sta) : f_X4_isNameTaken_38 σ = some (1, σ) := by
  unfold f_X4_isNameTaken_38 f_X4_isNameTaken_43
  rw [if_neg (by decide)]
theorem e43_0 (σ : Sta) : f_X4_isNameTaken_43 0 σ = some (0, σ) := by
  unfold f_X4_isNameTaken_43
  rw [if_neg (by decide)]
theorem p_taken (h : PG nv ng nc σ) (a : Int64) : ∃ r, f_X4_isNameTaken a σ = some (r, σ) ∧ (r = 0 ∨ r = 1) ∧ (NT nv ng nc a σ → r = 0) := by
  obtain ⟨h1, h2, h3, h4, h5, h6⟩ := h
  unfold f_X4_isNameTaken
  rw [p_named h4 h1, bnd_s]
  by_cases q1 : 0 ≤ ixJ (gJ σ 19) a nv 0
  · rw [if_pos q1, e43_1]
    exact ⟨1, rfl, Or.inr rfl, fun h => absurd h.1 (fun e => absurd q1 (Int32.not_le.mpr e))⟩
  rw [if_neg q1, h2, p_index a h5 (by decide), bnd_s]
  by_cases q2 : 0 ≤ ixJ (gJ σ 23) a ng 0
  · rw [if_pos q2, e43_1]
    exact ⟨1, rfl, Or.inr rfl, fun h => absurd h.2.1 (fun e => absurd q2 (Int32.not_le.mpr e))⟩
  rw [if_neg q2, h3, p_index a h6 (by decide), bnd_s]
  by_cases q3 : ixJ (gJ σ 26) a nc 0 < 0
  · rw [if_pos q3, e43_0]
    exact ⟨0, rfl, Or.inl rfl, fun _ => rfl⟩
  · rw [if_neg q3, e43_1]
    exact ⟨1, rfl, Or.inr rfl, fun h => absurd h.2.2 q3⟩
theorem a_new (h : PX K V M fm M t σ) (hp : PG nv ng nc σ) {i j : Nat} (hi : i < M) (hn : fm = 0 ∨ NT nv ng nc (lN (V i)) σ) : f_X1_demandNewName (nI i) (A2 σ j) = some ((), A2 σ j) := by
  unfold f_X1_demandNewName f_X1_demandNewName_24
  rw [a_con h hi, bnd_s]
  obtain ⟨r, e1, e2, e3⟩ := p_taken (σ := A2 σ j) (nv := nv) (ng := ng) (nc := nc) hp (lN (V i))
  rw [e1, bnd_s]
  by_cases q : r = 0
  · rw [if_pos q, a_dem h _ _ (Or.inr (by decide)), bnd_s]
  · rw [if_neg q, a_dem h _ _ (Or.inl (hn.resolve_right (fun e => q (e3 e)))), bnd_s]
theorem lN_i32 {v : Nat} : (lN v).toInt32 = nI v := lN_i v
/-- a whole number without a sign -/
theorem a_whole (h : PX K V M fm M t σ) {i j : Nat} (hi : i + 1 < M) (hk : K i ≠ 45) : f_X1_wholeAt (nI (i + 1)) (A2 σ j) = some (nI (V (i + 1)), A2 σ j) := by
  have hK := PX_K h (show i < M by omega)
  unfold f_X1_wholeAt f_X1_wholeAt_31
  rw [a_con h hi, bnd_s, lt_e, lN_i32, nI_pred, a_kind h (by omega), bnd_s, if_neg (show ¬ nI (K i) = 45 from nI_neq (b := 45) (by omega) (by decide) hk)]
theorem a_rw (h : PX K V M fm M t σ) {j : Nat} (hj : j < M) (hk : K j = 274) : f_X1_readWhole (A2 σ j) = some (nI j, A2 σ (j + 1)) := by
  unfold f_X1_readWhole
  rw [show (45 : Int32) = nI 45 from rfl, a_accN h hj (by rw [hk]; decide) (by decide), bnd_s, show (274 : Int32) = nI 274 from rfl, a_exp h hj hk, bnd_s]
theorem a_expr (h : IT K V M fm t c x σ) (hx : x < 1400) (hV : VR fm vr σ) {j : Nat} {l l' o : List Tk} (hS : Sf K V M j l) (hr : rX 99 0 0 0 l = some (l', o)) (ho : o ≠ []) (hc : c + o.length ≤ 1400) (hl : 0 < l'.length) (hlen : l.length < l'.length + 60) :
    ∃ j' σ', f_X1_readExpression (A2 σ j) = some (nI x, A2 σ' j') ∧ Sf K V M j' l' ∧ j < j' ∧ IT K V M fm j' (c + o.length) (x + 1) σ' ∧ EQ vr σ' (c + o.length) (x + 1) x o ∧ KC c x σ σ' ∧ Kq σ σ' := by
  obtain ⟨j', σ', k1, k2, k3, k4, k5, k6, k7⟩ := e_expr (A2_I h j) hx (VR_q hV (A2_q σ j)) hS hr ho hc hl hlen
  exact ⟨j', σ', by rw [k1, A2_0 k4.1], k2, k3, k4, k5, (A2_C σ j c x).go k6 (Nat.le_refl _) (Nat.le_refl _), (A2_q σ j).trans k7⟩
end PL
theorem nI_dec {a b : Nat} (ha : a < 2 ^ 31) (hb : b < 2 ^ 31) : (nI a < nI b) = (a < b) := propext (nI_ltI ha hb)
theorem n99 {v : Nat} (hv : v < 100) : ¬ nI v < -99 ∧ ¬ 99 < nI v := by
  constructor
  · rw [fa_lt, nI_toInt (by omega)]
    have : (-99 : Int32).toInt = -99 := by decide
    omega
  · rw [show (99 : Int32) = nI 99 from rfl, nI_ltI (by decide) (by omega)]
    omega
