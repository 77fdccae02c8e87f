/-! What the program's rows become; fm = 0: the pass for the form, in which nothing is kept. -/
def oV (fm : Int32) (σ : Sta) (k : Nat) (a : Int64) (v lo hi : Int32) : Sta := if fm = 0 then σ else sI (sA (sA (sA (sJ σ 19 (vp_updL (gJ σ 19) k a)) 20 (upd (gA σ 20) k v)) 21 (upd (gA σ 21) k lo)) 22 (upd (gA σ 22) k hi)) 192 (nI (k + 1))
def oG (fm : Int32) (σ : Sta) (k : Nat) (a : Int64) (cm e : Int32) : Sta := if fm = 0 then σ else sI (sA (sA (sJ σ 23 (vp_updL (gJ σ 23) k a)) 24 (upd (gA σ 24) k cm)) 25 (upd (gA σ 25) k e)) 197 (nI (k + 1))
def oZ (fm : Int32) (σ : Sta) (e : Int32) : Sta := if fm = 0 then σ else sI σ 201 e
def oC (fm : Int32) (σ : Sta) (k : Nat) (a : Int64) (s e : Int32) : Sta := if fm = 0 then σ else sI (sA (sA (sA (sJ σ 26 (vp_updL (gJ σ 26) k a)) 27 (upd (gA σ 27) k s)) 28 (upd (gA σ 28) k e)) 29 (upd (gA σ 29) k 0)) 202 (nI (k + 1))
def oB (fm : Int32) (σ : Sta) (k b : Nat) (p : Int32) : Sta := if fm = 0 then σ else sA (fillA (sA σ 30 (upd (gA σ 30) (k * 4 + b) p)) 31 ((k * 4 + b) * 6) ((k * 4 + b) * 6 + 6) (fun _ => -1)) 29 (upd (gA σ 29) k (nI (b + 1)))
def oS (fm : Int32) (σ : Sta) (k b v : Nat) (e : Int32) : Sta := if fm = 0 then σ else sA σ 31 (upd (gA σ 31) ((k * 4 + b) * 6 + v) e)
def prI : Nat → Prop := fun k => k = 192 ∨ k = 197 ∨ k = 201 ∨ k = 202
def prA : Nat → Prop := fun q => q = 20 ∨ q = 21 ∨ q = 22 ∨ q = 24 ∨ q = 25 ∨ q = 28 ∨ q = 29 ∨ q = 30 ∨ q = 31
def prJ : Nat → Prop := fun q => q = 19 ∨ q = 23 ∨ q = 26
/-- the program's rows are as those of ρ -/
def AG (ρ σ : Sta) : Prop := (∀ k, prI k → gI σ k = gI ρ k) ∧ (∀ q, prA q → gA σ q = gA ρ q) ∧ ∀ q, prJ q → gJ σ q = gJ ρ q
theorem AG.rfl' {σ : Sta} : AG σ σ := ⟨fun _ _ => rfl, fun _ _ => rfl, fun _ _ => rfl⟩
theorem AG_q {ρ σ σ' : Sta} (h : AG ρ σ) (hk : Kq σ σ') : AG ρ σ' :=
  ⟨fun k hp => (hk.1 k (by unfold prI at hp; unfold qI; omega)).trans (h.1 k hp), fun q hp => (hk.2.2.1 q (by unfold prA at hp; unfold qA; omega)).trans (h.2.1 q hp), fun q hp => (hk.2.2.2.1 q (by unfold prJ at hp; unfold qJ; omega)).trans (h.2.2 q hp)⟩
theorem AG_sI {ρ σ : Sta} (h : AG ρ σ) (k : Nat) (v : Int32) : AG (sI ρ k v) (sI σ k v) := ⟨fun j hj => by rw [gI_sI, gI_sI, h.1 j hj], h.2.1, h.2.2⟩
theorem AG_sA {ρ σ : Sta} (h : AG ρ σ) (k : Nat) {f g : Nat → Int32} (e : f = g) : AG (sA ρ k f) (sA σ k g) := ⟨h.1, fun j hj => by rw [gA_sA, gA_sA, h.2.1 j hj, e], h.2.2⟩
theorem AG_sJ {ρ σ : Sta} (h : AG ρ σ) (k : Nat) {f g : Nat → Int64} (e : f = g) : AG (sJ ρ k f) (sJ σ k g) := ⟨h.1, h.2.1, fun j hj => by rw [gJ_sJ, gJ_sJ, h.2.2 j hj, e]⟩
theorem AG_27 {ρ σ : Sta} (h : AG ρ σ) (f g : Nat → Int32) : AG (sA ρ 27 f) (sA σ 27 g) := ⟨h.1, fun j hj => by rw [gA_sA, gA_sA, if_neg (by unfold prA at hj; omega), if_neg (by unfold prA at hj; omega), h.2.1 j hj], h.2.2⟩
section OP
variable {ρ σ : Sta} {fm : Int32}
theorem AG_V (h : AG ρ σ) (k : Nat) (a : Int64) (v lo hi : Int32) : AG (oV fm ρ k a v lo hi) (oV fm σ k a v lo hi) := by
  unfold oV
  by_cases q : fm = 0
  · rw [if_pos q, if_pos q]; exact h
  · rw [if_neg q, if_neg q]
    exact AG_sI (AG_sA (AG_sA (AG_sA (AG_sJ h 19 (by rw [h.2.2 19 (by unfold prJ; omega)])) 20 (by rw [h.2.1 20 (by unfold prA; omega)])) 21 (by rw [h.2.1 21 (by unfold prA; omega)])) 22 (by rw [h.2.1 22 (by unfold prA; omega)])) _ _
theorem AG_G (h : AG ρ σ) (k : Nat) (a : Int64) (cm e : Int32) : AG (oG fm ρ k a cm e) (oG fm σ k a cm e) := by
  unfold oG
  by_cases q : fm = 0
  · rw [if_pos q, if_pos q]; exact h
  · rw [if_neg q, if_neg q]
    exact AG_sI (AG_sA (AG_sA (AG_sJ h 23 (by rw [h.2.2 23 (by unfold prJ; omega)])) 24 (by rw [h.2.1 24 (by unfold prA; omega)])) 25 (by rw [h.2.1 25 (by unfold prA; omega)])) _ _
theorem AG_Z (h : AG ρ σ) (e : Int32) : AG (oZ fm ρ e) (oZ fm σ e) := by
  unfold oZ
  by_cases q : fm = 0
  · rw [if_pos q, if_pos q]; exact h
  · rw [if_neg q, if_neg q]
    exact AG_sI h _ _
theorem AG_C (h : AG ρ σ) (k : Nat) (a : Int64) (s s' e : Int32) : AG (oC fm ρ k a s e) (oC fm σ k a s' e) := by
  unfold oC
  by_cases q : fm = 0
  · rw [if_pos q, if_pos q]; exact h
  · rw [if_neg q, if_neg q]
    exact AG_sI (AG_sA (AG_sA (AG_27 (AG_sJ h 26 (by rw [h.2.2 26 (by unfold prJ; omega)])) _ _) 28 (by rw [h.2.1 28 (by unfold prA; omega)])) 29 (by rw [h.2.1 29 (by unfold prA; omega)])) _ _
theorem AG_B (h : AG ρ σ) (k b : Nat) (p : Int32) : AG (oB fm ρ k b p) (oB fm σ k b p) := by
  unfold oB fillA
  by_cases q : fm = 0
  · rw [if_pos q, if_pos q]; exact h
  · rw [if_neg q, if_neg q]
    refine AG_sA (AG_sA (AG_sA h 30 (by rw [h.2.1 30 (by unfold prA; omega)])) 31 (funext fun j => ?_)) 29 (by rw [h.2.1 29 (by unfold prA; omega)])
    rw [show gA (sA ρ 30 (upd (gA ρ 30) (k * 4 + b) p)) 31 = gA ρ 31 from rfl, show gA (sA σ 30 (upd (gA σ 30) (k * 4 + b) p)) 31 = gA σ 31 from rfl, h.2.1 31 (by unfold prA; omega)]
theorem AG_S (h : AG ρ σ) (k b v : Nat) (e : Int32) : AG (oS fm ρ k b v e) (oS fm σ k b v e) := by
  unfold oS
  by_cases q : fm = 0
  · rw [if_pos q, if_pos q]; exact h
  · rw [if_neg q, if_neg q]
    exact AG_sA h 31 (by rw [h.2.1 31 (by unfold prA; omega)])
end OP
/-- σ' differs from σ in the program's rows alone -/
def Kr (σ σ' : Sta) : Prop := Kp prI n0 (fun q => prA q ∨ q = 27) prJ σ σ'
section OQ
variable {σ : Sta} {fm : Int32}
theorem Kr_V (k : Nat) (a : Int64) (v lo hi : Int32) : Kr σ (oV fm σ k a v lo hi) := by
  unfold oV
  by_cases q : fm = 0
  · rw [if_pos q]; exact Kp.rfl'
  · rw [if_neg q]
    exact Kp.sI (by unfold prI; omega) (Kp.sA (by unfold prA; omega) (Kp.sA (by unfold prA; omega) (Kp.sA (by unfold prA; omega) (Kp.sJ (by unfold prJ; omega) Kp.rfl'))))
theorem Kr_G (k : Nat) (a : Int64) (cm e : Int32) : Kr σ (oG fm σ k a cm e) := by
  unfold oG
  by_cases q : fm = 0
  · rw [if_pos q]; exact Kp.rfl'
  · rw [if_neg q]
    exact Kp.sI (by unfold prI; omega) (Kp.sA (by unfold prA; omega) (Kp.sA (by unfold prA; omega) (Kp.sJ (by unfold prJ; omega) Kp.rfl')))
theorem Kr_Z (e : Int32) : Kr σ (oZ fm σ e) := by
  unfold oZ
  by_cases q : fm = 0
  · rw [if_pos q]; exact Kp.rfl'
  · rw [if_neg q]
    exact Kp.sI (by unfold prI; omega) Kp.rfl'
theorem Kr_C (k : Nat) (a : Int64) (s e : Int32) : Kr σ (oC fm σ k a s e) := by
  unfold oC
  by_cases q : fm = 0
  · rw [if_pos q]; exact Kp.rfl'
  · rw [if_neg q]
    exact Kp.sI (by unfold prI; omega) (Kp.sA (by unfold prA; omega) (Kp.sA (by unfold prA; omega) (Kp.sA (Or.inr rfl) (Kp.sJ (by unfold prJ; omega) Kp.rfl'))))
theorem Kr_B (k b : Nat) (p : Int32) : Kr σ (oB fm σ k b p) := by
  unfold oB fillA
  by_cases q : fm = 0
  · rw [if_pos q]; exact Kp.rfl'
  · rw [if_neg q]
    exact Kp.sA (by unfold prA; omega) (Kp.sA (by unfold prA; omega) (Kp.sA (by unfold prA; omega) Kp.rfl'))
theorem Kr_S (k b v : Nat) (e : Int32) : Kr σ (oS fm σ k b v e) := by
  unfold oS
  by_cases q : fm = 0
  · rw [if_pos q]; exact Kp.rfl'
  · rw [if_neg q]
    exact Kp.sA (by unfold prA; omega) Kp.rfl'
end OQ
section OR
variable {K V : Nat → Nat} {M : Nat} {fm : Int32} {t c x : Nat} {σ σ' : Sta}
theorem IT_r (h : IT K V M fm t c x σ) (hk : Kr σ σ') : IT K V M fm t c x σ' := by
  obtain ⟨⟨a, b, c', d, e, f, g, i⟩, h1, h2⟩ := h
  refine ⟨⟨fun j hj => ?_, by rw [hk.1 67 (by unfold prI; omega)]; exact b, c', by rw [hk.1 259 (by unfold prI; omega)]; exact d, by rw [hk.1 260 (by unfold prI; omega)]; exact e, by rw [hk.1 261 (by unfold prI; omega)]; exact f, by rw [hk.1 262 (by unfold prI; omega)]; exact g, i⟩, by rw [hk.1 130 (by unfold prI; omega)]; exact h1, by rw [hk.1 133 (by unfold prI; omega)]; exact h2⟩
  rw [hk.2.2.1 11 (by unfold prA; omega), hk.2.2.2.1 13 (by unfold prJ; omega)]
  exact a j hj
theorem KC_r (hk : Kr σ σ') (c x : Nat) : KC c x σ σ' := by
  refine ⟨fun j _ => ?_, fun j _ => ?_⟩
  · rw [hk.2.2.1 14 (by unfold prA; omega), hk.2.2.2.1 15 (by unfold prJ; omega)]
    exact ⟨rfl, rfl⟩
  · rw [hk.2.2.1 16 (by unfold prA; omega), hk.2.2.1 17 (by unfold prA; omega)]
    exact ⟨rfl, rfl⟩
end OR
/-! the class's own writing of them -/
section OW
variable {σ : Sta} {nv ng nc : Nat}
theorem p_addV (h : gI σ 192 = nI nv) (hn : nv < 6) (a : Int64) (v lo hi : Int32) : f_X4_addVariable a v lo hi σ = some ((), oV 1 σ nv a v lo hi) := by
  unfold f_X4_addVariable f_X4_addVariable_61
  rw [h, if_neg (show ¬ (6 : Int32) ≤ nI nv from nI_ge (b := 6) hn (by decide)), if_neg (nI_in hn (by decide)), lt_e, gI_sJ, h, if_neg (nI_in hn (by decide)), lt_e, gI_sA, gI_sJ, h, if_neg (nI_in hn (by decide)), lt_e, gI_sA, gI_sA, gI_sJ, h, if_neg (nI_in hn (by decide)), lt_e, lt_e, gI_sA, gI_sA, gI_sA, gI_sJ, h, nI_clamp (by omega), nI_1]
  rfl
theorem p_addG (h : gI σ 197 = nI ng) (hn : ng < 3) (a : Int64) (cm e : Int32) : f_X4_addGain a cm e σ = some ((), oG 1 σ ng a cm e) := by
  unfold f_X4_addGain f_X4_addGain_49
  rw [h, if_neg (show ¬ (3 : Int32) ≤ nI ng from nI_ge (b := 3) hn (by decide)), if_neg (nI_in hn (by decide)), lt_e, gI_sJ, h, if_neg (nI_in hn (by decide)), lt_e, gI_sA, gI_sJ, h, if_neg (nI_in hn (by decide)), lt_e, lt_e, gI_sA, gI_sA, gI_sJ, h, nI_clamp (by omega), nI_1]
  rfl
theorem p_addC (h : gI σ 202 = nI nc) (hn : nc < 16) (a : Int64) (s e : Int32) : f_X4_addCommand a s e σ = some ((), oC 1 σ nc a s e) := by
  unfold f_X4_addCommand f_X4_addCommand_60
  rw [h, if_neg (show ¬ (16 : Int32) ≤ nI nc from nI_ge (b := 16) hn (by decide)), if_neg (nI_in hn (by decide)), lt_e, gI_sJ, h, if_neg (nI_in hn (by decide)), lt_e, gI_sA, gI_sJ, h, if_neg (nI_in hn (by decide)), lt_e, gI_sA, gI_sA, gI_sJ, h, if_neg (nI_in hn (by decide)), lt_e, lt_e, gI_sA, gI_sA, gI_sA, gI_sJ, h, nI_clamp (by omega), nI_1]
  rfl
/-- the latest command has b branches; in the pass for the form there is none -/
def LB (fm : Int32) (k b : Nat) (σ : Sta) : Prop := (fm = 0 ∧ gI σ 202 = 0) ∨ (fm = 1 ∧ gI σ 202 = nI (k + 1) ∧ k < 16 ∧ gA σ 29 k = nI b ∧ b ≤ 4)
theorem p_latest1 {k b : Nat} (h : gI σ 202 = nI (k + 1)) (hk : k < 16) (hb : gA σ 29 k = nI b) : f_X4_latestBranches σ = some (nI b, σ) := by
  unfold f_X4_latestBranches f_X4_latestBranches_22
  rw [h, if_neg (nI_nle (by omega) (by omega)), nI_pred, if_neg (nI_in hk (by decide)), nI_clamp (by omega), hb]
theorem p_latest0 (h : gI σ 202 = 0) : f_X4_latestBranches σ = some (0, σ) := by
  unfold f_X4_latestBranches f_X4_latestBranches_22
  rw [h, if_pos (by decide)]
theorem p_addB_l {X k b : Nat} (hX : X < 64) (hk : k < 16) : ∀ (m i n : Nat) (τ : Sta), i + m = 6 → m < n → gI τ 202 = nI (k + 1) → f_X4_addBranch_38 n (nI b) (nI X) (nI i) τ = some ((), sA (fillA τ 31 (X * 6 + i) (X * 6 + 6) (fun _ => -1)) 29 (upd (gA τ 29) k (nI (b + 1))))
  | _, _, 0, _, _, hn, _ => absurd hn (Nat.not_lt_zero _)
  | 0, i, n + 1, τ, h, hn, hc => by
    have hi : i = 6 := h
    subst hi
    rw [f_X4_addBranch_38, if_pos (by decide), hc, nI_pred, if_neg (nI_in hk (by decide)), nI_clamp (by omega), lt_e, nI_1, fillA_0]
    rfl
  | m + 1, i, n + 1, τ, h, hn, hc => by
    have e6 : nI X * 6 + nI i = nI (X * 6 + i) := by rw [show (6 : Int32) = nI 6 from rfl, pk_mul, nI_add]
    rw [f_X4_addBranch_38, if_neg (show ¬ (6 : Int32) ≤ nI i from nI_ge (b := 6) (by omega) (by decide)), e6, if_neg (nI_in (by omega) (by decide)), nI_clamp (by omega), lt_e, lt_e, nI_1, p_addB_l hX hk m (i + 1) n _ (by omega) (by omega) (by exact hc)]
    have e := fillA_s (σ := τ) (q := 31) (k := X * 6 + i) (n := X * 6 + 6) (v := fun _ => -1) (by omega)
    rw [show X * 6 + (i + 1) = X * 6 + i + 1 by omega, e]
    rfl
theorem p_addB {k b : Nat} (h : gI σ 202 = nI (k + 1)) (hk : k < 16) (hb : gA σ 29 k = nI b) (hb4 : b < 4) (p : Int32) : f_X4_addBranch p σ = some ((), oB 1 σ k b p) := by
  unfold f_X4_addBranch
  rw [p_latest1 h hk hb, bnd_s, h, if_neg (nI_nle (by omega) (by omega)), if_neg (show ¬ (4 : Int32) ≤ nI b from nI_ge (b := 4) hb4 (by decide)), nI_pred, show (4 : Int32) = nI 4 from rfl, pk_mul, nI_add, lt_e, if_neg (nI_in (by omega) (by decide)), nI_clamp (by omega), lt_e]
  have e := p_addB_l (X := k * 4 + b) (k := k) (b := b) (by omega) hk 6 0 FU (sA σ 30 (upd (gA σ 30) (k * 4 + b) p)) rfl (FU_lt (by decide)) h
  rw [Nat.add_zero] at e
  exact e
theorem p_setting1 {k b v : Nat} (h : gI σ 202 = nI (k + 1)) (hk : k < 16) (hb : gA σ 29 k = nI (b + 1)) (hb4 : b < 4) (hv : v < 6) : f_X4_latestSetting (nI v) σ = some (nI ((k * 4 + b) * 6 + v), σ) := by
  unfold f_X4_latestSetting
  rw [p_latest1 h hk hb, bnd_s, if_neg (nI_ne0 (by omega) (by omega)), if_neg (nI_pos (by omega)), if_pos (show nI v < 6 from nI_lt hv (by decide)), h, nI_pred, show (4 : Int32) = nI 4 from rfl, pk_mul, nI_add, ← Nat.add_assoc, nI_pred, lt_e, show (6 : Int32) = nI 6 from rfl, pk_mul, nI_add]
theorem p_setting0 (h : gI σ 202 = 0) (a : Int32) : f_X4_latestSetting a σ = some (-1, σ) := by
  unfold f_X4_latestSetting f_X4_latestSetting_19
  rw [p_latest0 h, bnd_s, if_pos rfl]
theorem p_addS {k b v : Nat} (h : gI σ 202 = nI (k + 1)) (hk : k < 16) (hb : gA σ 29 k = nI (b + 1)) (hb4 : b < 4) (hv : v < 6) (e : Int32) : f_X4_addSetting (nI v) e σ = some ((), oS 1 σ k b v e) := by
  unfold f_X4_addSetting f_X4_addSetting_17
  rw [p_setting1 h hk hb hb4 hv, bnd_s, if_neg (nI_pos (by omega)), if_neg (nI_in (by omega) (by decide)), nI_clamp (by omega), lt_e]
  rfl
theorem p_isSet0 (h : gI σ 202 = 0) (a : Int32) : f_X4_isSetInLatest a σ = some (0, σ) := by
  unfold f_X4_isSetInLatest f_X4_isSetInLatest_23 f_X4_isSetInLatest_24
  rw [p_setting0 h, bnd_s, if_pos (by decide), if_neg (by decide)]
theorem p_isSet1 {k b v : Nat} (h : gI σ 202 = nI (k + 1)) (hk : k < 16) (hb : gA σ 29 k = nI (b + 1)) (hb4 : b < 4) (hv : v < 6) (hs : gA σ 31 ((k * 4 + b) * 6 + v) < 0) : f_X4_isSetInLatest (nI v) σ = some (0, σ) := by
  unfold f_X4_isSetInLatest f_X4_isSetInLatest_23 f_X4_isSetInLatest_24
  rw [p_setting1 h hk hb hb4 hv, bnd_s, if_neg (nI_pos (by omega)), if_neg (nI_in (by omega) (by decide)), nI_clamp (by omega), if_pos hs, if_neg (by decide)]
def smN (f : Nat → Nat) : Nat → Nat → Nat → Nat
  | 0, _, a => a
  | m + 1, i, a => smN f m (i + 1) (a + f i)
theorem p_chances_l {k b : Nat} {pc : Nat → Nat} (h : gI σ 202 = nI (k + 1)) (hk : k < 16) (hb : gA σ 29 k = nI b) (hb4 : b ≤ 4) (hp : ∀ i, i < b → gA σ 30 (k * 4 + i) = nI (pc i)) : ∀ (m i n a : Nat), i + m = b → m < n → f_X4_latestChances_4 n (nI a) (nI i) σ = some (nI (smN pc m i a), σ)
  | _, _, 0, _, _, hn => absurd hn (Nat.not_lt_zero _)
  | 0, i, n + 1, a, hi, hn => by
    rw [f_X4_latestChances_4, p_latest1 h hk hb, bnd_s, if_pos (nI_le (by omega) (by omega))]
    rfl
  | m + 1, i, n + 1, a, hi, hn => by
    rw [f_X4_latestChances_4, p_latest1 h hk hb, bnd_s, if_neg (nI_ge (by omega) (by omega)), h, nI_pred, show (4 : Int32) = nI 4 from rfl, pk_mul, nI_add, if_neg (nI_in (by omega) (by decide)), nI_clamp (by omega), lt_e, hp i (by omega), nI_add, lt_e, nI_1, p_chances_l h hk hb hb4 hp m (i + 1) n (a + pc i) (by omega) (by omega)]
    rfl
theorem p_chances1 {k b : Nat} {pc : Nat → Nat} (h : gI σ 202 = nI (k + 1)) (hk : k < 16) (hb : gA σ 29 k = nI b) (hb4 : b ≤ 4) (hp : ∀ i, i < b → gA σ 30 (k * 4 + i) = nI (pc i)) : f_X4_latestChances σ = some (nI (smN pc b 0 0), σ) := by
  unfold f_X4_latestChances
  exact p_chances_l h hk hb hb4 hp b 0 FU 0 (by omega) (Nat.lt_of_le_of_lt hb4 (FU_lt (by decide)))
theorem p_chances0 (h : gI σ 202 = 0) : f_X4_latestChances σ = some (0, σ) := by
  obtain ⟨F, hF⟩ : ∃ k, FU = k + 1 := ⟨999999999, rfl⟩
  unfold f_X4_latestChances
  rw [hF, f_X4_latestChances_4, p_latest0 h, bnd_s, if_pos (by decide)]
end OW
