/-! The class's parser does as the recognizer says. -/
section PZ
variable {K V : Nat → Nat} {M : Nat} {fm : Int32} {L x0 t0 : Nat} {vr : Nat → Int32}
/-- what one part of an expression brings about -/
def Did (K V : Nat → Nat) (M : Nat) (fm : Int32) (L x0 : Nat) (vr : Nat → Int32) (y : Option (Unit × Sta)) (t c : Nat) (l' o : List Tk) (σ : Sta) : Prop :=
  ∃ t' σ', y = some ((), σ') ∧ Sf K V M t' l' ∧ t < t' ∧ PX K V M fm L t' σ' ∧ EM vr x0 c o σ σ'
theorem PX_add {t c x : Nat} {σ : Sta} (h : PX K V M fm L t σ) (a : Int32) (v : Int64) : PX K V M fm L t (addC σ c x a v) := PX_k h (Ke_ad _ _ _ _ _) h.2.2.2.2.1 h.2.2.2.2.2.2.1
theorem Ke_at {σ : Sta} (v : Int32) : Ke σ (sI σ 260 v) := Kp.sI (by unfold eI; omega) Kp.rfl'
theorem CO_at {c x : Nat} {σ : Sta} (h : CO c x σ) (v : Int32) : CO c x (sI σ 260 v) := ⟨by rw [gI_sI, if_neg (by decide)]; exact h.1, by rw [gI_sI, if_neg (by decide)]; exact h.2.1, h.2.2⟩
theorem Sf_cons {t : Nat} {p : Tk} {r : List Tk} (h : Sf K V M t (p :: r)) : K t = p.1 ∧ V t = p.2 ∧ Sf K V M (t + 1) r := ⟨h.2.1, h.2.2.1, h.2.2.2⟩
theorem EM_nil_app {c : Nat} {o : List Tk} {σ σ1 σ2 : Sta} (h1 : EM vr x0 c [] σ σ1) (h2 : EM vr x0 c o σ1 σ2) : EM vr x0 c o σ σ2 := EM_app (o1 := []) h1 h2
theorem rX_1c {x d : Nat} {l l' o : List Tk} : ∀ {f : Nat}, rX f 1 x d l = some (l', o) → 0 < l.length
  | 0, h => by cases h
  | f + 1, h => by
    obtain ⟨p, r, rfl, -⟩ := rX_1 h
    exact Nat.succ_pos _
theorem e_rX (hL : L ≤ t0 + 60) : ∀ f : Nat,
    (∀ (n x d : Nat) (l l' o : List Tk) (t c : Nat) (σ : Sta), f ≤ n → x ≤ 5 → d ≤ 8 → rX f 0 x d l = some (l', o) → Sf K V M t l → PX K V M fm L t σ → CO c x0 σ → VR fm vr σ → c + o.length ≤ 1400 → M < L + l'.length → t0 ≤ t → Did K V M fm L x0 vr ((fr_X1R n).1 (nI x) (nI d) σ) t c l' o σ) ∧
    (∀ (n m x d ms ct : Nat) (l l' o : List Tk) (t c : Nat) (σ : Sta), f ≤ n → x ≤ 4 → d ≤ 8 → rX f 1 x d l = some (l', o) → (ms = 60 ∧ x ≠ 2 ∨ ms = 1 ∧ x = 2 ∧ ct = 0) → Sf K V M t l → PX K V M fm L t σ → CO c x0 σ → VR fm vr σ → c + o.length ≤ 1400 → M < L + l'.length → t0 + ct ≤ t → 61 ≤ m + ct →
      ∃ t' σ', f_X1_readLevel_40 (fr_X1R n).1 (fr_X1R n).2.1 (fr_X1R n).2.2 m (nI x) (nI d) (nI ms) (nI (K t)) (nI ct) σ = some ((), σ') ∧ Sf K V M t' l' ∧ t ≤ t' ∧ PX K V M fm L t' σ' ∧ EM vr x0 c o σ σ') ∧
    (∀ (n d : Nat) (l l' o : List Tk) (t c : Nat) (σ : Sta), f ≤ n → d ≤ 8 → rX f 2 0 d l = some (l', o) → Sf K V M t l → PX K V M fm L t σ → CO c x0 σ → VR fm vr σ → c + o.length ≤ 1400 → M < L + l'.length → t0 ≤ t → Did K V M fm L x0 vr ((fr_X1R n).2.1 (nI d) σ) t c l' o σ) ∧
    (∀ (n x d : Nat) (l l' o : List Tk) (t c : Nat) (σ : Sta), f ≤ n → (x = 1 ∨ x = 2) → d ≤ 8 → rX f 3 x d l = some (l', o) → Sf K V M t l → PX K V M fm L t σ → CO c x0 σ → VR fm vr σ → c + o.length ≤ 1400 → M < L + l'.length → t0 ≤ t → Did K V M fm L x0 vr ((fr_X1R n).2.2 (nI x) (nI d) σ) t c l' o σ)
  | 0 => by
    refine ⟨?_, ?_, ?_, ?_⟩
    · intro n x d l l' o t c σ _ _ _ h
      cases h
    · intro n m x d ms ct l l' o t c σ _ _ _ h
      cases h
    · intro n d l l' o t c σ _ _ h
      cases h
    · intro n x d l l' o t c σ _ _ _ h
      cases h
  | f + 1 => by
    obtain ⟨i0, i1, i2, i3⟩ := e_rX hL f
    refine ⟨?_, ?_, ?_, ?_⟩
    · intro n x d l l' o t c σ hn hx hd h hS hX hC hV ho hM ht
      obtain ⟨n, rfl⟩ : ∃ k, n = k + 1 := ⟨n - 1, by omega⟩
      show Did K V M fm L x0 vr (fb_X1_readLevel (fr_X1R n).1 (fr_X1R n).2.1 (fr_X1R n).2.2 (nI x) (nI d) σ) t c l' o σ
      unfold fb_X1_readLevel
      by_cases q : x ≤ 4
      · obtain ⟨a, b, h1, h2, rfl, rfl⟩ := rX_0 q h
        have lb := rX_len f 1 x d a.1 b.1 b.2 (by decide) h2
        rw [List.length_append] at ho
        rw [if_pos (show nI x ≤ 4 from nI_le q (by decide)), nI_1]
        obtain ⟨t1, σ1, k1, k2, k3, k4, k5⟩ := i0 n (x + 1) d l a.1 a.2 t c σ (by omega) (by omega) hd h1 hS hX hC hV (by omega) (by omega) ht
        rw [k1, bnd_s]
        have hne := rX_1c h2
        have hl1 := Sf_len _ _ k2
        have ht1 : t1 < L := by omega
        have lk := p_look k4 ht1
        have go : ∀ ms, (ms = 60 ∧ x ≠ 2 ∨ ms = 1 ∧ x = 2 ∧ 0 = 0) → Did K V M fm L x0 vr (f_X1_readLevel_30 (fr_X1R n).1 (fr_X1R n).2.1 (fr_X1R n).2.2 (nI x) (nI d) (nI ms) σ1) t c b.1 (a.2 ++ b.2) σ := fun ms hms => by
          obtain ⟨t2, σ2, j1, j2, j3, j4, j5⟩ := i1 n FU x d ms 0 a.1 b.1 b.2 t1 (c + a.2.length) σ1 (by omega) q hd h2 hms k2 k4 (CO_em hC k5 (by omega)) (VR_k hV k5.2.2.2.2.2.2) (by omega) hM (by omega) (Nat.le_of_lt (FU_lt (by decide)))
          refine ⟨t2, σ2, ?_, j2, by omega, j4, EM_app k5 j5⟩
          unfold f_X1_readLevel_30
          rw [lk, bnd_s]
          exact j1
        by_cases q2 : x = 2
        · rw [if_pos (show nI x = 2 by rw [q2]; rfl)]
          exact go 1 (Or.inr ⟨rfl, q2, rfl⟩)
        · rw [if_neg (show ¬ nI x = 2 from nI_neq (b := 2) (by omega) (by decide) q2)]
          exact go 60 (Or.inl ⟨rfl, q2⟩)
      · have h1 := rX_05 q h
        rw [if_neg (show ¬ nI x ≤ 4 from nI_ge (a := 4) (by omega) (by omega))]
        obtain ⟨t1, σ1, k1, k2, k3, k4, k5⟩ := i2 n d l l' o t c σ (by omega) hd h1 hS hX hC hV ho hM ht
        exact ⟨t1, σ1, by rw [k1, bnd_s], k2, k3, k4, k5⟩
    · intro n m x d ms ct l l' o t c σ hn hx hd h hms hS hX hC hV ho hM ht hm
      obtain ⟨p, r, rfl, h1⟩ := rX_1 h
      obtain ⟨kt, vt, hS'⟩ := Sf_cons hS
      have hlen := Sf_len _ _ hS
      have hll := rX_len (f + 1) 1 x d (p :: r) l' o (by decide) h
      have htL : t < L := by omega
      have hK := PX_K hX htL
      obtain ⟨m, rfl⟩ : ∃ k, m = k + 1 := ⟨m - 1, by omega⟩
      have ntl : ¬ nI ms ≤ nI ct := nI_ge (by rcases hms with ⟨rfl, -⟩ | ⟨rfl, -, rfl⟩ <;> omega) (by rcases hms with ⟨rfl, -⟩ | ⟨rfl, -⟩ <;> decide)
      rw [f_X1_readLevel_40, if_neg ntl, p_level, bnd_s]
      rcases h1 with ⟨g1, rfl, rfl⟩ | ⟨g1, a, g2, g3⟩
      · rw [if_neg (fun e => g1 (by rw [← kt]; exact (lv_tab (K t) hK x (by omega)).mp e))]
        exact ⟨t, σ, rfl, hS, Nat.le_refl _, hX, EM_rfl hC.1⟩
      · rw [if_pos ((lv_tab (K t) hK x (by omega)).mpr (by rw [kt]; exact g1)), lt_e, nI_1]
        have ne273 : p.1 ≠ 273 := fun e => by
          rw [e] at g1
          have : lvN 273 = 9 := by decide
          omega
        have odp : od vr (p.1, 0) = 0 := by
          unfold od
          rw [if_neg ne273]
          rfl
        have la := rX_len f 0 (x + 1) d r a.1 a.2 (by decide) g2
        have X1 := p_at hX htL
        have C1 := CO_at hC (gI σ 260 + 1)
        have V1 := VR_k hV (Ke_at (gI σ 260 + 1))
        -- the next operand, and the operator behind it
        have step : M < L + a.1.length → c + (a.2.length + 1) ≤ 1400 → ∃ t1 σ1, (fr_X1R n).1 (nI (x + 1)) (nI d) (sI σ 260 (gI σ 260 + 1)) = some ((), σ1) ∧ f_X0_add (nI (K t)) 0 σ1 = some ((), addC σ1 (c + a.2.length) x0 (nI (K t)) 0) ∧ Sf K V M t1 a.1 ∧ t < t1 ∧ PX K V M fm L t1 (addC σ1 (c + a.2.length) x0 (nI (K t)) 0) ∧ EM vr x0 c (a.2 ++ [(p.1, 0)]) σ (addC σ1 (c + a.2.length) x0 (nI (K t)) 0) := fun w1 w2 => by
          obtain ⟨t1, σ1, k1, k2, k3, k4, k5⟩ := i0 n (x + 1) d r a.1 a.2 (t + 1) c _ (by omega) (by omega) hd g2 hS' X1 C1 V1 (by omega) w1 (by omega)
          have C2 := CO_em C1 k5 (by omega)
          have ad := p_add (vr := vr) C2 (p.1, 0)
          rw [odp] at ad
          have em := EM_add (vr := vr) (x := x0) (c := c + a.2.length) (σ := σ1) (p.1, 0)
          rw [odp] at em
          rw [kt]
          exact ⟨t1, σ1, k1, ad, k2, by omega, PX_add k4 _ _, EM_app (EM_nil_app (EM_at hC.1 _) k5) em⟩
        rcases g3 with ⟨q2, rfl, rfl⟩ | ⟨q2, b, g4, rfl, rfl⟩
        · rw [List.length_append] at ho
          obtain ⟨t1, σ1, s1, s2, s3, s4, s5, s6⟩ := step hM ho
          have hl1 := Sf_len _ _ s3
          have ht1 : t1 < L := by omega
          have hms1 : ms = 1 ∧ ct = 0 := by
            rcases hms with ⟨-, e⟩ | ⟨e, -, e2⟩
            · exact absurd q2 e
            · exact ⟨e, e2⟩
          obtain ⟨rfl, rfl⟩ := hms1
          obtain ⟨m, rfl⟩ : ∃ k, m = k + 1 := ⟨m - 1, by omega⟩
          rw [s1, bnd_s, s2, bnd_s, p_look s5 ht1, bnd_s, lt_e, nI_1, f_X1_readLevel_40, if_pos (nI_le (by omega) (by omega))]
          exact ⟨t1, _, rfl, s3, by omega, s5, s6⟩
        · have lb := rX_len f 1 x d a.1 b.1 b.2 (by decide) g4
          rw [List.length_append, List.length_append] at ho
          have ho' : c + (a.2.length + 1 + b.2.length) ≤ 1400 := ho
          obtain ⟨t1, σ1, s1, s2, s3, s4, s5, s6⟩ := step (by omega) (by omega)
          have hl1 := Sf_len _ _ s3
          have hne := rX_1c g4
          have ht1 : t1 < L := by omega
          have hms1 : ms = 60 := by
            rcases hms with ⟨e, -⟩ | ⟨-, e, -⟩
            · exact e
            · exact absurd e q2
          subst hms1
          have ea : (a.2 ++ [(p.1, 0)]).length = a.2.length + 1 := by rw [List.length_append]; rfl
          obtain ⟨t2, σ2, j1, j2, j3, j4, j5⟩ := i1 n m x d 60 (ct + 1) a.1 b.1 b.2 t1 (c + (a.2 ++ [(p.1, 0)]).length) _ (by omega) hx hd g4 (Or.inl ⟨rfl, q2⟩) s3 s5 (CO_em hC s6 (by rw [ea]; omega)) (VR_k hV s6.2.2.2.2.2.2) (by rw [ea]; omega) hM (by omega) (by omega)
          rw [s1, bnd_s, s2, bnd_s, p_look s5 ht1, bnd_s, lt_e, nI_1, j1]
          exact ⟨t2, σ2, rfl, j2, by omega, j4, EM_app s6 j5⟩
    · intro n d l l' o t c σ hn hd h hS hX hC hV ho hM ht
      obtain ⟨n, rfl⟩ : ∃ k, n = k + 1 := ⟨n - 1, by omega⟩
      show Did K V M fm L x0 vr (fb_X1_readFactor (fr_X1R n).1 (fr_X1R n).2.1 (fr_X1R n).2.2 (nI d) σ) t c l' o σ
      obtain ⟨p, r, rfl, h1⟩ := rX_2 h
      obtain ⟨kt, vt, hS'⟩ := Sf_cons hS
      have hlen := Sf_len _ _ hS
      have hlr : t + (r.length + 1) = M := hlen
      have hll := rX_len (f + 1) 2 0 d (p :: r) l' o (by decide) h
      have htL : t < L := by omega
      have hK := PX_K hX htL
      have hLM := hX.2.2.2.2.2.2.2
      have X1 := p_at hX htL
      have lk := p_look hX htL
      have at' : gI σ 260 = nI t := hX.2.2.2.2.1
      have C1 := CO_at hC (gI σ 260 + 1)
      have V1 := VR_k hV (Ke_at (gI σ 260 + 1))
      have E1 := EM_at (vr := vr) (x := x0) hC.1 (gI σ 260 + 1)
      have eqk : ∀ k, k < 300 → (nI (K t) = nI k ↔ p.1 = k) := fun k hk => by rw [nI_eq (by omega) (by omega), kt]
      unfold fb_X1_readFactor f_X1_readFactor_275
      rw [lk, bnd_s]
      rcases h1 with ⟨g1, rfl, rfl⟩ | ⟨g1, g2, rfl, rfl⟩ | ⟨g1, g2⟩ | ⟨g1, g2, a, g3, rfl, rfl⟩ | ⟨g1, a, g3, rfl, rfl⟩
      · have e : nI (K t) = 274 := (eqk 274 (by decide)).mpr g1
        rw [if_neg (by rw [e]; decide), if_neg (by rw [e]; decide), if_neg (by rw [e]; decide), if_neg (by rw [e]; decide), if_neg (by rw [e]; decide), if_neg (by rw [e]; decide), if_neg (by rw [e]; decide), if_pos e, at', p_content hX (by omega), bnd_s, vt]
        have ad := p_add (vr := vr) hC (274, p.2)
        have ad' : f_X0_add 274 (lN p.2) σ = some ((), addC σ c x0 274 (lN p.2)) := ad
        rw [ad', bnd_s, lt_e]
        have X2 := PX_add hX (c := c) (x := x0) 274 (lN p.2)
        refine ⟨t + 1, _, rfl, hS', Nat.lt_succ_self _, p_at X2 htL, ?_⟩
        have em := EM_add (vr := vr) (x := x0) (c := c) (σ := σ) (274, p.2)
        have e2 := EM_app em (EM_at (vr := vr) (x := x0) (σ := addC σ c x0 274 (lN p.2)) (c := c + 1) rfl (gI (addC σ c x0 274 (lN p.2)) 260 + 1))
        exact e2
      · have e : nI (K t) = 273 := (eqk 273 (by decide)).mpr g1
        obtain ⟨v1, v2⟩ := p_var hV g2
        rw [if_neg (by rw [e]; decide), if_neg (by rw [e]; decide), if_neg (by rw [e]; decide), if_neg (by rw [e]; decide), if_neg (by rw [e]; decide), if_neg (by rw [e]; decide), if_pos e, at', p_content hX (by omega), bnd_s, vt, v1, bnd_s]
        have ad : f_X0_add 273 (vr p.2).toInt64 σ = some ((), addC σ c x0 273 (vr p.2).toInt64) := p_add (vr := vr) hC (273, p.2)
        have X2 := PX_add hX (c := c) (x := x0) 273 (vr p.2).toInt64
        have em := EM_add (vr := vr) (x := x0) (c := c) (σ := σ) (273, p.2)
        have e2 := EM_app em (EM_at (vr := vr) (x := x0) (σ := addC σ c x0 273 (vr p.2).toInt64) (c := c + 1) rfl (gI (addC σ c x0 273 (vr p.2).toInt64) 260 + 1))
        have fin : ∀ s : Int32, (gI σ 259 = 0 ∨ ¬ s = 0) → Did K V M fm L x0 vr (f_X1_readFactor_143 (fr_X1R n).1 (fr_X1R n).2.1 (fr_X1R n).2.2 (vr p.2) s σ) t c l' [(273, p.2)] σ := fun s hs => by
          unfold f_X1_readFactor_143 f_X1_readFactor_275
          rw [p_demand _ _ hs, bnd_s, ad, bnd_s, lt_e]
          exact ⟨t + 1, _, rfl, hS', Nat.lt_succ_self _, p_at X2 htL, e2⟩
        by_cases q : vr p.2 < 0
        · rw [if_pos q]
          exact fin 0 (Or.inl (by rw [hX.2.2.2.1]; exact v2.resolve_right (fun e => e q)))
        · rw [if_neg q]
          exact fin 1 (Or.inr (by decide))
      · have e : nI (K t) = 40 := (eqk 40 (by decide)).mpr g1
        rw [if_pos e]
        obtain ⟨t1, σ1, k1, k2, k3, k4, k5⟩ := i3 n 1 d (p :: r) l' o t c σ (by omega) (Or.inl rfl) hd g2 hS hX hC hV ho hM ht
        rw [show (1 : Int32) = nI 1 from rfl, k1, bnd_s]
        exact ⟨t1, σ1, rfl, k2, k3, k4, k5⟩
      · have e : nI (K t) = 45 := (eqk 45 (by decide)).mpr g1
        rw [List.length_append] at ho
        have ho' : c + (a.2.length + 1) ≤ 1400 := ho
        rw [if_neg (by rw [e]; decide), if_pos e, p_deeper hX htL rfl g2, bnd_s, if_neg (show ¬ (1 : Int32) = 0 by decide), nI_1 d]
        obtain ⟨t1, σ1, k1, k2, k3, k4, k5⟩ := i2 n (d + 1) r a.1 a.2 (t + 1) c _ (by omega) (by omega) g3 hS' X1 C1 V1 (by omega) hM (by omega)
        have C2 := CO_em C1 k5 (by omega)
        have ad : f_X0_add 280 0 σ1 = some ((), addC σ1 (c + a.2.length) x0 280 0) := p_add (vr := vr) C2 (280, 0)
        have em := EM_add (vr := vr) (x := x0) (c := c + a.2.length) (σ := σ1) (280, 0)
        rw [k1, bnd_s, if_pos e]
        unfold f_X1_readFactor_220 f_X1_readFactor_275
        rw [ad, bnd_s]
        exact ⟨t1, _, rfl, k2, by omega, PX_add k4 _ _, EM_app (EM_nil_app E1 k5) em⟩
      · rw [List.length_append] at ho
        have ho' : c + (a.2.length + 1) ≤ 1400 := ho
        have odp : od vr (p.1, 0) = 0 := by
          unfold od
          rw [if_neg (by rcases g1 with e | e | e <;> rw [e] <;> decide)]
          rfl
        have fin : ∀ k, rX f 3 k d r = some a → (k = 1 ∨ k = 2) → Did K V M fm L x0 vr (f_X1_readFactor_250 (fr_X1R n).1 (fr_X1R n).2.1 (fr_X1R n).2.2 (nI d) (nI (K t)) (nI k) (sI σ 260 (gI σ 260 + 1))) t c a.1 (a.2 ++ [(p.1, 0)]) σ := fun k hk hk2 => by
          obtain ⟨t1, σ1, k1, k2, k3, k4, k5⟩ := i3 n k d r a.1 a.2 (t + 1) c _ (by omega) hk2 hd hk hS' X1 C1 V1 (by omega) hM (by omega)
          have C2 := CO_em C1 k5 (by omega)
          have ad := p_add (vr := vr) C2 (p.1, 0)
          have em := EM_add (vr := vr) (x := x0) (c := c + a.2.length) (σ := σ1) (p.1, 0)
          rw [odp] at ad em
          unfold f_X1_readFactor_250 f_X1_readFactor_275
          rw [k1, bnd_s, kt, ad, bnd_s]
          exact ⟨t1, _, rfl, k2, by omega, PX_add k4 _ _, EM_app (EM_nil_app E1 k5) em⟩
        rcases g1 with g1 | g1 | g1
        · have e : nI (K t) = 270 := (eqk 270 (by decide)).mpr g1
          rw [if_neg (by rw [g1]; decide)] at g3
          rw [if_neg (by rw [e]; decide), if_neg (by rw [e]; decide), if_neg (by rw [e]; decide), if_pos e, lt_e, if_neg (by rw [e]; decide)]
          exact fin 2 g3 (Or.inr rfl)
        · have e : nI (K t) = 271 := (eqk 271 (by decide)).mpr g1
          rw [if_neg (by rw [g1]; decide)] at g3
          rw [if_neg (by rw [e]; decide), if_neg (by rw [e]; decide), if_neg (by rw [e]; decide), if_neg (by rw [e]; decide), if_pos e, lt_e, if_neg (by rw [e]; decide)]
          exact fin 2 g3 (Or.inr rfl)
        · have e : nI (K t) = 272 := (eqk 272 (by decide)).mpr g1
          rw [if_pos g1] at g3
          rw [if_neg (by rw [e]; decide), if_neg (by rw [e]; decide), if_neg (by rw [e]; decide), if_neg (by rw [e]; decide), if_neg (by rw [e]; decide), if_pos e, lt_e, if_pos e]
          exact fin 1 g3 (Or.inl rfl)
    · intro n x d l l' o t c σ hn hx hd h hS hX hC hV ho hM ht
      obtain ⟨n, rfl⟩ : ∃ k, n = k + 1 := ⟨n - 1, by omega⟩
      show Did K V M fm L x0 vr (fb_X1_readBracket (fr_X1R n).1 (fr_X1R n).2.1 (fr_X1R n).2.2 (nI x) (nI d) σ) t c l' o σ
      obtain ⟨p, r, a, q, r2, rfl, g1, g2, g3, g4, g5⟩ := rX_3 h
      obtain ⟨kt, vt, hS'⟩ := Sf_cons hS
      have hlen := Sf_len _ _ hS
      have hll := rX_len (f + 1) 3 x d (p :: r) l' o (by decide) h
      have la := rX_len f 0 0 (d + 1) r a.1 a.2 (by decide) g3
      have htL : t < L := by omega
      have X1 := p_at hX htL
      have C1 := CO_at hC (gI σ 260 + 1)
      have V1 := VR_k hV (Ke_at (gI σ 260 + 1))
      have E1 := EM_at (vr := vr) (x := x0) hC.1 (gI σ 260 + 1)
      have lq : a.1.length = r2.length + 1 := by rw [g4]; rfl
      unfold fb_X1_readBracket f_X1_readBracket_53
      have dp : f_X1_acceptDeeper 40 (nI d) σ = some (1, sI σ 260 (gI σ 260 + 1)) := p_deeper (k := 40) hX htL (kt.trans g1) g2
      rw [dp, bnd_s, if_neg (show ¬ (1 : Int32) = 0 by decide), nI_1 d]
      rcases g5 with ⟨rfl, j1, rfl, rfl⟩ | ⟨j0, j1, b, q2, r3, j2, j3, j4, rfl, rfl⟩
      · obtain ⟨t1, σ1, k1, k2, k3, k4, k5⟩ := i0 n 0 (d + 1) r a.1 a.2 (t + 1) c _ (by omega) (by omega) (by omega) g3 hS' X1 C1 V1 ho (by omega) (by omega)
        have hl1 := Sf_len _ _ k2
        have ht1 : t1 < L := by omega
        rw [g4] at k2
        obtain ⟨kq, -, hS2⟩ := Sf_cons k2
        obtain ⟨F, hF⟩ : ∃ k, FU = k + 1 := ⟨999999999, rfl⟩
        rw [show (0 : Int32) = nI 0 from rfl, k1, bnd_s, hF, f_X1_readBracket_20, if_pos (by decide), show (41 : Int32) = nI 41 from rfl, p_expect k4 ht1 (kq.trans j1), bnd_s]
        unfold f_X1_readBracket_53
        have e2 := EM_app (EM_nil_app E1 k5) (EM_at (vr := vr) (x := x0) (σ := σ1) (c := c + a.2.length) k5.1 (gI σ1 260 + 1))
        rw [List.append_nil] at e2
        exact ⟨t1 + 1, _, rfl, hS2, by omega, p_at k4 ht1, e2⟩
      · have hx2 : x = 2 := hx.resolve_left j0
        subst hx2
        rw [List.length_append] at ho
        have lb := rX_len f 0 0 (d + 1) r2 b.1 b.2 (by decide) j2
        have lq2 : b.1.length = l'.length + 1 := by rw [j3]; rfl
        obtain ⟨t1, σ1, k1, k2, k3, k4, k5⟩ := i0 n 0 (d + 1) r a.1 a.2 (t + 1) c _ (by omega) (by omega) (by omega) g3 hS' X1 C1 V1 (by omega) (by omega) (by omega)
        have hl1 := Sf_len _ _ k2
        have ht1 : t1 < L := by omega
        rw [g4] at k2
        obtain ⟨kq, -, hS2⟩ := Sf_cons k2
        have X2 := p_at k4 ht1
        have C2 := CO_em C1 k5 (by omega)
        have V2 := VR_k V1 k5.2.2.2.2.2.2
        obtain ⟨t2, σ2, m1, m2, m3, m4, m5⟩ := i0 n 0 (d + 1) r2 b.1 b.2 (t1 + 1) (c + a.2.length) _ (by omega) (by omega) (by omega) j2 hS2 X2 (CO_at C2 (gI σ1 260 + 1)) (VR_k V2 (Ke_at _)) (by omega) (by omega) (by omega)
        have hl2 := Sf_len _ _ m2
        have ht2 : t2 < L := by omega
        rw [j3] at m2
        obtain ⟨kq2, -, hS3⟩ := Sf_cons m2
        obtain ⟨F, hF⟩ : ∃ k, FU = k + 1 + 1 := ⟨999999998, rfl⟩
        rw [show (0 : Int32) = nI 0 from rfl, k1, bnd_s, hF, f_X1_readBracket_20, if_neg (by decide), show (44 : Int32) = nI 44 from rfl, p_expect k4 ht1 (kq.trans j1), bnd_s, nI_1 d, show (0 : Int32) = nI 0 from rfl, m1, bnd_s, lt_e, f_X1_readBracket_20, if_pos (by decide), show (41 : Int32) = nI 41 from rfl, p_expect m4 ht2 (kq2.trans j4), bnd_s]
        unfold f_X1_readBracket_53
        have em1 := EM_app (EM_nil_app E1 k5) (EM_at (vr := vr) (x := x0) (σ := σ1) (c := c + a.2.length) k5.1 (gI σ1 260 + 1))
        rw [List.append_nil] at em1
        have em2 := EM_app (EM_app em1 m5) (EM_at (vr := vr) (x := x0) (σ := σ2) (c := c + (a.2 ++ b.2).length) (by rw [List.length_append, ← Nat.add_assoc]; exact m5.1) (gI σ2 260 + 1))
        rw [List.append_nil] at em2
        exact ⟨t2 + 1, _, rfl, hS3, by omega, p_at m4 ht2, em2⟩
end PZ
