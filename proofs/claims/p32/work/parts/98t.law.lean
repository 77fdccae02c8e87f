/-! The text's letters and length; the walk's text as one contract; what the law's loops start from (by wip/p32/law.py). -/
def TX (t : List Nat) (m : Nat) : Prop := (∀ x ∈ t, x < 128) ∧ t.length ≤ m
theorem TX_a {t w : List Nat} {a b : Nat} (h : TX t a) (g : TX w b) : TX (t ++ w) (a + b) := ⟨ap128 h.1 g.1, by rw [List.length_append]; exact Nat.add_le_add h.2 g.2⟩
theorem TX_d {k : Nat} (h : k < 100) : TX (dg k) 2 := ⟨dg128 h, dg_ln k⟩
theorem TX_u {t : List Nat} {a b : Nat} (h : TX t a) (hab : a ≤ b) : TX t b := ⟨h.1, Nat.le_trans h.2 hab⟩
set_option maxRecDepth 20000 in
theorem TX_0 : TX wN0 8 := ⟨by decide +kernel, by decide +kernel⟩
set_option maxRecDepth 20000 in
theorem TX_1 : TX wN1 9 := ⟨by decide +kernel, by decide +kernel⟩
set_option maxRecDepth 20000 in
theorem TX_2 : TX wN2 32 := ⟨by decide +kernel, by decide +kernel⟩
set_option maxRecDepth 20000 in
theorem TX_3 : TX wN3 1 := ⟨by decide +kernel, by decide +kernel⟩
set_option maxRecDepth 20000 in
theorem TX_4 : TX wN4 0 := ⟨by decide +kernel, by decide +kernel⟩
set_option maxRecDepth 20000 in
theorem TX_5 : TX wN5 7 := ⟨by decide +kernel, by decide +kernel⟩
set_option maxRecDepth 20000 in
theorem TX_6 : TX wN6 30 := ⟨by decide +kernel, by decide +kernel⟩
set_option maxRecDepth 20000 in
theorem TX_7 : TX wN7 10 := ⟨by decide +kernel, by decide +kernel⟩
set_option maxRecDepth 20000 in
theorem TX_8 : TX wN8 12 := ⟨by decide +kernel, by decide +kernel⟩
set_option maxRecDepth 20000 in
theorem TX_9 : TX wN9 18 := ⟨by decide +kernel, by decide +kernel⟩
set_option maxRecDepth 20000 in
theorem TX_10 : TX wN10 4 := ⟨by decide +kernel, by decide +kernel⟩
set_option maxRecDepth 20000 in
theorem TX_11 : TX wN11 42 := ⟨by decide +kernel, by decide +kernel⟩
set_option maxRecDepth 20000 in
theorem TX_12 : TX wN12 17 := ⟨by decide +kernel, by decide +kernel⟩
set_option maxRecDepth 20000 in
theorem TX_13 : TX wN13 13 := ⟨by decide +kernel, by decide +kernel⟩
set_option maxRecDepth 20000 in
theorem TX_14 : TX wN14 82 := ⟨by decide +kernel, by decide +kernel⟩
set_option maxRecDepth 20000 in
theorem TX_15 : TX wN15 30 := ⟨by decide +kernel, by decide +kernel⟩
set_option maxRecDepth 20000 in
theorem TX_16 : TX wN16 33 := ⟨by decide +kernel, by decide +kernel⟩
theorem TX_A {an : Bool} {aa m : Nat} {r : List Nat} (ha : aa < 100) (h : TX r m) : TX (txA an aa r) (1 + (2 + m)) := by
  cases an
  · exact TX_u (TX_a TX_4 (TX_a (TX_d ha) h)) (by omega)
  · exact TX_a TX_3 (TX_a (TX_d ha) h)
theorem TX_G {go : Option Nat} {m : Nat} {r : List Nat} (hg : ∀ g, go = some g → g < 100) (h : TX r m) : TX (txG go r) (10 + (2 + (12 + m))) := by
  cases go with
  | none => exact TX_u (TX_a TX_4 h) (by omega)
  | some g => exact TX_a TX_7 (TX_a (TX_d (hg g rfl)) (TX_a TX_8 h))
theorem txt_ok {f n : Nat} {an : Bool} {aa b : Nat} {go : Option Nat} {p q bk r3 jp : Nat} (hf : f < 100) (hn : n < 100) (ha : aa < 100) (hb : b < 100) (hg : ∀ g, go = some g → g < 100) (hp : p < 100) (hq : q < 100) (hk : bk < 100) (hr : r3 < 100) (hj : jp < 100) : TX (txt f n an aa b go p q bk r3 jp) 400 :=
  TX_u (TX_a TX_0 (TX_a (TX_d hf) (TX_a TX_1 (TX_a (TX_d hn) (TX_a TX_2 (TX_A ha (TX_a TX_5 (TX_a (TX_d hb) (TX_a TX_6 (TX_G hg (TX_a TX_9 (TX_a (TX_d hn) (TX_a TX_10 (TX_a (TX_d hp) (TX_a TX_11 (TX_a (TX_d hq) (TX_a TX_12 (TX_a (TX_d hk) (TX_a TX_13 (TX_a (TX_d hr) (TX_a TX_14 (TX_a (TX_d hj) (TX_a TX_15 (TX_a (TX_d hj) TX_16)))))))))))))))))))))))) (by decide)
theorem m20 : ∀ x : Nat, x < 20 → nI x - 20 = -nI (20 - x) := by decide
set_option maxHeartbeats 4000000 in
set_option maxRecDepth 100000 in
theorem text_any {l : Launch} {D : va_G} {Y : CYs} {h g mm n f p q bk aj b jp : Nat} {go : Option Nat} {v : Nat → Int32} (hw : WKr v n f p q bk aj b jp go) : ∃ (an : Bool) (aa : Nat), aa < 100 ∧ ∀ sz, Met l yX9_text (Cond.code yX9_text cX9_text 1 (some (.object "java/lang/String")) :: gW) rn_text_ts (PcE XN [(h, .inr (11, wkO v g mm))] Y D sz [.ref h]) (GR (S := Nat × (Nat → Int32)) (fun u _ => FB u.2 ∧ ∀ j, j < (txt f n an aa b go p q bk (100 - p - q) jp).length → u.2 j = nI ((txt f n an aa b go p q bk (100 - p - q) jp).getD j 0)) (fun u r => [(h, .inr (11, wkO v g mm)), (r, .inr (0, [.ref u.1, .int 0, .int 0, .int 0])), (u.1, .inl (Y.2.2.1.1, (txt f n an aa b go p q bk (100 - p - q) jp).length, .inl u.2))]) Y D (va_A [(h, .inr (11, wkO v g mm))] sz)) 60 60000 (va_A [(h, .inr (11, wkO v g mm))] sz) := by
  obtain ⟨h0, h1, h2, h3, h4, h5, h6, h8, h7, a1, a2, a3, a4, a5, a6, a7, a8, a9, a10⟩ := hw
  by_cases q1 : aj < 20
  · have e5 : v 5 = -nI (20 - aj) := h5.trans (m20 aj q1)
    cases go with
    | none => exact ⟨true, 20 - aj, by omega, fun sz => c_text_tn h0 h1 h2 h3 h4 e5 h6 h7 h8 (by omega) (by omega) (by omega) (by omega) (by omega) (by omega) (by omega) (by omega) (by omega) (by omega) (by omega) sz⟩
    | some gg =>
      have b1 := a10 gg rfl
      exact ⟨true, 20 - aj, by omega, fun sz => c_text_ts h0 h1 h2 h3 h4 e5 h6 h7 h8 (by omega) (by omega) (by omega) (by omega) (by omega) (by omega) (by omega) (by omega) (by omega) (by omega) (by omega) (by omega) sz⟩
  · have e5 : v 5 = nI (aj - 20) := h5.trans (show nI aj - nI 20 = _ from pk_sub (by omega))
    cases go with
    | none => exact ⟨false, aj - 20, by omega, fun sz => c_text_fn h0 h1 h2 h3 h4 e5 h6 h7 h8 (by omega) (by omega) (by omega) (by omega) (by omega) (by omega) (by omega) (by omega) (by omega) (by omega) sz⟩
    | some gg =>
      have b1 := a10 gg rfl
      exact ⟨false, aj - 20, by omega, fun sz => c_text_fs h0 h1 h2 h3 h4 e5 h6 h7 h8 (by omega) (by omega) (by omega) (by omega) (by omega) (by omega) (by omega) (by omega) (by omega) (by omega) (by omega) sz⟩
theorem SI_0 {w : AW} {st : Nat} {wts : Nat → Nat → Int32} {u : Sta} (h1 : AC w u) (h2 : gI u 11 = 0) (hK : Kp cpI n0 cpA cpA σC0 u) : SI w st 0 wts u :=
  ⟨h1, h2, fun i _ => (hK.2.2.2.2 i).trans rfl, fun d _ t _ => by rw [hK.2.2.2.1 (41 + 5 * d + 3) (by unfold cpA; omega)]; rfl, fun j hj => absurd hj (Nat.not_lt_zero _)⟩
theorem SI_9 {w : AW} {st k : Nat} {wts : Nat → Nat → Int32} {σ : Sta} {f : Nat → Int32} (h : SI w st k wts σ) : SI w st k wts (sA σ 9 f) := by
  have hk : Kp n0 n0 (fun q => q = 9) n0 σ (sA σ 9 f) := Kp.sA rfl Kp.rfl'
  refine ⟨AC_kp hk ⟨id, id, id⟩ ⟨(show ¬ (33 : Nat) = 9 by decide), (show ¬ (34 : Nat) = 9 by decide), (show ¬ (29 : Nat) = 9 by decide), (show ¬ (30 : Nat) = 9 by decide), (show ¬ (35 : Nat) = 9 by decide), (show ¬ (24 : Nat) = 9 by decide), (show ¬ (32 : Nat) = 9 by decide)⟩ id h.1, h.2.1, h.2.2.1, h.2.2.2.1, fun j hj => Str_keep (h.2.2.2.2 j hj) rfl rfl ?_ rfl rfl⟩
  rw [gA_sA, if_neg (by omega)]
theorem nj9 : ∀ j : Nat, j < 19 → ¬ nI j - 9 < -9 ∧ nI j - 9 ≤ 9 := by decide
theorem wd_fst {Y : CYs} {E : Nat → Nat} {σ τ : Sta} : ∀ {L : List Dsc} {q : Nat}, (wd Y E σ q L).map Prod.fst = (wd Y E τ q L).map Prod.fst
  | [], _ => rfl
  | _ :: _, q => congrArg (E q :: ·) wd_fst
theorem D_fst {A : Nat → Prop} {ws ws' : va_W} (e : ws.map Prod.fst = ws'.map Prod.fst) (h : va_D A ws) : va_D A ws' := by
  obtain ⟨h1, h2⟩ := va_D_iff.mp h
  refine va_D_iff.mpr ⟨by rw [← e]; exact h1, fun q hq => ?_⟩
  have hm : q.1 ∈ ws.map Prod.fst := by
    rw [e]
    exact List.mem_map.mpr ⟨q, hq, rfl⟩
  obtain ⟨q', hq', e'⟩ := List.mem_map.mp hm
  rw [← e']
  exact h2 q' hq'
theorem rs_D {A : Nat → Prop} {Y : CYs} {E : Nat → Nat} {σ : Sta} {Rs : va_W} (h : va_D A (Rs ++ wd Y E σ 0 LC)) (τ : Sta) : va_D A (Rs ++ wd Y E τ 0 LC) := D_fst (by rw [List.map_append, List.map_append, wd_fst (σ := σ) (τ := τ)]) h
