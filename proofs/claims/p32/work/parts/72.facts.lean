/-! What is known of the program's rows while it is read; the items as steps. -/
def NMs (f : Nat → Int64) : Nat → List Nat → Prop
  | _, [] => True
  | k, a :: r => f k = lN a ∧ NMs f (k + 1) r
theorem NMs_up {f : Nat → Int64} {i : Nat} {a : Int64} : ∀ (l : List Nat) (k : Nat), k + l.length ≤ i → NMs f k l → NMs (vp_updL f i a) k l
  | [], _, _, _ => True.intro
  | b :: r, k, h, ⟨h1, h2⟩ => by
    have h' : k + (r.length + 1) ≤ i := h
    exact ⟨by rw [updL_at, if_neg (by omega)]; exact h1, NMs_up r (k + 1) (by omega) h2⟩
theorem NMs_add {f : Nat → Int64} {a : Nat} : ∀ (l : List Nat) (k : Nat), NMs f k l → f (k + l.length) = lN a → NMs f k (l ++ [a])
  | [], k, _, h => ⟨h, True.intro⟩
  | b :: r, k, ⟨h1, h2⟩, h => ⟨h1, NMs_add r (k + 1) h2 (by rw [show k + 1 + r.length = k + (r.length + 1) by omega]; exact h)⟩
theorem NMs_none {f : Nat → Int64} {nm : Nat} (hn : nm < 2 ^ 31) : ∀ (l : List Nat) (k : Nat), (∀ a ∈ l, a < 2 ^ 31 ∧ a ≠ nm) → NMs f k l → ixJ f (lN nm) l.length k < 0
  | [], _, _, _ => by
    show (-1 : Int32) < 0
    decide
  | b :: r, k, hl, ⟨h1, h2⟩ => by
    have hb := hl b List.mem_cons_self
    show (if f k = lN nm then nI k else ixJ f (lN nm) r.length (k + 1)) < 0
    rw [h1, if_neg (fun e => hb.2 ((lN_eq hb.1 hn).mp e))]
    exact NMs_none hn r (k + 1) (fun a ha => hl a (List.mem_cons_of_mem _ ha)) h2
def cnt (fm : Int32) (l : List Nat) : Nat := if fm = 0 then 0 else l.length
/-- names of variables, gains, commands so far; fm = 0: none is kept -/
def FA (fm : Int32) (lv lg lc : List Nat) (ρ : Sta) : Prop := (fm = 0 ∧ PG 0 0 0 ρ) ∨ (fm = 1 ∧ PG lv.length lg.length lc.length ρ ∧ NMs (gJ ρ 19) 0 lv ∧ NMs (gJ ρ 23) 0 lg ∧ NMs (gJ ρ 26) 0 lc)
theorem FA_01 {fm : Int32} {lv lg lc : List Nat} {ρ : Sta} (h : FA fm lv lg lc ρ) : fm = 0 ∨ fm = 1 := h.imp (fun e => e.1) (fun e => e.1)
theorem FA_PG {fm : Int32} {lv lg lc : List Nat} {ρ : Sta} (h : FA fm lv lg lc ρ) : PG (cnt fm lv) (cnt fm lg) (cnt fm lc) ρ := by
  rcases h with ⟨rfl, h⟩ | ⟨rfl, h, -⟩
  · exact h
  · exact h
theorem FA_NT {fm : Int32} {lv lg lc : List Nat} {ρ : Sta} (h : FA fm lv lg lc ρ) {nm : Nat} (hn : nm < 2 ^ 31) (h1 : ∀ a ∈ lv, a < 2 ^ 31 ∧ a ≠ nm) (h2 : ∀ a ∈ lg, a < 2 ^ 31 ∧ a ≠ nm) (h3 : ∀ a ∈ lc, a < 2 ^ 31 ∧ a ≠ nm) : fm = 0 ∨ NT (cnt fm lv) (cnt fm lg) (cnt fm lc) (lN nm) ρ := by
  rcases h with ⟨rfl, h⟩ | ⟨rfl, h, a, b, c⟩
  · exact Or.inl rfl
  · exact Or.inr ⟨NMs_none hn lv 0 h1 a, NMs_none hn lg 0 h2 b, NMs_none hn lc 0 h3 c⟩
theorem FA_ag {fm : Int32} {lv lg lc : List Nat} {ρ σ : Sta} (g : AG ρ σ) (h : FA fm lv lg lc ρ) : FA fm lv lg lc σ := by
  rcases h with ⟨rfl, h⟩ | ⟨rfl, h, a, b, c⟩
  · exact Or.inl ⟨rfl, PG_ag g h⟩
  · refine Or.inr ⟨rfl, PG_ag g h, ?_, ?_, ?_⟩
    · rw [g.2.2 19 (by unfold prJ; omega)]; exact a
    · rw [g.2.2 23 (by unfold prJ; omega)]; exact b
    · rw [g.2.2 26 (by unfold prJ; omega)]; exact c
section FB
variable {fm : Int32} {lv lg lc : List Nat} {ρ : Sta}
theorem FA_V (h : FA fm lv lg lc ρ) (hl : lv.length < 6) (nm : Nat) (v lo hi : Int32) : FA fm (lv ++ [nm]) lg lc (oV fm ρ (cnt fm lv) (lN nm) v lo hi) := by
  rcases h with ⟨rfl, h⟩ | ⟨rfl, ⟨p1, p2, p3, p4, p5, p6⟩, a, b, c⟩
  · exact Or.inl ⟨rfl, h⟩
  · refine Or.inr ⟨rfl, ⟨?_, p2, p3, ?_, p5, p6⟩, ?_, b, c⟩
    · rw [List.length_append]; rfl
    · rw [List.length_append]; exact hl
    · exact NMs_add lv 0 (NMs_up lv 0 (Nat.le_of_eq (Nat.zero_add _)) a) (by
        show vp_updL (gJ ρ 19) lv.length (lN nm) (0 + lv.length) = lN nm
        rw [updL_at, if_pos (Nat.zero_add _)])
theorem FA_G (h : FA fm lv lg lc ρ) (hl : lg.length < 3) (nm : Nat) (cm e : Int32) : FA fm lv (lg ++ [nm]) lc (oG fm ρ (cnt fm lg) (lN nm) cm e) := by
  rcases h with ⟨rfl, h⟩ | ⟨rfl, ⟨p1, p2, p3, p4, p5, p6⟩, a, b, c⟩
  · exact Or.inl ⟨rfl, h⟩
  · refine Or.inr ⟨rfl, ⟨p1, ?_, p3, p4, ?_, p6⟩, a, ?_, c⟩
    · rw [List.length_append]; rfl
    · rw [List.length_append]; exact hl
    · exact NMs_add lg 0 (NMs_up lg 0 (Nat.le_of_eq (Nat.zero_add _)) b) (by
        show vp_updL (gJ ρ 23) lg.length (lN nm) (0 + lg.length) = lN nm
        rw [updL_at, if_pos (Nat.zero_add _)])
theorem FA_C (h : FA fm lv lg lc ρ) (hl : lc.length < 16) (nm : Nat) (s e : Int32) : FA fm lv lg (lc ++ [nm]) (oC fm ρ (cnt fm lc) (lN nm) s e) := by
  rcases h with ⟨rfl, h⟩ | ⟨rfl, ⟨p1, p2, p3, p4, p5, p6⟩, a, b, c⟩
  · exact Or.inl ⟨rfl, h⟩
  · refine Or.inr ⟨rfl, ⟨p1, p2, ?_, p4, p5, ?_⟩, a, b, ?_⟩
    · rw [List.length_append]; rfl
    · rw [List.length_append]; exact hl
    · exact NMs_add lc 0 (NMs_up lc 0 (Nat.le_of_eq (Nat.zero_add _)) c) (by
        show vp_updL (gJ ρ 26) lc.length (lN nm) (0 + lc.length) = lN nm
        rw [updL_at, if_pos (Nat.zero_add _)])
theorem FA_Z (h : FA fm lv lg lc ρ) (e : Int32) : FA fm lv lg lc (oZ fm ρ e) := by
  rcases h with ⟨rfl, h⟩ | ⟨rfl, h⟩
  · exact Or.inl ⟨rfl, h⟩
  · exact Or.inr ⟨rfl, h⟩
theorem FA_B (h : FA fm lv lg lc ρ) (k b : Nat) (p : Int32) : FA fm lv lg lc (oB fm ρ k b p) := by
  rcases h with ⟨rfl, h⟩ | ⟨rfl, h⟩
  · exact Or.inl ⟨rfl, h⟩
  · exact Or.inr ⟨rfl, h⟩
theorem FA_S (h : FA fm lv lg lc ρ) (k b v : Nat) (e : Int32) : FA fm lv lg lc (oS fm ρ k b v e) := by
  rcases h with ⟨rfl, h⟩ | ⟨rfl, h⟩
  · exact Or.inl ⟨rfl, h⟩
  · exact Or.inr ⟨rfl, h⟩
theorem BL_C (h : FA fm lv lg lc ρ) (hl : lc.length < 16) (a : Int64) (s e : Int32) : BL fm (cnt fm lc) 0 (oC fm ρ (cnt fm lc) a s e) := by
  rcases h with ⟨rfl, h⟩ | ⟨rfl, h, -⟩
  · exact Or.inl ⟨rfl, h.2.2.1⟩
  · refine Or.inr ⟨rfl, rfl, hl, ?_, by decide⟩
    show upd (gA ρ 29) lc.length 0 lc.length = 0
    rw [upd_at, if_pos rfl]
/-- the names x and y as variables -/
def vrF (fm : Int32) (v : Nat) : Int32 := if fm = 0 then -1 else if v = 120 then nI 0 else nI 1
theorem FA_VR (h : FA fm [120, 121] lg lc ρ) : VR fm (vrF fm) ρ := by
  rcases h with ⟨rfl, h⟩ | ⟨rfl, h, ⟨a, b, -⟩, -⟩
  · exact ⟨0, by decide, h.1, fun v _ => ⟨rfl, Or.inl rfl⟩⟩
  · refine ⟨2, by decide, h.1, fun v hv => ⟨?_, Or.inr ?_⟩⟩
    · show (if v = 120 then nI 0 else nI 1) = (if gJ ρ 19 0 = lN v then nI 0 else if gJ ρ 19 (0 + 1) = lN v then nI 1 else -1)
      rw [a, b]
      rcases hv with rfl | rfl
      · rfl
      · rfl
    · show ¬ (if v = 120 then nI 0 else nI 1) < 0
      rcases hv with rfl | rfl <;> decide
theorem vrF_x (fm : Int32) (h : fm = 0 ∨ fm = 1) : fm = 0 ∨ vrF fm 120 = nI 0 := h.imp id (fun e => by subst e; rfl)
theorem vrF_y (fm : Int32) (h : fm = 0 ∨ fm = 1) : fm = 0 ∨ vrF fm 121 = nI 1 := h.imp id (fun e => by subst e; rfl)
end FB
section ST
variable {K V : Nat → Nat} {M : Nat} {fm : Int32} {t c x : Nat} {σ : Sta} {lv lg lc : List Nat}
theorem nm_ok {l : List Nat} {nm : Nat} (h : l.all (fun a => Nat.blt a 2147483648 && !(a == nm)) = true) : ∀ a ∈ l, a < 2 ^ 31 ∧ a ≠ nm := fun a ha => by
  have h1 := List.all_eq_true.mp h a ha
  simp only [Bool.and_eq_true, Bool.not_eq_true', beq_eq_false_iff_ne] at h1
  exact ⟨Nat.blt_eq.mp h1.1, h1.2⟩
theorem st_var (h : IT K V M fm t c x σ) (hA : FA fm lv lg lc σ) (vr : Nat → Int32) {a0 a1 a2 a3 a4 nm v lo hi : Nat} {r : List Tk} (hS : Sf K V M t ((256, a0) :: (273, nm) :: (61, a1) :: (274, v) :: (257, a2) :: (274, lo) :: (258, a3) :: (274, hi) :: (59, a4) :: r)) (hv : v < 100) (hlo : lo < 100) (hhi : hi < 100) (h1 : lo ≤ v) (h2 : v ≤ hi) (hl : lv.length < 6) (hn : nm < 2 ^ 31) (n1 : lv.all (fun a => Nat.blt a 2147483648 && !(a == nm)) = true) (n2 : lg.all (fun a => Nat.blt a 2147483648 && !(a == nm)) = true) (n3 : lc.all (fun a => Nat.blt a 2147483648 && !(a == nm)) = true) :
    StR K V M fm vr (f_X1_readVariable σ) c x r c x (fun ρ => oV fm ρ (cnt fm lv) (lN nm) (nI v) (nI lo) (nI hi)) [] σ := by
  have hN := FA_NT hA hn (nm_ok n1) (nm_ok n2) (nm_ok n3)
  obtain ⟨e1, e2⟩ := it_var h (FA_01 hA) (FA_PG hA) hS hv hlo hhi h1 h2 (by
    rcases hA with ⟨e, -⟩ | ⟨rfl, -⟩
    · exact Or.inl e
    · exact hN.imp id (fun q => ⟨hl, q⟩))
  refine ⟨t + 9, _, e1, e2, IT_r (A2_I h (t + 9)) (Kr_V _ _ _ _ _), fun ρ hρ => AG_V (AG_q hρ (A2_q _ _)) _ _ _ _ _, (A2_C _ _ c x).go (KC_r (Kr_V _ _ _ _ _) c x) (Nat.le_refl _) (Nat.le_refl _), (Kz_q (A2_q _ _)).trans (Kz_r (Kr_V _ _ _ _ _)), fun q hq => absurd hq List.not_mem_nil⟩
theorem st_gain (h : IT K V M fm t c x σ) (hA : FA fm [120, 121] lg lc σ) (hx : x < 1400) {a0 a1 a2 nm : Nat} {l r o : List Tk} (hS : Sf K V M t ((259, a0) :: (273, nm) :: (61, a1) :: l)) (hr : rX 99 0 0 0 l = some ((59, a2) :: r, o)) (ho : o ≠ []) (hc : c + o.length ≤ 1400) (hlen : l.length < r.length + 61) (hl : lg.length < 3) (hn : nm < 2 ^ 31) (n1 : [120, 121].all (fun a => Nat.blt a 2147483648 && !(a == nm)) = true) (n2 : lg.all (fun a => Nat.blt a 2147483648 && !(a == nm)) = true) (n3 : lc.all (fun a => Nat.blt a 2147483648 && !(a == nm)) = true) :
    StR K V M fm (vrF fm) (f_X1_readGain σ) c x r (c + o.length) (x + 1) (fun ρ => oG fm ρ (cnt fm lg) (lN nm) (-1) (nI x)) [(x, o)] σ := by
  have hN := FA_NT hA hn (nm_ok n1) (nm_ok n2) (nm_ok n3)
  obtain ⟨j', σ', e1, e2, e3, e4, e5, e6⟩ := it_gain h (FA_01 hA) (FA_PG hA) hx (FA_VR hA) hS hr ho hc hlen (by
    rcases hA with ⟨e, -⟩ | ⟨rfl, -⟩
    · exact Or.inl e
    · exact hN.imp id (fun q => ⟨hl, q⟩))
  refine ⟨j', _, e1, e2, IT_r e3 (Kr_G _ _ _ _), fun ρ hρ => AG_G (AG_q (AG_q hρ e6) (A2_q _ _)) _ _ _ _, (e5.go (A2_C _ _ c x) (Nat.le_refl _) (Nat.le_refl _)).go (KC_r (Kr_G _ _ _ _) c x) (Nat.le_refl _) (Nat.le_refl _), ((Kz_q e6).trans (Kz_q (A2_q _ _))).trans (Kz_r (Kr_G _ _ _ _)), fun q hq => ?_⟩
  rw [List.mem_singleton] at hq
  subst hq
  exact (e4.keep (A2_C _ _ _ _) (Nat.le_refl _) (Nat.le_refl _)).keep (KC_r (Kr_G _ _ _ _) _ _) (Nat.le_refl _) (Nat.le_refl _)
theorem st_gainP (h : IT K V M fm t c x σ) (hA : FA fm [120, 121] lg lc σ) (hx : x < 1400) {a0 a1 a2 a3 nm cn j0 : Nat} {l r o : List Tk} (hS : Sf K V M t ((259, a0) :: (273, nm) :: (260, a3) :: (273, cn) :: (61, a1) :: l)) (hr : rX 99 0 0 0 l = some ((59, a2) :: r, o)) (ho : o ≠ []) (hc : c + o.length ≤ 1400) (hlen : l.length < r.length + 61) (hl : lg.length < 3) (hn : nm < 2 ^ 31) (n1 : [120, 121].all (fun a => Nat.blt a 2147483648 && !(a == nm)) = true) (n2 : lg.all (fun a => Nat.blt a 2147483648 && !(a == nm)) = true) (n3 : lc.all (fun a => Nat.blt a 2147483648 && !(a == nm)) = true)
    (c1 : ∀ j, j < j0 → K j ≠ 262) (c2 : K j0 = 262) (c3 : V (j0 + 1) = cn) (c4 : j0 + 1 < M) :
    StR K V M fm (vrF fm) (f_X1_readGain σ) c x r (c + o.length) (x + 1) (fun ρ => oG fm ρ (cnt fm lg) (lN nm) 0 (nI x)) [(x, o)] σ := by
  have hN := FA_NT hA hn (nm_ok n1) (nm_ok n2) (nm_ok n3)
  obtain ⟨j', σ', e1, e2, e3, e4, e5, e6⟩ := it_gainP h (FA_01 hA) (FA_PG hA) hx (FA_VR hA) hS hr ho hc hlen (by
    rcases hA with ⟨e, -⟩ | ⟨rfl, -⟩
    · exact Or.inl e
    · exact hN.imp id (fun q => ⟨hl, q⟩)) c1 c2 c3 c4
  refine ⟨j', _, e1, e2, IT_r e3 (Kr_G _ _ _ _), fun ρ hρ => AG_G (AG_q (AG_q hρ e6) (A2_q _ _)) _ _ _ _, (e5.go (A2_C _ _ c x) (Nat.le_refl _) (Nat.le_refl _)).go (KC_r (Kr_G _ _ _ _) c x) (Nat.le_refl _) (Nat.le_refl _), ((Kz_q e6).trans (Kz_q (A2_q _ _))).trans (Kz_r (Kr_G _ _ _ _)), fun q hq => ?_⟩
  rw [List.mem_singleton] at hq
  subst hq
  exact (e4.keep (A2_C _ _ _ _) (Nat.le_refl _) (Nat.le_refl _)).keep (KC_r (Kr_G _ _ _ _) _ _) (Nat.le_refl _) (Nat.le_refl _)
theorem st_goal (h : IT K V M fm t c x σ) (hA : FA fm [120, 121] lg lc σ) (hx : x < 1400) {a0 a2 : Nat} {l r o : List Tk} (hS : Sf K V M t ((261, a0) :: l)) (hr : rX 99 0 0 0 l = some ((59, a2) :: r, o)) (ho : o ≠ []) (hc : c + o.length ≤ 1400) (hlen : l.length < r.length + 61) (hg : gI σ 201 = -1) :
    StR K V M fm (vrF fm) (f_X1_readGoal σ) c x r (c + o.length) (x + 1) (fun ρ => oZ fm ρ (nI x)) [(x, o)] σ := by
  obtain ⟨j', σ', e1, e2, e3, e4, e5, e6⟩ := it_goal h (FA_01 hA) hx (FA_VR hA) hS hr ho hc hlen hg
  refine ⟨j', _, e1, e2, IT_r e3 (Kr_Z _), fun ρ hρ => AG_Z (AG_q (AG_q hρ e6) (A2_q _ _)) _, (e5.go (A2_C _ _ c x) (Nat.le_refl _) (Nat.le_refl _)).go (KC_r (Kr_Z _) c x) (Nat.le_refl _) (Nat.le_refl _), ((Kz_q e6).trans (Kz_q (A2_q _ _))).trans (Kz_r (Kr_Z _)), fun q hq => ?_⟩
  rw [List.mem_singleton] at hq
  subst hq
  exact (e4.keep (A2_C _ _ _ _) (Nat.le_refl _) (Nat.le_refl _)).keep (KC_r (Kr_Z _) _ _) (Nat.le_refl _) (Nat.le_refl _)
end ST
