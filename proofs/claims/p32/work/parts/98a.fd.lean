/-! The tape takes the text, five words of four letters a call (by wip/p32/fd.py). -/
theorem pk8 {x : Int32} {n b : Nat} (hx : x.toBitVec.toNat = n) (hn : n < 16777216) (hb : b < 256) : ((x <<< ((8 : Int32) &&& 31)) ||| nI b).toBitVec.toNat = n * 256 + b := by
  rw [Int32.toBitVec_or, BitVec.toNat_or, pk_shl x ((8 : Int32) &&& 31) 8 (by decide), hx, pk_tn (by omega), show n * 2 ^ 8 % 2 ^ 32 = 2 ^ 8 * n from by show n * 256 % 4294967296 = 256 * n; omega, ← Nat.two_pow_add_eq_or_of_lt (show b < 2 ^ 8 from hb)]
  show 256 * n + b = n * 256 + b
  omega
def fvG (cc : Nat → Nat) : Nat → Nat → Int32
  | 0 => fun _ => 0
  | i + 1 => upd (fvG cc i) (i / 4) ((fvG cc i (i / 4) <<< ((8 : Int32) &&& 31)) ||| nI (cc i))
theorem fvG_s {cc : Nat → Nat} {i j : Nat} (h : i / 4 = j) : fvG cc (i + 1) j = (fvG cc i j <<< ((8 : Int32) &&& 31)) ||| nI (cc i) := by
  subst h
  exact if_pos rfl
theorem fvG_n {cc : Nat → Nat} {i j : Nat} (h : i / 4 ≠ j) : fvG cc (i + 1) j = fvG cc i j := if_neg (fun e => h e.symm)
theorem fvG_z {cc : Nat → Nat} {j : Nat} : ∀ i, i ≤ 4 * j → fvG cc i j = 0
  | 0, _ => rfl
  | i + 1, h => (fvG_n (by omega)).trans (fvG_z i (by omega))
theorem fvG_e {cc : Nat → Nat} {j : Nat} : ∀ d, fvG cc (4 * j + 4 + d) j = fvG cc (4 * j + 4) j
  | 0 => rfl
  | d + 1 => (fvG_n (i := 4 * j + 4 + d) (by omega)).trans (fvG_e d)
theorem fvG_w {cc : Nat → Nat} (hc : ∀ x, cc x < 256) {j : Nat} (hj : j < 5) : (fvG cc 20 j).toBitVec.toNat = ((cc (4 * j) * 256 + cc (4 * j + 1)) * 256 + cc (4 * j + 2)) * 256 + cc (4 * j + 3) := by
  have e := fvG_e (cc := cc) (j := j) (16 - 4 * j)
  rw [show 4 * j + 4 + (16 - 4 * j) = 20 by omega] at e
  have s3 : fvG cc (4 * j + 4) j = _ := fvG_s (cc := cc) (i := 4 * j + 3) (by omega)
  have s2 : fvG cc (4 * j + 3) j = _ := fvG_s (cc := cc) (i := 4 * j + 2) (by omega)
  have s1 : fvG cc (4 * j + 2) j = _ := fvG_s (cc := cc) (i := 4 * j + 1) (by omega)
  have s0 : fvG cc (4 * j + 1) j = _ := fvG_s (cc := cc) (i := 4 * j) (by omega)
  have h0 := hc (4 * j)
  have h1 := hc (4 * j + 1)
  have h2 := hc (4 * j + 2)
  have h3 := hc (4 * j + 3)
  rw [e, s3, s2, s1, s0, fvG_z (4 * j) (Nat.le_refl _)]
  have a0 := pk8 (x := 0) (n := 0) (b := cc (4 * j)) rfl (by decide) h0
  rw [show 0 * 256 + cc (4 * j) = cc (4 * j) by omega] at a0
  exact pk8 (pk8 (pk8 a0 (by omega) h1) (by omega) h2) (by omega) h3
def fdI : Nat → Prop := fun q => q = 1
def fdA : Nat → Prop := fun q => q = 8
def FD (tl : Nat) (B : Nat → Nat) (σ0 σ : Sta) : Prop := gI σ 1 = nI tl ∧ (∀ j, j < tl → gA σ 8 j = nI (B j)) ∧ Kp fdI n0 fdA n0 σ0 σ
theorem fd_byte {v : Int32} {k N tl n : Nat} {B : Nat → Nat} {σ0 σ : Sta} (hk : k = 24 ∨ k = 16 ∨ k = 8 ∨ k = 0) (htl : tl < 1500) (h : FD tl B σ0 σ) (hN : v.toBitVec.toNat = N) (hB : B tl = N / 2 ^ k % 2 ^ 8) : ∃ σ', f_X8_append_3 (n + 1) v (nI k) σ = f_X8_append_3 n v (nI k + (-8)) σ' ∧ FD (tl + 1) B σ0 σ' := by
  have hb : ((v.toUInt32 >>> ((nI k).toUInt32 &&& Int32.toUInt32 31)).toInt32) &&& 255 = nI (B tl) := by
    rw [pk_and _ 8 (by decide), pk_ushr v (nI k) k (by rcases hk with rfl | rfl | rfl | rfl <;> decide), hN, hB]
  refine ⟨sI (sA σ 8 (upd (gA σ 8) tl (nI (B tl)))) 1 (nI (tl + 1)), ?_, ?_, fun j hj => ?_, Kp.sI rfl (Kp.sA rfl h.2.2)⟩
  · rw [f_X8_append_3, if_neg (nI_pos (by omega)), h.1, if_neg (by rw [nI_Lle (by omega) (by decide)]; omega), if_neg (nI_in (by omega) (by omega)), lt_e, lt_e, gI_sA, h.1, nI_1, nI_clamp (by omega), hb]
    rfl
  · rw [gI_sI, if_pos rfl]
  · rw [gA_sI, gA_sA, if_pos rfl, upd_at]
    by_cases h1 : j = tl
    · rw [if_pos h1, h1]
    · rw [if_neg h1]
      exact h.2.1 j (by omega)
theorem fd_app {v : Int32} {tl b0 b1 b2 b3 : Nat} {B : Nat → Nat} {σ0 σ : Sta} (htl : tl + 4 ≤ 1500) (h : FD tl B σ0 σ) (hv : v.toBitVec.toNat = ((b0 * 256 + b1) * 256 + b2) * 256 + b3) (l0 : b0 < 256) (l1 : b1 < 256) (l2 : b2 < 256) (l3 : b3 < 256) (h0 : B tl = b0) (h1 : B (tl + 1) = b1) (h2 : B (tl + 2) = b2) (h3 : B (tl + 3) = b3) : ∃ σ', f_X8_append v σ = some ((), σ') ∧ FD (tl + 4) B σ0 σ' := by
  obtain ⟨σ1, a1, f1⟩ := fd_byte (v := v) (k := 24) (n := 999999999) (by omega) (by omega) h hv (by rw [h0]; show _ = _ / 16777216 % 256; omega)
  obtain ⟨σ2, a2, f2⟩ := fd_byte (v := v) (k := 16) (n := 999999998) (by omega) (by omega) f1 hv (by rw [h1]; show _ = _ / 65536 % 256; omega)
  obtain ⟨σ3, a3, f3⟩ := fd_byte (v := v) (k := 8) (n := 999999997) (by omega) (by omega) f2 hv ((show B (tl + 1 + 1) = b2 from h2).trans (by show _ = _ / 256 % 256; omega))
  obtain ⟨σ4, a4, f4⟩ := fd_byte (v := v) (k := 0) (n := 999999996) (by omega) (by omega) f3 hv ((show B (tl + 1 + 1 + 1) = b3 from h3).trans (by show _ = _ / 1 % 256; omega))
  refine ⟨σ4, ?_, f4⟩
  unfold f_X8_append
  refine (show f_X8_append_3 FU v 24 σ = _ from a1).trans ?_
  rw [show nI 24 + (-8) = nI 16 by decide, a2, show nI 16 + (-8) = nI 8 by decide, a3, show nI 8 + (-8) = nI 0 by decide, a4, f_X8_append_3, if_pos (by decide)]
theorem fd_feed {cc : Nat → Nat} {tl : Nat} {B : Nat → Nat} {σ0 σ : Sta} (htl : tl ≤ 1480) (h : FD tl B σ0 σ) (hc : ∀ x, cc x < 256) (hB : ∀ i, i < 20 → B (tl + i) = cc i) : ∃ σ', f_X8_feed (fvG cc 20 0) (fvG cc 20 1) (fvG cc 20 2) (fvG cc 20 3) (fvG cc 20 4) σ = some (nI (tl + 20), σ') ∧ FD (tl + 20) B σ0 σ' := by
  obtain ⟨σ1, a1, f1⟩ := fd_app (v := fvG cc 20 0) (by omega) h (fvG_w hc (j := 0) (by decide)) (hc _) (hc _) (hc _) (hc _) (hB 0 (by decide)) (hB 1 (by decide)) (hB 2 (by decide)) (hB 3 (by decide))
  obtain ⟨σ2, a2, f2⟩ := fd_app (v := fvG cc 20 1) (by omega) f1 (fvG_w hc (j := 1) (by decide)) (hc _) (hc _) (hc _) (hc _) (hB 4 (by decide)) (hB 5 (by decide)) (hB 6 (by decide)) (hB 7 (by decide))
  obtain ⟨σ3, a3, f3⟩ := fd_app (v := fvG cc 20 2) (by omega) f2 (fvG_w hc (j := 2) (by decide)) (hc _) (hc _) (hc _) (hc _) (hB 8 (by decide)) (hB 9 (by decide)) (hB 10 (by decide)) (hB 11 (by decide))
  obtain ⟨σ4, a4, f4⟩ := fd_app (v := fvG cc 20 3) (by omega) f3 (fvG_w hc (j := 3) (by decide)) (hc _) (hc _) (hc _) (hc _) (hB 12 (by decide)) (hB 13 (by decide)) (hB 14 (by decide)) (hB 15 (by decide))
  obtain ⟨σ5, a5, f5⟩ := fd_app (v := fvG cc 20 4) (by omega) f4 (fvG_w hc (j := 4) (by decide)) (hc _) (hc _) (hc _) (hc _) (hB 16 (by decide)) (hB 17 (by decide)) (hB 18 (by decide)) (hB 19 (by decide))
  have f6 : FD (tl + 20) B σ0 σ5 := f5
  refine ⟨σ5, ?_, f6⟩
  unfold f_X8_feed
  rw [h.1, if_pos (by rw [nI_leL (by omega) (by decide)]; omega), a1, bnd_s, a2, bnd_s, a3, bnd_s, a4, bnd_s, a5, bnd_s, f6.1]
theorem fd_trim {tl N : Nat} {σ : Sta} (h : gI σ 1 = nI tl) (hN : N ≤ tl) (htl : tl ≤ 1500) : f_X8_trim (nI N) σ = some (nI N, sI σ 1 (nI N)) := by
  unfold f_X8_trim
  rw [h, cr_ok (nI_pos (by omega)) (nI_le hN (by omega)), bnd_s, lt_e]
/-- a text's letters, blanks behind it -/
def cB (t : List Nat) (j : Nat) : Nat := if j < t.length then t.getD j 0 else 32
theorem cB_i {t : List Nat} {j : Nat} (h : j < t.length) : cB t j = t.getD j 0 := if_pos h
theorem cB_o {t : List Nat} {j : Nat} (h : ¬ j < t.length) : cB t j = 32 := if_neg h
theorem cB_b {bs : List Int32} {t : List Nat} (h : SB bs t) (j : Nat) : cB t j < 256 := by
  by_cases q : j < t.length
  · rw [cB_i q]
    exact Nat.lt_trans (h.2 j q) (by decide)
  · rw [cB_o q]
    decide
theorem AtB_of {B : Nat → Nat} {N : Nat} : ∀ (l : List Nat) (i : Nat), (∀ k, k < l.length → B (i + k) = l.getD k 0) → i + l.length = N → AtB B N i l
  | [], _, _, h => h
  | c :: r, i, hb, h => by
    have hl : i + (r.length + 1) = N := h
    refine ⟨by omega, hb 0 (Nat.succ_pos _), AtB_of r (i + 1) (fun k hk => ?_) (by omega)⟩
    rw [show i + 1 + k = i + (k + 1) by omega]
    exact hb (k + 1) (Nat.succ_lt_succ hk)
def FE (N : Nat) (t : List Nat) (σ0 σ : Sta) : Prop := gI σ 1 = nI N ∧ TB1 N (cB t) σ ∧ AtB (cB t) N 0 t ∧ Kp fdI n0 fdA n0 σ0 σ
theorem fd_end {t : List Nat} {N tl : Nat} {σ0 σ : Sta} (hl : t.length = N) (h : FD tl (cB t) σ0 σ) (hN : N ≤ tl) (hb : ∀ j, cB t j < 256) : FE N t σ0 (sI σ 1 (nI N)) :=
  ⟨by rw [gI_sI, if_pos rfl], fun j hj => ⟨by rw [gA_sI]; exact h.2.1 j (by omega), hb j⟩, AtB_of t 0 (fun k hk => by rw [Nat.zero_add]; exact cB_i hk) (by omega), Kp.sI rfl h.2.2⟩
set_option maxRecDepth 20000 in
theorem ch_1 : ∀ b : Nat, b < 128 → (((nI b) &&& 255).toUInt32 % 65536).toInt32 = nI b := by decide +kernel
set_option maxRecDepth 20000 in
theorem ch_2 : ∀ b : Nat, b < 128 → (nI b).toUInt32.toUInt16.toUInt32.toInt32 = nI b := by decide +kernel
theorem k_latin (N : Nat) (bs : List Int32) (σ : Sta) : f_J0_isLatin1_aae02 N bs σ = some (1, σ) := rfl
theorem k_charAt {N j : Nat} {bs : List Int32} {t : List Nat} (hs : SB bs t) (hl : t.length = N) (hN : N ≤ 400) (hj : j < N) (σ : Sta) : f_J0_charAt_5068e N bs (nI j) σ = some (nI (cB t j), σ) := by
  have hb : cB t j < 128 := by
    rw [cB_i (by omega)]
    exact hs.2 j (by omega)
  have hd : bs.getD j 0 = nI (cB t j) := by
    rw [cB_i (by omega)]
    exact hs.1 j (by omega)
  have h1 : f_J1_charAt_3b067 N bs (nI j) σ = some (nI (cB t j), σ) := by
    unfold f_J1_charAt_3b067 f_J0_checkIndex_df160 f_J3_checkIndex_8e157
    rw [if_neg (nI_pos (by omega)), if_pos (show nI j < Int32.ofNat N from nI_lt hj (by omega)), bnd_s, bnd_s, if_neg (nI_in (by omega) (by omega)), nI_clamp (by omega), hd, ch_1 _ hb]
  unfold f_J0_charAt_5068e
  rw [k_latin, bnd_s, if_neg (by decide), h1, bnd_s, if_neg (fun h => h (ch_2 _ hb))]
theorem cE_charAt {l : Launch} {D : va_G} {Y : CYs} {N j : Nat} {bs : List Int32} {a v : Nat} {t : List Nat} (hs : SB bs t) (hl : t.length = N) (hN : N ≤ 400) (hj : j < N) (sz : Nat) : Met l yJ0_charAt_5068e (Cond.code yJ0_charAt_5068e cJ0_charAt_5068e 2 (some .char) :: gW) rm_J0_charAt_5068e (PcE (STA N bs a v) [] Y D sz [.ref a, .int (nI j)]) (GI (S := Sta) (fun x u => x = nI (cB t j) ∧ u = σC0) (fun _ => []) Y D (va_A [] sz)) 0 0 (va_A [] sz) := MIs_E (c_J0_charAt_5068e (E := fun _ => 0) lok0 (k_charAt hs hl hN hj σC0)) sz
theorem MI_E {l : Launch} {y : MethodName} {ws : List Cond} {rm : Room} {Y : CYs} {D : va_G} {E : Nat → Nat} {L : List Dsc} {As : List Value} {σ σ2 : Sta} {r : Int32} (h : MI l y ws rm L Y D E As σ (r, σ2)) (sz : Nat) : Met l y ws rm (PcE XN (wd Y E σ 0 L) Y D sz As) (GI (S := Sta) (fun x u => x = r ∧ u = σ2) (fun u => wd Y E u 0 L) Y D (va_A (wd Y E σ 0 L) sz)) 0 0 (va_A (wd Y E σ 0 L) sz) := by
  have hA : AF E L.length sz = va_A (wd Y E σ 0 L) sz := AF_wd
  have h1 := h sz
  have e1 : PcC L Y D E σ sz As = PcE XN (wd Y E σ 0 L) Y D sz As := by
    funext w U
    refine propext ⟨fun hh => ?_, fun hh => ?_⟩
    · obtain ⟨h0, a1, a2, a3, a4, a5, a6⟩ := hh
      exact ⟨h0, a1, a2, a3, a4, a5, by rw [← hA]; exact a6, trivial⟩
    · obtain ⟨h0, a1, a2, a3, a4, a5, a6, -⟩ := hh
      exact ⟨h0, a1, a2, a3, a4, a5, by rw [hA]; exact a6⟩
  have e2 : QI L Y D E sz (r, σ2) = va_Qi (fun x u => x = r ∧ u = σ2) (AtX Y D (va_A (wd Y E σ 0 L) sz) (fun u : Sta => wd Y E u 0 L)) (va_A (wd Y E σ 0 L) sz) := by
    unfold QI
    rw [hA]
    rfl
  rw [e1, e2, hA] at h1
  exact h1
abbrev cK (t : List Nat) (r : Nat) : Nat → Nat := fun x => cB t (20 * r + x)
