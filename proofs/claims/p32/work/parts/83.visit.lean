/-! Choices, visits, exploring. -/
section VI
variable {n s x y k cx : Nat}
theorem nb_4 (k : Nat) : nb k ≤ 4 := by
  unfold nb
  split
  · decide
  · split <;> decide
/-- where a branch leads, for all of a command's branches -/
def BR (n k x y : Nat) (σ : Sta) : Prop := ∀ b, b < nb k → ∃ x' y', x' ≤ n ∧ y' ≤ 3 ∧ SV σ (k * 4 + b) 0 x y x x' ∧ SV σ (k * 4 + b) 1 x y y y'
theorem BR_k {σ σ' : Sta} (hk : Kx σ σ') (h : BR n k x y σ) : BR n k x y σ' := fun b hb => by
  obtain ⟨x', y', a1, a2, a3, a4⟩ := h b hb
  exact ⟨x', y', a1, a2, SV_k hk a3, SV_k hk a4⟩
theorem x_branches (hn : n < 22) (hk3 : k < 3) (hx : x ≤ n) (hy : y < 4) (hcx : cx < 1600) : ∀ (m b nn ns : Nat) (σ : Sta), b + m = nb k → m < nn → PF n σ → ES n ns σ → VS σ s x y → s < ns → BR n k x y σ →
    ∃ ns' σ', f_X5_addChoice_32 nn (nI s) (nI k) (nI cx) (nI b) σ = some ((), σ') ∧ ns ≤ ns' ∧ ES n ns' σ' ∧ Kc σ σ' ∧ FS ns σ σ' ∧ FT (cx * 4 + b) σ σ' ∧ ∀ b', b ≤ b' → b' < nb k → ∃ t, t < ns' ∧ gA σ' 35 (cx * 4 + b') = nI t
  | _, _, 0, _, _, _, hn', _, _, _, _, _ => absurd hn' (Nat.not_lt_zero _)
  | 0, b, nn + 1, ns, σ, hb, hn', hP, hE, hV, hs, hB => by
    have h29 := (hP.2.2.2.2.2.2 k hk3).1
    have h4 := nb_4 k
    refine ⟨ns, σ, ?_, Nat.le_refl _, hE, Kp.rfl', fun _ _ => rfl, fun _ _ => rfl, fun b' h1 h2 => by omega⟩
    rw [f_X5_addChoice_32, if_neg (nI_in (by omega) (by decide)), nI_clamp (by omega), h29, if_pos (nI_le (by omega) (by omega))]
  | m + 1, b, nn + 1, ns, σ, hb, hn', hP, hE, hV, hs, hB => by
    have h29 := (hP.2.2.2.2.2.2 k hk3).1
    have h4 := nb_4 k
    have h88 := ES_le hn hE
    obtain ⟨x', y', b1, b2, b3, b4⟩ := hB b (by omega)
    obtain ⟨σ1, g1, g2, g3, g4⟩ := x_next hn hP (by omega) hV hx hy (by omega) b3 b4 b1 b2
    have P1 := PF_k (Kx_n g2) hP
    have E1 := ES_n g2 hE
    obtain ⟨p, f1, f2⟩ := x_find hn P1.1 E1 b1 (by omega) g3 g4
    have head : f_X5_addChoice_32 (nn + 1) (nI s) (nI k) (nI cx) (nI b) σ = if nI p = gI σ1 322 then bnd (f_X5_addNext σ1) (fun r11 σ12 => if r11 = 0 then bnd (f_X5_fail 8 (nI k) σ12) (fun _ σ16 => some ((), σ16)) else f_X5_addChoice_98 (f_X5_addChoice_32 nn) (nI s) (nI k) (nI cx) (nI b) (nI p) σ12) else f_X5_addChoice_98 (f_X5_addChoice_32 nn) (nI s) (nI k) (nI cx) (nI b) (nI p) σ1 := by
      rw [f_X5_addChoice_32, if_neg (nI_in (by omega) (by decide)), nI_clamp (by omega), h29, if_neg (nI_ge (by omega) (by omega)), show (4 : Int32) = nI 4 from rfl, pk_mul, nI_add, g1, bnd_s, if_neg (by decide), f1, bnd_s]
    -- behind the state's number
    have go : ∀ (σ2 : Sta) (ns2 : Nat), p < ns2 → ns ≤ ns2 → Kc σ σ2 → FS ns σ σ2 → gA σ2 35 = gA σ 35 → ES n ns2 σ2 → ∃ ns' σ', f_X5_addChoice_98 (f_X5_addChoice_32 nn) (nI s) (nI k) (nI cx) (nI b) (nI p) σ2 = some ((), σ') ∧ ns ≤ ns' ∧ ES n ns' σ' ∧ Kc σ σ' ∧ FS ns σ σ' ∧ FT (cx * 4 + b) σ σ' ∧ ∀ b', b ≤ b' → b' < nb k → ∃ t, t < ns' ∧ gA σ' 35 (cx * 4 + b') = nI t := fun σ2 ns2 hp hns hK hF h35 hE2 => by
      have kk : Kc σ (sA σ2 35 (upd (gA σ2 35) (cx * 4 + b) (nI p))) := Kp.sA (by unfold cA1; omega) hK
      have F3 : FS ns σ (sA σ2 35 (upd (gA σ2 35) (cx * 4 + b) (nI p))) := hF
      obtain ⟨ns', σ', r1, r2, r3, r4, r5, r6, r7⟩ := x_branches hn hk3 hx hy hcx m (b + 1) nn ns2 (sA σ2 35 (upd (gA σ2 35) (cx * 4 + b) (nI p))) (by omega) (by omega) (PF_k (Kc_x kk) hP) hE2 (VS_f F3 hs hV) (by omega) (BR_k (Kc_x kk) hB)
      refine ⟨ns', σ', ?_, by omega, r3, kk.trans r4, fun j hj => (r5 j (by omega)).trans (hF j hj), fun j hj => ?_, fun b' h1 h2 => ?_⟩
      · unfold f_X5_addChoice_98
        rw [show (4 : Int32) = nI 4 from rfl, pk_mul, nI_add, if_neg (nI_in (by omega) (by decide)), nI_clamp (by omega), lt_e, lt_e, nI_1]
        exact r1
      · rw [r6 j (by omega)]
        show upd (gA σ2 35) (cx * 4 + b) (nI p) j = _
        rw [upd_at, if_neg (by omega), h35]
      · by_cases q : b' = b
        · subst q
          refine ⟨p, by omega, ?_⟩
          rw [r6 (cx * 4 + b') (by omega)]
          show upd (gA σ2 35) (cx * 4 + b') (nI p) (cx * 4 + b') = _
          rw [upd_at, if_pos rfl]
        · exact r7 b' (by omega) h2
    rw [head]
    rcases f2 with ⟨q, q2⟩ | ⟨rfl, q2, q3, q4, q5, q6⟩
    · rw [if_neg q2]
      exact go σ1 ns q (Nat.le_refl _) (Kc_n g2) (fun j _ => by rw [g2.2.2.1 32 (by unfold k37; decide)]) (g2.2.2.1 35 (by unfold k37; decide)) E1
    · rw [if_pos q2, q3, bnd_s, if_neg (by decide)]
      exact go (addN σ1 p) (p + 1) (Nat.lt_succ_self _) (Nat.le_succ _) ((Kc_n g2).trans (Kp.sI rfl (Kp.sA (by unfold cA1; omega) Kp.rfl'))) (fun j hj => (q5 j hj).trans (by rw [g2.2.2.1 32 (by unfold k37; decide)])) (g2.2.2.1 35 (by unfold k37; decide)) q4
/-- the choices of a state that have been found -/
def CH (s ch ns : Nat) (σ : Sta) : Prop := ∀ c, c < ch → ∃ k, k < 3 ∧ gA σ 34 (s * 16 + c) = nI k ∧ ∀ b, b < nb k → ∃ t, t < ns ∧ gA σ 35 ((s * 16 + c) * 4 + b) = nI t
def DN (i ns : Nat) (σ : Sta) : Prop := gA σ 33 i = -1 ∨ ∃ ch, ch ≤ 3 ∧ gA σ 33 i = nI ch ∧ CH i ch ns σ
def FU4 (m : Nat) (σ σ' : Sta) : Prop := ∀ j, j < m → gA σ' 34 j = gA σ 34 j
theorem CH_f {s ch ns ns' : Nat} {σ σ' : Sta} (h : CH s ch ns σ) (hn : ns ≤ ns') (h4 : FU4 (s * 16 + ch) σ σ') (h5 : FT ((s * 16 + ch) * 4) σ σ') : CH s ch ns' σ' := fun c hc => by
  obtain ⟨k, a, b, d⟩ := h c hc
  refine ⟨k, a, by rw [h4 _ (by omega)]; exact b, fun b' hb => ?_⟩
  have := nb_4 k
  obtain ⟨t, t1, t2⟩ := d b' hb
  exact ⟨t, by omega, by rw [h5 _ (by omega)]; exact t2⟩
theorem x_addChoice {ns ch : Nat} {σ : Sta} (hn : n < 22) (hk3 : k < 3) (hx : x ≤ n) (hy : y < 4) (hP : PF n σ) (hE : ES n ns σ) (hV : VS σ s x y) (hs : s < ns) (hB : BR n k x y σ) (h33 : gA σ 33 s = nI ch) (hch : ch < 16) (hC : CH s ch ns σ) :
    ∃ ns' σ', f_X5_addChoice (nI s) (nI k) σ = some ((), σ') ∧ ns ≤ ns' ∧ ES n ns' σ' ∧ Kx σ σ' ∧ FS ns σ σ' ∧ FT (s * 64) σ σ' ∧ FU4 (s * 16) σ σ' ∧ gA σ' 33 s = nI (ch + 1) ∧ (∀ j, j ≠ s → gA σ' 33 j = gA σ 33 j) ∧ CH s (ch + 1) ns' σ' := by
  have h88 := ES_le hn hE
  have hK : Kx σ (sA (sA σ 34 (upd (gA σ 34) (s * 16 + ch) (nI k))) 33 (upd (gA σ 33) s (nI (ch + 1)))) := Kp.sA (by unfold xA; omega) (Kp.sA (by unfold xA; omega) Kp.rfl')
  obtain ⟨ns', σ', r1, r2, r3, r4, r5, r6, r7⟩ := x_branches (s := s) (cx := s * 16 + ch) hn hk3 hx hy (by omega) (nb k) 0 FU ns (sA (sA σ 34 (upd (gA σ 34) (s * 16 + ch) (nI k))) 33 (upd (gA σ 33) s (nI (ch + 1)))) (by omega) (Nat.lt_of_le_of_lt (nb_4 k) (FU_lt (by decide))) (PF_k hK hP) hE hV hs (BR_k hK hB)
  have a34 : gA σ' 34 = upd (gA σ 34) (s * 16 + ch) (nI k) := r4.2.2.1 34 (by unfold cA1; omega)
  have a33 : gA σ' 33 = upd (gA σ 33) s (nI (ch + 1)) := r4.2.2.1 33 (by unfold cA1; omega)
  refine ⟨ns', σ', ?_, r2, r3, hK.trans (Kc_x r4), r5, fun j hj => r6 j (by omega), fun j hj => ?_, ?_, fun j hj => ?_, fun c hc => ?_⟩
  · unfold f_X5_addChoice
    rw [if_neg (nI_in (by omega) (by decide)), nI_clamp (by omega), h33, show (16 : Int32) = nI 16 from rfl, pk_mul, nI_add, lt_e, if_neg (nI_in (by omega) (by decide)), nI_clamp (show s * 16 + ch < 2 ^ 31 by omega), lt_e, if_neg (show ¬ (nI s < 0 ∨ 100 ≤ s) from nI_in2 (by omega) (by omega)), if_neg (show ¬ (nI s < 0 ∨ 100 ≤ s) from nI_in2 (by omega) (by omega)), lt_e, gA_sA, if_neg (show ¬ (33 : Nat) = 34 by decide), h33, nI_1]
    exact r1
  · rw [a34, upd_at, if_neg (by omega)]
  · rw [a33, upd_at, if_pos rfl]
  · rw [a33, upd_at, if_neg hj]
  · by_cases q : c = ch
    · subst q
      exact ⟨k, hk3, by rw [a34, upd_at, if_pos rfl], fun b hb => r7 b (Nat.zero_le _) hb⟩
    · obtain ⟨k', d1, d2, d3⟩ := hC c (by omega)
      refine ⟨k', d1, by rw [a34, upd_at, if_neg (by omega)]; exact d2, fun b hb => ?_⟩
      have := nb_4 k'
      obtain ⟨t, t1, t2⟩ := d3 b hb
      exact ⟨t, by omega, by rw [r6 _ (by omega)]; exact t2⟩
/-- what a visit of the state s leaves as it was -/
def FV (s ns : Nat) (σ σ' : Sta) : Prop := Kx σ σ' ∧ FS ns σ σ' ∧ FT (s * 64) σ σ' ∧ FU4 (s * 16) σ σ' ∧ ∀ j, j ≠ s → gA σ' 33 j = gA σ 33 j
theorem FV.trans {ns ns' : Nat} {σ σ1 σ2 : Sta} (h : FV s ns σ σ1) (g : FV s ns' σ1 σ2) (hn : ns ≤ ns') : FV s ns σ σ2 :=
  ⟨h.1.trans g.1, fun j hj => (g.2.1 j (by omega)).trans (h.2.1 j hj), fun j hj => (g.2.2.1 j hj).trans (h.2.2.1 j hj), fun j hj => (g.2.2.2.1 j hj).trans (h.2.2.2.1 j hj), fun j hj => (g.2.2.2.2 j hj).trans (h.2.2.2.2 j hj)⟩
theorem FV_18 {ns : Nat} {σ σ' : Sta} (h : Kp n0 n0 n0 k18 σ σ') : FV s ns σ σ' :=
  ⟨Kx_18 h, fun _ _ => by rw [h.2.2.1 32 (fun e => e)], fun _ _ => by rw [h.2.2.1 35 (fun e => e)], fun _ _ => by rw [h.2.2.1 34 (fun e => e)], fun _ _ => by rw [h.2.2.1 33 (fun e => e)]⟩
theorem ES_18 {ns : Nat} {σ σ' : Sta} (hk : Kp n0 n0 n0 k18 σ σ') (h : ES n ns σ) : ES n ns σ' := ES_n (KN_18 hk) h
theorem CH_18 {ch ns : Nat} {σ σ' : Sta} (hk : Kp n0 n0 n0 k18 σ σ') (h : CH s ch ns σ) : CH s ch ns σ' := by
  unfold CH
  rw [hk.2.2.1 34 (fun e => e), hk.2.2.1 35 (fun e => e)]
  exact h
/-- the commands from k on -/
theorem x_cmds (hn : n < 22) (hx : x ≤ n) (hy : y < 4) : ∀ (m k nn ns ch : Nat) (σ : Sta), k + m = 3 → m < nn → PF n σ → ES n ns σ → VS σ s x y → s < ns → ch ≤ k → gA σ 33 s = nI ch → CH s ch ns σ →
    ∃ ns' σ', f_X5_visit_103 nn (nI s) (nI (s * 6)) 0 (nI k) σ = some ((), σ') ∧ ns ≤ ns' ∧ ES n ns' σ' ∧ FV s ns σ σ' ∧ ∃ ch', ch' ≤ 3 ∧ gA σ' 33 s = nI ch' ∧ CH s ch' ns' σ'
  | _, _, 0, _, _, _, _, hn', _, _, _, _, _, _, _ => absurd hn' (Nat.not_lt_zero _)
  | 0, k, nn + 1, ns, ch, σ, hk, hn', hP, hE, hV, hs, hch, h33, hC => by
    refine ⟨ns, σ, ?_, Nat.le_refl _, hE, ⟨Kp.rfl', fun _ _ => rfl, fun _ _ => rfl, fun _ _ => rfl, fun _ _ => rfl⟩, ch, by omega, h33, hC⟩
    rw [f_X5_visit_103, hP.2.2.1, if_pos (nI_le (by omega) (by omega))]
    rfl
  | m + 1, k, nn + 1, ns, ch, σ, hk, hn', hP, hE, hV, hs, hch, h33, hC => by
    have h88 := ES_le hn hE
    obtain ⟨v, v1, v2⟩ := (hP.2.2.2.2.2.2 k (by omega)).2 x y hx hy
    obtain ⟨σ1, g1, g2⟩ := x_reck v1 (f := s * 6) (by omega) (VS_x hV (by omega) (by omega)).1 (VS_x hV (by omega) (by omega)).2
    have P1 := PF_k (Kx_18 g2) hP
    have E1 := ES_18 g2 hE
    have V1 := VS_n (KN_18 g2) hV
    have F1 : FV s ns σ σ1 := FV_18 g2
    have a33 : gA σ1 33 s = nI ch := by rw [g2.2.2.1 33 (fun e => e)]; exact h33
    have head : f_X5_visit_103 (nn + 1) (nI s) (nI (s * 6)) 0 (nI k) σ = if lg_cmp v 0 = 0 then f_X5_visit_103 nn (nI s) (nI (s * 6)) 0 (nI (k + 1)) σ1 else bnd (f_X5_addChoice (nI s) (nI k) σ1) (fun _ σ10 => f_X5_visit_103 nn (nI s) (nI (s * 6)) 0 (nI (k + 1)) σ10) := by
      rw [f_X5_visit_103, hP.2.2.1, if_neg (nI_ge (by omega) (by omega)), if_pos hE.2.1, if_pos rfl, if_neg (nI_in (by omega) (by decide)), nI_clamp (by omega), g1, bnd_s]
      unfold f_X5_visit_160
      rw [lt_e, nI_1]
      rfl
    rw [head]
    by_cases q : v = 0
    · rw [if_pos ((lg_cmp_eq _ _).mpr q)]
      obtain ⟨ns', σ', r1, r2, r3, r4, r5⟩ := x_cmds hn hx hy m (k + 1) nn ns ch σ1 (by omega) (by omega) P1 E1 V1 hs (by omega) a33 (CH_18 g2 hC)
      exact ⟨ns', σ', r1, r2, r3, F1.trans r4 (Nat.le_refl _), r5⟩
    · rw [if_neg (fun e => q ((lg_cmp_eq _ _).mp e))]
      obtain ⟨ns1, σ2, r1, r2, r3, r4, r5, r6, r7, r8, r9, r10⟩ := x_addChoice (k := k) hn (by omega) hx hy P1 E1 V1 hs (BR_k (Kx_18 g2) (v2 q)) a33 (by omega) (CH_18 g2 hC)
      have F2 : FV s ns σ1 σ2 := ⟨r4, r5, r6, r7, r9⟩
      rw [r1, bnd_s]
      obtain ⟨ns', σ', t1, t2, t3, t4, t5⟩ := x_cmds hn hx hy m (k + 1) nn ns1 (ch + 1) σ2 (by omega) (by omega) (PF_k r4 P1) r3 (VS_f r5 hs V1) (by omega) (by omega) r8 r10
      exact ⟨ns', σ', t1, by omega, t3, (F1.trans F2 (Nat.le_refl _)).trans t4 r2, t5⟩
end VI
