/-! Visits, and the whole exploring. -/
section EP
variable {n s x y : Nat}
theorem FV.rfl' {ns : Nat} {σ : Sta} : FV s ns σ σ := ⟨Kp.rfl', fun _ _ => rfl, fun _ _ => rfl, fun _ _ => rfl, fun _ _ => rfl⟩
theorem x_goal {σ : Sta} (hs : s < 100) (hP : PF n σ) (hV : VS σ s x y) (hx : x < 100) (hy : y < 100) : ∃ v σ', f_X0_reckon (gI σ 201) (nI (s * 6)) σ = some (v, σ') ∧ Kp n0 n0 n0 k18 σ σ' := by
  rcases hP.2.2.2.2.2.1 with q | q
  · refine ⟨0, σ, ?_, Kp.rfl'⟩
    unfold f_X0_reckon f_X0_reckon_12
    rw [if_pos q]
  · obtain ⟨v, hv⟩ := q (lN x) (lN y)
    obtain ⟨σ1, g1, g2⟩ := x_reck hv (f := s * 6) (by omega) (VS_x hV hx hy).1 (VS_x hV hx hy).2
    exact ⟨v, σ1, g1, g2⟩
theorem x_visit7 (hn : n < 22) (hx : x ≤ n) (hy : y < 4) : ∀ (m g nn ns : Nat) (σ : Sta), g + m = 3 → m < nn → PF n σ → ES n ns σ → VS σ s x y → s < ns →
    ∃ ns' σ', f_X5_visit_7 nn (nI s) (nI (s * 6)) (nI g) σ = some ((), σ') ∧ ns ≤ ns' ∧ ES n ns' σ' ∧ FV s ns σ σ' ∧ DN s ns' σ'
  | _, _, 0, _, _, _, hn', _, _, _, _ => absurd hn' (Nat.not_lt_zero _)
  | 0, g, nn + 1, ns, σ, hg, hn', hP, hE, hV, hs => by
    have h88 := ES_le hn hE
    obtain ⟨v, σ1, g1, g2⟩ := x_goal (by omega) hP hV (by omega) (by omega)
    have P1 := PF_k (Kx_18 g2) hP
    have E1 := ES_18 g2 hE
    have V1 := VS_n (KN_18 g2) hV
    have F1 : FV s ns σ σ1 := FV_18 g2
    -- the count of choices is set
    have fs : ∀ w : Int32, FV s ns σ1 (sA σ1 33 (upd (gA σ1 33) s w)) := fun w => ⟨Kp.sA (by unfold xA; omega) Kp.rfl', fun _ _ => rfl, fun _ _ => rfl, fun _ _ => rfl, fun j hj => by
      show upd (gA σ1 33) s w j = _
      rw [upd_at, if_neg hj]⟩
    have w99 : ∀ v3 w : Int32, f_X5_visit_99 (nI s) (nI (s * 6)) v3 w (nI s) σ1 = f_X5_visit_103 FU (nI s) (nI (s * 6)) v3 0 (sA σ1 33 (upd (gA σ1 33) s w)) := fun v3 w => by
      unfold f_X5_visit_99
      rw [if_neg (nI_in (by omega) (by decide)), nI_clamp (by omega), lt_e]
    rw [f_X5_visit_7, hP.2.1, if_pos (nI_le (by omega) (by omega)), g1, bnd_s]
    unfold f_X5_visit_84
    by_cases q : v = 0
    · rw [if_pos ((lg_cmp_eq _ _).mpr q), if_pos rfl, w99]
      obtain ⟨ns', σ', r1, r2, r3, r4, ch, c1, c2, c3⟩ := x_cmds hn hx hy 3 0 FU ns 0 (sA σ1 33 (upd (gA σ1 33) s 0)) rfl (FU_lt (by decide)) (PF_k (fs 0).1 P1) E1 V1 hs (Nat.le_refl _) (by show upd (gA σ1 33) s 0 s = _; rw [upd_at, if_pos rfl]; rfl) (fun c hc => absurd hc (Nat.not_lt_zero _))
      exact ⟨ns', σ', r1, r2, r3, (F1.trans (fs 0) (Nat.le_refl _)).trans r4 (Nat.le_refl _), Or.inr ⟨ch, c1, c2, c3⟩⟩
    · rw [if_neg (fun e => q ((lg_cmp_eq _ _).mp e)), if_neg (by decide), w99]
      obtain ⟨F, hF⟩ := FU_3
      refine ⟨ns, sA σ1 33 (upd (gA σ1 33) s (-1)), ?_, Nat.le_refl _, E1, F1.trans (fs (-1)) (Nat.le_refl _), Or.inl (by show upd (gA σ1 33) s (-1) s = _; rw [upd_at, if_pos rfl])⟩
      rw [hF, f_X5_visit_103, show gI (sA σ1 33 (upd (gA σ1 33) s (-1))) 202 = nI 3 from P1.2.2.1, if_neg (by decide), if_pos (show gI (sA σ1 33 (upd (gA σ1 33) s (-1))) 329 = 0 from E1.2.1), if_neg (by decide)]
      rfl
  | m + 1, g, nn + 1, ns, σ, hg, hn', hP, hE, hV, hs => by
    have h88 := ES_le hn hE
    obtain ⟨v, v1⟩ := hP.2.2.2.2.1 g (by omega) (lN x) (lN y)
    obtain ⟨σ1, g1, g2⟩ := x_reck v1 (f := s * 6) (by omega) (VS_x hV (by omega) (by omega)).1 (VS_x hV (by omega) (by omega)).2
    have fg : FV s ns σ1 (sJ σ1 36 (vp_updL (gJ σ1 36) (s * 3 + g) v)) := ⟨Kp.sJ (by unfold xJ; omega) Kp.rfl', fun _ _ => rfl, fun _ _ => rfl, fun _ _ => rfl, fun _ _ => rfl⟩
    obtain ⟨ns', σ', r1, r2, r3, r4, r5⟩ := x_visit7 hn hx hy m (g + 1) nn ns (sJ σ1 36 (vp_updL (gJ σ1 36) (s * 3 + g) v)) (by omega) (by omega) (PF_k fg.1 (PF_k (Kx_18 g2) hP)) (show ES n ns σ1 from ES_18 g2 hE) (show VS σ1 s x y from VS_n (KN_18 g2) hV) hs
    refine ⟨ns', σ', ?_, r2, r3, ((FV_18 g2).trans fg (Nat.le_refl _)).trans r4 (Nat.le_refl _), r5⟩
    rw [f_X5_visit_7, hP.2.1, if_neg (nI_ge (by omega) (by omega)), if_neg (nI_in (by omega) (by decide)), nI_clamp (by omega), g1, bnd_s, show (3 : Int32) = nI 3 from rfl, pk_mul, nI_add, if_neg (nI_in (by omega) (by decide)), nI_clamp (by omega), lt_e, lt_e, nI_1]
    exact r1
theorem x_visit {ns : Nat} {σ : Sta} (hn : n < 22) (hP : PF n σ) (hE : ES n ns σ) (hs : s < ns) :
    ∃ ns' σ', f_X5_visit (nI s) σ = some ((), σ') ∧ ns ≤ ns' ∧ ES n ns' σ' ∧ FV s ns σ σ' ∧ DN s ns' σ' := by
  obtain ⟨x, y, a, b, c⟩ := hE.2.2.1 s hs
  obtain ⟨ns', σ', r1, r2⟩ := x_visit7 hn a b 3 0 FU ns σ rfl (FU_lt (by decide)) hP hE c hs
  refine ⟨ns', σ', ?_, r2⟩
  unfold f_X5_visit
  rw [show (6 : Int32) = nI 6 from rfl, pk_mul, lt_e]
  exact r1
theorem DN_f {i ns ns' : Nat} {σ σ' : Sta} (hi : i < s) (h : FV s ns σ σ') (hn : ns ≤ ns') (hd : DN i ns σ) : DN i ns' σ' := by
  unfold DN
  rw [h.2.2.2.2 i (by omega)]
  refine hd.imp id (fun e => ?_)
  obtain ⟨ch, a, b, c⟩ := e
  exact ⟨ch, a, b, CH_f c hn (fun j hj => h.2.2.2.1 j (by omega)) (fun j hj => h.2.2.1 j (by omega))⟩
theorem x_explore40 (hn : n < 22) : ∀ (m i nn ns : Nat) (σ : Sta), i + m = 100 → m < nn → i ≤ ns → PF n σ → ES n ns σ → (∀ j, j < i → DN j ns σ) →
    ∃ ns' σ', f_X5_explore_40 nn (nI i) σ = some (0, σ') ∧ ns ≤ ns' ∧ ES n ns' σ' ∧ Kx σ σ' ∧ ∀ j, j < ns' → DN j ns' σ'
  | _, _, 0, _, _, _, hn', _, _, _, _ => absurd hn' (Nat.not_lt_zero _)
  | 0, i, nn + 1, ns, σ, hi, hn', his, hP, hE, hD => by
    have := ES_le hn hE
    omega
  | m + 1, i, nn + 1, ns, σ, hi, hn', his, hP, hE, hD => by
    have h88 := ES_le hn hE
    rw [f_X5_explore_40, if_neg (show ¬ (100 : Int32) ≤ nI i from nI_ge (b := 100) (by omega) (by decide)), hE.1]
    by_cases q : ns ≤ i
    · have e : i = ns := by omega
      subst e
      rw [if_pos (nI_le (Nat.le_refl _) (by omega))]
      refine ⟨i, σ, ?_, Nat.le_refl _, hE, Kp.rfl', hD⟩
      unfold f_X5_explore_72
      rw [hE.2.1]
    · rw [if_neg (nI_ge (by omega) (by omega)), if_pos hE.2.1]
      obtain ⟨ns1, σ1, r1, r2, r3, r4, r5⟩ := x_visit (s := i) hn hP hE (by omega)
      rw [r1, bnd_s, lt_e, nI_1]
      obtain ⟨ns', σ', t1, t2, t3, t4, t5⟩ := x_explore40 hn m (i + 1) nn ns1 σ1 (by omega) (by omega) (by omega) (PF_k r4.1 hP) r3 (fun j hj => by
        by_cases qj : j = i
        · subst qj
          exact r5
        · exact DN_f (by omega) r4 r2 (hD j (by omega)))
      exact ⟨ns', σ', t1, by omega, t3, r4.1.trans t4, t5⟩
theorem x_explore {f : Nat} {σ : Sta} (hn : n < 22) (hP : PF n σ) (h0 : gA σ 20 0 = nI f) (h1 : gA σ 20 1 = nI 0) (hf : f ≤ n) :
    ∃ ns σ', f_X5_explore σ = some (0, σ') ∧ 0 < ns ∧ ES n ns σ' ∧ Kx σ σ' ∧ PF n σ' ∧ ∀ j, j < ns → DN j ns σ' := by
  have k0 : Kx σ (sA (sI (sI (sI σ 329 0) 330 (-1)) 322 0) 37 (va_cpy (gA σ 20) (gA σ 37) 0 0 6)) := Kp.sA (by unfold xA; omega) (Kp.sI (by unfold xI; omega) (Kp.sI (by unfold xI; omega) (Kp.sI (by unfold xI; omega) Kp.rfl')))
  have E0 : ES n 0 (sA (sI (sI (sI σ 329 0) 330 (-1)) 322 0) 37 (va_cpy (gA σ 20) (gA σ 37) 0 0 6)) := ⟨rfl, rfl, fun i hi => absurd hi (Nat.not_lt_zero _), fun i j _ hj => absurd hj (Nat.not_lt_zero _)⟩
  have P0 := PF_k k0 hP
  have c0 : va_cpy (gA σ 20) (gA σ 37) 0 0 6 0 = nI f := by rw [cpy_at, if_pos ⟨Nat.le_refl _, by decide⟩]; exact h0
  have c1 : va_cpy (gA σ 20) (gA σ 37) 0 0 6 1 = nI 0 := by rw [cpy_at, if_pos ⟨by decide, by decide⟩]; exact h1
  obtain ⟨p, f1, f2⟩ := x_find hn P0.1 E0 hf (by decide) c0 c1
  rcases f2 with ⟨q, -⟩ | ⟨rfl, q2, q3, q4, q5, q6⟩
  · exact absurd q (Nat.not_lt_zero _)
  have k1 : Kx σ (addN (sA (sI (sI (sI σ 329 0) 330 (-1)) 322 0) 37 (va_cpy (gA σ 20) (gA σ 37) 0 0 6)) 0) := Kp.sI (by unfold xI; omega) (Kp.sA (by unfold xA; omega) k0)
  obtain ⟨ns', σ', t1, t2, t3, t4, t5⟩ := x_explore40 hn 100 0 FU 1 _ rfl (FU_lt (by decide)) (Nat.zero_le _) (PF_k k1 hP) q4 (fun j hj => absurd hj (Nat.not_lt_zero _))
  refine ⟨ns', σ', ?_, t2, t3, k1.trans t4, PF_k (k1.trans t4) hP, t5⟩
  unfold f_X5_explore
  rw [lt_e, lt_e, lt_e, if_neg (by decide), lt_e]
  rw [show (0 : Int32).toNatClampNeg = 0 from rfl, show (6 : Int32).toNatClampNeg = 6 from rfl]
  show bnd (f_X5_addNext (sA (sI (sI (sI σ 329 0) 330 (-1)) 322 0) 37 (va_cpy (gA σ 20) (gA σ 37) 0 0 6))) _ = _
  rw [q3, bnd_s]
  exact t1
end EP
