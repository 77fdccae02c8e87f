abbrev LM0 : List Dsc := LM ++ []
abbrev LM1 : List Dsc := LM ++ [(1, 3, [])]
theorem lokM0 : Lok LM0 := Lok_of (by decide +kernel)
theorem lokM1 : Lok LM1 := Lok_of (by decide +kernel)
theorem lm1_38 : LM1[38]? = some (1, 3, []) := rfl
theorem wd_LM1 {Y : CYs} {E E1 : Nat → Nat} {σ : Sta} {q : Nat} (h : E1 = va_up E 38 q) : wd Y E1 σ 0 LM1 = wd Y E σ 0 LM0 ++ [(q, .inl (Y.1, 3, .inl (gA σ 38)))] := by
  subst h
  rfl
theorem wd_LM1s {Y : CYs} {E : Nat → Nat} {σ : Sta} {f : Nat → Int32} : wd Y E (sA σ 38 f) 0 LM0 = wd Y E σ 0 LM0 := rfl
set_option maxHeartbeats 1000000 in
set_option maxRecDepth 100000 in
/-- new int[3], the only cell that a method of the reference makes beside a Wrong -/
theorem x_new3 {p : Program} {l : Launch} {e : Env} {R : Room} {s : State} {m : MethodId} {args : Array Value} {below : List Frame} {meth : Method} {c : Code} {H : Heap} {locs : List Loc} {D : va_G} {Y : CYs} {E : Nat → Nat} {σ : Sta} {cc : ByteArray} {pc nL : Nat} {rc : Option FieldType} {ls : Array Slot} {rest : List Value} {o : Int32 × Sta}
    (hF : Fr p s m args meth c RX10 cc nL rc D Y E LM0) (hP : va_P D vwCl (wd Y E σ 0 LM0) H) (hS : va_S (AF E LM0.length s.heap.size) s.heap H locs) (hdg : decode cc pc = .ok (.newarray .int, 2)) (hc : 0 + 1 ≤ R.cells) (hs : 0 + 3 ≤ R.slots)
    (kk : ∀ (E1 : Nat → Nat) (H1 : Heap) (locs1 : List Loc) (σ1 : Sta), σ1 = sA σ 38 (fun _ => 0) → (∀ k, k < 38 → E1 k = E k) → Fr p s m args meth c RX10 cc nL rc D Y E1 LM1 → va_P D vwCl (wd Y E1 σ1 0 LM1) H1 → va_S (AF E1 LM1.length s.heap.size) s.heap H1 locs1 →
      W p l e R s m args below meth c H1 locs1 1 3 (MQ below (QI LM1 Y D E1 s.heap.size o) args s 1 3 (AF E1 LM1.length s.heap.size)) (F0 m (pc + 2) ls (.ref (E1 38) :: rest))) :
    W p l e R s m args below meth c H locs 0 0 (MQ below (QI LM0 Y D E s.heap.size o) args s 1 3 (AF E LM0.length s.heap.size)) (F0 m pc ls (.int 3 :: rest)) := by
  obtain ⟨hC, hb, hml, hr, hlk, hD, hSW⟩ := hF
  refine va_newa (atype := .int) (ty := .int) (a0 := (3, .inl (fun _ => 0))) hC.1 hb (hC.2.1 (.arrayClass .int) (gw_t (tb1 (List.mem_of_getElem? (i := 56) rfl)) rfl)) rfl hC.2.2.2.1 hP (hD σ) hS (fun _ h => Or.inr h) (fun _ => rfl) (by decide) (by decide) (by decide) hc hs hdg (fun q cA H1 hK1 hP1 hD1 hS1 => ?_)
  obtain ⟨k1, k2⟩ := hK1.2 4 (cA, .int) rfl
  obtain ⟨k3, k4⟩ := hC.2.2.2.1.2 0 (Y.1, .int) rfl
  have hcA : cA = Y.1 := Option.some.inj ((show s.vm.findClass _ = some cA from k2).symm.trans (show s.vm.findClass _ = some Y.1 from k4))
  subst hcA
  obtain ⟨E1, hE1⟩ : ∃ z, z = va_up E 38 q := ⟨_, rfl⟩
  have hE : ∀ k, k < 38 → E1 k = E k := fun k hk => by rw [hE1]; exact va_up_ne E q (by omega)
  have hE38 : E1 38 = q := by rw [hE1]; exact va_up_self E 38 q
  have hqA : AF E 38 s.heap.size q := by
    have h9 := hD1.2 38 (q, .inl (Y.1, 3, .inl fun _ => 0)) (by
      rw [List.getElem?_append_right (by rw [wd_len]; exact Nat.le_refl 38), wd_len]
      rfl)
    exact h9
  have hAF : AF E1 LM1.length s.heap.size = AF E LM0.length s.heap.size := by
    funext x
    refine propext ⟨fun h => ?_, fun h => ?_⟩
    · rcases h with ⟨k, hk, rfl⟩ | h
      · by_cases h8 : k < 38
        · exact Or.inl ⟨k, h8, hE k h8⟩
        · have : k = 38 := by
            have h7 : k < 39 := hk
            omega
          subst this
          rw [hE38]
          exact hqA
      · exact Or.inr h
    · rcases h with ⟨k, hk, rfl⟩ | h
      · have h8 : k < 38 := hk
        exact Or.inl ⟨k, Nat.lt_trans h8 (by decide), (hE k h8).symm⟩
      · exact Or.inr h
  have hw : wd Y E1 (sA σ 38 (fun _ => 0)) 0 LM1 = wd Y E σ 0 LM0 ++ [(q, .inl (Y.1, 3, .inl fun _ => 0))] := by rw [wd_LM1 hE1]; rfl
  have hD2 : ∀ τ, va_D (AF E1 LM1.length s.heap.size) (wd Y E1 τ 0 LM1) := fun τ => by
    have h1 : va_D (AF E LM0.length s.heap.size) (wd Y E1 (sA σ 38 (fun _ => 0)) 0 LM1) := by rw [hw]; exact hD1
    exact wd_DA h1
  rw [← hw] at hP1
  have hk := kk E1 H1 locs _ rfl hE ⟨hC, hb, hml, hr, hlk, hD2, by rw [hAF]; exact hSW⟩ hP1 (by rw [hAF]; exact hS1)
  rw [hE38] at hk
  intro T hT X
  obtain ⟨t, st, o1, h1, h2, ⟨⟨r, u, e1, e2, hB⟩, hFr⟩, L, h4, h5⟩ := hk T hT X
  rw [hAF] at h5 hFr
  refine ⟨t, st, o1, h1, h2, ⟨⟨r, u, e1, e2, ?_⟩, hFr⟩, L, h4, h5⟩
  obtain ⟨b1, b2, b3⟩ := hB
  refine ⟨fun k z hz => ?_, b2, hD u⟩
  refine b1 k z ?_
  rw [wd_LM1 hE1, List.getElem?_append_left (List.getElem?_eq_some_iff.mp hz).1]
  exact hz
