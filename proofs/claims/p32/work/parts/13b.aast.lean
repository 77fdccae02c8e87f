/-! a store into the row of strategies -/
theorem cv_sP {Y : CYs} {E : Nat → Nat} {σ : Sta} {i x k : Nat} {d : Dsc} (hd : d.1 < 4) : cv Y E (sP σ i x) k d = cv Y E σ k d := by
  obtain ⟨t, n, fs⟩ := d
  match t, hd with
  | 0, _ =>
    show Sum.inr (n, fvs E (sP σ i x) (64 * k) fs) = Sum.inr (n, fvs E σ (64 * k) fs)
    rw [fvs_congr (σ := σ) (σ' := sP σ i x) (fun x _ _ => ⟨rfl, rfl⟩)]
  | 1, _ => rfl
  | 2, _ => rfl
  | 3, _ => rfl
theorem wd_sP {Y : CYs} {E : Nat → Nat} {σ : Sta} {L : List Dsc} {q n : Nat} {z : List (Nat × Nat)} (hq : L[q]? = some (4, n, z)) (h4 : ∀ k d, L[k]? = some d → k ≠ q → d.1 < 4) (i x : Nat) : (wd Y E σ 0 L).set q (E q, .inl (Y.2.2.2, n, .inr (.inr (.inr (.inr (va_up (fun i => some (E (41 + 5 * gP σ i))) i (some (E (41 + 5 * x))))))))) = wd Y E (sP σ i x) 0 L := by
  refine wd_set hq ?_ (fun k d hk hne => cv_sP (h4 k d hk hne))
  show Sum.inl (Y.2.2.2, n, Sum.inr (Sum.inr (Sum.inr (Sum.inr (fun j => some (E (41 + 5 * gP (sP σ i x) j))))))) = _
  have hf : (fun j => some (E (41 + 5 * gP (sP σ i x) j))) = va_up (fun i => some (E (41 + 5 * gP σ i))) i (some (E (41 + 5 * x))) := by
    funext j
    unfold va_up
    rw [gP_sP]
    by_cases h : j = i
    · rw [if_pos h, if_pos h]
    · rw [if_neg h, if_neg h]
  rw [hf]
theorem x_aast {p : Program} {l : Launch} {e : Env} {R : Room} {s : State} {m : MethodId} {args : Array Value} {below : List Frame} {meth : Method} {c : Code} {H : Heap} {locs : List Loc} {cells slots : Nat} {Q : State → Prop} {D : va_G} {Y : CYs} {E : Nat → Nat} {σ : Sta} {L : List Dsc} {own : String} {cc : ByteArray} {pc : Nat} {ls : Array Slot} {rest : List Value} {A : Nat → Prop} {H0 : Heap}
    {q n d ci N : Nat} {T : u_T} {z fs : List (Nat × Nat)} (h4 : ∀ k d, L[k]? = some d → k ≠ q → d.1 < 4) (hC : Ctx p s m args own D Y) (hb : c.code = cc) (hP : va_P D vwCl (wd Y E σ 0 L) H) (hD : ∀ τ, va_D A (wd Y E τ 0 L)) (hS : va_S A H0 H locs) (hq : L[q]? = some (4, n, z)) (hd : L[41 + 5 * d]? = some (0, ci, fs)) (hc : vwCl[ci]? = some ("MarkovBench$Strategy", T, N)) {i : Int32} (hin : ¬ (i < 0 ∨ n ≤ i.toNatClampNeg)) (hdg : decode cc pc = .ok (.aastore, 1))
    (kk : ∀ (H1 : Heap) (locs1 : List Loc) (τ : Sta), τ = sP σ i.toNatClampNeg d → va_P D vwCl (wd Y E τ 0 L) H1 → va_S A H0 H1 locs1 → W p l e R s m args below meth c H1 locs1 cells slots Q (F0 m (pc + 1) ls rest)) : W p l e R s m args below meth c H locs cells slots Q (F0 m pc ls (.ref (E (41 + 5 * d)) :: .int i :: .ref (E q) :: rest)) :=
  va_astq hC.1 hb hC.2.2.2.1 hP (hD σ) hS q 3 (41 + 5 * d) ci (wd_at hq) rfl (wd_at hd) hc hin hdg (fun H1 locs1 h1 _ h3 => by
    rw [wd_sP hq h4] at h1
    exact kk H1 locs1 _ rfl h1 h3)
theorem lc_x4a : (List.range 106).all (fun k => k == 10 || match LC[k]? with | some d => decide (d.1 < 4) | none => true) = true := by decide +kernel
theorem lc_x4 : ∀ k d, LC[k]? = some d → k ≠ 10 → d.1 < 4 := fun k d hk hne => by
  have hl : k < 106 := (List.getElem?_eq_some_iff.mp hk).1
  have h := List.all_eq_true.mp lc_x4a k (List.mem_range.mpr hl)
  rw [hk] at h
  simp only [Bool.or_eq_true, beq_iff_eq, decide_eq_true_eq] at h
  exact h.resolve_left hne
