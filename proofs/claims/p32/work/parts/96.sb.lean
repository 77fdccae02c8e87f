/-! StringBuilder and what it calls, Latin-1 alone (by wip/p32/sb.py). -/
abbrev sbW (Y : CYs) (h n : Nat) (u : Nat × Nat × (Nat → Int32)) : va_W := [(h, .inr (1, [.ref u.1, .int 0, .int 0, .int (nI n)])), (u.1, .inl (Y.2.2.1.1, u.2.1, .inl u.2.2))]
def FB (f : Nat → Int32) : Prop := ∀ i, fits .byte (.int (f i)) = true
theorem FB_0 : FB (fun _ => 0) := fun _ => rfl
theorem FB_cpy {f g : Nat → Int32} {a b n : Nat} (hf : FB f) (hg : FB g) : FB (va_cpy f g a b n) := fun i => by
  unfold va_cpy
  split
  · exact hf _
  · exact hg _
theorem gi_SU {own : String} {index : Nat} {y : MethodName} (h1 : Cond.methodLink own index y ∈ gW) (h2 : Cond.sameMethod y.cls y.cls y.name y.desc ∈ gW) (h3 : Cond.superclass own y.cls ∈ gW) (h4 : Cond.instanceMethod y ∈ gW) (h5 : Cond.initialized y.cls ∈ gW) {b : Cond} (h6 : b ∈ gW) : GoodIn gW (va_wsSU own index y (b :: gW)) := fun w hw => by
  have hg : ∀ w, w ∈ gW → w ∈ gW ∧ ((w.onTables && w.keeps) = true ∨ ∃ ty, w = .arrayClass ty) := fun w h => ⟨h, good_of_word (gW_good _ h)⟩
  unfold va_wsSU at hw
  rcases List.mem_append.mp hw with h | h
  · simp only [List.mem_cons, List.not_mem_nil, or_false] at h
    rcases h with rfl | rfl | rfl | rfl | rfl
    · exact hg _ h1
    · exact hg _ h2
    · exact hg _ h3
    · exact hg _ h4
    · exact hg _ h5
  · exact gi_law h6 w h
theorem cu_of {R : Room} {p : Program} {s : State} {m : MethodId} {args : Array Value} {own C : String} {D : va_G} {Y : CYs} {index maxL mc ms : Nat} {y : MethodName} {bytes : ByteArray} {ret : Option FieldType} {rm : Room} (n : Nat) (hC : Ctx p s m args own D Y) (hcode : Cond.code y bytes maxL ret ∈ gW) (hrc : rm.cells = mc) (hrs : rm.slots = ms) (hR : rm.frames + 1 ≤ R.frames ∧ 8 + (maxL + 11) + rm.locals ≤ R.locals)
    (hlink : Cond.methodLink own index y ∈ gW) (hsame : Cond.sameMethod y.cls y.cls y.name y.desc ∈ gW) (hinst : Cond.instanceMethod y ∈ gW) (hini : Cond.initialized y.cls ∈ gW) (hsel : (Cond.selects C y y).before args s = true)
    (hd : y.cls ≠ "java/lang/invoke/MethodHandle" ∧ y.cls ≠ "java/lang/invoke/VarHandle" ∧ (parseMethodDescriptor y.desc).map (fun d => d.parameters.length) = some n) : va_CU R s args own C y.cls index y y bytes maxL ret (Cond.code y bytes maxL ret :: gW) rm mc ms n :=
  ⟨⟨hrc, hrs, hR.1, hR.2, pay_in hC.2.1 (gi_law hcode), List.mem_cons_self⟩, hC.2.1 _ hcode, hC.2.1 _ hini, ⟨hd.1, hd.2.1⟩, fun sig h => by
    have h2 := hd.2.2
    rw [h] at h2
    exact (Option.some.inj h2).symm, hC.2.1 _ hlink, hC.2.1 _ hsame, va_Decl.of (hC.2.1 _ hinst) (hC.2.1 _ hcode), hsel, hC.2.1 _ hinst⟩
theorem mx_n {a b : Nat} (ha : a < 2 ^ 31) (hb : b < 2 ^ 31) : (if nI a < nI b then nI b else nI a) = nI (if a < b then b else a) := by
  by_cases q : a < b
  · rw [if_pos (nI_lt q hb), if_pos q]
  · rw [if_neg (nI_nlt (by omega) ha), if_neg q]
theorem mn_n {a b : Nat} (h : a ≤ b) (hb : b < 2 ^ 31) : (if nI a < nI b then nI a else nI b) = nI a := by
  by_cases q : a = b
  · rw [q, if_neg (nI_nlt (Nat.le_refl _) hb)]
  · rw [if_pos (nI_lt (by omega) hb)]
theorem MIs_E {l : Launch} {y : MethodName} {ws : List Cond} {rm : Room} {Y : CYs} {D : va_G} {E : Nat → Nat} {N : Nat} {bs : List Int32} {a v : Nat} {As : List Value} {σ σ2 : Sta} {r : Int32} (h : MIs l y ws rm [] Y D E N bs a v As σ (r, σ2)) (sz : Nat) : Met l y ws rm (PcE (STA N bs a v) [] Y D sz As) (GI (S := Sta) (fun x u => x = r ∧ u = σ2) (fun _ => []) Y D (va_A [] sz)) 0 0 (va_A [] sz) := by
  have hA : AF E ([] : List Dsc).length sz = va_A [] sz := AF_wd (Y := Y) (σ := σ) (L := [])
  have h1 := h sz
  have e1 : (fun w U => PcC [] Y D E σ sz As w U ∧ STA N bs a v (AF E ([] : List Dsc).length sz) U U.heap) = PcE (STA N bs a v) [] Y D sz As := by
    funext w U
    rw [hA]
    refine propext ⟨fun hh => ?_, fun hh => ?_⟩
    · obtain ⟨⟨h0, a1, a2, a3, a4, a5, a6⟩, hx⟩ := hh
      exact ⟨h0, a1, a2, a3, a4, a5, by rw [← hA]; exact a6, hx⟩
    · obtain ⟨h0, a1, a2, a3, a4, a5, a6, hx⟩ := hh
      exact ⟨⟨h0, a1, a2, a3, a4, a5, by rw [hA]; exact a6⟩, hx⟩
  have e2 : QI [] Y D E sz (r, σ2) = va_Qi (fun x u => x = r ∧ u = σ2) (AtX Y D (va_A [] sz) (fun _ : Sta => [])) (va_A [] sz) := by
    unfold QI
    rw [hA]
    rfl
  rw [e1, e2, hA] at h1
  exact h1
