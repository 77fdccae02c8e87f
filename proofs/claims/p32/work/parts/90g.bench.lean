/-! The class's constructor, whole (by wip/p32/ctord.py). -/
set_option maxHeartbeats 4000000 in
set_option maxRecDepth 100000 in
theorem bW_wd {Y : CYs} {h0 q9 : Nat} {q0 : Nat} {q1 : Nat} {u1 : Nat → Nat} {q2 : Nat} {u2 : Nat → Nat} {q3 : Nat} {u3 : Nat → Nat} {q4 : Nat} {u4 : Nat → Nat} {q5 : Nat} {u5 : Nat → Nat} {q6 : Nat} {u6 : Nat → Nat} {q7 : Nat} {u7 : Nat → Nat} {q8 : Nat} {s : Nat → Nat × (Nat → Nat)} : bPerm.map (fun i => (bW Y h0 q9 q0 q1 u1 q2 u2 q3 u3 q4 u4 q5 u5 q6 u6 q7 u7 q8 (-1) (fun i => some (bE h0 q9 q0 q1 u1 q2 u2 q3 u3 q4 u4 q5 u5 q6 u6 q7 u7 q8 s (41 + 5 * i))) ((List.range 13).map s))[i]?) = (wd Y (bE h0 q9 q0 q1 u1 q2 u2 q3 u3 q4 u4 q5 u5 q6 u6 q7 u7 q8 s) σC0 0 LC).map some := rfl
theorem fm_map {α : Type} {ws ws' : List α} : ∀ {is : List Nat}, is.map (fun i => ws[i]?) = ws'.map some → is.filterMap (fun i => ws[i]?) = ws' := by
  intro is
  induction is generalizing ws' with
  | nil =>
    intro h
    cases ws' with
    | nil => rfl
    | cons a r => simp at h
  | cons i r ih =>
    intro h
    cases ws' with
    | nil => simp at h
    | cons a r' =>
      simp only [List.map_cons, List.cons.injEq] at h
      rw [List.filterMap_cons, h.1, ih h.2]
theorem bW_P {D : va_G} {Y : CYs} {A : Nat → Prop} {h0 q9 : Nat} {q0 : Nat} {q1 : Nat} {u1 : Nat → Nat} {q2 : Nat} {u2 : Nat → Nat} {q3 : Nat} {u3 : Nat → Nat} {q4 : Nat} {u4 : Nat → Nat} {q5 : Nat} {u5 : Nat → Nat} {q6 : Nat} {u6 : Nat → Nat} {q7 : Nat} {u7 : Nat → Nat} {q8 : Nat} {Ss : List (Nat × (Nat → Nat))} {H : Heap} (h13 : Ss.length = 13) (hP : va_P D vwCl (bW Y h0 q9 q0 q1 u1 q2 u2 q3 u3 q4 u4 q5 u5 q6 u6 q7 u7 q8 (-1) (sFin 0 (fun _ => none) Ss) Ss) H) (hD : va_D A (bW Y h0 q9 q0 q1 u1 q2 u2 q3 u3 q4 u4 q5 u5 q6 u6 q7 u7 q8 (-1) (sFin 0 (fun _ => none) Ss) Ss)) : ∃ E : Nat → Nat, E 0 = h0 ∧ va_P D vwCl (wd Y E σC0 0 LC) H ∧ va_D A (wd Y E σC0 0 LC) := by
  obtain ⟨s, hs⟩ : ∃ s : Nat → Nat × (Nat → Nat), Ss = (List.range 13).map s := ⟨_, len_map (0, fun _ => 0) Ss 13 h13⟩
  have hP2 : va_P D vwCl (bW Y h0 q9 q0 q1 u1 q2 u2 q3 u3 q4 u4 q5 u5 q6 u6 q7 u7 q8 (-1) (fun i => some (bE h0 q9 q0 q1 u1 q2 u2 q3 u3 q4 u4 q5 u5 q6 u6 q7 u7 q8 s (41 + 5 * i))) Ss) H := va_P_arr hP (fun j hj => by
    subst hs
    unfold sFin
    rw [if_neg (Nat.not_lt_zero j), Nat.sub_zero, List.getElem?_map, List.getElem?_range hj]
    unfold bE
    rw [if_neg (by omega), if_pos (by omega), show (41 + 5 * j - 41) / 5 = j by omega]
    rfl)
  have hD2 : va_D A (bW Y h0 q9 q0 q1 u1 q2 u2 q3 u3 q4 u4 q5 u5 q6 u6 q7 u7 q8 (-1) (fun i => some (bE h0 q9 q0 q1 u1 q2 u2 q3 u3 q4 u4 q5 u5 q6 u6 q7 u7 q8 s (41 + 5 * i))) Ss) := va_D_arr hD
  subst hs
  exact ⟨bE h0 q9 q0 q1 u1 q2 u2 q3 u3 q4 u4 q5 u5 q6 u6 q7 u7 q8 s, rfl, hP2.sub bPerm (fm_map bW_wd), hD2.sub bPerm (by decide +kernel) bW_wd⟩
set_option maxHeartbeats 4000000 in
set_option maxRecDepth 100000 in
theorem c_X8_init {l : Launch} {D : va_G} {Y : CYs} {h0 : Nat} (sz : Nat) : Met l yX8_init (Cond.code yX8_init cX8_init 2 none :: gW) rn_X8 (PcB h0 Y D sz) (QB h0 Y D sz) 105 101343 (va_A (n0_X8 h0) sz) := by
  refine Met.ofW (cc := cX8_init) (maxL := 2) (ret := none) (by decide) rfl ?_
  intro p e s m args below meth c s₁ B hml hv
  obtain ⟨rfl, hsz, hP, hK, hD0, hN, hSW, hAO⟩ := hv
  have hts := atoms_spec (ws := Cond.code yX8_init cX8_init 2 none :: gW) B.pre
  have hown : s.vm.findClass RX8 = some m.cls := findClass_of_methodNamed B.named
  have hin : meth.name = "<init>" := (name_of_methodNamed B.named B.method).1
  subst hsz
  have hl := lv_entry [Value.ref h0] (n := 2) (Nat.le_of_ble_eq_true rfl)
  rw [lg_entry_eq]
  have hC : Ctx p s m [Value.ref h0].toArray RX8 D Y := ⟨B.exec, fun w h => hts w (List.mem_cons_of_mem _ h), hown, hK, hN⟩
  have hb : c.code = cX8_init := B.bytes
  have hr := B.returns
  have hlk := B.notSynchronized
  have hx := hC.1
  have hD : va_D (va_A (n0_X8 h0) s.heap.size) (n0_X8 h0) := hD0.self (sz := s.heap.size)
  generalize hAe : va_A (n0_X8 h0) s.heap.size = A at hD hSW ⊢
  have hA : ∀ q : Nat, s.heap.size ≤ q → A q := fun q h => by rw [← hAe]; exact Or.inr h
  refine c_X8_straight hC hb hml hin hSW hAO hP hD hA hl (fun q9 q0 q1 u1 q2 u2 q3 u3 q4 u4 q5 u5 q6 u6 q7 u7 q8 H locs hP hD hS => ?_)
  refine lv_iconst (v := 0) hx hb dX8_init_134 (by decide) ?_
  refine lv_istore_n (lv' := [(1, .int 0), (0, .ref h0)]) hx hb dX8_init_135 rfl hl (by decide) rfl (fun ls hl => ?_)
  have hP : va_P D vwCl ((h0, .inr (10, bF h0 q9 q0 q1 u1 q2 u2 q3 u3 q4 u4 q5 u5 q6 u6 q7 u7 q8 0)) :: sArr Y q9 (fun _ => none) :: bT Y q0 q1 u1 q2 u2 q3 u3 q4 u4 q5 u5 q6 u6 q7 u7 q8) H := hP.sub ([0, 40] ++ (List.range 39).map (· + 1)) rfl
  have hD : va_D A ((h0, .inr (10, bF h0 q9 q0 q1 u1 q2 u2 q3 u3 q4 u4 q5 u5 q6 u6 q7 u7 q8 0)) :: sArr Y q9 (fun _ => none) :: bT Y q0 q1 u1 q2 u2 q3 u3 q4 u4 q5 u5 q6 u6 q7 u7 q8) := hD.sub ([0, 40] ++ (List.range 39).map (· + 1)) (by decide +kernel) rfl
  refine l_loop hC hb hml hSW hA rfl (Nat.le_of_ble_eq_true rfl) (Nat.le_of_ble_eq_true rfl) 13 0 _ (fun _ => none) H locs ls _ _ rfl (fun _ _ => rfl) hP hD hS (lv_sub hl [1, 0] rfl) (Nat.le_of_ble_eq_true rfl) (Nat.le_of_ble_eq_true rfl) (fun Ss H locs ls h13 hP hD hS hl => ?_)
  refine lv_aload_n hx hb dX8_init_164 rfl (lv_at hl 0 rfl) ?_
  refine lv_iconst (v := -1) hx hb dX8_init_165 (by decide) ?_
  refine n_put hC hb hP hD hS inGX8 tyX8 tyX8_ok nmX8 0 rfl rfl 12 (by decide) (gw_t (tb2 (List.mem_of_getElem? (i := 90) rfl)) rfl) rfl rfl rfl rfl rfl (Nat.le_of_ble_eq_true rfl) dX8_init_166 (fun H locs hP hD hS => ?_)
  obtain ⟨E, hE, hP, hD⟩ := bW_P h13 hP hD
  subst hAe
  exact W.vret hx hb hr (fun t ht hW => ⟨⟨E, rfl, hE, by rw [ht]; exact hP, va_K.moved hW.alike hC.2.2.2.1, hD⟩, hS.F ht⟩) hS.2.2 dX8_init_169 hlk
