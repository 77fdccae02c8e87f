/-! Constructors: the class's leaves (by wip/p32/ctor.py). -/
/-- MarkovBench$Tokens: before and behind its constructor -/
abbrev n0_X7 (h0 : Nat) : va_W := [(h0, .inr (9, [.null, .null, .null, .int 0]))]
abbrev n1_X7 (Y : CYs) (h0 : Nat) (u : Nat → Nat) : va_W := [(h0, .inr (9, [.ref (u 0), .ref (u 1), .ref (u 2), .int 0])), (u 0, .inl (Y.1, 1501, .inl (fun _ => 0))), (u 1, .inl (Y.1, 1501, .inl (fun _ => 0))), (u 2, .inl (Y.2.1, 1501, .inr (.inl (fun _ => 0))))]
abbrev rn_X7 : Room := { frames := 1, cells := 3, slots := 4503, locals := 12 }
set_option maxHeartbeats 4000000 in
set_option maxRecDepth 100000 in
theorem c_X7_init {l : Launch} {D : va_G} {Y : CYs} {h0 : Nat} (sz : Nat) : Met l yX7_init (Cond.code yX7_init cX7_init 1 none :: gW) rn_X7 (PcN (n0_X7 h0) Y D sz [.ref h0]) (QN1 (n0_X7 h0) (n1_X7 Y h0) Y D sz) 3 4503 (va_A (n0_X7 h0) sz) := by
  refine Met_ofN (Qc := fun sz => QN1 (n0_X7 h0) (n1_X7 Y h0) Y D sz) (by decide) rfl (Nat.le_of_ble_eq_true rfl) (fun p e s m args below meth c hC hb hml hr hlk hin hSW hP hD ls hl => ?_) sz
  have hx := hC.1
  generalize hAe : va_A (n0_X7 h0) s.heap.size = A at hD ⊢
  have hA : ∀ q : Nat, s.heap.size ≤ q → A q := fun q h => by rw [← hAe]; exact Or.inr h
  have hS : va_S A s.heap s.heap [] := va_S.rf
  have hl : lv_has ls 1 [(0, .ref h0)] := hl
  refine lv_aload_n hx hb dX7_init_0 rfl (lv_at hl 0 rfl) ?_
  refine n_obj hC hb (hl.1.trans hml.symm) (gw_t (tb1 (List.mem_of_getElem? (i := 43) rfl)) rfl) dX7_init_1 (Nat.le_of_ble_eq_true rfl) (Nat.le_of_ble_eq_true rfl) ?_
  refine lv_aload_n hx hb dX7_init_4 rfl (lv_at hl 0 rfl) ?_
  refine lv_sipush (v := 1501) hx hb dX7_init_5 (by decide) ?_
  refine n_arrI (N' := 1501) hC hb hP hD hS hA (by decide) (by decide) (Nat.le_of_ble_eq_true rfl) (Nat.le_of_ble_eq_true rfl) (Nat.le_of_ble_eq_true rfl) dX7_init_8 (fun q0 H hP hD hS => ?_)
  have hP : va_P D vwCl [(h0, .inr (9, [.null, .null, .null, .int 0])), (q0, .inl (Y.1, 1501, .inl (fun _ => 0)))] H := hP
  have hD : va_D A [(h0, .inr (9, [.null, .null, .null, .int 0])), (q0, .inl (Y.1, 1501, .inl (fun _ => 0)))] := hD
  refine n_putF hC hb hP hD hS inGX7 tyX7 tyX7_ok nmX7 0 rfl rfl 0 (by decide) (gw_t (tb1 (List.mem_of_getElem? (i := 44) rfl)) rfl) rfl rfl hin rfl rfl rfl rfl (Nat.le_of_ble_eq_true rfl) dX7_init_10 (fun H locs hP hD hS => ?_)
  have hP : va_P D vwCl [(h0, .inr (9, [.ref q0, .null, .null, .int 0])), (q0, .inl (Y.1, 1501, .inl (fun _ => 0)))] H := hP
  have hD : va_D A [(h0, .inr (9, [.ref q0, .null, .null, .int 0])), (q0, .inl (Y.1, 1501, .inl (fun _ => 0)))] := hD
  refine lv_aload_n hx hb dX7_init_13 rfl (lv_at hl 0 rfl) ?_
  refine lv_sipush (v := 1501) hx hb dX7_init_14 (by decide) ?_
  refine n_arrI (N' := 1501) hC hb hP hD hS hA (by decide) (by decide) (Nat.le_of_ble_eq_true rfl) (Nat.le_of_ble_eq_true rfl) (Nat.le_of_ble_eq_true rfl) dX7_init_17 (fun q1 H hP hD hS => ?_)
  have hP : va_P D vwCl [(h0, .inr (9, [.ref q0, .null, .null, .int 0])), (q0, .inl (Y.1, 1501, .inl (fun _ => 0))), (q1, .inl (Y.1, 1501, .inl (fun _ => 0)))] H := hP
  have hD : va_D A [(h0, .inr (9, [.ref q0, .null, .null, .int 0])), (q0, .inl (Y.1, 1501, .inl (fun _ => 0))), (q1, .inl (Y.1, 1501, .inl (fun _ => 0)))] := hD
  refine n_putF hC hb hP hD hS inGX7 tyX7 tyX7_ok nmX7 0 rfl rfl 1 (by decide) (gw_t (tb1 (List.mem_of_getElem? (i := 46) rfl)) rfl) rfl rfl hin rfl rfl rfl rfl (Nat.le_of_ble_eq_true rfl) dX7_init_19 (fun H locs hP hD hS => ?_)
  have hP : va_P D vwCl [(h0, .inr (9, [.ref q0, .ref q1, .null, .int 0])), (q0, .inl (Y.1, 1501, .inl (fun _ => 0))), (q1, .inl (Y.1, 1501, .inl (fun _ => 0)))] H := hP
  have hD : va_D A [(h0, .inr (9, [.ref q0, .ref q1, .null, .int 0])), (q0, .inl (Y.1, 1501, .inl (fun _ => 0))), (q1, .inl (Y.1, 1501, .inl (fun _ => 0)))] := hD
  refine lv_aload_n hx hb dX7_init_22 rfl (lv_at hl 0 rfl) ?_
  refine lv_sipush (v := 1501) hx hb dX7_init_23 (by decide) ?_
  refine n_arrJ (N' := 1501) hC hb hP hD hS hA (by decide) (by decide) (Nat.le_of_ble_eq_true rfl) (Nat.le_of_ble_eq_true rfl) (Nat.le_of_ble_eq_true rfl) dX7_init_26 (fun q2 H hP hD hS => ?_)
  have hP : va_P D vwCl [(h0, .inr (9, [.ref q0, .ref q1, .null, .int 0])), (q0, .inl (Y.1, 1501, .inl (fun _ => 0))), (q1, .inl (Y.1, 1501, .inl (fun _ => 0))), (q2, .inl (Y.2.1, 1501, .inr (.inl (fun _ => 0))))] H := hP
  have hD : va_D A [(h0, .inr (9, [.ref q0, .ref q1, .null, .int 0])), (q0, .inl (Y.1, 1501, .inl (fun _ => 0))), (q1, .inl (Y.1, 1501, .inl (fun _ => 0))), (q2, .inl (Y.2.1, 1501, .inr (.inl (fun _ => 0))))] := hD
  refine n_putF hC hb hP hD hS inGX7 tyX7 tyX7_ok nmX7 0 rfl rfl 2 (by decide) (gw_t (tb1 (List.mem_of_getElem? (i := 48) rfl)) rfl) rfl rfl hin rfl rfl rfl rfl (Nat.le_of_ble_eq_true rfl) dX7_init_28 (fun H locs hP hD hS => ?_)
  have hP : va_P D vwCl [(h0, .inr (9, [.ref q0, .ref q1, .ref q2, .int 0])), (q0, .inl (Y.1, 1501, .inl (fun _ => 0))), (q1, .inl (Y.1, 1501, .inl (fun _ => 0))), (q2, .inl (Y.2.1, 1501, .inr (.inl (fun _ => 0))))] H := hP
  have hD : va_D A [(h0, .inr (9, [.ref q0, .ref q1, .ref q2, .int 0])), (q0, .inl (Y.1, 1501, .inl (fun _ => 0))), (q1, .inl (Y.1, 1501, .inl (fun _ => 0))), (q2, .inl (Y.2.1, 1501, .inr (.inl (fun _ => 0))))] := hD
  subst hAe
  exact W.vret hx hb hr (fun t ht hW => ⟨⟨(fun i => [q0, q1, q2].getD i 0), rfl, True.intro, by rw [ht]; exact hP, va_K.moved hW.alike hC.2.2.2.1, hD⟩, hS.F ht⟩) hS.2.2 dX7_init_31 hlk
/-- MarkovBench$Code: before and behind its constructor -/
abbrev n0_X0 (h0 : Nat) : va_W := [(h0, .inr (2, [.null, .null, .int 0, .null, .null, .int 0, .null]))]
abbrev n1_X0 (Y : CYs) (h0 : Nat) (u : Nat → Nat) : va_W := [(h0, .inr (2, [.ref (u 0), .ref (u 1), .int 0, .ref (u 2), .ref (u 3), .int 0, .ref (u 4)])), (u 0, .inl (Y.1, 1500, .inl (fun _ => 0))), (u 1, .inl (Y.2.1, 1500, .inr (.inl (fun _ => 0)))), (u 2, .inl (Y.1, 1500, .inl (fun _ => 0))), (u 3, .inl (Y.1, 1500, .inl (fun _ => 0))), (u 4, .inl (Y.2.1, 60, .inr (.inl (fun _ => 0))))]
abbrev rn_X0 : Room := { frames := 1, cells := 5, slots := 6060, locals := 12 }
set_option maxHeartbeats 4000000 in
set_option maxRecDepth 100000 in
theorem c_X0_init {l : Launch} {D : va_G} {Y : CYs} {h0 : Nat} (sz : Nat) : Met l yX0_init (Cond.code yX0_init cX0_init 1 none :: gW) rn_X0 (PcN (n0_X0 h0) Y D sz [.ref h0]) (QN1 (n0_X0 h0) (n1_X0 Y h0) Y D sz) 5 6060 (va_A (n0_X0 h0) sz) := by
  refine Met_ofN (Qc := fun sz => QN1 (n0_X0 h0) (n1_X0 Y h0) Y D sz) (by decide) rfl (Nat.le_of_ble_eq_true rfl) (fun p e s m args below meth c hC hb hml hr hlk hin hSW hP hD ls hl => ?_) sz
  have hx := hC.1
  generalize hAe : va_A (n0_X0 h0) s.heap.size = A at hD ⊢
  have hA : ∀ q : Nat, s.heap.size ≤ q → A q := fun q h => by rw [← hAe]; exact Or.inr h
  have hS : va_S A s.heap s.heap [] := va_S.rf
  have hl : lv_has ls 1 [(0, .ref h0)] := hl
  refine lv_aload_n hx hb dX0_init_0 rfl (lv_at hl 0 rfl) ?_
  refine n_obj hC hb (hl.1.trans hml.symm) (gw_t (tb1 (List.mem_of_getElem? (i := 67) rfl)) rfl) dX0_init_1 (Nat.le_of_ble_eq_true rfl) (Nat.le_of_ble_eq_true rfl) ?_
  refine lv_aload_n hx hb dX0_init_4 rfl (lv_at hl 0 rfl) ?_
  refine lv_sipush (v := 1500) hx hb dX0_init_5 (by decide) ?_
  refine n_arrI (N' := 1500) hC hb hP hD hS hA (by decide) (by decide) (Nat.le_of_ble_eq_true rfl) (Nat.le_of_ble_eq_true rfl) (Nat.le_of_ble_eq_true rfl) dX0_init_8 (fun q0 H hP hD hS => ?_)
  have hP : va_P D vwCl [(h0, .inr (2, [.null, .null, .int 0, .null, .null, .int 0, .null])), (q0, .inl (Y.1, 1500, .inl (fun _ => 0)))] H := hP
  have hD : va_D A [(h0, .inr (2, [.null, .null, .int 0, .null, .null, .int 0, .null])), (q0, .inl (Y.1, 1500, .inl (fun _ => 0)))] := hD
  refine n_putF hC hb hP hD hS inGX0 tyX0 tyX0_ok nmX0 0 rfl rfl 0 (by decide) (gw_t (tb1 (List.mem_of_getElem? (i := 68) rfl)) rfl) rfl rfl hin rfl rfl rfl rfl (Nat.le_of_ble_eq_true rfl) dX0_init_10 (fun H locs hP hD hS => ?_)
  have hP : va_P D vwCl [(h0, .inr (2, [.ref q0, .null, .int 0, .null, .null, .int 0, .null])), (q0, .inl (Y.1, 1500, .inl (fun _ => 0)))] H := hP
  have hD : va_D A [(h0, .inr (2, [.ref q0, .null, .int 0, .null, .null, .int 0, .null])), (q0, .inl (Y.1, 1500, .inl (fun _ => 0)))] := hD
  refine lv_aload_n hx hb dX0_init_13 rfl (lv_at hl 0 rfl) ?_
  refine lv_sipush (v := 1500) hx hb dX0_init_14 (by decide) ?_
  refine n_arrJ (N' := 1500) hC hb hP hD hS hA (by decide) (by decide) (Nat.le_of_ble_eq_true rfl) (Nat.le_of_ble_eq_true rfl) (Nat.le_of_ble_eq_true rfl) dX0_init_17 (fun q1 H hP hD hS => ?_)
  have hP : va_P D vwCl [(h0, .inr (2, [.ref q0, .null, .int 0, .null, .null, .int 0, .null])), (q0, .inl (Y.1, 1500, .inl (fun _ => 0))), (q1, .inl (Y.2.1, 1500, .inr (.inl (fun _ => 0))))] H := hP
  have hD : va_D A [(h0, .inr (2, [.ref q0, .null, .int 0, .null, .null, .int 0, .null])), (q0, .inl (Y.1, 1500, .inl (fun _ => 0))), (q1, .inl (Y.2.1, 1500, .inr (.inl (fun _ => 0))))] := hD
  refine n_putF hC hb hP hD hS inGX0 tyX0 tyX0_ok nmX0 0 rfl rfl 1 (by decide) (gw_t (tb1 (List.mem_of_getElem? (i := 69) rfl)) rfl) rfl rfl hin rfl rfl rfl rfl (Nat.le_of_ble_eq_true rfl) dX0_init_19 (fun H locs hP hD hS => ?_)
  have hP : va_P D vwCl [(h0, .inr (2, [.ref q0, .ref q1, .int 0, .null, .null, .int 0, .null])), (q0, .inl (Y.1, 1500, .inl (fun _ => 0))), (q1, .inl (Y.2.1, 1500, .inr (.inl (fun _ => 0))))] H := hP
  have hD : va_D A [(h0, .inr (2, [.ref q0, .ref q1, .int 0, .null, .null, .int 0, .null])), (q0, .inl (Y.1, 1500, .inl (fun _ => 0))), (q1, .inl (Y.2.1, 1500, .inr (.inl (fun _ => 0))))] := hD
  refine lv_aload_n hx hb dX0_init_22 rfl (lv_at hl 0 rfl) ?_
  refine lv_sipush (v := 1500) hx hb dX0_init_23 (by decide) ?_
  refine n_arrI (N' := 1500) hC hb hP hD hS hA (by decide) (by decide) (Nat.le_of_ble_eq_true rfl) (Nat.le_of_ble_eq_true rfl) (Nat.le_of_ble_eq_true rfl) dX0_init_26 (fun q2 H hP hD hS => ?_)
  have hP : va_P D vwCl [(h0, .inr (2, [.ref q0, .ref q1, .int 0, .null, .null, .int 0, .null])), (q0, .inl (Y.1, 1500, .inl (fun _ => 0))), (q1, .inl (Y.2.1, 1500, .inr (.inl (fun _ => 0)))), (q2, .inl (Y.1, 1500, .inl (fun _ => 0)))] H := hP
  have hD : va_D A [(h0, .inr (2, [.ref q0, .ref q1, .int 0, .null, .null, .int 0, .null])), (q0, .inl (Y.1, 1500, .inl (fun _ => 0))), (q1, .inl (Y.2.1, 1500, .inr (.inl (fun _ => 0)))), (q2, .inl (Y.1, 1500, .inl (fun _ => 0)))] := hD
  refine n_putF hC hb hP hD hS inGX0 tyX0 tyX0_ok nmX0 0 rfl rfl 3 (by decide) (gw_t (tb1 (List.mem_of_getElem? (i := 71) rfl)) rfl) rfl rfl hin rfl rfl rfl rfl (Nat.le_of_ble_eq_true rfl) dX0_init_28 (fun H locs hP hD hS => ?_)
  have hP : va_P D vwCl [(h0, .inr (2, [.ref q0, .ref q1, .int 0, .ref q2, .null, .int 0, .null])), (q0, .inl (Y.1, 1500, .inl (fun _ => 0))), (q1, .inl (Y.2.1, 1500, .inr (.inl (fun _ => 0)))), (q2, .inl (Y.1, 1500, .inl (fun _ => 0)))] H := hP
  have hD : va_D A [(h0, .inr (2, [.ref q0, .ref q1, .int 0, .ref q2, .null, .int 0, .null])), (q0, .inl (Y.1, 1500, .inl (fun _ => 0))), (q1, .inl (Y.2.1, 1500, .inr (.inl (fun _ => 0)))), (q2, .inl (Y.1, 1500, .inl (fun _ => 0)))] := hD
  refine lv_aload_n hx hb dX0_init_31 rfl (lv_at hl 0 rfl) ?_
  refine lv_sipush (v := 1500) hx hb dX0_init_32 (by decide) ?_
  refine n_arrI (N' := 1500) hC hb hP hD hS hA (by decide) (by decide) (Nat.le_of_ble_eq_true rfl) (Nat.le_of_ble_eq_true rfl) (Nat.le_of_ble_eq_true rfl) dX0_init_35 (fun q3 H hP hD hS => ?_)
  have hP : va_P D vwCl [(h0, .inr (2, [.ref q0, .ref q1, .int 0, .ref q2, .null, .int 0, .null])), (q0, .inl (Y.1, 1500, .inl (fun _ => 0))), (q1, .inl (Y.2.1, 1500, .inr (.inl (fun _ => 0)))), (q2, .inl (Y.1, 1500, .inl (fun _ => 0))), (q3, .inl (Y.1, 1500, .inl (fun _ => 0)))] H := hP
  have hD : va_D A [(h0, .inr (2, [.ref q0, .ref q1, .int 0, .ref q2, .null, .int 0, .null])), (q0, .inl (Y.1, 1500, .inl (fun _ => 0))), (q1, .inl (Y.2.1, 1500, .inr (.inl (fun _ => 0)))), (q2, .inl (Y.1, 1500, .inl (fun _ => 0))), (q3, .inl (Y.1, 1500, .inl (fun _ => 0)))] := hD
  refine n_putF hC hb hP hD hS inGX0 tyX0 tyX0_ok nmX0 0 rfl rfl 4 (by decide) (gw_t (tb1 (List.mem_of_getElem? (i := 72) rfl)) rfl) rfl rfl hin rfl rfl rfl rfl (Nat.le_of_ble_eq_true rfl) dX0_init_37 (fun H locs hP hD hS => ?_)
  have hP : va_P D vwCl [(h0, .inr (2, [.ref q0, .ref q1, .int 0, .ref q2, .ref q3, .int 0, .null])), (q0, .inl (Y.1, 1500, .inl (fun _ => 0))), (q1, .inl (Y.2.1, 1500, .inr (.inl (fun _ => 0)))), (q2, .inl (Y.1, 1500, .inl (fun _ => 0))), (q3, .inl (Y.1, 1500, .inl (fun _ => 0)))] H := hP
  have hD : va_D A [(h0, .inr (2, [.ref q0, .ref q1, .int 0, .ref q2, .ref q3, .int 0, .null])), (q0, .inl (Y.1, 1500, .inl (fun _ => 0))), (q1, .inl (Y.2.1, 1500, .inr (.inl (fun _ => 0)))), (q2, .inl (Y.1, 1500, .inl (fun _ => 0))), (q3, .inl (Y.1, 1500, .inl (fun _ => 0)))] := hD
  refine lv_aload_n hx hb dX0_init_40 rfl (lv_at hl 0 rfl) ?_
  refine lv_bipush (v := 60) hx hb dX0_init_41 (by decide) ?_
  refine n_arrJ (N' := 60) hC hb hP hD hS hA (by decide) (by decide) (Nat.le_of_ble_eq_true rfl) (Nat.le_of_ble_eq_true rfl) (Nat.le_of_ble_eq_true rfl) dX0_init_43 (fun q4 H hP hD hS => ?_)
  have hP : va_P D vwCl [(h0, .inr (2, [.ref q0, .ref q1, .int 0, .ref q2, .ref q3, .int 0, .null])), (q0, .inl (Y.1, 1500, .inl (fun _ => 0))), (q1, .inl (Y.2.1, 1500, .inr (.inl (fun _ => 0)))), (q2, .inl (Y.1, 1500, .inl (fun _ => 0))), (q3, .inl (Y.1, 1500, .inl (fun _ => 0))), (q4, .inl (Y.2.1, 60, .inr (.inl (fun _ => 0))))] H := hP
  have hD : va_D A [(h0, .inr (2, [.ref q0, .ref q1, .int 0, .ref q2, .ref q3, .int 0, .null])), (q0, .inl (Y.1, 1500, .inl (fun _ => 0))), (q1, .inl (Y.2.1, 1500, .inr (.inl (fun _ => 0)))), (q2, .inl (Y.1, 1500, .inl (fun _ => 0))), (q3, .inl (Y.1, 1500, .inl (fun _ => 0))), (q4, .inl (Y.2.1, 60, .inr (.inl (fun _ => 0))))] := hD
  refine n_putF hC hb hP hD hS inGX0 tyX0 tyX0_ok nmX0 0 rfl rfl 6 (by decide) (gw_t (tb1 (List.mem_of_getElem? (i := 74) rfl)) rfl) rfl rfl hin rfl rfl rfl rfl (Nat.le_of_ble_eq_true rfl) dX0_init_45 (fun H locs hP hD hS => ?_)
  have hP : va_P D vwCl [(h0, .inr (2, [.ref q0, .ref q1, .int 0, .ref q2, .ref q3, .int 0, .ref q4])), (q0, .inl (Y.1, 1500, .inl (fun _ => 0))), (q1, .inl (Y.2.1, 1500, .inr (.inl (fun _ => 0)))), (q2, .inl (Y.1, 1500, .inl (fun _ => 0))), (q3, .inl (Y.1, 1500, .inl (fun _ => 0))), (q4, .inl (Y.2.1, 60, .inr (.inl (fun _ => 0))))] H := hP
  have hD : va_D A [(h0, .inr (2, [.ref q0, .ref q1, .int 0, .ref q2, .ref q3, .int 0, .ref q4])), (q0, .inl (Y.1, 1500, .inl (fun _ => 0))), (q1, .inl (Y.2.1, 1500, .inr (.inl (fun _ => 0)))), (q2, .inl (Y.1, 1500, .inl (fun _ => 0))), (q3, .inl (Y.1, 1500, .inl (fun _ => 0))), (q4, .inl (Y.2.1, 60, .inr (.inl (fun _ => 0))))] := hD
  subst hAe
  exact W.vret hx hb hr (fun t ht hW => ⟨⟨(fun i => [q0, q1, q2, q3, q4].getD i 0), rfl, True.intro, by rw [ht]; exact hP, va_K.moved hW.alike hC.2.2.2.1, hD⟩, hS.F ht⟩) hS.2.2 dX0_init_48 hlk
/-- MarkovBench$Program: before and behind its constructor -/
abbrev n0_X4 (h0 : Nat) : va_W := [(h0, .inr (6, [.int 0, .null, .null, .null, .null, .int 0, .null, .null, .null, .int 0, .int 0, .null, .null, .null, .null, .null, .null]))]
abbrev n1_X4 (Y : CYs) (h0 : Nat) (u : Nat → Nat) : va_W := [(h0, .inr (6, [.int 0, .ref (u 0), .ref (u 1), .ref (u 2), .ref (u 3), .int 0, .ref (u 4), .ref (u 5), .ref (u 6), .int (-1), .int 0, .ref (u 7), .ref (u 8), .ref (u 9), .ref (u 10), .ref (u 11), .ref (u 12)])), (u 0, .inl (Y.2.1, 6, .inr (.inl (fun _ => 0)))), (u 1, .inl (Y.1, 6, .inl (fun _ => 0))), (u 2, .inl (Y.1, 6, .inl (fun _ => 0))), (u 3, .inl (Y.1, 6, .inl (fun _ => 0))), (u 4, .inl (Y.2.1, 3, .inr (.inl (fun _ => 0)))), (u 5, .inl (Y.1, 3, .inl (fun _ => 0))), (u 6, .inl (Y.1, 3, .inl (fun _ => 0))), (u 7, .inl (Y.2.1, 16, .inr (.inl (fun _ => 0)))), (u 8, .inl (Y.1, 16, .inl (fun _ => 0))), (u 9, .inl (Y.1, 16, .inl (fun _ => 0))), (u 10, .inl (Y.1, 16, .inl (fun _ => 0))), (u 11, .inl (Y.1, 64, .inl (fun _ => 0))), (u 12, .inl (Y.1, 384, .inl (fun _ => 0)))]
abbrev rn_X4 : Room := { frames := 1, cells := 13, slots := 545, locals := 12 }
set_option maxHeartbeats 4000000 in
set_option maxRecDepth 100000 in
theorem c_X4_init {l : Launch} {D : va_G} {Y : CYs} {h0 : Nat} (sz : Nat) : Met l yX4_init (Cond.code yX4_init cX4_init 1 none :: gW) rn_X4 (PcN (n0_X4 h0) Y D sz [.ref h0]) (QN1 (n0_X4 h0) (n1_X4 Y h0) Y D sz) 13 545 (va_A (n0_X4 h0) sz) := by
  refine Met_ofN (Qc := fun sz => QN1 (n0_X4 h0) (n1_X4 Y h0) Y D sz) (by decide) rfl (Nat.le_of_ble_eq_true rfl) (fun p e s m args below meth c hC hb hml hr hlk hin hSW hP hD ls hl => ?_) sz
  have hx := hC.1
  generalize hAe : va_A (n0_X4 h0) s.heap.size = A at hD ⊢
  have hA : ∀ q : Nat, s.heap.size ≤ q → A q := fun q h => by rw [← hAe]; exact Or.inr h
  have hS : va_S A s.heap s.heap [] := va_S.rf
  have hl : lv_has ls 1 [(0, .ref h0)] := hl
  refine lv_aload_n hx hb dX4_init_0 rfl (lv_at hl 0 rfl) ?_
  refine n_obj hC hb (hl.1.trans hml.symm) (gw_t (tb1 (List.mem_of_getElem? (i := 95) rfl)) rfl) dX4_init_1 (Nat.le_of_ble_eq_true rfl) (Nat.le_of_ble_eq_true rfl) ?_
  refine lv_aload_n hx hb dX4_init_4 rfl (lv_at hl 0 rfl) ?_
  refine lv_bipush (v := 6) hx hb dX4_init_5 (by decide) ?_
  refine n_arrJ (N' := 6) hC hb hP hD hS hA (by decide) (by decide) (Nat.le_of_ble_eq_true rfl) (Nat.le_of_ble_eq_true rfl) (Nat.le_of_ble_eq_true rfl) dX4_init_7 (fun q0 H hP hD hS => ?_)
  have hP : va_P D vwCl [(h0, .inr (6, [.int 0, .null, .null, .null, .null, .int 0, .null, .null, .null, .int 0, .int 0, .null, .null, .null, .null, .null, .null])), (q0, .inl (Y.2.1, 6, .inr (.inl (fun _ => 0))))] H := hP
  have hD : va_D A [(h0, .inr (6, [.int 0, .null, .null, .null, .null, .int 0, .null, .null, .null, .int 0, .int 0, .null, .null, .null, .null, .null, .null])), (q0, .inl (Y.2.1, 6, .inr (.inl (fun _ => 0))))] := hD
  refine n_putF hC hb hP hD hS inGX4 tyX4 tyX4_ok nmX4 0 rfl rfl 1 (by decide) (gw_t (tb1 (List.mem_of_getElem? (i := 100) rfl)) rfl) rfl rfl hin rfl rfl rfl rfl (Nat.le_of_ble_eq_true rfl) dX4_init_9 (fun H locs hP hD hS => ?_)
  have hP : va_P D vwCl [(h0, .inr (6, [.int 0, .ref q0, .null, .null, .null, .int 0, .null, .null, .null, .int 0, .int 0, .null, .null, .null, .null, .null, .null])), (q0, .inl (Y.2.1, 6, .inr (.inl (fun _ => 0))))] H := hP
  have hD : va_D A [(h0, .inr (6, [.int 0, .ref q0, .null, .null, .null, .int 0, .null, .null, .null, .int 0, .int 0, .null, .null, .null, .null, .null, .null])), (q0, .inl (Y.2.1, 6, .inr (.inl (fun _ => 0))))] := hD
  refine lv_aload_n hx hb dX4_init_12 rfl (lv_at hl 0 rfl) ?_
  refine lv_bipush (v := 6) hx hb dX4_init_13 (by decide) ?_
  refine n_arrI (N' := 6) hC hb hP hD hS hA (by decide) (by decide) (Nat.le_of_ble_eq_true rfl) (Nat.le_of_ble_eq_true rfl) (Nat.le_of_ble_eq_true rfl) dX4_init_15 (fun q1 H hP hD hS => ?_)
  have hP : va_P D vwCl [(h0, .inr (6, [.int 0, .ref q0, .null, .null, .null, .int 0, .null, .null, .null, .int 0, .int 0, .null, .null, .null, .null, .null, .null])), (q0, .inl (Y.2.1, 6, .inr (.inl (fun _ => 0)))), (q1, .inl (Y.1, 6, .inl (fun _ => 0)))] H := hP
  have hD : va_D A [(h0, .inr (6, [.int 0, .ref q0, .null, .null, .null, .int 0, .null, .null, .null, .int 0, .int 0, .null, .null, .null, .null, .null, .null])), (q0, .inl (Y.2.1, 6, .inr (.inl (fun _ => 0)))), (q1, .inl (Y.1, 6, .inl (fun _ => 0)))] := hD
  refine n_putF hC hb hP hD hS inGX4 tyX4 tyX4_ok nmX4 0 rfl rfl 2 (by decide) (gw_t (tb1 (List.mem_of_getElem? (i := 101) rfl)) rfl) rfl rfl hin rfl rfl rfl rfl (Nat.le_of_ble_eq_true rfl) dX4_init_17 (fun H locs hP hD hS => ?_)
  have hP : va_P D vwCl [(h0, .inr (6, [.int 0, .ref q0, .ref q1, .null, .null, .int 0, .null, .null, .null, .int 0, .int 0, .null, .null, .null, .null, .null, .null])), (q0, .inl (Y.2.1, 6, .inr (.inl (fun _ => 0)))), (q1, .inl (Y.1, 6, .inl (fun _ => 0)))] H := hP
  have hD : va_D A [(h0, .inr (6, [.int 0, .ref q0, .ref q1, .null, .null, .int 0, .null, .null, .null, .int 0, .int 0, .null, .null, .null, .null, .null, .null])), (q0, .inl (Y.2.1, 6, .inr (.inl (fun _ => 0)))), (q1, .inl (Y.1, 6, .inl (fun _ => 0)))] := hD
  refine lv_aload_n hx hb dX4_init_20 rfl (lv_at hl 0 rfl) ?_
  refine lv_bipush (v := 6) hx hb dX4_init_21 (by decide) ?_
  refine n_arrI (N' := 6) hC hb hP hD hS hA (by decide) (by decide) (Nat.le_of_ble_eq_true rfl) (Nat.le_of_ble_eq_true rfl) (Nat.le_of_ble_eq_true rfl) dX4_init_23 (fun q2 H hP hD hS => ?_)
  have hP : va_P D vwCl [(h0, .inr (6, [.int 0, .ref q0, .ref q1, .null, .null, .int 0, .null, .null, .null, .int 0, .int 0, .null, .null, .null, .null, .null, .null])), (q0, .inl (Y.2.1, 6, .inr (.inl (fun _ => 0)))), (q1, .inl (Y.1, 6, .inl (fun _ => 0))), (q2, .inl (Y.1, 6, .inl (fun _ => 0)))] H := hP
  have hD : va_D A [(h0, .inr (6, [.int 0, .ref q0, .ref q1, .null, .null, .int 0, .null, .null, .null, .int 0, .int 0, .null, .null, .null, .null, .null, .null])), (q0, .inl (Y.2.1, 6, .inr (.inl (fun _ => 0)))), (q1, .inl (Y.1, 6, .inl (fun _ => 0))), (q2, .inl (Y.1, 6, .inl (fun _ => 0)))] := hD
  refine n_putF hC hb hP hD hS inGX4 tyX4 tyX4_ok nmX4 0 rfl rfl 3 (by decide) (gw_t (tb1 (List.mem_of_getElem? (i := 103) rfl)) rfl) rfl rfl hin rfl rfl rfl rfl (Nat.le_of_ble_eq_true rfl) dX4_init_25 (fun H locs hP hD hS => ?_)
  have hP : va_P D vwCl [(h0, .inr (6, [.int 0, .ref q0, .ref q1, .ref q2, .null, .int 0, .null, .null, .null, .int 0, .int 0, .null, .null, .null, .null, .null, .null])), (q0, .inl (Y.2.1, 6, .inr (.inl (fun _ => 0)))), (q1, .inl (Y.1, 6, .inl (fun _ => 0))), (q2, .inl (Y.1, 6, .inl (fun _ => 0)))] H := hP
  have hD : va_D A [(h0, .inr (6, [.int 0, .ref q0, .ref q1, .ref q2, .null, .int 0, .null, .null, .null, .int 0, .int 0, .null, .null, .null, .null, .null, .null])), (q0, .inl (Y.2.1, 6, .inr (.inl (fun _ => 0)))), (q1, .inl (Y.1, 6, .inl (fun _ => 0))), (q2, .inl (Y.1, 6, .inl (fun _ => 0)))] := hD
  refine lv_aload_n hx hb dX4_init_28 rfl (lv_at hl 0 rfl) ?_
  refine lv_bipush (v := 6) hx hb dX4_init_29 (by decide) ?_
  refine n_arrI (N' := 6) hC hb hP hD hS hA (by decide) (by decide) (Nat.le_of_ble_eq_true rfl) (Nat.le_of_ble_eq_true rfl) (Nat.le_of_ble_eq_true rfl) dX4_init_31 (fun q3 H hP hD hS => ?_)
  have hP : va_P D vwCl [(h0, .inr (6, [.int 0, .ref q0, .ref q1, .ref q2, .null, .int 0, .null, .null, .null, .int 0, .int 0, .null, .null, .null, .null, .null, .null])), (q0, .inl (Y.2.1, 6, .inr (.inl (fun _ => 0)))), (q1, .inl (Y.1, 6, .inl (fun _ => 0))), (q2, .inl (Y.1, 6, .inl (fun _ => 0))), (q3, .inl (Y.1, 6, .inl (fun _ => 0)))] H := hP
  have hD : va_D A [(h0, .inr (6, [.int 0, .ref q0, .ref q1, .ref q2, .null, .int 0, .null, .null, .null, .int 0, .int 0, .null, .null, .null, .null, .null, .null])), (q0, .inl (Y.2.1, 6, .inr (.inl (fun _ => 0)))), (q1, .inl (Y.1, 6, .inl (fun _ => 0))), (q2, .inl (Y.1, 6, .inl (fun _ => 0))), (q3, .inl (Y.1, 6, .inl (fun _ => 0)))] := hD
  refine n_putF hC hb hP hD hS inGX4 tyX4 tyX4_ok nmX4 0 rfl rfl 4 (by decide) (gw_t (tb1 (List.mem_of_getElem? (i := 105) rfl)) rfl) rfl rfl hin rfl rfl rfl rfl (Nat.le_of_ble_eq_true rfl) dX4_init_33 (fun H locs hP hD hS => ?_)
  have hP : va_P D vwCl [(h0, .inr (6, [.int 0, .ref q0, .ref q1, .ref q2, .ref q3, .int 0, .null, .null, .null, .int 0, .int 0, .null, .null, .null, .null, .null, .null])), (q0, .inl (Y.2.1, 6, .inr (.inl (fun _ => 0)))), (q1, .inl (Y.1, 6, .inl (fun _ => 0))), (q2, .inl (Y.1, 6, .inl (fun _ => 0))), (q3, .inl (Y.1, 6, .inl (fun _ => 0)))] H := hP
  have hD : va_D A [(h0, .inr (6, [.int 0, .ref q0, .ref q1, .ref q2, .ref q3, .int 0, .null, .null, .null, .int 0, .int 0, .null, .null, .null, .null, .null, .null])), (q0, .inl (Y.2.1, 6, .inr (.inl (fun _ => 0)))), (q1, .inl (Y.1, 6, .inl (fun _ => 0))), (q2, .inl (Y.1, 6, .inl (fun _ => 0))), (q3, .inl (Y.1, 6, .inl (fun _ => 0)))] := hD
  refine lv_aload_n hx hb dX4_init_36 rfl (lv_at hl 0 rfl) ?_
  refine lv_iconst (v := 3) hx hb dX4_init_37 (by decide) ?_
  refine n_arrJ (N' := 3) hC hb hP hD hS hA (by decide) (by decide) (Nat.le_of_ble_eq_true rfl) (Nat.le_of_ble_eq_true rfl) (Nat.le_of_ble_eq_true rfl) dX4_init_38 (fun q4 H hP hD hS => ?_)
  have hP : va_P D vwCl [(h0, .inr (6, [.int 0, .ref q0, .ref q1, .ref q2, .ref q3, .int 0, .null, .null, .null, .int 0, .int 0, .null, .null, .null, .null, .null, .null])), (q0, .inl (Y.2.1, 6, .inr (.inl (fun _ => 0)))), (q1, .inl (Y.1, 6, .inl (fun _ => 0))), (q2, .inl (Y.1, 6, .inl (fun _ => 0))), (q3, .inl (Y.1, 6, .inl (fun _ => 0))), (q4, .inl (Y.2.1, 3, .inr (.inl (fun _ => 0))))] H := hP
  have hD : va_D A [(h0, .inr (6, [.int 0, .ref q0, .ref q1, .ref q2, .ref q3, .int 0, .null, .null, .null, .int 0, .int 0, .null, .null, .null, .null, .null, .null])), (q0, .inl (Y.2.1, 6, .inr (.inl (fun _ => 0)))), (q1, .inl (Y.1, 6, .inl (fun _ => 0))), (q2, .inl (Y.1, 6, .inl (fun _ => 0))), (q3, .inl (Y.1, 6, .inl (fun _ => 0))), (q4, .inl (Y.2.1, 3, .inr (.inl (fun _ => 0))))] := hD
  refine n_putF hC hb hP hD hS inGX4 tyX4 tyX4_ok nmX4 0 rfl rfl 6 (by decide) (gw_t (tb1 (List.mem_of_getElem? (i := 112) rfl)) rfl) rfl rfl hin rfl rfl rfl rfl (Nat.le_of_ble_eq_true rfl) dX4_init_40 (fun H locs hP hD hS => ?_)
  have hP : va_P D vwCl [(h0, .inr (6, [.int 0, .ref q0, .ref q1, .ref q2, .ref q3, .int 0, .ref q4, .null, .null, .int 0, .int 0, .null, .null, .null, .null, .null, .null])), (q0, .inl (Y.2.1, 6, .inr (.inl (fun _ => 0)))), (q1, .inl (Y.1, 6, .inl (fun _ => 0))), (q2, .inl (Y.1, 6, .inl (fun _ => 0))), (q3, .inl (Y.1, 6, .inl (fun _ => 0))), (q4, .inl (Y.2.1, 3, .inr (.inl (fun _ => 0))))] H := hP
  have hD : va_D A [(h0, .inr (6, [.int 0, .ref q0, .ref q1, .ref q2, .ref q3, .int 0, .ref q4, .null, .null, .int 0, .int 0, .null, .null, .null, .null, .null, .null])), (q0, .inl (Y.2.1, 6, .inr (.inl (fun _ => 0)))), (q1, .inl (Y.1, 6, .inl (fun _ => 0))), (q2, .inl (Y.1, 6, .inl (fun _ => 0))), (q3, .inl (Y.1, 6, .inl (fun _ => 0))), (q4, .inl (Y.2.1, 3, .inr (.inl (fun _ => 0))))] := hD
  refine lv_aload_n hx hb dX4_init_43 rfl (lv_at hl 0 rfl) ?_
  refine lv_iconst (v := 3) hx hb dX4_init_44 (by decide) ?_
  refine n_arrI (N' := 3) hC hb hP hD hS hA (by decide) (by decide) (Nat.le_of_ble_eq_true rfl) (Nat.le_of_ble_eq_true rfl) (Nat.le_of_ble_eq_true rfl) dX4_init_45 (fun q5 H hP hD hS => ?_)
  have hP : va_P D vwCl [(h0, .inr (6, [.int 0, .ref q0, .ref q1, .ref q2, .ref q3, .int 0, .ref q4, .null, .null, .int 0, .int 0, .null, .null, .null, .null, .null, .null])), (q0, .inl (Y.2.1, 6, .inr (.inl (fun _ => 0)))), (q1, .inl (Y.1, 6, .inl (fun _ => 0))), (q2, .inl (Y.1, 6, .inl (fun _ => 0))), (q3, .inl (Y.1, 6, .inl (fun _ => 0))), (q4, .inl (Y.2.1, 3, .inr (.inl (fun _ => 0)))), (q5, .inl (Y.1, 3, .inl (fun _ => 0)))] H := hP
  have hD : va_D A [(h0, .inr (6, [.int 0, .ref q0, .ref q1, .ref q2, .ref q3, .int 0, .ref q4, .null, .null, .int 0, .int 0, .null, .null, .null, .null, .null, .null])), (q0, .inl (Y.2.1, 6, .inr (.inl (fun _ => 0)))), (q1, .inl (Y.1, 6, .inl (fun _ => 0))), (q2, .inl (Y.1, 6, .inl (fun _ => 0))), (q3, .inl (Y.1, 6, .inl (fun _ => 0))), (q4, .inl (Y.2.1, 3, .inr (.inl (fun _ => 0)))), (q5, .inl (Y.1, 3, .inl (fun _ => 0)))] := hD
  refine n_putF hC hb hP hD hS inGX4 tyX4 tyX4_ok nmX4 0 rfl rfl 7 (by decide) (gw_t (tb1 (List.mem_of_getElem? (i := 113) rfl)) rfl) rfl rfl hin rfl rfl rfl rfl (Nat.le_of_ble_eq_true rfl) dX4_init_47 (fun H locs hP hD hS => ?_)
  have hP : va_P D vwCl [(h0, .inr (6, [.int 0, .ref q0, .ref q1, .ref q2, .ref q3, .int 0, .ref q4, .ref q5, .null, .int 0, .int 0, .null, .null, .null, .null, .null, .null])), (q0, .inl (Y.2.1, 6, .inr (.inl (fun _ => 0)))), (q1, .inl (Y.1, 6, .inl (fun _ => 0))), (q2, .inl (Y.1, 6, .inl (fun _ => 0))), (q3, .inl (Y.1, 6, .inl (fun _ => 0))), (q4, .inl (Y.2.1, 3, .inr (.inl (fun _ => 0)))), (q5, .inl (Y.1, 3, .inl (fun _ => 0)))] H := hP
  have hD : va_D A [(h0, .inr (6, [.int 0, .ref q0, .ref q1, .ref q2, .ref q3, .int 0, .ref q4, .ref q5, .null, .int 0, .int 0, .null, .null, .null, .null, .null, .null])), (q0, .inl (Y.2.1, 6, .inr (.inl (fun _ => 0)))), (q1, .inl (Y.1, 6, .inl (fun _ => 0))), (q2, .inl (Y.1, 6, .inl (fun _ => 0))), (q3, .inl (Y.1, 6, .inl (fun _ => 0))), (q4, .inl (Y.2.1, 3, .inr (.inl (fun _ => 0)))), (q5, .inl (Y.1, 3, .inl (fun _ => 0)))] := hD
  refine lv_aload_n hx hb dX4_init_50 rfl (lv_at hl 0 rfl) ?_
  refine lv_iconst (v := 3) hx hb dX4_init_51 (by decide) ?_
  refine n_arrI (N' := 3) hC hb hP hD hS hA (by decide) (by decide) (Nat.le_of_ble_eq_true rfl) (Nat.le_of_ble_eq_true rfl) (Nat.le_of_ble_eq_true rfl) dX4_init_52 (fun q6 H hP hD hS => ?_)
  have hP : va_P D vwCl [(h0, .inr (6, [.int 0, .ref q0, .ref q1, .ref q2, .ref q3, .int 0, .ref q4, .ref q5, .null, .int 0, .int 0, .null, .null, .null, .null, .null, .null])), (q0, .inl (Y.2.1, 6, .inr (.inl (fun _ => 0)))), (q1, .inl (Y.1, 6, .inl (fun _ => 0))), (q2, .inl (Y.1, 6, .inl (fun _ => 0))), (q3, .inl (Y.1, 6, .inl (fun _ => 0))), (q4, .inl (Y.2.1, 3, .inr (.inl (fun _ => 0)))), (q5, .inl (Y.1, 3, .inl (fun _ => 0))), (q6, .inl (Y.1, 3, .inl (fun _ => 0)))] H := hP
  have hD : va_D A [(h0, .inr (6, [.int 0, .ref q0, .ref q1, .ref q2, .ref q3, .int 0, .ref q4, .ref q5, .null, .int 0, .int 0, .null, .null, .null, .null, .null, .null])), (q0, .inl (Y.2.1, 6, .inr (.inl (fun _ => 0)))), (q1, .inl (Y.1, 6, .inl (fun _ => 0))), (q2, .inl (Y.1, 6, .inl (fun _ => 0))), (q3, .inl (Y.1, 6, .inl (fun _ => 0))), (q4, .inl (Y.2.1, 3, .inr (.inl (fun _ => 0)))), (q5, .inl (Y.1, 3, .inl (fun _ => 0))), (q6, .inl (Y.1, 3, .inl (fun _ => 0)))] := hD
  refine n_putF hC hb hP hD hS inGX4 tyX4 tyX4_ok nmX4 0 rfl rfl 8 (by decide) (gw_t (tb1 (List.mem_of_getElem? (i := 115) rfl)) rfl) rfl rfl hin rfl rfl rfl rfl (Nat.le_of_ble_eq_true rfl) dX4_init_54 (fun H locs hP hD hS => ?_)
  have hP : va_P D vwCl [(h0, .inr (6, [.int 0, .ref q0, .ref q1, .ref q2, .ref q3, .int 0, .ref q4, .ref q5, .ref q6, .int 0, .int 0, .null, .null, .null, .null, .null, .null])), (q0, .inl (Y.2.1, 6, .inr (.inl (fun _ => 0)))), (q1, .inl (Y.1, 6, .inl (fun _ => 0))), (q2, .inl (Y.1, 6, .inl (fun _ => 0))), (q3, .inl (Y.1, 6, .inl (fun _ => 0))), (q4, .inl (Y.2.1, 3, .inr (.inl (fun _ => 0)))), (q5, .inl (Y.1, 3, .inl (fun _ => 0))), (q6, .inl (Y.1, 3, .inl (fun _ => 0)))] H := hP
  have hD : va_D A [(h0, .inr (6, [.int 0, .ref q0, .ref q1, .ref q2, .ref q3, .int 0, .ref q4, .ref q5, .ref q6, .int 0, .int 0, .null, .null, .null, .null, .null, .null])), (q0, .inl (Y.2.1, 6, .inr (.inl (fun _ => 0)))), (q1, .inl (Y.1, 6, .inl (fun _ => 0))), (q2, .inl (Y.1, 6, .inl (fun _ => 0))), (q3, .inl (Y.1, 6, .inl (fun _ => 0))), (q4, .inl (Y.2.1, 3, .inr (.inl (fun _ => 0)))), (q5, .inl (Y.1, 3, .inl (fun _ => 0))), (q6, .inl (Y.1, 3, .inl (fun _ => 0)))] := hD
  refine lv_aload_n hx hb dX4_init_57 rfl (lv_at hl 0 rfl) ?_
  refine lv_iconst (v := -1) hx hb dX4_init_58 (by decide) ?_
  refine n_put hC hb hP hD hS inGX4 tyX4 tyX4_ok nmX4 0 rfl rfl 9 (by decide) (gw_t (tb1 (List.mem_of_getElem? (i := 117) rfl)) rfl) rfl rfl rfl rfl rfl (Nat.le_of_ble_eq_true rfl) dX4_init_59 (fun H locs hP hD hS => ?_)
  have hP : va_P D vwCl [(h0, .inr (6, [.int 0, .ref q0, .ref q1, .ref q2, .ref q3, .int 0, .ref q4, .ref q5, .ref q6, .int (-1), .int 0, .null, .null, .null, .null, .null, .null])), (q0, .inl (Y.2.1, 6, .inr (.inl (fun _ => 0)))), (q1, .inl (Y.1, 6, .inl (fun _ => 0))), (q2, .inl (Y.1, 6, .inl (fun _ => 0))), (q3, .inl (Y.1, 6, .inl (fun _ => 0))), (q4, .inl (Y.2.1, 3, .inr (.inl (fun _ => 0)))), (q5, .inl (Y.1, 3, .inl (fun _ => 0))), (q6, .inl (Y.1, 3, .inl (fun _ => 0)))] H := hP
  have hD : va_D A [(h0, .inr (6, [.int 0, .ref q0, .ref q1, .ref q2, .ref q3, .int 0, .ref q4, .ref q5, .ref q6, .int (-1), .int 0, .null, .null, .null, .null, .null, .null])), (q0, .inl (Y.2.1, 6, .inr (.inl (fun _ => 0)))), (q1, .inl (Y.1, 6, .inl (fun _ => 0))), (q2, .inl (Y.1, 6, .inl (fun _ => 0))), (q3, .inl (Y.1, 6, .inl (fun _ => 0))), (q4, .inl (Y.2.1, 3, .inr (.inl (fun _ => 0)))), (q5, .inl (Y.1, 3, .inl (fun _ => 0))), (q6, .inl (Y.1, 3, .inl (fun _ => 0)))] := hD
  refine lv_aload_n hx hb dX4_init_62 rfl (lv_at hl 0 rfl) ?_
  refine lv_bipush (v := 16) hx hb dX4_init_63 (by decide) ?_
  refine n_arrJ (N' := 16) hC hb hP hD hS hA (by decide) (by decide) (Nat.le_of_ble_eq_true rfl) (Nat.le_of_ble_eq_true rfl) (Nat.le_of_ble_eq_true rfl) dX4_init_65 (fun q7 H hP hD hS => ?_)
  have hP : va_P D vwCl [(h0, .inr (6, [.int 0, .ref q0, .ref q1, .ref q2, .ref q3, .int 0, .ref q4, .ref q5, .ref q6, .int (-1), .int 0, .null, .null, .null, .null, .null, .null])), (q0, .inl (Y.2.1, 6, .inr (.inl (fun _ => 0)))), (q1, .inl (Y.1, 6, .inl (fun _ => 0))), (q2, .inl (Y.1, 6, .inl (fun _ => 0))), (q3, .inl (Y.1, 6, .inl (fun _ => 0))), (q4, .inl (Y.2.1, 3, .inr (.inl (fun _ => 0)))), (q5, .inl (Y.1, 3, .inl (fun _ => 0))), (q6, .inl (Y.1, 3, .inl (fun _ => 0))), (q7, .inl (Y.2.1, 16, .inr (.inl (fun _ => 0))))] H := hP
  have hD : va_D A [(h0, .inr (6, [.int 0, .ref q0, .ref q1, .ref q2, .ref q3, .int 0, .ref q4, .ref q5, .ref q6, .int (-1), .int 0, .null, .null, .null, .null, .null, .null])), (q0, .inl (Y.2.1, 6, .inr (.inl (fun _ => 0)))), (q1, .inl (Y.1, 6, .inl (fun _ => 0))), (q2, .inl (Y.1, 6, .inl (fun _ => 0))), (q3, .inl (Y.1, 6, .inl (fun _ => 0))), (q4, .inl (Y.2.1, 3, .inr (.inl (fun _ => 0)))), (q5, .inl (Y.1, 3, .inl (fun _ => 0))), (q6, .inl (Y.1, 3, .inl (fun _ => 0))), (q7, .inl (Y.2.1, 16, .inr (.inl (fun _ => 0))))] := hD
  refine n_putF hC hb hP hD hS inGX4 tyX4 tyX4_ok nmX4 0 rfl rfl 11 (by decide) (gw_t (tb1 (List.mem_of_getElem? (i := 124) rfl)) rfl) rfl rfl hin rfl rfl rfl rfl (Nat.le_of_ble_eq_true rfl) dX4_init_67 (fun H locs hP hD hS => ?_)
  have hP : va_P D vwCl [(h0, .inr (6, [.int 0, .ref q0, .ref q1, .ref q2, .ref q3, .int 0, .ref q4, .ref q5, .ref q6, .int (-1), .int 0, .ref q7, .null, .null, .null, .null, .null])), (q0, .inl (Y.2.1, 6, .inr (.inl (fun _ => 0)))), (q1, .inl (Y.1, 6, .inl (fun _ => 0))), (q2, .inl (Y.1, 6, .inl (fun _ => 0))), (q3, .inl (Y.1, 6, .inl (fun _ => 0))), (q4, .inl (Y.2.1, 3, .inr (.inl (fun _ => 0)))), (q5, .inl (Y.1, 3, .inl (fun _ => 0))), (q6, .inl (Y.1, 3, .inl (fun _ => 0))), (q7, .inl (Y.2.1, 16, .inr (.inl (fun _ => 0))))] H := hP
  have hD : va_D A [(h0, .inr (6, [.int 0, .ref q0, .ref q1, .ref q2, .ref q3, .int 0, .ref q4, .ref q5, .ref q6, .int (-1), .int 0, .ref q7, .null, .null, .null, .null, .null])), (q0, .inl (Y.2.1, 6, .inr (.inl (fun _ => 0)))), (q1, .inl (Y.1, 6, .inl (fun _ => 0))), (q2, .inl (Y.1, 6, .inl (fun _ => 0))), (q3, .inl (Y.1, 6, .inl (fun _ => 0))), (q4, .inl (Y.2.1, 3, .inr (.inl (fun _ => 0)))), (q5, .inl (Y.1, 3, .inl (fun _ => 0))), (q6, .inl (Y.1, 3, .inl (fun _ => 0))), (q7, .inl (Y.2.1, 16, .inr (.inl (fun _ => 0))))] := hD
  refine lv_aload_n hx hb dX4_init_70 rfl (lv_at hl 0 rfl) ?_
  refine lv_bipush (v := 16) hx hb dX4_init_71 (by decide) ?_
  refine n_arrI (N' := 16) hC hb hP hD hS hA (by decide) (by decide) (Nat.le_of_ble_eq_true rfl) (Nat.le_of_ble_eq_true rfl) (Nat.le_of_ble_eq_true rfl) dX4_init_73 (fun q8 H hP hD hS => ?_)
  have hP : va_P D vwCl [(h0, .inr (6, [.int 0, .ref q0, .ref q1, .ref q2, .ref q3, .int 0, .ref q4, .ref q5, .ref q6, .int (-1), .int 0, .ref q7, .null, .null, .null, .null, .null])), (q0, .inl (Y.2.1, 6, .inr (.inl (fun _ => 0)))), (q1, .inl (Y.1, 6, .inl (fun _ => 0))), (q2, .inl (Y.1, 6, .inl (fun _ => 0))), (q3, .inl (Y.1, 6, .inl (fun _ => 0))), (q4, .inl (Y.2.1, 3, .inr (.inl (fun _ => 0)))), (q5, .inl (Y.1, 3, .inl (fun _ => 0))), (q6, .inl (Y.1, 3, .inl (fun _ => 0))), (q7, .inl (Y.2.1, 16, .inr (.inl (fun _ => 0)))), (q8, .inl (Y.1, 16, .inl (fun _ => 0)))] H := hP
  have hD : va_D A [(h0, .inr (6, [.int 0, .ref q0, .ref q1, .ref q2, .ref q3, .int 0, .ref q4, .ref q5, .ref q6, .int (-1), .int 0, .ref q7, .null, .null, .null, .null, .null])), (q0, .inl (Y.2.1, 6, .inr (.inl (fun _ => 0)))), (q1, .inl (Y.1, 6, .inl (fun _ => 0))), (q2, .inl (Y.1, 6, .inl (fun _ => 0))), (q3, .inl (Y.1, 6, .inl (fun _ => 0))), (q4, .inl (Y.2.1, 3, .inr (.inl (fun _ => 0)))), (q5, .inl (Y.1, 3, .inl (fun _ => 0))), (q6, .inl (Y.1, 3, .inl (fun _ => 0))), (q7, .inl (Y.2.1, 16, .inr (.inl (fun _ => 0)))), (q8, .inl (Y.1, 16, .inl (fun _ => 0)))] := hD
  refine n_putF hC hb hP hD hS inGX4 tyX4 tyX4_ok nmX4 0 rfl rfl 12 (by decide) (gw_t (tb1 (List.mem_of_getElem? (i := 125) rfl)) rfl) rfl rfl hin rfl rfl rfl rfl (Nat.le_of_ble_eq_true rfl) dX4_init_75 (fun H locs hP hD hS => ?_)
  have hP : va_P D vwCl [(h0, .inr (6, [.int 0, .ref q0, .ref q1, .ref q2, .ref q3, .int 0, .ref q4, .ref q5, .ref q6, .int (-1), .int 0, .ref q7, .ref q8, .null, .null, .null, .null])), (q0, .inl (Y.2.1, 6, .inr (.inl (fun _ => 0)))), (q1, .inl (Y.1, 6, .inl (fun _ => 0))), (q2, .inl (Y.1, 6, .inl (fun _ => 0))), (q3, .inl (Y.1, 6, .inl (fun _ => 0))), (q4, .inl (Y.2.1, 3, .inr (.inl (fun _ => 0)))), (q5, .inl (Y.1, 3, .inl (fun _ => 0))), (q6, .inl (Y.1, 3, .inl (fun _ => 0))), (q7, .inl (Y.2.1, 16, .inr (.inl (fun _ => 0)))), (q8, .inl (Y.1, 16, .inl (fun _ => 0)))] H := hP
  have hD : va_D A [(h0, .inr (6, [.int 0, .ref q0, .ref q1, .ref q2, .ref q3, .int 0, .ref q4, .ref q5, .ref q6, .int (-1), .int 0, .ref q7, .ref q8, .null, .null, .null, .null])), (q0, .inl (Y.2.1, 6, .inr (.inl (fun _ => 0)))), (q1, .inl (Y.1, 6, .inl (fun _ => 0))), (q2, .inl (Y.1, 6, .inl (fun _ => 0))), (q3, .inl (Y.1, 6, .inl (fun _ => 0))), (q4, .inl (Y.2.1, 3, .inr (.inl (fun _ => 0)))), (q5, .inl (Y.1, 3, .inl (fun _ => 0))), (q6, .inl (Y.1, 3, .inl (fun _ => 0))), (q7, .inl (Y.2.1, 16, .inr (.inl (fun _ => 0)))), (q8, .inl (Y.1, 16, .inl (fun _ => 0)))] := hD
  refine lv_aload_n hx hb dX4_init_78 rfl (lv_at hl 0 rfl) ?_
  refine lv_bipush (v := 16) hx hb dX4_init_79 (by decide) ?_
  refine n_arrI (N' := 16) hC hb hP hD hS hA (by decide) (by decide) (Nat.le_of_ble_eq_true rfl) (Nat.le_of_ble_eq_true rfl) (Nat.le_of_ble_eq_true rfl) dX4_init_81 (fun q9 H hP hD hS => ?_)
  have hP : va_P D vwCl [(h0, .inr (6, [.int 0, .ref q0, .ref q1, .ref q2, .ref q3, .int 0, .ref q4, .ref q5, .ref q6, .int (-1), .int 0, .ref q7, .ref q8, .null, .null, .null, .null])), (q0, .inl (Y.2.1, 6, .inr (.inl (fun _ => 0)))), (q1, .inl (Y.1, 6, .inl (fun _ => 0))), (q2, .inl (Y.1, 6, .inl (fun _ => 0))), (q3, .inl (Y.1, 6, .inl (fun _ => 0))), (q4, .inl (Y.2.1, 3, .inr (.inl (fun _ => 0)))), (q5, .inl (Y.1, 3, .inl (fun _ => 0))), (q6, .inl (Y.1, 3, .inl (fun _ => 0))), (q7, .inl (Y.2.1, 16, .inr (.inl (fun _ => 0)))), (q8, .inl (Y.1, 16, .inl (fun _ => 0))), (q9, .inl (Y.1, 16, .inl (fun _ => 0)))] H := hP
  have hD : va_D A [(h0, .inr (6, [.int 0, .ref q0, .ref q1, .ref q2, .ref q3, .int 0, .ref q4, .ref q5, .ref q6, .int (-1), .int 0, .ref q7, .ref q8, .null, .null, .null, .null])), (q0, .inl (Y.2.1, 6, .inr (.inl (fun _ => 0)))), (q1, .inl (Y.1, 6, .inl (fun _ => 0))), (q2, .inl (Y.1, 6, .inl (fun _ => 0))), (q3, .inl (Y.1, 6, .inl (fun _ => 0))), (q4, .inl (Y.2.1, 3, .inr (.inl (fun _ => 0)))), (q5, .inl (Y.1, 3, .inl (fun _ => 0))), (q6, .inl (Y.1, 3, .inl (fun _ => 0))), (q7, .inl (Y.2.1, 16, .inr (.inl (fun _ => 0)))), (q8, .inl (Y.1, 16, .inl (fun _ => 0))), (q9, .inl (Y.1, 16, .inl (fun _ => 0)))] := hD
  refine n_putF hC hb hP hD hS inGX4 tyX4 tyX4_ok nmX4 0 rfl rfl 13 (by decide) (gw_t (tb1 (List.mem_of_getElem? (i := 127) rfl)) rfl) rfl rfl hin rfl rfl rfl rfl (Nat.le_of_ble_eq_true rfl) dX4_init_83 (fun H locs hP hD hS => ?_)
  have hP : va_P D vwCl [(h0, .inr (6, [.int 0, .ref q0, .ref q1, .ref q2, .ref q3, .int 0, .ref q4, .ref q5, .ref q6, .int (-1), .int 0, .ref q7, .ref q8, .ref q9, .null, .null, .null])), (q0, .inl (Y.2.1, 6, .inr (.inl (fun _ => 0)))), (q1, .inl (Y.1, 6, .inl (fun _ => 0))), (q2, .inl (Y.1, 6, .inl (fun _ => 0))), (q3, .inl (Y.1, 6, .inl (fun _ => 0))), (q4, .inl (Y.2.1, 3, .inr (.inl (fun _ => 0)))), (q5, .inl (Y.1, 3, .inl (fun _ => 0))), (q6, .inl (Y.1, 3, .inl (fun _ => 0))), (q7, .inl (Y.2.1, 16, .inr (.inl (fun _ => 0)))), (q8, .inl (Y.1, 16, .inl (fun _ => 0))), (q9, .inl (Y.1, 16, .inl (fun _ => 0)))] H := hP
  have hD : va_D A [(h0, .inr (6, [.int 0, .ref q0, .ref q1, .ref q2, .ref q3, .int 0, .ref q4, .ref q5, .ref q6, .int (-1), .int 0, .ref q7, .ref q8, .ref q9, .null, .null, .null])), (q0, .inl (Y.2.1, 6, .inr (.inl (fun _ => 0)))), (q1, .inl (Y.1, 6, .inl (fun _ => 0))), (q2, .inl (Y.1, 6, .inl (fun _ => 0))), (q3, .inl (Y.1, 6, .inl (fun _ => 0))), (q4, .inl (Y.2.1, 3, .inr (.inl (fun _ => 0)))), (q5, .inl (Y.1, 3, .inl (fun _ => 0))), (q6, .inl (Y.1, 3, .inl (fun _ => 0))), (q7, .inl (Y.2.1, 16, .inr (.inl (fun _ => 0)))), (q8, .inl (Y.1, 16, .inl (fun _ => 0))), (q9, .inl (Y.1, 16, .inl (fun _ => 0)))] := hD
  refine lv_aload_n hx hb dX4_init_86 rfl (lv_at hl 0 rfl) ?_
  refine lv_bipush (v := 16) hx hb dX4_init_87 (by decide) ?_
  refine n_arrI (N' := 16) hC hb hP hD hS hA (by decide) (by decide) (Nat.le_of_ble_eq_true rfl) (Nat.le_of_ble_eq_true rfl) (Nat.le_of_ble_eq_true rfl) dX4_init_89 (fun q10 H hP hD hS => ?_)
  have hP : va_P D vwCl [(h0, .inr (6, [.int 0, .ref q0, .ref q1, .ref q2, .ref q3, .int 0, .ref q4, .ref q5, .ref q6, .int (-1), .int 0, .ref q7, .ref q8, .ref q9, .null, .null, .null])), (q0, .inl (Y.2.1, 6, .inr (.inl (fun _ => 0)))), (q1, .inl (Y.1, 6, .inl (fun _ => 0))), (q2, .inl (Y.1, 6, .inl (fun _ => 0))), (q3, .inl (Y.1, 6, .inl (fun _ => 0))), (q4, .inl (Y.2.1, 3, .inr (.inl (fun _ => 0)))), (q5, .inl (Y.1, 3, .inl (fun _ => 0))), (q6, .inl (Y.1, 3, .inl (fun _ => 0))), (q7, .inl (Y.2.1, 16, .inr (.inl (fun _ => 0)))), (q8, .inl (Y.1, 16, .inl (fun _ => 0))), (q9, .inl (Y.1, 16, .inl (fun _ => 0))), (q10, .inl (Y.1, 16, .inl (fun _ => 0)))] H := hP
  have hD : va_D A [(h0, .inr (6, [.int 0, .ref q0, .ref q1, .ref q2, .ref q3, .int 0, .ref q4, .ref q5, .ref q6, .int (-1), .int 0, .ref q7, .ref q8, .ref q9, .null, .null, .null])), (q0, .inl (Y.2.1, 6, .inr (.inl (fun _ => 0)))), (q1, .inl (Y.1, 6, .inl (fun _ => 0))), (q2, .inl (Y.1, 6, .inl (fun _ => 0))), (q3, .inl (Y.1, 6, .inl (fun _ => 0))), (q4, .inl (Y.2.1, 3, .inr (.inl (fun _ => 0)))), (q5, .inl (Y.1, 3, .inl (fun _ => 0))), (q6, .inl (Y.1, 3, .inl (fun _ => 0))), (q7, .inl (Y.2.1, 16, .inr (.inl (fun _ => 0)))), (q8, .inl (Y.1, 16, .inl (fun _ => 0))), (q9, .inl (Y.1, 16, .inl (fun _ => 0))), (q10, .inl (Y.1, 16, .inl (fun _ => 0)))] := hD
  refine n_putF hC hb hP hD hS inGX4 tyX4 tyX4_ok nmX4 0 rfl rfl 14 (by decide) (gw_t (tb1 (List.mem_of_getElem? (i := 129) rfl)) rfl) rfl rfl hin rfl rfl rfl rfl (Nat.le_of_ble_eq_true rfl) dX4_init_91 (fun H locs hP hD hS => ?_)
  have hP : va_P D vwCl [(h0, .inr (6, [.int 0, .ref q0, .ref q1, .ref q2, .ref q3, .int 0, .ref q4, .ref q5, .ref q6, .int (-1), .int 0, .ref q7, .ref q8, .ref q9, .ref q10, .null, .null])), (q0, .inl (Y.2.1, 6, .inr (.inl (fun _ => 0)))), (q1, .inl (Y.1, 6, .inl (fun _ => 0))), (q2, .inl (Y.1, 6, .inl (fun _ => 0))), (q3, .inl (Y.1, 6, .inl (fun _ => 0))), (q4, .inl (Y.2.1, 3, .inr (.inl (fun _ => 0)))), (q5, .inl (Y.1, 3, .inl (fun _ => 0))), (q6, .inl (Y.1, 3, .inl (fun _ => 0))), (q7, .inl (Y.2.1, 16, .inr (.inl (fun _ => 0)))), (q8, .inl (Y.1, 16, .inl (fun _ => 0))), (q9, .inl (Y.1, 16, .inl (fun _ => 0))), (q10, .inl (Y.1, 16, .inl (fun _ => 0)))] H := hP
  have hD : va_D A [(h0, .inr (6, [.int 0, .ref q0, .ref q1, .ref q2, .ref q3, .int 0, .ref q4, .ref q5, .ref q6, .int (-1), .int 0, .ref q7, .ref q8, .ref q9, .ref q10, .null, .null])), (q0, .inl (Y.2.1, 6, .inr (.inl (fun _ => 0)))), (q1, .inl (Y.1, 6, .inl (fun _ => 0))), (q2, .inl (Y.1, 6, .inl (fun _ => 0))), (q3, .inl (Y.1, 6, .inl (fun _ => 0))), (q4, .inl (Y.2.1, 3, .inr (.inl (fun _ => 0)))), (q5, .inl (Y.1, 3, .inl (fun _ => 0))), (q6, .inl (Y.1, 3, .inl (fun _ => 0))), (q7, .inl (Y.2.1, 16, .inr (.inl (fun _ => 0)))), (q8, .inl (Y.1, 16, .inl (fun _ => 0))), (q9, .inl (Y.1, 16, .inl (fun _ => 0))), (q10, .inl (Y.1, 16, .inl (fun _ => 0)))] := hD
  refine lv_aload_n hx hb dX4_init_94 rfl (lv_at hl 0 rfl) ?_
  refine lv_bipush (v := 64) hx hb dX4_init_95 (by decide) ?_
  refine n_arrI (N' := 64) hC hb hP hD hS hA (by decide) (by decide) (Nat.le_of_ble_eq_true rfl) (Nat.le_of_ble_eq_true rfl) (Nat.le_of_ble_eq_true rfl) dX4_init_97 (fun q11 H hP hD hS => ?_)
  have hP : va_P D vwCl [(h0, .inr (6, [.int 0, .ref q0, .ref q1, .ref q2, .ref q3, .int 0, .ref q4, .ref q5, .ref q6, .int (-1), .int 0, .ref q7, .ref q8, .ref q9, .ref q10, .null, .null])), (q0, .inl (Y.2.1, 6, .inr (.inl (fun _ => 0)))), (q1, .inl (Y.1, 6, .inl (fun _ => 0))), (q2, .inl (Y.1, 6, .inl (fun _ => 0))), (q3, .inl (Y.1, 6, .inl (fun _ => 0))), (q4, .inl (Y.2.1, 3, .inr (.inl (fun _ => 0)))), (q5, .inl (Y.1, 3, .inl (fun _ => 0))), (q6, .inl (Y.1, 3, .inl (fun _ => 0))), (q7, .inl (Y.2.1, 16, .inr (.inl (fun _ => 0)))), (q8, .inl (Y.1, 16, .inl (fun _ => 0))), (q9, .inl (Y.1, 16, .inl (fun _ => 0))), (q10, .inl (Y.1, 16, .inl (fun _ => 0))), (q11, .inl (Y.1, 64, .inl (fun _ => 0)))] H := hP
  have hD : va_D A [(h0, .inr (6, [.int 0, .ref q0, .ref q1, .ref q2, .ref q3, .int 0, .ref q4, .ref q5, .ref q6, .int (-1), .int 0, .ref q7, .ref q8, .ref q9, .ref q10, .null, .null])), (q0, .inl (Y.2.1, 6, .inr (.inl (fun _ => 0)))), (q1, .inl (Y.1, 6, .inl (fun _ => 0))), (q2, .inl (Y.1, 6, .inl (fun _ => 0))), (q3, .inl (Y.1, 6, .inl (fun _ => 0))), (q4, .inl (Y.2.1, 3, .inr (.inl (fun _ => 0)))), (q5, .inl (Y.1, 3, .inl (fun _ => 0))), (q6, .inl (Y.1, 3, .inl (fun _ => 0))), (q7, .inl (Y.2.1, 16, .inr (.inl (fun _ => 0)))), (q8, .inl (Y.1, 16, .inl (fun _ => 0))), (q9, .inl (Y.1, 16, .inl (fun _ => 0))), (q10, .inl (Y.1, 16, .inl (fun _ => 0))), (q11, .inl (Y.1, 64, .inl (fun _ => 0)))] := hD
  refine n_putF hC hb hP hD hS inGX4 tyX4 tyX4_ok nmX4 0 rfl rfl 15 (by decide) (gw_t (tb1 (List.mem_of_getElem? (i := 131) rfl)) rfl) rfl rfl hin rfl rfl rfl rfl (Nat.le_of_ble_eq_true rfl) dX4_init_99 (fun H locs hP hD hS => ?_)
  have hP : va_P D vwCl [(h0, .inr (6, [.int 0, .ref q0, .ref q1, .ref q2, .ref q3, .int 0, .ref q4, .ref q5, .ref q6, .int (-1), .int 0, .ref q7, .ref q8, .ref q9, .ref q10, .ref q11, .null])), (q0, .inl (Y.2.1, 6, .inr (.inl (fun _ => 0)))), (q1, .inl (Y.1, 6, .inl (fun _ => 0))), (q2, .inl (Y.1, 6, .inl (fun _ => 0))), (q3, .inl (Y.1, 6, .inl (fun _ => 0))), (q4, .inl (Y.2.1, 3, .inr (.inl (fun _ => 0)))), (q5, .inl (Y.1, 3, .inl (fun _ => 0))), (q6, .inl (Y.1, 3, .inl (fun _ => 0))), (q7, .inl (Y.2.1, 16, .inr (.inl (fun _ => 0)))), (q8, .inl (Y.1, 16, .inl (fun _ => 0))), (q9, .inl (Y.1, 16, .inl (fun _ => 0))), (q10, .inl (Y.1, 16, .inl (fun _ => 0))), (q11, .inl (Y.1, 64, .inl (fun _ => 0)))] H := hP
  have hD : va_D A [(h0, .inr (6, [.int 0, .ref q0, .ref q1, .ref q2, .ref q3, .int 0, .ref q4, .ref q5, .ref q6, .int (-1), .int 0, .ref q7, .ref q8, .ref q9, .ref q10, .ref q11, .null])), (q0, .inl (Y.2.1, 6, .inr (.inl (fun _ => 0)))), (q1, .inl (Y.1, 6, .inl (fun _ => 0))), (q2, .inl (Y.1, 6, .inl (fun _ => 0))), (q3, .inl (Y.1, 6, .inl (fun _ => 0))), (q4, .inl (Y.2.1, 3, .inr (.inl (fun _ => 0)))), (q5, .inl (Y.1, 3, .inl (fun _ => 0))), (q6, .inl (Y.1, 3, .inl (fun _ => 0))), (q7, .inl (Y.2.1, 16, .inr (.inl (fun _ => 0)))), (q8, .inl (Y.1, 16, .inl (fun _ => 0))), (q9, .inl (Y.1, 16, .inl (fun _ => 0))), (q10, .inl (Y.1, 16, .inl (fun _ => 0))), (q11, .inl (Y.1, 64, .inl (fun _ => 0)))] := hD
  refine lv_aload_n hx hb dX4_init_102 rfl (lv_at hl 0 rfl) ?_
  refine lv_sipush (v := 384) hx hb dX4_init_103 (by decide) ?_
  refine n_arrI (N' := 384) hC hb hP hD hS hA (by decide) (by decide) (Nat.le_of_ble_eq_true rfl) (Nat.le_of_ble_eq_true rfl) (Nat.le_of_ble_eq_true rfl) dX4_init_106 (fun q12 H hP hD hS => ?_)
  have hP : va_P D vwCl [(h0, .inr (6, [.int 0, .ref q0, .ref q1, .ref q2, .ref q3, .int 0, .ref q4, .ref q5, .ref q6, .int (-1), .int 0, .ref q7, .ref q8, .ref q9, .ref q10, .ref q11, .null])), (q0, .inl (Y.2.1, 6, .inr (.inl (fun _ => 0)))), (q1, .inl (Y.1, 6, .inl (fun _ => 0))), (q2, .inl (Y.1, 6, .inl (fun _ => 0))), (q3, .inl (Y.1, 6, .inl (fun _ => 0))), (q4, .inl (Y.2.1, 3, .inr (.inl (fun _ => 0)))), (q5, .inl (Y.1, 3, .inl (fun _ => 0))), (q6, .inl (Y.1, 3, .inl (fun _ => 0))), (q7, .inl (Y.2.1, 16, .inr (.inl (fun _ => 0)))), (q8, .inl (Y.1, 16, .inl (fun _ => 0))), (q9, .inl (Y.1, 16, .inl (fun _ => 0))), (q10, .inl (Y.1, 16, .inl (fun _ => 0))), (q11, .inl (Y.1, 64, .inl (fun _ => 0))), (q12, .inl (Y.1, 384, .inl (fun _ => 0)))] H := hP
  have hD : va_D A [(h0, .inr (6, [.int 0, .ref q0, .ref q1, .ref q2, .ref q3, .int 0, .ref q4, .ref q5, .ref q6, .int (-1), .int 0, .ref q7, .ref q8, .ref q9, .ref q10, .ref q11, .null])), (q0, .inl (Y.2.1, 6, .inr (.inl (fun _ => 0)))), (q1, .inl (Y.1, 6, .inl (fun _ => 0))), (q2, .inl (Y.1, 6, .inl (fun _ => 0))), (q3, .inl (Y.1, 6, .inl (fun _ => 0))), (q4, .inl (Y.2.1, 3, .inr (.inl (fun _ => 0)))), (q5, .inl (Y.1, 3, .inl (fun _ => 0))), (q6, .inl (Y.1, 3, .inl (fun _ => 0))), (q7, .inl (Y.2.1, 16, .inr (.inl (fun _ => 0)))), (q8, .inl (Y.1, 16, .inl (fun _ => 0))), (q9, .inl (Y.1, 16, .inl (fun _ => 0))), (q10, .inl (Y.1, 16, .inl (fun _ => 0))), (q11, .inl (Y.1, 64, .inl (fun _ => 0))), (q12, .inl (Y.1, 384, .inl (fun _ => 0)))] := hD
  refine n_putF hC hb hP hD hS inGX4 tyX4 tyX4_ok nmX4 0 rfl rfl 16 (by decide) (gw_t (tb1 (List.mem_of_getElem? (i := 133) rfl)) rfl) rfl rfl hin rfl rfl rfl rfl (Nat.le_of_ble_eq_true rfl) dX4_init_108 (fun H locs hP hD hS => ?_)
  have hP : va_P D vwCl [(h0, .inr (6, [.int 0, .ref q0, .ref q1, .ref q2, .ref q3, .int 0, .ref q4, .ref q5, .ref q6, .int (-1), .int 0, .ref q7, .ref q8, .ref q9, .ref q10, .ref q11, .ref q12])), (q0, .inl (Y.2.1, 6, .inr (.inl (fun _ => 0)))), (q1, .inl (Y.1, 6, .inl (fun _ => 0))), (q2, .inl (Y.1, 6, .inl (fun _ => 0))), (q3, .inl (Y.1, 6, .inl (fun _ => 0))), (q4, .inl (Y.2.1, 3, .inr (.inl (fun _ => 0)))), (q5, .inl (Y.1, 3, .inl (fun _ => 0))), (q6, .inl (Y.1, 3, .inl (fun _ => 0))), (q7, .inl (Y.2.1, 16, .inr (.inl (fun _ => 0)))), (q8, .inl (Y.1, 16, .inl (fun _ => 0))), (q9, .inl (Y.1, 16, .inl (fun _ => 0))), (q10, .inl (Y.1, 16, .inl (fun _ => 0))), (q11, .inl (Y.1, 64, .inl (fun _ => 0))), (q12, .inl (Y.1, 384, .inl (fun _ => 0)))] H := hP
  have hD : va_D A [(h0, .inr (6, [.int 0, .ref q0, .ref q1, .ref q2, .ref q3, .int 0, .ref q4, .ref q5, .ref q6, .int (-1), .int 0, .ref q7, .ref q8, .ref q9, .ref q10, .ref q11, .ref q12])), (q0, .inl (Y.2.1, 6, .inr (.inl (fun _ => 0)))), (q1, .inl (Y.1, 6, .inl (fun _ => 0))), (q2, .inl (Y.1, 6, .inl (fun _ => 0))), (q3, .inl (Y.1, 6, .inl (fun _ => 0))), (q4, .inl (Y.2.1, 3, .inr (.inl (fun _ => 0)))), (q5, .inl (Y.1, 3, .inl (fun _ => 0))), (q6, .inl (Y.1, 3, .inl (fun _ => 0))), (q7, .inl (Y.2.1, 16, .inr (.inl (fun _ => 0)))), (q8, .inl (Y.1, 16, .inl (fun _ => 0))), (q9, .inl (Y.1, 16, .inl (fun _ => 0))), (q10, .inl (Y.1, 16, .inl (fun _ => 0))), (q11, .inl (Y.1, 64, .inl (fun _ => 0))), (q12, .inl (Y.1, 384, .inl (fun _ => 0)))] := hD
  subst hAe
  exact W.vret hx hb hr (fun t ht hW => ⟨⟨(fun i => [q0, q1, q2, q3, q4, q5, q6, q7, q8, q9, q10, q11, q12].getD i 0), rfl, True.intro, by rw [ht]; exact hP, va_K.moved hW.alike hC.2.2.2.1, hD⟩, hS.F ht⟩) hS.2.2 dX4_init_111 hlk
/-- MarkovBench$Parser: before and behind its constructor -/
abbrev n0_X1 (h0 : Nat) : va_W := [(h0, .inr (3, [.null, .null, .null, .int 0, .int 0, .int 0, .int 0, .int 0]))]
abbrev n1_X1 (Y : CYs) (h0 : Nat) (a1 : Nat) (a2 : Nat) (a3 : Nat) (u : Nat → Nat) : va_W := [(h0, .inr (3, [.ref a1, .ref a2, .ref a3, .int 0, .int 0, .int 0, .int 0, .int 0]))]
abbrev rn_X1 : Room := { frames := 1, cells := 0, slots := 0, locals := 12 }
set_option maxHeartbeats 4000000 in
set_option maxRecDepth 100000 in
theorem c_X1_init {l : Launch} {D : va_G} {Y : CYs} {h0 : Nat} {a1 : Nat} {a2 : Nat} {a3 : Nat} (sz : Nat) : Met l yX1_init (Cond.code yX1_init cX1_init 4 none :: gW) rn_X1 (PcN (n0_X1 h0) Y D sz [.ref h0, .ref a1, .ref a2, .ref a3]) (QN1 (n0_X1 h0) (n1_X1 Y h0 a1 a2 a3) Y D sz) 0 0 (va_A (n0_X1 h0) sz) := by
  refine Met_ofN (Qc := fun sz => QN1 (n0_X1 h0) (n1_X1 Y h0 a1 a2 a3) Y D sz) (by decide) rfl (Nat.le_of_ble_eq_true rfl) (fun p e s m args below meth c hC hb hml hr hlk hin hSW hP hD ls hl => ?_) sz
  have hx := hC.1
  generalize hAe : va_A (n0_X1 h0) s.heap.size = A at hD ⊢
  have hA : ∀ q : Nat, s.heap.size ≤ q → A q := fun q h => by rw [← hAe]; exact Or.inr h
  have hS : va_S A s.heap s.heap [] := va_S.rf
  have hl : lv_has ls 4 [(0, .ref h0), (1, .ref a1), (2, .ref a2), (3, .ref a3)] := hl
  refine lv_aload_n hx hb dX1_init_0 rfl (lv_at hl 0 rfl) ?_
  refine n_obj hC hb (hl.1.trans hml.symm) (gw_t (tb1 (List.mem_of_getElem? (i := 175) rfl)) rfl) dX1_init_1 (Nat.le_of_ble_eq_true rfl) (Nat.le_of_ble_eq_true rfl) ?_
  refine lv_aload_n hx hb dX1_init_4 rfl (lv_at hl 0 rfl) ?_
  refine lv_aload_n hx hb dX1_init_5 rfl (lv_at hl 1 rfl) ?_
  refine n_putF hC hb hP hD hS inGX1 tyX1 tyX1_ok nmX1 0 rfl rfl 0 (by decide) (gw_t (tb1 (List.mem_of_getElem? (i := 176) rfl)) rfl) rfl rfl hin rfl rfl rfl rfl (Nat.le_of_ble_eq_true rfl) dX1_init_6 (fun H locs hP hD hS => ?_)
  have hP : va_P D vwCl [(h0, .inr (3, [.ref a1, .null, .null, .int 0, .int 0, .int 0, .int 0, .int 0]))] H := hP
  have hD : va_D A [(h0, .inr (3, [.ref a1, .null, .null, .int 0, .int 0, .int 0, .int 0, .int 0]))] := hD
  refine lv_aload_n hx hb dX1_init_9 rfl (lv_at hl 0 rfl) ?_
  refine lv_aload_n hx hb dX1_init_10 rfl (lv_at hl 2 rfl) ?_
  refine n_putF hC hb hP hD hS inGX1 tyX1 tyX1_ok nmX1 0 rfl rfl 1 (by decide) (gw_t (tb1 (List.mem_of_getElem? (i := 177) rfl)) rfl) rfl rfl hin rfl rfl rfl rfl (Nat.le_of_ble_eq_true rfl) dX1_init_11 (fun H locs hP hD hS => ?_)
  have hP : va_P D vwCl [(h0, .inr (3, [.ref a1, .ref a2, .null, .int 0, .int 0, .int 0, .int 0, .int 0]))] H := hP
  have hD : va_D A [(h0, .inr (3, [.ref a1, .ref a2, .null, .int 0, .int 0, .int 0, .int 0, .int 0]))] := hD
  refine lv_aload_n hx hb dX1_init_14 rfl (lv_at hl 0 rfl) ?_
  refine lv_aload_n hx hb dX1_init_15 rfl (lv_at hl 3 rfl) ?_
  refine n_putF hC hb hP hD hS inGX1 tyX1 tyX1_ok nmX1 0 rfl rfl 2 (by decide) (gw_t (tb1 (List.mem_of_getElem? (i := 178) rfl)) rfl) rfl rfl hin rfl rfl rfl rfl (Nat.le_of_ble_eq_true rfl) dX1_init_16 (fun H locs hP hD hS => ?_)
  have hP : va_P D vwCl [(h0, .inr (3, [.ref a1, .ref a2, .ref a3, .int 0, .int 0, .int 0, .int 0, .int 0]))] H := hP
  have hD : va_D A [(h0, .inr (3, [.ref a1, .ref a2, .ref a3, .int 0, .int 0, .int 0, .int 0, .int 0]))] := hD
  subst hAe
  exact W.vret hx hb hr (fun t ht hW => ⟨⟨(fun i => [].getD i 0), rfl, True.intro, by rw [ht]; exact hP, va_K.moved hW.alike hC.2.2.2.1, hD⟩, hS.F ht⟩) hS.2.2 dX1_init_19 hlk
/-- MarkovBench$States: before and behind its constructor -/
abbrev n0_X5 (h0 : Nat) : va_W := [(h0, .inr (7, [.null, .null, .int 0, .null, .null, .null, .null, .null, .null, .int 0, .int 0]))]
abbrev n1_X5 (Y : CYs) (h0 : Nat) (a1 : Nat) (a2 : Nat) (u : Nat → Nat) : va_W := [(h0, .inr (7, [.ref a1, .ref a2, .int 0, .ref (u 0), .ref (u 1), .ref (u 2), .ref (u 3), .ref (u 4), .ref (u 5), .int 0, .int 0])), (u 0, .inl (Y.1, 600, .inl (fun _ => 0))), (u 1, .inl (Y.1, 100, .inl (fun _ => 0))), (u 2, .inl (Y.1, 1600, .inl (fun _ => 0))), (u 3, .inl (Y.1, 6400, .inl (fun _ => 0))), (u 4, .inl (Y.2.1, 300, .inr (.inl (fun _ => 0)))), (u 5, .inl (Y.1, 6, .inl (fun _ => 0)))]
abbrev rn_X5 : Room := { frames := 1, cells := 6, slots := 9006, locals := 12 }
set_option maxHeartbeats 4000000 in
set_option maxRecDepth 100000 in
theorem c_X5_init {l : Launch} {D : va_G} {Y : CYs} {h0 : Nat} {a1 : Nat} {a2 : Nat} (sz : Nat) : Met l yX5_init (Cond.code yX5_init cX5_init 3 none :: gW) rn_X5 (PcN (n0_X5 h0) Y D sz [.ref h0, .ref a1, .ref a2]) (QN1 (n0_X5 h0) (n1_X5 Y h0 a1 a2) Y D sz) 6 9006 (va_A (n0_X5 h0) sz) := by
  refine Met_ofN (Qc := fun sz => QN1 (n0_X5 h0) (n1_X5 Y h0 a1 a2) Y D sz) (by decide) rfl (Nat.le_of_ble_eq_true rfl) (fun p e s m args below meth c hC hb hml hr hlk hin hSW hP hD ls hl => ?_) sz
  have hx := hC.1
  generalize hAe : va_A (n0_X5 h0) s.heap.size = A at hD ⊢
  have hA : ∀ q : Nat, s.heap.size ≤ q → A q := fun q h => by rw [← hAe]; exact Or.inr h
  have hS : va_S A s.heap s.heap [] := va_S.rf
  have hl : lv_has ls 3 [(0, .ref h0), (1, .ref a1), (2, .ref a2)] := hl
  refine lv_aload_n hx hb dX5_init_0 rfl (lv_at hl 0 rfl) ?_
  refine n_obj hC hb (hl.1.trans hml.symm) (gw_t (tb1 (List.mem_of_getElem? (i := 208) rfl)) rfl) dX5_init_1 (Nat.le_of_ble_eq_true rfl) (Nat.le_of_ble_eq_true rfl) ?_
  refine lv_aload_n hx hb dX5_init_4 rfl (lv_at hl 0 rfl) ?_
  refine lv_sipush (v := 600) hx hb dX5_init_5 (by decide) ?_
  refine n_arrI (N' := 600) hC hb hP hD hS hA (by decide) (by decide) (Nat.le_of_ble_eq_true rfl) (Nat.le_of_ble_eq_true rfl) (Nat.le_of_ble_eq_true rfl) dX5_init_8 (fun q0 H hP hD hS => ?_)
  have hP : va_P D vwCl [(h0, .inr (7, [.null, .null, .int 0, .null, .null, .null, .null, .null, .null, .int 0, .int 0])), (q0, .inl (Y.1, 600, .inl (fun _ => 0)))] H := hP
  have hD : va_D A [(h0, .inr (7, [.null, .null, .int 0, .null, .null, .null, .null, .null, .null, .int 0, .int 0])), (q0, .inl (Y.1, 600, .inl (fun _ => 0)))] := hD
  refine n_putF hC hb hP hD hS inGX5 tyX5 tyX5_ok nmX5 0 rfl rfl 3 (by decide) (gw_t (tb1 (List.mem_of_getElem? (i := 215) rfl)) rfl) rfl rfl hin rfl rfl rfl rfl (Nat.le_of_ble_eq_true rfl) dX5_init_10 (fun H locs hP hD hS => ?_)
  have hP : va_P D vwCl [(h0, .inr (7, [.null, .null, .int 0, .ref q0, .null, .null, .null, .null, .null, .int 0, .int 0])), (q0, .inl (Y.1, 600, .inl (fun _ => 0)))] H := hP
  have hD : va_D A [(h0, .inr (7, [.null, .null, .int 0, .ref q0, .null, .null, .null, .null, .null, .int 0, .int 0])), (q0, .inl (Y.1, 600, .inl (fun _ => 0)))] := hD
  refine lv_aload_n hx hb dX5_init_13 rfl (lv_at hl 0 rfl) ?_
  refine lv_bipush (v := 100) hx hb dX5_init_14 (by decide) ?_
  refine n_arrI (N' := 100) hC hb hP hD hS hA (by decide) (by decide) (Nat.le_of_ble_eq_true rfl) (Nat.le_of_ble_eq_true rfl) (Nat.le_of_ble_eq_true rfl) dX5_init_16 (fun q1 H hP hD hS => ?_)
  have hP : va_P D vwCl [(h0, .inr (7, [.null, .null, .int 0, .ref q0, .null, .null, .null, .null, .null, .int 0, .int 0])), (q0, .inl (Y.1, 600, .inl (fun _ => 0))), (q1, .inl (Y.1, 100, .inl (fun _ => 0)))] H := hP
  have hD : va_D A [(h0, .inr (7, [.null, .null, .int 0, .ref q0, .null, .null, .null, .null, .null, .int 0, .int 0])), (q0, .inl (Y.1, 600, .inl (fun _ => 0))), (q1, .inl (Y.1, 100, .inl (fun _ => 0)))] := hD
  refine n_putF hC hb hP hD hS inGX5 tyX5 tyX5_ok nmX5 0 rfl rfl 4 (by decide) (gw_t (tb1 (List.mem_of_getElem? (i := 216) rfl)) rfl) rfl rfl hin rfl rfl rfl rfl (Nat.le_of_ble_eq_true rfl) dX5_init_18 (fun H locs hP hD hS => ?_)
  have hP : va_P D vwCl [(h0, .inr (7, [.null, .null, .int 0, .ref q0, .ref q1, .null, .null, .null, .null, .int 0, .int 0])), (q0, .inl (Y.1, 600, .inl (fun _ => 0))), (q1, .inl (Y.1, 100, .inl (fun _ => 0)))] H := hP
  have hD : va_D A [(h0, .inr (7, [.null, .null, .int 0, .ref q0, .ref q1, .null, .null, .null, .null, .int 0, .int 0])), (q0, .inl (Y.1, 600, .inl (fun _ => 0))), (q1, .inl (Y.1, 100, .inl (fun _ => 0)))] := hD
  refine lv_aload_n hx hb dX5_init_21 rfl (lv_at hl 0 rfl) ?_
  refine lv_sipush (v := 1600) hx hb dX5_init_22 (by decide) ?_
  refine n_arrI (N' := 1600) hC hb hP hD hS hA (by decide) (by decide) (Nat.le_of_ble_eq_true rfl) (Nat.le_of_ble_eq_true rfl) (Nat.le_of_ble_eq_true rfl) dX5_init_25 (fun q2 H hP hD hS => ?_)
  have hP : va_P D vwCl [(h0, .inr (7, [.null, .null, .int 0, .ref q0, .ref q1, .null, .null, .null, .null, .int 0, .int 0])), (q0, .inl (Y.1, 600, .inl (fun _ => 0))), (q1, .inl (Y.1, 100, .inl (fun _ => 0))), (q2, .inl (Y.1, 1600, .inl (fun _ => 0)))] H := hP
  have hD : va_D A [(h0, .inr (7, [.null, .null, .int 0, .ref q0, .ref q1, .null, .null, .null, .null, .int 0, .int 0])), (q0, .inl (Y.1, 600, .inl (fun _ => 0))), (q1, .inl (Y.1, 100, .inl (fun _ => 0))), (q2, .inl (Y.1, 1600, .inl (fun _ => 0)))] := hD
  refine n_putF hC hb hP hD hS inGX5 tyX5 tyX5_ok nmX5 0 rfl rfl 5 (by decide) (gw_t (tb1 (List.mem_of_getElem? (i := 219) rfl)) rfl) rfl rfl hin rfl rfl rfl rfl (Nat.le_of_ble_eq_true rfl) dX5_init_27 (fun H locs hP hD hS => ?_)
  have hP : va_P D vwCl [(h0, .inr (7, [.null, .null, .int 0, .ref q0, .ref q1, .ref q2, .null, .null, .null, .int 0, .int 0])), (q0, .inl (Y.1, 600, .inl (fun _ => 0))), (q1, .inl (Y.1, 100, .inl (fun _ => 0))), (q2, .inl (Y.1, 1600, .inl (fun _ => 0)))] H := hP
  have hD : va_D A [(h0, .inr (7, [.null, .null, .int 0, .ref q0, .ref q1, .ref q2, .null, .null, .null, .int 0, .int 0])), (q0, .inl (Y.1, 600, .inl (fun _ => 0))), (q1, .inl (Y.1, 100, .inl (fun _ => 0))), (q2, .inl (Y.1, 1600, .inl (fun _ => 0)))] := hD
  refine lv_aload_n hx hb dX5_init_30 rfl (lv_at hl 0 rfl) ?_
  refine lv_sipush (v := 6400) hx hb dX5_init_31 (by decide) ?_
  refine n_arrI (N' := 6400) hC hb hP hD hS hA (by decide) (by decide) (Nat.le_of_ble_eq_true rfl) (Nat.le_of_ble_eq_true rfl) (Nat.le_of_ble_eq_true rfl) dX5_init_34 (fun q3 H hP hD hS => ?_)
  have hP : va_P D vwCl [(h0, .inr (7, [.null, .null, .int 0, .ref q0, .ref q1, .ref q2, .null, .null, .null, .int 0, .int 0])), (q0, .inl (Y.1, 600, .inl (fun _ => 0))), (q1, .inl (Y.1, 100, .inl (fun _ => 0))), (q2, .inl (Y.1, 1600, .inl (fun _ => 0))), (q3, .inl (Y.1, 6400, .inl (fun _ => 0)))] H := hP
  have hD : va_D A [(h0, .inr (7, [.null, .null, .int 0, .ref q0, .ref q1, .ref q2, .null, .null, .null, .int 0, .int 0])), (q0, .inl (Y.1, 600, .inl (fun _ => 0))), (q1, .inl (Y.1, 100, .inl (fun _ => 0))), (q2, .inl (Y.1, 1600, .inl (fun _ => 0))), (q3, .inl (Y.1, 6400, .inl (fun _ => 0)))] := hD
  refine n_putF hC hb hP hD hS inGX5 tyX5 tyX5_ok nmX5 0 rfl rfl 6 (by decide) (gw_t (tb1 (List.mem_of_getElem? (i := 220) rfl)) rfl) rfl rfl hin rfl rfl rfl rfl (Nat.le_of_ble_eq_true rfl) dX5_init_36 (fun H locs hP hD hS => ?_)
  have hP : va_P D vwCl [(h0, .inr (7, [.null, .null, .int 0, .ref q0, .ref q1, .ref q2, .ref q3, .null, .null, .int 0, .int 0])), (q0, .inl (Y.1, 600, .inl (fun _ => 0))), (q1, .inl (Y.1, 100, .inl (fun _ => 0))), (q2, .inl (Y.1, 1600, .inl (fun _ => 0))), (q3, .inl (Y.1, 6400, .inl (fun _ => 0)))] H := hP
  have hD : va_D A [(h0, .inr (7, [.null, .null, .int 0, .ref q0, .ref q1, .ref q2, .ref q3, .null, .null, .int 0, .int 0])), (q0, .inl (Y.1, 600, .inl (fun _ => 0))), (q1, .inl (Y.1, 100, .inl (fun _ => 0))), (q2, .inl (Y.1, 1600, .inl (fun _ => 0))), (q3, .inl (Y.1, 6400, .inl (fun _ => 0)))] := hD
  refine lv_aload_n hx hb dX5_init_39 rfl (lv_at hl 0 rfl) ?_
  refine lv_sipush (v := 300) hx hb dX5_init_40 (by decide) ?_
  refine n_arrJ (N' := 300) hC hb hP hD hS hA (by decide) (by decide) (Nat.le_of_ble_eq_true rfl) (Nat.le_of_ble_eq_true rfl) (Nat.le_of_ble_eq_true rfl) dX5_init_43 (fun q4 H hP hD hS => ?_)
  have hP : va_P D vwCl [(h0, .inr (7, [.null, .null, .int 0, .ref q0, .ref q1, .ref q2, .ref q3, .null, .null, .int 0, .int 0])), (q0, .inl (Y.1, 600, .inl (fun _ => 0))), (q1, .inl (Y.1, 100, .inl (fun _ => 0))), (q2, .inl (Y.1, 1600, .inl (fun _ => 0))), (q3, .inl (Y.1, 6400, .inl (fun _ => 0))), (q4, .inl (Y.2.1, 300, .inr (.inl (fun _ => 0))))] H := hP
  have hD : va_D A [(h0, .inr (7, [.null, .null, .int 0, .ref q0, .ref q1, .ref q2, .ref q3, .null, .null, .int 0, .int 0])), (q0, .inl (Y.1, 600, .inl (fun _ => 0))), (q1, .inl (Y.1, 100, .inl (fun _ => 0))), (q2, .inl (Y.1, 1600, .inl (fun _ => 0))), (q3, .inl (Y.1, 6400, .inl (fun _ => 0))), (q4, .inl (Y.2.1, 300, .inr (.inl (fun _ => 0))))] := hD
  refine n_putF hC hb hP hD hS inGX5 tyX5 tyX5_ok nmX5 0 rfl rfl 7 (by decide) (gw_t (tb1 (List.mem_of_getElem? (i := 221) rfl)) rfl) rfl rfl hin rfl rfl rfl rfl (Nat.le_of_ble_eq_true rfl) dX5_init_45 (fun H locs hP hD hS => ?_)
  have hP : va_P D vwCl [(h0, .inr (7, [.null, .null, .int 0, .ref q0, .ref q1, .ref q2, .ref q3, .ref q4, .null, .int 0, .int 0])), (q0, .inl (Y.1, 600, .inl (fun _ => 0))), (q1, .inl (Y.1, 100, .inl (fun _ => 0))), (q2, .inl (Y.1, 1600, .inl (fun _ => 0))), (q3, .inl (Y.1, 6400, .inl (fun _ => 0))), (q4, .inl (Y.2.1, 300, .inr (.inl (fun _ => 0))))] H := hP
  have hD : va_D A [(h0, .inr (7, [.null, .null, .int 0, .ref q0, .ref q1, .ref q2, .ref q3, .ref q4, .null, .int 0, .int 0])), (q0, .inl (Y.1, 600, .inl (fun _ => 0))), (q1, .inl (Y.1, 100, .inl (fun _ => 0))), (q2, .inl (Y.1, 1600, .inl (fun _ => 0))), (q3, .inl (Y.1, 6400, .inl (fun _ => 0))), (q4, .inl (Y.2.1, 300, .inr (.inl (fun _ => 0))))] := hD
  refine lv_aload_n hx hb dX5_init_48 rfl (lv_at hl 0 rfl) ?_
  refine lv_bipush (v := 6) hx hb dX5_init_49 (by decide) ?_
  refine n_arrI (N' := 6) hC hb hP hD hS hA (by decide) (by decide) (Nat.le_of_ble_eq_true rfl) (Nat.le_of_ble_eq_true rfl) (Nat.le_of_ble_eq_true rfl) dX5_init_51 (fun q5 H hP hD hS => ?_)
  have hP : va_P D vwCl [(h0, .inr (7, [.null, .null, .int 0, .ref q0, .ref q1, .ref q2, .ref q3, .ref q4, .null, .int 0, .int 0])), (q0, .inl (Y.1, 600, .inl (fun _ => 0))), (q1, .inl (Y.1, 100, .inl (fun _ => 0))), (q2, .inl (Y.1, 1600, .inl (fun _ => 0))), (q3, .inl (Y.1, 6400, .inl (fun _ => 0))), (q4, .inl (Y.2.1, 300, .inr (.inl (fun _ => 0)))), (q5, .inl (Y.1, 6, .inl (fun _ => 0)))] H := hP
  have hD : va_D A [(h0, .inr (7, [.null, .null, .int 0, .ref q0, .ref q1, .ref q2, .ref q3, .ref q4, .null, .int 0, .int 0])), (q0, .inl (Y.1, 600, .inl (fun _ => 0))), (q1, .inl (Y.1, 100, .inl (fun _ => 0))), (q2, .inl (Y.1, 1600, .inl (fun _ => 0))), (q3, .inl (Y.1, 6400, .inl (fun _ => 0))), (q4, .inl (Y.2.1, 300, .inr (.inl (fun _ => 0)))), (q5, .inl (Y.1, 6, .inl (fun _ => 0)))] := hD
  refine n_putF hC hb hP hD hS inGX5 tyX5 tyX5_ok nmX5 0 rfl rfl 8 (by decide) (gw_t (tb1 (List.mem_of_getElem? (i := 222) rfl)) rfl) rfl rfl hin rfl rfl rfl rfl (Nat.le_of_ble_eq_true rfl) dX5_init_53 (fun H locs hP hD hS => ?_)
  have hP : va_P D vwCl [(h0, .inr (7, [.null, .null, .int 0, .ref q0, .ref q1, .ref q2, .ref q3, .ref q4, .ref q5, .int 0, .int 0])), (q0, .inl (Y.1, 600, .inl (fun _ => 0))), (q1, .inl (Y.1, 100, .inl (fun _ => 0))), (q2, .inl (Y.1, 1600, .inl (fun _ => 0))), (q3, .inl (Y.1, 6400, .inl (fun _ => 0))), (q4, .inl (Y.2.1, 300, .inr (.inl (fun _ => 0)))), (q5, .inl (Y.1, 6, .inl (fun _ => 0)))] H := hP
  have hD : va_D A [(h0, .inr (7, [.null, .null, .int 0, .ref q0, .ref q1, .ref q2, .ref q3, .ref q4, .ref q5, .int 0, .int 0])), (q0, .inl (Y.1, 600, .inl (fun _ => 0))), (q1, .inl (Y.1, 100, .inl (fun _ => 0))), (q2, .inl (Y.1, 1600, .inl (fun _ => 0))), (q3, .inl (Y.1, 6400, .inl (fun _ => 0))), (q4, .inl (Y.2.1, 300, .inr (.inl (fun _ => 0)))), (q5, .inl (Y.1, 6, .inl (fun _ => 0)))] := hD
  refine lv_aload_n hx hb dX5_init_56 rfl (lv_at hl 0 rfl) ?_
  refine lv_aload_n hx hb dX5_init_57 rfl (lv_at hl 1 rfl) ?_
  refine n_putF hC hb hP hD hS inGX5 tyX5 tyX5_ok nmX5 0 rfl rfl 0 (by decide) (gw_t (tb1 (List.mem_of_getElem? (i := 209) rfl)) rfl) rfl rfl hin rfl rfl rfl rfl (Nat.le_of_ble_eq_true rfl) dX5_init_58 (fun H locs hP hD hS => ?_)
  have hP : va_P D vwCl [(h0, .inr (7, [.ref a1, .null, .int 0, .ref q0, .ref q1, .ref q2, .ref q3, .ref q4, .ref q5, .int 0, .int 0])), (q0, .inl (Y.1, 600, .inl (fun _ => 0))), (q1, .inl (Y.1, 100, .inl (fun _ => 0))), (q2, .inl (Y.1, 1600, .inl (fun _ => 0))), (q3, .inl (Y.1, 6400, .inl (fun _ => 0))), (q4, .inl (Y.2.1, 300, .inr (.inl (fun _ => 0)))), (q5, .inl (Y.1, 6, .inl (fun _ => 0)))] H := hP
  have hD : va_D A [(h0, .inr (7, [.ref a1, .null, .int 0, .ref q0, .ref q1, .ref q2, .ref q3, .ref q4, .ref q5, .int 0, .int 0])), (q0, .inl (Y.1, 600, .inl (fun _ => 0))), (q1, .inl (Y.1, 100, .inl (fun _ => 0))), (q2, .inl (Y.1, 1600, .inl (fun _ => 0))), (q3, .inl (Y.1, 6400, .inl (fun _ => 0))), (q4, .inl (Y.2.1, 300, .inr (.inl (fun _ => 0)))), (q5, .inl (Y.1, 6, .inl (fun _ => 0)))] := hD
  refine lv_aload_n hx hb dX5_init_61 rfl (lv_at hl 0 rfl) ?_
  refine lv_aload_n hx hb dX5_init_62 rfl (lv_at hl 2 rfl) ?_
  refine n_putF hC hb hP hD hS inGX5 tyX5 tyX5_ok nmX5 0 rfl rfl 1 (by decide) (gw_t (tb1 (List.mem_of_getElem? (i := 211) rfl)) rfl) rfl rfl hin rfl rfl rfl rfl (Nat.le_of_ble_eq_true rfl) dX5_init_63 (fun H locs hP hD hS => ?_)
  have hP : va_P D vwCl [(h0, .inr (7, [.ref a1, .ref a2, .int 0, .ref q0, .ref q1, .ref q2, .ref q3, .ref q4, .ref q5, .int 0, .int 0])), (q0, .inl (Y.1, 600, .inl (fun _ => 0))), (q1, .inl (Y.1, 100, .inl (fun _ => 0))), (q2, .inl (Y.1, 1600, .inl (fun _ => 0))), (q3, .inl (Y.1, 6400, .inl (fun _ => 0))), (q4, .inl (Y.2.1, 300, .inr (.inl (fun _ => 0)))), (q5, .inl (Y.1, 6, .inl (fun _ => 0)))] H := hP
  have hD : va_D A [(h0, .inr (7, [.ref a1, .ref a2, .int 0, .ref q0, .ref q1, .ref q2, .ref q3, .ref q4, .ref q5, .int 0, .int 0])), (q0, .inl (Y.1, 600, .inl (fun _ => 0))), (q1, .inl (Y.1, 100, .inl (fun _ => 0))), (q2, .inl (Y.1, 1600, .inl (fun _ => 0))), (q3, .inl (Y.1, 6400, .inl (fun _ => 0))), (q4, .inl (Y.2.1, 300, .inr (.inl (fun _ => 0)))), (q5, .inl (Y.1, 6, .inl (fun _ => 0)))] := hD
  subst hAe
  exact W.vret hx hb hr (fun t ht hW => ⟨⟨(fun i => [q0, q1, q2, q3, q4, q5].getD i 0), rfl, True.intro, by rw [ht]; exact hP, va_K.moved hW.alike hC.2.2.2.1, hD⟩, hS.F ht⟩) hS.2.2 dX5_init_66 hlk
/-- MarkovBench$Planner: before and behind its constructor -/
abbrev n0_X2 (h0 : Nat) : va_W := [(h0, .inr (4, [.null, .null, .null]))]
abbrev n1_X2 (Y : CYs) (h0 : Nat) (a1 : Nat) (u : Nat → Nat) : va_W := [(h0, .inr (4, [.ref a1, .ref (u 0), .ref (u 1)])), (u 0, .inl (Y.2.1, 100, .inr (.inl (fun _ => 0)))), (u 1, .inl (Y.2.1, 100, .inr (.inl (fun _ => 0))))]
abbrev rn_X2 : Room := { frames := 1, cells := 2, slots := 200, locals := 12 }
set_option maxHeartbeats 4000000 in
set_option maxRecDepth 100000 in
theorem c_X2_init {l : Launch} {D : va_G} {Y : CYs} {h0 : Nat} {a1 : Nat} (sz : Nat) : Met l yX2_init (Cond.code yX2_init cX2_init 2 none :: gW) rn_X2 (PcN (n0_X2 h0) Y D sz [.ref h0, .ref a1]) (QN1 (n0_X2 h0) (n1_X2 Y h0 a1) Y D sz) 2 200 (va_A (n0_X2 h0) sz) := by
  refine Met_ofN (Qc := fun sz => QN1 (n0_X2 h0) (n1_X2 Y h0 a1) Y D sz) (by decide) rfl (Nat.le_of_ble_eq_true rfl) (fun p e s m args below meth c hC hb hml hr hlk hin hSW hP hD ls hl => ?_) sz
  have hx := hC.1
  generalize hAe : va_A (n0_X2 h0) s.heap.size = A at hD ⊢
  have hA : ∀ q : Nat, s.heap.size ≤ q → A q := fun q h => by rw [← hAe]; exact Or.inr h
  have hS : va_S A s.heap s.heap [] := va_S.rf
  have hl : lv_has ls 2 [(0, .ref h0), (1, .ref a1)] := hl
  refine lv_aload_n hx hb dX2_init_0 rfl (lv_at hl 0 rfl) ?_
  refine n_obj hC hb (hl.1.trans hml.symm) (gw_t (tb2 (List.mem_of_getElem? (i := 14) rfl)) rfl) dX2_init_1 (Nat.le_of_ble_eq_true rfl) (Nat.le_of_ble_eq_true rfl) ?_
  refine lv_aload_n hx hb dX2_init_4 rfl (lv_at hl 0 rfl) ?_
  refine lv_bipush (v := 100) hx hb dX2_init_5 (by decide) ?_
  refine n_arrJ (N' := 100) hC hb hP hD hS hA (by decide) (by decide) (Nat.le_of_ble_eq_true rfl) (Nat.le_of_ble_eq_true rfl) (Nat.le_of_ble_eq_true rfl) dX2_init_7 (fun q0 H hP hD hS => ?_)
  have hP : va_P D vwCl [(h0, .inr (4, [.null, .null, .null])), (q0, .inl (Y.2.1, 100, .inr (.inl (fun _ => 0))))] H := hP
  have hD : va_D A [(h0, .inr (4, [.null, .null, .null])), (q0, .inl (Y.2.1, 100, .inr (.inl (fun _ => 0))))] := hD
  refine n_putF hC hb hP hD hS inGX2 tyX2 tyX2_ok nmX2 0 rfl rfl 1 (by decide) (gw_t (tb2 (List.mem_of_getElem? (i := 16) rfl)) rfl) rfl rfl hin rfl rfl rfl rfl (Nat.le_of_ble_eq_true rfl) dX2_init_9 (fun H locs hP hD hS => ?_)
  have hP : va_P D vwCl [(h0, .inr (4, [.null, .ref q0, .null])), (q0, .inl (Y.2.1, 100, .inr (.inl (fun _ => 0))))] H := hP
  have hD : va_D A [(h0, .inr (4, [.null, .ref q0, .null])), (q0, .inl (Y.2.1, 100, .inr (.inl (fun _ => 0))))] := hD
  refine lv_aload_n hx hb dX2_init_12 rfl (lv_at hl 0 rfl) ?_
  refine lv_bipush (v := 100) hx hb dX2_init_13 (by decide) ?_
  refine n_arrJ (N' := 100) hC hb hP hD hS hA (by decide) (by decide) (Nat.le_of_ble_eq_true rfl) (Nat.le_of_ble_eq_true rfl) (Nat.le_of_ble_eq_true rfl) dX2_init_15 (fun q1 H hP hD hS => ?_)
  have hP : va_P D vwCl [(h0, .inr (4, [.null, .ref q0, .null])), (q0, .inl (Y.2.1, 100, .inr (.inl (fun _ => 0)))), (q1, .inl (Y.2.1, 100, .inr (.inl (fun _ => 0))))] H := hP
  have hD : va_D A [(h0, .inr (4, [.null, .ref q0, .null])), (q0, .inl (Y.2.1, 100, .inr (.inl (fun _ => 0)))), (q1, .inl (Y.2.1, 100, .inr (.inl (fun _ => 0))))] := hD
  refine n_putF hC hb hP hD hS inGX2 tyX2 tyX2_ok nmX2 0 rfl rfl 2 (by decide) (gw_t (tb2 (List.mem_of_getElem? (i := 17) rfl)) rfl) rfl rfl hin rfl rfl rfl rfl (Nat.le_of_ble_eq_true rfl) dX2_init_17 (fun H locs hP hD hS => ?_)
  have hP : va_P D vwCl [(h0, .inr (4, [.null, .ref q0, .ref q1])), (q0, .inl (Y.2.1, 100, .inr (.inl (fun _ => 0)))), (q1, .inl (Y.2.1, 100, .inr (.inl (fun _ => 0))))] H := hP
  have hD : va_D A [(h0, .inr (4, [.null, .ref q0, .ref q1])), (q0, .inl (Y.2.1, 100, .inr (.inl (fun _ => 0)))), (q1, .inl (Y.2.1, 100, .inr (.inl (fun _ => 0))))] := hD
  refine lv_aload_n hx hb dX2_init_20 rfl (lv_at hl 0 rfl) ?_
  refine lv_aload_n hx hb dX2_init_21 rfl (lv_at hl 1 rfl) ?_
  refine n_putF hC hb hP hD hS inGX2 tyX2 tyX2_ok nmX2 0 rfl rfl 0 (by decide) (gw_t (tb2 (List.mem_of_getElem? (i := 15) rfl)) rfl) rfl rfl hin rfl rfl rfl rfl (Nat.le_of_ble_eq_true rfl) dX2_init_22 (fun H locs hP hD hS => ?_)
  have hP : va_P D vwCl [(h0, .inr (4, [.ref a1, .ref q0, .ref q1])), (q0, .inl (Y.2.1, 100, .inr (.inl (fun _ => 0)))), (q1, .inl (Y.2.1, 100, .inr (.inl (fun _ => 0))))] H := hP
  have hD : va_D A [(h0, .inr (4, [.ref a1, .ref q0, .ref q1])), (q0, .inl (Y.2.1, 100, .inr (.inl (fun _ => 0)))), (q1, .inl (Y.2.1, 100, .inr (.inl (fun _ => 0))))] := hD
  subst hAe
  exact W.vret hx hb hr (fun t ht hW => ⟨⟨(fun i => [q0, q1].getD i 0), rfl, True.intro, by rw [ht]; exact hP, va_K.moved hW.alike hC.2.2.2.1, hD⟩, hS.F ht⟩) hS.2.2 dX2_init_25 hlk
/-- MarkovBench$Player: before and behind its constructor -/
abbrev n0_X3 (h0 : Nat) : va_W := [(h0, .inr (5, [.null, .long 0, .int 0, .null]))]
abbrev n1_X3 (Y : CYs) (h0 : Nat) (a1 : Nat) (u : Nat → Nat) : va_W := [(h0, .inr (5, [.ref a1, .long 0, .int 0, .ref (u 0)])), (u 0, .inl (Y.2.1, 3, .inr (.inl (fun _ => 0))))]
abbrev rn_X3 : Room := { frames := 1, cells := 1, slots := 3, locals := 12 }
set_option maxHeartbeats 4000000 in
set_option maxRecDepth 100000 in
theorem c_X3_init {l : Launch} {D : va_G} {Y : CYs} {h0 : Nat} {a1 : Nat} (sz : Nat) : Met l yX3_init (Cond.code yX3_init cX3_init 2 none :: gW) rn_X3 (PcN (n0_X3 h0) Y D sz [.ref h0, .ref a1]) (QN1 (n0_X3 h0) (n1_X3 Y h0 a1) Y D sz) 1 3 (va_A (n0_X3 h0) sz) := by
  refine Met_ofN (Qc := fun sz => QN1 (n0_X3 h0) (n1_X3 Y h0 a1) Y D sz) (by decide) rfl (Nat.le_of_ble_eq_true rfl) (fun p e s m args below meth c hC hb hml hr hlk hin hSW hP hD ls hl => ?_) sz
  have hx := hC.1
  generalize hAe : va_A (n0_X3 h0) s.heap.size = A at hD ⊢
  have hA : ∀ q : Nat, s.heap.size ≤ q → A q := fun q h => by rw [← hAe]; exact Or.inr h
  have hS : va_S A s.heap s.heap [] := va_S.rf
  have hl : lv_has ls 2 [(0, .ref h0), (1, .ref a1)] := hl
  refine lv_aload_n hx hb dX3_init_0 rfl (lv_at hl 0 rfl) ?_
  refine n_obj hC hb (hl.1.trans hml.symm) (gw_t (tb2 (List.mem_of_getElem? (i := 30) rfl)) rfl) dX3_init_1 (Nat.le_of_ble_eq_true rfl) (Nat.le_of_ble_eq_true rfl) ?_
  refine lv_aload_n hx hb dX3_init_4 rfl (lv_at hl 0 rfl) ?_
  refine lv_iconst (v := 3) hx hb dX3_init_5 (by decide) ?_
  refine n_arrJ (N' := 3) hC hb hP hD hS hA (by decide) (by decide) (Nat.le_of_ble_eq_true rfl) (Nat.le_of_ble_eq_true rfl) (Nat.le_of_ble_eq_true rfl) dX3_init_6 (fun q0 H hP hD hS => ?_)
  have hP : va_P D vwCl [(h0, .inr (5, [.null, .long 0, .int 0, .null])), (q0, .inl (Y.2.1, 3, .inr (.inl (fun _ => 0))))] H := hP
  have hD : va_D A [(h0, .inr (5, [.null, .long 0, .int 0, .null])), (q0, .inl (Y.2.1, 3, .inr (.inl (fun _ => 0))))] := hD
  refine n_putF hC hb hP hD hS inGX3 tyX3 tyX3_ok nmX3 0 rfl rfl 3 (by decide) (gw_t (tb2 (List.mem_of_getElem? (i := 33) rfl)) rfl) rfl rfl hin rfl rfl rfl rfl (Nat.le_of_ble_eq_true rfl) dX3_init_8 (fun H locs hP hD hS => ?_)
  have hP : va_P D vwCl [(h0, .inr (5, [.null, .long 0, .int 0, .ref q0])), (q0, .inl (Y.2.1, 3, .inr (.inl (fun _ => 0))))] H := hP
  have hD : va_D A [(h0, .inr (5, [.null, .long 0, .int 0, .ref q0])), (q0, .inl (Y.2.1, 3, .inr (.inl (fun _ => 0))))] := hD
  refine lv_aload_n hx hb dX3_init_11 rfl (lv_at hl 0 rfl) ?_
  refine lv_aload_n hx hb dX3_init_12 rfl (lv_at hl 1 rfl) ?_
  refine n_putF hC hb hP hD hS inGX3 tyX3 tyX3_ok nmX3 0 rfl rfl 0 (by decide) (gw_t (tb2 (List.mem_of_getElem? (i := 31) rfl)) rfl) rfl rfl hin rfl rfl rfl rfl (Nat.le_of_ble_eq_true rfl) dX3_init_13 (fun H locs hP hD hS => ?_)
  have hP : va_P D vwCl [(h0, .inr (5, [.ref a1, .long 0, .int 0, .ref q0])), (q0, .inl (Y.2.1, 3, .inr (.inl (fun _ => 0))))] H := hP
  have hD : va_D A [(h0, .inr (5, [.ref a1, .long 0, .int 0, .ref q0])), (q0, .inl (Y.2.1, 3, .inr (.inl (fun _ => 0))))] := hD
  subst hAe
  exact W.vret hx hb hr (fun t ht hW => ⟨⟨(fun i => [q0].getD i 0), rfl, True.intro, by rw [ht]; exact hP, va_K.moved hW.alike hC.2.2.2.1, hD⟩, hS.F ht⟩) hS.2.2 dX3_init_16 hlk
/-- MarkovBench$Strategy: before and behind its constructor -/
abbrev n0_X6 (h0 : Nat) : va_W := [(h0, .inr (8, [.null, .int 0, .null, .null, .null, .int 0]))]
abbrev n1_X6 (Y : CYs) (h0 : Nat) (u : Nat → Nat) : va_W := [(h0, .inr (8, [.ref (u 0), .int 0, .ref (u 1), .ref (u 2), .ref (u 3), .int 0])), (u 0, .inl (Y.1, 3, .inl (fun _ => 0))), (u 1, .inl (Y.1, 3000, .inl (fun _ => 0))), (u 2, .inl (Y.2.1, 3100, .inr (.inl (fun _ => 0)))), (u 3, .inl (Y.2.1, 3, .inr (.inl (fun _ => 0))))]
abbrev rn_X6 : Room := { frames := 1, cells := 4, slots := 6106, locals := 12 }
set_option maxHeartbeats 4000000 in
set_option maxRecDepth 100000 in
theorem c_X6_init {l : Launch} {D : va_G} {Y : CYs} {h0 : Nat} (sz : Nat) : Met l yX6_init (Cond.code yX6_init cX6_init 1 none :: gW) rn_X6 (PcN (n0_X6 h0) Y D sz [.ref h0]) (QN1 (n0_X6 h0) (n1_X6 Y h0) Y D sz) 4 6106 (va_A (n0_X6 h0) sz) := by
  refine Met_ofN (Qc := fun sz => QN1 (n0_X6 h0) (n1_X6 Y h0) Y D sz) (by decide) rfl (Nat.le_of_ble_eq_true rfl) (fun p e s m args below meth c hC hb hml hr hlk hin hSW hP hD ls hl => ?_) sz
  have hx := hC.1
  generalize hAe : va_A (n0_X6 h0) s.heap.size = A at hD ⊢
  have hA : ∀ q : Nat, s.heap.size ≤ q → A q := fun q h => by rw [← hAe]; exact Or.inr h
  have hS : va_S A s.heap s.heap [] := va_S.rf
  have hl : lv_has ls 1 [(0, .ref h0)] := hl
  refine lv_aload_n hx hb dX6_init_0 rfl (lv_at hl 0 rfl) ?_
  refine n_obj hC hb (hl.1.trans hml.symm) (gw_t (tb2 (List.mem_of_getElem? (i := 49) rfl)) rfl) dX6_init_1 (Nat.le_of_ble_eq_true rfl) (Nat.le_of_ble_eq_true rfl) ?_
  refine lv_aload_n hx hb dX6_init_4 rfl (lv_at hl 0 rfl) ?_
  refine lv_iconst (v := 3) hx hb dX6_init_5 (by decide) ?_
  refine n_arrI (N' := 3) hC hb hP hD hS hA (by decide) (by decide) (Nat.le_of_ble_eq_true rfl) (Nat.le_of_ble_eq_true rfl) (Nat.le_of_ble_eq_true rfl) dX6_init_6 (fun q0 H hP hD hS => ?_)
  have hP : va_P D vwCl [(h0, .inr (8, [.null, .int 0, .null, .null, .null, .int 0])), (q0, .inl (Y.1, 3, .inl (fun _ => 0)))] H := hP
  have hD : va_D A [(h0, .inr (8, [.null, .int 0, .null, .null, .null, .int 0])), (q0, .inl (Y.1, 3, .inl (fun _ => 0)))] := hD
  refine n_putF hC hb hP hD hS inGX6 tyX6 tyX6_ok nmX6 0 rfl rfl 0 (by decide) (gw_t (tb2 (List.mem_of_getElem? (i := 50) rfl)) rfl) rfl rfl hin rfl rfl rfl rfl (Nat.le_of_ble_eq_true rfl) dX6_init_8 (fun H locs hP hD hS => ?_)
  have hP : va_P D vwCl [(h0, .inr (8, [.ref q0, .int 0, .null, .null, .null, .int 0])), (q0, .inl (Y.1, 3, .inl (fun _ => 0)))] H := hP
  have hD : va_D A [(h0, .inr (8, [.ref q0, .int 0, .null, .null, .null, .int 0])), (q0, .inl (Y.1, 3, .inl (fun _ => 0)))] := hD
  refine lv_aload_n hx hb dX6_init_11 rfl (lv_at hl 0 rfl) ?_
  refine lv_sipush (v := 3000) hx hb dX6_init_12 (by decide) ?_
  refine n_arrI (N' := 3000) hC hb hP hD hS hA (by decide) (by decide) (Nat.le_of_ble_eq_true rfl) (Nat.le_of_ble_eq_true rfl) (Nat.le_of_ble_eq_true rfl) dX6_init_15 (fun q1 H hP hD hS => ?_)
  have hP : va_P D vwCl [(h0, .inr (8, [.ref q0, .int 0, .null, .null, .null, .int 0])), (q0, .inl (Y.1, 3, .inl (fun _ => 0))), (q1, .inl (Y.1, 3000, .inl (fun _ => 0)))] H := hP
  have hD : va_D A [(h0, .inr (8, [.ref q0, .int 0, .null, .null, .null, .int 0])), (q0, .inl (Y.1, 3, .inl (fun _ => 0))), (q1, .inl (Y.1, 3000, .inl (fun _ => 0)))] := hD
  refine n_putF hC hb hP hD hS inGX6 tyX6 tyX6_ok nmX6 0 rfl rfl 2 (by decide) (gw_t (tb2 (List.mem_of_getElem? (i := 55) rfl)) rfl) rfl rfl hin rfl rfl rfl rfl (Nat.le_of_ble_eq_true rfl) dX6_init_17 (fun H locs hP hD hS => ?_)
  have hP : va_P D vwCl [(h0, .inr (8, [.ref q0, .int 0, .ref q1, .null, .null, .int 0])), (q0, .inl (Y.1, 3, .inl (fun _ => 0))), (q1, .inl (Y.1, 3000, .inl (fun _ => 0)))] H := hP
  have hD : va_D A [(h0, .inr (8, [.ref q0, .int 0, .ref q1, .null, .null, .int 0])), (q0, .inl (Y.1, 3, .inl (fun _ => 0))), (q1, .inl (Y.1, 3000, .inl (fun _ => 0)))] := hD
  refine lv_aload_n hx hb dX6_init_20 rfl (lv_at hl 0 rfl) ?_
  refine lv_sipush (v := 3100) hx hb dX6_init_21 (by decide) ?_
  refine n_arrJ (N' := 3100) hC hb hP hD hS hA (by decide) (by decide) (Nat.le_of_ble_eq_true rfl) (Nat.le_of_ble_eq_true rfl) (Nat.le_of_ble_eq_true rfl) dX6_init_24 (fun q2 H hP hD hS => ?_)
  have hP : va_P D vwCl [(h0, .inr (8, [.ref q0, .int 0, .ref q1, .null, .null, .int 0])), (q0, .inl (Y.1, 3, .inl (fun _ => 0))), (q1, .inl (Y.1, 3000, .inl (fun _ => 0))), (q2, .inl (Y.2.1, 3100, .inr (.inl (fun _ => 0))))] H := hP
  have hD : va_D A [(h0, .inr (8, [.ref q0, .int 0, .ref q1, .null, .null, .int 0])), (q0, .inl (Y.1, 3, .inl (fun _ => 0))), (q1, .inl (Y.1, 3000, .inl (fun _ => 0))), (q2, .inl (Y.2.1, 3100, .inr (.inl (fun _ => 0))))] := hD
  refine n_putF hC hb hP hD hS inGX6 tyX6 tyX6_ok nmX6 0 rfl rfl 3 (by decide) (gw_t (tb2 (List.mem_of_getElem? (i := 57) rfl)) rfl) rfl rfl hin rfl rfl rfl rfl (Nat.le_of_ble_eq_true rfl) dX6_init_26 (fun H locs hP hD hS => ?_)
  have hP : va_P D vwCl [(h0, .inr (8, [.ref q0, .int 0, .ref q1, .ref q2, .null, .int 0])), (q0, .inl (Y.1, 3, .inl (fun _ => 0))), (q1, .inl (Y.1, 3000, .inl (fun _ => 0))), (q2, .inl (Y.2.1, 3100, .inr (.inl (fun _ => 0))))] H := hP
  have hD : va_D A [(h0, .inr (8, [.ref q0, .int 0, .ref q1, .ref q2, .null, .int 0])), (q0, .inl (Y.1, 3, .inl (fun _ => 0))), (q1, .inl (Y.1, 3000, .inl (fun _ => 0))), (q2, .inl (Y.2.1, 3100, .inr (.inl (fun _ => 0))))] := hD
  refine lv_aload_n hx hb dX6_init_29 rfl (lv_at hl 0 rfl) ?_
  refine lv_iconst (v := 3) hx hb dX6_init_30 (by decide) ?_
  refine n_arrJ (N' := 3) hC hb hP hD hS hA (by decide) (by decide) (Nat.le_of_ble_eq_true rfl) (Nat.le_of_ble_eq_true rfl) (Nat.le_of_ble_eq_true rfl) dX6_init_31 (fun q3 H hP hD hS => ?_)
  have hP : va_P D vwCl [(h0, .inr (8, [.ref q0, .int 0, .ref q1, .ref q2, .null, .int 0])), (q0, .inl (Y.1, 3, .inl (fun _ => 0))), (q1, .inl (Y.1, 3000, .inl (fun _ => 0))), (q2, .inl (Y.2.1, 3100, .inr (.inl (fun _ => 0)))), (q3, .inl (Y.2.1, 3, .inr (.inl (fun _ => 0))))] H := hP
  have hD : va_D A [(h0, .inr (8, [.ref q0, .int 0, .ref q1, .ref q2, .null, .int 0])), (q0, .inl (Y.1, 3, .inl (fun _ => 0))), (q1, .inl (Y.1, 3000, .inl (fun _ => 0))), (q2, .inl (Y.2.1, 3100, .inr (.inl (fun _ => 0)))), (q3, .inl (Y.2.1, 3, .inr (.inl (fun _ => 0))))] := hD
  refine n_putF hC hb hP hD hS inGX6 tyX6 tyX6_ok nmX6 0 rfl rfl 4 (by decide) (gw_t (tb2 (List.mem_of_getElem? (i := 60) rfl)) rfl) rfl rfl hin rfl rfl rfl rfl (Nat.le_of_ble_eq_true rfl) dX6_init_33 (fun H locs hP hD hS => ?_)
  have hP : va_P D vwCl [(h0, .inr (8, [.ref q0, .int 0, .ref q1, .ref q2, .ref q3, .int 0])), (q0, .inl (Y.1, 3, .inl (fun _ => 0))), (q1, .inl (Y.1, 3000, .inl (fun _ => 0))), (q2, .inl (Y.2.1, 3100, .inr (.inl (fun _ => 0)))), (q3, .inl (Y.2.1, 3, .inr (.inl (fun _ => 0))))] H := hP
  have hD : va_D A [(h0, .inr (8, [.ref q0, .int 0, .ref q1, .ref q2, .ref q3, .int 0])), (q0, .inl (Y.1, 3, .inl (fun _ => 0))), (q1, .inl (Y.1, 3000, .inl (fun _ => 0))), (q2, .inl (Y.2.1, 3100, .inr (.inl (fun _ => 0)))), (q3, .inl (Y.2.1, 3, .inr (.inl (fun _ => 0))))] := hD
  subst hAe
  exact W.vret hx hb hr (fun t ht hW => ⟨⟨(fun i => [q0, q1, q2, q3].getD i 0), rfl, True.intro, by rw [ht]; exact hP, va_K.moved hW.alike hC.2.2.2.1, hD⟩, hS.F ht⟩) hS.2.2 dX6_init_36 hlk
