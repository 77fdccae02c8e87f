/-! (by wip/p32/fd.py) -/
abbrev rn_L_compile : Room := { frames := 109, cells := 20, slots := 100, locals := 6540 }
set_option maxHeartbeats 4000000 in
set_option maxRecDepth 100000 in
theorem c_L_compile {l : Launch} {D : va_G} {Y : CYs} {E : Nat → Nat} {σ : Sta} {a v0 : Nat} {bs : List Int32} {f0 nn aa bb pp qq bk r3 jp : Nat} {an : Bool} {go : Option Nat} (hsb : SB bs (txt f0 nn an aa bb go pp qq bk r3 jp)) (hN : (txt f0 nn an aa bb go pp qq bk r3 jp).length ≤ 400) (h1 : gI σ 1 = 0) (hn : nn < 22) (hf : f0 ≤ nn) (ha : aa < 100) (hbb : bb < 100) (hg : ∀ g, go = some g → g < 100) (p1 : 1 ≤ pp) (q1 : 1 ≤ qq) (r1 : 1 ≤ r3) (h4 : pp + qq + r3 = 100) (hbk : bk < 6) (hjp : jp < 22) (sz : Nat) : Met l yL_compile (Cond.code yL_compile cL_compile 2 (some .int) :: gW) rn_L_compile (PcE (STA (txt f0 nn an aa bb go pp qq bk r3 jp).length bs a v0) (wd Y E σ 0 LC) Y D sz [.ref (E 0), .ref a]) (GI (S := Sta) (fun r u => r = 0 ∧ ∃ w, AWok w ∧ AC w u ∧ 0 < aNs w ∧ aNs w ≤ 88 ∧ aNg w = 3 ∧ gI u 11 = 0 ∧ Kp cpI n0 cpA cpA σ u) (fun u => wd Y E u 0 LC) Y D (va_A (wd Y E σ 0 LC) sz)) 20 100 (va_A (wd Y E σ 0 LC) sz) := by
  refine Met_ofE (Qc := GI (S := Sta) (fun r u => r = 0 ∧ ∃ w, AWok w ∧ AC w u ∧ 0 < aNs w ∧ aNs w ≤ 88 ∧ aNg w = 3 ∧ gI u 11 = 0 ∧ Kp cpI n0 cpA cpA σ u) (fun u => wd Y E u 0 LC) Y D) (by decide) (Nat.le_of_ble_eq_true rfl) (fun p e s m args below meth c A hF hX hin hP hD hS ls hl => ?_) sz
  obtain ⟨hC, hb, hml, hr, hlk, hSW, hA⟩ := id hF
  have hx := hC.1
  have hl : lv_has ls 2 [(0, .ref (E 0)), (1, .ref a)] := hl
  refine lv_aload_n hx hb dL_compile_0 rfl (lv_at hl 0 rfl) ?_
  refine lv_aload_n hx hb dL_compile_1 rfl (lv_at hl 1 rfl) ?_
  refine g_v (Rs := []) (C0 := wd Y E σ 0 LC) (As := [.ref (E 0), .ref a]) hF hP hD hS STA_ok (X_at (Rs := []) (C0 := wd Y E σ 0 LC) STA_ok hF hX hD hS) (rS (As := [.ref (E 0), .ref a]) (rest := []) hF hl (c_L_feed hsb rfl hN h1 _) ⟨callB_of 2 hC.2.1 (gi_law (gw_t (tb5 (List.mem_of_getElem? (i := 18) rfl)) rfl)) rfl rfl rfl (hC.2.1 (Cond.initialized RL) (gw_t (tb1 (List.mem_of_getElem? (i := 0) rfl)) rfl)) (hC.2.1 (Cond.methodLink RL 29 yL_feed) (gw_t (tb5 (List.mem_of_getElem? (i := 16) rfl)) rfl)) ⟨by decide +kernel, by decide +kernel, by decide +kernel⟩ ⟨(Nat.le_of_ble_eq_true rfl), (Nat.le_of_ble_eq_true rfl)⟩, hC.2.1 (Cond.static yL_feed) (gw_t (tb5 (List.mem_of_getElem? (i := 17) rfl)) rfl)⟩ rfl rfl (Nat.le_of_ble_eq_true rfl) dL_compile_2 ⟨(Nat.le_of_ble_eq_true rfl), (Nat.le_of_ble_eq_true rfl)⟩) (fun τ H locs hp hP hD hS => ?_)
  have hp : FE _ _ σ τ := hp
  obtain ⟨t1, t2, t3, t4⟩ := hp
  obtain ⟨σ2, w, g1, g2, g3, g4, g5, g6, g7, g8⟩ := e_compile (Nat.le_trans hN (by decide)) t1 t3 t2 hn hf ha hbb hg p1 q1 r1 h4 hbk hjp
  have hP : va_P D vwCl (wd Y E τ 0 LC) H := hP
  have hD : va_D A (wd Y E τ 0 LC) := hD
  refine lv_aload_n hx hb dL_compile_5 rfl (lv_at hl 0 rfl) ?_
  refine g_i (Rs := []) (C0 := wd Y E τ 0 LC) (As := [.ref (E 0)]) hF hP hD hS XN_ok trivial (rV (As := []) (rest := []) hF hl (MI_E (c_X8_compile g1) _) (cwV 0 hC.2.1 (gi_V (gw_t (tb5 (List.mem_of_getElem? (i := 57) rfl)) rfl) (gw_t (tb5 (List.mem_of_getElem? (i := 58) rfl)) rfl) (gw_t (tb5 (List.mem_of_getElem? (i := 59) rfl)) rfl) (gw_t (tb1 (List.mem_of_getElem? (i := 1) rfl)) rfl) (gw_t (tb5 (List.mem_of_getElem? (i := 60) rfl)) rfl)) rfl rfl rfl ⟨rfl, by decide +kernel, by decide +kernel, by decide +kernel⟩ ⟨(Nat.le_of_ble_eq_true rfl), (Nat.le_of_ble_eq_true rfl)⟩) (va_recv hC.2.2.2.1 (ci := 10) (q0 := 0) (tl_P (Rs := []) (C0 := wd Y E τ 0 LC) hP) rfl (wd_at lc_0)) rfl rfl (Nat.le_of_ble_eq_true rfl) dL_compile_6 ⟨(Nat.le_of_ble_eq_true rfl), (Nat.le_of_ble_eq_true rfl)⟩) (fun r0 u H locs hp hP hD hS => ?_)
  obtain ⟨hp1, hp2⟩ := hp
  have hp1 : r0 = 0 := hp1
  have hp2 : u = σ2 := hp2
  subst hp2
  subst hp1
  have hP : va_P D vwCl (wd Y E u 0 LC) H := hP
  have hD : va_D A (wd Y E u 0 LC) := hD
  have hK : Kp cpI n0 cpA cpA σ u := (t4.mono (fun k e => by unfold fdI at e; unfold cpI; omega) (fun _ e => e) (fun k e => by unfold fdA at e; unfold cpA; omega) (fun _ e => e.elim)).trans g8
  exact g_iret u hF rfl ⟨rfl, w, g2, g3, g4, g5, g6, g7, hK⟩ hP hD hS dL_compile_9 (Nat.le_of_ble_eq_true rfl) (Nat.le_of_ble_eq_true rfl)
