/-! The class's constructor (by wip/p32/ctorb.py). -/
abbrev sArr (Y : CYs) (qs : Nat) (f : Nat → Option Nat) : Nat × va_E := (qs, .inl (Y.2.2.2, 13, .inr (.inr (.inr (.inr f)))))
def sFin (i : Nat) (f : Nat → Option Nat) (Ss : List (Nat × (Nat → Nat))) : Nat → Option Nat := fun j => if j < i then f j else (Ss[j - i]?).map Prod.fst
def sBlk (Y : CYs) (Ss : List (Nat × (Nat → Nat))) : va_W := Ss.flatMap (fun p => n1_X6 Y p.1 p.2)
theorem sFin_cons {i q : Nat} {u : Nat → Nat} {f : Nat → Option Nat} {Ss : List (Nat × (Nat → Nat))} : sFin (i + 1) (va_up f i (some q)) Ss = sFin i f ((q, u) :: Ss) := by
  funext j
  unfold sFin va_up
  by_cases h : j < i
  · rw [if_pos (show j < i + 1 by omega), if_neg (show ¬ j = i by omega), if_pos h]
  · by_cases h2 : j = i
    · rw [if_pos (show j < i + 1 by omega), if_pos h2, if_neg h, h2, Nat.sub_self]
      rfl
    · rw [if_neg (show ¬ j < i + 1 by omega), if_neg h, show j - i = (j - (i + 1)) + 1 by omega]
      rfl
theorem sFin_nil {i : Nat} {f : Nat → Option Nat} (h : ∀ j, i ≤ j → f j = none) : sFin i f [] = f := by
  funext j
  unfold sFin
  by_cases h2 : j < i
  · rw [if_pos h2]
  · rw [if_neg h2, h j (by omega)]
    rfl
section LB
variable {p : Program} {l : Launch} {e : Env} {R : Room} {s : State} {m : MethodId} {args : Array Value} {below : List Frame} {meth : Method} {c : Code} {Q : State → Prop} {D : va_G} {Y : CYs} {A : Nat → Prop} {h0 qs : Nat} {fs : List Value}
set_option maxHeartbeats 1000000 in
set_option maxRecDepth 100000 in
theorem l_head {i : Nat} {T : va_W} {f : Nat → Option Nat} {H : Heap} {locs : List Loc} {ls : Array Slot} {cells slots : Nat} (hC : Ctx p s m args RX8 D Y) (hb : c.code = cX8_init) (hfs : fs[10]? = some (.ref qs)) (hP : va_P D vwCl ((h0, .inr (10, fs)) :: sArr Y qs f :: T) H) (hl : lv_has ls 2 [(0, .ref h0), (1, .int (nI i))]) (hi : i ≤ 13)
    (k1 : i = 13 → W p l e R s m args below meth c H locs cells slots Q (F0 m 164 ls [])) (k2 : i < 13 → W p l e R s m args below meth c H locs cells slots Q (F0 m 145 ls [])) : W p l e R s m args below meth c H locs cells slots Q (F0 m 136 ls []) := by
  have hx := hC.1
  refine lv_iload_n hx hb dX8_init_136 rfl (lv_at hl 1 rfl) ?_
  refine lv_aload_n hx hb dX8_init_137 rfl (lv_at hl 0 rfl) ?_
  refine n_get hC hb hP inGX8 0 rfl rfl 10 (by decide) hfs (gw_t (tb2 (List.mem_of_getElem? (i := 88) rfl)) rfl) rfl dX8_init_138 ?_
  refine va_alen hx hb hC.2.2.2.1 hP 1 3 rfl rfl (v := 13) rfl dX8_init_141 ?_
  refine lv_icmp_ge (tgt := 164) hx hb dX8_init_142 (by decide) (fun c1 => ?_) (fun c1 => ?_)
  · exact k1 (by
      have h1 := (nI_Lle (a := i) (n := 13) (by omega) (by decide)).mp c1
      have h2 : 13 ≤ i := h1
      omega)
  · exact k2 (by
      have h1 : ¬ 13 ≤ i := fun h => c1 ((nI_Lle (a := i) (n := 13) (by omega) (by decide)).mpr h)
      omega)
set_option maxHeartbeats 1000000 in
set_option maxRecDepth 100000 in
theorem l_body {i : Nat} {T : va_W} {f : Nat → Option Nat} {H : Heap} {locs : List Loc} {ls : Array Slot} {cells slots : Nat} (hC : Ctx p s m args RX8 D Y) (hb : c.code = cX8_init) (hml : c.maxLocals = 2) (hSW : SW A s s.heap) (hA : ∀ q, s.heap.size ≤ q → A q) (hfs : fs[10]? = some (.ref qs)) (hR1 : 2 ≤ R.frames) (hR2 : 32 ≤ R.locals)
    (hP : va_P D vwCl ((h0, .inr (10, fs)) :: sArr Y qs f :: T) H) (hD : va_D A ((h0, .inr (10, fs)) :: sArr Y qs f :: T)) (hS : va_S A s.heap H locs) (hl : lv_has ls 2 [(0, .ref h0), (1, .int (nI i))]) (hi : i < 13) (hc : cells + 5 ≤ R.cells) (hs : slots + 6112 ≤ R.slots)
    (kk : ∀ (q : Nat) (u : Nat → Nat) (H1 : Heap) (locs1 : List Loc), va_P D vwCl ((h0, .inr (10, fs)) :: sArr Y qs f :: (T ++ n1_X6 Y q u)) H1 → va_D A ((h0, .inr (10, fs)) :: sArr Y qs f :: (T ++ n1_X6 Y q u)) → va_S A s.heap H1 locs1 → W p l e R s m args below meth c H1 locs1 (cells + 1 + 4) (slots + 6 + 6106) Q (F0 m 157 ls [.ref q, .int (nI i), .ref qs])) : W p l e R s m args below meth c H locs cells slots Q (F0 m 145 ls []) := by
  have hx := hC.1
  have hR_X6 : rn_X6.frames + 1 ≤ R.frames ∧ 8 + (1 + 11) + rn_X6.locals ≤ R.locals := ⟨by show 1 + 1 ≤ _; omega, by show 8 + (1 + 11) + 12 ≤ _; omega⟩
  refine lv_aload_n hx hb dX8_init_145 rfl (lv_at hl 0 rfl) ?_
  refine n_get hC hb hP inGX8 0 rfl rfl 10 (by decide) hfs (gw_t (tb2 (List.mem_of_getElem? (i := 88) rfl)) rfl) rfl dX8_init_146 ?_
  refine lv_iload_n hx hb dX8_init_149 rfl (lv_at hl 1 rfl) ?_
  refine n_new (ci := 8) (fs := [.null, .int 0, .null, .null, .null, .int 0]) hC hb inGX6 tyX6 tyX6_ok (gw_t (tb2 (List.mem_of_getElem? (i := 43) rfl)) rfl) (gw_t (tb2 (List.mem_of_getElem? (i := 45) rfl)) rfl) (gw_t (tb1 (List.mem_of_getElem? (i := 9) rfl)) rfl) hP hD hS hA rfl (fun j hj => match j, hj with | 0, _ => rfl | 1, _ => rfl | 2, _ => rfl | 3, _ => rfl | 4, _ => rfl | 5, _ => rfl | n + 6, h => absurd h (by omega)) (by omega) (by omega) dX8_init_150 (fun q H hP hD hS => ?_)
  refine lv_dup hx hb dX8_init_153 rfl ?_
  refine n_ctor (As := []) (rest := [.ref q, .int (nI i), .ref qs]) (ws := (h0, .inr (10, fs)) :: sArr Y qs f :: T) hC hb hml hl.1 hSW hP hD hS hA (fun sz => c_X6_init sz) (Or.inr ⟨va_cnB 0 hC.2.1 (gi_law (gw_t (tb2 (List.mem_of_getElem? (i := 48) rfl)) rfl)) rfl rfl rfl (hC.2.2.2.2.1 (Cond.methodLinkNest RX8 77 yX6_init "MarkovBench") (List.mem_of_getElem? (i := 36) rfl)) (hC.2.1 (Cond.initialized RX6) (gw_t (tb1 (List.mem_of_getElem? (i := 9) rfl)) rfl)) (by decide +kernel) hR_X6, rfl, hC.2.1 (Cond.instanceMethod yX6_init) (gw_t (tb2 (List.mem_of_getElem? (i := 47) rfl)) rfl)⟩) rfl rfl (by show 1 + (1 + (1 + 0)) ≤ 8; omega) dX8_init_154 ⟨by omega, by omega⟩ (fun u H locs hP hD hS => ?_)
  exact kk q u H locs hP hD hS
set_option maxHeartbeats 1000000 in
set_option maxRecDepth 100000 in
theorem l_tail {i q : Nat} {u : Nat → Nat} {T : va_W} {f : Nat → Option Nat} {H : Heap} {locs : List Loc} {ls : Array Slot} {cells slots : Nat} (hC : Ctx p s m args RX8 D Y) (hb : c.code = cX8_init) (hi : i < 13)
    (hP : va_P D vwCl ((h0, .inr (10, fs)) :: sArr Y qs f :: (T ++ n1_X6 Y q u)) H) (hD : va_D A ((h0, .inr (10, fs)) :: sArr Y qs f :: (T ++ n1_X6 Y q u))) (hS : va_S A s.heap H locs) (hl : lv_has ls 2 [(0, .ref h0), (1, .int (nI i))])
    (kk : ∀ (H1 : Heap) (locs1 : List Loc) (ls1 : Array Slot), va_P D vwCl ((h0, .inr (10, fs)) :: sArr Y qs (va_up f i (some q)) :: (T ++ n1_X6 Y q u)) H1 → va_D A ((h0, .inr (10, fs)) :: sArr Y qs (va_up f i (some q)) :: (T ++ n1_X6 Y q u)) → va_S A s.heap H1 locs1 → lv_has ls1 2 [(0, .ref h0), (1, .int (nI (i + 1)))] → W p l e R s m args below meth c H1 locs1 cells slots Q (F0 m 136 ls1 [])) : W p l e R s m args below meth c H locs cells slots Q (F0 m 157 ls [.ref q, .int (nI i), .ref qs]) := by
  have hx := hC.1
  have hk : ((h0, .inr (10, fs)) :: sArr Y qs f :: (T ++ n1_X6 Y q u) : va_W)[T.length + 2]? = some (q, .inr (8, [.ref (u 0), .int 0, .ref (u 1), .ref (u 2), .ref (u 3), .int 0])) := by
    show (T ++ n1_X6 Y q u)[T.length]? = _
    rw [List.getElem?_append_right (Nat.le_refl _), Nat.sub_self]
    rfl
  refine va_astq (f := f) (n := 13) (cA := Y.2.2.2) (r := (RX6, TX6, 6)) hx hb hC.2.2.2.1 hP hD hS 1 3 (T.length + 2) 8 rfl rfl hk rfl (i := nI i) (nI_in (by omega) (by decide)) dX8_init_157 (fun H locs hP hD hS => ?_)
  rw [nI_clamp (by omega)] at hP hD
  have hP : va_P D vwCl ((h0, .inr (10, fs)) :: sArr Y qs (va_up f i (some q)) :: (T ++ n1_X6 Y q u)) H := hP
  have hD : va_D A ((h0, .inr (10, fs)) :: sArr Y qs (va_up f i (some q)) :: (T ++ n1_X6 Y q u)) := hD
  refine lv_iinc (v := nI (i + 1)) (lv' := [(1, .int (nI (i + 1))), (0, .ref h0)]) hx hb dX8_init_158 hl (k := 1) rfl (by rw [← nI_1]; rfl) (by decide) rfl (fun ls hl => ?_)
  refine lv_goto (tgt := 136) hx hb dX8_init_161 (by decide) ?_
  exact kk H locs ls hP hD hS (lv_sub hl [1, 0] rfl)
theorem l_loop (hC : Ctx p s m args RX8 D Y) (hb : c.code = cX8_init) (hml : c.maxLocals = 2) (hSW : SW A s s.heap) (hA : ∀ q, s.heap.size ≤ q → A q) (hfs : fs[10]? = some (.ref qs)) (hR1 : 2 ≤ R.frames) (hR2 : 32 ≤ R.locals) : ∀ (r i : Nat) (T : va_W) (f : Nat → Option Nat) (H : Heap) (locs : List Loc) (ls : Array Slot) (cells slots : Nat), i + r = 13 → (∀ j, i ≤ j → f j = none) →
    va_P D vwCl ((h0, .inr (10, fs)) :: sArr Y qs f :: T) H → va_D A ((h0, .inr (10, fs)) :: sArr Y qs f :: T) → va_S A s.heap H locs → lv_has ls 2 [(0, .ref h0), (1, .int (nI i))] → cells + r * 5 ≤ R.cells → slots + r * 6112 ≤ R.slots →
    (∀ (Ss : List (Nat × (Nat → Nat))) (H1 : Heap) (locs1 : List Loc) (ls1 : Array Slot), Ss.length = r → va_P D vwCl ((h0, .inr (10, fs)) :: sArr Y qs (sFin i f Ss) :: (T ++ sBlk Y Ss)) H1 → va_D A ((h0, .inr (10, fs)) :: sArr Y qs (sFin i f Ss) :: (T ++ sBlk Y Ss)) → va_S A s.heap H1 locs1 → lv_has ls1 2 [(0, .ref h0), (1, .int 13)] → W p l e R s m args below meth c H1 locs1 (cells + r * 5) (slots + r * 6112) Q (F0 m 164 ls1 [])) →
    W p l e R s m args below meth c H locs cells slots Q (F0 m 136 ls []) := by
  intro r
  induction r with
  | zero =>
    intro i T f H locs ls cells slots hi hf hP hD hS hl hc hs kk
    refine l_head hC hb hfs hP hl (by omega) (fun h13 => ?_) (fun h13 => absurd h13 (by omega))
    subst h13
    have h1 := kk [] H locs ls rfl (by rw [sFin_nil hf]; unfold sBlk; rw [List.flatMap_nil, List.append_nil]; exact hP) (by rw [sFin_nil hf]; unfold sBlk; rw [List.flatMap_nil, List.append_nil]; exact hD) hS hl
    exact h1
  | succ r ih =>
    intro i T f H locs ls cells slots hi hf hP hD hS hl hc hs kk
    refine l_head hC hb hfs hP hl (by omega) (fun h13 => absurd h13 (by omega)) (fun h13 => ?_)
    refine l_body hC hb hml hSW hA hfs hR1 hR2 hP hD hS hl h13 (by omega) (by omega) (fun q u H locs hP hD hS => ?_)
    refine l_tail hC hb h13 hP hD hS hl (fun H locs ls hP hD hS hl => ?_)
    refine ih (i + 1) _ _ H locs ls _ _ (by omega) (fun j hj => by
      unfold va_up
      rw [if_neg (by omega), hf j (by omega)]) hP hD hS hl (by omega) (by omega) (fun Ss H1 locs1 ls1 h1 hP1 hD1 hS1 hl1 => ?_)
    have e1 : T ++ n1_X6 Y q u ++ sBlk Y Ss = T ++ sBlk Y ((q, u) :: Ss) := by
      unfold sBlk
      rw [List.flatMap_cons, List.append_assoc]
    rw [sFin_cons (u := u), e1] at hP1 hD1
    have h2 := kk ((q, u) :: Ss) H1 locs1 ls1 (by rw [List.length_cons, h1]) hP1 hD1 hS1 hl1
    rw [show cells + (r + 1) * 5 = cells + 1 + 4 + r * 5 by omega, show slots + (r + 1) * 6112 = slots + 6 + 6106 + r * 6112 by omega] at h2
    exact h2
end LB
