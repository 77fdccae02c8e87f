/-! The law's last loops (by wip/p32/lawwalk.py). -/
def f_LB2_650 (v3 : Int32) (k555 : Int32 → Sta → Option (Unit × Sta)) (k567 : Int32 → Int32 → Int32 → Sta → Option (Unit × Sta)) (k582 : Int32 → Int32 → Int32 → Int32 → Int32 → Int32 → Sta → Option (Unit × Sta)) (v4 : Int32) (v5 : Int32) (v6 : Int32) (v7 : Int32) (v9 : Int32) (s0 : Int32) (σ : Sta) : Option (Unit × Sta) :=
  lt (v9 + 1) (fun x1 =>
  k582 v4 v5 v6 v7 s0 x1 σ)
set_option maxHeartbeats 4000000 in
set_option maxRecDepth 100000 in
theorem t_LB2_650 {l : Launch} {D : va_G} {Y : CYs} {E : Nat → Nat} {p : Program} {e : Env} {s : State} {m : MethodId} {args : Array Value} {below : List Frame} {meth : Method} {c : Code} {v3 : Int32} {cells slots : Nat} {Q : State → Prop} {A : Nat → Prop} {Rs : va_W} (hF : LFr p s m args c D Y E Rs A) (hcs : cells ≤ room_1.cells ∧ slots ≤ room_1.slots) {o : Unit × Sta} (kr : ∀ (H : Heap) (locs : List Loc) (ls : Array Slot), va_P D vwCl (Rs ++ wd Y E o.2 0 LC) H → va_S A s.heap H locs → W p l e room_1 s m args below meth c H locs cells slots Q (F0 m 719 ls [.int 1])) (k555 : Int32 → Sta → Option (Unit × Sta)) (k567 : Int32 → Int32 → Int32 → Sta → Option (Unit × Sta)) (k582 : Int32 → Int32 → Int32 → Int32 → Int32 → Int32 → Sta → Option (Unit × Sta)) (hk555 : ∀ (v4 : Int32) (σ : Sta) (H : Heap) (locs : List Loc) (ls : Array Slot), k555 v4 σ = some o → va_P D vwCl (Rs ++ wd Y E σ 0 LC) H → va_S A s.heap H locs → lv_has ls 18 [(1, .ref (E 0)), (4, .int v4)] → W p l e room_1 s m args below meth c H locs cells slots Q (F0 m 555 ls [])) (hk567 : ∀ (v4 : Int32) (v5 : Int32) (v6 : Int32) (σ : Sta) (H : Heap) (locs : List Loc) (ls : Array Slot), k567 v4 v5 v6 σ = some o → va_P D vwCl (Rs ++ wd Y E σ 0 LC) H → va_S A s.heap H locs → lv_has ls 18 [(1, .ref (E 0)), (4, .int v4), (5, .int v5), (6, .int v6)] → W p l e room_1 s m args below meth c H locs cells slots Q (F0 m 567 ls [])) (hk582 : ∀ (v4 : Int32) (v5 : Int32) (v6 : Int32) (v7 : Int32) (v8 : Int32) (v9 : Int32) (σ : Sta) (H : Heap) (locs : List Loc) (ls : Array Slot), k582 v4 v5 v6 v7 v8 v9 σ = some o → va_P D vwCl (Rs ++ wd Y E σ 0 LC) H → va_S A s.heap H locs → lv_has ls 18 [(1, .ref (E 0)), (4, .int v4), (5, .int v5), (6, .int v6), (7, .int v7), (8, .int v8), (9, .int v9)] → W p l e room_1 s m args below meth c H locs cells slots Q (F0 m 582 ls [])) : ∀ (v4 : Int32) (v5 : Int32) (v6 : Int32) (v7 : Int32) (v9 : Int32) (s0 : Int32) (σ : Sta) (H : Heap) (locs : List Loc) (ls : Array Slot), f_LB2_650 v3 k555 k567 k582 v4 v5 v6 v7 v9 s0 σ = some o → va_P D vwCl (Rs ++ wd Y E σ 0 LC) H → va_S A s.heap H locs → lv_has ls 18 [(1, .ref (E 0)), (4, .int v4), (5, .int v5), (6, .int v6), (7, .int v7), (9, .int v9)] → W p l e room_1 s m args below meth c H locs cells slots Q (F0 m 650 ls [.int s0]) := by
  intro v4 v5 v6 v7 v9 s0 σ H locs ls h hP hS hl
  unfold f_LB2_650 at h
  obtain ⟨hC, hb, hml, hD, hSW, hA⟩ := id hF
  have hx := hC.1
  refine lv_istore (lv' := [(8, .int s0), (1, .ref (E 0)), (4, .int v4), (5, .int v5), (6, .int v6), (7, .int v7), (9, .int v9)]) hx hb dL_law_650 hl (by decide) rfl (fun ls hl => ?_)
  obtain ⟨x1, ex1⟩ : ∃ y : Int32, y = v9 + 1 := ⟨_, rfl⟩
  have h := of_lt h ex1
  refine lv_iinc (v := x1) (lv' := [(9, .int x1), (8, .int s0), (1, .ref (E 0)), (4, .int v4), (5, .int v5), (6, .int v6), (7, .int v7)]) hx hb dL_law_652 hl (k := 6) rfl (by rw [ex1]; rfl) (by decide) rfl (fun ls hl => ?_)
  refine lv_goto (tgt := 582) hx hb dL_law_655 (by decide) ?_
  exact hk582 v4 v5 v6 v7 s0 x1 σ _ _ _ h hP hS (lv_sub hl [2, 3, 4, 5, 6, 1, 0] rfl)

def f_LB2_645 (v3 : Int32) (k555 : Int32 → Sta → Option (Unit × Sta)) (k567 : Int32 → Int32 → Int32 → Sta → Option (Unit × Sta)) (k582 : Int32 → Int32 → Int32 → Int32 → Int32 → Int32 → Sta → Option (Unit × Sta)) (v4 : Int32) (v5 : Int32) (v6 : Int32) (v7 : Int32) (v9 : Int32) (σ : Sta) : Option (Unit × Sta) :=
  f_LB2_650 v3 k555 k567 k582 v4 v5 v6 v7 v9 1 σ
set_option maxHeartbeats 4000000 in
set_option maxRecDepth 100000 in
theorem t_LB2_645 {l : Launch} {D : va_G} {Y : CYs} {E : Nat → Nat} {p : Program} {e : Env} {s : State} {m : MethodId} {args : Array Value} {below : List Frame} {meth : Method} {c : Code} {v3 : Int32} {cells slots : Nat} {Q : State → Prop} {A : Nat → Prop} {Rs : va_W} (hF : LFr p s m args c D Y E Rs A) (hcs : cells ≤ room_1.cells ∧ slots ≤ room_1.slots) {o : Unit × Sta} (kr : ∀ (H : Heap) (locs : List Loc) (ls : Array Slot), va_P D vwCl (Rs ++ wd Y E o.2 0 LC) H → va_S A s.heap H locs → W p l e room_1 s m args below meth c H locs cells slots Q (F0 m 719 ls [.int 1])) (k555 : Int32 → Sta → Option (Unit × Sta)) (k567 : Int32 → Int32 → Int32 → Sta → Option (Unit × Sta)) (k582 : Int32 → Int32 → Int32 → Int32 → Int32 → Int32 → Sta → Option (Unit × Sta)) (hk555 : ∀ (v4 : Int32) (σ : Sta) (H : Heap) (locs : List Loc) (ls : Array Slot), k555 v4 σ = some o → va_P D vwCl (Rs ++ wd Y E σ 0 LC) H → va_S A s.heap H locs → lv_has ls 18 [(1, .ref (E 0)), (4, .int v4)] → W p l e room_1 s m args below meth c H locs cells slots Q (F0 m 555 ls [])) (hk567 : ∀ (v4 : Int32) (v5 : Int32) (v6 : Int32) (σ : Sta) (H : Heap) (locs : List Loc) (ls : Array Slot), k567 v4 v5 v6 σ = some o → va_P D vwCl (Rs ++ wd Y E σ 0 LC) H → va_S A s.heap H locs → lv_has ls 18 [(1, .ref (E 0)), (4, .int v4), (5, .int v5), (6, .int v6)] → W p l e room_1 s m args below meth c H locs cells slots Q (F0 m 567 ls [])) (hk582 : ∀ (v4 : Int32) (v5 : Int32) (v6 : Int32) (v7 : Int32) (v8 : Int32) (v9 : Int32) (σ : Sta) (H : Heap) (locs : List Loc) (ls : Array Slot), k582 v4 v5 v6 v7 v8 v9 σ = some o → va_P D vwCl (Rs ++ wd Y E σ 0 LC) H → va_S A s.heap H locs → lv_has ls 18 [(1, .ref (E 0)), (4, .int v4), (5, .int v5), (6, .int v6), (7, .int v7), (8, .int v8), (9, .int v9)] → W p l e room_1 s m args below meth c H locs cells slots Q (F0 m 582 ls [])) : ∀ (v4 : Int32) (v5 : Int32) (v6 : Int32) (v7 : Int32) (v9 : Int32) (σ : Sta) (H : Heap) (locs : List Loc) (ls : Array Slot), f_LB2_645 v3 k555 k567 k582 v4 v5 v6 v7 v9 σ = some o → va_P D vwCl (Rs ++ wd Y E σ 0 LC) H → va_S A s.heap H locs → lv_has ls 18 [(1, .ref (E 0)), (4, .int v4), (5, .int v5), (6, .int v6), (7, .int v7), (9, .int v9)] → W p l e room_1 s m args below meth c H locs cells slots Q (F0 m 645 ls []) := by
  intro v4 v5 v6 v7 v9 σ H locs ls h hP hS hl
  unfold f_LB2_645 at h
  obtain ⟨hC, hb, hml, hD, hSW, hA⟩ := id hF
  have hx := hC.1
  refine lv_iconst (v := 1) hx hb dL_law_645 (by decide) ?_
  refine lv_goto (tgt := 650) hx hb dL_law_646 (by decide) ?_
  exact t_LB2_650 hF hcs kr k555 k567 k582 hk555 hk567 hk582 v4 v5 v6 v7 v9 1 σ _ _ _ h hP hS (lv_sub hl [0, 1, 2, 3, 4, 5] rfl)

def f_LB2_618 (v3 : Int32) (k555 : Int32 → Sta → Option (Unit × Sta)) (k567 : Int32 → Int32 → Int32 → Sta → Option (Unit × Sta)) (k582 : Int32 → Int32 → Int32 → Int32 → Int32 → Int32 → Sta → Option (Unit × Sta)) (v4 : Int32) (v5 : Int32) (v6 : Int32) (v8 : Int32) (v9 : Int32) (s0 : Int32) (σ : Sta) : Option (Unit × Sta) :=
  if v8 = 0 then
    bnd (f_X8_brings v6 v9 σ) (fun r2 σ3 =>
    bnd (f_X8_brings v4 v9 σ3) (fun r5 σ6 =>
    if lg_cmp r2 r5 ≤ 0 then
      f_LB2_650 v3 k555 k567 k582 v4 v5 v6 s0 v9 0 σ6
    else
      f_LB2_645 v3 k555 k567 k582 v4 v5 v6 s0 v9 σ6))
  else
    f_LB2_645 v3 k555 k567 k582 v4 v5 v6 s0 v9 σ
set_option maxHeartbeats 4000000 in
set_option maxRecDepth 100000 in
theorem t_LB2_618 {l : Launch} {D : va_G} {Y : CYs} {E : Nat → Nat} {p : Program} {e : Env} {s : State} {m : MethodId} {args : Array Value} {below : List Frame} {meth : Method} {c : Code} {v3 : Int32} {cells slots : Nat} {Q : State → Prop} {A : Nat → Prop} {Rs : va_W} (hF : LFr p s m args c D Y E Rs A) (hcs : cells ≤ room_1.cells ∧ slots ≤ room_1.slots) {o : Unit × Sta} (kr : ∀ (H : Heap) (locs : List Loc) (ls : Array Slot), va_P D vwCl (Rs ++ wd Y E o.2 0 LC) H → va_S A s.heap H locs → W p l e room_1 s m args below meth c H locs cells slots Q (F0 m 719 ls [.int 1])) (k555 : Int32 → Sta → Option (Unit × Sta)) (k567 : Int32 → Int32 → Int32 → Sta → Option (Unit × Sta)) (k582 : Int32 → Int32 → Int32 → Int32 → Int32 → Int32 → Sta → Option (Unit × Sta)) (hk555 : ∀ (v4 : Int32) (σ : Sta) (H : Heap) (locs : List Loc) (ls : Array Slot), k555 v4 σ = some o → va_P D vwCl (Rs ++ wd Y E σ 0 LC) H → va_S A s.heap H locs → lv_has ls 18 [(1, .ref (E 0)), (4, .int v4)] → W p l e room_1 s m args below meth c H locs cells slots Q (F0 m 555 ls [])) (hk567 : ∀ (v4 : Int32) (v5 : Int32) (v6 : Int32) (σ : Sta) (H : Heap) (locs : List Loc) (ls : Array Slot), k567 v4 v5 v6 σ = some o → va_P D vwCl (Rs ++ wd Y E σ 0 LC) H → va_S A s.heap H locs → lv_has ls 18 [(1, .ref (E 0)), (4, .int v4), (5, .int v5), (6, .int v6)] → W p l e room_1 s m args below meth c H locs cells slots Q (F0 m 567 ls [])) (hk582 : ∀ (v4 : Int32) (v5 : Int32) (v6 : Int32) (v7 : Int32) (v8 : Int32) (v9 : Int32) (σ : Sta) (H : Heap) (locs : List Loc) (ls : Array Slot), k582 v4 v5 v6 v7 v8 v9 σ = some o → va_P D vwCl (Rs ++ wd Y E σ 0 LC) H → va_S A s.heap H locs → lv_has ls 18 [(1, .ref (E 0)), (4, .int v4), (5, .int v5), (6, .int v6), (7, .int v7), (8, .int v8), (9, .int v9)] → W p l e room_1 s m args below meth c H locs cells slots Q (F0 m 582 ls [])) : ∀ (v4 : Int32) (v5 : Int32) (v6 : Int32) (v8 : Int32) (v9 : Int32) (s0 : Int32) (σ : Sta) (H : Heap) (locs : List Loc) (ls : Array Slot), f_LB2_618 v3 k555 k567 k582 v4 v5 v6 v8 v9 s0 σ = some o → va_P D vwCl (Rs ++ wd Y E σ 0 LC) H → va_S A s.heap H locs → lv_has ls 18 [(1, .ref (E 0)), (4, .int v4), (5, .int v5), (6, .int v6), (8, .int v8), (9, .int v9)] → W p l e room_1 s m args below meth c H locs cells slots Q (F0 m 618 ls [.int s0]) := by
  intro v4 v5 v6 v8 v9 s0 σ H locs ls h hP hS hl
  unfold f_LB2_618 at h
  obtain ⟨hC, hb, hml, hD, hSW, hA⟩ := id hF
  have hx := hC.1
  refine lv_istore (lv' := [(7, .int s0), (1, .ref (E 0)), (4, .int v4), (5, .int v5), (6, .int v6), (8, .int v8), (9, .int v9)]) hx hb dL_law_618 hl (by decide) rfl (fun ls hl => ?_)
  refine lv_iload hx hb dL_law_620 (lv_at hl 5 rfl) ?_
  refine lv_if_ne (tgt := 645) hx hb dL_law_622 (by decide) (fun c1 => ?_) (fun c1 => ?_)
  · have h := of_f h c1
    exact t_LB2_645 hF hcs kr k555 k567 k582 hk555 hk567 hk582 v4 v5 v6 s0 v9 σ _ _ _ h hP hS (lv_sub hl [1, 2, 3, 4, 0, 6] rfl)
  · have h := of_t h c1
    refine lv_aload_n hx hb dL_law_625 rfl (lv_at hl 1 rfl) ?_
    refine lv_iload hx hb dL_law_626 (lv_at hl 4 rfl) ?_
    refine lv_iload hx hb dL_law_628 (lv_at hl 6 rfl) ?_
    obtain ⟨r2, σ3, g4, h⟩ := of_bnd h
    refine y_VL (As := [.int v6, .int v9]) (rest := []) hF hl hP hS (c_X8_brings g4) (cw_L_104 hC rfl rfl ⟨Nat.le_of_ble_eq_true rfl, Nat.le_of_ble_eq_true rfl⟩) lc_0 rfl rfl rfl (Nat.le_of_ble_eq_true rfl) dL_law_630 hcs (fun H locs hP hS => ?_)
    refine lv_aload_n hx hb dL_law_633 rfl (lv_at hl 1 rfl) ?_
    refine lv_iload hx hb dL_law_634 (lv_at hl 2 rfl) ?_
    refine lv_iload hx hb dL_law_636 (lv_at hl 6 rfl) ?_
    obtain ⟨r5, σ6, g7, h⟩ := of_bnd h
    refine y_VL (As := [.int v4, .int v9]) (rest := [.long r2]) hF hl hP hS (c_X8_brings g7) (cw_L_104 hC rfl rfl ⟨Nat.le_of_ble_eq_true rfl, Nat.le_of_ble_eq_true rfl⟩) lc_0 rfl rfl rfl (Nat.le_of_ble_eq_true rfl) dL_law_638 hcs (fun H locs hP hS => ?_)
    refine W.lcmp hx hb dL_law_641 ?_
    refine lv_if_le (tgt := 649) hx hb dL_law_642 (by decide) (fun c8 => ?_) (fun c8 => ?_)
    · have h := of_t h c8
      refine lv_iconst (v := 0) hx hb dL_law_649 (by decide) ?_
      exact t_LB2_650 hF hcs kr k555 k567 k582 hk555 hk567 hk582 v4 v5 v6 s0 v9 0 σ6 _ _ _ h hP hS (lv_sub hl [1, 2, 3, 4, 0, 6] rfl)
    · have h := of_f h c8
      exact t_LB2_645 hF hcs kr k555 k567 k582 hk555 hk567 hk582 v4 v5 v6 s0 v9 σ6 _ _ _ h hP hS (lv_sub hl [1, 2, 3, 4, 0, 6] rfl)

def f_LB2_613 (v3 : Int32) (k555 : Int32 → Sta → Option (Unit × Sta)) (k567 : Int32 → Int32 → Int32 → Sta → Option (Unit × Sta)) (k582 : Int32 → Int32 → Int32 → Int32 → Int32 → Int32 → Sta → Option (Unit × Sta)) (v4 : Int32) (v5 : Int32) (v6 : Int32) (v8 : Int32) (v9 : Int32) (σ : Sta) : Option (Unit × Sta) :=
  f_LB2_618 v3 k555 k567 k582 v4 v5 v6 v8 v9 1 σ
set_option maxHeartbeats 4000000 in
set_option maxRecDepth 100000 in
theorem t_LB2_613 {l : Launch} {D : va_G} {Y : CYs} {E : Nat → Nat} {p : Program} {e : Env} {s : State} {m : MethodId} {args : Array Value} {below : List Frame} {meth : Method} {c : Code} {v3 : Int32} {cells slots : Nat} {Q : State → Prop} {A : Nat → Prop} {Rs : va_W} (hF : LFr p s m args c D Y E Rs A) (hcs : cells ≤ room_1.cells ∧ slots ≤ room_1.slots) {o : Unit × Sta} (kr : ∀ (H : Heap) (locs : List Loc) (ls : Array Slot), va_P D vwCl (Rs ++ wd Y E o.2 0 LC) H → va_S A s.heap H locs → W p l e room_1 s m args below meth c H locs cells slots Q (F0 m 719 ls [.int 1])) (k555 : Int32 → Sta → Option (Unit × Sta)) (k567 : Int32 → Int32 → Int32 → Sta → Option (Unit × Sta)) (k582 : Int32 → Int32 → Int32 → Int32 → Int32 → Int32 → Sta → Option (Unit × Sta)) (hk555 : ∀ (v4 : Int32) (σ : Sta) (H : Heap) (locs : List Loc) (ls : Array Slot), k555 v4 σ = some o → va_P D vwCl (Rs ++ wd Y E σ 0 LC) H → va_S A s.heap H locs → lv_has ls 18 [(1, .ref (E 0)), (4, .int v4)] → W p l e room_1 s m args below meth c H locs cells slots Q (F0 m 555 ls [])) (hk567 : ∀ (v4 : Int32) (v5 : Int32) (v6 : Int32) (σ : Sta) (H : Heap) (locs : List Loc) (ls : Array Slot), k567 v4 v5 v6 σ = some o → va_P D vwCl (Rs ++ wd Y E σ 0 LC) H → va_S A s.heap H locs → lv_has ls 18 [(1, .ref (E 0)), (4, .int v4), (5, .int v5), (6, .int v6)] → W p l e room_1 s m args below meth c H locs cells slots Q (F0 m 567 ls [])) (hk582 : ∀ (v4 : Int32) (v5 : Int32) (v6 : Int32) (v7 : Int32) (v8 : Int32) (v9 : Int32) (σ : Sta) (H : Heap) (locs : List Loc) (ls : Array Slot), k582 v4 v5 v6 v7 v8 v9 σ = some o → va_P D vwCl (Rs ++ wd Y E σ 0 LC) H → va_S A s.heap H locs → lv_has ls 18 [(1, .ref (E 0)), (4, .int v4), (5, .int v5), (6, .int v6), (7, .int v7), (8, .int v8), (9, .int v9)] → W p l e room_1 s m args below meth c H locs cells slots Q (F0 m 582 ls [])) : ∀ (v4 : Int32) (v5 : Int32) (v6 : Int32) (v8 : Int32) (v9 : Int32) (σ : Sta) (H : Heap) (locs : List Loc) (ls : Array Slot), f_LB2_613 v3 k555 k567 k582 v4 v5 v6 v8 v9 σ = some o → va_P D vwCl (Rs ++ wd Y E σ 0 LC) H → va_S A s.heap H locs → lv_has ls 18 [(1, .ref (E 0)), (4, .int v4), (5, .int v5), (6, .int v6), (8, .int v8), (9, .int v9)] → W p l e room_1 s m args below meth c H locs cells slots Q (F0 m 613 ls []) := by
  intro v4 v5 v6 v8 v9 σ H locs ls h hP hS hl
  unfold f_LB2_613 at h
  obtain ⟨hC, hb, hml, hD, hSW, hA⟩ := id hF
  have hx := hC.1
  refine lv_iconst (v := 1) hx hb dL_law_613 (by decide) ?_
  refine lv_goto (tgt := 618) hx hb dL_law_614 (by decide) ?_
  exact t_LB2_618 hF hcs kr k555 k567 k582 hk555 hk567 hk582 v4 v5 v6 v8 v9 1 σ _ _ _ h hP hS (lv_sub hl [0, 1, 2, 3, 4, 5] rfl)

def f_LB2_678 (v3 : Int32) (k555 : Int32 → Sta → Option (Unit × Sta)) (k567 : Int32 → Int32 → Int32 → Sta → Option (Unit × Sta)) (v4 : Int32) (v6 : Int32) (s0 : Int32) (σ : Sta) : Option (Unit × Sta) :=
  lt (v6 + 1) (fun x1 =>
  k567 v4 s0 x1 σ)
set_option maxHeartbeats 4000000 in
set_option maxRecDepth 100000 in
theorem t_LB2_678 {l : Launch} {D : va_G} {Y : CYs} {E : Nat → Nat} {p : Program} {e : Env} {s : State} {m : MethodId} {args : Array Value} {below : List Frame} {meth : Method} {c : Code} {v3 : Int32} {cells slots : Nat} {Q : State → Prop} {A : Nat → Prop} {Rs : va_W} (hF : LFr p s m args c D Y E Rs A) (hcs : cells ≤ room_1.cells ∧ slots ≤ room_1.slots) {o : Unit × Sta} (kr : ∀ (H : Heap) (locs : List Loc) (ls : Array Slot), va_P D vwCl (Rs ++ wd Y E o.2 0 LC) H → va_S A s.heap H locs → W p l e room_1 s m args below meth c H locs cells slots Q (F0 m 719 ls [.int 1])) (k555 : Int32 → Sta → Option (Unit × Sta)) (k567 : Int32 → Int32 → Int32 → Sta → Option (Unit × Sta)) (hk555 : ∀ (v4 : Int32) (σ : Sta) (H : Heap) (locs : List Loc) (ls : Array Slot), k555 v4 σ = some o → va_P D vwCl (Rs ++ wd Y E σ 0 LC) H → va_S A s.heap H locs → lv_has ls 18 [(1, .ref (E 0)), (4, .int v4)] → W p l e room_1 s m args below meth c H locs cells slots Q (F0 m 555 ls [])) (hk567 : ∀ (v4 : Int32) (v5 : Int32) (v6 : Int32) (σ : Sta) (H : Heap) (locs : List Loc) (ls : Array Slot), k567 v4 v5 v6 σ = some o → va_P D vwCl (Rs ++ wd Y E σ 0 LC) H → va_S A s.heap H locs → lv_has ls 18 [(1, .ref (E 0)), (4, .int v4), (5, .int v5), (6, .int v6)] → W p l e room_1 s m args below meth c H locs cells slots Q (F0 m 567 ls [])) : ∀ (v4 : Int32) (v6 : Int32) (s0 : Int32) (σ : Sta) (H : Heap) (locs : List Loc) (ls : Array Slot), f_LB2_678 v3 k555 k567 v4 v6 s0 σ = some o → va_P D vwCl (Rs ++ wd Y E σ 0 LC) H → va_S A s.heap H locs → lv_has ls 18 [(1, .ref (E 0)), (4, .int v4), (6, .int v6)] → W p l e room_1 s m args below meth c H locs cells slots Q (F0 m 678 ls [.int s0]) := by
  intro v4 v6 s0 σ H locs ls h hP hS hl
  unfold f_LB2_678 at h
  obtain ⟨hC, hb, hml, hD, hSW, hA⟩ := id hF
  have hx := hC.1
  refine lv_istore (lv' := [(5, .int s0), (1, .ref (E 0)), (4, .int v4), (6, .int v6)]) hx hb dL_law_678 hl (by decide) rfl (fun ls hl => ?_)
  obtain ⟨x1, ex1⟩ : ∃ y : Int32, y = v6 + 1 := ⟨_, rfl⟩
  have h := of_lt h ex1
  refine lv_iinc (v := x1) (lv' := [(6, .int x1), (5, .int s0), (1, .ref (E 0)), (4, .int v4)]) hx hb dL_law_680 hl (k := 3) rfl (by rw [ex1]; rfl) (by decide) rfl (fun ls hl => ?_)
  refine lv_goto (tgt := 567) hx hb dL_law_683 (by decide) ?_
  exact hk567 v4 s0 x1 σ _ _ _ h hP hS (lv_sub hl [2, 3, 1, 0] rfl)

def f_LB2_673 (v3 : Int32) (k555 : Int32 → Sta → Option (Unit × Sta)) (k567 : Int32 → Int32 → Int32 → Sta → Option (Unit × Sta)) (v4 : Int32) (v6 : Int32) (σ : Sta) : Option (Unit × Sta) :=
  f_LB2_678 v3 k555 k567 v4 v6 1 σ
set_option maxHeartbeats 4000000 in
set_option maxRecDepth 100000 in
theorem t_LB2_673 {l : Launch} {D : va_G} {Y : CYs} {E : Nat → Nat} {p : Program} {e : Env} {s : State} {m : MethodId} {args : Array Value} {below : List Frame} {meth : Method} {c : Code} {v3 : Int32} {cells slots : Nat} {Q : State → Prop} {A : Nat → Prop} {Rs : va_W} (hF : LFr p s m args c D Y E Rs A) (hcs : cells ≤ room_1.cells ∧ slots ≤ room_1.slots) {o : Unit × Sta} (kr : ∀ (H : Heap) (locs : List Loc) (ls : Array Slot), va_P D vwCl (Rs ++ wd Y E o.2 0 LC) H → va_S A s.heap H locs → W p l e room_1 s m args below meth c H locs cells slots Q (F0 m 719 ls [.int 1])) (k555 : Int32 → Sta → Option (Unit × Sta)) (k567 : Int32 → Int32 → Int32 → Sta → Option (Unit × Sta)) (hk555 : ∀ (v4 : Int32) (σ : Sta) (H : Heap) (locs : List Loc) (ls : Array Slot), k555 v4 σ = some o → va_P D vwCl (Rs ++ wd Y E σ 0 LC) H → va_S A s.heap H locs → lv_has ls 18 [(1, .ref (E 0)), (4, .int v4)] → W p l e room_1 s m args below meth c H locs cells slots Q (F0 m 555 ls [])) (hk567 : ∀ (v4 : Int32) (v5 : Int32) (v6 : Int32) (σ : Sta) (H : Heap) (locs : List Loc) (ls : Array Slot), k567 v4 v5 v6 σ = some o → va_P D vwCl (Rs ++ wd Y E σ 0 LC) H → va_S A s.heap H locs → lv_has ls 18 [(1, .ref (E 0)), (4, .int v4), (5, .int v5), (6, .int v6)] → W p l e room_1 s m args below meth c H locs cells slots Q (F0 m 567 ls [])) : ∀ (v4 : Int32) (v6 : Int32) (σ : Sta) (H : Heap) (locs : List Loc) (ls : Array Slot), f_LB2_673 v3 k555 k567 v4 v6 σ = some o → va_P D vwCl (Rs ++ wd Y E σ 0 LC) H → va_S A s.heap H locs → lv_has ls 18 [(1, .ref (E 0)), (4, .int v4), (6, .int v6)] → W p l e room_1 s m args below meth c H locs cells slots Q (F0 m 673 ls []) := by
  intro v4 v6 σ H locs ls h hP hS hl
  unfold f_LB2_673 at h
  obtain ⟨hC, hb, hml, hD, hSW, hA⟩ := id hF
  have hx := hC.1
  refine lv_iconst (v := 1) hx hb dL_law_673 (by decide) ?_
  refine lv_goto (tgt := 678) hx hb dL_law_674 (by decide) ?_
  exact t_LB2_678 hF hcs kr k555 k567 hk555 hk567 v4 v6 1 σ _ _ _ h hP hS (lv_sub hl [0, 1, 2] rfl)

def f_LB2_677 (v3 : Int32) (k555 : Int32 → Sta → Option (Unit × Sta)) (k567 : Int32 → Int32 → Int32 → Sta → Option (Unit × Sta)) (v4 : Int32) (v6 : Int32) (σ : Sta) : Option (Unit × Sta) :=
  f_LB2_678 v3 k555 k567 v4 v6 0 σ
set_option maxHeartbeats 4000000 in
set_option maxRecDepth 100000 in
theorem t_LB2_677 {l : Launch} {D : va_G} {Y : CYs} {E : Nat → Nat} {p : Program} {e : Env} {s : State} {m : MethodId} {args : Array Value} {below : List Frame} {meth : Method} {c : Code} {v3 : Int32} {cells slots : Nat} {Q : State → Prop} {A : Nat → Prop} {Rs : va_W} (hF : LFr p s m args c D Y E Rs A) (hcs : cells ≤ room_1.cells ∧ slots ≤ room_1.slots) {o : Unit × Sta} (kr : ∀ (H : Heap) (locs : List Loc) (ls : Array Slot), va_P D vwCl (Rs ++ wd Y E o.2 0 LC) H → va_S A s.heap H locs → W p l e room_1 s m args below meth c H locs cells slots Q (F0 m 719 ls [.int 1])) (k555 : Int32 → Sta → Option (Unit × Sta)) (k567 : Int32 → Int32 → Int32 → Sta → Option (Unit × Sta)) (hk555 : ∀ (v4 : Int32) (σ : Sta) (H : Heap) (locs : List Loc) (ls : Array Slot), k555 v4 σ = some o → va_P D vwCl (Rs ++ wd Y E σ 0 LC) H → va_S A s.heap H locs → lv_has ls 18 [(1, .ref (E 0)), (4, .int v4)] → W p l e room_1 s m args below meth c H locs cells slots Q (F0 m 555 ls [])) (hk567 : ∀ (v4 : Int32) (v5 : Int32) (v6 : Int32) (σ : Sta) (H : Heap) (locs : List Loc) (ls : Array Slot), k567 v4 v5 v6 σ = some o → va_P D vwCl (Rs ++ wd Y E σ 0 LC) H → va_S A s.heap H locs → lv_has ls 18 [(1, .ref (E 0)), (4, .int v4), (5, .int v5), (6, .int v6)] → W p l e room_1 s m args below meth c H locs cells slots Q (F0 m 567 ls [])) : ∀ (v4 : Int32) (v6 : Int32) (σ : Sta) (H : Heap) (locs : List Loc) (ls : Array Slot), f_LB2_677 v3 k555 k567 v4 v6 σ = some o → va_P D vwCl (Rs ++ wd Y E σ 0 LC) H → va_S A s.heap H locs → lv_has ls 18 [(1, .ref (E 0)), (4, .int v4), (6, .int v6)] → W p l e room_1 s m args below meth c H locs cells slots Q (F0 m 677 ls []) := by
  intro v4 v6 σ H locs ls h hP hS hl
  unfold f_LB2_677 at h
  obtain ⟨hC, hb, hml, hD, hSW, hA⟩ := id hF
  have hx := hC.1
  refine lv_iconst (v := 0) hx hb dL_law_677 (by decide) ?_
  exact t_LB2_678 hF hcs kr k555 k567 hk555 hk567 v4 v6 0 σ _ _ _ h hP hS (lv_sub hl [0, 1, 2] rfl)

def f_LB2_582 (v3 : Int32) (k555 : Int32 → Sta → Option (Unit × Sta)) (k567 : Int32 → Int32 → Int32 → Sta → Option (Unit × Sta)) : Nat → Int32 → Int32 → Int32 → Int32 → Int32 → Int32 → Sta → Option (Unit × Sta)
  | 0, _, _, _, _, _, _, _ => none
  | n + 1, v4, v5, v6, v7, v8, v9, σ => if 3 ≤ v9 then
      if v5 = 0 then
        if v8 = 0 then
          f_LB2_677 v3 k555 k567 v4 v6 σ
        else
          if v7 = 0 then
            f_LB2_673 v3 k555 k567 v4 v6 σ
          else
            f_LB2_677 v3 k555 k567 v4 v6 σ
      else
        f_LB2_673 v3 k555 k567 v4 v6 σ
    else
      if v7 = 0 then
        bnd (f_X8_brings v6 v9 σ) (fun r6 σ7 =>
        bnd (f_X8_brings v4 v9 σ7) (fun r9 σ10 =>
        if 0 ≤ lg_cmp r6 r9 then
          f_LB2_618 v3 k555 k567 (f_LB2_582 v3 k555 k567 n) v4 v5 v6 v8 v9 0 σ10
        else
          f_LB2_613 v3 k555 k567 (f_LB2_582 v3 k555 k567 n) v4 v5 v6 v8 v9 σ10))
      else
        f_LB2_613 v3 k555 k567 (f_LB2_582 v3 k555 k567 n) v4 v5 v6 v8 v9 σ
set_option maxHeartbeats 4000000 in
set_option maxRecDepth 100000 in
theorem t_LB2_582 {l : Launch} {D : va_G} {Y : CYs} {E : Nat → Nat} {p : Program} {e : Env} {s : State} {m : MethodId} {args : Array Value} {below : List Frame} {meth : Method} {c : Code} {v3 : Int32} {cells slots : Nat} {Q : State → Prop} {A : Nat → Prop} {Rs : va_W} (hF : LFr p s m args c D Y E Rs A) (hcs : cells ≤ room_1.cells ∧ slots ≤ room_1.slots) {o : Unit × Sta} (kr : ∀ (H : Heap) (locs : List Loc) (ls : Array Slot), va_P D vwCl (Rs ++ wd Y E o.2 0 LC) H → va_S A s.heap H locs → W p l e room_1 s m args below meth c H locs cells slots Q (F0 m 719 ls [.int 1])) (k555 : Int32 → Sta → Option (Unit × Sta)) (k567 : Int32 → Int32 → Int32 → Sta → Option (Unit × Sta)) (hk555 : ∀ (v4 : Int32) (σ : Sta) (H : Heap) (locs : List Loc) (ls : Array Slot), k555 v4 σ = some o → va_P D vwCl (Rs ++ wd Y E σ 0 LC) H → va_S A s.heap H locs → lv_has ls 18 [(1, .ref (E 0)), (4, .int v4)] → W p l e room_1 s m args below meth c H locs cells slots Q (F0 m 555 ls [])) (hk567 : ∀ (v4 : Int32) (v5 : Int32) (v6 : Int32) (σ : Sta) (H : Heap) (locs : List Loc) (ls : Array Slot), k567 v4 v5 v6 σ = some o → va_P D vwCl (Rs ++ wd Y E σ 0 LC) H → va_S A s.heap H locs → lv_has ls 18 [(1, .ref (E 0)), (4, .int v4), (5, .int v5), (6, .int v6)] → W p l e room_1 s m args below meth c H locs cells slots Q (F0 m 567 ls [])) : ∀ (n : Nat) (v4 : Int32) (v5 : Int32) (v6 : Int32) (v7 : Int32) (v8 : Int32) (v9 : Int32) (σ : Sta) (H : Heap) (locs : List Loc) (ls : Array Slot), f_LB2_582 v3 k555 k567 n v4 v5 v6 v7 v8 v9 σ = some o → va_P D vwCl (Rs ++ wd Y E σ 0 LC) H → va_S A s.heap H locs → lv_has ls 18 [(1, .ref (E 0)), (4, .int v4), (5, .int v5), (6, .int v6), (7, .int v7), (8, .int v8), (9, .int v9)] → W p l e room_1 s m args below meth c H locs cells slots Q (F0 m 582 ls []) := by
  intro n
  induction n with
  | zero =>
    intro v4 v5 v6 v7 v8 v9 σ H locs ls h hP hS hl
    exact nomatch (show (none : Option (Unit × Sta)) = some o from h)
  | succ n ih =>
    intro v4 v5 v6 v7 v8 v9 σ H locs ls h hP hS hl
    rw [f_LB2_582] at h
    obtain ⟨hC, hb, hml, hD, hSW, hA⟩ := id hF
    have hx := hC.1
    refine lv_iload hx hb dL_law_582 (lv_at hl 6 rfl) ?_
    refine lv_iconst (v := 3) hx hb dL_law_584 (by decide) ?_
    refine lv_icmp_ge (tgt := 658) hx hb dL_law_585 (by decide) (fun c1 => ?_) (fun c1 => ?_)
    · have h := of_t h c1
      refine lv_iload hx hb dL_law_658 (lv_at hl 2 rfl) ?_
      refine lv_if_ne (tgt := 673) hx hb dL_law_660 (by decide) (fun c2 => ?_) (fun c2 => ?_)
      · have h := of_f h c2
        exact t_LB2_673 hF hcs kr k555 k567 hk555 hk567 v4 v6 σ _ _ _ h hP hS (lv_sub hl [0, 1, 3] rfl)
      · have h := of_t h c2
        refine lv_iload hx hb dL_law_663 (lv_at hl 5 rfl) ?_
        refine lv_if_eq (tgt := 677) hx hb dL_law_665 (by decide) (fun c3 => ?_) (fun c3 => ?_)
        · have h := of_t h c3
          exact t_LB2_677 hF hcs kr k555 k567 hk555 hk567 v4 v6 σ _ _ _ h hP hS (lv_sub hl [0, 1, 3] rfl)
        · have h := of_f h c3
          refine lv_iload hx hb dL_law_668 (lv_at hl 4 rfl) ?_
          refine lv_if_ne (tgt := 677) hx hb dL_law_670 (by decide) (fun c4 => ?_) (fun c4 => ?_)
          · have h := of_f h c4
            exact t_LB2_677 hF hcs kr k555 k567 hk555 hk567 v4 v6 σ _ _ _ h hP hS (lv_sub hl [0, 1, 3] rfl)
          · have h := of_t h c4
            exact t_LB2_673 hF hcs kr k555 k567 hk555 hk567 v4 v6 σ _ _ _ h hP hS (lv_sub hl [0, 1, 3] rfl)
    · have h := of_f h c1
      refine lv_iload hx hb dL_law_588 (lv_at hl 4 rfl) ?_
      refine lv_if_ne (tgt := 613) hx hb dL_law_590 (by decide) (fun c5 => ?_) (fun c5 => ?_)
      · have h := of_f h c5
        exact t_LB2_613 hF hcs kr k555 k567 (f_LB2_582 v3 k555 k567 n) hk555 hk567 ih v4 v5 v6 v8 v9 σ _ _ _ h hP hS (lv_sub hl [0, 1, 2, 3, 5, 6] rfl)
      · have h := of_t h c5
        refine lv_aload_n hx hb dL_law_593 rfl (lv_at hl 0 rfl) ?_
        refine lv_iload hx hb dL_law_594 (lv_at hl 3 rfl) ?_
        refine lv_iload hx hb dL_law_596 (lv_at hl 6 rfl) ?_
        obtain ⟨r6, σ7, g8, h⟩ := of_bnd h
        refine y_VL (As := [.int v6, .int v9]) (rest := []) hF hl hP hS (c_X8_brings g8) (cw_L_104 hC rfl rfl ⟨Nat.le_of_ble_eq_true rfl, Nat.le_of_ble_eq_true rfl⟩) lc_0 rfl rfl rfl (Nat.le_of_ble_eq_true rfl) dL_law_598 hcs (fun H locs hP hS => ?_)
        refine lv_aload_n hx hb dL_law_601 rfl (lv_at hl 0 rfl) ?_
        refine lv_iload hx hb dL_law_602 (lv_at hl 1 rfl) ?_
        refine lv_iload hx hb dL_law_604 (lv_at hl 6 rfl) ?_
        obtain ⟨r9, σ10, g11, h⟩ := of_bnd h
        refine y_VL (As := [.int v4, .int v9]) (rest := [.long r6]) hF hl hP hS (c_X8_brings g11) (cw_L_104 hC rfl rfl ⟨Nat.le_of_ble_eq_true rfl, Nat.le_of_ble_eq_true rfl⟩) lc_0 rfl rfl rfl (Nat.le_of_ble_eq_true rfl) dL_law_606 hcs (fun H locs hP hS => ?_)
        refine W.lcmp hx hb dL_law_609 ?_
        refine lv_if_ge (tgt := 617) hx hb dL_law_610 (by decide) (fun c12 => ?_) (fun c12 => ?_)
        · have h := of_t h c12
          refine lv_iconst (v := 0) hx hb dL_law_617 (by decide) ?_
          exact t_LB2_618 hF hcs kr k555 k567 (f_LB2_582 v3 k555 k567 n) hk555 hk567 ih v4 v5 v6 v8 v9 0 σ10 _ _ _ h hP hS (lv_sub hl [0, 1, 2, 3, 5, 6] rfl)
        · have h := of_f h c12
          exact t_LB2_613 hF hcs kr k555 k567 (f_LB2_582 v3 k555 k567 n) hk555 hk567 ih v4 v5 v6 v8 v9 σ10 _ _ _ h hP hS (lv_sub hl [0, 1, 2, 3, 5, 6] rfl)

def f_LB2_567 (v3 : Int32) (k555 : Int32 → Sta → Option (Unit × Sta)) : Nat → Int32 → Int32 → Int32 → Sta → Option (Unit × Sta)
  | 0, _, _, _, _ => none
  | n + 1, v4, v5, v6, σ => if 4 ≤ v6 then
      bnd (f_X8_isWorthHaving v4 σ) (fun r2 σ3 =>
      if r2 = v5 then
        none
      else
        lt (v4 + 1) (fun x6 =>
        k555 x6 σ3))
    else
      f_LB2_582 v3 k555 (f_LB2_567 v3 k555 n) FU v4 v5 v6 0 0 0 σ
set_option maxHeartbeats 4000000 in
set_option maxRecDepth 100000 in
theorem t_LB2_567 {l : Launch} {D : va_G} {Y : CYs} {E : Nat → Nat} {p : Program} {e : Env} {s : State} {m : MethodId} {args : Array Value} {below : List Frame} {meth : Method} {c : Code} {v3 : Int32} {cells slots : Nat} {Q : State → Prop} {A : Nat → Prop} {Rs : va_W} (hF : LFr p s m args c D Y E Rs A) (hcs : cells ≤ room_1.cells ∧ slots ≤ room_1.slots) {o : Unit × Sta} (kr : ∀ (H : Heap) (locs : List Loc) (ls : Array Slot), va_P D vwCl (Rs ++ wd Y E o.2 0 LC) H → va_S A s.heap H locs → W p l e room_1 s m args below meth c H locs cells slots Q (F0 m 719 ls [.int 1])) (k555 : Int32 → Sta → Option (Unit × Sta)) (hk555 : ∀ (v4 : Int32) (σ : Sta) (H : Heap) (locs : List Loc) (ls : Array Slot), k555 v4 σ = some o → va_P D vwCl (Rs ++ wd Y E σ 0 LC) H → va_S A s.heap H locs → lv_has ls 18 [(1, .ref (E 0)), (4, .int v4)] → W p l e room_1 s m args below meth c H locs cells slots Q (F0 m 555 ls [])) : ∀ (n : Nat) (v4 : Int32) (v5 : Int32) (v6 : Int32) (σ : Sta) (H : Heap) (locs : List Loc) (ls : Array Slot), f_LB2_567 v3 k555 n v4 v5 v6 σ = some o → va_P D vwCl (Rs ++ wd Y E σ 0 LC) H → va_S A s.heap H locs → lv_has ls 18 [(1, .ref (E 0)), (4, .int v4), (5, .int v5), (6, .int v6)] → W p l e room_1 s m args below meth c H locs cells slots Q (F0 m 567 ls []) := by
  intro n
  induction n with
  | zero =>
    intro v4 v5 v6 σ H locs ls h hP hS hl
    exact nomatch (show (none : Option (Unit × Sta)) = some o from h)
  | succ n ih =>
    intro v4 v5 v6 σ H locs ls h hP hS hl
    rw [f_LB2_567] at h
    obtain ⟨hC, hb, hml, hD, hSW, hA⟩ := id hF
    have hx := hC.1
    refine lv_iload hx hb dL_law_567 (lv_at hl 3 rfl) ?_
    refine lv_iconst (v := 4) hx hb dL_law_569 (by decide) ?_
    refine lv_icmp_ge (tgt := 686) hx hb dL_law_570 (by decide) (fun c1 => ?_) (fun c1 => ?_)
    · have h := of_t h c1
      refine lv_aload_n hx hb dL_law_686 rfl (lv_at hl 0 rfl) ?_
      refine lv_iload hx hb dL_law_687 (lv_at hl 1 rfl) ?_
      obtain ⟨r2, σ3, g4, h⟩ := of_bnd h
      refine y_VI (As := [.int v4]) (rest := []) hF hl hP hS (c_X8_isWorthHaving g4) (cw_L_108 hC rfl rfl ⟨Nat.le_of_ble_eq_true rfl, Nat.le_of_ble_eq_true rfl⟩) lc_0 rfl rfl rfl (Nat.le_of_ble_eq_true rfl) dL_law_689 hcs (fun H locs hP hS => ?_)
      refine lv_iload hx hb dL_law_692 (lv_at hl 2 rfl) ?_
      refine lv_icmp_ne (tgt := 699) hx hb dL_law_694 (by decide) (fun c5 => ?_) (fun c5 => ?_)
      · have h := of_f h c5
        obtain ⟨x6, ex6⟩ : ∃ y : Int32, y = v4 + 1 := ⟨_, rfl⟩
        have h := of_lt h ex6
        refine lv_iinc (v := x6) (lv' := [(4, .int x6), (1, .ref (E 0)), (5, .int v5), (6, .int v6)]) hx hb dL_law_699 hl (k := 1) rfl (by rw [ex6]; rfl) (by decide) rfl (fun ls hl => ?_)
        refine lv_goto (tgt := 555) hx hb dL_law_702 (by decide) ?_
        exact hk555 x6 σ3 _ _ _ h hP hS (lv_sub hl [1, 0] rfl)
      · have h := of_t h c5
        exact nomatch h
    · have h := of_f h c1
      refine lv_iconst (v := 0) hx hb dL_law_573 (by decide) ?_
      refine lv_istore (lv' := [(7, .int 0), (1, .ref (E 0)), (4, .int v4), (5, .int v5), (6, .int v6)]) hx hb dL_law_574 hl (by decide) rfl (fun ls hl => ?_)
      refine lv_iconst (v := 0) hx hb dL_law_576 (by decide) ?_
      refine lv_istore (lv' := [(8, .int 0), (7, .int 0), (1, .ref (E 0)), (4, .int v4), (5, .int v5), (6, .int v6)]) hx hb dL_law_577 hl (by decide) rfl (fun ls hl => ?_)
      refine lv_iconst (v := 0) hx hb dL_law_579 (by decide) ?_
      refine lv_istore (lv' := [(9, .int 0), (8, .int 0), (7, .int 0), (1, .ref (E 0)), (4, .int v4), (5, .int v5), (6, .int v6)]) hx hb dL_law_580 hl (by decide) rfl (fun ls hl => ?_)
      exact t_LB2_582 hF hcs kr k555 (f_LB2_567 v3 k555 n) hk555 ih FU v4 v5 v6 0 0 0 σ _ _ _ h hP hS (lv_sub hl [3, 4, 5, 6, 2, 1, 0] rfl)

def f_LB2_719 (v3 : Int32) (s0 : Int32) (σ : Sta) : Option (Unit × Sta) :=
  if ¬ (s0 = 1) then none else (
  some ((), σ))
set_option maxHeartbeats 4000000 in
set_option maxRecDepth 100000 in
theorem t_LB2_719 {l : Launch} {D : va_G} {Y : CYs} {E : Nat → Nat} {p : Program} {e : Env} {s : State} {m : MethodId} {args : Array Value} {below : List Frame} {meth : Method} {c : Code} {v3 : Int32} {cells slots : Nat} {Q : State → Prop} {A : Nat → Prop} {Rs : va_W} (hF : LFr p s m args c D Y E Rs A) (hcs : cells ≤ room_1.cells ∧ slots ≤ room_1.slots) {o : Unit × Sta} (kr : ∀ (H : Heap) (locs : List Loc) (ls : Array Slot), va_P D vwCl (Rs ++ wd Y E o.2 0 LC) H → va_S A s.heap H locs → W p l e room_1 s m args below meth c H locs cells slots Q (F0 m 719 ls [.int 1])) : ∀ (s0 : Int32) (σ : Sta) (H : Heap) (locs : List Loc) (ls : Array Slot), f_LB2_719 v3 s0 σ = some o → va_P D vwCl (Rs ++ wd Y E σ 0 LC) H → va_S A s.heap H locs → lv_has ls 18 [] → W p l e room_1 s m args below meth c H locs cells slots Q (F0 m 719 ls [.int s0]) := by
  intro s0 σ H locs ls h hP hS hl
  unfold f_LB2_719 at h
  obtain ⟨hC, hb, hml, hD, hSW, hA⟩ := id hF
  have hx := hC.1
  obtain ⟨g1, h⟩ := of_gd h
  cases h
  rw [Decidable.not_not.mp g1]
  exact kr H locs ls hP hS

def f_LB2_555 (v3 : Int32) : Nat → Int32 → Sta → Option (Unit × Sta)
  | 0, _, _ => none
  | n + 1, v4, σ => if 4 ≤ v4 then
      bnd (f_X8_count 4 σ) (fun r2 σ3 =>
      if r2 = 4 then
        f_LB2_719 v3 1 σ3
      else
        none)
    else
      f_LB2_567 v3 (f_LB2_555 v3 n) FU v4 0 0 σ
set_option maxHeartbeats 4000000 in
set_option maxRecDepth 100000 in
theorem t_LB2_555 {l : Launch} {D : va_G} {Y : CYs} {E : Nat → Nat} {p : Program} {e : Env} {s : State} {m : MethodId} {args : Array Value} {below : List Frame} {meth : Method} {c : Code} {v3 : Int32} {cells slots : Nat} {Q : State → Prop} {A : Nat → Prop} {Rs : va_W} (hF : LFr p s m args c D Y E Rs A) (hcs : cells ≤ room_1.cells ∧ slots ≤ room_1.slots) {o : Unit × Sta} (kr : ∀ (H : Heap) (locs : List Loc) (ls : Array Slot), va_P D vwCl (Rs ++ wd Y E o.2 0 LC) H → va_S A s.heap H locs → W p l e room_1 s m args below meth c H locs cells slots Q (F0 m 719 ls [.int 1])) : ∀ (n : Nat) (v4 : Int32) (σ : Sta) (H : Heap) (locs : List Loc) (ls : Array Slot), f_LB2_555 v3 n v4 σ = some o → va_P D vwCl (Rs ++ wd Y E σ 0 LC) H → va_S A s.heap H locs → lv_has ls 18 [(1, .ref (E 0)), (4, .int v4)] → W p l e room_1 s m args below meth c H locs cells slots Q (F0 m 555 ls []) := by
  intro n
  induction n with
  | zero =>
    intro v4 σ H locs ls h hP hS hl
    exact nomatch (show (none : Option (Unit × Sta)) = some o from h)
  | succ n ih =>
    intro v4 σ H locs ls h hP hS hl
    rw [f_LB2_555] at h
    obtain ⟨hC, hb, hml, hD, hSW, hA⟩ := id hF
    have hx := hC.1
    refine lv_iload hx hb dL_law_555 (lv_at hl 1 rfl) ?_
    refine lv_iconst (v := 4) hx hb dL_law_557 (by decide) ?_
    refine lv_icmp_ge (tgt := 705) hx hb dL_law_558 (by decide) (fun c1 => ?_) (fun c1 => ?_)
    · have h := of_t h c1
      refine lv_aload_n hx hb dL_law_705 rfl (lv_at hl 0 rfl) ?_
      refine lv_iconst (v := 4) hx hb dL_law_706 (by decide) ?_
      obtain ⟨r2, σ3, g4, h⟩ := of_bnd h
      refine y_VI (As := [.int 4]) (rest := []) hF hl hP hS (c_X8_count g4) (cw_L_64 hC rfl rfl ⟨Nat.le_of_ble_eq_true rfl, Nat.le_of_ble_eq_true rfl⟩) lc_0 rfl rfl rfl (Nat.le_of_ble_eq_true rfl) dL_law_707 hcs (fun H locs hP hS => ?_)
      refine lv_iconst (v := 4) hx hb dL_law_710 (by decide) ?_
      refine lv_icmp_ne (tgt := 718) hx hb dL_law_711 (by decide) (fun c5 => ?_) (fun c5 => ?_)
      · have h := of_f h c5
        exact nomatch h
      · have h := of_t h c5
        refine lv_iconst (v := 1) hx hb dL_law_714 (by decide) ?_
        refine lv_goto (tgt := 719) hx hb dL_law_715 (by decide) ?_
        exact t_LB2_719 hF hcs kr 1 σ3 _ _ _ h hP hS (lv_sub hl [] rfl)
    · have h := of_f h c1
      refine lv_iconst (v := 0) hx hb dL_law_561 (by decide) ?_
      refine lv_istore (lv' := [(5, .int 0), (1, .ref (E 0)), (4, .int v4)]) hx hb dL_law_562 hl (by decide) rfl (fun ls hl => ?_)
      refine lv_iconst (v := 0) hx hb dL_law_564 (by decide) ?_
      refine lv_istore (lv' := [(6, .int 0), (5, .int 0), (1, .ref (E 0)), (4, .int v4)]) hx hb dL_law_565 hl (by decide) rfl (fun ls hl => ?_)
      exact t_LB2_567 hF hcs kr (f_LB2_555 v3 n) ih FU v4 0 0 σ _ _ _ h hP hS (lv_sub hl [2, 3, 1, 0] rfl)

def f_LB2_492 (v3 : Int32) : Nat → Int32 → Sta → Option (Unit × Sta)
  | 0, _, _ => none
  | n + 1, v4, σ => if v3 < v4 then
      f_LB2_555 v3 FU 0 σ
    else
      bnd (f_X8_reach v4 0 σ) (fun r2 σ3 =>
      bnd (f_X8_reach (v4 - 1) 0 σ3) (fun r5 σ6 =>
      if r2 < r5 then
        none
      else
        bnd (f_X8_reach v4 1 σ6) (fun r9 σ10 =>
        if r9 < 0 then
          none
        else
          bnd (f_X8_reach v4 1 σ10) (fun r13 σ14 =>
          bnd (f_X8_reach v4 0 σ14) (fun r16 σ17 =>
          if r13 ≤ r16 then
            lt (v4 + 1) (fun x20 =>
            f_LB2_492 v3 n x20 σ17)
          else
            none)))))
set_option maxHeartbeats 4000000 in
set_option maxRecDepth 100000 in
theorem t_LB2_492 {l : Launch} {D : va_G} {Y : CYs} {E : Nat → Nat} {p : Program} {e : Env} {s : State} {m : MethodId} {args : Array Value} {below : List Frame} {meth : Method} {c : Code} {v3 : Int32} {cells slots : Nat} {Q : State → Prop} {A : Nat → Prop} {Rs : va_W} (hF : LFr p s m args c D Y E Rs A) (hcs : cells ≤ room_1.cells ∧ slots ≤ room_1.slots) {o : Unit × Sta} (kr : ∀ (H : Heap) (locs : List Loc) (ls : Array Slot), va_P D vwCl (Rs ++ wd Y E o.2 0 LC) H → va_S A s.heap H locs → W p l e room_1 s m args below meth c H locs cells slots Q (F0 m 719 ls [.int 1])) : ∀ (n : Nat) (v4 : Int32) (σ : Sta) (H : Heap) (locs : List Loc) (ls : Array Slot), f_LB2_492 v3 n v4 σ = some o → va_P D vwCl (Rs ++ wd Y E σ 0 LC) H → va_S A s.heap H locs → lv_has ls 18 [(1, .ref (E 0)), (3, .int v3), (4, .int v4)] → W p l e room_1 s m args below meth c H locs cells slots Q (F0 m 492 ls []) := by
  intro n
  induction n with
  | zero =>
    intro v4 σ H locs ls h hP hS hl
    exact nomatch (show (none : Option (Unit × Sta)) = some o from h)
  | succ n ih =>
    intro v4 σ H locs ls h hP hS hl
    rw [f_LB2_492] at h
    obtain ⟨hC, hb, hml, hD, hSW, hA⟩ := id hF
    have hx := hC.1
    refine lv_iload hx hb dL_law_492 (lv_at hl 2 rfl) ?_
    refine lv_iload_n hx hb dL_law_494 rfl (lv_at hl 1 rfl) ?_
    refine lv_icmp_gt (tgt := 552) hx hb dL_law_495 (by decide) (fun c1 => ?_) (fun c1 => ?_)
    · have h := of_t h c1
      refine lv_iconst (v := 0) hx hb dL_law_552 (by decide) ?_
      refine lv_istore (lv' := [(4, .int 0), (1, .ref (E 0)), (3, .int v3)]) hx hb dL_law_553 hl (by decide) rfl (fun ls hl => ?_)
      exact t_LB2_555 hF hcs kr FU 0 σ _ _ _ h hP hS (lv_sub hl [1, 0] rfl)
    · have h := of_f h c1
      refine lv_aload_n hx hb dL_law_498 rfl (lv_at hl 0 rfl) ?_
      refine lv_iload hx hb dL_law_499 (lv_at hl 2 rfl) ?_
      refine lv_iconst (v := 0) hx hb dL_law_501 (by decide) ?_
      obtain ⟨r2, σ3, g4, h⟩ := of_bnd h
      refine y_VI (As := [.int v4, .int 0]) (rest := []) hF hl hP hS (c_X8_reach g4) (cw_L_100 hC rfl rfl ⟨Nat.le_of_ble_eq_true rfl, Nat.le_of_ble_eq_true rfl⟩) lc_0 rfl rfl rfl (Nat.le_of_ble_eq_true rfl) dL_law_502 hcs (fun H locs hP hS => ?_)
      refine lv_aload_n hx hb dL_law_505 rfl (lv_at hl 0 rfl) ?_
      refine lv_iload hx hb dL_law_506 (lv_at hl 2 rfl) ?_
      refine lv_iconst (v := 1) hx hb dL_law_508 (by decide) ?_
      refine lv_isub hx hb dL_law_509 ?_
      refine lv_iconst (v := 0) hx hb dL_law_510 (by decide) ?_
      obtain ⟨r5, σ6, g7, h⟩ := of_bnd h
      refine y_VI (As := [.int (v4 - 1), .int 0]) (rest := [.int r2]) hF hl hP hS (c_X8_reach g7) (cw_L_100 hC rfl rfl ⟨Nat.le_of_ble_eq_true rfl, Nat.le_of_ble_eq_true rfl⟩) lc_0 rfl rfl rfl (Nat.le_of_ble_eq_true rfl) dL_law_511 hcs (fun H locs hP hS => ?_)
      refine lv_icmp_lt (tgt := 544) hx hb dL_law_514 (by decide) (fun c8 => ?_) (fun c8 => ?_)
      · have h := of_t h c8
        exact nomatch h
      · have h := of_f h c8
        refine lv_aload_n hx hb dL_law_517 rfl (lv_at hl 0 rfl) ?_
        refine lv_iload hx hb dL_law_518 (lv_at hl 2 rfl) ?_
        refine lv_iconst (v := 1) hx hb dL_law_520 (by decide) ?_
        obtain ⟨r9, σ10, g11, h⟩ := of_bnd h
        refine y_VI (As := [.int v4, .int 1]) (rest := []) hF hl hP hS (c_X8_reach g11) (cw_L_100 hC rfl rfl ⟨Nat.le_of_ble_eq_true rfl, Nat.le_of_ble_eq_true rfl⟩) lc_0 rfl rfl rfl (Nat.le_of_ble_eq_true rfl) dL_law_521 hcs (fun H locs hP hS => ?_)
        refine lv_if_lt (tgt := 544) hx hb dL_law_524 (by decide) (fun c12 => ?_) (fun c12 => ?_)
        · have h := of_t h c12
          exact nomatch h
        · have h := of_f h c12
          refine lv_aload_n hx hb dL_law_527 rfl (lv_at hl 0 rfl) ?_
          refine lv_iload hx hb dL_law_528 (lv_at hl 2 rfl) ?_
          refine lv_iconst (v := 1) hx hb dL_law_530 (by decide) ?_
          obtain ⟨r13, σ14, g15, h⟩ := of_bnd h
          refine y_VI (As := [.int v4, .int 1]) (rest := []) hF hl hP hS (c_X8_reach g15) (cw_L_100 hC rfl rfl ⟨Nat.le_of_ble_eq_true rfl, Nat.le_of_ble_eq_true rfl⟩) lc_0 rfl rfl rfl (Nat.le_of_ble_eq_true rfl) dL_law_531 hcs (fun H locs hP hS => ?_)
          refine lv_aload_n hx hb dL_law_534 rfl (lv_at hl 0 rfl) ?_
          refine lv_iload hx hb dL_law_535 (lv_at hl 2 rfl) ?_
          refine lv_iconst (v := 0) hx hb dL_law_537 (by decide) ?_
          obtain ⟨r16, σ17, g18, h⟩ := of_bnd h
          refine y_VI (As := [.int v4, .int 0]) (rest := [.int r13]) hF hl hP hS (c_X8_reach g18) (cw_L_100 hC rfl rfl ⟨Nat.le_of_ble_eq_true rfl, Nat.le_of_ble_eq_true rfl⟩) lc_0 rfl rfl rfl (Nat.le_of_ble_eq_true rfl) dL_law_538 hcs (fun H locs hP hS => ?_)
          refine lv_icmp_le (tgt := 546) hx hb dL_law_541 (by decide) (fun c19 => ?_) (fun c19 => ?_)
          · have h := of_t h c19
            obtain ⟨x20, ex20⟩ : ∃ y : Int32, y = v4 + 1 := ⟨_, rfl⟩
            have h := of_lt h ex20
            refine lv_iinc (v := x20) (lv' := [(4, .int x20), (1, .ref (E 0)), (3, .int v3)]) hx hb dL_law_546 hl (k := 2) rfl (by rw [ex20]; rfl) (by decide) rfl (fun ls hl => ?_)
            refine lv_goto (tgt := 492) hx hb dL_law_549 (by decide) ?_
            exact ih x20 σ17 _ _ _ h hP hS (lv_sub hl [1, 2, 0] rfl)
          · have h := of_f h c19
            exact nomatch h

def f_LB2 (v3 : Int32) (σ : Sta) : Option (Unit × Sta) :=
  f_LB2_492 v3 FU 1 σ
set_option maxHeartbeats 4000000 in
set_option maxRecDepth 100000 in
theorem c_LB2 {l : Launch} {D : va_G} {Y : CYs} {E : Nat → Nat} {v3 : Int32} {p : Program} {e : Env} {s : State} {m : MethodId} {args : Array Value} {below : List Frame} {meth : Method} {c : Code} {cells slots : Nat} {Q : State → Prop} {A : Nat → Prop} {Rs : va_W} (hF : LFr p s m args c D Y E Rs A) (hcs : cells ≤ room_1.cells ∧ slots ≤ room_1.slots) {σ : Sta} {o : Unit × Sta} (kr : ∀ (H : Heap) (locs : List Loc) (ls : Array Slot), va_P D vwCl (Rs ++ wd Y E o.2 0 LC) H → va_S A s.heap H locs → W p l e room_1 s m args below meth c H locs cells slots Q (F0 m 719 ls [.int 1])) {H : Heap} {locs : List Loc} {ls : Array Slot} (h : f_LB2 v3 σ = some o) (hP : va_P D vwCl (Rs ++ wd Y E σ 0 LC) H) (hS : va_S A s.heap H locs) (hl : lv_has ls 18 [(1, .ref (E 0)), (3, .int v3)]) : W p l e room_1 s m args below meth c H locs cells slots Q (F0 m 489 ls []) := by
  unfold f_LB2 at h
  obtain ⟨hC, hb, hml, hD, hSW, hA⟩ := id hF
  have hx := hC.1
  refine lv_iconst (v := 1) hx hb dL_law_489 (by decide) ?_
  refine lv_istore (lv' := [(4, .int 1), (1, .ref (E 0)), (3, .int v3)]) hx hb dL_law_490 hl (by decide) rfl (fun ls hl => ?_)
  exact t_LB2_492 hF hcs kr FU 1 σ _ _ _ h hP hS (lv_sub hl [1, 2, 0] rfl)
