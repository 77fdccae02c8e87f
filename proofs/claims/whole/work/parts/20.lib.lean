
abbrev rm_J7_fill_53178 : Room := { frames := 0, cells := 0, slots := 0, locals := 0 }
def f_J7_fill_53178_5 (q0 n0 : Nat) : Nat → Int32 → Int32 → Int32 → Sta → Option (Unit × Sta)
  | 0, _, _, _, _ => none
  | n + 1, v1, v2, v3, σ => if v3 ≤ v2 then
      some ((), σ)
    else
      if v2 < 0 ∨ n0 ≤ (v2.toNatClampNeg) then none else (
      lt (sA σ q0 (upd (gA σ q0) (v2.toNatClampNeg) v1)) (fun σ3 =>
      lt (v2 + 1) (fun x4 =>
      f_J7_fill_53178_5 q0 n0 n v1 x4 v3 σ3)))
set_option maxHeartbeats 4000000 in
set_option maxRecDepth 100000 in
theorem t_J7_fill_53178_5 {l : Launch} {D : va_G} {Y : CYs} {E : Nat → Nat} {L : List Dsc} (hX : Lok L) {p : Program} {e : Env} {s : State} {m : MethodId} {args : Array Value} {below : List Frame} {meth : Method} {c : Code} {q0 n0 : Nat} {z0 : List (Nat × Nat)} (hq0 : L[q0]? = some (1, n0, z0)) (hF : Fr p s m args meth c RJ7 cJ7_fill_53178 4 none D Y E L) {o : Unit × Sta} : ∀ (n : Nat) (v1 : Int32) (v2 : Int32) (v3 : Int32) (σ : Sta) (H : Heap) (locs : List Loc) (ls : Array Slot), f_J7_fill_53178_5 q0 n0 n v1 v2 v3 σ = some o → va_P D vwCl (wd Y E σ 0 L) H → va_S (AF E L.length s.heap.size) s.heap H locs → lv_has ls 4 [(0, .ref (E q0)), (1, .int v1), (2, .int v2), (3, .int v3)] → WV p l e rm_J7_fill_53178 s m args below meth c L Y D E o H locs (F0 m 5 ls []) := by
  intro n
  induction n with
  | zero =>
    intro v1 v2 v3 σ H locs ls h hP hS hl
    exact nomatch (show (none : Option (Unit × Sta)) = some o from h)
  | succ n ih =>
    intro v1 v2 v3 σ H locs ls h hP hS hl
    rw [f_J7_fill_53178_5] at h
    obtain ⟨hC, hb, hml, hr, hlk, hD, hSW⟩ := id hF
    have hx := hC.1
    refine lv_iload_n hx hb dJ7_fill_53178_5 rfl (lv_at hl 2 rfl) ?_
    refine lv_iload_n hx hb dJ7_fill_53178_6 rfl (lv_at hl 3 rfl) ?_
    refine lv_icmp_ge (tgt := 20) hx hb dJ7_fill_53178_7 (by decide) (fun c1 => ?_) (fun c1 => ?_)
    · have h := of_t h c1
      exact x_vret hF hP hS h dJ7_fill_53178_20
    · have h := of_f h c1
      refine lv_aload_n hx hb dJ7_fill_53178_10 rfl (lv_at hl 0 rfl) ?_
      refine lv_iload_n hx hb dJ7_fill_53178_11 rfl (lv_at hl 2 rfl) ?_
      refine lv_iload_n hx hb dJ7_fill_53178_12 rfl (lv_at hl 1 rfl) ?_
      obtain ⟨g2, h⟩ := of_gd h
      refine x_iast hX hC hb hP hD hS hq0 g2 dJ7_fill_53178_13 (fun H locs σ3 eσ3 hP hS => ?_)
      have h := of_lt h eσ3
      obtain ⟨x4, ex4⟩ : ∃ y : Int32, y = v2 + 1 := ⟨_, rfl⟩
      have h := of_lt h ex4
      refine lv_iinc (v := x4) (lv' := [(2, .int x4), (0, .ref (E q0)), (1, .int v1), (3, .int v3)]) hx hb dJ7_fill_53178_14 hl (k := 2) rfl (by rw [ex4]; rfl) (by decide) rfl (fun ls hl => ?_)
      refine lv_goto (tgt := 5) hx hb dJ7_fill_53178_17 (by decide) ?_
      exact ih v1 x4 v3 σ3 _ _ _ h hP hS (lv_sub hl [1, 2, 0, 3] rfl)

def f_J7_fill_53178 (q0 n0 : Nat) (a1 : Int32) (σ : Sta) : Option (Unit × Sta) :=
  lt (Int32.ofNat n0) (fun x1 =>
  f_J7_fill_53178_5 q0 n0 FU a1 0 x1 σ)
set_option maxHeartbeats 4000000 in
set_option maxRecDepth 100000 in
theorem c_J7_fill_53178 {l : Launch} {D : va_G} {Y : CYs} {E : Nat → Nat} {L : List Dsc} (hX : Lok L) {q0 n0 : Nat} {a1 : Int32} {z0 : List (Nat × Nat)} (hq0 : L[q0]? = some (1, n0, z0)) {σ : Sta} {o : Unit × Sta} (h : f_J7_fill_53178 q0 n0 a1 σ = some o) : MV l yJ7_fill_53178 (Cond.code yJ7_fill_53178 cJ7_fill_53178 4 none :: gW) rm_J7_fill_53178 L Y D E [.ref (E q0), .int a1] σ o := by
  intro sz
  refine Met_of (Qc := fun sz => QV L Y D E sz o) (by decide) (Nat.le_of_ble_eq_true rfl) (fun p e s m args below meth c hF hP ls hl => ?_) sz
  have hS : va_S (AF E L.length s.heap.size) s.heap s.heap [] := va_S.rf
  have hl : lv_has ls 4 [(0, .ref (E q0)), (1, .int a1)] := hl
  show WV p l e rm_J7_fill_53178 s m args below meth c L Y D E o s.heap [] (F0 m 0 ls [])
  unfold f_J7_fill_53178 at h
  obtain ⟨hC, hb, hml, hr, hlk, hD, hSW⟩ := id hF
  have hx := hC.1
  refine lv_iconst (v := 0) hx hb dJ7_fill_53178_0 (by decide) ?_
  refine lv_istore_n (lv' := [(2, .int 0), (0, .ref (E q0)), (1, .int a1)]) hx hb dJ7_fill_53178_1 rfl hl (by decide) rfl (fun ls hl => ?_)
  refine lv_aload_n hx hb dJ7_fill_53178_2 rfl (lv_at hl 1 rfl) ?_
  refine x_alen (v := Int32.ofNat n0) hC hb hP hq0 (Or.inl rfl) rfl dJ7_fill_53178_3 ?_
  refine lv_topi (fun x1 ex1 => ?_)
  have h := of_lt h ex1
  refine lv_istore_n (lv' := [(3, .int x1), (2, .int 0), (0, .ref (E q0)), (1, .int a1)]) hx hb dJ7_fill_53178_4 rfl hl (by decide) rfl (fun ls hl => ?_)
  exact t_J7_fill_53178_5 hX  hq0 hF FU a1 0 x1 σ _ _ _ h hP hS (lv_sub hl [2, 3, 1, 0] rfl)

abbrev rm_J7_fill_d0a16 : Room := { frames := 0, cells := 0, slots := 0, locals := 0 }
def f_J7_fill_d0a16_6 (q0 n0 : Nat) : Nat → Int64 → Int32 → Int32 → Sta → Option (Unit × Sta)
  | 0, _, _, _, _ => none
  | n + 1, v1, v3, v4, σ => if v4 ≤ v3 then
      some ((), σ)
    else
      if v3 < 0 ∨ n0 ≤ (v3.toNatClampNeg) then none else (
      lt (sJ σ q0 (vp_updL (gJ σ q0) (v3.toNatClampNeg) v1)) (fun σ3 =>
      lt (v3 + 1) (fun x4 =>
      f_J7_fill_d0a16_6 q0 n0 n v1 x4 v4 σ3)))
set_option maxHeartbeats 4000000 in
set_option maxRecDepth 100000 in
theorem t_J7_fill_d0a16_6 {l : Launch} {D : va_G} {Y : CYs} {E : Nat → Nat} {L : List Dsc} (hX : Lok L) {p : Program} {e : Env} {s : State} {m : MethodId} {args : Array Value} {below : List Frame} {meth : Method} {c : Code} {q0 n0 : Nat} {z0 : List (Nat × Nat)} (hq0 : L[q0]? = some (2, n0, z0)) (hF : Fr p s m args meth c RJ7 cJ7_fill_d0a16 5 none D Y E L) {o : Unit × Sta} : ∀ (n : Nat) (v1 : Int64) (v3 : Int32) (v4 : Int32) (σ : Sta) (H : Heap) (locs : List Loc) (ls : Array Slot), f_J7_fill_d0a16_6 q0 n0 n v1 v3 v4 σ = some o → va_P D vwCl (wd Y E σ 0 L) H → va_S (AF E L.length s.heap.size) s.heap H locs → lv_has ls 5 [(0, .ref (E q0)), (1, .long v1), (3, .int v3), (4, .int v4)] → WV p l e rm_J7_fill_d0a16 s m args below meth c L Y D E o H locs (F0 m 6 ls []) := by
  intro n
  induction n with
  | zero =>
    intro v1 v3 v4 σ H locs ls h hP hS hl
    exact nomatch (show (none : Option (Unit × Sta)) = some o from h)
  | succ n ih =>
    intro v1 v3 v4 σ H locs ls h hP hS hl
    rw [f_J7_fill_d0a16_6] at h
    obtain ⟨hC, hb, hml, hr, hlk, hD, hSW⟩ := id hF
    have hx := hC.1
    refine lv_iload_n hx hb dJ7_fill_d0a16_6 rfl (lv_at hl 2 rfl) ?_
    refine lv_iload hx hb dJ7_fill_d0a16_7 (lv_at hl 3 rfl) ?_
    refine lv_icmp_ge (tgt := 22) hx hb dJ7_fill_d0a16_9 (by decide) (fun c1 => ?_) (fun c1 => ?_)
    · have h := of_t h c1
      exact x_vret hF hP hS h dJ7_fill_d0a16_22
    · have h := of_f h c1
      refine lv_aload_n hx hb dJ7_fill_d0a16_12 rfl (lv_at hl 0 rfl) ?_
      refine lv_iload_n hx hb dJ7_fill_d0a16_13 rfl (lv_at hl 2 rfl) ?_
      refine lv_lload_n hx hb dJ7_fill_d0a16_14 rfl (lv_at hl 1 rfl) ?_
      obtain ⟨g2, h⟩ := of_gd h
      refine x_last hX hC hb hP hD hS hq0 g2 dJ7_fill_d0a16_15 (fun H locs σ3 eσ3 hP hS => ?_)
      have h := of_lt h eσ3
      obtain ⟨x4, ex4⟩ : ∃ y : Int32, y = v3 + 1 := ⟨_, rfl⟩
      have h := of_lt h ex4
      refine lv_iinc (v := x4) (lv' := [(3, .int x4), (0, .ref (E q0)), (1, .long v1), (4, .int v4)]) hx hb dJ7_fill_d0a16_16 hl (k := 2) rfl (by rw [ex4]; rfl) (by decide) rfl (fun ls hl => ?_)
      refine lv_goto (tgt := 6) hx hb dJ7_fill_d0a16_19 (by decide) ?_
      exact ih v1 x4 v4 σ3 _ _ _ h hP hS (lv_sub hl [1, 2, 0, 3] rfl)

def f_J7_fill_d0a16 (q0 n0 : Nat) (a1 : Int64) (σ : Sta) : Option (Unit × Sta) :=
  lt (Int32.ofNat n0) (fun x1 =>
  f_J7_fill_d0a16_6 q0 n0 FU a1 0 x1 σ)
set_option maxHeartbeats 4000000 in
set_option maxRecDepth 100000 in
theorem c_J7_fill_d0a16 {l : Launch} {D : va_G} {Y : CYs} {E : Nat → Nat} {L : List Dsc} (hX : Lok L) {q0 n0 : Nat} {a1 : Int64} {z0 : List (Nat × Nat)} (hq0 : L[q0]? = some (2, n0, z0)) {σ : Sta} {o : Unit × Sta} (h : f_J7_fill_d0a16 q0 n0 a1 σ = some o) : MV l yJ7_fill_d0a16 (Cond.code yJ7_fill_d0a16 cJ7_fill_d0a16 5 none :: gW) rm_J7_fill_d0a16 L Y D E [.ref (E q0), .long a1] σ o := by
  intro sz
  refine Met_of (Qc := fun sz => QV L Y D E sz o) (by decide) (Nat.le_of_ble_eq_true rfl) (fun p e s m args below meth c hF hP ls hl => ?_) sz
  have hS : va_S (AF E L.length s.heap.size) s.heap s.heap [] := va_S.rf
  have hl : lv_has ls 5 [(0, .ref (E q0)), (1, .long a1)] := hl
  show WV p l e rm_J7_fill_d0a16 s m args below meth c L Y D E o s.heap [] (F0 m 0 ls [])
  unfold f_J7_fill_d0a16 at h
  obtain ⟨hC, hb, hml, hr, hlk, hD, hSW⟩ := id hF
  have hx := hC.1
  refine lv_iconst (v := 0) hx hb dJ7_fill_d0a16_0 (by decide) ?_
  refine lv_istore_n (lv' := [(3, .int 0), (0, .ref (E q0)), (1, .long a1)]) hx hb dJ7_fill_d0a16_1 rfl hl (by decide) rfl (fun ls hl => ?_)
  refine lv_aload_n hx hb dJ7_fill_d0a16_2 rfl (lv_at hl 1 rfl) ?_
  refine x_alen (v := Int32.ofNat n0) hC hb hP hq0 (Or.inr (Or.inl rfl)) rfl dJ7_fill_d0a16_3 ?_
  refine lv_topi (fun x1 ex1 => ?_)
  have h := of_lt h ex1
  refine lv_istore (lv' := [(4, .int x1), (3, .int 0), (0, .ref (E q0)), (1, .long a1)]) hx hb dJ7_fill_d0a16_4 hl (by decide) rfl (fun ls hl => ?_)
  exact t_J7_fill_d0a16_6 hX  hq0 hF FU a1 0 x1 σ _ _ _ h hP hS (lv_sub hl [2, 3, 1, 0] rfl)

abbrev rm_X8_entry : Room := { frames := 0, cells := 0, slots := 0, locals := 0 }
def f_X8_entry_17 (q0 n0 : Nat) (s0 : Int32) (σ : Sta) : Option (Int32 × Sta) :=
  some (s0, σ)
set_option maxHeartbeats 4000000 in
set_option maxRecDepth 100000 in
theorem t_X8_entry_17 {l : Launch} {D : va_G} {Y : CYs} {E : Nat → Nat} {p : Program} {e : Env} {s : State} {m : MethodId} {args : Array Value} {below : List Frame} {meth : Method} {c : Code} {q0 n0 : Nat} {z0 : List (Nat × Nat)} (hq0 : LC[q0]? = some (1, n0, z0)) (hF : Fr p s m args meth c RX8 cX8_entry 2 (some .int) D Y E LC) {o : Int32 × Sta} : ∀ (s0 : Int32) (σ : Sta) (H : Heap) (locs : List Loc) (ls : Array Slot), f_X8_entry_17 q0 n0 s0 σ = some o → va_P D vwCl (wd Y E σ 0 LC) H → va_S (AF E LC.length s.heap.size) s.heap H locs → lv_has ls 2 [] → WI p l e rm_X8_entry s m args below meth c LC Y D E o H locs (F0 m 17 ls [.int s0]) := by
  intro s0 σ H locs ls h hP hS hl
  unfold f_X8_entry_17 at h
  obtain ⟨hC, hb, hml, hr, hlk, hD, hSW⟩ := id hF
  have hx := hC.1
  exact x_iret hF hP hS h dX8_entry_17

def f_X8_entry_16 (q0 n0 : Nat) (σ : Sta) : Option (Int32 × Sta) :=
  f_X8_entry_17 q0 n0 0 σ
set_option maxHeartbeats 4000000 in
set_option maxRecDepth 100000 in
theorem t_X8_entry_16 {l : Launch} {D : va_G} {Y : CYs} {E : Nat → Nat} {p : Program} {e : Env} {s : State} {m : MethodId} {args : Array Value} {below : List Frame} {meth : Method} {c : Code} {q0 n0 : Nat} {z0 : List (Nat × Nat)} (hq0 : LC[q0]? = some (1, n0, z0)) (hF : Fr p s m args meth c RX8 cX8_entry 2 (some .int) D Y E LC) {o : Int32 × Sta} : ∀ (σ : Sta) (H : Heap) (locs : List Loc) (ls : Array Slot), f_X8_entry_16 q0 n0 σ = some o → va_P D vwCl (wd Y E σ 0 LC) H → va_S (AF E LC.length s.heap.size) s.heap H locs → lv_has ls 2 [] → WI p l e rm_X8_entry s m args below meth c LC Y D E o H locs (F0 m 16 ls []) := by
  intro σ H locs ls h hP hS hl
  unfold f_X8_entry_16 at h
  obtain ⟨hC, hb, hml, hr, hlk, hD, hSW⟩ := id hF
  have hx := hC.1
  refine lv_iconst (v := 0) hx hb dX8_entry_16 (by decide) ?_
  exact t_X8_entry_17  hq0 hF 0 σ _ _ _ h hP hS (lv_sub hl [] rfl)

def f_X8_entry (q0 n0 : Nat) (a1 : Int32) (σ : Sta) : Option (Int32 × Sta) :=
  if a1 < 0 then
    f_X8_entry_16 q0 n0 σ
  else
    if Int32.ofNat n0 ≤ a1 then
      f_X8_entry_16 q0 n0 σ
    else
      if a1 < 0 ∨ n0 ≤ (a1.toNatClampNeg) then none else (
      f_X8_entry_17 q0 n0 (gA σ q0 (a1.toNatClampNeg)) σ)
set_option maxHeartbeats 4000000 in
set_option maxRecDepth 100000 in
theorem c_X8_entry {l : Launch} {D : va_G} {Y : CYs} {E : Nat → Nat} {q0 n0 : Nat} {a1 : Int32} {z0 : List (Nat × Nat)} (hq0 : LC[q0]? = some (1, n0, z0)) {σ : Sta} {o : Int32 × Sta} (h : f_X8_entry q0 n0 a1 σ = some o) : MI l yX8_entry (Cond.code yX8_entry cX8_entry 2 (some .int) :: gW) rm_X8_entry LC Y D E [.ref (E q0), .int a1] σ o := by
  intro sz
  refine Met_of (Qc := fun sz => QI LC Y D E sz o) (by decide) (Nat.le_of_ble_eq_true rfl) (fun p e s m args below meth c hF hP ls hl => ?_) sz
  have hS : va_S (AF E LC.length s.heap.size) s.heap s.heap [] := va_S.rf
  have hl : lv_has ls 2 [(0, .ref (E q0)), (1, .int a1)] := hl
  show WI p l e rm_X8_entry s m args below meth c LC Y D E o s.heap [] (F0 m 0 ls [])
  unfold f_X8_entry at h
  obtain ⟨hC, hb, hml, hr, hlk, hD, hSW⟩ := id hF
  have hx := hC.1
  refine lv_iload_n hx hb dX8_entry_0 rfl (lv_at hl 1 rfl) ?_
  refine lv_if_lt (tgt := 16) hx hb dX8_entry_1 (by decide) (fun c1 => ?_) (fun c1 => ?_)
  · have h := of_t h c1
    exact t_X8_entry_16  hq0 hF σ _ _ _ h hP hS (lv_sub hl [] rfl)
  · have h := of_f h c1
    refine lv_iload_n hx hb dX8_entry_4 rfl (lv_at hl 1 rfl) ?_
    refine lv_aload_n hx hb dX8_entry_5 rfl (lv_at hl 0 rfl) ?_
    refine x_alen (v := Int32.ofNat n0) hC hb hP hq0 (Or.inl rfl) rfl dX8_entry_6 ?_
    refine lv_icmp_ge (tgt := 16) hx hb dX8_entry_7 (by decide) (fun c2 => ?_) (fun c2 => ?_)
    · have h := of_t h c2
      exact t_X8_entry_16  hq0 hF σ _ _ _ h hP hS (lv_sub hl [] rfl)
    · have h := of_f h c2
      refine lv_aload_n hx hb dX8_entry_10 rfl (lv_at hl 0 rfl) ?_
      refine lv_iload_n hx hb dX8_entry_11 rfl (lv_at hl 1 rfl) ?_
      obtain ⟨g3, h⟩ := of_gd h
      refine x_iald hC hb hP hq0 g3 dX8_entry_12 ?_
      refine lv_goto (tgt := 17) hx hb dX8_entry_13 (by decide) ?_
      exact t_X8_entry_17  hq0 hF (gA σ q0 (a1.toNatClampNeg)) σ _ _ _ h hP hS (lv_sub hl [] rfl)

abbrev rm_X8_entry_ : Room := { frames := 0, cells := 0, slots := 0, locals := 0 }
def f_X8_entry__17 (q0 n0 : Nat) (s0 : Int64) (σ : Sta) : Option (Int64 × Sta) :=
  some (s0, σ)
set_option maxHeartbeats 4000000 in
set_option maxRecDepth 100000 in
theorem t_X8_entry__17 {l : Launch} {D : va_G} {Y : CYs} {E : Nat → Nat} {p : Program} {e : Env} {s : State} {m : MethodId} {args : Array Value} {below : List Frame} {meth : Method} {c : Code} {q0 n0 : Nat} {z0 : List (Nat × Nat)} (hq0 : LC[q0]? = some (2, n0, z0)) (hF : Fr p s m args meth c RX8 cX8_entry_ 2 (some .long) D Y E LC) {o : Int64 × Sta} : ∀ (s0 : Int64) (σ : Sta) (H : Heap) (locs : List Loc) (ls : Array Slot), f_X8_entry__17 q0 n0 s0 σ = some o → va_P D vwCl (wd Y E σ 0 LC) H → va_S (AF E LC.length s.heap.size) s.heap H locs → lv_has ls 2 [] → WL p l e rm_X8_entry_ s m args below meth c LC Y D E o H locs (F0 m 17 ls [.long s0]) := by
  intro s0 σ H locs ls h hP hS hl
  unfold f_X8_entry__17 at h
  obtain ⟨hC, hb, hml, hr, hlk, hD, hSW⟩ := id hF
  have hx := hC.1
  exact x_lret hF hP hS h dX8_entry__17

def f_X8_entry__16 (q0 n0 : Nat) (σ : Sta) : Option (Int64 × Sta) :=
  f_X8_entry__17 q0 n0 0 σ
set_option maxHeartbeats 4000000 in
set_option maxRecDepth 100000 in
theorem t_X8_entry__16 {l : Launch} {D : va_G} {Y : CYs} {E : Nat → Nat} {p : Program} {e : Env} {s : State} {m : MethodId} {args : Array Value} {below : List Frame} {meth : Method} {c : Code} {q0 n0 : Nat} {z0 : List (Nat × Nat)} (hq0 : LC[q0]? = some (2, n0, z0)) (hF : Fr p s m args meth c RX8 cX8_entry_ 2 (some .long) D Y E LC) {o : Int64 × Sta} : ∀ (σ : Sta) (H : Heap) (locs : List Loc) (ls : Array Slot), f_X8_entry__16 q0 n0 σ = some o → va_P D vwCl (wd Y E σ 0 LC) H → va_S (AF E LC.length s.heap.size) s.heap H locs → lv_has ls 2 [] → WL p l e rm_X8_entry_ s m args below meth c LC Y D E o H locs (F0 m 16 ls []) := by
  intro σ H locs ls h hP hS hl
  unfold f_X8_entry__16 at h
  obtain ⟨hC, hb, hml, hr, hlk, hD, hSW⟩ := id hF
  have hx := hC.1
  refine lv_lconst (v := 0) hx hb dX8_entry__16 (by decide) ?_
  exact t_X8_entry__17  hq0 hF 0 σ _ _ _ h hP hS (lv_sub hl [] rfl)

def f_X8_entry_ (q0 n0 : Nat) (a1 : Int32) (σ : Sta) : Option (Int64 × Sta) :=
  if a1 < 0 then
    f_X8_entry__16 q0 n0 σ
  else
    if Int32.ofNat n0 ≤ a1 then
      f_X8_entry__16 q0 n0 σ
    else
      if a1 < 0 ∨ n0 ≤ (a1.toNatClampNeg) then none else (
      f_X8_entry__17 q0 n0 (gJ σ q0 (a1.toNatClampNeg)) σ)
set_option maxHeartbeats 4000000 in
set_option maxRecDepth 100000 in
theorem c_X8_entry_ {l : Launch} {D : va_G} {Y : CYs} {E : Nat → Nat} {q0 n0 : Nat} {a1 : Int32} {z0 : List (Nat × Nat)} (hq0 : LC[q0]? = some (2, n0, z0)) {σ : Sta} {o : Int64 × Sta} (h : f_X8_entry_ q0 n0 a1 σ = some o) : ML l yX8_entry_ (Cond.code yX8_entry_ cX8_entry_ 2 (some .long) :: gW) rm_X8_entry_ LC Y D E [.ref (E q0), .int a1] σ o := by
  intro sz
  refine Met_of (Qc := fun sz => QL LC Y D E sz o) (by decide) (Nat.le_of_ble_eq_true rfl) (fun p e s m args below meth c hF hP ls hl => ?_) sz
  have hS : va_S (AF E LC.length s.heap.size) s.heap s.heap [] := va_S.rf
  have hl : lv_has ls 2 [(0, .ref (E q0)), (1, .int a1)] := hl
  show WL p l e rm_X8_entry_ s m args below meth c LC Y D E o s.heap [] (F0 m 0 ls [])
  unfold f_X8_entry_ at h
  obtain ⟨hC, hb, hml, hr, hlk, hD, hSW⟩ := id hF
  have hx := hC.1
  refine lv_iload_n hx hb dX8_entry__0 rfl (lv_at hl 1 rfl) ?_
  refine lv_if_lt (tgt := 16) hx hb dX8_entry__1 (by decide) (fun c1 => ?_) (fun c1 => ?_)
  · have h := of_t h c1
    exact t_X8_entry__16  hq0 hF σ _ _ _ h hP hS (lv_sub hl [] rfl)
  · have h := of_f h c1
    refine lv_iload_n hx hb dX8_entry__4 rfl (lv_at hl 1 rfl) ?_
    refine lv_aload_n hx hb dX8_entry__5 rfl (lv_at hl 0 rfl) ?_
    refine x_alen (v := Int32.ofNat n0) hC hb hP hq0 (Or.inr (Or.inl rfl)) rfl dX8_entry__6 ?_
    refine lv_icmp_ge (tgt := 16) hx hb dX8_entry__7 (by decide) (fun c2 => ?_) (fun c2 => ?_)
    · have h := of_t h c2
      exact t_X8_entry__16  hq0 hF σ _ _ _ h hP hS (lv_sub hl [] rfl)
    · have h := of_f h c2
      refine lv_aload_n hx hb dX8_entry__10 rfl (lv_at hl 0 rfl) ?_
      refine lv_iload_n hx hb dX8_entry__11 rfl (lv_at hl 1 rfl) ?_
      obtain ⟨g3, h⟩ := of_gd h
      refine x_lald hC hb hP hq0 g3 dX8_entry__12 ?_
      refine lv_goto (tgt := 17) hx hb dX8_entry__13 (by decide) ?_
      exact t_X8_entry__17  hq0 hF (gJ σ q0 (a1.toNatClampNeg)) σ _ _ _ h hP hS (lv_sub hl [] rfl)
