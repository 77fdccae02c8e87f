
abbrev rm_X10_digest : Room := { frames := 1, cells := 0, slots := 0, locals := 21 }
def f_X10_digest_90 (k79 : Int64 → Int32 → Sta → Option (Int64 × Sta)) : Nat → Int64 → Int32 → Int32 → Sta → Option (Int64 × Sta)
  | 0, _, _, _, _ => none
  | n + 1, v1, v3, v4, σ => if gI σ 10 ≤ v4 then
      bnd (f_X10_choicesTold v3 σ) (fun r2 σ3 =>
      lt ((v1 * 31) + r2.toInt64) (fun x5 =>
      lt (v3 + 1) (fun x6 =>
      k79 x5 x6 σ3)))
    else
      if (6 * v3) + v4 < 0 ∨ 600 ≤ (((6 * v3) + v4).toNatClampNeg) then none else (
      lt ((v1 * 31) + ((gA σ 21 (((6 * v3) + v4).toNatClampNeg)).toInt64)) (fun x8 =>
      lt (v4 + 1) (fun x9 =>
      f_X10_digest_90 k79 n x8 v3 x9 σ)))
set_option maxHeartbeats 4000000 in
set_option maxRecDepth 100000 in
theorem t_X10_digest_90 {l : Launch} {D : va_G} {Y : CYs} {E : Nat → Nat} {X : List Dsc} (hX : Lok (LM ++ X)) {p : Program} {e : Env} {s : State} {m : MethodId} {args : Array Value} {below : List Frame} {meth : Method} {c : Code} (hF : Fr p s m args meth c RX10 cX10_digest 5 (some .long) D Y E (LM ++ X)) {o : Int64 × Sta} (k79 : Int64 → Int32 → Sta → Option (Int64 × Sta)) (hk79 : ∀ (v1 : Int64) (v3 : Int32) (σ : Sta) (H : Heap) (locs : List Loc) (ls : Array Slot), k79 v1 v3 σ = some o → va_P D vwCl (wd Y E σ 0 (LM ++ X)) H → va_S (AF E (LM ++ X).length s.heap.size) s.heap H locs → lv_has ls 5 [(0, .ref (E 0)), (1, .long v1), (3, .int v3)] → WL p l e rm_X10_digest s m args below meth c (LM ++ X) Y D E o H locs (F0 m 79 ls [])) : ∀ (n : Nat) (v1 : Int64) (v3 : Int32) (v4 : Int32) (σ : Sta) (H : Heap) (locs : List Loc) (ls : Array Slot), f_X10_digest_90 k79 n v1 v3 v4 σ = some o → va_P D vwCl (wd Y E σ 0 (LM ++ X)) H → va_S (AF E (LM ++ X).length s.heap.size) s.heap H locs → lv_has ls 5 [(0, .ref (E 0)), (1, .long v1), (3, .int v3), (4, .int v4)] → WL p l e rm_X10_digest s m args below meth c (LM ++ X) Y D E o H locs (F0 m 90 ls []) := by
  intro n
  induction n with
  | zero =>
    intro v1 v3 v4 σ H locs ls h hP hS hl
    exact nomatch (show (none : Option (Int64 × Sta)) = some o from h)
  | succ n ih =>
    intro v1 v3 v4 σ H locs ls h hP hS hl
    rw [f_X10_digest_90] at h
    obtain ⟨hC, hb, hml, hr, hlk, hD, hSW⟩ := id hF
    have hx := hC.1
    refine lv_iload hx hb dX10_digest_90 (lv_at hl 3 rfl) ?_
    refine lv_aload_n hx hb dX10_digest_92 rfl (lv_at hl 0 rfl) ?_
    refine gf_X10_198 hC hb hP dX10_digest_93 ?_
    refine lv_icmp_ge (tgt := 125) hx hb dX10_digest_96 (by decide) (fun c1 => ?_) (fun c1 => ?_)
    · have h := of_t h c1
      refine lv_lload_n hx hb dX10_digest_125 rfl (lv_at hl 1 rfl) ?_
      refine lv_ldc2 (v := 31) hx hb hC.2.2.1 (hC.2.1 (Cond.constantLong RX10 462 31) (gw_t (tb8 (List.mem_of_getElem? (i := 140) rfl)) rfl)) dX10_digest_126 ?_
      refine lv_lmul hx hb dX10_digest_129 ?_
      refine lv_aload_n hx hb dX10_digest_130 rfl (lv_at hl 0 rfl) ?_
      refine lv_iload_n hx hb dX10_digest_131 rfl (lv_at hl 2 rfl) ?_
      obtain ⟨r2, σ3, g4, h⟩ := of_bnd h
      refine x_VI (As := [.int v3]) (rest := [.long (v1 * 31)]) hF hl hP hS (c_X10_choicesTold hX g4) (cw_X10_395 hC rfl rfl ⟨Nat.le_of_ble_eq_true rfl, Nat.le_of_ble_eq_true rfl⟩) (lm_0 X) rfl rfl rfl (Nat.le_of_ble_eq_true rfl) dX10_digest_132 ⟨Nat.zero_le _, Nat.zero_le _⟩ (fun H locs hP hS => ?_)
      refine lv_i2l (v := r2.toInt64) hx hb dX10_digest_135 rfl ?_
      refine lv_ladd hx hb dX10_digest_136 ?_
      refine lv_topl (fun x5 ex5 => ?_)
      have h := of_lt h ex5
      refine lv_lstore_n (lv' := [(1, .long x5), (0, .ref (E 0)), (3, .int v3), (4, .int v4)]) hx hb dX10_digest_137 rfl hl (by decide) rfl (fun ls hl => ?_)
      obtain ⟨x6, ex6⟩ : ∃ y : Int32, y = v3 + 1 := ⟨_, rfl⟩
      have h := of_lt h ex6
      refine lv_iinc (v := x6) (lv' := [(3, .int x6), (1, .long x5), (0, .ref (E 0)), (4, .int v4)]) hx hb dX10_digest_138 hl (k := 2) rfl (by rw [ex6]; rfl) (by decide) rfl (fun ls hl => ?_)
      refine lv_goto (tgt := 79) hx hb dX10_digest_141 (by decide) ?_
      exact hk79 x5 x6 σ3 _ _ _ h hP hS (lv_sub hl [2, 1, 0] rfl)
    · have h := of_f h c1
      refine lv_lload_n hx hb dX10_digest_99 rfl (lv_at hl 1 rfl) ?_
      refine lv_ldc2 (v := 31) hx hb hC.2.2.1 (hC.2.1 (Cond.constantLong RX10 462 31) (gw_t (tb8 (List.mem_of_getElem? (i := 140) rfl)) rfl)) dX10_digest_100 ?_
      refine lv_lmul hx hb dX10_digest_103 ?_
      refine lv_aload_n hx hb dX10_digest_104 rfl (lv_at hl 0 rfl) ?_
      refine gf_X10_75 hC hb hP dX10_digest_105 ?_
      refine lv_bipush (v := 6) hx hb dX10_digest_108 (by decide) ?_
      refine lv_iload_n hx hb dX10_digest_110 rfl (lv_at hl 2 rfl) ?_
      refine lv_imul hx hb dX10_digest_111 ?_
      refine lv_iload hx hb dX10_digest_112 (lv_at hl 3 rfl) ?_
      refine lv_iadd hx hb dX10_digest_114 ?_
      obtain ⟨g7, h⟩ := of_gd h
      refine x_iald hC hb hP (lm_21 X) g7 dX10_digest_115 ?_
      refine lv_i2l (v := (gA σ 21 (((6 * v3) + v4).toNatClampNeg)).toInt64) hx hb dX10_digest_116 rfl ?_
      refine lv_ladd hx hb dX10_digest_117 ?_
      refine lv_topl (fun x8 ex8 => ?_)
      have h := of_lt h ex8
      refine lv_lstore_n (lv' := [(1, .long x8), (0, .ref (E 0)), (3, .int v3), (4, .int v4)]) hx hb dX10_digest_118 rfl hl (by decide) rfl (fun ls hl => ?_)
      obtain ⟨x9, ex9⟩ : ∃ y : Int32, y = v4 + 1 := ⟨_, rfl⟩
      have h := of_lt h ex9
      refine lv_iinc (v := x9) (lv' := [(4, .int x9), (1, .long x8), (0, .ref (E 0)), (3, .int v3)]) hx hb dX10_digest_119 hl (k := 3) rfl (by rw [ex9]; rfl) (by decide) rfl (fun ls hl => ?_)
      refine lv_goto (tgt := 90) hx hb dX10_digest_122 (by decide) ?_
      exact ih x8 v3 x9 σ _ _ _ h hP hS (lv_sub hl [2, 1, 3, 0] rfl)

def f_X10_digest_221 (k146 : Int64 → Int32 → Sta → Option (Int64 × Sta)) : Nat → Int64 → Int32 → Int32 → Sta → Option (Int64 × Sta)
  | 0, _, _, _, _ => none
  | n + 1, v1, v3, v4, σ => if gI σ 37 ≤ v4 then
      lt (v3 + 1) (fun x2 =>
      k146 v1 x2 σ)
    else
      if v3 < 0 ∨ 22 ≤ (v3.toNatClampNeg) then none else (
      if ((3100 * v3) + (100 * (gA σ 30 (v3.toNatClampNeg)))) + v4 < 0 ∨ 68200 ≤ ((((3100 * v3) + (100 * (gA σ 30 (v3.toNatClampNeg)))) + v4).toNatClampNeg) then none else (
      lt ((v1 * 31) + ((gA σ 31 ((((3100 * v3) + (100 * (gA σ 30 (v3.toNatClampNeg)))) + v4).toNatClampNeg)).toInt64)) (fun x5 =>
      lt (v4 + 1) (fun x6 =>
      f_X10_digest_221 k146 n x5 v3 x6 σ))))
set_option maxHeartbeats 4000000 in
set_option maxRecDepth 100000 in
theorem t_X10_digest_221 {l : Launch} {D : va_G} {Y : CYs} {E : Nat → Nat} {X : List Dsc} (hX : Lok (LM ++ X)) {p : Program} {e : Env} {s : State} {m : MethodId} {args : Array Value} {below : List Frame} {meth : Method} {c : Code} (hF : Fr p s m args meth c RX10 cX10_digest 5 (some .long) D Y E (LM ++ X)) {o : Int64 × Sta} (k146 : Int64 → Int32 → Sta → Option (Int64 × Sta)) (hk146 : ∀ (v1 : Int64) (v3 : Int32) (σ : Sta) (H : Heap) (locs : List Loc) (ls : Array Slot), k146 v1 v3 σ = some o → va_P D vwCl (wd Y E σ 0 (LM ++ X)) H → va_S (AF E (LM ++ X).length s.heap.size) s.heap H locs → lv_has ls 5 [(0, .ref (E 0)), (1, .long v1), (3, .int v3)] → WL p l e rm_X10_digest s m args below meth c (LM ++ X) Y D E o H locs (F0 m 146 ls [])) : ∀ (n : Nat) (v1 : Int64) (v3 : Int32) (v4 : Int32) (σ : Sta) (H : Heap) (locs : List Loc) (ls : Array Slot), f_X10_digest_221 k146 n v1 v3 v4 σ = some o → va_P D vwCl (wd Y E σ 0 (LM ++ X)) H → va_S (AF E (LM ++ X).length s.heap.size) s.heap H locs → lv_has ls 5 [(0, .ref (E 0)), (1, .long v1), (3, .int v3), (4, .int v4)] → WL p l e rm_X10_digest s m args below meth c (LM ++ X) Y D E o H locs (F0 m 221 ls []) := by
  intro n
  induction n with
  | zero =>
    intro v1 v3 v4 σ H locs ls h hP hS hl
    exact nomatch (show (none : Option (Int64 × Sta)) = some o from h)
  | succ n ih =>
    intro v1 v3 v4 σ H locs ls h hP hS hl
    rw [f_X10_digest_221] at h
    obtain ⟨hC, hb, hml, hr, hlk, hD, hSW⟩ := id hF
    have hx := hC.1
    refine lv_iload hx hb dX10_digest_221 (lv_at hl 3 rfl) ?_
    refine lv_aload_n hx hb dX10_digest_223 rfl (lv_at hl 0 rfl) ?_
    refine gf_X10_213 hC hb hP dX10_digest_224 ?_
    refine lv_icmp_ge (tgt := 267) hx hb dX10_digest_227 (by decide) (fun c1 => ?_) (fun c1 => ?_)
    · have h := of_t h c1
      obtain ⟨x2, ex2⟩ : ∃ y : Int32, y = v3 + 1 := ⟨_, rfl⟩
      have h := of_lt h ex2
      refine lv_iinc (v := x2) (lv' := [(3, .int x2), (0, .ref (E 0)), (1, .long v1), (4, .int v4)]) hx hb dX10_digest_267 hl (k := 2) rfl (by rw [ex2]; rfl) (by decide) rfl (fun ls hl => ?_)
      refine lv_goto (tgt := 146) hx hb dX10_digest_270 (by decide) ?_
      exact hk146 v1 x2 σ _ _ _ h hP hS (lv_sub hl [1, 2, 0] rfl)
    · have h := of_f h c1
      refine lv_lload_n hx hb dX10_digest_230 rfl (lv_at hl 1 rfl) ?_
      refine lv_ldc2 (v := 31) hx hb hC.2.2.1 (hC.2.1 (Cond.constantLong RX10 462 31) (gw_t (tb8 (List.mem_of_getElem? (i := 140) rfl)) rfl)) dX10_digest_231 ?_
      refine lv_lmul hx hb dX10_digest_234 ?_
      refine lv_aload_n hx hb dX10_digest_235 rfl (lv_at hl 0 rfl) ?_
      refine gf_X10_107 hC hb hP dX10_digest_236 ?_
      refine lv_sipush (v := 3100) hx hb dX10_digest_239 (by decide) ?_
      refine lv_iload_n hx hb dX10_digest_242 rfl (lv_at hl 2 rfl) ?_
      refine lv_imul hx hb dX10_digest_243 ?_
      refine lv_bipush (v := 100) hx hb dX10_digest_244 (by decide) ?_
      refine lv_aload_n hx hb dX10_digest_246 rfl (lv_at hl 0 rfl) ?_
      refine gf_X10_103 hC hb hP dX10_digest_247 ?_
      refine lv_iload_n hx hb dX10_digest_250 rfl (lv_at hl 2 rfl) ?_
      obtain ⟨g3, h⟩ := of_gd h
      refine x_iald hC hb hP (lm_30 X) g3 dX10_digest_251 ?_
      refine lv_imul hx hb dX10_digest_252 ?_
      refine lv_iadd hx hb dX10_digest_253 ?_
      refine lv_iload hx hb dX10_digest_254 (lv_at hl 3 rfl) ?_
      refine lv_iadd hx hb dX10_digest_256 ?_
      obtain ⟨g4, h⟩ := of_gd h
      refine x_iald hC hb hP (lm_31 X) g4 dX10_digest_257 ?_
      refine lv_i2l (v := (gA σ 31 ((((3100 * v3) + (100 * (gA σ 30 (v3.toNatClampNeg)))) + v4).toNatClampNeg)).toInt64) hx hb dX10_digest_258 rfl ?_
      refine lv_ladd hx hb dX10_digest_259 ?_
      refine lv_topl (fun x5 ex5 => ?_)
      have h := of_lt h ex5
      refine lv_lstore_n (lv' := [(1, .long x5), (0, .ref (E 0)), (3, .int v3), (4, .int v4)]) hx hb dX10_digest_260 rfl hl (by decide) rfl (fun ls hl => ?_)
      obtain ⟨x6, ex6⟩ : ∃ y : Int32, y = v4 + 1 := ⟨_, rfl⟩
      have h := of_lt h ex6
      refine lv_iinc (v := x6) (lv' := [(4, .int x6), (1, .long x5), (0, .ref (E 0)), (3, .int v3)]) hx hb dX10_digest_261 hl (k := 3) rfl (by rw [ex6]; rfl) (by decide) rfl (fun ls hl => ?_)
      refine lv_goto (tgt := 221) hx hb dX10_digest_264 (by decide) ?_
      exact ih x5 v3 x6 σ _ _ _ h hP hS (lv_sub hl [2, 1, 3, 0] rfl)

def f_X10_digest_171 (k146 : Int64 → Int32 → Sta → Option (Int64 × Sta)) : Nat → Int64 → Int32 → Int32 → Sta → Option (Int64 × Sta)
  | 0, _, _, _, _ => none
  | n + 1, v1, v3, v4, σ => if gI σ 15 ≤ v4 then
      if v3 < 0 ∨ 22 ≤ (v3.toNatClampNeg) then none else (
      lt ((v1 * 31) + ((gA σ 34 (v3.toNatClampNeg)).toInt64)) (fun x3 =>
      f_X10_digest_221 k146 FU x3 v3 0 σ))
    else
      if (3 * v3) + v4 < 0 ∨ 66 ≤ (((3 * v3) + v4).toNatClampNeg) then none else (
      lt ((v1 * 31) + (gJ σ 33 (((3 * v3) + v4).toNatClampNeg))) (fun x5 =>
      lt (v4 + 1) (fun x6 =>
      f_X10_digest_171 k146 n x5 v3 x6 σ)))
set_option maxHeartbeats 4000000 in
set_option maxRecDepth 100000 in
theorem t_X10_digest_171 {l : Launch} {D : va_G} {Y : CYs} {E : Nat → Nat} {X : List Dsc} (hX : Lok (LM ++ X)) {p : Program} {e : Env} {s : State} {m : MethodId} {args : Array Value} {below : List Frame} {meth : Method} {c : Code} (hF : Fr p s m args meth c RX10 cX10_digest 5 (some .long) D Y E (LM ++ X)) {o : Int64 × Sta} (k146 : Int64 → Int32 → Sta → Option (Int64 × Sta)) (hk146 : ∀ (v1 : Int64) (v3 : Int32) (σ : Sta) (H : Heap) (locs : List Loc) (ls : Array Slot), k146 v1 v3 σ = some o → va_P D vwCl (wd Y E σ 0 (LM ++ X)) H → va_S (AF E (LM ++ X).length s.heap.size) s.heap H locs → lv_has ls 5 [(0, .ref (E 0)), (1, .long v1), (3, .int v3)] → WL p l e rm_X10_digest s m args below meth c (LM ++ X) Y D E o H locs (F0 m 146 ls [])) : ∀ (n : Nat) (v1 : Int64) (v3 : Int32) (v4 : Int32) (σ : Sta) (H : Heap) (locs : List Loc) (ls : Array Slot), f_X10_digest_171 k146 n v1 v3 v4 σ = some o → va_P D vwCl (wd Y E σ 0 (LM ++ X)) H → va_S (AF E (LM ++ X).length s.heap.size) s.heap H locs → lv_has ls 5 [(0, .ref (E 0)), (1, .long v1), (3, .int v3), (4, .int v4)] → WL p l e rm_X10_digest s m args below meth c (LM ++ X) Y D E o H locs (F0 m 171 ls []) := by
  intro n
  induction n with
  | zero =>
    intro v1 v3 v4 σ H locs ls h hP hS hl
    exact nomatch (show (none : Option (Int64 × Sta)) = some o from h)
  | succ n ih =>
    intro v1 v3 v4 σ H locs ls h hP hS hl
    rw [f_X10_digest_171] at h
    obtain ⟨hC, hb, hml, hr, hlk, hD, hSW⟩ := id hF
    have hx := hC.1
    refine lv_iload hx hb dX10_digest_171 (lv_at hl 3 rfl) ?_
    refine lv_aload_n hx hb dX10_digest_173 rfl (lv_at hl 0 rfl) ?_
    refine gf_X10_201 hC hb hP dX10_digest_174 ?_
    refine lv_icmp_ge (tgt := 204) hx hb dX10_digest_177 (by decide) (fun c1 => ?_) (fun c1 => ?_)
    · have h := of_t h c1
      refine lv_lload_n hx hb dX10_digest_204 rfl (lv_at hl 1 rfl) ?_
      refine lv_ldc2 (v := 31) hx hb hC.2.2.1 (hC.2.1 (Cond.constantLong RX10 462 31) (gw_t (tb8 (List.mem_of_getElem? (i := 140) rfl)) rfl)) dX10_digest_205 ?_
      refine lv_lmul hx hb dX10_digest_208 ?_
      refine lv_aload_n hx hb dX10_digest_209 rfl (lv_at hl 0 rfl) ?_
      refine gf_X10_116 hC hb hP dX10_digest_210 ?_
      refine lv_iload_n hx hb dX10_digest_213 rfl (lv_at hl 2 rfl) ?_
      obtain ⟨g2, h⟩ := of_gd h
      refine x_iald hC hb hP (lm_34 X) g2 dX10_digest_214 ?_
      refine lv_i2l (v := (gA σ 34 (v3.toNatClampNeg)).toInt64) hx hb dX10_digest_215 rfl ?_
      refine lv_ladd hx hb dX10_digest_216 ?_
      refine lv_topl (fun x3 ex3 => ?_)
      have h := of_lt h ex3
      refine lv_lstore_n (lv' := [(1, .long x3), (0, .ref (E 0)), (3, .int v3), (4, .int v4)]) hx hb dX10_digest_217 rfl hl (by decide) rfl (fun ls hl => ?_)
      refine lv_iconst (v := 0) hx hb dX10_digest_218 (by decide) ?_
      refine lv_istore (lv' := [(4, .int 0), (1, .long x3), (0, .ref (E 0)), (3, .int v3)]) hx hb dX10_digest_219 hl (by decide) rfl (fun ls hl => ?_)
      exact t_X10_digest_221 hX  hF k146 hk146 FU x3 v3 0 σ _ _ _ h hP hS (lv_sub hl [2, 1, 3, 0] rfl)
    · have h := of_f h c1
      refine lv_lload_n hx hb dX10_digest_180 rfl (lv_at hl 1 rfl) ?_
      refine lv_ldc2 (v := 31) hx hb hC.2.2.1 (hC.2.1 (Cond.constantLong RX10 462 31) (gw_t (tb8 (List.mem_of_getElem? (i := 140) rfl)) rfl)) dX10_digest_181 ?_
      refine lv_lmul hx hb dX10_digest_184 ?_
      refine lv_aload_n hx hb dX10_digest_185 rfl (lv_at hl 0 rfl) ?_
      refine gf_X10_113 hC hb hP dX10_digest_186 ?_
      refine lv_iconst (v := 3) hx hb dX10_digest_189 (by decide) ?_
      refine lv_iload_n hx hb dX10_digest_190 rfl (lv_at hl 2 rfl) ?_
      refine lv_imul hx hb dX10_digest_191 ?_
      refine lv_iload hx hb dX10_digest_192 (lv_at hl 3 rfl) ?_
      refine lv_iadd hx hb dX10_digest_194 ?_
      obtain ⟨g4, h⟩ := of_gd h
      refine x_lald hC hb hP (lm_33 X) g4 dX10_digest_195 ?_
      refine lv_ladd hx hb dX10_digest_196 ?_
      refine lv_topl (fun x5 ex5 => ?_)
      have h := of_lt h ex5
      refine lv_lstore_n (lv' := [(1, .long x5), (0, .ref (E 0)), (3, .int v3), (4, .int v4)]) hx hb dX10_digest_197 rfl hl (by decide) rfl (fun ls hl => ?_)
      obtain ⟨x6, ex6⟩ : ∃ y : Int32, y = v4 + 1 := ⟨_, rfl⟩
      have h := of_lt h ex6
      refine lv_iinc (v := x6) (lv' := [(4, .int x6), (1, .long x5), (0, .ref (E 0)), (3, .int v3)]) hx hb dX10_digest_198 hl (k := 3) rfl (by rw [ex6]; rfl) (by decide) rfl (fun ls hl => ?_)
      refine lv_goto (tgt := 171) hx hb dX10_digest_201 (by decide) ?_
      exact ih x5 v3 x6 σ _ _ _ h hP hS (lv_sub hl [2, 1, 3, 0] rfl)

def f_X10_digest_146 : Nat → Int64 → Int32 → Sta → Option (Int64 × Sta)
  | 0, _, _, _ => none
  | n + 1, v1, v3, σ => if gI σ 47 ≤ v3 then
      some (v1, σ)
    else
      if v3 < 0 ∨ 22 ≤ (v3.toNatClampNeg) then none else (
      lt ((v1 * 31) + ((gA σ 30 (v3.toNatClampNeg)).toInt64)) (fun x3 =>
      f_X10_digest_171 (f_X10_digest_146 n) FU x3 v3 0 σ))
set_option maxHeartbeats 4000000 in
set_option maxRecDepth 100000 in
theorem t_X10_digest_146 {l : Launch} {D : va_G} {Y : CYs} {E : Nat → Nat} {X : List Dsc} (hX : Lok (LM ++ X)) {p : Program} {e : Env} {s : State} {m : MethodId} {args : Array Value} {below : List Frame} {meth : Method} {c : Code} (hF : Fr p s m args meth c RX10 cX10_digest 5 (some .long) D Y E (LM ++ X)) {o : Int64 × Sta} : ∀ (n : Nat) (v1 : Int64) (v3 : Int32) (σ : Sta) (H : Heap) (locs : List Loc) (ls : Array Slot), f_X10_digest_146 n v1 v3 σ = some o → va_P D vwCl (wd Y E σ 0 (LM ++ X)) H → va_S (AF E (LM ++ X).length s.heap.size) s.heap H locs → lv_has ls 5 [(0, .ref (E 0)), (1, .long v1), (3, .int v3)] → WL p l e rm_X10_digest s m args below meth c (LM ++ X) Y D E o H locs (F0 m 146 ls []) := by
  intro n
  induction n with
  | zero =>
    intro v1 v3 σ H locs ls h hP hS hl
    exact nomatch (show (none : Option (Int64 × Sta)) = some o from h)
  | succ n ih =>
    intro v1 v3 σ H locs ls h hP hS hl
    rw [f_X10_digest_146] at h
    obtain ⟨hC, hb, hml, hr, hlk, hD, hSW⟩ := id hF
    have hx := hC.1
    refine lv_iload_n hx hb dX10_digest_146 rfl (lv_at hl 2 rfl) ?_
    refine lv_aload_n hx hb dX10_digest_147 rfl (lv_at hl 0 rfl) ?_
    refine gf_X10_216 hC hb hP dX10_digest_148 ?_
    refine lv_icmp_ge (tgt := 273) hx hb dX10_digest_151 (by decide) (fun c1 => ?_) (fun c1 => ?_)
    · have h := of_t h c1
      refine lv_lload_n hx hb dX10_digest_273 rfl (lv_at hl 1 rfl) ?_
      exact x_lret hF hP hS h dX10_digest_274
    · have h := of_f h c1
      refine lv_lload_n hx hb dX10_digest_154 rfl (lv_at hl 1 rfl) ?_
      refine lv_ldc2 (v := 31) hx hb hC.2.2.1 (hC.2.1 (Cond.constantLong RX10 462 31) (gw_t (tb8 (List.mem_of_getElem? (i := 140) rfl)) rfl)) dX10_digest_155 ?_
      refine lv_lmul hx hb dX10_digest_158 ?_
      refine lv_aload_n hx hb dX10_digest_159 rfl (lv_at hl 0 rfl) ?_
      refine gf_X10_103 hC hb hP dX10_digest_160 ?_
      refine lv_iload_n hx hb dX10_digest_163 rfl (lv_at hl 2 rfl) ?_
      obtain ⟨g2, h⟩ := of_gd h
      refine x_iald hC hb hP (lm_30 X) g2 dX10_digest_164 ?_
      refine lv_i2l (v := (gA σ 30 (v3.toNatClampNeg)).toInt64) hx hb dX10_digest_165 rfl ?_
      refine lv_ladd hx hb dX10_digest_166 ?_
      refine lv_topl (fun x3 ex3 => ?_)
      have h := of_lt h ex3
      refine lv_lstore_n (lv' := [(1, .long x3), (0, .ref (E 0)), (3, .int v3)]) hx hb dX10_digest_167 rfl hl (by decide) rfl (fun ls hl => ?_)
      refine lv_iconst (v := 0) hx hb dX10_digest_168 (by decide) ?_
      refine lv_istore (lv' := [(4, .int 0), (1, .long x3), (0, .ref (E 0)), (3, .int v3)]) hx hb dX10_digest_169 hl (by decide) rfl (fun ls hl => ?_)
      exact t_X10_digest_171 hX  hF (f_X10_digest_146 n) ih FU x3 v3 0 σ _ _ _ h hP hS (lv_sub hl [2, 1, 3, 0] rfl)

def f_X10_digest_79 : Nat → Int64 → Int32 → Sta → Option (Int64 × Sta)
  | 0, _, _, _ => none
  | n + 1, v1, v3, σ => if gI σ 37 ≤ v3 then
      f_X10_digest_146 FU v1 0 σ
    else
      f_X10_digest_90 (f_X10_digest_79 n) FU v1 v3 0 σ
set_option maxHeartbeats 4000000 in
set_option maxRecDepth 100000 in
theorem t_X10_digest_79 {l : Launch} {D : va_G} {Y : CYs} {E : Nat → Nat} {X : List Dsc} (hX : Lok (LM ++ X)) {p : Program} {e : Env} {s : State} {m : MethodId} {args : Array Value} {below : List Frame} {meth : Method} {c : Code} (hF : Fr p s m args meth c RX10 cX10_digest 5 (some .long) D Y E (LM ++ X)) {o : Int64 × Sta} : ∀ (n : Nat) (v1 : Int64) (v3 : Int32) (σ : Sta) (H : Heap) (locs : List Loc) (ls : Array Slot), f_X10_digest_79 n v1 v3 σ = some o → va_P D vwCl (wd Y E σ 0 (LM ++ X)) H → va_S (AF E (LM ++ X).length s.heap.size) s.heap H locs → lv_has ls 5 [(0, .ref (E 0)), (1, .long v1), (3, .int v3)] → WL p l e rm_X10_digest s m args below meth c (LM ++ X) Y D E o H locs (F0 m 79 ls []) := by
  intro n
  induction n with
  | zero =>
    intro v1 v3 σ H locs ls h hP hS hl
    exact nomatch (show (none : Option (Int64 × Sta)) = some o from h)
  | succ n ih =>
    intro v1 v3 σ H locs ls h hP hS hl
    rw [f_X10_digest_79] at h
    obtain ⟨hC, hb, hml, hr, hlk, hD, hSW⟩ := id hF
    have hx := hC.1
    refine lv_iload_n hx hb dX10_digest_79 rfl (lv_at hl 2 rfl) ?_
    refine lv_aload_n hx hb dX10_digest_80 rfl (lv_at hl 0 rfl) ?_
    refine gf_X10_213 hC hb hP dX10_digest_81 ?_
    refine lv_icmp_ge (tgt := 144) hx hb dX10_digest_84 (by decide) (fun c1 => ?_) (fun c1 => ?_)
    · have h := of_t h c1
      refine lv_iconst (v := 0) hx hb dX10_digest_144 (by decide) ?_
      refine lv_istore_n (lv' := [(3, .int 0), (0, .ref (E 0)), (1, .long v1)]) hx hb dX10_digest_145 rfl hl (by decide) rfl (fun ls hl => ?_)
      exact t_X10_digest_146 hX  hF FU v1 0 σ _ _ _ h hP hS (lv_sub hl [1, 2, 0] rfl)
    · have h := of_f h c1
      refine lv_iconst (v := 0) hx hb dX10_digest_87 (by decide) ?_
      refine lv_istore (lv' := [(4, .int 0), (0, .ref (E 0)), (1, .long v1), (3, .int v3)]) hx hb dX10_digest_88 hl (by decide) rfl (fun ls hl => ?_)
      exact t_X10_digest_90 hX  hF (f_X10_digest_79 n) ih FU v1 v3 0 σ _ _ _ h hP hS (lv_sub hl [1, 2, 3, 0] rfl)

def f_X10_digest_49 : Nat → Int64 → Int32 → Sta → Option (Int64 × Sta)
  | 0, _, _, _ => none
  | n + 1, v1, v3, σ => if gI σ 15 ≤ v3 then
      f_X10_digest_79 FU v1 0 σ
    else
      if v3 < 0 ∨ 3 ≤ (v3.toNatClampNeg) then none else (
      lt ((v1 * 31) + ((gA σ 29 (v3.toNatClampNeg)).toInt64)) (fun x3 =>
      lt (v3 + 1) (fun x4 =>
      f_X10_digest_49 n x3 x4 σ)))
set_option maxHeartbeats 4000000 in
set_option maxRecDepth 100000 in
theorem t_X10_digest_49 {l : Launch} {D : va_G} {Y : CYs} {E : Nat → Nat} {X : List Dsc} (hX : Lok (LM ++ X)) {p : Program} {e : Env} {s : State} {m : MethodId} {args : Array Value} {below : List Frame} {meth : Method} {c : Code} (hF : Fr p s m args meth c RX10 cX10_digest 5 (some .long) D Y E (LM ++ X)) {o : Int64 × Sta} : ∀ (n : Nat) (v1 : Int64) (v3 : Int32) (σ : Sta) (H : Heap) (locs : List Loc) (ls : Array Slot), f_X10_digest_49 n v1 v3 σ = some o → va_P D vwCl (wd Y E σ 0 (LM ++ X)) H → va_S (AF E (LM ++ X).length s.heap.size) s.heap H locs → lv_has ls 5 [(0, .ref (E 0)), (1, .long v1), (3, .int v3)] → WL p l e rm_X10_digest s m args below meth c (LM ++ X) Y D E o H locs (F0 m 49 ls []) := by
  intro n
  induction n with
  | zero =>
    intro v1 v3 σ H locs ls h hP hS hl
    exact nomatch (show (none : Option (Int64 × Sta)) = some o from h)
  | succ n ih =>
    intro v1 v3 σ H locs ls h hP hS hl
    rw [f_X10_digest_49] at h
    obtain ⟨hC, hb, hml, hr, hlk, hD, hSW⟩ := id hF
    have hx := hC.1
    refine lv_iload_n hx hb dX10_digest_49 rfl (lv_at hl 2 rfl) ?_
    refine lv_aload_n hx hb dX10_digest_50 rfl (lv_at hl 0 rfl) ?_
    refine gf_X10_201 hC hb hP dX10_digest_51 ?_
    refine lv_icmp_ge (tgt := 77) hx hb dX10_digest_54 (by decide) (fun c1 => ?_) (fun c1 => ?_)
    · have h := of_t h c1
      refine lv_iconst (v := 0) hx hb dX10_digest_77 (by decide) ?_
      refine lv_istore_n (lv' := [(3, .int 0), (0, .ref (E 0)), (1, .long v1)]) hx hb dX10_digest_78 rfl hl (by decide) rfl (fun ls hl => ?_)
      exact t_X10_digest_79 hX  hF FU v1 0 σ _ _ _ h hP hS (lv_sub hl [1, 2, 0] rfl)
    · have h := of_f h c1
      refine lv_lload_n hx hb dX10_digest_57 rfl (lv_at hl 1 rfl) ?_
      refine lv_ldc2 (v := 31) hx hb hC.2.2.1 (hC.2.1 (Cond.constantLong RX10 462 31) (gw_t (tb8 (List.mem_of_getElem? (i := 140) rfl)) rfl)) dX10_digest_58 ?_
      refine lv_lmul hx hb dX10_digest_61 ?_
      refine lv_aload_n hx hb dX10_digest_62 rfl (lv_at hl 0 rfl) ?_
      refine gf_X10_100 hC hb hP dX10_digest_63 ?_
      refine lv_iload_n hx hb dX10_digest_66 rfl (lv_at hl 2 rfl) ?_
      obtain ⟨g2, h⟩ := of_gd h
      refine x_iald hC hb hP (lm_29 X) g2 dX10_digest_67 ?_
      refine lv_i2l (v := (gA σ 29 (v3.toNatClampNeg)).toInt64) hx hb dX10_digest_68 rfl ?_
      refine lv_ladd hx hb dX10_digest_69 ?_
      refine lv_topl (fun x3 ex3 => ?_)
      have h := of_lt h ex3
      refine lv_lstore_n (lv' := [(1, .long x3), (0, .ref (E 0)), (3, .int v3)]) hx hb dX10_digest_70 rfl hl (by decide) rfl (fun ls hl => ?_)
      obtain ⟨x4, ex4⟩ : ∃ y : Int32, y = v3 + 1 := ⟨_, rfl⟩
      have h := of_lt h ex4
      refine lv_iinc (v := x4) (lv' := [(3, .int x4), (1, .long x3), (0, .ref (E 0))]) hx hb dX10_digest_71 hl (k := 2) rfl (by rw [ex4]; rfl) (by decide) rfl (fun ls hl => ?_)
      refine lv_goto (tgt := 49) hx hb dX10_digest_74 (by decide) ?_
      exact ih x3 x4 σ _ _ _ h hP hS (lv_sub hl [2, 1, 0] rfl)

def f_X10_digest_11 : Nat → Int64 → Int32 → Sta → Option (Int64 × Sta)
  | 0, _, _, _ => none
  | n + 1, v1, v3, σ => if 6 ≤ v3 then
      lt ((v1 * 31) + (gL σ 55)) (fun x2 =>
      f_X10_digest_49 FU x2 0 σ)
    else
      bnd (f_X10_counted v3 σ) (fun r3 σ4 =>
      lt ((v1 * 31) + r3.toInt64) (fun x6 =>
      lt (v3 + 1) (fun x7 =>
      f_X10_digest_11 n x6 x7 σ4)))
set_option maxHeartbeats 4000000 in
set_option maxRecDepth 100000 in
theorem t_X10_digest_11 {l : Launch} {D : va_G} {Y : CYs} {E : Nat → Nat} {X : List Dsc} (hX : Lok (LM ++ X)) {p : Program} {e : Env} {s : State} {m : MethodId} {args : Array Value} {below : List Frame} {meth : Method} {c : Code} (hF : Fr p s m args meth c RX10 cX10_digest 5 (some .long) D Y E (LM ++ X)) {o : Int64 × Sta} : ∀ (n : Nat) (v1 : Int64) (v3 : Int32) (σ : Sta) (H : Heap) (locs : List Loc) (ls : Array Slot), f_X10_digest_11 n v1 v3 σ = some o → va_P D vwCl (wd Y E σ 0 (LM ++ X)) H → va_S (AF E (LM ++ X).length s.heap.size) s.heap H locs → lv_has ls 5 [(0, .ref (E 0)), (1, .long v1), (3, .int v3)] → WL p l e rm_X10_digest s m args below meth c (LM ++ X) Y D E o H locs (F0 m 11 ls []) := by
  intro n
  induction n with
  | zero =>
    intro v1 v3 σ H locs ls h hP hS hl
    exact nomatch (show (none : Option (Int64 × Sta)) = some o from h)
  | succ n ih =>
    intro v1 v3 σ H locs ls h hP hS hl
    rw [f_X10_digest_11] at h
    obtain ⟨hC, hb, hml, hr, hlk, hD, hSW⟩ := id hF
    have hx := hC.1
    refine lv_iload_n hx hb dX10_digest_11 rfl (lv_at hl 2 rfl) ?_
    refine lv_bipush (v := 6) hx hb dX10_digest_12 (by decide) ?_
    refine lv_icmp_ge (tgt := 36) hx hb dX10_digest_14 (by decide) (fun c1 => ?_) (fun c1 => ?_)
    · have h := of_t h c1
      refine lv_lload_n hx hb dX10_digest_36 rfl (lv_at hl 1 rfl) ?_
      refine lv_ldc2 (v := 31) hx hb hC.2.2.1 (hC.2.1 (Cond.constantLong RX10 462 31) (gw_t (tb8 (List.mem_of_getElem? (i := 140) rfl)) rfl)) dX10_digest_37 ?_
      refine lv_lmul hx hb dX10_digest_40 ?_
      refine lv_aload_n hx hb dX10_digest_41 rfl (lv_at hl 0 rfl) ?_
      refine gf_X10_446 hC hb hP dX10_digest_42 ?_
      refine lv_ladd hx hb dX10_digest_45 ?_
      refine lv_topl (fun x2 ex2 => ?_)
      have h := of_lt h ex2
      refine lv_lstore_n (lv' := [(1, .long x2), (0, .ref (E 0)), (3, .int v3)]) hx hb dX10_digest_46 rfl hl (by decide) rfl (fun ls hl => ?_)
      refine lv_iconst (v := 0) hx hb dX10_digest_47 (by decide) ?_
      refine lv_istore_n (lv' := [(3, .int 0), (1, .long x2), (0, .ref (E 0))]) hx hb dX10_digest_48 rfl hl (by decide) rfl (fun ls hl => ?_)
      exact t_X10_digest_49 hX  hF FU x2 0 σ _ _ _ h hP hS (lv_sub hl [2, 1, 0] rfl)
    · have h := of_f h c1
      refine lv_lload_n hx hb dX10_digest_17 rfl (lv_at hl 1 rfl) ?_
      refine lv_ldc2 (v := 31) hx hb hC.2.2.1 (hC.2.1 (Cond.constantLong RX10 462 31) (gw_t (tb8 (List.mem_of_getElem? (i := 140) rfl)) rfl)) dX10_digest_18 ?_
      refine lv_lmul hx hb dX10_digest_21 ?_
      refine lv_aload_n hx hb dX10_digest_22 rfl (lv_at hl 0 rfl) ?_
      refine lv_iload_n hx hb dX10_digest_23 rfl (lv_at hl 2 rfl) ?_
      obtain ⟨r3, σ4, g5, h⟩ := of_bnd h
      refine x_VI (As := [.int v3]) (rest := [.long (v1 * 31)]) hF hl hP hS (c_X10_counted hX g5) (cw_X10_356 hC rfl rfl ⟨Nat.le_of_ble_eq_true rfl, Nat.le_of_ble_eq_true rfl⟩) (lm_0 X) rfl rfl rfl (Nat.le_of_ble_eq_true rfl) dX10_digest_24 ⟨Nat.zero_le _, Nat.zero_le _⟩ (fun H locs hP hS => ?_)
      refine lv_i2l (v := r3.toInt64) hx hb dX10_digest_27 rfl ?_
      refine lv_ladd hx hb dX10_digest_28 ?_
      refine lv_topl (fun x6 ex6 => ?_)
      have h := of_lt h ex6
      refine lv_lstore_n (lv' := [(1, .long x6), (0, .ref (E 0)), (3, .int v3)]) hx hb dX10_digest_29 rfl hl (by decide) rfl (fun ls hl => ?_)
      obtain ⟨x7, ex7⟩ : ∃ y : Int32, y = v3 + 1 := ⟨_, rfl⟩
      have h := of_lt h ex7
      refine lv_iinc (v := x7) (lv' := [(3, .int x7), (1, .long x6), (0, .ref (E 0))]) hx hb dX10_digest_30 hl (k := 2) rfl (by rw [ex7]; rfl) (by decide) rfl (fun ls hl => ?_)
      refine lv_goto (tgt := 11) hx hb dX10_digest_33 (by decide) ?_
      exact ih x6 x7 σ4 _ _ _ h hP hS (lv_sub hl [2, 1, 0] rfl)

def f_X10_digest (σ : Sta) : Option (Int64 × Sta) :=
  lt (sI σ 0 0) (fun σ1 =>
  f_X10_digest_11 FU 331 0 σ1)
set_option maxHeartbeats 4000000 in
set_option maxRecDepth 100000 in
theorem c_X10_digest {l : Launch} {D : va_G} {Y : CYs} {E : Nat → Nat} {X : List Dsc} (hX : Lok (LM ++ X)) {σ : Sta} {o : Int64 × Sta} (h : f_X10_digest σ = some o) : ML l yX10_digest (Cond.code yX10_digest cX10_digest 5 (some .long) :: gW) rm_X10_digest (LM ++ X) Y D E [.ref (E 0)] σ o := by
  intro sz
  refine Met_of (Qc := fun sz => QL (LM ++ X) Y D E sz o) (by decide) (Nat.le_of_ble_eq_true rfl) (fun p e s m args below meth c hF hP ls hl => ?_) sz
  have hS : va_S (AF E (LM ++ X).length s.heap.size) s.heap s.heap [] := va_S.rf
  have hl : lv_has ls 5 [(0, .ref (E 0))] := hl
  show WL p l e rm_X10_digest s m args below meth c (LM ++ X) Y D E o s.heap [] (F0 m 0 ls [])
  unfold f_X10_digest at h
  obtain ⟨hC, hb, hml, hr, hlk, hD, hSW⟩ := id hF
  have hx := hC.1
  refine lv_aload_n hx hb dX10_digest_0 rfl (lv_at hl 0 rfl) ?_
  refine lv_iconst (v := 0) hx hb dX10_digest_1 (by decide) ?_
  refine pf_X10_140 hX hC hb hP hD hS dX10_digest_2 (fun H locs σ1 eσ1 hP hS => ?_)
  have h := of_lt h eσ1
  refine lv_ldc2 (v := 331) hx hb hC.2.2.1 (hC.2.1 (Cond.constantLong RX10 460 331) (gw_t (tb8 (List.mem_of_getElem? (i := 139) rfl)) rfl)) dX10_digest_5 ?_
  refine lv_lstore_n (lv' := [(1, .long 331), (0, .ref (E 0))]) hx hb dX10_digest_8 rfl hl (by decide) rfl (fun ls hl => ?_)
  refine lv_iconst (v := 0) hx hb dX10_digest_9 (by decide) ?_
  refine lv_istore_n (lv' := [(3, .int 0), (1, .long 331), (0, .ref (E 0))]) hx hb dX10_digest_10 rfl hl (by decide) rfl (fun ls hl => ?_)
  exact t_X10_digest_11 hX  hF FU 331 0 σ1 _ _ _ h hP hS (lv_sub hl [2, 1, 0] rfl)
