/-! The law's start (by wip/p32/start.py). -/
abbrev lwN : Cond := Jvm.Cond.and given_1 narrow_1
def stW (q : String × Nat × String × Nat × List Int32) : List Cond := [Cond.exactly (.string q.1 q.2.1) "java/lang/String", Cond.eq (.field (.string q.1 q.2.1) "java/lang/String" "coder" "B") (.int 0), Cond.arrayOf (.field (.string q.1 q.2.1) "java/lang/String" "value" "[B") .byte, Cond.eq (.length (.field (.string q.1 q.2.1) "java/lang/String" "value" "[B")) (.int (Int32.ofNat q.2.2.2.1))] ++ (List.range q.2.2.2.1).map (fun j => Cond.eq (.elem (.field (.string q.1 q.2.1) "java/lang/String" "value" "[B") (.int (Int32.ofNat j))) (.int (q.2.2.2.2.getD j 0)))
def rowW (f : String) (g : Nat → Int32) : List Cond := [Cond.arrayOf (.static "java/lang/Integer" f "[B") .byte, Cond.eq (.length (.static "java/lang/Integer" f "[B")) (.int (Int32.ofNat 100))] ++ (List.range 100).map (fun j => Cond.eq (.elem (.static "java/lang/Integer" f "[B") (.int (Int32.ofNat j))) (.int (g j)))
theorem sl_in {α : Type} {l l2 : List α} {a b : Nat} (h : (l.drop a).take b = l2) : ∀ w ∈ l2, w ∈ l := fun w hw => by
  rw [← h] at hw
  exact List.mem_of_mem_drop (List.mem_of_mem_take hw)
set_option maxRecDepth 100000 in
theorem stW_0 : ((flatC lwN).drop 1062).take 71 = stW ("MarkovBench$Tokens", 70, "var in to gain per goal do when go set also and or not min max abs ", 67, bKW) := by decide +kernel
set_option maxRecDepth 100000 in
theorem stW_1 : ((flatC lwN).drop 1156).take 16 = stW ("MarkovBench$Tokens", 62, "();,=+-*/%<>", 12, bS1) := by decide +kernel
set_option maxRecDepth 100000 in
theorem stW_2 : ((flatC lwN).drop 373).take 12 = stW ("MarkovBenchLaw$Walk", 58, "var x = ", 8, bW0) := by decide +kernel
set_option maxRecDepth 100000 in
theorem stW_3 : ((flatC lwN).drop 390).take 13 = stW ("MarkovBenchLaw$Walk", 67, " in 0 to ", 9, bW1) := by decide +kernel
set_option maxRecDepth 100000 in
theorem stW_4 : ((flatC lwN).drop 409).take 36 = stW ("MarkovBenchLaw$Walk", 69, "; var y = 0 in 0 to 3; gain g = ", 32, bW2) := by decide +kernel
set_option maxRecDepth 100000 in
theorem stW_5 : ((flatC lwN).drop 452).take 5 = stW ("MarkovBenchLaw$Walk", 71, "-", 1, bW3) := by decide +kernel
set_option maxRecDepth 100000 in
theorem stW_6 : ((flatC lwN).drop 465).take 4 = stW ("MarkovBenchLaw$Walk", 77, "", 0, bW4) := by decide +kernel
set_option maxRecDepth 100000 in
theorem stW_7 : ((flatC lwN).drop 478).take 11 = stW ("MarkovBenchLaw$Walk", 79, " + x * ", 7, bW5) := by decide +kernel
set_option maxRecDepth 100000 in
theorem stW_8 : ((flatC lwN).drop 499).take 34 = stW ("MarkovBenchLaw$Walk", 81, "; gain h per move = 3 - y * 2;", 30, bW6) := by decide +kernel
set_option maxRecDepth 100000 in
theorem stW_9 : ((flatC lwN).drop 544).take 14 = stW ("MarkovBenchLaw$Walk", 83, " goal x = ", 10, bW7) := by decide +kernel
set_option maxRecDepth 100000 in
theorem stW_10 : ((flatC lwN).drop 570).take 16 = stW ("MarkovBenchLaw$Walk", 85, " and y <> 3;", 12, bW8) := by decide +kernel
set_option maxRecDepth 100000 in
theorem stW_11 : ((flatC lwN).drop 599).take 22 = stW ("MarkovBenchLaw$Walk", 87, " do move when x < ", 18, bW9) := by decide +kernel
set_option maxRecDepth 100000 in
theorem stW_12 : ((flatC lwN).drop 635).take 8 = stW ("MarkovBenchLaw$Walk", 89, " go ", 4, bW10) := by decide +kernel
set_option maxRecDepth 100000 in
theorem stW_13 : ((flatC lwN).drop 658).take 46 = stW ("MarkovBenchLaw$Walk", 91, " set x = x + 1, y = min(y + 1, 3) also go ", 42, bW11) := by decide +kernel
set_option maxRecDepth 100000 in
theorem stW_14 : ((flatC lwN).drop 720).take 21 = stW ("MarkovBenchLaw$Walk", 93, " set x = max(x - ", 17, bW12) := by decide +kernel
set_option maxRecDepth 100000 in
theorem stW_15 : ((flatC lwN).drop 758).take 17 = stW ("MarkovBenchLaw$Walk", 95, ", 0) also go ", 13, bW13) := by decide +kernel
set_option maxRecDepth 100000 in
theorem stW_16 : ((flatC lwN).drop 793).take 86 = stW ("MarkovBenchLaw$Walk", 97, "; do rest when y > 0 go 100 set y = y - 1; gain w = abs(x - y); do jump when x >= ", 82, bW14) := by decide +kernel
set_option maxRecDepth 100000 in
theorem stW_17 : ((flatC lwN).drop 898).take 34 = stW ("MarkovBenchLaw$Walk", 99, " and y <> 1 go 50 set x = x - ", 30, bW15) := by decide +kernel
set_option maxRecDepth 100000 in
theorem stW_18 : ((flatC lwN).drop 952).take 37 = stW ("MarkovBenchLaw$Walk", 101, ", y = x % 4 also go 50 set y = 3;", 33, bW16) := by decide +kernel
set_option maxRecDepth 100000 in
theorem rowW_1 : ((flatC lwN).drop 12).take 102 = rowW "DigitOnes" dgO := by decide +kernel
set_option maxRecDepth 100000 in
theorem rowW_2 : ((flatC lwN).drop 115).take 102 = rowW "DigitTens" dgT := by decide +kernel
theorem stW_in : ∀ q ∈ strs, ∀ w ∈ stW q, w ∈ flatC lwN := List.forall_mem_cons.mpr ⟨sl_in stW_0, List.forall_mem_cons.mpr ⟨sl_in stW_1, List.forall_mem_cons.mpr ⟨sl_in stW_2, List.forall_mem_cons.mpr ⟨sl_in stW_3, List.forall_mem_cons.mpr ⟨sl_in stW_4, List.forall_mem_cons.mpr ⟨sl_in stW_5, List.forall_mem_cons.mpr ⟨sl_in stW_6, List.forall_mem_cons.mpr ⟨sl_in stW_7, List.forall_mem_cons.mpr ⟨sl_in stW_8, List.forall_mem_cons.mpr ⟨sl_in stW_9, List.forall_mem_cons.mpr ⟨sl_in stW_10, List.forall_mem_cons.mpr ⟨sl_in stW_11, List.forall_mem_cons.mpr ⟨sl_in stW_12, List.forall_mem_cons.mpr ⟨sl_in stW_13, List.forall_mem_cons.mpr ⟨sl_in stW_14, List.forall_mem_cons.mpr ⟨sl_in stW_15, List.forall_mem_cons.mpr ⟨sl_in stW_16, List.forall_mem_cons.mpr ⟨sl_in stW_17, List.forall_mem_cons.mpr ⟨sl_in stW_18, fun _ h => absurd h List.not_mem_nil⟩⟩⟩⟩⟩⟩⟩⟩⟩⟩⟩⟩⟩⟩⟩⟩⟩⟩⟩
theorem strs_sr : ∀ q ∈ strs, Cond.stringRef q.1 q.2.1 q.2.2.1 ∈ tables_1 := by decide +kernel
theorem strs_n : ∀ q ∈ strs, q.2.2.2.1 < 2 ^ 31 := by decide +kernel
theorem row_of {args : Array Value} {s : State} {f : String} {g : Nat → Int32} {A : Nat → Prop} (hw : ∀ w ∈ rowW f g, w.before args s = true) (hl : (Cond.laysStatic "java/lang/Integer" f "[B").before args s = true) (hi : (Cond.initialized "java/lang/Integer").before args s = true) (hA : ∀ a : Nat, a < s.heap.size → ¬ A a) : ∃ t, va_Z "java/lang/Integer" f "[B" (.ref t) A s s.heap ∧ va_T .byte t 100 (fun j => .int (g j)) A s s.heap := by
  obtain ⟨t, h1, h2⟩ := va_Tof (args := args) (s := s) (tm := .static "java/lang/Integer" f "[B") (ty := .byte) (N := 100) (f := fun j => .int (g j)) (A := A) (by decide) (hw _ (List.mem_append_left _ (List.mem_of_getElem? (i := 0) rfl))) (va_eqt (hw _ (List.mem_append_left _ (List.mem_of_getElem? (i := 1) rfl)))) (fun j hj => va_eqt (hw _ (List.mem_append_right _ (List.mem_map.mpr ⟨j, List.mem_range.mpr hj, rfl⟩)))) hA
  exact ⟨t, va_Zof hl hi h1 hA, h2⟩
theorem start_SW {args : Array Value} {s : State} (hs : ∀ w ∈ flatC lwN, w.before args s = true) (ht : ∀ w ∈ tables_1, w.before args s = true) : SW (fun q => s.heap.size ≤ q) s s.heap := by
  have hA : ∀ a : Nat, a < s.heap.size → ¬ (fun q => s.heap.size ≤ q) a := fun a h h2 => Nat.not_le.mpr h h2
  refine ⟨fun q hq => ?_, ?_, ?_, ?_⟩
  · have hw : ∀ w ∈ stW q, w.before args s = true := fun w h => hs w (stW_in q hq w h)
    obtain ⟨adK, adV, h1, h2⟩ := vk_Sof (args := args) (s := s) (N := 1) (tm := fun _ => .string q.1 q.2.1) (len := [q.2.2.2.1]) (byt := [q.2.2.2.2]) (A := fun q => s.heap.size ≤ q)
      (fun i hi => by obtain rfl : i = 0 := Nat.lt_one_iff.mp hi; exact strs_n q hq)
      (fun i hi => hw _ (List.mem_append_left _ (List.mem_of_getElem? (i := 0) rfl)))
      (fun i hi => hw _ (List.mem_append_left _ (List.mem_of_getElem? (i := 1) rfl)))
      (fun i hi => hw _ (List.mem_append_left _ (List.mem_of_getElem? (i := 2) rfl)))
      (fun i hi => by obtain rfl : i = 0 := Nat.lt_one_iff.mp hi; exact hw _ (List.mem_append_left _ (List.mem_of_getElem? (i := 3) rfl)))
      (fun i hi j hj => by obtain rfl : i = 0 := Nat.lt_one_iff.mp hi; exact hw _ (List.mem_append_right _ (List.mem_map.mpr ⟨j, List.mem_range.mpr hj, rfl⟩)))
      (fun i j hi hj hne => absurd ((Nat.lt_one_iff.mp hi).trans (Nat.lt_one_iff.mp hj).symm) hne) hA
    exact ⟨adK 0, adV 0, vk_R.of (ht _ (strs_sr q hq)) (h2 0 (Nat.lt_succ_self 0)), h1.1 0 (Nat.lt_succ_self 0)⟩
  · exact va_Zof (ht _ (tb4 (List.mem_of_getElem? (i := 10) rfl))) (ht _ (tb1 (List.mem_of_getElem? (i := 13) rfl))) (va_eqt (hs (Cond.eq (.static "java/lang/String" "COMPACT_STRINGS" "Z") (.int 1)) (List.mem_of_getElem? (i := 6) rfl))) hA
  · exact va_Zqof (ht _ (tb4 (List.mem_of_getElem? (i := 94) rfl))) (ht _ (tb1 (List.mem_of_getElem? (i := 19) rfl))) (hs _ (List.mem_of_getElem? (i := 7) rfl)) hA
  · obtain ⟨t1, a1, b1⟩ := row_of (A := fun q => s.heap.size ≤ q) (fun w h => hs w (sl_in rowW_1 w h)) (ht _ (tb4 (List.mem_of_getElem? (i := 164) rfl))) (ht _ (tb1 (List.mem_of_getElem? (i := 22) rfl))) hA
    obtain ⟨t2, a2, b2⟩ := row_of (A := fun q => s.heap.size ≤ q) (fun w h => hs w (sl_in rowW_2 w h)) (ht _ (tb4 (List.mem_of_getElem? (i := 166) rfl))) (ht _ (tb1 (List.mem_of_getElem? (i := 22) rfl))) hA
    exact ⟨t1, t2, a1, b1, a2, b2⟩
theorem nws_in : ∀ w ∈ nws, w ∈ tables_1 := by decide +kernel
theorem start_NW {args : Array Value} {s : State} (ht : ∀ w ∈ tables_1, w.before args s = true) : NW s :=
  ⟨fun w hw => va_Nw.of (nest_on (List.all_eq_true.mp nws_nest w hw)) (ht w (nws_in w hw)), ht (.arrayOver (.array .int)) (tb3 (List.mem_of_getElem? (i := 169) rfl))⟩
theorem start_g {args : Array Value} {s : State} (hl : ∀ w ∈ lw_tbl, w.before args s = true) : ∀ w ∈ gW, w.before args s = true := fun w hw => by
  have ht : ∀ w ∈ tables_1, w.before args s = true := fun w h => hl w (List.mem_append_right _ h)
  rcases List.mem_append.mp (gW_in w hw) with h | h
  · rcases List.mem_cons.mp h with rfl | h
    · exact sel_priv (ht (Cond.instantiable RJ4 4) (tb4 (List.mem_of_getElem? (i := 1) rfl))) (ht (Cond.sameMethod RJ5 RJ5 "newCapacity" "(I)I") (tb6 (List.mem_of_getElem? (i := 158) rfl))) (ht (Cond.privateMethod yJ5_newCapacity_0f7a4) (tb4 (List.mem_of_getElem? (i := 48) rfl))) (ht (Cond.instanceMethod yJ5_newCapacity_0f7a4) (tb4 (List.mem_of_getElem? (i := 49) rfl)))
    rcases List.mem_cons.mp h with rfl | h
    · exact sel_priv (ht (Cond.instantiable RJ4 4) (tb4 (List.mem_of_getElem? (i := 1) rfl))) (ht (Cond.sameMethod RJ5 RJ5 "ensureCapacityInternal" "(I)V") (tb6 (List.mem_of_getElem? (i := 157) rfl))) (ht (Cond.privateMethod yJ5_ensureCapacityInternal_d00df) (tb4 (List.mem_of_getElem? (i := 44) rfl))) (ht (Cond.instanceMethod yJ5_ensureCapacityInternal_d00df) (tb4 (List.mem_of_getElem? (i := 45) rfl)))
    rcases List.mem_cons.mp h with rfl | h
    · exact sel_priv (ht (Cond.instantiable RJ4 4) (tb4 (List.mem_of_getElem? (i := 1) rfl))) (ht (Cond.sameMethod RJ5 RJ5 "inflateIfNeededFor" "(Ljava/lang/String;)V") (tb6 (List.mem_of_getElem? (i := 160) rfl))) (ht (Cond.privateMethod yJ5_inflateIfNeededFor_a7421) (tb4 (List.mem_of_getElem? (i := 121) rfl))) (ht (Cond.instanceMethod yJ5_inflateIfNeededFor_a7421) (tb4 (List.mem_of_getElem? (i := 122) rfl)))
    rcases List.mem_cons.mp h with rfl | h
    · exact sel_priv (ht (Cond.instantiable RJ4 4) (tb4 (List.mem_of_getElem? (i := 1) rfl))) (ht (Cond.sameMethod RJ5 RJ5 "putStringAt" "(ILjava/lang/String;)V") (tb6 (List.mem_of_getElem? (i := 159) rfl))) (ht (Cond.privateMethod yJ5_putStringAt_47b60) (tb4 (List.mem_of_getElem? (i := 117) rfl))) (ht (Cond.instanceMethod yJ5_putStringAt_47b60) (tb4 (List.mem_of_getElem? (i := 118) rfl)))
    exact absurd h List.not_mem_nil
  · exact hl w h
theorem start_K {args : Array Value} {s : State} (ht : ∀ w ∈ tables_1, w.before args s = true) (hg : ∀ w ∈ gW, w.before args s = true) : ∃ (D : va_G) (Y : CYs), va_K D vwCl (tysY Y) s := by
  have hc : ∀ c : Nat, ∃ x : ClassId × (Nat → Nat), ∀ q : vw_C, vwCl[c]? = some q → u_Kn s q.1 q.2.1 q.2.2 x.1 x.2 := by
    intro c
    match c with
    | 0 =>
      obtain ⟨a, b, h⟩ := u_known (C := RJ0) (T := TJ0) (N := 4) (n := 4) hg inGJ0 (ht (Cond.instantiable RJ0 4) (tb4 (List.mem_of_getElem? (i := 183) rfl)))
      exact ⟨(a, b), fun q hq => by cases hq; exact h⟩
    | 1 =>
      obtain ⟨a, b, h⟩ := u_known (C := RJ4) (T := TJ4) (N := 4) (n := 4) hg inGJ4 (ht (Cond.instantiable RJ4 4) (tb4 (List.mem_of_getElem? (i := 1) rfl)))
      exact ⟨(a, b), fun q hq => by cases hq; exact h⟩
    | 2 =>
      obtain ⟨a, b, h⟩ := u_known (C := RX0) (T := TX0) (N := 7) (n := 7) hg inGX0 (ht (Cond.instantiable RX0 7) (tb1 (List.mem_of_getElem? (i := 63) rfl)))
      exact ⟨(a, b), fun q hq => by cases hq; exact h⟩
    | 3 =>
      obtain ⟨a, b, h⟩ := u_known (C := RX1) (T := TX1) (N := 8) (n := 8) hg inGX1 (ht (Cond.instantiable RX1 8) (tb1 (List.mem_of_getElem? (i := 171) rfl)))
      exact ⟨(a, b), fun q hq => by cases hq; exact h⟩
    | 4 =>
      obtain ⟨a, b, h⟩ := u_known (C := RX2) (T := TX2) (N := 3) (n := 3) hg inGX2 (ht (Cond.instantiable RX2 3) (tb2 (List.mem_of_getElem? (i := 10) rfl)))
      exact ⟨(a, b), fun q hq => by cases hq; exact h⟩
    | 5 =>
      obtain ⟨a, b, h⟩ := u_known (C := RX3) (T := TX3) (N := 4) (n := 4) hg inGX3 (ht (Cond.instantiable RX3 4) (tb2 (List.mem_of_getElem? (i := 26) rfl)))
      exact ⟨(a, b), fun q hq => by cases hq; exact h⟩
    | 6 =>
      obtain ⟨a, b, h⟩ := u_known (C := RX4) (T := TX4) (N := 17) (n := 17) hg inGX4 (ht (Cond.instantiable RX4 17) (tb1 (List.mem_of_getElem? (i := 91) rfl)))
      exact ⟨(a, b), fun q hq => by cases hq; exact h⟩
    | 7 =>
      obtain ⟨a, b, h⟩ := u_known (C := RX5) (T := TX5) (N := 11) (n := 11) hg inGX5 (ht (Cond.instantiable RX5 11) (tb1 (List.mem_of_getElem? (i := 204) rfl)))
      exact ⟨(a, b), fun q hq => by cases hq; exact h⟩
    | 8 =>
      obtain ⟨a, b, h⟩ := u_known (C := RX6) (T := TX6) (N := 6) (n := 6) hg inGX6 (ht (Cond.instantiable RX6 6) (tb2 (List.mem_of_getElem? (i := 45) rfl)))
      exact ⟨(a, b), fun q hq => by cases hq; exact h⟩
    | 9 =>
      obtain ⟨a, b, h⟩ := u_known (C := RX7) (T := TX7) (N := 4) (n := 4) hg inGX7 (ht (Cond.instantiable RX7 4) (tb1 (List.mem_of_getElem? (i := 39) rfl)))
      exact ⟨(a, b), fun q hq => by cases hq; exact h⟩
    | 10 =>
      obtain ⟨a, b, h⟩ := u_known (C := RX8) (T := TX8) (N := 14) (n := 14) hg inGX8 (ht (Cond.instantiable RX8 14) (tb1 (List.mem_of_getElem? (i := 31) rfl)))
      exact ⟨(a, b), fun q hq => by cases hq; exact h⟩
    | 11 =>
      obtain ⟨a, b, h⟩ := u_known (C := RX9) (T := TX9) (N := 11) (n := 11) hg inGX9 (ht (Cond.instantiable RX9 11) (tb3 (List.mem_of_getElem? (i := 163) rfl)))
      exact ⟨(a, b), fun q hq => by cases hq; exact h⟩
    | n + 12 => exact ⟨(0, fun _ => 0), fun q hq => by cases hq⟩
  obtain ⟨f, hf⟩ := Classical.axiomOfChoice hc
  obtain ⟨cI, kI, pI, i1, i2, i3⟩ := Cond.arrayClass_spec (type := .int) (ht (.arrayClass .int) (tb1 (List.mem_of_getElem? (i := 60) rfl)))
  obtain ⟨cJ, kJ, pJ, j1, j2, j3⟩ := Cond.arrayClass_spec (type := .long) (ht (.arrayClass .long) (tb1 (List.mem_of_getElem? (i := 61) rfl)))
  obtain ⟨cZ, kZ, pZ, z1, z2, z3⟩ := Cond.arrayClass_spec (type := .byte) (ht (.arrayClass .byte) (tb2 (List.mem_of_getElem? (i := 191) rfl)))
  obtain ⟨cp, cQ, kQ, q1, q2, q3, q4, q5⟩ := Cond.arrayOver_spec (ht (.arrayOver (.object "MarkovBench$Strategy")) (tb2 (List.mem_of_getElem? (i := 44) rfl)))
  obtain ⟨cx, cA, kA, a1, a2, a3, a4⟩ := aoa_spec (U := s) (ht (.arrayOver (.array .int)) (tb3 (List.mem_of_getElem? (i := 169) rfl)))
  refine ⟨(fun c => (f c).1, fun c => (f c).2), (cI, cJ, (cZ, cA), cQ), fun c q hq => hf c q hq, fun k q hk => ?_⟩
  match k, hk with
  | 0, hk =>
    cases hk
    exact ⟨fun n z => ⟨fun k h => (by cases h), kI, i2, pI, i3⟩, i1⟩
  | 1, hk =>
    cases hk
    exact ⟨fun n z => ⟨fun k h => (by cases h), kJ, j2, pJ, j3⟩, j1⟩
  | 2, hk =>
    cases hk
    exact ⟨fun n z => ⟨fun k h => (by cases h), kZ, z2, pZ, z3⟩, z1⟩
  | 3, hk =>
    cases hk
    exact ⟨fun n z => ⟨fun k h => (by cases h), kQ, q3, cp, q4⟩, ⟨kQ, cp, q3, q4, q1, q5⟩⟩
  | 4, hk =>
    cases hk
    exact ⟨fun n z => ⟨fun k h => (by cases h), kA, a2, cx, a3⟩, a4⟩
  | n + 5, hk => cases hk
