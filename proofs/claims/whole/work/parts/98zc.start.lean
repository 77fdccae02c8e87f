/-! The law's start (by wip/whole/lawstart.py). -/
abbrev lwN : Cond := Jvm.Cond.and given_1 narrow_1
def stW (q : String × Nat × String × Nat × List Int32) : List Cond := [Cond.exactly (.string q.1 q.2.1) "java/lang/String", Cond.eq (.field (.string q.1 q.2.1) "java/lang/String" "coder" "B") (.int 0), Cond.arrayOf (.field (.string q.1 q.2.1) "java/lang/String" "value" "[B") .byte, Cond.eq (.length (.field (.string q.1 q.2.1) "java/lang/String" "value" "[B")) (.int (Int32.ofNat q.2.2.2.1))] ++ (List.range q.2.2.2.1).map (fun j => Cond.eq (.elem (.field (.string q.1 q.2.1) "java/lang/String" "value" "[B") (.int (Int32.ofNat j))) (.int (q.2.2.2.2.getD j 0)))
set_option maxRecDepth 100000 in
theorem stW_0 : ((flatC lwN).drop 63).take 71 = stW ("MarkovBench$Tokens", 70, "var in to gain per goal do when go set also and or not min max abs ", 67, bKW) := by decide +kernel
set_option maxRecDepth 100000 in
theorem stW_1 : ((flatC lwN).drop 134).take 16 = stW ("MarkovBench$Tokens", 62, "();,=+-*/%<>", 12, bS1) := by decide +kernel
set_option maxRecDepth 100000 in
theorem stW_2 : ((flatC lwN).drop 388).take 71 = stW ("MarkovBenchModel", 128, "var in to gain per goal do when go set also and or not min max abs ", 67, bKW) := by decide +kernel
set_option maxRecDepth 100000 in
theorem stW_3 : ((flatC lwN).drop 468).take 17 = stW ("MarkovBenchModel", 191, "();:,=+-*/%<>", 13, bS2) := by decide +kernel
theorem sl_in {α : Type} {l l2 : List α} {a b : Nat} (h : (l.drop a).take b = l2) : ∀ w ∈ l2, w ∈ l := fun w hw => by
  rw [← h] at hw
  exact List.mem_of_mem_drop (List.mem_of_mem_take hw)
theorem stW_in : ∀ q ∈ strs, ∀ w ∈ stW q, w ∈ flatC lwN := List.forall_mem_cons.mpr ⟨sl_in stW_0, List.forall_mem_cons.mpr ⟨sl_in stW_1, List.forall_mem_cons.mpr ⟨sl_in stW_2, List.forall_mem_cons.mpr ⟨sl_in stW_3, fun _ h => absurd h List.not_mem_nil⟩⟩⟩⟩
theorem strs_sr : ∀ q ∈ strs, Cond.stringRef q.1 q.2.1 q.2.2.1 ∈ tables_1 := by decide +kernel
theorem strs_n : ∀ q ∈ strs, q.2.2.2.1 < 2 ^ 31 := by decide +kernel
theorem msgs_sr : ∀ q ∈ msgs, Cond.stringRef "MarkovBench" q.1 q.2 ∈ tables_1 := by decide +kernel
theorem msgs_ex : ∀ q ∈ msgs, Cond.exactly (.string "MarkovBench" q.1) "java/lang/String" ∈ flatC lwN := by decide +kernel
theorem start_SW {args : Array Value} {s : State} (hs : ∀ w ∈ flatC lwN, w.before args s = true) (ht : ∀ w ∈ tables_1, w.before args s = true) : SW (fun q => s.heap.size ≤ q) s s.heap := by
  have hA : ∀ a : Nat, a < s.heap.size → ¬ (fun q => s.heap.size ≤ q) a := fun a h h2 => Nat.not_le.mpr h h2
  refine ⟨fun q hq => ?_, fun q hq => ?_, ?_, ?_, ?_, ?_⟩
  · have hw : ∀ w ∈ stW q, w.before args s = true := fun w h => hs w (stW_in q hq w h)
    obtain ⟨adK, adV, h1, h2⟩ := vk_Sof (args := args) (s := s) (N := 1) (tm := fun _ => .string q.1 q.2.1) (len := [q.2.2.2.1]) (byt := [q.2.2.2.2]) (A := fun q => s.heap.size ≤ q)
      (fun i hi => by obtain rfl : i = 0 := Nat.lt_one_iff.mp hi; exact strs_n q hq)
      (fun i hi => hw _ (List.mem_append_left _ (List.mem_of_getElem? (i := 0) rfl)))
      (fun i hi => hw _ (List.mem_append_left _ (List.mem_of_getElem? (i := 1) rfl)))
      (fun i hi => hw _ (List.mem_append_left _ (List.mem_of_getElem? (i := 2) rfl)))
      (fun i hi => by obtain rfl : i = 0 := Nat.lt_one_iff.mp hi; exact hw _ (List.mem_append_left _ (List.mem_of_getElem? (i := 3) rfl)))
      (fun i hi j hj => by obtain rfl : i = 0 := Nat.lt_one_iff.mp hi; exact hw _ (List.mem_append_right _ (List.mem_map.mpr ⟨j, List.mem_range.mpr hj, rfl⟩)))
      (fun i j hi hj hne => absurd ((Nat.lt_one_iff.mp hi).trans (Nat.lt_one_iff.mp hj).symm) hne) hA
    exact ⟨adK 0, adV 0, vk_R.of (ht _ (strs_sr q hq)) (h2 0 (Nat.lt_succ_self 0)), h1.1 0 (Nat.lt_succ_self 0)⟩
  · obtain ⟨a, c, cA, kA, q1, -⟩ := Cond.exactly_spec (args := args) (first := s) (o := none) (s := s) (idx := []) (t := .string "MarkovBench" q.1) (cls := "java/lang/String") (hs _ (msgs_ex q hq))
    exact ⟨a, vk_R.of (ht _ (msgs_sr q hq)) q1⟩
  · exact vx_Zqof (ht _ (by decide +kernel)) (ht _ (by decide +kernel)) (hs _ (by decide +kernel)) hA
  · exact vx_Zqof (ht _ (by decide +kernel)) (ht _ (by decide +kernel)) (hs _ (by decide +kernel)) hA
  · exact va_Zof (ht _ (by decide +kernel)) (ht _ (by decide +kernel)) (va_eqt (hs (Cond.eq (.static "java/lang/String" "COMPACT_STRINGS" "Z") (.int 1)) (by decide +kernel))) hA
  · exact va_Zqof (ht _ (by decide +kernel)) (ht _ (by decide +kernel)) (hs _ (by decide +kernel)) hA
theorem nws_in : ∀ w ∈ nws, w ∈ tables_1 := by decide +kernel
theorem nwx_in : ∀ w ∈ nwx, w ∈ tables_1 := by decide +kernel
theorem ncs_in : ∀ q ∈ ncs, Cond.not (.castable q.1 q.2) ∈ flatC lwN := by decide +kernel
theorem start_NW {args : Array Value} {s : State} (hs : ∀ w ∈ flatC lwN, w.before args s = true) (ht : ∀ w ∈ tables_1, w.before args s = true) : NW s :=
  ⟨fun w hw => va_Nw.of (nest_on (List.all_eq_true.mp nws_nest w hw)) (ht w (nws_in w hw)), fun w hw => va_Nw.of (nest_on (List.all_eq_true.mp nwx_nest w hw)) (ht w (nwx_in w hw)), fun q hq => va_Nc.of (hs _ (ncs_in q hq))⟩
theorem start_K {args : Array Value} {s : State} (ht : ∀ w ∈ tables_1, w.before args s = true) (hg : ∀ w ∈ gW, w.before args s = true) : ∃ (D : va_G) (Y : CYs), va_K D vwCl (tysY Y) s := by
  have hc : ∀ c : Nat, ∃ x : ClassId × (Nat → Nat), ∀ q : vw_C, vwCl[c]? = some q → u_Kn s q.1 q.2.1 q.2.2 x.1 x.2 := by
    intro c
    match c with
    | 0 =>
      obtain ⟨a, b, h⟩ := u_known (C := RX0) (T := TX0) (N := 7) (n := 7) hg inGX0 (hg (Cond.instantiable RX0 7) (gw_t (tb1 (List.mem_of_getElem? (i := 59) rfl)) rfl))
      exact ⟨(a, b), fun q hq => by cases hq; exact h⟩
    | 1 =>
      obtain ⟨a, b, h⟩ := u_known (C := RX1) (T := TX1) (N := 8) (n := 8) hg inGX1 (hg (Cond.instantiable RX1 8) (gw_t (tb1 (List.mem_of_getElem? (i := 168) rfl)) rfl))
      exact ⟨(a, b), fun q hq => by cases hq; exact h⟩
    | 2 =>
      obtain ⟨a, b, h⟩ := u_known (C := RX2) (T := TX2) (N := 3) (n := 3) hg inGX2 (hg (Cond.instantiable RX2 3) (gw_t (tb2 (List.mem_of_getElem? (i := 9) rfl)) rfl))
      exact ⟨(a, b), fun q hq => by cases hq; exact h⟩
    | 3 =>
      obtain ⟨a, b, h⟩ := u_known (C := RX3) (T := TX3) (N := 4) (n := 4) hg inGX3 (hg (Cond.instantiable RX3 4) (gw_t (tb2 (List.mem_of_getElem? (i := 25) rfl)) rfl))
      exact ⟨(a, b), fun q hq => by cases hq; exact h⟩
    | 4 =>
      obtain ⟨a, b, h⟩ := u_known (C := RX4) (T := TX4) (N := 17) (n := 17) hg inGX4 (hg (Cond.instantiable RX4 17) (gw_t (tb1 (List.mem_of_getElem? (i := 87) rfl)) rfl))
      exact ⟨(a, b), fun q hq => by cases hq; exact h⟩
    | 5 =>
      obtain ⟨a, b, h⟩ := u_known (C := RX5) (T := TX5) (N := 11) (n := 11) hg inGX5 (hg (Cond.instantiable RX5 11) (gw_t (tb1 (List.mem_of_getElem? (i := 201) rfl)) rfl))
      exact ⟨(a, b), fun q hq => by cases hq; exact h⟩
    | 6 =>
      obtain ⟨a, b, h⟩ := u_known (C := RX6) (T := TX6) (N := 6) (n := 6) hg inGX6 (hg (Cond.instantiable RX6 6) (gw_t (tb2 (List.mem_of_getElem? (i := 48) rfl)) rfl))
      exact ⟨(a, b), fun q hq => by cases hq; exact h⟩
    | 7 =>
      obtain ⟨a, b, h⟩ := u_known (C := RX7) (T := TX7) (N := 4) (n := 4) hg inGX7 (hg (Cond.instantiable RX7 4) (gw_t (tb1 (List.mem_of_getElem? (i := 35) rfl)) rfl))
      exact ⟨(a, b), fun q hq => by cases hq; exact h⟩
    | 8 =>
      obtain ⟨a, b, h⟩ := u_known (C := RX8) (T := TX8) (N := 14) (n := 14) hg inGX8 (hg (Cond.instantiable RX8 14) (gw_t (tb1 (List.mem_of_getElem? (i := 27) rfl)) rfl))
      exact ⟨(a, b), fun q hq => by cases hq; exact h⟩
    | 9 =>
      obtain ⟨a, b, h⟩ := u_known (C := RX9) (T := TX9) (N := 8) (n := 8) hg inGX9 (hg (Cond.instantiable RX9 8) (gw_t (tb7 (List.mem_of_getElem? (i := 53) rfl)) rfl))
      exact ⟨(a, b), fun q hq => by cases hq; exact h⟩
    | 10 =>
      obtain ⟨a, b, h⟩ := u_known (C := RX10) (T := TX10) (N := 57) (n := 57) hg inGX10 (hg (Cond.instantiable RX10 57) (gw_t (tb6 (List.mem_of_getElem? (i := 35) rfl)) rfl))
      exact ⟨(a, b), fun q hq => by cases hq; exact h⟩
    | n + 11 => exact ⟨(0, fun _ => 0), fun q hq => by cases hq⟩
  obtain ⟨f, hf⟩ := Classical.axiomOfChoice hc
  obtain ⟨cI, kI, pI, i1, i2, i3⟩ := Cond.arrayClass_spec (type := .int) (ht (.arrayClass .int) (by decide +kernel))
  obtain ⟨cJ, kJ, pJ, j1, j2, j3⟩ := Cond.arrayClass_spec (type := .long) (ht (.arrayClass .long) (by decide +kernel))
  obtain ⟨cZ, kZ, pZ, z1, z2, z3⟩ := Cond.arrayClass_spec (type := .boolean) (ht (.arrayClass .boolean) (by decide +kernel))
  obtain ⟨cp, cQ, kQ, q1, q2, q3, q4, q5⟩ := Cond.arrayOver_spec (ht (.arrayOver (.object "MarkovBench$Strategy")) (by decide +kernel))
  refine ⟨(fun c => (f c).1, fun c => (f c).2), (cI, cJ, cZ, cQ), fun c q hq => hf c q hq, fun k q hk => ?_⟩
  match k, hk with
  | 0, hk =>
    cases hk
    exact ⟨fun n z => ⟨fun k h => (by cases h), kI, i2, pI, i3⟩, i1⟩
  | 1, hk =>
    cases hk
    exact ⟨fun n z => ⟨fun k h => (by cases h), kJ, j2, pJ, j3⟩, j1⟩
  | 2, hk =>
    cases hk
    exact ⟨fun n z => ⟨fun k h => (by cases h), kZ, z2, pZ, z3⟩, z1⟩
  | 3, hk =>
    cases hk
    exact ⟨fun n z => ⟨fun k h => (by cases h), kQ, q3, cp, q4⟩, ⟨kQ, cp, q3, q4, q1, q5⟩⟩
  | n + 4, hk => cases hk
