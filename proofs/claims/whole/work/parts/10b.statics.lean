/-- the bytes of the literals -/
def bKW : List Int32 := [118, 97, 114, 32, 105, 110, 32, 116, 111, 32, 103, 97, 105, 110, 32, 112, 101, 114, 32, 103, 111, 97, 108, 32, 100, 111, 32, 119, 104, 101, 110, 32, 103, 111, 32, 115, 101, 116, 32, 97, 108, 115, 111, 32, 97, 110, 100, 32, 111, 114, 32, 110, 111, 116, 32, 109, 105, 110, 32, 109, 97, 120, 32, 97, 98, 115, 32]
def bS1 : List Int32 := [40, 41, 59, 44, 61, 43, 45, 42, 47, 37, 60, 62]
def bS2 : List Int32 := [40, 41, 59, 58, 44, 61, 43, 45, 42, 47, 37, 60, 62]
/-- a String of one byte a sign at a, its bytes at v -/
def STA (N : Nat) (bs : List Int32) (a v : Nat) (A : Nat → Prop) (U : State) (H : Heap) : Prop := va_O "java/lang/String" a A U H ∧ va_OF "java/lang/String" "coder" "B" (.int 0) a A U H ∧ va_OF "java/lang/String" "value" "[B" (.ref v) a A U H ∧ va_T .byte v N (fun j => .int (bs.getD j 0)) A U H
theorem STA.kept {N : Nat} {bs : List Int32} {a v : Nat} {A : Nat → Prop} {U : State} {H H1 : Heap} (h : STA N bs a v A U H) (hq : ∀ a : Nat, a < H.size → ¬ A a → H1[a]? = H[a]?) : STA N bs a v A U H1 := ⟨h.1.kept hq, h.2.1.kept hq, h.2.2.1.kept hq, h.2.2.2.kept hq⟩
theorem STA.narrow {N : Nat} {bs : List Int32} {a v : Nat} {A B : Nat → Prop} {U : State} {H : Heap} (h : STA N bs a v A U H) (hAB : ∀ x, B x → A x) : STA N bs a v B U H := ⟨h.1.narrow hAB, h.2.1.narrow hAB, h.2.2.1.narrow hAB, h.2.2.2.narrow hAB⟩
theorem STA.moved {N : Nat} {bs : List Int32} {a v : Nat} {A : Nat → Prop} {u U : State} {H : Heap} (hvm : u.vm.Alike U.vm) (h : STA N bs a v A u H) : STA N bs a v A U H := ⟨h.1.moved hvm, h.2.1.moved hvm, h.2.2.1.moved hvm, h.2.2.2.moved hvm⟩
/-- a String constant: its object, its bytes -/
def STL (q : String × Nat × String × Nat × List Int32) (A : Nat → Prop) (U : State) (H : Heap) : Prop := ∃ a v, vk_R q.1 q.2.1 q.2.2.1 a U ∧ STA q.2.2.2.1 q.2.2.2.2 a v A U H
theorem STL.kept {q : String × Nat × String × Nat × List Int32} {A : Nat → Prop} {U : State} {H H1 : Heap} (h : STL q A U H) (hq : ∀ a : Nat, a < H.size → ¬ A a → H1[a]? = H[a]?) : STL q A U H1 := by
  obtain ⟨a, v, h1, h2⟩ := h
  exact ⟨a, v, h1, h2.kept hq⟩
theorem STL.narrow {q : String × Nat × String × Nat × List Int32} {A B : Nat → Prop} {U : State} {H : Heap} (h : STL q A U H) (hAB : ∀ x, B x → A x) : STL q B U H := by
  obtain ⟨a, v, h1, h2⟩ := h
  exact ⟨a, v, h1, h2.narrow hAB⟩
theorem STL.warm {q : String × Nat × String × Nat × List Int32} {A : Nat → Prop} {s U : State} {H : Heap} (hW : s.WarmedH U.vm) (h : STL q A s H) : STL q A U H := by
  obtain ⟨a, v, h1, h2⟩ := h
  exact ⟨a, v, vk_R.warm hW h1, h2.moved hW.alike⟩
theorem STL.same {q : String × Nat × String × Nat × List Int32} {A : Nat → Prop} {u U : State} {H : Heap} (hv : U.vm = u.vm) (h : STL q A u H) : STL q A U H := by
  obtain ⟨a, v, h1, h2⟩ := h
  have hw : u.vm.Alike U.vm := by rw [hv]; exact Vm.Alike.refl _
  exact ⟨a, v, vk_R.same hv h1, h2.moved hw⟩
def strs : List (String × Nat × String × Nat × List Int32) := [("MarkovBench$Tokens", 70, "var in to gain per goal do when go set also and or not min max abs ", 67, bKW), ("MarkovBench$Tokens", 62, "();,=+-*/%<>", 12, bS1), ("MarkovBenchModel", 128, "var in to gain per goal do when go set also and or not min max abs ", 67, bKW), ("MarkovBenchModel", 191, "();:,=+-*/%<>", 13, bS2)]
def msgs : List (Nat × String) := [(137, "what is counted is 0 to 5"), (279, "there is no such number"), (283, "the number is out of its range"), (286, "the gains are the same"), (288, "there is no program"), (290, "there are too many strategies"), (87, "the tape would be too long")]
/-- constants and statics that every method may use, and none writes -/
def SW (A : Nat → Prop) (U : State) (H : Heap) : Prop :=
  (∀ q ∈ strs, STL q A U H) ∧ (∀ q ∈ msgs, ∃ a, vk_R "MarkovBench" q.1 q.2 a U) ∧ vx_Zq Bundle.tN "UNASSIGNED_STACK" Bundle.steD A U H ∧ vx_Zq Bundle.tN "SUPPRESSED_SENTINEL" Bundle.listD A U H ∧ va_Z "java/lang/String" "COMPACT_STRINGS" "Z" (.int 1) A U H ∧ va_Zq "jdk/internal/util/Preconditions" "SIOOBE_FORMATTER" "Ljava/util/function/BiFunction;" A U H
theorem SW.kept {A : Nat → Prop} {U : State} {H H1 : Heap} (h : SW A U H) (hq : ∀ a : Nat, a < H.size → ¬ A a → H1[a]? = H[a]?) : SW A U H1 :=
  ⟨fun q hm => (h.1 q hm).kept hq, h.2.1, h.2.2.1.kept hq, h.2.2.2.1.kept hq, h.2.2.2.2.1.kept hq, h.2.2.2.2.2.kept hq⟩
theorem SW.narrow {A B : Nat → Prop} {U : State} {H : Heap} (h : SW A U H) (hAB : ∀ x, B x → A x) : SW B U H :=
  ⟨fun q hm => (h.1 q hm).narrow hAB, h.2.1, h.2.2.1.narrow hAB, h.2.2.2.1.narrow hAB, h.2.2.2.2.1.narrow hAB, h.2.2.2.2.2.narrow hAB⟩
theorem SW.warm {A : Nat → Prop} {s U : State} {H : Heap} (hW : s.WarmedH U.vm) (h : SW A s H) : SW A U H :=
  ⟨fun q hm => (h.1 q hm).warm hW, fun q hm => (h.2.1 q hm).imp fun a ha => vk_R.warm hW ha, h.2.2.1.moved hW.alike, h.2.2.2.1.moved hW.alike, h.2.2.2.2.1.moved hW.alike, h.2.2.2.2.2.moved hW.alike⟩
theorem SW.same {A : Nat → Prop} {u U : State} {H : Heap} (hv : U.vm = u.vm) (h : SW A u H) : SW A U H :=
  ⟨fun q hm => (h.1 q hm).same hv, fun q hm => (h.2.1 q hm).imp fun a ha => vk_R.same hv ha, h.2.2.1.moved (by rw [hv]; exact Vm.Alike.refl _), h.2.2.2.1.moved (by rw [hv]; exact Vm.Alike.refl _), h.2.2.2.2.1.moved (by rw [hv]; exact Vm.Alike.refl _), h.2.2.2.2.2.moved (by rw [hv]; exact Vm.Alike.refl _)⟩
