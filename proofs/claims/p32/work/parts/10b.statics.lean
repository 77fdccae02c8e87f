/-- the bytes of the literals -/
def bKW : List Int32 := [118, 97, 114, 32, 105, 110, 32, 116, 111, 32, 103, 97, 105, 110, 32, 112, 101, 114, 32, 103, 111, 97, 108, 32, 100, 111, 32, 119, 104, 101, 110, 32, 103, 111, 32, 115, 101, 116, 32, 97, 108, 115, 111, 32, 97, 110, 100, 32, 111, 114, 32, 110, 111, 116, 32, 109, 105, 110, 32, 109, 97, 120, 32, 97, 98, 115, 32]
def bS1 : List Int32 := [40, 41, 59, 44, 61, 43, 45, 42, 47, 37, 60, 62]
def bW0 : List Int32 := [118, 97, 114, 32, 120, 32, 61, 32]
def bW1 : List Int32 := [32, 105, 110, 32, 48, 32, 116, 111, 32]
def bW2 : List Int32 := [59, 32, 118, 97, 114, 32, 121, 32, 61, 32, 48, 32, 105, 110, 32, 48, 32, 116, 111, 32, 51, 59, 32, 103, 97, 105, 110, 32, 103, 32, 61, 32]
def bW3 : List Int32 := [45]
def bW4 : List Int32 := []
def bW5 : List Int32 := [32, 43, 32, 120, 32, 42, 32]
def bW6 : List Int32 := [59, 32, 103, 97, 105, 110, 32, 104, 32, 112, 101, 114, 32, 109, 111, 118, 101, 32, 61, 32, 51, 32, 45, 32, 121, 32, 42, 32, 50, 59]
def bW7 : List Int32 := [32, 103, 111, 97, 108, 32, 120, 32, 61, 32]
def bW8 : List Int32 := [32, 97, 110, 100, 32, 121, 32, 60, 62, 32, 51, 59]
def bW9 : List Int32 := [32, 100, 111, 32, 109, 111, 118, 101, 32, 119, 104, 101, 110, 32, 120, 32, 60, 32]
def bW10 : List Int32 := [32, 103, 111, 32]
def bW11 : List Int32 := [32, 115, 101, 116, 32, 120, 32, 61, 32, 120, 32, 43, 32, 49, 44, 32, 121, 32, 61, 32, 109, 105, 110, 40, 121, 32, 43, 32, 49, 44, 32, 51, 41, 32, 97, 108, 115, 111, 32, 103, 111, 32]
def bW12 : List Int32 := [32, 115, 101, 116, 32, 120, 32, 61, 32, 109, 97, 120, 40, 120, 32, 45, 32]
def bW13 : List Int32 := [44, 32, 48, 41, 32, 97, 108, 115, 111, 32, 103, 111, 32]
def bW14 : List Int32 := [59, 32, 100, 111, 32, 114, 101, 115, 116, 32, 119, 104, 101, 110, 32, 121, 32, 62, 32, 48, 32, 103, 111, 32, 49, 48, 48, 32, 115, 101, 116, 32, 121, 32, 61, 32, 121, 32, 45, 32, 49, 59, 32, 103, 97, 105, 110, 32, 119, 32, 61, 32, 97, 98, 115, 40, 120, 32, 45, 32, 121, 41, 59, 32, 100, 111, 32, 106, 117, 109, 112, 32, 119, 104, 101, 110, 32, 120, 32, 62, 61, 32]
def bW15 : List Int32 := [32, 97, 110, 100, 32, 121, 32, 60, 62, 32, 49, 32, 103, 111, 32, 53, 48, 32, 115, 101, 116, 32, 120, 32, 61, 32, 120, 32, 45, 32]
def bW16 : List Int32 := [44, 32, 121, 32, 61, 32, 120, 32, 37, 32, 52, 32, 97, 108, 115, 111, 32, 103, 111, 32, 53, 48, 32, 115, 101, 116, 32, 121, 32, 61, 32, 51, 59]
/-- a String of one byte a sign at a, its bytes at v -/
def STA (N : Nat) (bs : List Int32) (a v : Nat) (A : Nat → Prop) (U : State) (H : Heap) : Prop := va_O "java/lang/String" a A U H ∧ va_OF "java/lang/String" "coder" "B" (.int 0) a A U H ∧ va_OF "java/lang/String" "value" "[B" (.ref v) a A U H ∧ va_T .byte v N (fun j => .int (bs.getD j 0)) A U H
theorem STA.kept {N : Nat} {bs : List Int32} {a v : Nat} {A : Nat → Prop} {U : State} {H H1 : Heap} (h : STA N bs a v A U H) (hq : ∀ a : Nat, a < H.size → ¬ A a → H1[a]? = H[a]?) : STA N bs a v A U H1 := ⟨h.1.kept hq, h.2.1.kept hq, h.2.2.1.kept hq, h.2.2.2.kept hq⟩
theorem STA.narrow {N : Nat} {bs : List Int32} {a v : Nat} {A B : Nat → Prop} {U : State} {H : Heap} (h : STA N bs a v A U H) (hAB : ∀ x, B x → A x) : STA N bs a v B U H := ⟨h.1.narrow hAB, h.2.1.narrow hAB, h.2.2.1.narrow hAB, h.2.2.2.narrow hAB⟩
theorem STA.moved {N : Nat} {bs : List Int32} {a v : Nat} {A : Nat → Prop} {u U : State} {H : Heap} (hvm : u.vm.Alike U.vm) (h : STA N bs a v A u H) : STA N bs a v A U H := ⟨h.1.moved hvm, h.2.1.moved hvm, h.2.2.1.moved hvm, h.2.2.2.moved hvm⟩
/-- a String constant: its object, its bytes -/
def STL (q : String × Nat × String × Nat × List Int32) (A : Nat → Prop) (U : State) (H : Heap) : Prop := ∃ a v, vk_R q.1 q.2.1 q.2.2.1 a U ∧ STA q.2.2.2.1 q.2.2.2.2 a v A U H
theorem STL.kept {q : String × Nat × String × Nat × List Int32} {A : Nat → Prop} {U : State} {H H1 : Heap} (h : STL q A U H) (hq : ∀ a : Nat, a < H.size → ¬ A a → H1[a]? = H[a]?) : STL q A U H1 := by
  obtain ⟨a, v, h1, h2⟩ := h
  exact ⟨a, v, h1, h2.kept hq⟩
theorem STL.narrow {q : String × Nat × String × Nat × List Int32} {A B : Nat → Prop} {U : State} {H : Heap} (h : STL q A U H) (hAB : ∀ x, B x → A x) : STL q B U H := by
  obtain ⟨a, v, h1, h2⟩ := h
  exact ⟨a, v, h1, h2.narrow hAB⟩
theorem STL.warm {q : String × Nat × String × Nat × List Int32} {A : Nat → Prop} {s U : State} {H : Heap} (hW : s.WarmedH U.vm) (h : STL q A s H) : STL q A U H := by
  obtain ⟨a, v, h1, h2⟩ := h
  exact ⟨a, v, vk_R.warm hW h1, h2.moved hW.alike⟩
theorem STL.same {q : String × Nat × String × Nat × List Int32} {A : Nat → Prop} {u U : State} {H : Heap} (hv : U.vm = u.vm) (h : STL q A u H) : STL q A U H := by
  obtain ⟨a, v, h1, h2⟩ := h
  have hw : u.vm.Alike U.vm := by rw [hv]; exact Vm.Alike.refl _
  exact ⟨a, v, vk_R.same hv h1, h2.moved hw⟩
def strs : List (String × Nat × String × Nat × List Int32) := [("MarkovBench$Tokens", 70, "var in to gain per goal do when go set also and or not min max abs ", 67, bKW), ("MarkovBench$Tokens", 62, "();,=+-*/%<>", 12, bS1), ("MarkovBenchLaw$Walk", 58, "var x = ", 8, bW0), ("MarkovBenchLaw$Walk", 67, " in 0 to ", 9, bW1), ("MarkovBenchLaw$Walk", 69, "; var y = 0 in 0 to 3; gain g = ", 32, bW2), ("MarkovBenchLaw$Walk", 71, "-", 1, bW3), ("MarkovBenchLaw$Walk", 77, "", 0, bW4), ("MarkovBenchLaw$Walk", 79, " + x * ", 7, bW5), ("MarkovBenchLaw$Walk", 81, "; gain h per move = 3 - y * 2;", 30, bW6), ("MarkovBenchLaw$Walk", 83, " goal x = ", 10, bW7), ("MarkovBenchLaw$Walk", 85, " and y <> 3;", 12, bW8), ("MarkovBenchLaw$Walk", 87, " do move when x < ", 18, bW9), ("MarkovBenchLaw$Walk", 89, " go ", 4, bW10), ("MarkovBenchLaw$Walk", 91, " set x = x + 1, y = min(y + 1, 3) also go ", 42, bW11), ("MarkovBenchLaw$Walk", 93, " set x = max(x - ", 17, bW12), ("MarkovBenchLaw$Walk", 95, ", 0) also go ", 13, bW13), ("MarkovBenchLaw$Walk", 97, "; do rest when y > 0 go 100 set y = y - 1; gain w = abs(x - y); do jump when x >= ", 82, bW14), ("MarkovBenchLaw$Walk", 99, " and y <> 1 go 50 set x = x - ", 30, bW15), ("MarkovBenchLaw$Walk", 101, ", y = x % 4 also go 50 set y = 3;", 33, bW16)]
/-- the two rows of digits of Integer -/
def dgO (j : Nat) : Int32 := nI (48 + j % 10)
def dgT (j : Nat) : Int32 := nI (48 + j / 10)
def DGS (A : Nat → Prop) (U : State) (H : Heap) : Prop := ∃ t1 t2, va_Z "java/lang/Integer" "DigitOnes" "[B" (.ref t1) A U H ∧ va_T .byte t1 100 (fun j => .int (dgO j)) A U H ∧ va_Z "java/lang/Integer" "DigitTens" "[B" (.ref t2) A U H ∧ va_T .byte t2 100 (fun j => .int (dgT j)) A U H
theorem DGS.kept {A : Nat → Prop} {U : State} {H H1 : Heap} (h : DGS A U H) (hq : ∀ a : Nat, a < H.size → ¬ A a → H1[a]? = H[a]?) : DGS A U H1 := by
  obtain ⟨t1, t2, h1, h2, h3, h4⟩ := h
  exact ⟨t1, t2, h1.kept hq, h2.kept hq, h3.kept hq, h4.kept hq⟩
theorem DGS.narrow {A B : Nat → Prop} {U : State} {H : Heap} (h : DGS A U H) (hAB : ∀ x, B x → A x) : DGS B U H := by
  obtain ⟨t1, t2, h1, h2, h3, h4⟩ := h
  exact ⟨t1, t2, h1.narrow hAB, h2.narrow hAB, h3.narrow hAB, h4.narrow hAB⟩
theorem DGS.moved {A : Nat → Prop} {u U : State} {H : Heap} (hvm : u.vm.Alike U.vm) (h : DGS A u H) : DGS A U H := by
  obtain ⟨t1, t2, h1, h2, h3, h4⟩ := h
  exact ⟨t1, t2, h1.moved hvm, h2.moved hvm, h3.moved hvm, h4.moved hvm⟩
/-- constants and statics that every method may use, and none writes -/
def SW (A : Nat → Prop) (U : State) (H : Heap) : Prop :=
  (∀ q ∈ strs, STL q A U H) ∧ va_Z "java/lang/String" "COMPACT_STRINGS" "Z" (.int 1) A U H ∧ va_Zq "jdk/internal/util/Preconditions" "SIOOBE_FORMATTER" "Ljava/util/function/BiFunction;" A U H ∧ DGS A U H
theorem SW.kept {A : Nat → Prop} {U : State} {H H1 : Heap} (h : SW A U H) (hq : ∀ a : Nat, a < H.size → ¬ A a → H1[a]? = H[a]?) : SW A U H1 :=
  ⟨fun q hm => (h.1 q hm).kept hq, h.2.1.kept hq, h.2.2.1.kept hq, h.2.2.2.kept hq⟩
theorem SW.narrow {A B : Nat → Prop} {U : State} {H : Heap} (h : SW A U H) (hAB : ∀ x, B x → A x) : SW B U H :=
  ⟨fun q hm => (h.1 q hm).narrow hAB, h.2.1.narrow hAB, h.2.2.1.narrow hAB, h.2.2.2.narrow hAB⟩
theorem SW.warm {A : Nat → Prop} {s U : State} {H : Heap} (hW : s.WarmedH U.vm) (h : SW A s H) : SW A U H :=
  ⟨fun q hm => (h.1 q hm).warm hW, h.2.1.moved hW.alike, h.2.2.1.moved hW.alike, h.2.2.2.moved hW.alike⟩
theorem SW.same {A : Nat → Prop} {u U : State} {H : Heap} (hv : U.vm = u.vm) (h : SW A u H) : SW A U H :=
  ⟨fun q hm => (h.1 q hm).same hv, h.2.1.moved (by rw [hv]; exact Vm.Alike.refl _), h.2.2.1.moved (by rw [hv]; exact Vm.Alike.refl _), h.2.2.2.moved (by rw [hv]; exact Vm.Alike.refl _)⟩
