/-! The script; what the walk's constructor leaves (by wip/p32/wk2.py). -/
def SCR (b L : Nat) (xs : Nat → Int32) (A : Nat → Prop) (U : State) (H : Heap) : Prop := va_X b L xs U H ∧ b < H.size ∧ ¬ A b
theorem SCR_ok {b L : Nat} {xs : Nat → Int32} : XOK (SCR b L xs) := by
  refine ⟨fun A U H H1 h hq => ?_, fun A B U H h hAB => ⟨h.1, h.2.1, fun hb => h.2.2 (hAB b hb)⟩, fun A u U H hvm h => ⟨h.1.moved hvm, h.2⟩⟩
  have e := hq b h.2.1 h.2.2
  refine ⟨h.1.kept e, ?_, h.2.2⟩
  have h2 : H[b]? = some (H[b]'h.2.1) := Array.getElem?_eq_getElem h.2.1
  exact (Array.getElem?_eq_some_iff.mp (e.trans h2)).1
def WKr (v : Nat → Int32) (n f p q bk aj b jp : Nat) (go : Option Nat) : Prop := v 0 = nI n ∧ v 1 = nI f ∧ v 2 = nI p ∧ v 3 = nI q ∧ v 4 = nI bk ∧ v 5 = nI aj - 20 ∧ v 6 = nI b ∧ v 8 = nI jp ∧ v 7 = (match go with | none => -1 | some g => nI g) ∧ n < 22 ∧ f ≤ n ∧ 1 ≤ p ∧ 1 ≤ q ∧ p + q ≤ 99 ∧ bk < 6 ∧ aj < 40 ∧ b < 9 ∧ jp < 22 ∧ ∀ g, go = some g → g < 22
