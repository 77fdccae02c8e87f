/-! What the law's program is, once it has been read. -/
section UA
variable (f n : Nat) (go : Option Nat) (p q r3 : Nat) (ρ : Sta)
theorem uA_192 : gI (uA 1 f n go p q r3 ρ) 192 = nI 2 := by cases go <;> rfl
theorem uA_197 : gI (uA 1 f n go p q r3 ρ) 197 = nI 3 := by cases go <;> rfl
theorem uA_202 : gI (uA 1 f n go p q r3 ρ) 202 = nI 3 := by cases go <;> rfl
theorem uA_201 : gI (uA 1 f n go p q r3 ρ) 201 = (match go with | none => gI ρ 201 | some _ => nI 2) := by cases go <;> rfl
theorem uA_20 : gA (uA 1 f n go p q r3 ρ) 20 0 = nI f ∧ gA (uA 1 f n go p q r3 ρ) 20 1 = nI 0 := by cases go <;> exact ⟨rfl, rfl⟩
theorem uA_21 : gA (uA 1 f n go p q r3 ρ) 21 0 = nI 0 ∧ gA (uA 1 f n go p q r3 ρ) 22 0 = nI n ∧ gA (uA 1 f n go p q r3 ρ) 21 1 = nI 0 ∧ gA (uA 1 f n go p q r3 ρ) 22 1 = nI 3 := by cases go <;> exact ⟨rfl, rfl, rfl, rfl⟩
theorem uA_25 : gA (uA 1 f n go p q r3 ρ) 25 0 = nI 0 ∧ gA (uA 1 f n go p q r3 ρ) 25 1 = nI 1 ∧ gA (uA 1 f n go p q r3 ρ) 25 2 = nI (zx go + 6) := by cases go <;> exact ⟨rfl, rfl, rfl⟩
theorem uA_24 : gA (uA 1 f n go p q r3 ρ) 24 0 = -1 ∧ gA (uA 1 f n go p q r3 ρ) 24 1 = nI 0 ∧ gA (uA 1 f n go p q r3 ρ) 24 2 = -1 := by cases go <;> exact ⟨rfl, rfl, rfl⟩
theorem uA_28 : gA (uA 1 f n go p q r3 ρ) 28 0 = nI (zx go) ∧ gA (uA 1 f n go p q r3 ρ) 28 1 = nI (zx go + 4) ∧ gA (uA 1 f n go p q r3 ρ) 28 2 = nI (zx go + 7) := by cases go <;> exact ⟨rfl, rfl, rfl⟩
theorem uA_29 : gA (uA 1 f n go p q r3 ρ) 29 0 = nI 3 ∧ gA (uA 1 f n go p q r3 ρ) 29 1 = nI 1 ∧ gA (uA 1 f n go p q r3 ρ) 29 2 = nI 2 := by cases go <;> exact ⟨rfl, rfl, rfl⟩
theorem uA_30 : gA (uA 1 f n go p q r3 ρ) 30 0 = nI p ∧ gA (uA 1 f n go p q r3 ρ) 30 1 = nI q ∧ gA (uA 1 f n go p q r3 ρ) 30 2 = nI r3 ∧ gA (uA 1 f n go p q r3 ρ) 30 4 = nI 100 ∧ gA (uA 1 f n go p q r3 ρ) 30 8 = nI 50 ∧ gA (uA 1 f n go p q r3 ρ) 30 9 = nI 50 := by cases go <;> exact ⟨rfl, rfl, rfl, rfl, rfl, rfl⟩
theorem uA_31a : gA (uA 1 f n go p q r3 ρ) 31 0 = nI (zx go + 1) ∧ gA (uA 1 f n go p q r3 ρ) 31 1 = nI (zx go + 2) ∧ gA (uA 1 f n go p q r3 ρ) 31 6 = nI (zx go + 3) ∧ gA (uA 1 f n go p q r3 ρ) 31 7 = -1 ∧ gA (uA 1 f n go p q r3 ρ) 31 12 = -1 ∧ gA (uA 1 f n go p q r3 ρ) 31 13 = -1 := by cases go <;> exact ⟨rfl, rfl, rfl, rfl, rfl, rfl⟩
theorem uA_31b : gA (uA 1 f n go p q r3 ρ) 31 24 = -1 ∧ gA (uA 1 f n go p q r3 ρ) 31 25 = nI (zx go + 5) := by cases go <;> exact ⟨rfl, rfl⟩
theorem uA_31c : gA (uA 1 f n go p q r3 ρ) 31 48 = nI (zx go + 8) ∧ gA (uA 1 f n go p q r3 ρ) 31 49 = nI (zx go + 9) ∧ gA (uA 1 f n go p q r3 ρ) 31 54 = -1 ∧ gA (uA 1 f n go p q r3 ρ) 31 55 = nI (zx go + 10) := by cases go <;> exact ⟨rfl, rfl, rfl, rfl⟩
end UA
theorem mkEX {τ : Sta} {L : List (Nat × List Tk)} {C xx i : Nat} {o : List Tk} {e : Int32} {x y v : Int64} (hq : ∀ e ∈ L, EQ (vrF 1) τ C xx e.1 e.2) (hm : (i, o) ∈ L) (he : e = nI i) (h133 : gI τ 133 = nI xx) (hxx : xx ≤ 1500) (hC : C ≤ 1500) (hv : evS x y o [] = some [v]) (hl : o.length ≤ 50) : EX τ e x y v :=
  ⟨i, o, C, xx, he, h133, hxx, hC, hq _ hm, hv, hl⟩
theorem mem_eZ {n : Nat} {an : Bool} {aa b : Nat} {go : Option Nat} {bk jp : Nat} {e : Nat × List Tk} (h : e ∈ eE n bk jp (zx go)) : e ∈ eA2 n an aa b go bk jp :=
  List.mem_append_right _ (List.mem_append_right _ (List.mem_append_right _ (List.mem_append_right _ (List.mem_append_right _ h))))
theorem zx_le (go : Option Nat) : zx go ≤ 3 := by
  cases go
  · exact (by decide : 2 ≤ 3)
  · exact Nat.le_refl 3
theorem nI_n1 {i : Nat} (h : i < 2 ^ 31) : ¬ nI i < 0 := nI_pos h
theorem pf {f n : Nat} {an : Bool} {aa b : Nat} {go : Option Nat} {p q bk r3 jp C : Nat} {ρ τ : Sta} (hn : n < 22) (hbk : bk < 6) (hjp : jp < 22) (h201 : gI ρ 201 = -1) (hA : AG (uA 1 f n go p q r3 ρ) τ) (hC : C ≤ 100) (h133 : gI τ 133 = nI (zx go + 11)) (hq : ∀ e ∈ eA2 n an aa b go bk jp, EQ (vrF 1) τ C (zx go + 11) e.1 e.2) : PF n τ := by
  have hz := zx_le go
  have mk : ∀ {i : Nat} {o : List Tk} {e : Int32} {x y v : Int64}, (i, o) ∈ eA2 n an aa b go bk jp → e = nI i → evS x y o [] = some [v] → o.length ≤ 50 → EX τ e x y v := fun hm he hv hl => mkEX hq hm he h133 (by omega) (by omega) hv hl
  have a25 := uA_25 f n go p q r3 ρ
  have a28 := uA_28 f n go p q r3 ρ
  have a29 := uA_29 f n go p q r3 ρ
  have a31a := uA_31a f n go p q r3 ρ
  have a31b := uA_31b f n go p q r3 ρ
  have a31c := uA_31c f n go p q r3 ρ
  have a21 := uA_21 f n go p q r3 ρ
  have a201 := uA_201 f n go p q r3 ρ
  rw [← hA.2.1 25 (by unfold prA; omega)] at a25
  rw [← hA.2.1 28 (by unfold prA; omega)] at a28
  rw [← hA.2.1 29 (by unfold prA; omega)] at a29
  rw [← hA.2.1 31 (by unfold prA; omega)] at a31a a31b a31c
  rw [← hA.2.1 21 (by unfold prA; omega), ← hA.2.1 22 (by unfold prA; omega)] at a21
  rw [← hA.1 201 (by unfold prI; omega)] at a201
  have mE : ∀ {e : Nat × List Tk}, e ∈ eE n bk jp (zx go) → e ∈ eA2 n an aa b go bk jp := fun h => mem_eZ h
  refine ⟨(hA.1 192 (by unfold prI; omega)).trans (uA_192 f n go p q r3 ρ), (hA.1 197 (by unfold prI; omega)).trans (uA_197 f n go p q r3 ρ), (hA.1 202 (by unfold prI; omega)).trans (uA_202 f n go p q r3 ρ), a21, fun g hg x y => ?_, ?_, fun k hk => ?_⟩
  · rcases (by omega : g = 0 ∨ g = 1 ∨ g = 2) with rfl | rfl | rfl
    · obtain ⟨v, hv⟩ := vG x y an aa b
      exact ⟨v, mk (List.mem_append_right _ (List.mem_append_right _ (List.mem_append_left _ List.mem_cons_self))) a25.1 hv (Nat.le_trans (cG_len an aa b).1 (by decide))⟩
    · obtain ⟨v, hv⟩ := vH x y
      exact ⟨v, mk (List.mem_append_right _ (List.mem_append_right _ (List.mem_append_right _ (List.mem_append_left _ List.mem_cons_self)))) a25.2.1 hv (by decide)⟩
    · obtain ⟨v, hv⟩ := vW x y
      exact ⟨v, mk (mE (by unfold eE; simp)) a25.2.2 hv (by decide)⟩
  · cases go with
    | none =>
      refine Or.inl ?_
      rw [a201]
      show gI ρ 201 < 0
      rw [h201]
      decide
    | some g =>
      refine Or.inr (fun x y => ?_)
      obtain ⟨v, hv⟩ := vZ x y g
      exact ⟨v, mk (List.mem_append_right _ (List.mem_append_right _ (List.mem_append_right _ (List.mem_append_right _ (List.mem_append_left _ List.mem_cons_self))))) a201 hv (show 7 ≤ 50 by decide)⟩
  · rcases (by omega : k = 0 ∨ k = 1 ∨ k = 2) with rfl | rfl | rfl
    · refine ⟨a29.1, fun x y hx hy => ?_⟩
      obtain ⟨v, v1, v2⟩ := vM (a := x) (b := y) (n := n) (by omega) hn
      refine ⟨v, mk (mE (by unfold eE; simp)) a28.1 v1 (show 3 ≤ 50 by decide), fun h b hb => ?_⟩
      have hlt := v2 h
      have hb' : b < 3 := hb
      rcases (by omega : b = 0 ∨ b = 1 ∨ b = 2) with rfl | rfl | rfl
      · refine ⟨x + 1, if y + 1 < 3 then y + 1 else 3, by omega, by split <;> omega, Or.inr ⟨?_, ?_⟩, Or.inr ⟨?_, ?_⟩⟩
        · show ¬ gA τ 31 0 < 0
          rw [a31a.1]
          exact nI_pos (by omega)
        · exact mk (o := cM1) (mE (by unfold eE; simp)) a31a.1 (s_1 x y) (by decide)
        · show ¬ gA τ 31 1 < 0
          rw [a31a.2.1]
          exact nI_pos (by omega)
        · exact mk (o := cM2) (mE (by unfold eE; simp)) a31a.2.1 (s_2 (a := x) hy) (by decide)
      · refine ⟨x - bk, y, by omega, by omega, Or.inr ⟨?_, ?_⟩, Or.inl ⟨?_, rfl⟩⟩
        · show ¬ gA τ 31 6 < 0
          rw [a31a.2.2.1]
          exact nI_pos (by omega)
        · exact mk (o := cM3 bk) (mE (by unfold eE; simp)) a31a.2.2.1 (s_3 (by omega) hbk) (show 5 ≤ 50 by decide)
        · show gA τ 31 7 < 0
          rw [a31a.2.2.2.1]
          decide
      · refine ⟨x, y, hx, by omega, Or.inl ⟨?_, rfl⟩, Or.inl ⟨?_, rfl⟩⟩
        · show gA τ 31 12 < 0
          rw [a31a.2.2.2.2.1]
          decide
        · show gA τ 31 13 < 0
          rw [a31a.2.2.2.2.2]
          decide
    · refine ⟨a29.2.1, fun x y hx hy => ?_⟩
      obtain ⟨v, v1, v2⟩ := vR (a := x) (b := y) hy
      refine ⟨v, mk (mE (by unfold eE; simp)) a28.2.1 v1 (by decide), fun h b hb => ?_⟩
      have hlt := v2 h
      have hb' : b < 1 := hb
      obtain rfl : b = 0 := by omega
      refine ⟨x, y - 1, hx, by omega, Or.inl ⟨?_, rfl⟩, Or.inr ⟨?_, ?_⟩⟩
      · show gA τ 31 24 < 0
        rw [a31b.1]
        decide
      · show ¬ gA τ 31 25 < 0
        rw [a31b.2]
        exact nI_pos (by omega)
      · exact mk (o := cR1) (mE (by unfold eE; simp)) a31b.2 (s_4 hy hlt) (by decide)
    · refine ⟨a29.2.2, fun x y hx hy => ?_⟩
      obtain ⟨v, v1, v2⟩ := vJ0 (a := x) (b := y) (jp := jp) (by omega) hjp
      refine ⟨v, mk (mE (by unfold eE; simp)) a28.2.2 v1 (show 7 ≤ 50 by decide), fun h b hb => ?_⟩
      have hlt := v2 h
      have hb' : b < 2 := hb
      rcases (by omega : b = 0 ∨ b = 1) with rfl | rfl
      · refine ⟨x - jp, x % 4, by omega, by omega, Or.inr ⟨?_, ?_⟩, Or.inr ⟨?_, ?_⟩⟩
        · show ¬ gA τ 31 48 < 0
          rw [a31c.1]
          exact nI_pos (by omega)
        · exact mk (o := cJ1 jp) (mE (by unfold eE; simp)) a31c.1 (s_5 (by omega) hjp hlt) (show 3 ≤ 50 by decide)
        · show ¬ gA τ 31 49 < 0
          rw [a31c.2.1]
          exact nI_pos (by omega)
        · exact mk (o := cJ2) (mE (by unfold eE; simp)) a31c.2.1 (s_6 (by omega)) (by decide)
      · refine ⟨x, 3, hx, by decide, Or.inl ⟨?_, rfl⟩, Or.inr ⟨?_, ?_⟩⟩
        · show gA τ 31 54 < 0
          rw [a31c.2.2.1]
          decide
        · show ¬ gA τ 31 55 < 0
          rw [a31c.2.2.2]
          exact nI_pos (by omega)
        · exact mk (o := cJ3) (mE (by unfold eE; simp)) a31c.2.2.2 (s_7 _ _) (by decide)
