/-! Expressions: a recognizer over lists of tokens, and that the class's parser does as it says. -/
def rB (g : Nat → Nat → Nat → List Tk → Option (List Tk × List Tk)) (md x d : Nat) (l : List Tk) : Option (List Tk × List Tk) :=
    if md = 0 then
      (if x ≤ 4 then
        match g 0 (x + 1) d l with
        | none => none
        | some a => match g 1 x d a.1 with
          | none => none
          | some b => some (b.1, a.2 ++ b.2)
      else g 2 0 d l)
    else if md = 1 then
      match l with
      | [] => none
      | p :: r => if lvN p.1 = x then
          match g 0 (x + 1) d r with
          | none => none
          | some a => if x = 2 then some (a.1, a.2 ++ [(p.1, 0)]) else match g 1 x d a.1 with
            | none => none
            | some b => some (b.1, (a.2 ++ [(p.1, 0)]) ++ b.2)
        else some (p :: r, [])
    else if md = 2 then
      match l with
      | [] => none
      | p :: r => if p.1 = 274 then some (r, [(274, p.2)])
        else if p.1 = 273 then (if p.2 = 120 ∨ p.2 = 121 then some (r, [(273, p.2)]) else none)
        else if p.1 = 40 then g 3 1 d (p :: r)
        else if p.1 = 45 then (if d < 8 then
            match g 2 0 (d + 1) r with
            | none => none
            | some a => some (a.1, a.2 ++ [(280, 0)])
          else none)
        else if p.1 = 270 ∨ p.1 = 271 ∨ p.1 = 272 then
          match g 3 (if p.1 = 272 then 1 else 2) d r with
          | none => none
          | some a => some (a.1, a.2 ++ [(p.1, 0)])
        else none
    else
      match l with
      | [] => none
      | p :: r => if p.1 = 40 ∧ d < 8 then
          match g 0 0 (d + 1) r with
          | none => none
          | some a => match a.1 with
            | [] => none
            | q :: r2 => if x = 1 then (if q.1 = 41 then some (r2, a.2) else none)
              else if q.1 = 44 then
                match g 0 0 (d + 1) r2 with
                | none => none
                | some b => match b.1 with
                  | [] => none
                  | q2 :: r3 => if q2.1 = 41 then some (r3, a.2 ++ b.2) else none
              else none
        else none
def rX : Nat → Nat → Nat → Nat → List Tk → Option (List Tk × List Tk)
  | 0 => fun _ _ _ _ => none
  | f + 1 => rB (rX f)
theorem rX_s (f md x d : Nat) (l : List Tk) : rX (f + 1) md x d l = rB (rX f) md x d l := rfl
/-- the ways in which it answers -/
theorem rX_0 {f x d : Nat} {l l' o : List Tk} (hx : x ≤ 4) (h : rX (f + 1) 0 x d l = some (l', o)) : ∃ a b : List Tk × List Tk, rX f 0 (x + 1) d l = some a ∧ rX f 1 x d a.1 = some b ∧ l' = b.1 ∧ o = a.2 ++ b.2 := by
  rw [rX_s] at h
  unfold rB at h
  rw [if_pos rfl, if_pos hx] at h
  cases e1 : rX f 0 (x + 1) d l with
  | none => rw [e1] at h; cases h
  | some a =>
    rw [e1] at h
    dsimp only at h
    cases e2 : rX f 1 x d a.1 with
    | none => rw [e2] at h; cases h
    | some b =>
      rw [e2] at h
      dsimp only at h
      cases h
      exact ⟨a, b, rfl, e2, rfl, rfl⟩
theorem rX_05 {f x d : Nat} {l l' o : List Tk} (hx : ¬ x ≤ 4) (h : rX (f + 1) 0 x d l = some (l', o)) : rX f 2 0 d l = some (l', o) := by
  rw [rX_s] at h
  unfold rB at h
  rw [if_pos rfl, if_neg hx] at h
  exact h
theorem rX_1 {f x d : Nat} {l l' o : List Tk} (h : rX (f + 1) 1 x d l = some (l', o)) : ∃ p r, l = p :: r ∧ ((lvN p.1 ≠ x ∧ l' = l ∧ o = []) ∨ (lvN p.1 = x ∧ ∃ a, rX f 0 (x + 1) d r = some a ∧ ((x = 2 ∧ l' = a.1 ∧ o = a.2 ++ [(p.1, 0)]) ∨ (x ≠ 2 ∧ ∃ b, rX f 1 x d a.1 = some b ∧ l' = b.1 ∧ o = (a.2 ++ [(p.1, 0)]) ++ b.2)))) := by
  rw [rX_s] at h
  unfold rB at h
  rw [if_neg (by decide), if_pos rfl] at h
  cases l with
  | nil => cases h
  | cons p r =>
    refine ⟨p, r, rfl, ?_⟩
    dsimp only at h
    by_cases q : lvN p.1 = x
    · rw [if_pos q] at h
      refine Or.inr ⟨q, ?_⟩
      cases e1 : rX f 0 (x + 1) d r with
      | none => rw [e1] at h; cases h
      | some a =>
        rw [e1] at h
        dsimp only at h
        refine ⟨a, rfl, ?_⟩
        by_cases q2 : x = 2
        · rw [if_pos q2] at h
          cases h
          exact Or.inl ⟨q2, rfl, rfl⟩
        · rw [if_neg q2] at h
          cases e2 : rX f 1 x d a.1 with
          | none => rw [e2] at h; cases h
          | some b =>
            rw [e2] at h
            dsimp only at h
            cases h
            exact Or.inr ⟨q2, b, rfl, rfl, rfl⟩
    · rw [if_neg q] at h
      cases h
      exact Or.inl ⟨q, rfl, rfl⟩
theorem rX_2 {f x d : Nat} {l l' o : List Tk} (h : rX (f + 1) 2 x d l = some (l', o)) : ∃ p r, l = p :: r ∧ ((p.1 = 274 ∧ l' = r ∧ o = [(274, p.2)]) ∨ (p.1 = 273 ∧ (p.2 = 120 ∨ p.2 = 121) ∧ l' = r ∧ o = [(273, p.2)]) ∨ (p.1 = 40 ∧ rX f 3 1 d (p :: r) = some (l', o)) ∨ (p.1 = 45 ∧ d < 8 ∧ ∃ a, rX f 2 0 (d + 1) r = some a ∧ l' = a.1 ∧ o = a.2 ++ [(280, 0)]) ∨ ((p.1 = 270 ∨ p.1 = 271 ∨ p.1 = 272) ∧ ∃ a, rX f 3 (if p.1 = 272 then 1 else 2) d r = some a ∧ l' = a.1 ∧ o = a.2 ++ [(p.1, 0)])) := by
  rw [rX_s] at h
  unfold rB at h
  rw [if_neg (by decide), if_neg (by decide), if_pos rfl] at h
  cases l with
  | nil => cases h
  | cons p r =>
    refine ⟨p, r, rfl, ?_⟩
    dsimp only at h
    by_cases q1 : p.1 = 274
    · rw [if_pos q1] at h
      cases h
      exact Or.inl ⟨q1, rfl, rfl⟩
    rw [if_neg q1] at h
    by_cases q2 : p.1 = 273
    · rw [if_pos q2] at h
      by_cases q3 : p.2 = 120 ∨ p.2 = 121
      · rw [if_pos q3] at h
        cases h
        exact Or.inr (Or.inl ⟨q2, q3, rfl, rfl⟩)
      · rw [if_neg q3] at h
        cases h
    rw [if_neg q2] at h
    by_cases q4 : p.1 = 40
    · rw [if_pos q4] at h
      exact Or.inr (Or.inr (Or.inl ⟨q4, h⟩))
    rw [if_neg q4] at h
    by_cases q5 : p.1 = 45
    · rw [if_pos q5] at h
      by_cases q6 : d < 8
      · rw [if_pos q6] at h
        cases e1 : rX f 2 0 (d + 1) r with
        | none => rw [e1] at h; cases h
        | some a =>
          rw [e1] at h
          dsimp only at h
          cases h
          exact Or.inr (Or.inr (Or.inr (Or.inl ⟨q5, q6, a, rfl, rfl, rfl⟩)))
      · rw [if_neg q6] at h
        cases h
    rw [if_neg q5] at h
    by_cases q7 : p.1 = 270 ∨ p.1 = 271 ∨ p.1 = 272
    · rw [if_pos q7] at h
      cases e1 : rX f 3 (if p.1 = 272 then 1 else 2) d r with
      | none => rw [e1] at h; cases h
      | some a =>
        rw [e1] at h
        dsimp only at h
        cases h
        exact Or.inr (Or.inr (Or.inr (Or.inr ⟨q7, a, rfl, rfl, rfl⟩)))
    · rw [if_neg q7] at h
      cases h
theorem rX_3 {f x d : Nat} {l l' o : List Tk} (h : rX (f + 1) 3 x d l = some (l', o)) : ∃ p r a q r2, l = p :: r ∧ p.1 = 40 ∧ d < 8 ∧ rX f 0 0 (d + 1) r = some a ∧ a.1 = q :: r2 ∧ ((x = 1 ∧ q.1 = 41 ∧ l' = r2 ∧ o = a.2) ∨ (x ≠ 1 ∧ q.1 = 44 ∧ ∃ b q2 r3, rX f 0 0 (d + 1) r2 = some b ∧ b.1 = q2 :: r3 ∧ q2.1 = 41 ∧ l' = r3 ∧ o = a.2 ++ b.2)) := by
  rw [rX_s] at h
  unfold rB at h
  rw [if_neg (by decide), if_neg (by decide), if_neg (by decide)] at h
  cases l with
  | nil => cases h
  | cons p r =>
    dsimp only at h
    by_cases q0 : p.1 = 40 ∧ d < 8
    · rw [if_pos q0] at h
      cases e1 : rX f 0 0 (d + 1) r with
      | none => rw [e1] at h; cases h
      | some a =>
        rw [e1] at h
        dsimp only at h
        cases e2 : a.1 with
        | nil => rw [e2] at h; cases h
        | cons q r2 =>
          rw [e2] at h
          dsimp only at h
          refine ⟨p, r, a, q, r2, rfl, q0.1, q0.2, e1, e2, ?_⟩
          by_cases q1 : x = 1
          · rw [if_pos q1] at h
            by_cases q2 : q.1 = 41
            · rw [if_pos q2] at h
              cases h
              exact Or.inl ⟨q1, q2, rfl, rfl⟩
            · rw [if_neg q2] at h
              cases h
          · rw [if_neg q1] at h
            by_cases q2 : q.1 = 44
            · rw [if_pos q2] at h
              cases e3 : rX f 0 0 (d + 1) r2 with
              | none => rw [e3] at h; cases h
              | some b =>
                rw [e3] at h
                dsimp only at h
                cases e4 : b.1 with
                | nil => rw [e4] at h; cases h
                | cons q3 r3 =>
                  rw [e4] at h
                  dsimp only at h
                  by_cases q5 : q3.1 = 41
                  · rw [if_pos q5] at h
                    cases h
                    exact Or.inr ⟨q1, q2, b, q3, _, rfl, e4, q5, rfl, rfl⟩
                  · rw [if_neg q5] at h
                    cases h
            · rw [if_neg q2] at h
              cases h
    · rw [if_neg q0] at h
      cases h
theorem rX_len : ∀ (f md x d : Nat) (l l' o : List Tk), md < 4 → rX f md x d l = some (l', o) → l'.length ≤ l.length
  | 0, _, _, _, _, _, _, _, h => by
    cases h
  | f + 1, 0, x, d, l, l', o, _, h => by
    by_cases hx : x ≤ 4
    · obtain ⟨a, b, h1, h2, rfl, rfl⟩ := rX_0 hx h
      have := rX_len f 0 (x + 1) d l a.1 a.2 (by decide) h1
      have := rX_len f 1 x d a.1 b.1 b.2 (by decide) h2
      omega
    · exact rX_len f 2 0 d l l' o (by decide) (rX_05 hx h)
  | f + 1, 1, x, d, l, l', o, _, h => by
    obtain ⟨p, r, rfl, h1⟩ := rX_1 h
    rcases h1 with ⟨-, rfl, -⟩ | ⟨-, a, h2, h3⟩
    · exact Nat.le_refl _
    · have e := rX_len f 0 (x + 1) d r a.1 a.2 (by decide) h2
      rcases h3 with ⟨-, rfl, -⟩ | ⟨-, b, h4, rfl, -⟩
      · show a.1.length ≤ r.length + 1
        omega
      · have := rX_len f 1 x d a.1 b.1 b.2 (by decide) h4
        show b.1.length ≤ r.length + 1
        omega
  | f + 1, 2, x, d, l, l', o, _, h => by
    obtain ⟨p, r, rfl, h1⟩ := rX_2 h
    show l'.length ≤ r.length + 1
    rcases h1 with ⟨-, rfl, -⟩ | ⟨-, -, rfl, -⟩ | ⟨-, h1⟩ | ⟨-, -, a, h1, rfl, -⟩ | ⟨-, a, h1, rfl, -⟩
    · omega
    · omega
    · exact rX_len f 3 1 d (p :: r) l' o (by decide) h1
    · have := rX_len f 2 0 (d + 1) r a.1 a.2 (by decide) h1
      omega
    · have := rX_len f 3 _ d r a.1 a.2 (by decide) h1
      omega
  | f + 1, 3, x, d, l, l', o, _, h => by
    obtain ⟨p, r, a, q, r2, rfl, -, -, h1, e1, h2⟩ := rX_3 h
    have k1 := rX_len f 0 0 (d + 1) r a.1 a.2 (by decide) h1
    rw [e1] at k1
    have k2 : r2.length + 1 ≤ r.length := k1
    show l'.length ≤ r.length + 1
    rcases h2 with ⟨-, -, rfl, -⟩ | ⟨-, -, b, q2, r3, h3, e3, -, rfl, -⟩
    · omega
    · have k3 := rX_len f 0 0 (d + 1) r2 b.1 b.2 (by decide) h3
      rw [e3] at k3
      have k4 : l'.length + 1 ≤ r2.length := k3
      omega
  | f + 1, n + 4, _, _, _, _, _, h, _ => absurd h (by omega)
