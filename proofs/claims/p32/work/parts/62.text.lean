/-! The law's text as bytes and as tokens. -/
def wN0 : List Nat := [118, 97, 114, 32, 120, 32, 61, 32]
theorem wN0_b : bW0 = wN0.map nI := rfl
def wT0 : List Tk := [(1000, 7758194), (1000, 120), (61, 0)]
def wP0 : List Tk := [(256, 7758194), (273, 120), (61, 0)]
set_option maxRecDepth 20000 in
theorem wT0_e (r : List Nat) : lx (wN0 ++ r) 0 0 0 = wT0 ++ lx r 0 0 0 := rfl
def wN1 : List Nat := [32, 105, 110, 32, 48, 32, 116, 111, 32]
theorem wN1_b : bW1 = wN1.map nI := rfl
def wT1 : List Tk := [(1000, 26990), (274, 0), (1000, 29807)]
def wP1 : List Tk := [(257, 26990), (274, 0), (258, 29807)]
set_option maxRecDepth 20000 in
theorem wT1_e (r : List Nat) : lx (wN1 ++ r) 0 0 0 = wT1 ++ lx r 0 0 0 := rfl
def wN2 : List Nat := [59, 32, 118, 97, 114, 32, 121, 32, 61, 32, 48, 32, 105, 110, 32, 48, 32, 116, 111, 32, 51, 59, 32, 103, 97, 105, 110, 32, 103, 32, 61, 32]
theorem wN2_b : bW2 = wN2.map nI := rfl
def wT2 : List Tk := [(59, 0), (1000, 7758194), (1000, 121), (61, 0), (274, 0), (1000, 26990), (274, 0), (1000, 29807), (274, 3), (59, 0), (1000, 1734437230), (1000, 103), (61, 0)]
def wP2 : List Tk := [(59, 0), (256, 7758194), (273, 121), (61, 0), (274, 0), (257, 26990), (274, 0), (258, 29807), (274, 3), (59, 0), (259, 1734437230), (273, 103), (61, 0)]
set_option maxRecDepth 20000 in
theorem wT2_e (r : List Nat) : lx (wN2 ++ r) 0 0 0 = wT2 ++ lx r 0 0 0 := rfl
def wN3 : List Nat := [45]
theorem wN3_b : bW3 = wN3.map nI := rfl
def wT3 : List Tk := [(45, 0)]
def wP3 : List Tk := [(45, 0)]
set_option maxRecDepth 20000 in
theorem wT3_e (r : List Nat) : lx (wN3 ++ r) 0 0 0 = wT3 ++ lx r 0 0 0 := rfl
def wN4 : List Nat := []
theorem wN4_b : bW4 = wN4.map nI := rfl
def wT4 : List Tk := []
def wP4 : List Tk := []
set_option maxRecDepth 20000 in
theorem wT4_e (r : List Nat) : lx (wN4 ++ r) 0 0 0 = wT4 ++ lx r 0 0 0 := rfl
def wN5 : List Nat := [32, 43, 32, 120, 32, 42, 32]
theorem wN5_b : bW5 = wN5.map nI := rfl
def wT5 : List Tk := [(43, 0), (1000, 120), (42, 0)]
def wP5 : List Tk := [(43, 0), (273, 120), (42, 0)]
set_option maxRecDepth 20000 in
theorem wT5_e (r : List Nat) : lx (wN5 ++ r) 0 0 0 = wT5 ++ lx r 0 0 0 := rfl
def wN6 : List Nat := [59, 32, 103, 97, 105, 110, 32, 104, 32, 112, 101, 114, 32, 109, 111, 118, 101, 32, 61, 32, 51, 32, 45, 32, 121, 32, 42, 32, 50, 59]
theorem wN6_b : bW6 = wN6.map nI := rfl
def wT6 : List Tk := [(59, 0), (1000, 1734437230), (1000, 104), (1000, 7366002), (1000, 1836021349), (61, 0), (274, 3), (45, 0), (1000, 121), (42, 0), (274, 2), (59, 0)]
def wP6 : List Tk := [(59, 0), (259, 1734437230), (273, 104), (260, 7366002), (273, 1836021349), (61, 0), (274, 3), (45, 0), (273, 121), (42, 0), (274, 2), (59, 0)]
set_option maxRecDepth 20000 in
theorem wT6_e (r : List Nat) : lx (wN6 ++ r) 0 0 0 = wT6 ++ lx r 0 0 0 := rfl
def wN7 : List Nat := [32, 103, 111, 97, 108, 32, 120, 32, 61, 32]
theorem wN7_b : bW7 = wN7.map nI := rfl
def wT7 : List Tk := [(1000, 1735352684), (1000, 120), (61, 0)]
def wP7 : List Tk := [(261, 1735352684), (273, 120), (61, 0)]
set_option maxRecDepth 20000 in
theorem wT7_e (r : List Nat) : lx (wN7 ++ r) 0 0 0 = wT7 ++ lx r 0 0 0 := rfl
def wN8 : List Nat := [32, 97, 110, 100, 32, 121, 32, 60, 62, 32, 51, 59]
theorem wN8_b : bW8 = wN8.map nI := rfl
def wT8 : List Tk := [(1000, 6385252), (1000, 121), (277, 0), (274, 3), (59, 0)]
def wP8 : List Tk := [(267, 6385252), (273, 121), (277, 0), (274, 3), (59, 0)]
set_option maxRecDepth 20000 in
theorem wT8_e (r : List Nat) : lx (wN8 ++ r) 0 0 0 = wT8 ++ lx r 0 0 0 := rfl
def wN9 : List Nat := [32, 100, 111, 32, 109, 111, 118, 101, 32, 119, 104, 101, 110, 32, 120, 32, 60, 32]
theorem wN9_b : bW9 = wN9.map nI := rfl
def wT9 : List Tk := [(1000, 25711), (1000, 1836021349), (1000, 2003330414), (1000, 120), (60, 0)]
def wP9 : List Tk := [(262, 25711), (273, 1836021349), (263, 2003330414), (273, 120), (60, 0)]
set_option maxRecDepth 20000 in
theorem wT9_e (r : List Nat) : lx (wN9 ++ r) 0 0 0 = wT9 ++ lx r 0 0 0 := rfl
def wN10 : List Nat := [32, 103, 111, 32]
theorem wN10_b : bW10 = wN10.map nI := rfl
def wT10 : List Tk := [(1000, 26479)]
def wP10 : List Tk := [(264, 26479)]
set_option maxRecDepth 20000 in
theorem wT10_e (r : List Nat) : lx (wN10 ++ r) 0 0 0 = wT10 ++ lx r 0 0 0 := rfl
def wN11 : List Nat := [32, 115, 101, 116, 32, 120, 32, 61, 32, 120, 32, 43, 32, 49, 44, 32, 121, 32, 61, 32, 109, 105, 110, 40, 121, 32, 43, 32, 49, 44, 32, 51, 41, 32, 97, 108, 115, 111, 32, 103, 111, 32]
theorem wN11_b : bW11 = wN11.map nI := rfl
def wT11 : List Tk := [(1000, 7562612), (1000, 120), (61, 0), (1000, 120), (43, 0), (274, 1), (44, 0), (1000, 121), (61, 0), (1000, 7170414), (40, 0), (1000, 121), (43, 0), (274, 1), (44, 0), (274, 3), (41, 0), (1000, 1634497391), (1000, 26479)]
def wP11 : List Tk := [(265, 7562612), (273, 120), (61, 0), (273, 120), (43, 0), (274, 1), (44, 0), (273, 121), (61, 0), (270, 7170414), (40, 0), (273, 121), (43, 0), (274, 1), (44, 0), (274, 3), (41, 0), (266, 1634497391), (264, 26479)]
set_option maxRecDepth 20000 in
theorem wT11_e (r : List Nat) : lx (wN11 ++ r) 0 0 0 = wT11 ++ lx r 0 0 0 := rfl
def wN12 : List Nat := [32, 115, 101, 116, 32, 120, 32, 61, 32, 109, 97, 120, 40, 120, 32, 45, 32]
theorem wN12_b : bW12 = wN12.map nI := rfl
def wT12 : List Tk := [(1000, 7562612), (1000, 120), (61, 0), (1000, 7168376), (40, 0), (1000, 120), (45, 0)]
def wP12 : List Tk := [(265, 7562612), (273, 120), (61, 0), (271, 7168376), (40, 0), (273, 120), (45, 0)]
set_option maxRecDepth 20000 in
theorem wT12_e (r : List Nat) : lx (wN12 ++ r) 0 0 0 = wT12 ++ lx r 0 0 0 := rfl
def wN13 : List Nat := [44, 32, 48, 41, 32, 97, 108, 115, 111, 32, 103, 111, 32]
theorem wN13_b : bW13 = wN13.map nI := rfl
def wT13 : List Tk := [(44, 0), (274, 0), (41, 0), (1000, 1634497391), (1000, 26479)]
def wP13 : List Tk := [(44, 0), (274, 0), (41, 0), (266, 1634497391), (264, 26479)]
set_option maxRecDepth 20000 in
theorem wT13_e (r : List Nat) : lx (wN13 ++ r) 0 0 0 = wT13 ++ lx r 0 0 0 := rfl
def wN14 : List Nat := [59, 32, 100, 111, 32, 114, 101, 115, 116, 32, 119, 104, 101, 110, 32, 121, 32, 62, 32, 48, 32, 103, 111, 32, 49, 48, 48, 32, 115, 101, 116, 32, 121, 32, 61, 32, 121, 32, 45, 32, 49, 59, 32, 103, 97, 105, 110, 32, 119, 32, 61, 32, 97, 98, 115, 40, 120, 32, 45, 32, 121, 41, 59, 32, 100, 111, 32, 106, 117, 109, 112, 32, 119, 104, 101, 110, 32, 120, 32, 62, 61, 32]
theorem wN14_b : bW14 = wN14.map nI := rfl
def wT14 : List Tk := [(59, 0), (1000, 25711), (1000, 1919251316), (1000, 2003330414), (1000, 121), (62, 0), (274, 0), (1000, 26479), (274, 100), (1000, 7562612), (1000, 121), (61, 0), (1000, 121), (45, 0), (274, 1), (59, 0), (1000, 1734437230), (1000, 119), (61, 0), (1000, 6382195), (40, 0), (1000, 120), (45, 0), (1000, 121), (41, 0), (59, 0), (1000, 25711), (1000, 1786080624), (1000, 2003330414), (1000, 120), (276, 0)]
def wP14 : List Tk := [(59, 0), (262, 25711), (273, 1919251316), (263, 2003330414), (273, 121), (62, 0), (274, 0), (264, 26479), (274, 100), (265, 7562612), (273, 121), (61, 0), (273, 121), (45, 0), (274, 1), (59, 0), (259, 1734437230), (273, 119), (61, 0), (272, 6382195), (40, 0), (273, 120), (45, 0), (273, 121), (41, 0), (59, 0), (262, 25711), (273, 1786080624), (263, 2003330414), (273, 120), (276, 0)]
set_option maxRecDepth 20000 in
theorem wT14_e (r : List Nat) : lx (wN14 ++ r) 0 0 0 = wT14 ++ lx r 0 0 0 := rfl
def wN15 : List Nat := [32, 97, 110, 100, 32, 121, 32, 60, 62, 32, 49, 32, 103, 111, 32, 53, 48, 32, 115, 101, 116, 32, 120, 32, 61, 32, 120, 32, 45, 32]
theorem wN15_b : bW15 = wN15.map nI := rfl
def wT15 : List Tk := [(1000, 6385252), (1000, 121), (277, 0), (274, 1), (1000, 26479), (274, 50), (1000, 7562612), (1000, 120), (61, 0), (1000, 120), (45, 0)]
def wP15 : List Tk := [(267, 6385252), (273, 121), (277, 0), (274, 1), (264, 26479), (274, 50), (265, 7562612), (273, 120), (61, 0), (273, 120), (45, 0)]
set_option maxRecDepth 20000 in
theorem wT15_e (r : List Nat) : lx (wN15 ++ r) 0 0 0 = wT15 ++ lx r 0 0 0 := rfl
def wN16 : List Nat := [44, 32, 121, 32, 61, 32, 120, 32, 37, 32, 52, 32, 97, 108, 115, 111, 32, 103, 111, 32, 53, 48, 32, 115, 101, 116, 32, 121, 32, 61, 32, 51, 59]
theorem wN16_b : bW16 = wN16.map nI := rfl
def wT16 : List Tk := [(44, 0), (1000, 121), (61, 0), (1000, 120), (37, 0), (274, 4), (1000, 1634497391), (1000, 26479), (274, 50), (1000, 7562612), (1000, 121), (61, 0), (274, 3), (59, 0)]
def wP16 : List Tk := [(44, 0), (273, 121), (61, 0), (273, 120), (37, 0), (274, 4), (266, 1634497391), (264, 26479), (274, 50), (265, 7562612), (273, 121), (61, 0), (274, 3), (59, 0)]
set_option maxRecDepth 20000 in
theorem wT16_e (r : List Nat) : lx (wN16 ++ r) 0 0 0 = wT16 ++ lx r 0 0 0 := rfl
/-- the digits of a number below 100 -/
def dg (v : Nat) : List Nat := if v < 10 then [48 + v] else [48 + v / 10, 48 + v % 10]
theorem lx_dg0 : ∀ v, v < 100 → ∀ r, lx (dg v ++ r) 0 0 0 = lx r 2 v (dg v).length
  | 0, _, _ => rfl
  | 1, _, _ => rfl
  | 2, _, _ => rfl
  | 3, _, _ => rfl
  | 4, _, _ => rfl
  | 5, _, _ => rfl
  | 6, _, _ => rfl
  | 7, _, _ => rfl
  | 8, _, _ => rfl
  | 9, _, _ => rfl
  | 10, _, _ => rfl
  | 11, _, _ => rfl
  | 12, _, _ => rfl
  | 13, _, _ => rfl
  | 14, _, _ => rfl
  | 15, _, _ => rfl
  | 16, _, _ => rfl
  | 17, _, _ => rfl
  | 18, _, _ => rfl
  | 19, _, _ => rfl
  | 20, _, _ => rfl
  | 21, _, _ => rfl
  | 22, _, _ => rfl
  | 23, _, _ => rfl
  | 24, _, _ => rfl
  | 25, _, _ => rfl
  | 26, _, _ => rfl
  | 27, _, _ => rfl
  | 28, _, _ => rfl
  | 29, _, _ => rfl
  | 30, _, _ => rfl
  | 31, _, _ => rfl
  | 32, _, _ => rfl
  | 33, _, _ => rfl
  | 34, _, _ => rfl
  | 35, _, _ => rfl
  | 36, _, _ => rfl
  | 37, _, _ => rfl
  | 38, _, _ => rfl
  | 39, _, _ => rfl
  | 40, _, _ => rfl
  | 41, _, _ => rfl
  | 42, _, _ => rfl
  | 43, _, _ => rfl
  | 44, _, _ => rfl
  | 45, _, _ => rfl
  | 46, _, _ => rfl
  | 47, _, _ => rfl
  | 48, _, _ => rfl
  | 49, _, _ => rfl
  | 50, _, _ => rfl
  | 51, _, _ => rfl
  | 52, _, _ => rfl
  | 53, _, _ => rfl
  | 54, _, _ => rfl
  | 55, _, _ => rfl
  | 56, _, _ => rfl
  | 57, _, _ => rfl
  | 58, _, _ => rfl
  | 59, _, _ => rfl
  | 60, _, _ => rfl
  | 61, _, _ => rfl
  | 62, _, _ => rfl
  | 63, _, _ => rfl
  | 64, _, _ => rfl
  | 65, _, _ => rfl
  | 66, _, _ => rfl
  | 67, _, _ => rfl
  | 68, _, _ => rfl
  | 69, _, _ => rfl
  | 70, _, _ => rfl
  | 71, _, _ => rfl
  | 72, _, _ => rfl
  | 73, _, _ => rfl
  | 74, _, _ => rfl
  | 75, _, _ => rfl
  | 76, _, _ => rfl
  | 77, _, _ => rfl
  | 78, _, _ => rfl
  | 79, _, _ => rfl
  | 80, _, _ => rfl
  | 81, _, _ => rfl
  | 82, _, _ => rfl
  | 83, _, _ => rfl
  | 84, _, _ => rfl
  | 85, _, _ => rfl
  | 86, _, _ => rfl
  | 87, _, _ => rfl
  | 88, _, _ => rfl
  | 89, _, _ => rfl
  | 90, _, _ => rfl
  | 91, _, _ => rfl
  | 92, _, _ => rfl
  | 93, _, _ => rfl
  | 94, _, _ => rfl
  | 95, _, _ => rfl
  | 96, _, _ => rfl
  | 97, _, _ => rfl
  | 98, _, _ => rfl
  | 99, _, _ => rfl
  | n + 100, h, _ => absurd h (by omega)
theorem dg_len {v : Nat} : 1 ≤ (dg v).length ∧ (dg v).length ≤ 2 := by
  unfold dg
  by_cases h : v < 10
  · rw [if_pos h]
    exact ⟨Nat.le_refl _, Nat.le_succ _⟩
  · rw [if_neg h]
    exact ⟨Nat.le_succ _, Nat.le_refl _⟩
theorem lx_dg {v c : Nat} (hv : v < 100) (hc : ldg c = false) (r : List Nat) : lx (dg v ++ c :: r) 0 0 0 = (274, v) :: lx (c :: r) 0 0 0 := by
  rw [lx_dg0 v hv, lx_n hc]
  unfold ntk
  rw [Nat.ble_eq.mpr (show (dg v).length ≤ 6 from Nat.le_trans dg_len.2 (by decide))]
  rfl
set_option maxRecDepth 20000 in
theorem wD0 {v : Nat} (hv : v < 100) (r : List Nat) : lx (dg v ++ (wN0 ++ r)) 0 0 0 = (274, v) :: (wT0 ++ lx r 0 0 0) := lx_dg hv rfl _
set_option maxRecDepth 20000 in
theorem wD1 {v : Nat} (hv : v < 100) (r : List Nat) : lx (dg v ++ (wN1 ++ r)) 0 0 0 = (274, v) :: (wT1 ++ lx r 0 0 0) := lx_dg hv rfl _
set_option maxRecDepth 20000 in
theorem wD2 {v : Nat} (hv : v < 100) (r : List Nat) : lx (dg v ++ (wN2 ++ r)) 0 0 0 = (274, v) :: (wT2 ++ lx r 0 0 0) := lx_dg hv rfl _
set_option maxRecDepth 20000 in
theorem wD3 {v : Nat} (hv : v < 100) (r : List Nat) : lx (dg v ++ (wN3 ++ r)) 0 0 0 = (274, v) :: (wT3 ++ lx r 0 0 0) := lx_dg hv rfl _
set_option maxRecDepth 20000 in
theorem wD5 {v : Nat} (hv : v < 100) (r : List Nat) : lx (dg v ++ (wN5 ++ r)) 0 0 0 = (274, v) :: (wT5 ++ lx r 0 0 0) := lx_dg hv rfl _
set_option maxRecDepth 20000 in
theorem wD6 {v : Nat} (hv : v < 100) (r : List Nat) : lx (dg v ++ (wN6 ++ r)) 0 0 0 = (274, v) :: (wT6 ++ lx r 0 0 0) := lx_dg hv rfl _
set_option maxRecDepth 20000 in
theorem wD7 {v : Nat} (hv : v < 100) (r : List Nat) : lx (dg v ++ (wN7 ++ r)) 0 0 0 = (274, v) :: (wT7 ++ lx r 0 0 0) := lx_dg hv rfl _
set_option maxRecDepth 20000 in
theorem wD8 {v : Nat} (hv : v < 100) (r : List Nat) : lx (dg v ++ (wN8 ++ r)) 0 0 0 = (274, v) :: (wT8 ++ lx r 0 0 0) := lx_dg hv rfl _
set_option maxRecDepth 20000 in
theorem wD9 {v : Nat} (hv : v < 100) (r : List Nat) : lx (dg v ++ (wN9 ++ r)) 0 0 0 = (274, v) :: (wT9 ++ lx r 0 0 0) := lx_dg hv rfl _
set_option maxRecDepth 20000 in
theorem wD10 {v : Nat} (hv : v < 100) (r : List Nat) : lx (dg v ++ (wN10 ++ r)) 0 0 0 = (274, v) :: (wT10 ++ lx r 0 0 0) := lx_dg hv rfl _
set_option maxRecDepth 20000 in
theorem wD11 {v : Nat} (hv : v < 100) (r : List Nat) : lx (dg v ++ (wN11 ++ r)) 0 0 0 = (274, v) :: (wT11 ++ lx r 0 0 0) := lx_dg hv rfl _
set_option maxRecDepth 20000 in
theorem wD12 {v : Nat} (hv : v < 100) (r : List Nat) : lx (dg v ++ (wN12 ++ r)) 0 0 0 = (274, v) :: (wT12 ++ lx r 0 0 0) := lx_dg hv rfl _
set_option maxRecDepth 20000 in
theorem wD13 {v : Nat} (hv : v < 100) (r : List Nat) : lx (dg v ++ (wN13 ++ r)) 0 0 0 = (274, v) :: (wT13 ++ lx r 0 0 0) := lx_dg hv rfl _
set_option maxRecDepth 20000 in
theorem wD14 {v : Nat} (hv : v < 100) (r : List Nat) : lx (dg v ++ (wN14 ++ r)) 0 0 0 = (274, v) :: (wT14 ++ lx r 0 0 0) := lx_dg hv rfl _
set_option maxRecDepth 20000 in
theorem wD15 {v : Nat} (hv : v < 100) (r : List Nat) : lx (dg v ++ (wN15 ++ r)) 0 0 0 = (274, v) :: (wT15 ++ lx r 0 0 0) := lx_dg hv rfl _
set_option maxRecDepth 20000 in
theorem wD16 {v : Nat} (hv : v < 100) (r : List Nat) : lx (dg v ++ (wN16 ++ r)) 0 0 0 = (274, v) :: (wT16 ++ lx r 0 0 0) := lx_dg hv rfl _
def txA (an : Bool) (aa : Nat) (r : List Nat) : List Nat := bif an then wN3 ++ (dg aa ++ r) else wN4 ++ (dg aa ++ r)
def txG (go : Option Nat) (r : List Nat) : List Nat := match go with
  | none => wN4 ++ r
  | some g => wN7 ++ (dg g ++ (wN8 ++ r))
def txt (f n : Nat) (an : Bool) (aa b : Nat) (go : Option Nat) (p q bk r3 jp : Nat) : List Nat :=
  wN0 ++ (dg f ++ (wN1 ++ (dg n ++ (wN2 ++ txA an aa (wN5 ++ (dg b ++ (wN6 ++ txG go (wN9 ++ (dg n ++ (wN10 ++ (dg p ++ (wN11 ++ (dg q ++ (wN12 ++ (dg bk ++ (wN13 ++ (dg r3 ++ (wN14 ++ (dg jp ++ (wN15 ++ (dg jp ++ wN16)))))))))))))))))))))
def toA (an : Bool) (aa : Nat) (r : List Tk) : List Tk := bif an then wT3 ++ ((274, aa) :: r) else (274, aa) :: r
def toG (go : Option Nat) (r : List Tk) : List Tk := match go with
  | none => r
  | some g => wT7 ++ ((274, g) :: (wT8 ++ r))
def tok (f n : Nat) (an : Bool) (aa b : Nat) (go : Option Nat) (p q bk r3 jp : Nat) : List Tk :=
  wT0 ++ ((274, f) :: (wT1 ++ ((274, n) :: (wT2 ++ toA an aa (wT5 ++ ((274, b) :: (wT6 ++ toG go (wT9 ++ ((274, n) :: (wT10 ++ ((274, p) :: (wT11 ++ ((274, q) :: (wT12 ++ ((274, bk) :: (wT13 ++ ((274, r3) :: (wT14 ++ ((274, jp) :: (wT15 ++ ((274, jp) :: wT16)))))))))))))))))))))
theorem txA_e {an : Bool} {aa c : Nat} (ha : aa < 100) (hc : ldg c = false) (r : List Nat) : lx (txA an aa (c :: r)) 0 0 0 = toA an aa (lx (c :: r) 0 0 0) := by
  cases an with
  | false => exact lx_dg ha hc r
  | true =>
    show lx (wN3 ++ (dg aa ++ c :: r)) 0 0 0 = _
    rw [wT3_e, lx_dg ha hc]
    rfl
theorem txG_e {go : Option Nat} (hg : ∀ g, go = some g → g < 100) (r : List Nat) : lx (txG go r) 0 0 0 = toG go (lx r 0 0 0) := by
  cases go with
  | none => rfl
  | some g =>
    show lx (wN7 ++ (dg g ++ (wN8 ++ r))) 0 0 0 = _
    rw [wT7_e, wD8 (hg g rfl)]
    rfl
theorem tok_e {f n : Nat} {an : Bool} {aa b : Nat} {go : Option Nat} {p q bk r3 jp : Nat} (hf : f < 100) (hn : n < 100) (ha : aa < 100) (hb : b < 100) (hg : ∀ g, go = some g → g < 100) (hp : p < 100) (hq : q < 100) (hk : bk < 100) (hr : r3 < 100) (hj : jp < 100) : lx (txt f n an aa b go p q bk r3 jp) 0 0 0 = tok f n an aa b go p q bk r3 jp := by
  have last : ∀ v, v < 100 → lx (dg v ++ wN16) 0 0 0 = (274, v) :: wT16 := fun v hv => by
    have h := wD16 hv []
    rw [List.append_nil] at h
    exact h
  unfold txt tok
  rw [wT0_e, wD1 hf, wD2 hn]
  have hA : ∀ r, lx (txA an aa (wN5 ++ r)) 0 0 0 = toA an aa (lx (wN5 ++ r) 0 0 0) := fun r => txA_e ha rfl _
  rw [hA, wT5_e, wD6 hb, txG_e hg, wT9_e, wD10 hn, wD11 hp, wD12 hq, wD13 hk, wD14 hr, wD15 hj, last jp hj]
/-- the kinds of the text's words -/
def kwn (a : Nat) : Nat := bif a == 6382195 then 272 else bif a == 1634497391 then 266 else bif a == 6385252 then 267 else bif a == 25711 then 262 else bif a == 103 then 273 else bif a == 1734437230 then 259 else bif a == 26479 then 264 else bif a == 1735352684 then 261 else bif a == 104 then 273 else bif a == 26990 then 257 else bif a == 1786080624 then 273 else bif a == 7168376 then 271 else bif a == 7170414 then 270 else bif a == 1836021349 then 273 else bif a == 7366002 then 260 else bif a == 1919251316 then 273 else bif a == 7562612 then 265 else bif a == 29807 then 258 else bif a == 7758194 then 256 else bif a == 119 then 273 else bif a == 2003330414 then 263 else bif a == 120 then 273 else bif a == 121 then 273 else 0
theorem kw_abs : kwS (lN 6382195) bKW 256 0 = nI 272 := by decide +kernel
theorem kw_also : kwS (lN 1634497391) bKW 256 0 = nI 266 := by decide +kernel
theorem kw_and : kwS (lN 6385252) bKW 256 0 = nI 267 := by decide +kernel
theorem kw_do : kwS (lN 25711) bKW 256 0 = nI 262 := by decide +kernel
theorem kw_g : kwS (lN 103) bKW 256 0 = nI 273 := by decide +kernel
theorem kw_gain : kwS (lN 1734437230) bKW 256 0 = nI 259 := by decide +kernel
theorem kw_go : kwS (lN 26479) bKW 256 0 = nI 264 := by decide +kernel
theorem kw_goal : kwS (lN 1735352684) bKW 256 0 = nI 261 := by decide +kernel
theorem kw_h : kwS (lN 104) bKW 256 0 = nI 273 := by decide +kernel
theorem kw_in : kwS (lN 26990) bKW 256 0 = nI 257 := by decide +kernel
theorem kw_jump : kwS (lN 1786080624) bKW 256 0 = nI 273 := by decide +kernel
theorem kw_max : kwS (lN 7168376) bKW 256 0 = nI 271 := by decide +kernel
theorem kw_min : kwS (lN 7170414) bKW 256 0 = nI 270 := by decide +kernel
theorem kw_move : kwS (lN 1836021349) bKW 256 0 = nI 273 := by decide +kernel
theorem kw_per : kwS (lN 7366002) bKW 256 0 = nI 260 := by decide +kernel
theorem kw_rest : kwS (lN 1919251316) bKW 256 0 = nI 273 := by decide +kernel
theorem kw_set : kwS (lN 7562612) bKW 256 0 = nI 265 := by decide +kernel
theorem kw_to : kwS (lN 29807) bKW 256 0 = nI 258 := by decide +kernel
theorem kw_var : kwS (lN 7758194) bKW 256 0 = nI 256 := by decide +kernel
theorem kw_w : kwS (lN 119) bKW 256 0 = nI 273 := by decide +kernel
theorem kw_when : kwS (lN 2003330414) bKW 256 0 = nI 263 := by decide +kernel
theorem kw_x : kwS (lN 120) bKW 256 0 = nI 273 := by decide +kernel
theorem kw_y : kwS (lN 121) bKW 256 0 = nI 273 := by decide +kernel
