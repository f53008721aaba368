/-! the polynomial's coefficients and the adjugate, explicitly (wip/gen_fl.py) -/
def m2 (C : Nat → Int) (i j a b : Nat) : Int := C (4 * i + a) * C (4 * j + b) - C (4 * i + b) * C (4 * j + a)
def m3 (C : Nat → Int) (i j k a b c : Nat) : Int := C (4 * i + a) * m2 C j k b c - C (4 * i + b) * m2 C j k a c + C (4 * i + c) * m2 C j k a b
def m4 (C : Nat → Int) : Int := C 0 * m3 C 1 2 3 1 2 3 - C 1 * m3 C 1 2 3 0 2 3 + C 2 * m3 C 1 2 3 0 1 3 - C 3 * m3 C 1 2 3 0 1 2
/-- sums of principal minors -/
def eS (C : Nat → Int) (r k : Nat) : Int := match r, k with
  | _, 0 => 1
  | 2, 1 => C 0 + C 5
  | 3, 1 => C 0 + C 5 + C 10
  | 4, 1 => C 0 + C 5 + C 10 + C 15
  | 2, 2 => m2 C 0 1 0 1
  | 3, 2 => m2 C 0 1 0 1 + m2 C 0 2 0 2 + m2 C 1 2 1 2
  | 4, 2 => m2 C 0 1 0 1 + m2 C 0 2 0 2 + m2 C 0 3 0 3 + m2 C 1 2 1 2 + m2 C 1 3 1 3 + m2 C 2 3 2 3
  | 3, 3 => m3 C 0 1 2 0 1 2
  | 4, 3 => m3 C 0 1 2 0 1 2 + m3 C 0 1 3 0 1 3 + m3 C 0 2 3 0 2 3 + m3 C 1 2 3 1 2 3
  | 4, 4 => m4 C
  | _, _ => 0
/-- the adjugate -/
def adjM (C : Nat → Int) (r i j : Nat) : Int := match r, i, j with
  | 2, 0, 0 => C 5
  | 2, 0, 1 => -(C 1)
  | 2, 1, 0 => -(C 4)
  | 2, 1, 1 => C 0
  | 3, 0, 0 => m2 C 1 2 1 2
  | 3, 0, 1 => -(m2 C 0 2 1 2)
  | 3, 0, 2 => m2 C 0 1 1 2
  | 3, 1, 0 => -(m2 C 1 2 0 2)
  | 3, 1, 1 => m2 C 0 2 0 2
  | 3, 1, 2 => -(m2 C 0 1 0 2)
  | 3, 2, 0 => m2 C 1 2 0 1
  | 3, 2, 1 => -(m2 C 0 2 0 1)
  | 3, 2, 2 => m2 C 0 1 0 1
  | 4, 0, 0 => m3 C 1 2 3 1 2 3
  | 4, 0, 1 => -(m3 C 0 2 3 1 2 3)
  | 4, 0, 2 => m3 C 0 1 3 1 2 3
  | 4, 0, 3 => -(m3 C 0 1 2 1 2 3)
  | 4, 1, 0 => -(m3 C 1 2 3 0 2 3)
  | 4, 1, 1 => m3 C 0 2 3 0 2 3
  | 4, 1, 2 => -(m3 C 0 1 3 0 2 3)
  | 4, 1, 3 => m3 C 0 1 2 0 2 3
  | 4, 2, 0 => m3 C 1 2 3 0 1 3
  | 4, 2, 1 => -(m3 C 0 2 3 0 1 3)
  | 4, 2, 2 => m3 C 0 1 3 0 1 3
  | 4, 2, 3 => -(m3 C 0 1 2 0 1 3)
  | 4, 3, 0 => -(m3 C 1 2 3 0 1 2)
  | 4, 3, 1 => m3 C 0 2 3 0 1 2
  | 4, 3, 2 => -(m3 C 0 1 3 0 1 2)
  | 4, 3, 3 => m3 C 0 1 2 0 1 2
  | _, _, _ => 0
theorem fp2_00 (C : Nat → Int) (k : Nat) : (flM C 2 (k + 1)).1 0 = 0 + C 0 * flF C 2 k 0 + C 1 * flF C 2 k 4 := rfl
theorem ff2_00 (C : Nat → Int) (k : Nat) : flF C 2 k 0 = (flM C 2 k).1 0 + (flM C 2 k).2 := rfl
theorem fp2_01 (C : Nat → Int) (k : Nat) : (flM C 2 (k + 1)).1 1 = 0 + C 0 * flF C 2 k 1 + C 1 * flF C 2 k 5 := rfl
theorem ff2_01 (C : Nat → Int) (k : Nat) : flF C 2 k 1 = (flM C 2 k).1 1 + 0 := rfl
theorem fp2_10 (C : Nat → Int) (k : Nat) : (flM C 2 (k + 1)).1 4 = 0 + C 4 * flF C 2 k 0 + C 5 * flF C 2 k 4 := rfl
theorem ff2_10 (C : Nat → Int) (k : Nat) : flF C 2 k 4 = (flM C 2 k).1 4 + 0 := rfl
theorem fp2_11 (C : Nat → Int) (k : Nat) : (flM C 2 (k + 1)).1 5 = 0 + C 4 * flF C 2 k 1 + C 5 * flF C 2 k 5 := rfl
theorem ff2_11 (C : Nat → Int) (k : Nat) : flF C 2 k 5 = (flM C 2 k).1 5 + (flM C 2 k).2 := rfl
theorem fd2 (C : Nat → Int) (k : Nat) : diaN (flM C 2 k).1 2 = 0 + (flM C 2 k).1 0 + (flM C 2 k).1 5 := rfl
theorem g1_2_00 (C : Nat → Int) : (flM C 2 (0 + 1)).1 0 = C 0 := by
  rw [fp2_00]
  show 0 + C 0 * (0 + 1) + C 1 * (0 + 0) = _
  omega
theorem g1_2_01 (C : Nat → Int) : (flM C 2 (0 + 1)).1 1 = C 1 := by
  rw [fp2_01]
  show 0 + C 0 * (0 + 0) + C 1 * (0 + 1) = _
  omega
theorem g1_2_10 (C : Nat → Int) : (flM C 2 (0 + 1)).1 4 = C 4 := by
  rw [fp2_10]
  show 0 + C 4 * (0 + 1) + C 5 * (0 + 0) = _
  omega
theorem g1_2_11 (C : Nat → Int) : (flM C 2 (0 + 1)).1 5 = C 5 := by
  rw [fp2_11]
  show 0 + C 4 * (0 + 0) + C 5 * (0 + 1) = _
  omega
theorem d1_2 (C : Nat → Int) : -(diaN (flM C 2 (0 + 1)).1 2) = 1 * -(eS C 2 1) := by
  rw [fd2, g1_2_00, g1_2_11]
  show _ = 1 * -(C 0 + C 5)
  omega
theorem e1_2 (C : Nat → Int) : (flM C 2 (0 + 1)).2 = -(eS C 2 1) := by
  rw [flM_2, d1_2]
  exact Int.mul_tdiv_cancel_left _ (by decide)
theorem f2_2_00 (C : Nat → Int) : flF C 2 1 0 = C 0 - eS C 2 1 := by
  rw [ff2_00, show (flM C 2 1).1 0 = C 0 from g1_2_00 C, show (flM C 2 1).2 = _ from e1_2 C]; rfl
theorem f2_2_01 (C : Nat → Int) : flF C 2 1 1 = C 1 := by
  rw [ff2_01, show (flM C 2 1).1 1 = C 1 from g1_2_01 C]; omega
theorem f2_2_10 (C : Nat → Int) : flF C 2 1 4 = C 4 := by
  rw [ff2_10, show (flM C 2 1).1 4 = C 4 from g1_2_10 C]; omega
theorem f2_2_11 (C : Nat → Int) : flF C 2 1 5 = C 5 - eS C 2 1 := by
  rw [ff2_11, show (flM C 2 1).1 5 = C 5 from g1_2_11 C, show (flM C 2 1).2 = _ from e1_2 C]; rfl
theorem g2_2_00 (C : Nat → Int) : (flM C 2 (1 + 1)).1 0 = 0 + (C 0 * (C 0 - eS C 2 1) + C 1 * C 4) := by
  rw [fp2_00, f2_2_00, f2_2_10]; omega
theorem g2_2_01 (C : Nat → Int) : (flM C 2 (1 + 1)).1 1 = 0 + (C 0 * C 1 + C 1 * (C 5 - eS C 2 1)) := by
  rw [fp2_01, f2_2_01, f2_2_11]; omega
theorem g2_2_10 (C : Nat → Int) : (flM C 2 (1 + 1)).1 4 = 0 + (C 4 * (C 0 - eS C 2 1) + C 5 * C 4) := by
  rw [fp2_10, f2_2_00, f2_2_10]; omega
theorem g2_2_11 (C : Nat → Int) : (flM C 2 (1 + 1)).1 5 = 0 + (C 4 * C 1 + C 5 * (C 5 - eS C 2 1)) := by
  rw [fp2_11, f2_2_01, f2_2_11]; omega
theorem d2_2 (C : Nat → Int) : -(diaN (flM C 2 (1 + 1)).1 2) = 2 * eS C 2 2 := by
  rw [fd2, g2_2_00, g2_2_11]
  simp only [eS, m2]
  grind
theorem e2_2 (C : Nat → Int) : (flM C 2 (1 + 1)).2 = eS C 2 2 := by
  rw [flM_2, d2_2]
  exact Int.mul_tdiv_cancel_left _ (by decide)
theorem fp3_00 (C : Nat → Int) (k : Nat) : (flM C 3 (k + 1)).1 0 = 0 + C 0 * flF C 3 k 0 + C 1 * flF C 3 k 4 + C 2 * flF C 3 k 8 := rfl
theorem ff3_00 (C : Nat → Int) (k : Nat) : flF C 3 k 0 = (flM C 3 k).1 0 + (flM C 3 k).2 := rfl
theorem fp3_01 (C : Nat → Int) (k : Nat) : (flM C 3 (k + 1)).1 1 = 0 + C 0 * flF C 3 k 1 + C 1 * flF C 3 k 5 + C 2 * flF C 3 k 9 := rfl
theorem ff3_01 (C : Nat → Int) (k : Nat) : flF C 3 k 1 = (flM C 3 k).1 1 + 0 := rfl
theorem fp3_02 (C : Nat → Int) (k : Nat) : (flM C 3 (k + 1)).1 2 = 0 + C 0 * flF C 3 k 2 + C 1 * flF C 3 k 6 + C 2 * flF C 3 k 10 := rfl
theorem ff3_02 (C : Nat → Int) (k : Nat) : flF C 3 k 2 = (flM C 3 k).1 2 + 0 := rfl
theorem fp3_10 (C : Nat → Int) (k : Nat) : (flM C 3 (k + 1)).1 4 = 0 + C 4 * flF C 3 k 0 + C 5 * flF C 3 k 4 + C 6 * flF C 3 k 8 := rfl
theorem ff3_10 (C : Nat → Int) (k : Nat) : flF C 3 k 4 = (flM C 3 k).1 4 + 0 := rfl
theorem fp3_11 (C : Nat → Int) (k : Nat) : (flM C 3 (k + 1)).1 5 = 0 + C 4 * flF C 3 k 1 + C 5 * flF C 3 k 5 + C 6 * flF C 3 k 9 := rfl
theorem ff3_11 (C : Nat → Int) (k : Nat) : flF C 3 k 5 = (flM C 3 k).1 5 + (flM C 3 k).2 := rfl
theorem fp3_12 (C : Nat → Int) (k : Nat) : (flM C 3 (k + 1)).1 6 = 0 + C 4 * flF C 3 k 2 + C 5 * flF C 3 k 6 + C 6 * flF C 3 k 10 := rfl
theorem ff3_12 (C : Nat → Int) (k : Nat) : flF C 3 k 6 = (flM C 3 k).1 6 + 0 := rfl
theorem fp3_20 (C : Nat → Int) (k : Nat) : (flM C 3 (k + 1)).1 8 = 0 + C 8 * flF C 3 k 0 + C 9 * flF C 3 k 4 + C 10 * flF C 3 k 8 := rfl
theorem ff3_20 (C : Nat → Int) (k : Nat) : flF C 3 k 8 = (flM C 3 k).1 8 + 0 := rfl
theorem fp3_21 (C : Nat → Int) (k : Nat) : (flM C 3 (k + 1)).1 9 = 0 + C 8 * flF C 3 k 1 + C 9 * flF C 3 k 5 + C 10 * flF C 3 k 9 := rfl
theorem ff3_21 (C : Nat → Int) (k : Nat) : flF C 3 k 9 = (flM C 3 k).1 9 + 0 := rfl
theorem fp3_22 (C : Nat → Int) (k : Nat) : (flM C 3 (k + 1)).1 10 = 0 + C 8 * flF C 3 k 2 + C 9 * flF C 3 k 6 + C 10 * flF C 3 k 10 := rfl
theorem ff3_22 (C : Nat → Int) (k : Nat) : flF C 3 k 10 = (flM C 3 k).1 10 + (flM C 3 k).2 := rfl
theorem fd3 (C : Nat → Int) (k : Nat) : diaN (flM C 3 k).1 3 = 0 + (flM C 3 k).1 0 + (flM C 3 k).1 5 + (flM C 3 k).1 10 := rfl
theorem g1_3_00 (C : Nat → Int) : (flM C 3 (0 + 1)).1 0 = C 0 := by
  rw [fp3_00]
  show 0 + C 0 * (0 + 1) + C 1 * (0 + 0) + C 2 * (0 + 0) = _
  omega
theorem g1_3_01 (C : Nat → Int) : (flM C 3 (0 + 1)).1 1 = C 1 := by
  rw [fp3_01]
  show 0 + C 0 * (0 + 0) + C 1 * (0 + 1) + C 2 * (0 + 0) = _
  omega
theorem g1_3_02 (C : Nat → Int) : (flM C 3 (0 + 1)).1 2 = C 2 := by
  rw [fp3_02]
  show 0 + C 0 * (0 + 0) + C 1 * (0 + 0) + C 2 * (0 + 1) = _
  omega
theorem g1_3_10 (C : Nat → Int) : (flM C 3 (0 + 1)).1 4 = C 4 := by
  rw [fp3_10]
  show 0 + C 4 * (0 + 1) + C 5 * (0 + 0) + C 6 * (0 + 0) = _
  omega
theorem g1_3_11 (C : Nat → Int) : (flM C 3 (0 + 1)).1 5 = C 5 := by
  rw [fp3_11]
  show 0 + C 4 * (0 + 0) + C 5 * (0 + 1) + C 6 * (0 + 0) = _
  omega
theorem g1_3_12 (C : Nat → Int) : (flM C 3 (0 + 1)).1 6 = C 6 := by
  rw [fp3_12]
  show 0 + C 4 * (0 + 0) + C 5 * (0 + 0) + C 6 * (0 + 1) = _
  omega
theorem g1_3_20 (C : Nat → Int) : (flM C 3 (0 + 1)).1 8 = C 8 := by
  rw [fp3_20]
  show 0 + C 8 * (0 + 1) + C 9 * (0 + 0) + C 10 * (0 + 0) = _
  omega
theorem g1_3_21 (C : Nat → Int) : (flM C 3 (0 + 1)).1 9 = C 9 := by
  rw [fp3_21]
  show 0 + C 8 * (0 + 0) + C 9 * (0 + 1) + C 10 * (0 + 0) = _
  omega
theorem g1_3_22 (C : Nat → Int) : (flM C 3 (0 + 1)).1 10 = C 10 := by
  rw [fp3_22]
  show 0 + C 8 * (0 + 0) + C 9 * (0 + 0) + C 10 * (0 + 1) = _
  omega
theorem d1_3 (C : Nat → Int) : -(diaN (flM C 3 (0 + 1)).1 3) = 1 * -(eS C 3 1) := by
  rw [fd3, g1_3_00, g1_3_11, g1_3_22]
  show _ = 1 * -(C 0 + C 5 + C 10)
  omega
theorem e1_3 (C : Nat → Int) : (flM C 3 (0 + 1)).2 = -(eS C 3 1) := by
  rw [flM_2, d1_3]
  exact Int.mul_tdiv_cancel_left _ (by decide)
theorem f2_3_00 (C : Nat → Int) : flF C 3 1 0 = C 0 - eS C 3 1 := by
  rw [ff3_00, show (flM C 3 1).1 0 = C 0 from g1_3_00 C, show (flM C 3 1).2 = _ from e1_3 C]; rfl
theorem f2_3_01 (C : Nat → Int) : flF C 3 1 1 = C 1 := by
  rw [ff3_01, show (flM C 3 1).1 1 = C 1 from g1_3_01 C]; omega
theorem f2_3_02 (C : Nat → Int) : flF C 3 1 2 = C 2 := by
  rw [ff3_02, show (flM C 3 1).1 2 = C 2 from g1_3_02 C]; omega
theorem f2_3_10 (C : Nat → Int) : flF C 3 1 4 = C 4 := by
  rw [ff3_10, show (flM C 3 1).1 4 = C 4 from g1_3_10 C]; omega
theorem f2_3_11 (C : Nat → Int) : flF C 3 1 5 = C 5 - eS C 3 1 := by
  rw [ff3_11, show (flM C 3 1).1 5 = C 5 from g1_3_11 C, show (flM C 3 1).2 = _ from e1_3 C]; rfl
theorem f2_3_12 (C : Nat → Int) : flF C 3 1 6 = C 6 := by
  rw [ff3_12, show (flM C 3 1).1 6 = C 6 from g1_3_12 C]; omega
theorem f2_3_20 (C : Nat → Int) : flF C 3 1 8 = C 8 := by
  rw [ff3_20, show (flM C 3 1).1 8 = C 8 from g1_3_20 C]; omega
theorem f2_3_21 (C : Nat → Int) : flF C 3 1 9 = C 9 := by
  rw [ff3_21, show (flM C 3 1).1 9 = C 9 from g1_3_21 C]; omega
theorem f2_3_22 (C : Nat → Int) : flF C 3 1 10 = C 10 - eS C 3 1 := by
  rw [ff3_22, show (flM C 3 1).1 10 = C 10 from g1_3_22 C, show (flM C 3 1).2 = _ from e1_3 C]; rfl
theorem g2_3_00 (C : Nat → Int) : (flM C 3 (1 + 1)).1 0 = 0 + (C 0 * (C 0 - eS C 3 1) + C 1 * C 4 + C 2 * C 8) := by
  rw [fp3_00, f2_3_00, f2_3_10, f2_3_20]; omega
theorem g2_3_01 (C : Nat → Int) : (flM C 3 (1 + 1)).1 1 = 0 + (C 0 * C 1 + C 1 * (C 5 - eS C 3 1) + C 2 * C 9) := by
  rw [fp3_01, f2_3_01, f2_3_11, f2_3_21]; omega
theorem g2_3_02 (C : Nat → Int) : (flM C 3 (1 + 1)).1 2 = 0 + (C 0 * C 2 + C 1 * C 6 + C 2 * (C 10 - eS C 3 1)) := by
  rw [fp3_02, f2_3_02, f2_3_12, f2_3_22]; omega
theorem g2_3_10 (C : Nat → Int) : (flM C 3 (1 + 1)).1 4 = 0 + (C 4 * (C 0 - eS C 3 1) + C 5 * C 4 + C 6 * C 8) := by
  rw [fp3_10, f2_3_00, f2_3_10, f2_3_20]; omega
theorem g2_3_11 (C : Nat → Int) : (flM C 3 (1 + 1)).1 5 = 0 + (C 4 * C 1 + C 5 * (C 5 - eS C 3 1) + C 6 * C 9) := by
  rw [fp3_11, f2_3_01, f2_3_11, f2_3_21]; omega
theorem g2_3_12 (C : Nat → Int) : (flM C 3 (1 + 1)).1 6 = 0 + (C 4 * C 2 + C 5 * C 6 + C 6 * (C 10 - eS C 3 1)) := by
  rw [fp3_12, f2_3_02, f2_3_12, f2_3_22]; omega
theorem g2_3_20 (C : Nat → Int) : (flM C 3 (1 + 1)).1 8 = 0 + (C 8 * (C 0 - eS C 3 1) + C 9 * C 4 + C 10 * C 8) := by
  rw [fp3_20, f2_3_00, f2_3_10, f2_3_20]; omega
theorem g2_3_21 (C : Nat → Int) : (flM C 3 (1 + 1)).1 9 = 0 + (C 8 * C 1 + C 9 * (C 5 - eS C 3 1) + C 10 * C 9) := by
  rw [fp3_21, f2_3_01, f2_3_11, f2_3_21]; omega
theorem g2_3_22 (C : Nat → Int) : (flM C 3 (1 + 1)).1 10 = 0 + (C 8 * C 2 + C 9 * C 6 + C 10 * (C 10 - eS C 3 1)) := by
  rw [fp3_22, f2_3_02, f2_3_12, f2_3_22]; omega
theorem d2_3 (C : Nat → Int) : -(diaN (flM C 3 (1 + 1)).1 3) = 2 * eS C 3 2 := by
  rw [fd3, g2_3_00, g2_3_11, g2_3_22]
  simp only [eS, m2]
  grind
theorem e2_3 (C : Nat → Int) : (flM C 3 (1 + 1)).2 = eS C 3 2 := by
  rw [flM_2, d2_3]
  exact Int.mul_tdiv_cancel_left _ (by decide)
theorem f3_3_00 (C : Nat → Int) : flF C 3 2 0 = adjM C 3 0 0 := by
  rw [ff3_00, show 2 = 1 + 1 from rfl, g2_3_00, e2_3]
  simp only [eS, adjM, m2]
  grind
theorem f3_3_01 (C : Nat → Int) : flF C 3 2 1 = adjM C 3 0 1 := by
  rw [ff3_01, show 2 = 1 + 1 from rfl, g2_3_01]
  simp only [eS, adjM, m2]
  grind
theorem f3_3_02 (C : Nat → Int) : flF C 3 2 2 = adjM C 3 0 2 := by
  rw [ff3_02, show 2 = 1 + 1 from rfl, g2_3_02]
  simp only [eS, adjM, m2]
  grind
theorem f3_3_10 (C : Nat → Int) : flF C 3 2 4 = adjM C 3 1 0 := by
  rw [ff3_10, show 2 = 1 + 1 from rfl, g2_3_10]
  simp only [eS, adjM, m2]
  grind
theorem f3_3_11 (C : Nat → Int) : flF C 3 2 5 = adjM C 3 1 1 := by
  rw [ff3_11, show 2 = 1 + 1 from rfl, g2_3_11, e2_3]
  simp only [eS, adjM, m2]
  grind
theorem f3_3_12 (C : Nat → Int) : flF C 3 2 6 = adjM C 3 1 2 := by
  rw [ff3_12, show 2 = 1 + 1 from rfl, g2_3_12]
  simp only [eS, adjM, m2]
  grind
theorem f3_3_20 (C : Nat → Int) : flF C 3 2 8 = adjM C 3 2 0 := by
  rw [ff3_20, show 2 = 1 + 1 from rfl, g2_3_20]
  simp only [eS, adjM, m2]
  grind
theorem f3_3_21 (C : Nat → Int) : flF C 3 2 9 = adjM C 3 2 1 := by
  rw [ff3_21, show 2 = 1 + 1 from rfl, g2_3_21]
  simp only [eS, adjM, m2]
  grind
theorem f3_3_22 (C : Nat → Int) : flF C 3 2 10 = adjM C 3 2 2 := by
  rw [ff3_22, show 2 = 1 + 1 from rfl, g2_3_22, e2_3]
  simp only [eS, adjM, m2]
  grind
theorem d3_3 (C : Nat → Int) : -(diaN (flM C 3 (2 + 1)).1 3) = 3 * -(eS C 3 3) := by
  rw [fd3, fp3_00, fp3_11, fp3_22, f3_3_00, f3_3_01, f3_3_02, f3_3_10, f3_3_11, f3_3_12, f3_3_20, f3_3_21, f3_3_22]
  simp only [eS, adjM, m2, m3]
  grind
theorem e3_3 (C : Nat → Int) : (flM C 3 (2 + 1)).2 = -(eS C 3 3) := by
  rw [flM_2, d3_3]
  exact Int.mul_tdiv_cancel_left _ (by decide)
theorem fp4_00 (C : Nat → Int) (k : Nat) : (flM C 4 (k + 1)).1 0 = 0 + C 0 * flF C 4 k 0 + C 1 * flF C 4 k 4 + C 2 * flF C 4 k 8 + C 3 * flF C 4 k 12 := rfl
theorem ff4_00 (C : Nat → Int) (k : Nat) : flF C 4 k 0 = (flM C 4 k).1 0 + (flM C 4 k).2 := rfl
theorem fp4_01 (C : Nat → Int) (k : Nat) : (flM C 4 (k + 1)).1 1 = 0 + C 0 * flF C 4 k 1 + C 1 * flF C 4 k 5 + C 2 * flF C 4 k 9 + C 3 * flF C 4 k 13 := rfl
theorem ff4_01 (C : Nat → Int) (k : Nat) : flF C 4 k 1 = (flM C 4 k).1 1 + 0 := rfl
theorem fp4_02 (C : Nat → Int) (k : Nat) : (flM C 4 (k + 1)).1 2 = 0 + C 0 * flF C 4 k 2 + C 1 * flF C 4 k 6 + C 2 * flF C 4 k 10 + C 3 * flF C 4 k 14 := rfl
theorem ff4_02 (C : Nat → Int) (k : Nat) : flF C 4 k 2 = (flM C 4 k).1 2 + 0 := rfl
theorem fp4_03 (C : Nat → Int) (k : Nat) : (flM C 4 (k + 1)).1 3 = 0 + C 0 * flF C 4 k 3 + C 1 * flF C 4 k 7 + C 2 * flF C 4 k 11 + C 3 * flF C 4 k 15 := rfl
theorem ff4_03 (C : Nat → Int) (k : Nat) : flF C 4 k 3 = (flM C 4 k).1 3 + 0 := rfl
theorem fp4_10 (C : Nat → Int) (k : Nat) : (flM C 4 (k + 1)).1 4 = 0 + C 4 * flF C 4 k 0 + C 5 * flF C 4 k 4 + C 6 * flF C 4 k 8 + C 7 * flF C 4 k 12 := rfl
theorem ff4_10 (C : Nat → Int) (k : Nat) : flF C 4 k 4 = (flM C 4 k).1 4 + 0 := rfl
theorem fp4_11 (C : Nat → Int) (k : Nat) : (flM C 4 (k + 1)).1 5 = 0 + C 4 * flF C 4 k 1 + C 5 * flF C 4 k 5 + C 6 * flF C 4 k 9 + C 7 * flF C 4 k 13 := rfl
theorem ff4_11 (C : Nat → Int) (k : Nat) : flF C 4 k 5 = (flM C 4 k).1 5 + (flM C 4 k).2 := rfl
theorem fp4_12 (C : Nat → Int) (k : Nat) : (flM C 4 (k + 1)).1 6 = 0 + C 4 * flF C 4 k 2 + C 5 * flF C 4 k 6 + C 6 * flF C 4 k 10 + C 7 * flF C 4 k 14 := rfl
theorem ff4_12 (C : Nat → Int) (k : Nat) : flF C 4 k 6 = (flM C 4 k).1 6 + 0 := rfl
theorem fp4_13 (C : Nat → Int) (k : Nat) : (flM C 4 (k + 1)).1 7 = 0 + C 4 * flF C 4 k 3 + C 5 * flF C 4 k 7 + C 6 * flF C 4 k 11 + C 7 * flF C 4 k 15 := rfl
theorem ff4_13 (C : Nat → Int) (k : Nat) : flF C 4 k 7 = (flM C 4 k).1 7 + 0 := rfl
theorem fp4_20 (C : Nat → Int) (k : Nat) : (flM C 4 (k + 1)).1 8 = 0 + C 8 * flF C 4 k 0 + C 9 * flF C 4 k 4 + C 10 * flF C 4 k 8 + C 11 * flF C 4 k 12 := rfl
theorem ff4_20 (C : Nat → Int) (k : Nat) : flF C 4 k 8 = (flM C 4 k).1 8 + 0 := rfl
theorem fp4_21 (C : Nat → Int) (k : Nat) : (flM C 4 (k + 1)).1 9 = 0 + C 8 * flF C 4 k 1 + C 9 * flF C 4 k 5 + C 10 * flF C 4 k 9 + C 11 * flF C 4 k 13 := rfl
theorem ff4_21 (C : Nat → Int) (k : Nat) : flF C 4 k 9 = (flM C 4 k).1 9 + 0 := rfl
theorem fp4_22 (C : Nat → Int) (k : Nat) : (flM C 4 (k + 1)).1 10 = 0 + C 8 * flF C 4 k 2 + C 9 * flF C 4 k 6 + C 10 * flF C 4 k 10 + C 11 * flF C 4 k 14 := rfl
theorem ff4_22 (C : Nat → Int) (k : Nat) : flF C 4 k 10 = (flM C 4 k).1 10 + (flM C 4 k).2 := rfl
theorem fp4_23 (C : Nat → Int) (k : Nat) : (flM C 4 (k + 1)).1 11 = 0 + C 8 * flF C 4 k 3 + C 9 * flF C 4 k 7 + C 10 * flF C 4 k 11 + C 11 * flF C 4 k 15 := rfl
theorem ff4_23 (C : Nat → Int) (k : Nat) : flF C 4 k 11 = (flM C 4 k).1 11 + 0 := rfl
theorem fp4_30 (C : Nat → Int) (k : Nat) : (flM C 4 (k + 1)).1 12 = 0 + C 12 * flF C 4 k 0 + C 13 * flF C 4 k 4 + C 14 * flF C 4 k 8 + C 15 * flF C 4 k 12 := rfl
theorem ff4_30 (C : Nat → Int) (k : Nat) : flF C 4 k 12 = (flM C 4 k).1 12 + 0 := rfl
theorem fp4_31 (C : Nat → Int) (k : Nat) : (flM C 4 (k + 1)).1 13 = 0 + C 12 * flF C 4 k 1 + C 13 * flF C 4 k 5 + C 14 * flF C 4 k 9 + C 15 * flF C 4 k 13 := rfl
theorem ff4_31 (C : Nat → Int) (k : Nat) : flF C 4 k 13 = (flM C 4 k).1 13 + 0 := rfl
theorem fp4_32 (C : Nat → Int) (k : Nat) : (flM C 4 (k + 1)).1 14 = 0 + C 12 * flF C 4 k 2 + C 13 * flF C 4 k 6 + C 14 * flF C 4 k 10 + C 15 * flF C 4 k 14 := rfl
theorem ff4_32 (C : Nat → Int) (k : Nat) : flF C 4 k 14 = (flM C 4 k).1 14 + 0 := rfl
theorem fp4_33 (C : Nat → Int) (k : Nat) : (flM C 4 (k + 1)).1 15 = 0 + C 12 * flF C 4 k 3 + C 13 * flF C 4 k 7 + C 14 * flF C 4 k 11 + C 15 * flF C 4 k 15 := rfl
theorem ff4_33 (C : Nat → Int) (k : Nat) : flF C 4 k 15 = (flM C 4 k).1 15 + (flM C 4 k).2 := rfl
theorem fd4 (C : Nat → Int) (k : Nat) : diaN (flM C 4 k).1 4 = 0 + (flM C 4 k).1 0 + (flM C 4 k).1 5 + (flM C 4 k).1 10 + (flM C 4 k).1 15 := rfl
theorem g1_4_00 (C : Nat → Int) : (flM C 4 (0 + 1)).1 0 = C 0 := by
  rw [fp4_00]
  show 0 + C 0 * (0 + 1) + C 1 * (0 + 0) + C 2 * (0 + 0) + C 3 * (0 + 0) = _
  omega
theorem g1_4_01 (C : Nat → Int) : (flM C 4 (0 + 1)).1 1 = C 1 := by
  rw [fp4_01]
  show 0 + C 0 * (0 + 0) + C 1 * (0 + 1) + C 2 * (0 + 0) + C 3 * (0 + 0) = _
  omega
theorem g1_4_02 (C : Nat → Int) : (flM C 4 (0 + 1)).1 2 = C 2 := by
  rw [fp4_02]
  show 0 + C 0 * (0 + 0) + C 1 * (0 + 0) + C 2 * (0 + 1) + C 3 * (0 + 0) = _
  omega
theorem g1_4_03 (C : Nat → Int) : (flM C 4 (0 + 1)).1 3 = C 3 := by
  rw [fp4_03]
  show 0 + C 0 * (0 + 0) + C 1 * (0 + 0) + C 2 * (0 + 0) + C 3 * (0 + 1) = _
  omega
theorem g1_4_10 (C : Nat → Int) : (flM C 4 (0 + 1)).1 4 = C 4 := by
  rw [fp4_10]
  show 0 + C 4 * (0 + 1) + C 5 * (0 + 0) + C 6 * (0 + 0) + C 7 * (0 + 0) = _
  omega
theorem g1_4_11 (C : Nat → Int) : (flM C 4 (0 + 1)).1 5 = C 5 := by
  rw [fp4_11]
  show 0 + C 4 * (0 + 0) + C 5 * (0 + 1) + C 6 * (0 + 0) + C 7 * (0 + 0) = _
  omega
theorem g1_4_12 (C : Nat → Int) : (flM C 4 (0 + 1)).1 6 = C 6 := by
  rw [fp4_12]
  show 0 + C 4 * (0 + 0) + C 5 * (0 + 0) + C 6 * (0 + 1) + C 7 * (0 + 0) = _
  omega
theorem g1_4_13 (C : Nat → Int) : (flM C 4 (0 + 1)).1 7 = C 7 := by
  rw [fp4_13]
  show 0 + C 4 * (0 + 0) + C 5 * (0 + 0) + C 6 * (0 + 0) + C 7 * (0 + 1) = _
  omega
theorem g1_4_20 (C : Nat → Int) : (flM C 4 (0 + 1)).1 8 = C 8 := by
  rw [fp4_20]
  show 0 + C 8 * (0 + 1) + C 9 * (0 + 0) + C 10 * (0 + 0) + C 11 * (0 + 0) = _
  omega
theorem g1_4_21 (C : Nat → Int) : (flM C 4 (0 + 1)).1 9 = C 9 := by
  rw [fp4_21]
  show 0 + C 8 * (0 + 0) + C 9 * (0 + 1) + C 10 * (0 + 0) + C 11 * (0 + 0) = _
  omega
theorem g1_4_22 (C : Nat → Int) : (flM C 4 (0 + 1)).1 10 = C 10 := by
  rw [fp4_22]
  show 0 + C 8 * (0 + 0) + C 9 * (0 + 0) + C 10 * (0 + 1) + C 11 * (0 + 0) = _
  omega
theorem g1_4_23 (C : Nat → Int) : (flM C 4 (0 + 1)).1 11 = C 11 := by
  rw [fp4_23]
  show 0 + C 8 * (0 + 0) + C 9 * (0 + 0) + C 10 * (0 + 0) + C 11 * (0 + 1) = _
  omega
theorem g1_4_30 (C : Nat → Int) : (flM C 4 (0 + 1)).1 12 = C 12 := by
  rw [fp4_30]
  show 0 + C 12 * (0 + 1) + C 13 * (0 + 0) + C 14 * (0 + 0) + C 15 * (0 + 0) = _
  omega
theorem g1_4_31 (C : Nat → Int) : (flM C 4 (0 + 1)).1 13 = C 13 := by
  rw [fp4_31]
  show 0 + C 12 * (0 + 0) + C 13 * (0 + 1) + C 14 * (0 + 0) + C 15 * (0 + 0) = _
  omega
theorem g1_4_32 (C : Nat → Int) : (flM C 4 (0 + 1)).1 14 = C 14 := by
  rw [fp4_32]
  show 0 + C 12 * (0 + 0) + C 13 * (0 + 0) + C 14 * (0 + 1) + C 15 * (0 + 0) = _
  omega
theorem g1_4_33 (C : Nat → Int) : (flM C 4 (0 + 1)).1 15 = C 15 := by
  rw [fp4_33]
  show 0 + C 12 * (0 + 0) + C 13 * (0 + 0) + C 14 * (0 + 0) + C 15 * (0 + 1) = _
  omega
theorem d1_4 (C : Nat → Int) : -(diaN (flM C 4 (0 + 1)).1 4) = 1 * -(eS C 4 1) := by
  rw [fd4, g1_4_00, g1_4_11, g1_4_22, g1_4_33]
  show _ = 1 * -(C 0 + C 5 + C 10 + C 15)
  omega
theorem e1_4 (C : Nat → Int) : (flM C 4 (0 + 1)).2 = -(eS C 4 1) := by
  rw [flM_2, d1_4]
  exact Int.mul_tdiv_cancel_left _ (by decide)
theorem f2_4_00 (C : Nat → Int) : flF C 4 1 0 = C 0 - eS C 4 1 := by
  rw [ff4_00, show (flM C 4 1).1 0 = C 0 from g1_4_00 C, show (flM C 4 1).2 = _ from e1_4 C]; rfl
theorem f2_4_01 (C : Nat → Int) : flF C 4 1 1 = C 1 := by
  rw [ff4_01, show (flM C 4 1).1 1 = C 1 from g1_4_01 C]; omega
theorem f2_4_02 (C : Nat → Int) : flF C 4 1 2 = C 2 := by
  rw [ff4_02, show (flM C 4 1).1 2 = C 2 from g1_4_02 C]; omega
theorem f2_4_03 (C : Nat → Int) : flF C 4 1 3 = C 3 := by
  rw [ff4_03, show (flM C 4 1).1 3 = C 3 from g1_4_03 C]; omega
theorem f2_4_10 (C : Nat → Int) : flF C 4 1 4 = C 4 := by
  rw [ff4_10, show (flM C 4 1).1 4 = C 4 from g1_4_10 C]; omega
theorem f2_4_11 (C : Nat → Int) : flF C 4 1 5 = C 5 - eS C 4 1 := by
  rw [ff4_11, show (flM C 4 1).1 5 = C 5 from g1_4_11 C, show (flM C 4 1).2 = _ from e1_4 C]; rfl
theorem f2_4_12 (C : Nat → Int) : flF C 4 1 6 = C 6 := by
  rw [ff4_12, show (flM C 4 1).1 6 = C 6 from g1_4_12 C]; omega
theorem f2_4_13 (C : Nat → Int) : flF C 4 1 7 = C 7 := by
  rw [ff4_13, show (flM C 4 1).1 7 = C 7 from g1_4_13 C]; omega
theorem f2_4_20 (C : Nat → Int) : flF C 4 1 8 = C 8 := by
  rw [ff4_20, show (flM C 4 1).1 8 = C 8 from g1_4_20 C]; omega
theorem f2_4_21 (C : Nat → Int) : flF C 4 1 9 = C 9 := by
  rw [ff4_21, show (flM C 4 1).1 9 = C 9 from g1_4_21 C]; omega
theorem f2_4_22 (C : Nat → Int) : flF C 4 1 10 = C 10 - eS C 4 1 := by
  rw [ff4_22, show (flM C 4 1).1 10 = C 10 from g1_4_22 C, show (flM C 4 1).2 = _ from e1_4 C]; rfl
theorem f2_4_23 (C : Nat → Int) : flF C 4 1 11 = C 11 := by
  rw [ff4_23, show (flM C 4 1).1 11 = C 11 from g1_4_23 C]; omega
theorem f2_4_30 (C : Nat → Int) : flF C 4 1 12 = C 12 := by
  rw [ff4_30, show (flM C 4 1).1 12 = C 12 from g1_4_30 C]; omega
theorem f2_4_31 (C : Nat → Int) : flF C 4 1 13 = C 13 := by
  rw [ff4_31, show (flM C 4 1).1 13 = C 13 from g1_4_31 C]; omega
theorem f2_4_32 (C : Nat → Int) : flF C 4 1 14 = C 14 := by
  rw [ff4_32, show (flM C 4 1).1 14 = C 14 from g1_4_32 C]; omega
theorem f2_4_33 (C : Nat → Int) : flF C 4 1 15 = C 15 - eS C 4 1 := by
  rw [ff4_33, show (flM C 4 1).1 15 = C 15 from g1_4_33 C, show (flM C 4 1).2 = _ from e1_4 C]; rfl
theorem g2_4_00 (C : Nat → Int) : (flM C 4 (1 + 1)).1 0 = 0 + (C 0 * (C 0 - eS C 4 1) + C 1 * C 4 + C 2 * C 8 + C 3 * C 12) := by
  rw [fp4_00, f2_4_00, f2_4_10, f2_4_20, f2_4_30]; omega
theorem g2_4_01 (C : Nat → Int) : (flM C 4 (1 + 1)).1 1 = 0 + (C 0 * C 1 + C 1 * (C 5 - eS C 4 1) + C 2 * C 9 + C 3 * C 13) := by
  rw [fp4_01, f2_4_01, f2_4_11, f2_4_21, f2_4_31]; omega
theorem g2_4_02 (C : Nat → Int) : (flM C 4 (1 + 1)).1 2 = 0 + (C 0 * C 2 + C 1 * C 6 + C 2 * (C 10 - eS C 4 1) + C 3 * C 14) := by
  rw [fp4_02, f2_4_02, f2_4_12, f2_4_22, f2_4_32]; omega
theorem g2_4_03 (C : Nat → Int) : (flM C 4 (1 + 1)).1 3 = 0 + (C 0 * C 3 + C 1 * C 7 + C 2 * C 11 + C 3 * (C 15 - eS C 4 1)) := by
  rw [fp4_03, f2_4_03, f2_4_13, f2_4_23, f2_4_33]; omega
theorem g2_4_10 (C : Nat → Int) : (flM C 4 (1 + 1)).1 4 = 0 + (C 4 * (C 0 - eS C 4 1) + C 5 * C 4 + C 6 * C 8 + C 7 * C 12) := by
  rw [fp4_10, f2_4_00, f2_4_10, f2_4_20, f2_4_30]; omega
theorem g2_4_11 (C : Nat → Int) : (flM C 4 (1 + 1)).1 5 = 0 + (C 4 * C 1 + C 5 * (C 5 - eS C 4 1) + C 6 * C 9 + C 7 * C 13) := by
  rw [fp4_11, f2_4_01, f2_4_11, f2_4_21, f2_4_31]; omega
theorem g2_4_12 (C : Nat → Int) : (flM C 4 (1 + 1)).1 6 = 0 + (C 4 * C 2 + C 5 * C 6 + C 6 * (C 10 - eS C 4 1) + C 7 * C 14) := by
  rw [fp4_12, f2_4_02, f2_4_12, f2_4_22, f2_4_32]; omega
theorem g2_4_13 (C : Nat → Int) : (flM C 4 (1 + 1)).1 7 = 0 + (C 4 * C 3 + C 5 * C 7 + C 6 * C 11 + C 7 * (C 15 - eS C 4 1)) := by
  rw [fp4_13, f2_4_03, f2_4_13, f2_4_23, f2_4_33]; omega
theorem g2_4_20 (C : Nat → Int) : (flM C 4 (1 + 1)).1 8 = 0 + (C 8 * (C 0 - eS C 4 1) + C 9 * C 4 + C 10 * C 8 + C 11 * C 12) := by
  rw [fp4_20, f2_4_00, f2_4_10, f2_4_20, f2_4_30]; omega
theorem g2_4_21 (C : Nat → Int) : (flM C 4 (1 + 1)).1 9 = 0 + (C 8 * C 1 + C 9 * (C 5 - eS C 4 1) + C 10 * C 9 + C 11 * C 13) := by
  rw [fp4_21, f2_4_01, f2_4_11, f2_4_21, f2_4_31]; omega
theorem g2_4_22 (C : Nat → Int) : (flM C 4 (1 + 1)).1 10 = 0 + (C 8 * C 2 + C 9 * C 6 + C 10 * (C 10 - eS C 4 1) + C 11 * C 14) := by
  rw [fp4_22, f2_4_02, f2_4_12, f2_4_22, f2_4_32]; omega
theorem g2_4_23 (C : Nat → Int) : (flM C 4 (1 + 1)).1 11 = 0 + (C 8 * C 3 + C 9 * C 7 + C 10 * C 11 + C 11 * (C 15 - eS C 4 1)) := by
  rw [fp4_23, f2_4_03, f2_4_13, f2_4_23, f2_4_33]; omega
theorem g2_4_30 (C : Nat → Int) : (flM C 4 (1 + 1)).1 12 = 0 + (C 12 * (C 0 - eS C 4 1) + C 13 * C 4 + C 14 * C 8 + C 15 * C 12) := by
  rw [fp4_30, f2_4_00, f2_4_10, f2_4_20, f2_4_30]; omega
theorem g2_4_31 (C : Nat → Int) : (flM C 4 (1 + 1)).1 13 = 0 + (C 12 * C 1 + C 13 * (C 5 - eS C 4 1) + C 14 * C 9 + C 15 * C 13) := by
  rw [fp4_31, f2_4_01, f2_4_11, f2_4_21, f2_4_31]; omega
theorem g2_4_32 (C : Nat → Int) : (flM C 4 (1 + 1)).1 14 = 0 + (C 12 * C 2 + C 13 * C 6 + C 14 * (C 10 - eS C 4 1) + C 15 * C 14) := by
  rw [fp4_32, f2_4_02, f2_4_12, f2_4_22, f2_4_32]; omega
theorem g2_4_33 (C : Nat → Int) : (flM C 4 (1 + 1)).1 15 = 0 + (C 12 * C 3 + C 13 * C 7 + C 14 * C 11 + C 15 * (C 15 - eS C 4 1)) := by
  rw [fp4_33, f2_4_03, f2_4_13, f2_4_23, f2_4_33]; omega
theorem d2_4 (C : Nat → Int) : -(diaN (flM C 4 (1 + 1)).1 4) = 2 * eS C 4 2 := by
  rw [fd4, g2_4_00, g2_4_11, g2_4_22, g2_4_33]
  simp only [eS, m2]
  grind
theorem e2_4 (C : Nat → Int) : (flM C 4 (1 + 1)).2 = eS C 4 2 := by
  rw [flM_2, d2_4]
  exact Int.mul_tdiv_cancel_left _ (by decide)
theorem f3_4_00 (C : Nat → Int) : flF C 4 2 0 = (C 0 * (C 0 - eS C 4 1) + C 1 * C 4 + C 2 * C 8 + C 3 * C 12) + eS C 4 2 := by
  rw [ff4_00, show 2 = 1 + 1 from rfl, g2_4_00, e2_4]
  simp only [eS, adjM, m2]
  grind
theorem f3_4_01 (C : Nat → Int) : flF C 4 2 1 = (C 0 * C 1 + C 1 * (C 5 - eS C 4 1) + C 2 * C 9 + C 3 * C 13) := by
  rw [ff4_01, show 2 = 1 + 1 from rfl, g2_4_01]
  simp only [eS, adjM, m2]
  grind
theorem f3_4_02 (C : Nat → Int) : flF C 4 2 2 = (C 0 * C 2 + C 1 * C 6 + C 2 * (C 10 - eS C 4 1) + C 3 * C 14) := by
  rw [ff4_02, show 2 = 1 + 1 from rfl, g2_4_02]
  simp only [eS, adjM, m2]
  grind
theorem f3_4_03 (C : Nat → Int) : flF C 4 2 3 = (C 0 * C 3 + C 1 * C 7 + C 2 * C 11 + C 3 * (C 15 - eS C 4 1)) := by
  rw [ff4_03, show 2 = 1 + 1 from rfl, g2_4_03]
  simp only [eS, adjM, m2]
  grind
theorem f3_4_10 (C : Nat → Int) : flF C 4 2 4 = (C 4 * (C 0 - eS C 4 1) + C 5 * C 4 + C 6 * C 8 + C 7 * C 12) := by
  rw [ff4_10, show 2 = 1 + 1 from rfl, g2_4_10]
  simp only [eS, adjM, m2]
  grind
theorem f3_4_11 (C : Nat → Int) : flF C 4 2 5 = (C 4 * C 1 + C 5 * (C 5 - eS C 4 1) + C 6 * C 9 + C 7 * C 13) + eS C 4 2 := by
  rw [ff4_11, show 2 = 1 + 1 from rfl, g2_4_11, e2_4]
  simp only [eS, adjM, m2]
  grind
theorem f3_4_12 (C : Nat → Int) : flF C 4 2 6 = (C 4 * C 2 + C 5 * C 6 + C 6 * (C 10 - eS C 4 1) + C 7 * C 14) := by
  rw [ff4_12, show 2 = 1 + 1 from rfl, g2_4_12]
  simp only [eS, adjM, m2]
  grind
theorem f3_4_13 (C : Nat → Int) : flF C 4 2 7 = (C 4 * C 3 + C 5 * C 7 + C 6 * C 11 + C 7 * (C 15 - eS C 4 1)) := by
  rw [ff4_13, show 2 = 1 + 1 from rfl, g2_4_13]
  simp only [eS, adjM, m2]
  grind
theorem f3_4_20 (C : Nat → Int) : flF C 4 2 8 = (C 8 * (C 0 - eS C 4 1) + C 9 * C 4 + C 10 * C 8 + C 11 * C 12) := by
  rw [ff4_20, show 2 = 1 + 1 from rfl, g2_4_20]
  simp only [eS, adjM, m2]
  grind
theorem f3_4_21 (C : Nat → Int) : flF C 4 2 9 = (C 8 * C 1 + C 9 * (C 5 - eS C 4 1) + C 10 * C 9 + C 11 * C 13) := by
  rw [ff4_21, show 2 = 1 + 1 from rfl, g2_4_21]
  simp only [eS, adjM, m2]
  grind
theorem f3_4_22 (C : Nat → Int) : flF C 4 2 10 = (C 8 * C 2 + C 9 * C 6 + C 10 * (C 10 - eS C 4 1) + C 11 * C 14) + eS C 4 2 := by
  rw [ff4_22, show 2 = 1 + 1 from rfl, g2_4_22, e2_4]
  simp only [eS, adjM, m2]
  grind
theorem f3_4_23 (C : Nat → Int) : flF C 4 2 11 = (C 8 * C 3 + C 9 * C 7 + C 10 * C 11 + C 11 * (C 15 - eS C 4 1)) := by
  rw [ff4_23, show 2 = 1 + 1 from rfl, g2_4_23]
  simp only [eS, adjM, m2]
  grind
theorem f3_4_30 (C : Nat → Int) : flF C 4 2 12 = (C 12 * (C 0 - eS C 4 1) + C 13 * C 4 + C 14 * C 8 + C 15 * C 12) := by
  rw [ff4_30, show 2 = 1 + 1 from rfl, g2_4_30]
  simp only [eS, adjM, m2]
  grind
theorem f3_4_31 (C : Nat → Int) : flF C 4 2 13 = (C 12 * C 1 + C 13 * (C 5 - eS C 4 1) + C 14 * C 9 + C 15 * C 13) := by
  rw [ff4_31, show 2 = 1 + 1 from rfl, g2_4_31]
  simp only [eS, adjM, m2]
  grind
theorem f3_4_32 (C : Nat → Int) : flF C 4 2 14 = (C 12 * C 2 + C 13 * C 6 + C 14 * (C 10 - eS C 4 1) + C 15 * C 14) := by
  rw [ff4_32, show 2 = 1 + 1 from rfl, g2_4_32]
  simp only [eS, adjM, m2]
  grind
theorem f3_4_33 (C : Nat → Int) : flF C 4 2 15 = (C 12 * C 3 + C 13 * C 7 + C 14 * C 11 + C 15 * (C 15 - eS C 4 1)) + eS C 4 2 := by
  rw [ff4_33, show 2 = 1 + 1 from rfl, g2_4_33, e2_4]
  simp only [eS, adjM, m2]
  grind
theorem d3_4 (C : Nat → Int) : -(diaN (flM C 4 (2 + 1)).1 4) = 3 * -(eS C 4 3) := by
  rw [fd4, fp4_00, fp4_11, fp4_22, fp4_33, f3_4_00, f3_4_01, f3_4_02, f3_4_03, f3_4_10, f3_4_11, f3_4_12, f3_4_13, f3_4_20, f3_4_21, f3_4_22, f3_4_23, f3_4_30, f3_4_31, f3_4_32, f3_4_33]
  simp only [eS, adjM, m2, m3]
  grind
theorem e3_4 (C : Nat → Int) : (flM C 4 (2 + 1)).2 = -(eS C 4 3) := by
  rw [flM_2, d3_4]
  exact Int.mul_tdiv_cancel_left _ (by decide)
theorem f4_4_00 (C : Nat → Int) : flF C 4 3 0 = -(adjM C 4 0 0) := by
  rw [ff4_00, show 3 = 2 + 1 from rfl, fp4_00, f3_4_00, f3_4_10, f3_4_20, f3_4_30, e3_4]
  simp only [eS, adjM, m2, m3]
  grind
theorem f4_4_01 (C : Nat → Int) : flF C 4 3 1 = -(adjM C 4 0 1) := by
  rw [ff4_01, show 3 = 2 + 1 from rfl, fp4_01, f3_4_01, f3_4_11, f3_4_21, f3_4_31]
  simp only [eS, adjM, m2, m3]
  grind
theorem f4_4_02 (C : Nat → Int) : flF C 4 3 2 = -(adjM C 4 0 2) := by
  rw [ff4_02, show 3 = 2 + 1 from rfl, fp4_02, f3_4_02, f3_4_12, f3_4_22, f3_4_32]
  simp only [eS, adjM, m2, m3]
  grind
theorem f4_4_03 (C : Nat → Int) : flF C 4 3 3 = -(adjM C 4 0 3) := by
  rw [ff4_03, show 3 = 2 + 1 from rfl, fp4_03, f3_4_03, f3_4_13, f3_4_23, f3_4_33]
  simp only [eS, adjM, m2, m3]
  grind
theorem f4_4_10 (C : Nat → Int) : flF C 4 3 4 = -(adjM C 4 1 0) := by
  rw [ff4_10, show 3 = 2 + 1 from rfl, fp4_10, f3_4_00, f3_4_10, f3_4_20, f3_4_30]
  simp only [eS, adjM, m2, m3]
  grind
theorem f4_4_11 (C : Nat → Int) : flF C 4 3 5 = -(adjM C 4 1 1) := by
  rw [ff4_11, show 3 = 2 + 1 from rfl, fp4_11, f3_4_01, f3_4_11, f3_4_21, f3_4_31, e3_4]
  simp only [eS, adjM, m2, m3]
  grind
theorem f4_4_12 (C : Nat → Int) : flF C 4 3 6 = -(adjM C 4 1 2) := by
  rw [ff4_12, show 3 = 2 + 1 from rfl, fp4_12, f3_4_02, f3_4_12, f3_4_22, f3_4_32]
  simp only [eS, adjM, m2, m3]
  grind
theorem f4_4_13 (C : Nat → Int) : flF C 4 3 7 = -(adjM C 4 1 3) := by
  rw [ff4_13, show 3 = 2 + 1 from rfl, fp4_13, f3_4_03, f3_4_13, f3_4_23, f3_4_33]
  simp only [eS, adjM, m2, m3]
  grind
theorem f4_4_20 (C : Nat → Int) : flF C 4 3 8 = -(adjM C 4 2 0) := by
  rw [ff4_20, show 3 = 2 + 1 from rfl, fp4_20, f3_4_00, f3_4_10, f3_4_20, f3_4_30]
  simp only [eS, adjM, m2, m3]
  grind
theorem f4_4_21 (C : Nat → Int) : flF C 4 3 9 = -(adjM C 4 2 1) := by
  rw [ff4_21, show 3 = 2 + 1 from rfl, fp4_21, f3_4_01, f3_4_11, f3_4_21, f3_4_31]
  simp only [eS, adjM, m2, m3]
  grind
theorem f4_4_22 (C : Nat → Int) : flF C 4 3 10 = -(adjM C 4 2 2) := by
  rw [ff4_22, show 3 = 2 + 1 from rfl, fp4_22, f3_4_02, f3_4_12, f3_4_22, f3_4_32, e3_4]
  simp only [eS, adjM, m2, m3]
  grind
theorem f4_4_23 (C : Nat → Int) : flF C 4 3 11 = -(adjM C 4 2 3) := by
  rw [ff4_23, show 3 = 2 + 1 from rfl, fp4_23, f3_4_03, f3_4_13, f3_4_23, f3_4_33]
  simp only [eS, adjM, m2, m3]
  grind
theorem f4_4_30 (C : Nat → Int) : flF C 4 3 12 = -(adjM C 4 3 0) := by
  rw [ff4_30, show 3 = 2 + 1 from rfl, fp4_30, f3_4_00, f3_4_10, f3_4_20, f3_4_30]
  simp only [eS, adjM, m2, m3]
  grind
theorem f4_4_31 (C : Nat → Int) : flF C 4 3 13 = -(adjM C 4 3 1) := by
  rw [ff4_31, show 3 = 2 + 1 from rfl, fp4_31, f3_4_01, f3_4_11, f3_4_21, f3_4_31]
  simp only [eS, adjM, m2, m3]
  grind
theorem f4_4_32 (C : Nat → Int) : flF C 4 3 14 = -(adjM C 4 3 2) := by
  rw [ff4_32, show 3 = 2 + 1 from rfl, fp4_32, f3_4_02, f3_4_12, f3_4_22, f3_4_32]
  simp only [eS, adjM, m2, m3]
  grind
theorem f4_4_33 (C : Nat → Int) : flF C 4 3 15 = -(adjM C 4 3 3) := by
  rw [ff4_33, show 3 = 2 + 1 from rfl, fp4_33, f3_4_03, f3_4_13, f3_4_23, f3_4_33, e3_4]
  simp only [eS, adjM, m2, m3]
  grind
theorem d4_4 (C : Nat → Int) : -(diaN (flM C 4 (3 + 1)).1 4) = 4 * eS C 4 4 := by
  rw [fd4, fp4_00, fp4_11, fp4_22, fp4_33, f4_4_00, f4_4_01, f4_4_02, f4_4_03, f4_4_10, f4_4_11, f4_4_12, f4_4_13, f4_4_20, f4_4_21, f4_4_22, f4_4_23, f4_4_30, f4_4_31, f4_4_32, f4_4_33]
  simp only [eS, adjM, m2, m3, m4]
  grind
theorem e4_4 (C : Nat → Int) : (flM C 4 (3 + 1)).2 = eS C 4 4 := by
  rw [flM_2, d4_4]
  exact Int.mul_tdiv_cancel_left _ (by decide)
