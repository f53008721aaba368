/-! principal minors by bits, their sums, the signs (wip/gen_pm.py) -/
/-- set bits below a -/
def cnb (b : Nat) : Nat → Nat
  | 0 => 0
  | a + 1 => cnb b a + b / 2 ^ a % 2
theorem cnb_le (b : Nat) : ∀ a, cnb b a ≤ a
  | 0 => Nat.le_refl _
  | a + 1 => by show cnb b a + b / 2 ^ a % 2 ≤ a + 1; have := cnb_le b a; omega
theorem cnb_mono (b : Nat) {a : Nat} (hb : b / 2 ^ a % 2 = 1) : ∀ {i : Nat}, a < i → cnb b a < cnb b i
  | 0, h => absurd h (Nat.not_lt_zero _)
  | i + 1, h => by
    show cnb b a < cnb b i + b / 2 ^ i % 2
    by_cases q : a = i
    · subst q; omega
    · have := cnb_mono b hb (i := i) (by omega); omega
theorem cnb_surj (b : Nat) : ∀ {r i : Nat}, i < cnb b r → ∃ a, a < r ∧ b / 2 ^ a % 2 = 1 ∧ cnb b a = i
  | 0, i, h => absurd h (Nat.not_lt_zero _)
  | r + 1, i, h => by
    have h' : i < cnb b r + b / 2 ^ r % 2 := h
    by_cases q : i < cnb b r
    · obtain ⟨a, h1, h2, h3⟩ := cnb_surj b q
      exact ⟨a, by omega, h2, h3⟩
    · exact ⟨r, by omega, by omega, by omega⟩
/-- the principal minor on a set of rows -/
def pm (T : Nat → Int) (b : Nat) : Int := match b with
  | 0 => 1
  | 1 => T 0
  | 2 => T 5
  | 3 => m2 T 0 1 0 1
  | 4 => T 10
  | 5 => m2 T 0 2 0 2
  | 6 => m2 T 1 2 1 2
  | 7 => m3 T 0 1 2 0 1 2
  | 8 => T 15
  | 9 => m2 T 0 3 0 3
  | 10 => m2 T 1 3 1 3
  | 11 => m3 T 0 1 3 0 1 3
  | 12 => m2 T 2 3 2 3
  | 13 => m3 T 0 2 3 0 2 3
  | 14 => m3 T 1 2 3 1 2 3
  | 15 => m4 T
  | _ => 0
theorem pm_eq {W T : Nat → Int} {r b : Nat} (h2 : 2 ≤ r) (h4 : r ≤ 4) (hb : b < 2 ^ r) (h : ∀ a c, a < r → c < r → b / 2 ^ a % 2 = 1 → b / 2 ^ c % 2 = 1 → W (5 * cnb b a + cnb b c) = T (4 * a + c)) : dt (cnb b r) (mat5 W) = pm T b := by
  match r, b, h2, h4, hb, h with
  | 2, 0, _, _, _, h =>
    show (1 : Int) = _
    rfl
  | 2, 1, _, _, _, h =>
    have e00 : W 0 = T 0 := h 0 0 (by decide) (by decide) (by decide) (by decide)
    show W 0 = _
    rw [e00]; rfl
  | 2, 2, _, _, _, h =>
    have e00 : W 0 = T 5 := h 1 1 (by decide) (by decide) (by decide) (by decide)
    show W 0 = _
    rw [e00]; rfl
  | 2, 3, _, _, _, h =>
    have e00 : W 0 = T 0 := h 0 0 (by decide) (by decide) (by decide) (by decide)
    have e01 : W 1 = T 1 := h 0 1 (by decide) (by decide) (by decide) (by decide)
    have e10 : W 5 = T 4 := h 1 0 (by decide) (by decide) (by decide) (by decide)
    have e11 : W 6 = T 5 := h 1 1 (by decide) (by decide) (by decide) (by decide)
    show (W 0 * W 6 - W 1 * W 5) = _
    rw [e00, e01, e10, e11]; rfl
  | 3, 0, _, _, _, h =>
    show (1 : Int) = _
    rfl
  | 3, 1, _, _, _, h =>
    have e00 : W 0 = T 0 := h 0 0 (by decide) (by decide) (by decide) (by decide)
    show W 0 = _
    rw [e00]; rfl
  | 3, 2, _, _, _, h =>
    have e00 : W 0 = T 5 := h 1 1 (by decide) (by decide) (by decide) (by decide)
    show W 0 = _
    rw [e00]; rfl
  | 3, 3, _, _, _, h =>
    have e00 : W 0 = T 0 := h 0 0 (by decide) (by decide) (by decide) (by decide)
    have e01 : W 1 = T 1 := h 0 1 (by decide) (by decide) (by decide) (by decide)
    have e10 : W 5 = T 4 := h 1 0 (by decide) (by decide) (by decide) (by decide)
    have e11 : W 6 = T 5 := h 1 1 (by decide) (by decide) (by decide) (by decide)
    show (W 0 * W 6 - W 1 * W 5) = _
    rw [e00, e01, e10, e11]; rfl
  | 3, 4, _, _, _, h =>
    have e00 : W 0 = T 10 := h 2 2 (by decide) (by decide) (by decide) (by decide)
    show W 0 = _
    rw [e00]; rfl
  | 3, 5, _, _, _, h =>
    have e00 : W 0 = T 0 := h 0 0 (by decide) (by decide) (by decide) (by decide)
    have e01 : W 1 = T 2 := h 0 2 (by decide) (by decide) (by decide) (by decide)
    have e10 : W 5 = T 8 := h 2 0 (by decide) (by decide) (by decide) (by decide)
    have e11 : W 6 = T 10 := h 2 2 (by decide) (by decide) (by decide) (by decide)
    show (W 0 * W 6 - W 1 * W 5) = _
    rw [e00, e01, e10, e11]; rfl
  | 3, 6, _, _, _, h =>
    have e00 : W 0 = T 5 := h 1 1 (by decide) (by decide) (by decide) (by decide)
    have e01 : W 1 = T 6 := h 1 2 (by decide) (by decide) (by decide) (by decide)
    have e10 : W 5 = T 9 := h 2 1 (by decide) (by decide) (by decide) (by decide)
    have e11 : W 6 = T 10 := h 2 2 (by decide) (by decide) (by decide) (by decide)
    show (W 0 * W 6 - W 1 * W 5) = _
    rw [e00, e01, e10, e11]; rfl
  | 3, 7, _, _, _, h =>
    have e00 : W 0 = T 0 := h 0 0 (by decide) (by decide) (by decide) (by decide)
    have e01 : W 1 = T 1 := h 0 1 (by decide) (by decide) (by decide) (by decide)
    have e02 : W 2 = T 2 := h 0 2 (by decide) (by decide) (by decide) (by decide)
    have e10 : W 5 = T 4 := h 1 0 (by decide) (by decide) (by decide) (by decide)
    have e11 : W 6 = T 5 := h 1 1 (by decide) (by decide) (by decide) (by decide)
    have e12 : W 7 = T 6 := h 1 2 (by decide) (by decide) (by decide) (by decide)
    have e20 : W 10 = T 8 := h 2 0 (by decide) (by decide) (by decide) (by decide)
    have e21 : W 11 = T 9 := h 2 1 (by decide) (by decide) (by decide) (by decide)
    have e22 : W 12 = T 10 := h 2 2 (by decide) (by decide) (by decide) (by decide)
    show (W 0 * (W 6 * W 12 - W 7 * W 11) - W 1 * (W 5 * W 12 - W 7 * W 10) + W 2 * (W 5 * W 11 - W 6 * W 10)) = _
    rw [e00, e01, e02, e10, e11, e12, e20, e21, e22]; rfl
  | 4, 0, _, _, _, h =>
    show (1 : Int) = _
    rfl
  | 4, 1, _, _, _, h =>
    have e00 : W 0 = T 0 := h 0 0 (by decide) (by decide) (by decide) (by decide)
    show W 0 = _
    rw [e00]; rfl
  | 4, 2, _, _, _, h =>
    have e00 : W 0 = T 5 := h 1 1 (by decide) (by decide) (by decide) (by decide)
    show W 0 = _
    rw [e00]; rfl
  | 4, 3, _, _, _, h =>
    have e00 : W 0 = T 0 := h 0 0 (by decide) (by decide) (by decide) (by decide)
    have e01 : W 1 = T 1 := h 0 1 (by decide) (by decide) (by decide) (by decide)
    have e10 : W 5 = T 4 := h 1 0 (by decide) (by decide) (by decide) (by decide)
    have e11 : W 6 = T 5 := h 1 1 (by decide) (by decide) (by decide) (by decide)
    show (W 0 * W 6 - W 1 * W 5) = _
    rw [e00, e01, e10, e11]; rfl
  | 4, 4, _, _, _, h =>
    have e00 : W 0 = T 10 := h 2 2 (by decide) (by decide) (by decide) (by decide)
    show W 0 = _
    rw [e00]; rfl
  | 4, 5, _, _, _, h =>
    have e00 : W 0 = T 0 := h 0 0 (by decide) (by decide) (by decide) (by decide)
    have e01 : W 1 = T 2 := h 0 2 (by decide) (by decide) (by decide) (by decide)
    have e10 : W 5 = T 8 := h 2 0 (by decide) (by decide) (by decide) (by decide)
    have e11 : W 6 = T 10 := h 2 2 (by decide) (by decide) (by decide) (by decide)
    show (W 0 * W 6 - W 1 * W 5) = _
    rw [e00, e01, e10, e11]; rfl
  | 4, 6, _, _, _, h =>
    have e00 : W 0 = T 5 := h 1 1 (by decide) (by decide) (by decide) (by decide)
    have e01 : W 1 = T 6 := h 1 2 (by decide) (by decide) (by decide) (by decide)
    have e10 : W 5 = T 9 := h 2 1 (by decide) (by decide) (by decide) (by decide)
    have e11 : W 6 = T 10 := h 2 2 (by decide) (by decide) (by decide) (by decide)
    show (W 0 * W 6 - W 1 * W 5) = _
    rw [e00, e01, e10, e11]; rfl
  | 4, 7, _, _, _, h =>
    have e00 : W 0 = T 0 := h 0 0 (by decide) (by decide) (by decide) (by decide)
    have e01 : W 1 = T 1 := h 0 1 (by decide) (by decide) (by decide) (by decide)
    have e02 : W 2 = T 2 := h 0 2 (by decide) (by decide) (by decide) (by decide)
    have e10 : W 5 = T 4 := h 1 0 (by decide) (by decide) (by decide) (by decide)
    have e11 : W 6 = T 5 := h 1 1 (by decide) (by decide) (by decide) (by decide)
    have e12 : W 7 = T 6 := h 1 2 (by decide) (by decide) (by decide) (by decide)
    have e20 : W 10 = T 8 := h 2 0 (by decide) (by decide) (by decide) (by decide)
    have e21 : W 11 = T 9 := h 2 1 (by decide) (by decide) (by decide) (by decide)
    have e22 : W 12 = T 10 := h 2 2 (by decide) (by decide) (by decide) (by decide)
    show (W 0 * (W 6 * W 12 - W 7 * W 11) - W 1 * (W 5 * W 12 - W 7 * W 10) + W 2 * (W 5 * W 11 - W 6 * W 10)) = _
    rw [e00, e01, e02, e10, e11, e12, e20, e21, e22]; rfl
  | 4, 8, _, _, _, h =>
    have e00 : W 0 = T 15 := h 3 3 (by decide) (by decide) (by decide) (by decide)
    show W 0 = _
    rw [e00]; rfl
  | 4, 9, _, _, _, h =>
    have e00 : W 0 = T 0 := h 0 0 (by decide) (by decide) (by decide) (by decide)
    have e01 : W 1 = T 3 := h 0 3 (by decide) (by decide) (by decide) (by decide)
    have e10 : W 5 = T 12 := h 3 0 (by decide) (by decide) (by decide) (by decide)
    have e11 : W 6 = T 15 := h 3 3 (by decide) (by decide) (by decide) (by decide)
    show (W 0 * W 6 - W 1 * W 5) = _
    rw [e00, e01, e10, e11]; rfl
  | 4, 10, _, _, _, h =>
    have e00 : W 0 = T 5 := h 1 1 (by decide) (by decide) (by decide) (by decide)
    have e01 : W 1 = T 7 := h 1 3 (by decide) (by decide) (by decide) (by decide)
    have e10 : W 5 = T 13 := h 3 1 (by decide) (by decide) (by decide) (by decide)
    have e11 : W 6 = T 15 := h 3 3 (by decide) (by decide) (by decide) (by decide)
    show (W 0 * W 6 - W 1 * W 5) = _
    rw [e00, e01, e10, e11]; rfl
  | 4, 11, _, _, _, h =>
    have e00 : W 0 = T 0 := h 0 0 (by decide) (by decide) (by decide) (by decide)
    have e01 : W 1 = T 1 := h 0 1 (by decide) (by decide) (by decide) (by decide)
    have e02 : W 2 = T 3 := h 0 3 (by decide) (by decide) (by decide) (by decide)
    have e10 : W 5 = T 4 := h 1 0 (by decide) (by decide) (by decide) (by decide)
    have e11 : W 6 = T 5 := h 1 1 (by decide) (by decide) (by decide) (by decide)
    have e12 : W 7 = T 7 := h 1 3 (by decide) (by decide) (by decide) (by decide)
    have e20 : W 10 = T 12 := h 3 0 (by decide) (by decide) (by decide) (by decide)
    have e21 : W 11 = T 13 := h 3 1 (by decide) (by decide) (by decide) (by decide)
    have e22 : W 12 = T 15 := h 3 3 (by decide) (by decide) (by decide) (by decide)
    show (W 0 * (W 6 * W 12 - W 7 * W 11) - W 1 * (W 5 * W 12 - W 7 * W 10) + W 2 * (W 5 * W 11 - W 6 * W 10)) = _
    rw [e00, e01, e02, e10, e11, e12, e20, e21, e22]; rfl
  | 4, 12, _, _, _, h =>
    have e00 : W 0 = T 10 := h 2 2 (by decide) (by decide) (by decide) (by decide)
    have e01 : W 1 = T 11 := h 2 3 (by decide) (by decide) (by decide) (by decide)
    have e10 : W 5 = T 14 := h 3 2 (by decide) (by decide) (by decide) (by decide)
    have e11 : W 6 = T 15 := h 3 3 (by decide) (by decide) (by decide) (by decide)
    show (W 0 * W 6 - W 1 * W 5) = _
    rw [e00, e01, e10, e11]; rfl
  | 4, 13, _, _, _, h =>
    have e00 : W 0 = T 0 := h 0 0 (by decide) (by decide) (by decide) (by decide)
    have e01 : W 1 = T 2 := h 0 2 (by decide) (by decide) (by decide) (by decide)
    have e02 : W 2 = T 3 := h 0 3 (by decide) (by decide) (by decide) (by decide)
    have e10 : W 5 = T 8 := h 2 0 (by decide) (by decide) (by decide) (by decide)
    have e11 : W 6 = T 10 := h 2 2 (by decide) (by decide) (by decide) (by decide)
    have e12 : W 7 = T 11 := h 2 3 (by decide) (by decide) (by decide) (by decide)
    have e20 : W 10 = T 12 := h 3 0 (by decide) (by decide) (by decide) (by decide)
    have e21 : W 11 = T 14 := h 3 2 (by decide) (by decide) (by decide) (by decide)
    have e22 : W 12 = T 15 := h 3 3 (by decide) (by decide) (by decide) (by decide)
    show (W 0 * (W 6 * W 12 - W 7 * W 11) - W 1 * (W 5 * W 12 - W 7 * W 10) + W 2 * (W 5 * W 11 - W 6 * W 10)) = _
    rw [e00, e01, e02, e10, e11, e12, e20, e21, e22]; rfl
  | 4, 14, _, _, _, h =>
    have e00 : W 0 = T 5 := h 1 1 (by decide) (by decide) (by decide) (by decide)
    have e01 : W 1 = T 6 := h 1 2 (by decide) (by decide) (by decide) (by decide)
    have e02 : W 2 = T 7 := h 1 3 (by decide) (by decide) (by decide) (by decide)
    have e10 : W 5 = T 9 := h 2 1 (by decide) (by decide) (by decide) (by decide)
    have e11 : W 6 = T 10 := h 2 2 (by decide) (by decide) (by decide) (by decide)
    have e12 : W 7 = T 11 := h 2 3 (by decide) (by decide) (by decide) (by decide)
    have e20 : W 10 = T 13 := h 3 1 (by decide) (by decide) (by decide) (by decide)
    have e21 : W 11 = T 14 := h 3 2 (by decide) (by decide) (by decide) (by decide)
    have e22 : W 12 = T 15 := h 3 3 (by decide) (by decide) (by decide) (by decide)
    show (W 0 * (W 6 * W 12 - W 7 * W 11) - W 1 * (W 5 * W 12 - W 7 * W 10) + W 2 * (W 5 * W 11 - W 6 * W 10)) = _
    rw [e00, e01, e02, e10, e11, e12, e20, e21, e22]; rfl
  | 4, 15, _, _, _, h =>
    have e00 : W 0 = T 0 := h 0 0 (by decide) (by decide) (by decide) (by decide)
    have e01 : W 1 = T 1 := h 0 1 (by decide) (by decide) (by decide) (by decide)
    have e02 : W 2 = T 2 := h 0 2 (by decide) (by decide) (by decide) (by decide)
    have e03 : W 3 = T 3 := h 0 3 (by decide) (by decide) (by decide) (by decide)
    have e10 : W 5 = T 4 := h 1 0 (by decide) (by decide) (by decide) (by decide)
    have e11 : W 6 = T 5 := h 1 1 (by decide) (by decide) (by decide) (by decide)
    have e12 : W 7 = T 6 := h 1 2 (by decide) (by decide) (by decide) (by decide)
    have e13 : W 8 = T 7 := h 1 3 (by decide) (by decide) (by decide) (by decide)
    have e20 : W 10 = T 8 := h 2 0 (by decide) (by decide) (by decide) (by decide)
    have e21 : W 11 = T 9 := h 2 1 (by decide) (by decide) (by decide) (by decide)
    have e22 : W 12 = T 10 := h 2 2 (by decide) (by decide) (by decide) (by decide)
    have e23 : W 13 = T 11 := h 2 3 (by decide) (by decide) (by decide) (by decide)
    have e30 : W 15 = T 12 := h 3 0 (by decide) (by decide) (by decide) (by decide)
    have e31 : W 16 = T 13 := h 3 1 (by decide) (by decide) (by decide) (by decide)
    have e32 : W 17 = T 14 := h 3 2 (by decide) (by decide) (by decide) (by decide)
    have e33 : W 18 = T 15 := h 3 3 (by decide) (by decide) (by decide) (by decide)
    show (W 0 * (W 6 * (W 12 * W 18 - W 13 * W 17) - W 7 * (W 11 * W 18 - W 13 * W 16) + W 8 * (W 11 * W 17 - W 12 * W 16)) - W 1 * (W 5 * (W 12 * W 18 - W 13 * W 17) - W 7 * (W 10 * W 18 - W 13 * W 15) + W 8 * (W 10 * W 17 - W 12 * W 15)) + W 2 * (W 5 * (W 11 * W 18 - W 13 * W 16) - W 6 * (W 10 * W 18 - W 13 * W 15) + W 8 * (W 10 * W 16 - W 11 * W 15)) - W 3 * (W 5 * (W 11 * W 17 - W 12 * W 16) - W 6 * (W 10 * W 17 - W 12 * W 15) + W 7 * (W 10 * W 16 - W 11 * W 15))) = _
    rw [e00, e01, e02, e03, e10, e11, e12, e13, e20, e21, e22, e23, e30, e31, e32, e33]; rfl
  | 0, _, h2, _, _, _ => exact absurd h2 (by decide)
  | 1, _, h2, _, _, _ => exact absurd h2 (by decide)
  | n + 5, _, _, h4, _, _ => exact absurd h4 (by omega)
  | 2, n + 4, _, _, h, _ => exact absurd h (by show ¬ n + 4 < 4; omega)
  | 3, n + 8, _, _, h, _ => exact absurd h (by show ¬ n + 8 < 8; omega)
  | 4, n + 16, _, _, h, _ => exact absurd h (by show ¬ n + 16 < 16; omega)
def smN (T : Nat → Int) (k : Nat) : Nat → Int
  | 0 => 0
  | t + 1 => smN T k t + (if popN t = k then pm T t else 0)
theorem smN_eq (T : Nat → Int) {r k : Nat} (h2 : 2 ≤ r) (h4 : r ≤ 4) (hk1 : 1 ≤ k) (hk : k ≤ r) : smN T k (2 ^ r) = eS T r k := by
  match r, k, h2, h4, hk1, hk with
  | 2, 1, _, _, _, _ => show (((((0 : Int) + 0) + T 0) + T 5) + 0) = _; simp only [eS]; omega
  | 2, 2, _, _, _, _ => show (((((0 : Int) + 0) + 0) + 0) + m2 T 0 1 0 1) = _; simp only [eS]; omega
  | 3, 1, _, _, _, _ => show (((((((((0 : Int) + 0) + T 0) + T 5) + 0) + T 10) + 0) + 0) + 0) = _; simp only [eS]; omega
  | 3, 2, _, _, _, _ => show (((((((((0 : Int) + 0) + 0) + 0) + m2 T 0 1 0 1) + 0) + m2 T 0 2 0 2) + m2 T 1 2 1 2) + 0) = _; simp only [eS]; omega
  | 3, 3, _, _, _, _ => show (((((((((0 : Int) + 0) + 0) + 0) + 0) + 0) + 0) + 0) + m3 T 0 1 2 0 1 2) = _; simp only [eS]; omega
  | 4, 1, _, _, _, _ => show (((((((((((((((((0 : Int) + 0) + T 0) + T 5) + 0) + T 10) + 0) + 0) + 0) + T 15) + 0) + 0) + 0) + 0) + 0) + 0) + 0) = _; simp only [eS]; omega
  | 4, 2, _, _, _, _ => show (((((((((((((((((0 : Int) + 0) + 0) + 0) + m2 T 0 1 0 1) + 0) + m2 T 0 2 0 2) + m2 T 1 2 1 2) + 0) + 0) + m2 T 0 3 0 3) + m2 T 1 3 1 3) + 0) + m2 T 2 3 2 3) + 0) + 0) + 0) = _; simp only [eS]; omega
  | 4, 3, _, _, _, _ => show (((((((((((((((((0 : Int) + 0) + 0) + 0) + 0) + 0) + 0) + 0) + m3 T 0 1 2 0 1 2) + 0) + 0) + 0) + m3 T 0 1 3 0 1 3) + 0) + m3 T 0 2 3 0 2 3) + m3 T 1 2 3 1 2 3) + 0) = _; simp only [eS]; omega
  | 4, 4, _, _, _, _ => show (((((((((((((((((0 : Int) + 0) + 0) + 0) + 0) + 0) + 0) + 0) + 0) + 0) + 0) + 0) + 0) + 0) + 0) + 0) + m4 T) = _; simp only [eS]; omega
  | 0, _, h2, _, _, _ => exact absurd h2 (by decide)
  | 1, _, h2, _, _, _ => exact absurd h2 (by decide)
  | n + 5, _, _, h4, _, _ => exact absurd h4 (by omega)
  | _, 0, _, _, h, _ => exact absurd h (by decide)
  | 2, n + 3, _, _, _, h => exact absurd h (by omega)
  | 3, n + 4, _, _, _, h => exact absurd h (by omega)
  | 4, n + 5, _, _, _, h => exact absurd h (by omega)
/-- the signs as the reference counts them: above, beneath, the last seen -/
def tnE (k : Nat) (e : Int) : Int := if k % 2 = 1 then -e else e
def x01 (s t : Int) : Nat := if (0 < s) = (0 < t) then 0 else 1
theorem x01_s {s t : Int} (h : 0 < s ↔ 0 < t) : x01 s t = 0 := if_pos (propext h)
theorem x01_d {s t : Int} (h : ¬ (0 < s ↔ 0 < t)) : x01 s t = 1 := if_neg (fun q => h (by rw [q]))
def fsx (E : Nat → Int) : Nat → Nat × Nat × Int × Int
  | 0 => (0, 0, 1, 1)
  | k + 1 => if E (k + 1) = 0 then fsx E k else ((fsx E k).1 + x01 (tnE (k + 1) (E (k + 1))) (fsx E k).2.2.1, (fsx E k).2.1 + x01 (E (k + 1)) (fsx E k).2.2.2, tnE (k + 1) (E (k + 1)), E (k + 1))
theorem fsx_z {E : Nat → Int} {k : Nat} (h : E (k + 1) = 0) : fsx E (k + 1) = fsx E k := if_pos h
theorem fsx_n {E : Nat → Int} {k a b : Nat} {u d : Int} (hf : fsx E k = (a, b, u, d)) (h : ¬ E (k + 1) = 0) : fsx E (k + 1) = (a + x01 (tnE (k + 1) (E (k + 1))) u, b + x01 (E (k + 1)) d, tnE (k + 1) (E (k + 1)), E (k + 1)) := by
  have e : fsx E (k + 1) = ((fsx E k).1 + x01 (tnE (k + 1) (E (k + 1))) (fsx E k).2.2.1, (fsx E k).2.1 + x01 (E (k + 1)) (fsx E k).2.2.2, tnE (k + 1) (E (k + 1)), E (k + 1)) := if_neg h
  rw [e, hf]
theorem tnE_o {k : Nat} {e : Int} (h : k % 2 = 1) : tnE k e = -e := if_pos h
theorem tnE_e {k : Nat} {e : Int} (h : ¬ k % 2 = 1) : tnE k e = e := if_neg h
theorem fsx_congr {E G : Nat → Int} : ∀ {n : Nat}, (∀ k, k ≤ n → E k = G k) → fsx E n = fsx G n
  | 0, _ => rfl
  | n + 1, h => by
    unfold fsx
    rw [h (n + 1) (Nat.le_refl _), fsx_congr (n := n) (fun k hk => h k (by omega))]
def abN (U : Nat → Int) (r : Nat) : Nat := (fsx (eS U r) r).1
def beN (U : Nat → Int) (r : Nat) : Nat := (fsx (eS U r) r).2.1
theorem abN_congr {U V : Nat → Int} {r : Nat} (h2 : 2 ≤ r) (h4 : r ≤ 4) (h : ∀ a b, a < r → b < r → U (4 * a + b) = V (4 * a + b)) : abN U r = abN V r := by
  unfold abN; rw [fsx_congr (fun k hk => eS_congr h2 h4 h k hk)]
theorem beN_congr {U V : Nat → Int} {r : Nat} (h2 : 2 ≤ r) (h4 : r ≤ 4) (h : ∀ a b, a < r → b < r → U (4 * a + b) = V (4 * a + b)) : beN U r = beN V r := by
  unfold beN; rw [fsx_congr (fun k hk => eS_congr h2 h4 h k hk)]
theorem fsx_le (E : Nat → Int) : ∀ k, (fsx E k).1 ≤ k ∧ (fsx E k).2.1 ≤ k
  | 0 => ⟨Nat.le_refl _, Nat.le_refl _⟩
  | k + 1 => by
    have i := fsx_le E k
    have x : ∀ s t, x01 s t ≤ 1 := fun s t => by unfold x01; split <;> decide
    by_cases q : E (k + 1) = 0
    · rw [fsx_z q]; omega
    · have e : fsx E (k + 1) = ((fsx E k).1 + x01 (tnE (k + 1) (E (k + 1))) (fsx E k).2.2.1, (fsx E k).2.1 + x01 (E (k + 1)) (fsx E k).2.2.2, tnE (k + 1) (E (k + 1)), E (k + 1)) := if_neg q
      rw [e]
      have x1 := x (tnE (k + 1) (E (k + 1))) (fsx E k).2.2.1
      have x2 := x (E (k + 1)) (fsx E k).2.2.2
      exact ⟨by show (fsx E k).1 + _ ≤ k + 1; omega, by show (fsx E k).2.1 + _ ≤ k + 1; omega⟩
def plF : Nat → Int := fun k => ([2030, 0, 2020, 1, 2021, 2, 1121, 3, 1111, 5, 1021, 4, 1011, 6, 1020, 0, 1010, 9, 11, 7, 10, 0, 0, 8] : List Int).getD k 0
def spF : Nat → Int := fun k => ([3040, 10, 3030, 11, 3031, 12, 2122, 13, 2131, 14, 2121, 17, 2031, 15, 2021, 18, 2030, 10, 2020, 21, 1122, 16, 1121, 19, 1111, 22, 1021, 20, 1011, 23, 1020, 10, 1010, 25, 11, 24, 10, 10, 0, 26] : List Int).getD k 0
theorem plF_B : ∀ k, k < 24 → -5000 ≤ plF k ∧ plF k ≤ 5000 := by decide +kernel
theorem spF_B : ∀ k, k < 40 → -5000 ≤ spF k ∧ spF k ≤ 5000 := by decide +kernel
/-- what the reference finds for a key: the last that fits, or -1 -/
def fndN (L : Nat → Int) (key : Int) : Nat → Int
  | 0 => -1
  | t + 1 => if L (2 * t) = key then L (2 * t + 1) else fndN L key t
theorem tab_le {r n : Nat} (h : n ≤ r) (h4 : r ≤ 4) : tabB r ≤ tabB n := by
  unfold tabB; split <;> split <;> omega
theorem p2_16 {r : Nat} (h : r ≤ 4) : 2 ^ r ≤ 16 := by
  match r, h with
  | 0, _ => decide
  | 1, _ => decide
  | 2, _ => decide
  | 3, _ => decide
  | 4, _ => decide
