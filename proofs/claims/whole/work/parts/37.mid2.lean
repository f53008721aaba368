/-! middles: when the column beside A lies outside, two rows of numbers -/
theorem z2_23 {M : Nat → Nat → Int} : z2 2 3 M ↔ (M 0 0 * M 1 1 - M 0 1 * M 1 0 = 0 ∧ M 0 0 * M 1 2 - M 0 2 * M 1 0 = 0 ∧ M 0 1 * M 1 2 - M 0 2 * M 1 1 = 0) := by
  constructor
  · intro h
    exact ⟨h 0 1 0 1 (by decide) (by decide) (by decide) (by decide), h 0 1 0 2 (by decide) (by decide) (by decide) (by decide), h 0 1 1 2 (by decide) (by decide) (by decide) (by decide)⟩
  · rintro ⟨w1, w2, w3⟩ i k a b hi hk ha hb
    rcases (show i = 0 ∨ i = 1 by omega) with rfl | rfl <;> rcases (show k = 0 ∨ k = 1 by omega) with rfl | rfl <;> rcases (show a = 0 ∨ a = 1 ∨ a = 2 by omega) with rfl | rfl | rfl <;> rcases (show b = 0 ∨ b = 1 ∨ b = 2 by omega) with rfl | rfl | rfl <;> grind
theorem mid_2 {G : Nat → Nat → Int} {m a b x y z E1 E2 E3 : Int} {r1 r2 : Nat} (g00 : G 0 0 = x) (g01 : G 0 1 = y) (g10 : G 1 0 = y) (g11 : G 1 1 = z) (g02 : G 0 2 = a) (g12 : G 1 2 = b) (h1 : rkP G 2 2 r1) (h2 : rkP G 2 3 r2) (e3 : E3 = m * (x * z - y * y) - (a * a * z - 2 * (a * b * y) + b * b * x)) (e2 : E2 = (x * z - y * y) + (m * x - a * a) + (m * z - b * b)) : r1 ≠ r2 ↔ (if E3 = 0 then (if E2 = 0 then (if E1 = 0 then 0 else 1) else 2) else 3) = r1 + 2 := by
  have k1 := rank_2 g00 g01 g10 g11 h1
  obtain ⟨p0, p1, p2, _⟩ := h2
  rw [z2_23, g00, g01, g10, g11, g02, g12] at p2
  have z1e : z1 2 3 G ↔ x = 0 ∧ y = 0 ∧ z = 0 ∧ a = 0 ∧ b = 0 := by
    constructor
    · intro w
      exact ⟨g00 ▸ w 0 0 (by decide) (by decide), g01 ▸ w 0 1 (by decide) (by decide), g11 ▸ w 1 1 (by decide) (by decide), g02 ▸ w 0 2 (by decide) (by decide), g12 ▸ w 1 2 (by decide) (by decide)⟩
    · rintro ⟨c1, c2, c3, c4, c5⟩ i j hi hj
      rcases (show i = 0 ∨ i = 1 by omega) with rfl | rfl <;> rcases (show j = 0 ∨ j = 1 ∨ j = 2 by omega) with rfl | rfl | rfl <;> simp only [g00, g01, g10, g11, g02, g12] <;> assumption
  rw [z1e] at p1
  have up : (if E3 = 0 then (if E2 = 0 then (if E1 = 0 then 0 else 1) else 2) else 3) ≤ 3 := by
    split
    · split
      · split <;> decide
      · decide
    · decide
  by_cases q : x * z - y * y = 0
  · rw [if_pos q] at k1
    have n1 : x * (a * a * z - 2 * (a * b * y) + b * b * x) = (x * b - a * y) * (x * b - a * y) := by grind
    have n2 : z * (a * a * z - 2 * (a * b * y) + b * b * x) = (y * b - a * z) * (y * b - a * z) := by grind
    rw [q, Int.mul_zero, Int.zero_sub] at e3
    by_cases w : x + z = 0
    · rw [if_pos w] at k1
      have c1 := sq0 x; have c2 := sq0 y
      have e : x * z = -(x * x) := by rw [show z = -x by omega, Int.mul_neg]
      have x0 : x = 0 := sq_z (by omega)
      have y0 : y = 0 := sq_z (by omega)
      have z0 : z = 0 := by omega
      subst x0; subst y0; subst z0
      have f3 : E3 = 0 := by grind
      have f2 : E2 = -(a * a) - b * b := by grind
      have r2le : ¬ 2 ≤ r2 := fun v => (p2.mp v) ⟨by grind, by grind, by grind⟩
      rw [if_pos f3, k1]
      have ca := sq0 a; have cb := sq0 b
      by_cases v : E2 = 0
      · rw [if_pos v]
        have a0 : a = 0 := sq_z (by omega)
        have b0 : b = 0 := sq_z (by omega)
        have : ¬ 1 ≤ r2 := fun t => (p1.mp t) ⟨rfl, rfl, rfl, a0, b0⟩
        constructor
        · intro t; omega
        · intro t; split at t <;> omega
      · rw [if_neg v]
        have : 1 ≤ r2 := p1.mpr (fun t => v (by rw [f2, t.2.2.2.1, t.2.2.2.2]; rfl))
        omega
    · rw [if_neg w] at k1
      have r2ge : 1 ≤ r2 := p1.mpr (fun t => w (by omega))
      rw [k1]
      by_cases v : a * a * z - 2 * (a * b * y) + b * b * x = 0
      · rw [v] at n1 n2 e3
        have t1 : x * b - a * y = 0 := sq_z (by omega)
        have t2 : y * b - a * z = 0 := sq_z (by omega)
        have : ¬ 2 ≤ r2 := fun t => (p2.mp t) ⟨q, t1, t2⟩
        rw [if_pos (show E3 = 0 by omega)]
        constructor
        · intro t; omega
        · intro t; split at t
          · split at t <;> omega
          · omega
      · rw [if_neg (show ¬ E3 = 0 by omega)]
        have : 2 ≤ r2 := p2.mpr (fun t => by
          obtain ⟨_, t1, t2⟩ := t
          rw [t1] at n1; rw [t2] at n2
          apply v
          exact mz w (by rw [Int.add_mul, n1, n2]; rfl))
        omega
  · rw [if_neg q] at k1
    have : 2 ≤ r2 := p2.mpr (fun t => q t.1)
    constructor
    · intro t; omega
    · intro t; omega
