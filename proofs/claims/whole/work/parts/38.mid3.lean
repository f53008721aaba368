/-! middles: the column beside A, three rows -/
theorem sos_3 (a b c x y z p q s : Int) (c1 : y * z = s * s) (c2 : x * z = q * q) (c3 : x * y = p * p) (d4 : q * s = p * z) (d5 : p * s = q * y) (d6 : p * q = x * s) : (x + y + z) * ((a * a * y - 2 * (a * b * p) + b * b * x) + (a * a * z - 2 * (a * c * q) + c * c * x) + (b * b * z - 2 * (b * c * s) + c * c * y)) = (x * b - a * p) * (x * b - a * p) + (p * b - a * y) * (p * b - a * y) + (q * b - a * s) * (q * b - a * s) + (x * c - a * q) * (x * c - a * q) + (p * c - a * s) * (p * c - a * s) + (q * c - a * z) * (q * c - a * z) + (p * c - b * q) * (p * c - b * q) + (y * c - b * s) * (y * c - b * s) + (s * c - b * z) * (s * c - b * z) := by
  have e : (x + y + z) * ((a * a * y - 2 * (a * b * p) + b * b * x) + (a * a * z - 2 * (a * c * q) + c * c * x) + (b * b * z - 2 * (b * c * s) + c * c * y)) = (x * b - a * p) * (x * b - a * p) + (p * b - a * y) * (p * b - a * y) + (q * b - a * s) * (q * b - a * s) + (x * c - a * q) * (x * c - a * q) + (p * c - a * s) * (p * c - a * s) + (q * c - a * z) * (q * c - a * z) + (p * c - b * q) * (p * c - b * q) + (y * c - b * s) * (y * c - b * s) + (s * c - b * z) * (s * c - b * z) + (a * a * (y * x - p * p) - 2 * (a * b * (p * x - x * p)) + b * b * (x * x - x * x) + a * a * (y * y - y * y) - 2 * (a * b * (p * y - p * y)) + b * b * (x * y - p * p) + a * a * (y * z - s * s) - 2 * (a * b * (p * z - q * s)) + b * b * (x * z - q * q) + a * a * (z * x - q * q) - 2 * (a * c * (q * x - x * q)) + c * c * (x * x - x * x) + a * a * (z * y - s * s) - 2 * (a * c * (q * y - p * s)) + c * c * (x * y - p * p) + a * a * (z * z - z * z) - 2 * (a * c * (q * z - q * z)) + c * c * (x * z - q * q) + b * b * (z * x - q * q) - 2 * (b * c * (s * x - p * q)) + c * c * (y * x - p * p) + b * b * (z * y - s * s) - 2 * (b * c * (s * y - y * s)) + c * c * (y * y - y * y) + b * b * (z * z - z * z) - 2 * (b * c * (s * z - s * z)) + c * c * (y * z - s * s)) := by grind
  have z0 : a * a * (y * x - p * p) - 2 * (a * b * (p * x - x * p)) + b * b * (x * x - x * x) + a * a * (y * y - y * y) - 2 * (a * b * (p * y - p * y)) + b * b * (x * y - p * p) + a * a * (y * z - s * s) - 2 * (a * b * (p * z - q * s)) + b * b * (x * z - q * q) + a * a * (z * x - q * q) - 2 * (a * c * (q * x - x * q)) + c * c * (x * x - x * x) + a * a * (z * y - s * s) - 2 * (a * c * (q * y - p * s)) + c * c * (x * y - p * p) + a * a * (z * z - z * z) - 2 * (a * c * (q * z - q * z)) + c * c * (x * z - q * q) + b * b * (z * x - q * q) - 2 * (b * c * (s * x - p * q)) + c * c * (y * x - p * p) + b * b * (z * y - s * s) - 2 * (b * c * (s * y - y * s)) + c * c * (y * y - y * y) + b * b * (z * z - z * z) - 2 * (b * c * (s * z - s * z)) + c * c * (y * z - s * s) = 0 := by
    have f1 : y * z - s * s = 0 := by omega
    have f2 : x * z - q * q = 0 := by omega
    have f3 : x * y - p * p = 0 := by omega
    grind
  rw [e, z0, Int.add_zero]
theorem mid_3 {G : Nat → Nat → Int} {m a b c x y z p q s E1 E2 E3 E4 : Int} {r1 r2 : Nat} (g00 : G 0 0 = x) (g01 : G 0 1 = p) (g02 : G 0 2 = q) (g10 : G 1 0 = p) (g11 : G 1 1 = y) (g12 : G 1 2 = s) (g20 : G 2 0 = q) (g21 : G 2 1 = s) (g22 : G 2 2 = z) (g03 : G 0 3 = a) (g13 : G 1 3 = b) (g23 : G 2 3 = c) (h1 : rkP G 3 3 r1) (h2 : rkP G 3 4 r2)
    (e4 : E4 = m * (x * (y * z - s * s) - p * (p * z - s * q) + q * (p * s - y * q)) - (a * a * (y * z - s * s) + b * b * (x * z - q * q) + c * c * (x * y - p * p) + 2 * (a * b * (q * s - p * z)) + 2 * (a * c * (p * s - q * y)) + 2 * (b * c * (p * q - x * s))))
    (e3 : E3 = (x * (y * z - s * s) - p * (p * z - s * q) + q * (p * s - y * q)) + m * ((y * z - s * s) + (x * z - q * q) + (x * y - p * p)) - ((a * a * y - 2 * (a * b * p) + b * b * x) + (a * a * z - 2 * (a * c * q) + c * c * x) + (b * b * z - 2 * (b * c * s) + c * c * y)))
    (e2 : E2 = (y * z - s * s) + (x * z - q * q) + (x * y - p * p) + (m * x - a * a) + (m * y - b * b) + (m * z - c * c)) :
    r1 ≠ r2 ↔ (if E4 = 0 then (if E3 = 0 then (if E2 = 0 then (if E1 = 0 then 0 else 1) else 2) else 3) else 4) = r1 + 2 := by
  have k1 := rank_3 g00 g01 g02 g10 g11 g12 g20 g21 g22 h1
  obtain ⟨p0, p1, p2, p3⟩ := h2
  have p3 := p3 rfl
  obtain ⟨o0, o1, o2, o3⟩ := h1
  have o3 := o3 rfl
  have z1m : z1 3 4 G → z1 3 3 G := fun w i j hi hj => w i j hi (by omega)
  have z2m : z2 3 4 G → z2 3 3 G := fun w i k u v hi hk hu hv => w i k u v hi hk (by omega) (by omega)
  have z3m : z3 4 G → z3 3 G := fun w u v t hu hv ht => w u v t (by omega) (by omega) (by omega)
  have r12 : r1 ≤ r2 := by
    rcases (show r1 = 0 ∨ r1 = 1 ∨ r1 = 2 ∨ r1 = 3 by omega) with t | t | t | t
    · omega
    · have := p1.mpr (fun w => (o1.mp (by omega)) (z1m w)); omega
    · have := p2.mpr (fun w => (o2.mp (by omega)) (z2m w)); omega
    · have := p3.mpr (fun w => (o3.mp (by omega)) (z3m w)); omega
  obtain ⟨D, hD⟩ : ∃ t, t = x * (y * z - s * s) - p * (p * z - s * q) + q * (p * s - y * q) := ⟨_, rfl⟩
  obtain ⟨t0, ht0⟩ : ∃ t, t = a * (y * z - s * s) + b * (q * s - p * z) + c * (p * s - q * y) := ⟨_, rfl⟩
  obtain ⟨t1, ht1⟩ : ∃ t, t = a * (q * s - p * z) + b * (x * z - q * q) + c * (p * q - x * s) := ⟨_, rfl⟩
  obtain ⟨t2, ht2⟩ : ∃ t, t = a * (p * s - q * y) + b * (p * q - x * s) + c * (x * y - p * p) := ⟨_, rfl⟩
  have e3z : z3 4 G ↔ D = 0 ∧ t0 = 0 ∧ t1 = 0 ∧ t2 = 0 := by
    constructor
    · intro w
      have w0 := w 0 1 2 (by decide) (by decide) (by decide)
      have w1 := w 3 1 2 (by decide) (by decide) (by decide)
      have w2 := w 0 3 2 (by decide) (by decide) (by decide)
      have w3 := w 0 1 3 (by decide) (by decide) (by decide)
      unfold d3 at w0 w1 w2 w3
      simp only [g00, g01, g02, g10, g11, g12, g20, g21, g22, g03, g13, g23] at w0 w1 w2 w3
      refine ⟨by rw [hD]; exact w0, ?_, ?_, ?_⟩ <;> grind
    · rintro ⟨w0, w1, w2, w3⟩ u v t hu hv ht
      unfold d3
      rcases (show u = 0 ∨ u = 1 ∨ u = 2 ∨ u = 3 by omega) with rfl | rfl | rfl | rfl <;> rcases (show v = 0 ∨ v = 1 ∨ v = 2 ∨ v = 3 by omega) with rfl | rfl | rfl | rfl <;> rcases (show t = 0 ∨ t = 1 ∨ t = 2 ∨ t = 3 by omega) with rfl | rfl | rfl | rfl <;> simp only [g00, g01, g02, g10, g11, g12, g20, g21, g22, g03, g13, g23] <;> grind
  have q4 : a * a * (y * z - s * s) + b * b * (x * z - q * q) + c * c * (x * y - p * p) + 2 * (a * b * (q * s - p * z)) + 2 * (a * c * (p * s - q * y)) + 2 * (b * c * (p * q - x * s)) = a * t0 + b * t1 + c * t2 := by rw [ht0, ht1, ht2]; grind
  have n0 : (y * z - s * s) * (a * t0 + b * t1 + c * t2) = t0 * t0 + D * (z * (b * b) + y * (c * c) - 2 * (s * (b * c))) := by rw [ht0, ht1, ht2, hD]; grind
  have n1 : (x * z - q * q) * (a * t0 + b * t1 + c * t2) = t1 * t1 + D * (z * (a * a) + x * (c * c) - 2 * (q * (a * c))) := by rw [ht0, ht1, ht2, hD]; grind
  have n2 : (x * y - p * p) * (a * t0 + b * t1 + c * t2) = t2 * t2 + D * (y * (a * a) + x * (b * b) - 2 * (p * (a * b))) := by rw [ht0, ht1, ht2, hD]; grind
  rw [← hD] at k1 e4 e3
  rw [q4] at e4
  have up : (if E4 = 0 then (if E3 = 0 then (if E2 = 0 then (if E1 = 0 then 0 else 1) else 2) else 3) else 4) ≤ 4 := by
    split
    · split
      · split
        · split <;> decide
        · decide
      · decide
    · decide
  by_cases w3 : D = 0
  · rw [if_pos w3] at k1
    rw [w3, Int.zero_mul, Int.add_zero] at n0 n1 n2
    rw [w3, Int.mul_zero, Int.zero_sub] at e4
    by_cases w2 : (y * z - s * s) + (x * z - q * q) + (x * y - p * p) = 0
    · have r1le : r1 ≤ 1 := by rw [k1, if_pos w2]; split <;> decide
      have zz : z2 3 3 G := Classical.byContradiction (fun t => absurd (o2.mpr t) (by omega))
      have c1 := zz 1 2 1 2 (by decide) (by decide) (by decide) (by decide)
      have c2 := zz 0 2 0 2 (by decide) (by decide) (by decide) (by decide)
      have c3 := zz 0 1 0 1 (by decide) (by decide) (by decide) (by decide)
      have c4 := zz 0 2 1 2 (by decide) (by decide) (by decide) (by decide)
      have c5 := zz 0 1 1 2 (by decide) (by decide) (by decide) (by decide)
      have c6 := zz 0 1 0 2 (by decide) (by decide) (by decide) (by decide)
      simp only [g00, g01, g02, g10, g11, g12, g20, g21, g22] at c1 c2 c3 c4 c5 c6
      have d4 : q * s - p * z = 0 := by grind
      have d5 : p * s - q * y = 0 := by grind
      have d6 : p * q - x * s = 0 := by grind
      rw [c1, d4, d5] at ht0
      rw [d4, c2, d6] at ht1
      rw [d5, d6, c3] at ht2
      simp only [Int.mul_zero, Int.add_zero] at ht0 ht1 ht2
      rw [ht0, ht1, ht2] at e4
      simp only [Int.mul_zero, Int.add_zero, Int.neg_zero] at e4
      have r2le : ¬ 3 ≤ r2 := fun t => (p3.mp t) (e3z.mpr ⟨w3, ht0, ht1, ht2⟩)
      rw [if_pos e4]
      rw [if_pos w2] at k1
      rw [w3, w2, Int.mul_zero, Int.zero_add, Int.zero_sub] at e3
      have mz2 : z2 3 4 G ↔ (x * b - a * p = 0 ∧ p * b - a * y = 0 ∧ q * b - a * s = 0 ∧ x * c - a * q = 0 ∧ p * c - a * s = 0 ∧ q * c - a * z = 0 ∧ p * c - b * q = 0 ∧ y * c - b * s = 0 ∧ s * c - b * z = 0) := by
        constructor
        · intro w
          have v0 := w 0 1 0 3 (by decide) (by decide) (by decide) (by decide)
          have v1 := w 0 1 1 3 (by decide) (by decide) (by decide) (by decide)
          have v2 := w 0 1 2 3 (by decide) (by decide) (by decide) (by decide)
          have v3 := w 0 2 0 3 (by decide) (by decide) (by decide) (by decide)
          have v4 := w 0 2 1 3 (by decide) (by decide) (by decide) (by decide)
          have v5 := w 0 2 2 3 (by decide) (by decide) (by decide) (by decide)
          have v6 := w 1 2 0 3 (by decide) (by decide) (by decide) (by decide)
          have v7 := w 1 2 1 3 (by decide) (by decide) (by decide) (by decide)
          have v8 := w 1 2 2 3 (by decide) (by decide) (by decide) (by decide)
          simp only [g00, g01, g02, g10, g11, g12, g20, g21, g22, g03, g13, g23] at v0 v1 v2 v3 v4 v5 v6 v7 v8
          exact ⟨v0, v1, v2, v3, v4, v5, v6, v7, v8⟩
        · rintro ⟨v0, v1, v2, v3, v4, v5, v6, v7, v8⟩ i k u v hi hk hu hv
          rcases (show i = 0 ∨ i = 1 ∨ i = 2 by omega) with rfl | rfl | rfl <;> rcases (show k = 0 ∨ k = 1 ∨ k = 2 by omega) with rfl | rfl | rfl <;> rcases (show u = 0 ∨ u = 1 ∨ u = 2 ∨ u = 3 by omega) with rfl | rfl | rfl | rfl <;> rcases (show v = 0 ∨ v = 1 ∨ v = 2 ∨ v = 3 by omega) with rfl | rfl | rfl | rfl <;> simp only [g00, g01, g02, g10, g11, g12, g20, g21, g22, g03, g13, g23] <;> grind
      by_cases w1 : x + y + z = 0
      · rw [if_pos w1] at k1
        have y1 : z1 3 3 G := Classical.byContradiction (fun t => absurd (o1.mpr t) (by omega))
        have x0 : x = 0 := g00 ▸ y1 0 0 (by decide) (by decide)
        have x1 : y = 0 := g11 ▸ y1 1 1 (by decide) (by decide)
        have x2 : z = 0 := g22 ▸ y1 2 2 (by decide) (by decide)
        have x3 : p = 0 := g01 ▸ y1 0 1 (by decide) (by decide)
        have x4 : q = 0 := g02 ▸ y1 0 2 (by decide) (by decide)
        have x5 : s = 0 := g12 ▸ y1 1 2 (by decide) (by decide)
        have f3 : E3 = 0 := by rw [e3, x0, x1, x2, x3, x4, x5]; simp
        have f2 : E2 = -(a * a) - b * b - c * c := by rw [e2, x0, x1, x2, x3, x4, x5]; grind
        have r2l : ¬ 2 ≤ r2 := fun t => (p2.mp t) (mz2.mpr (by rw [x0, x1, x2, x3, x4, x5]; simp))
        rw [if_pos f3, k1]
        have ca := sq0 a; have cb := sq0 b; have cc := sq0 c
        by_cases v : E2 = 0
        · rw [if_pos v]
          have a0 : a = 0 := sq_z (by omega)
          have b0 : b = 0 := sq_z (by omega)
          have c0 : c = 0 := sq_z (by omega)
          have nz : z1 3 4 G := by
            intro i j hi hj
            rcases (show i = 0 ∨ i = 1 ∨ i = 2 by omega) with rfl | rfl | rfl <;> rcases (show j = 0 ∨ j = 1 ∨ j = 2 ∨ j = 3 by omega) with rfl | rfl | rfl | rfl <;> simp only [g00, g01, g02, g10, g11, g12, g20, g21, g22, g03, g13, g23] <;> assumption
          have : ¬ 1 ≤ r2 := fun t => (p1.mp t) nz
          constructor
          · intro t; omega
          · intro t; exfalso; split at t <;> omega
        · rw [if_neg v]
          have : 1 ≤ r2 := p1.mpr (fun t => v (by
            have a0 : a = 0 := g03 ▸ t 0 3 (by decide) (by decide)
            have b0 : b = 0 := g13 ▸ t 1 3 (by decide) (by decide)
            have c0 : c = 0 := g23 ▸ t 2 3 (by decide) (by decide)
            rw [f2, a0, b0, c0]; rfl))
          omega
      · rw [if_neg w1] at k1
        rw [k1]
        have sos := sos_3 a b c x y z p q s (by omega) (by omega) (by omega) (by omega) (by omega) (by omega)
        by_cases v : (a * a * y - 2 * (a * b * p) + b * b * x) + (a * a * z - 2 * (a * c * q) + c * c * x) + (b * b * z - 2 * (b * c * s) + c * c * y) = 0
        · rw [v, Int.mul_zero] at sos
          have i0 := sq0 (x * b - a * p)
          have i1 := sq0 (p * b - a * y)
          have i2 := sq0 (q * b - a * s)
          have i3 := sq0 (x * c - a * q)
          have i4 := sq0 (p * c - a * s)
          have i5 := sq0 (q * c - a * z)
          have i6 := sq0 (p * c - b * q)
          have i7 := sq0 (y * c - b * s)
          have i8 := sq0 (s * c - b * z)
          have : ¬ 2 ≤ r2 := fun t => (p2.mp t) (mz2.mpr ⟨sq_z (by omega), sq_z (by omega), sq_z (by omega), sq_z (by omega), sq_z (by omega), sq_z (by omega), sq_z (by omega), sq_z (by omega), sq_z (by omega)⟩)
          rw [if_pos (show E3 = 0 by omega)]
          constructor
          · intro t; omega
          · intro t; exfalso; split at t
            · split at t <;> omega
            · omega
        · rw [if_neg (show ¬ E3 = 0 by omega)]
          have : 2 ≤ r2 := p2.mpr (fun t => by
            obtain ⟨v0, v1, v2, v3, v4, v5, v6, v7, v8⟩ := mz2.mp t
            apply v
            rw [v0, v1, v2, v3, v4, v5, v6, v7, v8] at sos
            exact mz w1 sos)
          omega
    · rw [if_neg w2] at k1
      rw [k1]
      by_cases v : a * t0 + b * t1 + c * t2 = 0
      · rw [v, Int.mul_zero] at n0 n1 n2
        have u0 : t0 = 0 := sq_z n0.symm
        have u1 : t1 = 0 := sq_z n1.symm
        have u2 : t2 = 0 := sq_z n2.symm
        have : ¬ 3 ≤ r2 := fun t => (p3.mp t) (e3z.mpr ⟨w3, u0, u1, u2⟩)
        rw [if_pos (show E4 = 0 by omega)]
        constructor
        · intro t; omega
        · intro t; exfalso; split at t
          · split at t
            · split at t <;> omega
            · omega
          · omega
      · rw [if_neg (show ¬ E4 = 0 by omega)]
        have : 3 ≤ r2 := p3.mpr (fun t => by
          obtain ⟨_, u0, u1, u2⟩ := e3z.mp t
          apply v
          rw [u0, u1, u2]; simp)
        omega
  · rw [if_neg w3] at k1
    constructor
    · intro t; omega
    · intro t; omega
