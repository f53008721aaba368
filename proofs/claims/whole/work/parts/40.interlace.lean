/-! interlacing: the signs of A lie within those of the whole table (wip/gen_il.py) -/
theorem il_c (U : Nat → Int) (h : symT U 4) : eS U 4 1 - eS (prt U 1) 3 1 = U 0 := by
  have h1 : U 4 = U 1 := h 1 0 (by decide) (by decide)
  have h2 : U 8 = U 2 := h 2 0 (by decide) (by decide)
  have h3 : U 12 = U 3 := h 3 0 (by decide) (by decide)
  have h4 : U 9 = U 6 := h 2 1 (by decide) (by decide)
  have h5 : U 13 = U 7 := h 3 1 (by decide) (by decide)
  have h6 : U 14 = U 11 := h 3 2 (by decide) (by decide)
  simp only [eS, adjM, m4, m3, m2, prt, Nat.reduceMul, Nat.reduceAdd, Nat.reduceMod, Nat.reduceDiv]
  (try simp only [h1, h2, h3, h4, h5, h6])
  clear h h1 h2 h3 h4 h5 h6
  grind
theorem il_P1 (U : Nat → Int) (h : symT U 4) : eS (prt U 1) 3 1 * eS (prt U 1) 3 1 - 2 * eS (prt U 1) 3 2 = U 5 * U 5 + U 10 * U 10 + U 15 * U 15 + 2 * (U 6 * U 6 + U 7 * U 7 + U 11 * U 11) := by
  have h1 : U 4 = U 1 := h 1 0 (by decide) (by decide)
  have h2 : U 8 = U 2 := h 2 0 (by decide) (by decide)
  have h3 : U 12 = U 3 := h 3 0 (by decide) (by decide)
  have h4 : U 9 = U 6 := h 2 1 (by decide) (by decide)
  have h5 : U 13 = U 7 := h 3 1 (by decide) (by decide)
  have h6 : U 14 = U 11 := h 3 2 (by decide) (by decide)
  simp only [eS, adjM, m4, m3, m2, prt, Nat.reduceMul, Nat.reduceAdd, Nat.reduceMod, Nat.reduceDiv]
  (try simp only [h1, h2, h3, h4, h5, h6])
  clear h h1 h2 h3 h4 h5 h6
  grind
theorem il_P2 (U : Nat → Int) (h : symT U 4) : eS (prt U 1) 3 1 * U 0 - (eS U 4 2 - eS (prt U 1) 3 2) = U 1 * U 1 + U 2 * U 2 + U 3 * U 3 := by
  have h1 : U 4 = U 1 := h 1 0 (by decide) (by decide)
  have h2 : U 8 = U 2 := h 2 0 (by decide) (by decide)
  have h3 : U 12 = U 3 := h 3 0 (by decide) (by decide)
  have h4 : U 9 = U 6 := h 2 1 (by decide) (by decide)
  have h5 : U 13 = U 7 := h 3 1 (by decide) (by decide)
  have h6 : U 14 = U 11 := h 3 2 (by decide) (by decide)
  simp only [eS, adjM, m4, m3, m2, prt, Nat.reduceMul, Nat.reduceAdd, Nat.reduceMod, Nat.reduceDiv]
  (try simp only [h1, h2, h3, h4, h5, h6])
  clear h h1 h2 h3 h4 h5 h6
  grind
theorem il_R1 (U : Nat → Int) (h : symT U 4) : eS (prt U 1) 3 2 * eS (prt U 1) 3 2 - 2 * eS (prt U 1) 3 1 * eS (prt U 1) 3 3 = m2 U 1 2 1 2 * m2 U 1 2 1 2 + m2 U 1 3 1 3 * m2 U 1 3 1 3 + m2 U 2 3 2 3 * m2 U 2 3 2 3 + 2 * (m2 U 1 2 1 3 * m2 U 1 2 1 3 + m2 U 1 2 2 3 * m2 U 1 2 2 3 + m2 U 1 3 2 3 * m2 U 1 3 2 3) := by
  have h1 : U 4 = U 1 := h 1 0 (by decide) (by decide)
  have h2 : U 8 = U 2 := h 2 0 (by decide) (by decide)
  have h3 : U 12 = U 3 := h 3 0 (by decide) (by decide)
  have h4 : U 9 = U 6 := h 2 1 (by decide) (by decide)
  have h5 : U 13 = U 7 := h 3 1 (by decide) (by decide)
  have h6 : U 14 = U 11 := h 3 2 (by decide) (by decide)
  simp only [eS, adjM, m4, m3, m2, prt, Nat.reduceMul, Nat.reduceAdd, Nat.reduceMod, Nat.reduceDiv]
  (try simp only [h1, h2, h3, h4, h5, h6])
  clear h h1 h2 h3 h4 h5 h6
  grind
theorem il_R2 (U : Nat → Int) (h : symT U 4) : eS (prt U 1) 3 2 * (eS U 4 2 - eS (prt U 1) 3 2) - eS (prt U 1) 3 1 * (eS U 4 3 - eS (prt U 1) 3 3) - U 0 * eS (prt U 1) 3 3 + eS U 4 4 = m2 U 0 1 1 2 * m2 U 0 1 1 2 + m2 U 0 1 1 3 * m2 U 0 1 1 3 + m2 U 0 1 2 3 * m2 U 0 1 2 3 + m2 U 0 2 1 2 * m2 U 0 2 1 2 + m2 U 0 2 1 3 * m2 U 0 2 1 3 + m2 U 0 2 2 3 * m2 U 0 2 2 3 + m2 U 0 3 1 2 * m2 U 0 3 1 2 + m2 U 0 3 1 3 * m2 U 0 3 1 3 + m2 U 0 3 2 3 * m2 U 0 3 2 3 := by
  have h1 : U 4 = U 1 := h 1 0 (by decide) (by decide)
  have h2 : U 8 = U 2 := h 2 0 (by decide) (by decide)
  have h3 : U 12 = U 3 := h 3 0 (by decide) (by decide)
  have h4 : U 9 = U 6 := h 2 1 (by decide) (by decide)
  have h5 : U 13 = U 7 := h 3 1 (by decide) (by decide)
  have h6 : U 14 = U 11 := h 3 2 (by decide) (by decide)
  simp only [eS, adjM, m4, m3, m2, prt, Nat.reduceMul, Nat.reduceAdd, Nat.reduceMod, Nat.reduceDiv]
  (try simp only [h1, h2, h3, h4, h5, h6])
  clear h h1 h2 h3 h4 h5 h6
  grind
theorem il_R3 (U : Nat → Int) (h : symT U 4) : (eS U 4 2 - eS (prt U 1) 3 2) * (eS U 4 2 - eS (prt U 1) 3 2) - 2 * U 0 * (eS U 4 3 - eS (prt U 1) 3 3) = m2 U 0 1 0 1 * m2 U 0 1 0 1 + m2 U 0 2 0 2 * m2 U 0 2 0 2 + m2 U 0 3 0 3 * m2 U 0 3 0 3 + 2 * (m2 U 0 1 0 2 * m2 U 0 1 0 2 + m2 U 0 1 0 3 * m2 U 0 1 0 3 + m2 U 0 2 0 3 * m2 U 0 2 0 3) := by
  have h1 : U 4 = U 1 := h 1 0 (by decide) (by decide)
  have h2 : U 8 = U 2 := h 2 0 (by decide) (by decide)
  have h3 : U 12 = U 3 := h 3 0 (by decide) (by decide)
  have h4 : U 9 = U 6 := h 2 1 (by decide) (by decide)
  have h5 : U 13 = U 7 := h 3 1 (by decide) (by decide)
  have h6 : U 14 = U 11 := h 3 2 (by decide) (by decide)
  simp only [eS, adjM, m4, m3, m2, prt, Nat.reduceMul, Nat.reduceAdd, Nat.reduceMod, Nat.reduceDiv]
  (try simp only [h1, h2, h3, h4, h5, h6])
  clear h h1 h2 h3 h4 h5 h6
  grind
theorem il_Q2 (U : Nat → Int) (h : symT U 4) : eS (prt U 1) 3 3 * (eS U 4 3 - eS (prt U 1) 3 3) - eS (prt U 1) 3 2 * eS U 4 4 = adjM U 4 0 1 * adjM U 4 0 1 + adjM U 4 0 2 * adjM U 4 0 2 + adjM U 4 0 3 * adjM U 4 0 3 := by
  have h1 : U 4 = U 1 := h 1 0 (by decide) (by decide)
  have h2 : U 8 = U 2 := h 2 0 (by decide) (by decide)
  have h3 : U 12 = U 3 := h 3 0 (by decide) (by decide)
  have h4 : U 9 = U 6 := h 2 1 (by decide) (by decide)
  have h5 : U 13 = U 7 := h 3 1 (by decide) (by decide)
  have h6 : U 14 = U 11 := h 3 2 (by decide) (by decide)
  simp only [eS, adjM, m4, m3, m2, prt, Nat.reduceMul, Nat.reduceAdd, Nat.reduceMod, Nat.reduceDiv]
  (try simp only [h1, h2, h3, h4, h5, h6])
  clear h h1 h2 h3 h4 h5 h6
  grind
theorem il_Q3 (U : Nat → Int) (h : symT U 4) : (eS U 4 3 - eS (prt U 1) 3 3) * (eS U 4 3 - eS (prt U 1) 3 3) - 2 * (eS U 4 2 - eS (prt U 1) 3 2) * eS U 4 4 = adjM U 4 1 1 * adjM U 4 1 1 + adjM U 4 2 2 * adjM U 4 2 2 + adjM U 4 3 3 * adjM U 4 3 3 + 2 * (adjM U 4 1 2 * adjM U 4 1 2 + adjM U 4 1 3 * adjM U 4 1 3 + adjM U 4 2 3 * adjM U 4 2 3) := by
  have h1 : U 4 = U 1 := h 1 0 (by decide) (by decide)
  have h2 : U 8 = U 2 := h 2 0 (by decide) (by decide)
  have h3 : U 12 = U 3 := h 3 0 (by decide) (by decide)
  have h4 : U 9 = U 6 := h 2 1 (by decide) (by decide)
  have h5 : U 13 = U 7 := h 3 1 (by decide) (by decide)
  have h6 : U 14 = U 11 := h 3 2 (by decide) (by decide)
  simp only [eS, adjM, m4, m3, m2, prt, Nat.reduceMul, Nat.reduceAdd, Nat.reduceMod, Nat.reduceDiv]
  (try simp only [h1, h2, h3, h4, h5, h6])
  clear h h1 h2 h3 h4 h5 h6
  grind
def ilX (U : Nat → Int) (s t F : Int) (i j : Nat) : Int := s * (U i * U j) + t * (U (4 + i) * U (4 + j)) + t * (U (8 + i) * U (8 + j)) + t * (U (12 + i) * U (12 + j)) - F * U (4 * i + j)
theorem il_T (U : Nat → Int) (h : symT U 4) (s t : Int) : t * t * (2 * ((t * eS (prt U 1) 3 2 + s * (eS U 4 2 - eS (prt U 1) 3 2)) * (t * eS (prt U 1) 3 2 + s * (eS U 4 2 - eS (prt U 1) 3 2))) - 2 * ((t * eS (prt U 1) 3 1 + s * U 0) * (t * eS (prt U 1) 3 3 + s * (eS U 4 3 - eS (prt U 1) 3 3))) - 4 * (t * (s * eS U 4 4))) = s * s * (ilX U s t (t * eS (prt U 1) 3 1 + s * U 0) 0 0 * ilX U s t (t * eS (prt U 1) 3 1 + s * U 0) 0 0) + 2 * (s * t) * (ilX U s t (t * eS (prt U 1) 3 1 + s * U 0) 0 1 * ilX U s t (t * eS (prt U 1) 3 1 + s * U 0) 0 1 + ilX U s t (t * eS (prt U 1) 3 1 + s * U 0) 0 2 * ilX U s t (t * eS (prt U 1) 3 1 + s * U 0) 0 2 + ilX U s t (t * eS (prt U 1) 3 1 + s * U 0) 0 3 * ilX U s t (t * eS (prt U 1) 3 1 + s * U 0) 0 3) + t * t * (ilX U s t (t * eS (prt U 1) 3 1 + s * U 0) 1 1 * ilX U s t (t * eS (prt U 1) 3 1 + s * U 0) 1 1 + ilX U s t (t * eS (prt U 1) 3 1 + s * U 0) 2 2 * ilX U s t (t * eS (prt U 1) 3 1 + s * U 0) 2 2 + ilX U s t (t * eS (prt U 1) 3 1 + s * U 0) 3 3 * ilX U s t (t * eS (prt U 1) 3 1 + s * U 0) 3 3 + 2 * (ilX U s t (t * eS (prt U 1) 3 1 + s * U 0) 1 2 * ilX U s t (t * eS (prt U 1) 3 1 + s * U 0) 1 2 + ilX U s t (t * eS (prt U 1) 3 1 + s * U 0) 1 3 * ilX U s t (t * eS (prt U 1) 3 1 + s * U 0) 1 3 + ilX U s t (t * eS (prt U 1) 3 1 + s * U 0) 2 3 * ilX U s t (t * eS (prt U 1) 3 1 + s * U 0) 2 3)) := by
  have h1 : U 4 = U 1 := h 1 0 (by decide) (by decide)
  have h2 : U 8 = U 2 := h 2 0 (by decide) (by decide)
  have h3 : U 12 = U 3 := h 3 0 (by decide) (by decide)
  have h4 : U 9 = U 6 := h 2 1 (by decide) (by decide)
  have h5 : U 13 = U 7 := h 3 1 (by decide) (by decide)
  have h6 : U 14 = U 11 := h 3 2 (by decide) (by decide)
  simp only [ilX, eS, adjM, m4, m3, m2, prt, Nat.reduceMul, Nat.reduceAdd, Nat.reduceMod, Nat.reduceDiv]
  (try simp only [h1, h2, h3, h4, h5, h6])
  clear h h1 h2 h3 h4 h5 h6
  grind
/-- what the sums a1..a3 of A and the steps c, n2, n3, m4 to those of the whole table keep to -/
abbrev ilF (a1 a2 a3 c n2 n3 m4 : Int) : Prop :=
  (0 ≤ a1 * a1 - 2 * a2 ∧ 0 ≤ a1 * c - n2) ∧
  (0 ≤ a2 * a2 - 2 * a1 * a3 ∧ 0 ≤ a2 * n2 - a1 * n3 - c * a3 + m4 ∧ 0 ≤ n2 * n2 - 2 * c * n3) ∧
  (0 ≤ a3 * n3 - a2 * m4 ∧ 0 ≤ n3 * n3 - 2 * n2 * m4) ∧
  (∀ s t : Int, 0 < s → 0 < t → 0 ≤ 2 * ((t * a2 + s * n2) * (t * a2 + s * n2)) - 2 * ((t * a1 + s * c) * (t * a3 + s * n3)) - 4 * (t * (s * m4))) ∧
  (a1 * a1 - 2 * a2 = 0 → a3 = 0 ∧ n3 = 0 ∧ m4 = 0) ∧
  (a2 * a2 - 2 * a1 * a3 = 0 → a2 = 0 ∧ m4 = 0) ∧
  (a1 * a1 - 2 * a2 = 0 → a1 * c - n2 = 0 → c = 0 → a1 = 0) ∧
  (a2 * a2 - 2 * a1 * a3 = 0 → n2 * n2 - 2 * c * n3 = 0 → n2 = 0) ∧
  (a3 = 0 → n3 * n3 - 2 * n2 * m4 = 0 → n3 = 0)
theorem sq_6 {u v x y z w : Int} (h : u * u + v * v + x * x + 2 * (y * y + z * z + w * w) = 0) : u = 0 ∧ v = 0 ∧ x = 0 ∧ y = 0 ∧ z = 0 ∧ w = 0 := by
  have c0 := sq0 u; have c1 := sq0 v; have c2 := sq0 x; have c3 := sq0 y; have c4 := sq0 z; have c5 := sq0 w
  exact ⟨sq_z (by omega), sq_z (by omega), sq_z (by omega), sq_z (by omega), sq_z (by omega), sq_z (by omega)⟩
theorem sq_p6 (u v x y z w : Int) : 0 ≤ u * u + v * v + x * x + 2 * (y * y + z * z + w * w) := by
  have c0 := sq0 u; have c1 := sq0 v; have c2 := sq0 x; have c3 := sq0 y; have c4 := sq0 z; have c5 := sq0 w
  omega
theorem il_D (U : Nat → Int) (h : symT U 4) : eS U 4 4 = U 0 * (U 5 * m2 U 2 3 2 3 - U 6 * m2 U 1 3 2 3 + U 7 * m2 U 1 2 2 3) - U 1 * (U 1 * m2 U 2 3 2 3 - U 2 * m2 U 1 3 2 3 + U 3 * m2 U 1 2 2 3) + U 2 * (U 1 * m2 U 1 3 2 3 - U 2 * m2 U 1 3 1 3 + U 3 * m2 U 1 2 1 3) - U 3 * (U 1 * m2 U 1 2 2 3 - U 2 * m2 U 1 2 1 3 + U 3 * m2 U 1 2 1 2) := by
  have h1 : U 4 = U 1 := h 1 0 (by decide) (by decide)
  have h2 : U 8 = U 2 := h 2 0 (by decide) (by decide)
  have h3 : U 12 = U 3 := h 3 0 (by decide) (by decide)
  have h4 : U 9 = U 6 := h 2 1 (by decide) (by decide)
  have h5 : U 13 = U 7 := h 3 1 (by decide) (by decide)
  have h6 : U 14 = U 11 := h 3 2 (by decide) (by decide)
  simp only [eS, adjM, m4, m3, m2, prt, Nat.reduceMul, Nat.reduceAdd, Nat.reduceMod, Nat.reduceDiv]
  (try simp only [h1, h2, h3, h4, h5, h6])
  clear h h1 h2 h3 h4 h5 h6
  grind
theorem il_F (U : Nat → Int) (h : symT U 4) : ilF (eS (prt U 1) 3 1) (eS (prt U 1) 3 2) (eS (prt U 1) 3 3) (U 0) (eS U 4 2 - eS (prt U 1) 3 2) (eS U 4 3 - eS (prt U 1) 3 3) (eS U 4 4) := by
  refine ⟨⟨?_, ?_⟩, ⟨?_, ?_, ?_⟩, ⟨?_, ?_⟩, fun s t hs ht => ?_, fun q => ?_, fun q => ?_, fun q _ _ => ?_, fun q q2 => ?_, fun q q2 => ?_⟩
  · rw [il_P1 U h]; exact sq_p6 _ _ _ _ _ _
  · rw [il_P2 U h]
    have := sq0 (U 1); have := sq0 (U 2); have := sq0 (U 3); omega
  · rw [il_R1 U h]; exact sq_p6 _ _ _ _ _ _
  · rw [il_R2 U h]
    repeat' first | exact sq0 _ | apply Int.add_nonneg
  · rw [il_R3 U h]; exact sq_p6 _ _ _ _ _ _
  · rw [il_Q2 U h]
    repeat' first | exact sq0 _ | apply Int.add_nonneg
  · rw [il_Q3 U h]; exact sq_p6 _ _ _ _ _ _
  · have e := il_T U h s t
    have tt : 0 < t * t := Int.mul_pos ht ht
    have st : 0 ≤ 2 * (s * t) := Int.mul_nonneg (by decide) (Int.le_of_lt (Int.mul_pos hs ht))
    have r : 0 ≤ t * t * (2 * ((t * eS (prt U 1) 3 2 + s * (eS U 4 2 - eS (prt U 1) 3 2)) * (t * eS (prt U 1) 3 2 + s * (eS U 4 2 - eS (prt U 1) 3 2))) - 2 * ((t * eS (prt U 1) 3 1 + s * U 0) * (t * eS (prt U 1) 3 3 + s * (eS U 4 3 - eS (prt U 1) 3 3))) - 4 * (t * (s * eS U 4 4))) := by
      rw [e]
      refine Int.add_nonneg (Int.add_nonneg (Int.mul_nonneg (sq0 s) (sq0 _)) (Int.mul_nonneg st ?_)) (Int.mul_nonneg (sq0 t) (sq_p6 _ _ _ _ _ _))
      exact Int.add_nonneg (Int.add_nonneg (sq0 _) (sq0 _)) (sq0 _)
    exact Int.le_of_mul_le_mul_left (by rw [Int.mul_zero]; exact r) tt
  · rw [il_P1 U h] at q
    obtain ⟨z5, z10, z15, z6, z7, z11⟩ := sq_6 q
    have h1 : U 4 = U 1 := h 1 0 (by decide) (by decide)
    have h2 : U 8 = U 2 := h 2 0 (by decide) (by decide)
    have h3 : U 12 = U 3 := h 3 0 (by decide) (by decide)
    have h4 : U 9 = U 6 := h 2 1 (by decide) (by decide)
    have h5 : U 13 = U 7 := h 3 1 (by decide) (by decide)
    have h6 : U 14 = U 11 := h 3 2 (by decide) (by decide)
    refine ⟨?_, ?_, ?_⟩ <;> (simp only [eS, adjM, m4, m3, m2, prt, Nat.reduceMul, Nat.reduceAdd, Nat.reduceMod, Nat.reduceDiv]; simp only [h1, h2, h3, h4, h5, h6, z5, z10, z15, z6, z7, z11]; grind)
  · rw [il_R1 U h] at q
    obtain ⟨z1, z2, z3, z4, z5, z6⟩ := sq_6 q
    have e2 : eS (prt U 1) 3 2 = m2 U 1 2 1 2 + m2 U 1 3 1 3 + m2 U 2 3 2 3 := by
      simp only [eS, adjM, m4, m3, m2, prt, Nat.reduceMul, Nat.reduceAdd, Nat.reduceMod, Nat.reduceDiv]
    have e4 := il_D U h
    rw [z1, z2, z3] at e2
    rw [z1, z2, z3, z4, z5, z6] at e4
    constructor
    · rw [e2]; rfl
    · rw [e4]; simp only [Int.mul_zero, Int.add_zero, Int.sub_zero]
  · rw [il_P1 U h] at q
    obtain ⟨z5, z10, z15, z6, z7, z11⟩ := sq_6 q
    show U 5 + U 10 + U 15 = 0
    rw [z5, z10, z15]; rfl
  · rw [il_R1 U h] at q
    rw [il_R3 U h] at q2
    obtain ⟨z1, z2, z3, z4, z5, z6⟩ := sq_6 q
    obtain ⟨y1, y2, y3, y4, y5, y6⟩ := sq_6 q2
    have e2 : eS U 4 2 - eS (prt U 1) 3 2 = m2 U 0 1 0 1 + m2 U 0 2 0 2 + m2 U 0 3 0 3 := by
      simp only [eS, adjM, m4, m3, m2, prt, Nat.reduceMul, Nat.reduceAdd, Nat.reduceMod, Nat.reduceDiv]
      grind
    rw [e2, y1, y2, y3]; rfl
  · rw [il_Q3 U h] at q2
    obtain ⟨y1, y2, y3, y4, y5, y6⟩ := sq_6 q2
    have e2 : eS U 4 3 - eS (prt U 1) 3 3 = adjM U 4 1 1 + adjM U 4 2 2 + adjM U 4 3 3 := by
      simp only [eS, adjM, m4, m3, m2, prt, Nat.reduceMul, Nat.reduceAdd, Nat.reduceMod, Nat.reduceDiv]
      grind
    rw [e2, y1, y2, y3]; rfl
theorem il_k1 (s t a1 a2 c n2 : Int) : (t * a1 + s * c) * (t * a1 + s * c) - 2 * (t * (t * a2 + s * n2)) = t * t * (a1 * a1 - 2 * a2) + 2 * (s * t) * (a1 * c - n2) + s * s * (c * c) := by grind
theorem il_k2 (s t a1 a2 a3 c n2 n3 m4 : Int) : (t * a2 + s * n2) * (t * a2 + s * n2) - 2 * ((t * a1 + s * c) * (t * a3 + s * n3)) + 2 * (t * (s * m4)) = t * t * (a2 * a2 - 2 * a1 * a3) + 2 * (s * t) * (a2 * n2 - a1 * n3 - c * a3 + m4) + s * s * (n2 * n2 - 2 * c * n3) := by grind
theorem il_k3 (s t a2 a3 n2 n3 m4 : Int) : (t * a3 + s * n3) * (t * a3 + s * n3) - 2 * ((t * a2 + s * n2) * (s * m4)) = t * t * (a3 * a3) + 2 * (s * t) * (a3 * n3 - a2 * m4) + s * s * (n3 * n3 - 2 * n2 * m4) := by grind
theorem sum_p {s t x y z : Int} (hs : 0 < s) (ht : 0 < t) (hx : 0 ≤ x) (hy : 0 ≤ y) (hz : 0 ≤ z) : 0 ≤ t * t * x + 2 * (s * t) * y + s * s * z :=
  Int.add_nonneg (Int.add_nonneg (Int.mul_nonneg (sq0 t) hx) (Int.mul_nonneg (Int.mul_nonneg (by decide) (Int.le_of_lt (Int.mul_pos hs ht))) hy)) (Int.mul_nonneg (sq0 s) hz)
theorem sum_z {s t x y z : Int} (hs : 0 < s) (ht : 0 < t) (hx : 0 ≤ x) (hy : 0 ≤ y) (hz : 0 ≤ z) (h : t * t * x + 2 * (s * t) * y + s * s * z = 0) : x = 0 ∧ y = 0 ∧ z = 0 := by
  have p1 := Int.mul_nonneg (sq0 t) hx
  have st : 0 < 2 * (s * t) := Int.mul_pos (by decide) (Int.mul_pos hs ht)
  have p2 := Int.mul_nonneg (Int.le_of_lt st) hy
  have p3 := Int.mul_nonneg (sq0 s) hz
  have tt : 0 < t * t := Int.mul_pos ht ht
  have ss : 0 < s * s := Int.mul_pos hs hs
  have z1 : t * t * x = 0 := by omega
  have z2 : 2 * (s * t) * y = 0 := by omega
  have z3 : s * s * z = 0 := by omega
  refine ⟨?_, ?_, ?_⟩
  · rcases Int.mul_eq_zero.mp z1 with q | q
    · omega
    · exact q
  · rcases Int.mul_eq_zero.mp z2 with q | q
    · omega
    · exact q
  · rcases Int.mul_eq_zero.mp z3 with q | q
    · omega
    · exact q
/-- the row of sums at the place s : t on the way from A to the whole table -/
def ilW (a1 a2 a3 c n2 n3 m4 x1 x2 x3 x4 : Int) : Prop := ∃ s t : Int, 0 < s ∧ 0 < t ∧ x1 = t * a1 + s * c ∧ x2 = t * a2 + s * n2 ∧ x3 = t * a3 + s * n3 ∧ x4 = s * m4
theorem ilW_add {a1 a2 a3 c n2 n3 m4 x1 x2 x3 x4 y1 y2 y3 y4 p q : Int} (hx : ilW a1 a2 a3 c n2 n3 m4 x1 x2 x3 x4) (hy : ilW a1 a2 a3 c n2 n3 m4 y1 y2 y3 y4) (hp : 0 < p) (hq : 0 < q) : ilW a1 a2 a3 c n2 n3 m4 (p * x1 + q * y1) (p * x2 + q * y2) (p * x3 + q * y3) (p * x4 + q * y4) := by
  obtain ⟨s, t, hs, ht, e1, e2, e3, e4⟩ := hx
  obtain ⟨s2, t2, hs2, ht2, f1, f2, f3, f4⟩ := hy
  refine ⟨p * s + q * s2, p * t + q * t2, Int.add_pos (Int.mul_pos hp hs) (Int.mul_pos hq hs2), Int.add_pos (Int.mul_pos hp ht) (Int.mul_pos hq ht2), ?_, ?_, ?_, ?_⟩
  · rw [e1, f1]; grind
  · rw [e2, f2]; grind
  · rw [e3, f3]; grind
  · rw [e4, f4]; grind
theorem ilW_gap {a1 a2 a3 c n2 n3 m4 x1 x2 x3 x4 : Int} (h : ilF a1 a2 a3 c n2 n3 m4) (hx : ilW a1 a2 a3 c n2 n3 m4 x1 x2 x3 x4) : gap4 x1 x2 x3 x4 := by
  obtain ⟨⟨P1, P2⟩, ⟨R1, R2, R3⟩, ⟨Q2, Q3⟩, T, hA, hB, hC, hD, hE⟩ := h
  obtain ⟨s, t, hs, ht, e1, e2, e3, e4⟩ := hx
  have k1 := il_k1 s t a1 a2 c n2
  have k2 := il_k2 s t a1 a2 a3 c n2 n3 m4
  have k3 := il_k3 s t a2 a3 n2 n3 m4
  have k4 := T s t hs ht
  rw [← e1, ← e2] at k1
  rw [← e1, ← e2, ← e3, ← e4] at k2 k4
  rw [← e2, ← e3, ← e4] at k3
  have b1 := sum_p hs ht P1 P2 (sq0 c)
  have b2 := sum_p hs ht R1 R2 R3
  have b3 := sum_p hs ht (sq0 a3) Q2 Q3
  have d1 := k1
  rw [← k1] at b1
  rw [← k2] at b2
  rw [← k3] at b3
  clear k2 k3
  have z2 : x2 = 0 → x1 * x3 ≤ 0 ∧ (x3 = 0 → x4 = 0) := by
    intro q
    rw [q, Int.mul_zero] at b2 k4
    constructor
    · omega
    · intro q3
      rw [q3, Int.mul_zero] at b2 k4
      have : t * x4 = 0 := by omega
      rcases Int.mul_eq_zero.mp this with z | z
      · omega
      · exact z
  refine ⟨fun q => ?_, fun q q2 => ?_, fun q => (z2 q).1, fun q => (z2 q).2, fun q => ?_⟩
  · rw [q, Int.mul_zero] at b1
    have b : t * x2 ≤ 0 := by omega
    by_cases z : 0 < x2
    · have := Int.mul_pos ht z; omega
    · omega
  · rw [q, q2, Int.mul_zero, Int.mul_zero] at k1
    have r := sum_z hs ht P1 P2 (sq0 c) (by omega)
    obtain ⟨y3, yn, y4⟩ := hA r.1
    rw [e3, e4, y3, yn, y4, Int.mul_zero, Int.mul_zero]
    exact ⟨rfl, rfl⟩
  · rw [q, Int.mul_zero] at b3; omega
abbrev topS (x1 x2 x3 x4 y1 y2 y3 y4 : Int) : Prop := x4 = y4 ∧ (x4 = 0 → (x3 = 0 ↔ y3 = 0)) ∧ (x4 = 0 → x3 = 0 → (x2 = 0 ↔ y2 = 0)) ∧ (x4 = 0 → x3 = 0 → x2 = 0 → (x1 = 0 ↔ y1 = 0))
theorem ilW_z {a1 a2 a3 c n2 n3 m4 x1 x2 x3 x4 : Int} (h : ilF a1 a2 a3 c n2 n3 m4) (hx : ilW a1 a2 a3 c n2 n3 m4 x1 x2 x3 x4) : (x4 = 0 → m4 = 0) ∧ (x4 = 0 → x3 = 0 → a3 = 0 ∧ n3 = 0) ∧ (x4 = 0 → x3 = 0 → x2 = 0 → a2 = 0 ∧ n2 = 0) ∧ (x4 = 0 → x3 = 0 → x2 = 0 → x1 = 0 → a1 = 0 ∧ c = 0) := by
  obtain ⟨⟨P1, P2⟩, ⟨R1, R2, R3⟩, ⟨Q2, Q3⟩, T, hA, hB, hC, hD, hE⟩ := h
  obtain ⟨s, t, hs, ht, e1, e2, e3, e4⟩ := hx
  have k1 := il_k1 s t a1 a2 c n2
  have k2 := il_k2 s t a1 a2 a3 c n2 n3 m4
  have k3 := il_k3 s t a2 a3 n2 n3 m4
  rw [← e1, ← e2] at k1
  rw [← e1, ← e2, ← e3, ← e4] at k2
  rw [← e2, ← e3, ← e4] at k3
  refine ⟨fun q => ?_, fun q q3 => ?_, fun q q3 q2 => ?_, fun q q3 q2 q1 => ?_⟩
  · rw [e4] at q
    rcases Int.mul_eq_zero.mp q with z | z
    · omega
    · exact z
  · rw [q, q3, Int.mul_zero, Int.mul_zero] at k3
    have r := sum_z hs ht (sq0 a3) Q2 Q3 (by omega)
    exact ⟨sq_z r.1, hE (sq_z r.1) r.2.2⟩
  · rw [q, q3, q2, Int.mul_zero, Int.mul_zero, Int.mul_zero] at k2
    have r := sum_z hs ht R1 R2 R3 (by omega)
    exact ⟨(hB r.1).1, hD r.1 r.2.2⟩
  · rw [q2, q1, Int.mul_zero, Int.mul_zero] at k1
    have r := sum_z hs ht P1 P2 (sq0 c) (by omega)
    exact ⟨hC r.1 r.2.1 (sq_z r.2.2), sq_z r.2.2⟩
theorem sgn_t {t x : Int} (h : 0 < t) : sgnZ (t * x) = sgnZ x := by
  by_cases p1 : 0 < x
  · rw [sgnZ_p p1, sgnZ_p (Int.mul_pos h p1)]
  · by_cases p2 : x < 0
    · rw [sgnZ_m p2, sgnZ_m (Int.mul_neg_of_pos_of_neg h p2)]
    · have z : x = 0 := by omega
      rw [z, Int.mul_zero]
theorem ilW_top {a1 a2 a3 c n2 n3 m4 x1 x2 x3 x4 y1 y2 y3 y4 : Int} (h : ilF a1 a2 a3 c n2 n3 m4) (hx : ilW a1 a2 a3 c n2 n3 m4 x1 x2 x3 x4) (hy : ilW a1 a2 a3 c n2 n3 m4 y1 y2 y3 y4) : topS (sgnZ x1) (sgnZ x2) (sgnZ x3) (sgnZ x4) (sgnZ y1) (sgnZ y2) (sgnZ y3) (sgnZ y4) := by
  obtain ⟨u4, u3, u2, u1⟩ := ilW_z h hx
  obtain ⟨v4, v3, v2, v1⟩ := ilW_z h hy
  obtain ⟨s, t, hs, ht, e1, e2, e3, e4⟩ := hx
  obtain ⟨s2, t2, hs2, ht2, f1, f2, f3, f4⟩ := hy
  have E4 : sgnZ x4 = sgnZ y4 := by rw [e4, f4, sgn_t hs, sgn_t hs2]
  have Z4 : x4 = 0 → y4 = 0 := fun q => by rw [f4, u4 q, Int.mul_zero]
  have zz : ∀ a n : Int, a = 0 ∧ n = 0 → t * a + s * n = 0 ∧ t2 * a + s2 * n = 0 := by
    rintro a n ⟨rfl, rfl⟩
    simp only [Int.mul_zero, Int.add_zero, and_self]
  simp only [topS, sgnZ_ne]
  refine ⟨E4, fun q => ⟨fun q3 => ?_, fun q3 => ?_⟩, fun q q3 => ⟨fun q2 => ?_, fun q2 => ?_⟩, fun q q3 q2 => ⟨fun q1 => ?_, fun q1 => ?_⟩⟩
  · rw [f3]; exact (zz _ _ (u3 q q3)).2
  · rw [e3]; exact (zz _ _ (v3 (Z4 q) q3)).1
  · rw [f2]; exact (zz _ _ (u2 q q3 q2)).2
  · have y3z : y3 = 0 := by rw [f3]; exact (zz _ _ (u3 q q3)).2
    rw [e2]; exact (zz _ _ (v2 (Z4 q) y3z q2)).1
  · rw [f1]; exact (zz _ _ (u1 q q3 q2 q1)).2
  · have y3z : y3 = 0 := by rw [f3]; exact (zz _ _ (u3 q q3)).2
    have y2z : y2 = 0 := by rw [f2]; exact (zz _ _ (u2 q q3 q2)).2
    rw [e1]; exact (zz _ _ (v1 (Z4 q) y3z y2z q1)).1
abbrev upS (s1 s2 s3 s4 : Int) : Nat := chgA (sO s1 s2 s3 s4 4) 4 1
abbrev rkS (s1 s2 s3 s4 : Int) : Nat := 4 - zerN (sO s1 s2 s3 s4 4) 4 4
def adjB (a b c d x y z w : Int) : Bool := !(decide (gap4 a b c d)) || (!(decide (gap4 x y z w)) || (!(decide (0 ≤ a * x)) || (!(decide (0 ≤ b * y)) || (!(decide (0 ≤ c * z)) || (!(decide (topS a b c d x y z w)) || (decide (upS a b c d = upS x y z w) && decide (rkS a b c d = rkS x y z w)))))))
theorem adj_all : ∀ a b c d x y z w : Fin 3, adjB ((a : Int) - 1) ((b : Int) - 1) ((c : Int) - 1) ((d : Int) - 1) ((x : Int) - 1) ((y : Int) - 1) ((z : Int) - 1) ((w : Int) - 1) = true := by decide +kernel
theorem adj_ok {a b c d x y z w : Int} (h : adjB a b c d x y z w = true) (g : gap4 a b c d) (k : gap4 x y z w) (d1 : 0 ≤ a * x) (d2 : 0 ≤ b * y) (d3 : 0 ≤ c * z) (tp : topS a b c d x y z w) : upS a b c d = upS x y z w ∧ rkS a b c d = rkS x y z w := by
  unfold adjB at h
  rw [decide_eq_true g, decide_eq_true k, decide_eq_true d1, decide_eq_true d2, decide_eq_true d3, decide_eq_true tp] at h
  simpa only [Bool.not_true, Bool.false_or, Bool.and_eq_true, decide_eq_true_eq] using h
abbrev nearS (a b c x y z w : Int) : Prop := (a ≠ 0 → x = a) ∧ (b ≠ 0 → y = b) ∧ (c ≠ 0 → z = c) ∧ (c = 0 → w * b ≤ 0) ∧ (c = 0 → b = 0 → w = 0 ∧ z * a ≤ 0) ∧ (c = 0 → b = 0 → a = 0 → z = 0 ∧ y ≤ 0)
abbrev ilQ (a r c q : Nat) : Prop := a ≤ c ∧ c ≤ a + 1 ∧ r - a ≤ q - c ∧ q - c ≤ r - a + 1
def nearB (a b c x y z w : Int) : Bool := !(decide (gap4 a b c 0)) || (!(decide (gap4 x y z w)) || (!(decide (nearS a b c x y z w)) || decide (ilQ (upS a b c 0) (rkS a b c 0) (upS x y z w) (rkS x y z w))))
theorem near_all : ∀ a b c x y z w : Fin 3, nearB ((a : Int) - 1) ((b : Int) - 1) ((c : Int) - 1) ((x : Int) - 1) ((y : Int) - 1) ((z : Int) - 1) ((w : Int) - 1) = true := by decide +kernel
theorem near_ok {a b c x y z w : Int} (h : nearB a b c x y z w = true) (g : gap4 a b c 0) (k : gap4 x y z w) (d1 : nearS a b c x y z w) : ilQ (upS a b c 0) (rkS a b c 0) (upS x y z w) (rkS x y z w) := by
  unfold nearB at h
  rw [decide_eq_true g, decide_eq_true k, decide_eq_true d1] at h
  simpa only [Bool.not_true, Bool.false_or, decide_eq_true_eq] using h
theorem up_34 : ∀ a b c : Fin 3, chgA (sO ((a : Int) - 1) ((b : Int) - 1) ((c : Int) - 1) 0 3) 3 1 = upS ((a : Int) - 1) ((b : Int) - 1) ((c : Int) - 1) 0 ∧ 3 - zerN (sO ((a : Int) - 1) ((b : Int) - 1) ((c : Int) - 1) 0 3) 3 3 = rkS ((a : Int) - 1) ((b : Int) - 1) ((c : Int) - 1) 0 := by decide +kernel
theorem up_24 : ∀ a b : Fin 3, chgA (sO ((a : Int) - 1) ((b : Int) - 1) 0 0 2) 2 1 = upS ((a : Int) - 1) ((b : Int) - 1) 0 0 ∧ 2 - zerN (sO ((a : Int) - 1) ((b : Int) - 1) 0 0 2) 2 2 = rkS ((a : Int) - 1) ((b : Int) - 1) 0 0 := by decide +kernel
theorem sgn_mul_p {x y : Int} (h : 0 ≤ x * y) : 0 ≤ sgnZ x * sgnZ y := by
  have k := sgn_mul (x := x) (y := -y) (by rw [Int.mul_neg]; omega)
  rw [sgn_m, Int.mul_neg] at k; omega
/-- upS and rkS of the signs of two rows are one -/
abbrev ilE (x1 x2 x3 x4 y1 y2 y3 y4 : Int) : Prop := upS (sgnZ x1) (sgnZ x2) (sgnZ x3) (sgnZ x4) = upS (sgnZ y1) (sgnZ y2) (sgnZ y3) (sgnZ y4) ∧ rkS (sgnZ x1) (sgnZ x2) (sgnZ x3) (sgnZ x4) = rkS (sgnZ y1) (sgnZ y2) (sgnZ y3) (sgnZ y4)
theorem il_0 {a1 a2 a3 c n2 n3 m4 x1 x2 x3 x4 y1 y2 y3 y4 : Int} (h : ilF a1 a2 a3 c n2 n3 m4) (hx : ilW a1 a2 a3 c n2 n3 m4 x1 x2 x3 x4) (hy : ilW a1 a2 a3 c n2 n3 m4 y1 y2 y3 y4) (c1 : 0 ≤ x1 * y1) (c2 : 0 ≤ x2 * y2) (c3 : 0 ≤ x3 * y3) : ilE x1 x2 x3 x4 y1 y2 y3 y4 := by
  have g := gap_sgn (ilW_gap h hx)
  have k := gap_sgn (ilW_gap h hy)
  have tp := ilW_top h hx hy
  have d1 := sgn_mul_p c1
  have d2 := sgn_mul_p c2
  have d3 := sgn_mul_p c3
  clear h hx hy c1 c2 c3
  unfold ilE
  obtain ⟨u1, h1⟩ := sgn_fin x1
  obtain ⟨u2, h2⟩ := sgn_fin x2
  obtain ⟨u3, h3⟩ := sgn_fin x3
  obtain ⟨u4, h4⟩ := sgn_fin x4
  obtain ⟨v1, i1⟩ := sgn_fin y1
  obtain ⟨v2, i2⟩ := sgn_fin y2
  obtain ⟨v3, i3⟩ := sgn_fin y3
  obtain ⟨v4, i4⟩ := sgn_fin y4
  rw [h1, h2, h3, h4] at g
  rw [i1, i2, i3, i4] at k
  rw [h1, h2, h3, h4, i1, i2, i3, i4] at tp
  rw [h1, i1] at d1
  rw [h2, i2] at d2
  rw [h3, i3] at d3
  rw [h1, h2, h3, h4, i1, i2, i3, i4]
  exact adj_ok (adj_all u1 u2 u3 u4 v1 v2 v3 v4) g k d1 d2 d3 tp
theorem cvx {x y p q : Int} (hp : 0 < p) (hq : 0 < q) (h : 0 ≤ x * y) : 0 ≤ x * (p * x + q * y) ∧ 0 ≤ (p * x + q * y) * y := by
  have e1 : x * (p * x + q * y) = p * (x * x) + q * (x * y) := by grind
  have e2 : (p * x + q * y) * y = p * (x * y) + q * (y * y) := by grind
  rw [e1, e2]
  exact ⟨Int.add_nonneg (Int.mul_nonneg (Int.le_of_lt hp) (sq0 x)) (Int.mul_nonneg (Int.le_of_lt hq) h), Int.add_nonneg (Int.mul_nonneg (Int.le_of_lt hp) h) (Int.mul_nonneg (Int.le_of_lt hq) (sq0 y))⟩
theorem crsP {x y : Int} (h : x * y < 0) : ∃ p q : Int, 0 < p ∧ 0 < q ∧ p * x + q * y = 0 := by
  by_cases a : 0 < x
  · by_cases b : 0 ≤ y
    · have := Int.mul_nonneg (Int.le_of_lt a) b; omega
    · exact ⟨-y, x, by omega, a, by grind⟩
  · by_cases z : x = 0
    · rw [z, Int.zero_mul] at h; omega
    · by_cases b : y ≤ 0
      · have := Int.mul_nonneg_of_nonpos_of_nonpos (show x ≤ 0 by omega) b; omega
      · exact ⟨y, -x, by omega, by omega, by grind⟩
theorem z0l {x y : Int} (h : x = 0) : 0 ≤ x * y := by rw [h, Int.zero_mul]; exact Int.le_refl _
theorem z0r {x y : Int} (h : y = 0) : 0 ≤ x * y := by rw [h, Int.mul_zero]; exact Int.le_refl _
theorem il_1 {a1 a2 a3 c n2 n3 m4 x1 x2 x3 x4 y1 y2 y3 y4 : Int} (h : ilF a1 a2 a3 c n2 n3 m4) (hx : ilW a1 a2 a3 c n2 n3 m4 x1 x2 x3 x4) (hy : ilW a1 a2 a3 c n2 n3 m4 y1 y2 y3 y4) (c2 : 0 ≤ x2 * y2) (c3 : 0 ≤ x3 * y3) : ilE x1 x2 x3 x4 y1 y2 y3 y4 := by
  by_cases k : 0 ≤ x1 * y1
  · exact il_0 h hx hy k c2 c3
  · obtain ⟨p, q, hp, hq, e⟩ := crsP (show x1 * y1 < 0 by omega)
    have hz := ilW_add hx hy hp hq
    have a := il_0 h hx hz (z0r e) (cvx hp hq c2).1 (cvx hp hq c3).1
    have b := il_0 h hz hy (z0l e) (cvx hp hq c2).2 (cvx hp hq c3).2
    exact ⟨a.1.trans b.1, a.2.trans b.2⟩
theorem il_2 {a1 a2 a3 c n2 n3 m4 x1 x2 x3 x4 y1 y2 y3 y4 : Int} (h : ilF a1 a2 a3 c n2 n3 m4) (hx : ilW a1 a2 a3 c n2 n3 m4 x1 x2 x3 x4) (hy : ilW a1 a2 a3 c n2 n3 m4 y1 y2 y3 y4) (c3 : 0 ≤ x3 * y3) : ilE x1 x2 x3 x4 y1 y2 y3 y4 := by
  by_cases k : 0 ≤ x2 * y2
  · exact il_1 h hx hy k c3
  · obtain ⟨p, q, hp, hq, e⟩ := crsP (show x2 * y2 < 0 by omega)
    have hz := ilW_add hx hy hp hq
    have a := il_1 h hx hz (z0r e) (cvx hp hq c3).1
    have b := il_1 h hz hy (z0l e) (cvx hp hq c3).2
    exact ⟨a.1.trans b.1, a.2.trans b.2⟩
theorem il_3 {a1 a2 a3 c n2 n3 m4 x1 x2 x3 x4 y1 y2 y3 y4 : Int} (h : ilF a1 a2 a3 c n2 n3 m4) (hx : ilW a1 a2 a3 c n2 n3 m4 x1 x2 x3 x4) (hy : ilW a1 a2 a3 c n2 n3 m4 y1 y2 y3 y4) : ilE x1 x2 x3 x4 y1 y2 y3 y4 := by
  by_cases k : 0 ≤ x3 * y3
  · exact il_2 h hx hy k
  · obtain ⟨p, q, hp, hq, e⟩ := crsP (show x3 * y3 < 0 by omega)
    have hz := ilW_add hx hy hp hq
    have a := il_2 h hx hz (z0r e)
    have b := il_2 h hz hy (z0l e)
    exact ⟨a.1.trans b.1, a.2.trans b.2⟩
theorem near_s {t a n : Int} (ht : 0 < t) (h1 : -t < n) (h2 : n < t) (ha : a ≠ 0) : sgnZ (t * a + 1 * n) = sgnZ a := by
  rw [Int.one_mul]
  by_cases k : 0 < a
  · have : t * 1 ≤ t * a := Int.mul_le_mul_of_nonneg_left (by omega) (Int.le_of_lt ht)
    rw [sgnZ_p k, sgnZ_p (by omega)]
  · have : t * a ≤ t * (-1) := Int.mul_le_mul_of_nonneg_left (by omega) (Int.le_of_lt ht)
    rw [sgnZ_m (show a < 0 by omega), sgnZ_m (by omega)]
theorem near_0 {t a n : Int} (ha : a = 0) : t * a + 1 * n = n := by rw [ha, Int.mul_zero, Int.zero_add, Int.one_mul]
/-- the signs of A within those of the whole table -/
theorem il_4 {a1 a2 a3 c n2 n3 m4 : Int} (h : ilF a1 a2 a3 c n2 n3 m4) (hg : gap4 a1 a2 a3 0) : ilQ (upS (sgnZ a1) (sgnZ a2) (sgnZ a3) 0) (rkS (sgnZ a1) (sgnZ a2) (sgnZ a3) 0) (upS (sgnZ (a1 + c)) (sgnZ (a2 + n2)) (sgnZ (a3 + n3)) (sgnZ m4)) (rkS (sgnZ (a1 + c)) (sgnZ (a2 + n2)) (sgnZ (a3 + n3)) (sgnZ m4)) := by
  obtain ⟨t, ht, d1, d2, d3, d4, d5, d6⟩ : ∃ t : Int, 0 < t ∧ -t < c ∧ c < t ∧ -t < n2 ∧ n2 < t ∧ -t < n3 ∧ n3 < t := ⟨1 + c.natAbs + n2.natAbs + n3.natAbs, by omega, by omega, by omega, by omega, by omega, by omega, by omega⟩
  have W1 : ilW a1 a2 a3 c n2 n3 m4 (a1 + c) (a2 + n2) (a3 + n3) m4 := ⟨1, 1, by decide, by decide, by rw [Int.one_mul, Int.one_mul], by rw [Int.one_mul, Int.one_mul], by rw [Int.one_mul, Int.one_mul], by rw [Int.one_mul]⟩
  have W2 : ilW a1 a2 a3 c n2 n3 m4 (t * a1 + 1 * c) (t * a2 + 1 * n2) (t * a3 + 1 * n3) m4 := ⟨1, t, by decide, ht, rfl, rfl, rfl, by rw [Int.one_mul]⟩
  have e := il_3 h W2 W1
  rw [← e.1, ← e.2]
  have g2 := gap_sgn (ilW_gap h W2)
  have g1 := gap_sgn hg
  rw [show sgnZ 0 = 0 from rfl] at g1
  have N : nearS (sgnZ a1) (sgnZ a2) (sgnZ a3) (sgnZ (t * a1 + 1 * c)) (sgnZ (t * a2 + 1 * n2)) (sgnZ (t * a3 + 1 * n3)) (sgnZ m4) := by
    obtain ⟨⟨P1, P2⟩, ⟨R1, R2, R3⟩, ⟨Q2, Q3⟩, T, hA, hB, hC, hD, hE⟩ := h
    refine ⟨fun q => near_s ht d1 d2 (fun z => q (sgnZ_0 z)), fun q => near_s ht d3 d4 (fun z => q (sgnZ_0 z)), fun q => near_s ht d5 d6 (fun z => q (sgnZ_0 z)), fun q => ?_, fun q q2 => ?_, fun q q2 q1 => ?_⟩
    · have z3 := sgnZ_ne.mp q
      rw [z3, Int.zero_mul] at Q2
      exact sgn_mul (by rw [Int.mul_comm]; omega)
    · have z3 := sgnZ_ne.mp q
      have z2 := sgnZ_ne.mp q2
      have r := hB (by rw [z3, z2, Int.mul_zero, Int.mul_zero]; rfl)
      rw [near_0 z3]
      refine ⟨sgnZ_0 r.2, sgn_mul ?_⟩
      rw [z3, z2, r.2, Int.zero_mul, Int.mul_zero] at R2
      rw [Int.mul_comm]; omega
    · have z3 := sgnZ_ne.mp q
      have z2 := sgnZ_ne.mp q2
      have z1 := sgnZ_ne.mp q1
      have r := hA (by rw [z2, z1]; rfl)
      rw [near_0 z3, near_0 z2]
      refine ⟨sgnZ_0 r.2.1, ?_⟩
      rw [z1, Int.zero_mul] at P2
      have := @sgn_pos n2; omega
  clear e W1 W2 h hg
  obtain ⟨u1, h1⟩ := sgn_fin a1
  obtain ⟨u2, h2⟩ := sgn_fin a2
  obtain ⟨u3, h3⟩ := sgn_fin a3
  obtain ⟨v1, i1⟩ := sgn_fin (t * a1 + 1 * c)
  obtain ⟨v2, i2⟩ := sgn_fin (t * a2 + 1 * n2)
  obtain ⟨v3, i3⟩ := sgn_fin (t * a3 + 1 * n3)
  obtain ⟨v4, i4⟩ := sgn_fin m4
  rw [h1, h2, h3] at g1
  rw [i1, i2, i3, i4] at g2
  rw [h1, h2, h3, i1, i2, i3, i4] at N
  rw [h1, h2, h3, i1, i2, i3, i4]
  exact near_ok (near_all u1 u2 u3 v1 v2 v3 v4) g1 g2 N
theorem up_of {U : Nat → Int} {r : Nat} {s1 s2 s3 s4 : Int} (hs : ∀ k, k ≤ r → sgnZ (eS U r k) = sR s1 s2 s3 s4 k) : upN U r = chgA (sO s1 s2 s3 s4 r) r 1 ∧ rkN U r = r - zerN (sO s1 s2 s3 s4 r) r r := by
  have hO : ∀ k, k < r → sgnZ (cO U r k) = sO s1 s2 s3 s4 r k := by
    intro k hk
    show sgnZ (eT U r (r - k)) = _
    unfold eT sO
    split
    · exact hs _ (Nat.sub_le _ _)
    · rw [sgn_m, hs _ (Nat.sub_le _ _)]
  constructor
  · unfold upN
    rw [← chgA_sgn (cO U r) r 1]
    exact chgA_congr r _ hO
  · unfold rkN
    rw [zerN_sgn (G := sO s1 s2 s3 s4 r) (fun k hk => by rw [← hO k hk]; exact sgnZ_ne.symm) r (Nat.le_refl _)]
theorem up_4 (U : Nat → Int) : upN U 4 = upS (sgnZ (eS U 4 1)) (sgnZ (eS U 4 2)) (sgnZ (eS U 4 3)) (sgnZ (eS U 4 4)) ∧ rkN U 4 = rkS (sgnZ (eS U 4 1)) (sgnZ (eS U 4 2)) (sgnZ (eS U 4 3)) (sgnZ (eS U 4 4)) := by
  refine up_of (fun k hk => ?_)
  rcases (show k = 0 ∨ k = 1 ∨ k = 2 ∨ k = 3 ∨ k = 4 by omega) with rfl | rfl | rfl | rfl | rfl <;> rfl
theorem up_3 (U : Nat → Int) : upN U 3 = upS (sgnZ (eS U 3 1)) (sgnZ (eS U 3 2)) (sgnZ (eS U 3 3)) 0 ∧ rkN U 3 = rkS (sgnZ (eS U 3 1)) (sgnZ (eS U 3 2)) (sgnZ (eS U 3 3)) 0 := by
  have k := up_of (U := U) (r := 3) (s1 := sgnZ (eS U 3 1)) (s2 := sgnZ (eS U 3 2)) (s3 := sgnZ (eS U 3 3)) (s4 := 0) (fun k hk => by
    rcases (show k = 0 ∨ k = 1 ∨ k = 2 ∨ k = 3 by omega) with rfl | rfl | rfl | rfl <;> rfl)
  rw [k.1, k.2]
  obtain ⟨a, ea⟩ := sgn_fin (eS U 3 1)
  obtain ⟨b, eb⟩ := sgn_fin (eS U 3 2)
  obtain ⟨c, ec⟩ := sgn_fin (eS U 3 3)
  rw [ea, eb, ec]
  exact up_34 a b c
theorem up_2 (U : Nat → Int) : upN U 2 = upS (sgnZ (eS U 2 1)) (sgnZ (eS U 2 2)) 0 0 ∧ rkN U 2 = rkS (sgnZ (eS U 2 1)) (sgnZ (eS U 2 2)) 0 0 := by
  have k := up_of (U := U) (r := 2) (s1 := sgnZ (eS U 2 1)) (s2 := sgnZ (eS U 2 2)) (s3 := 0) (s4 := 0) (fun k hk => by
    rcases (show k = 0 ∨ k = 1 ∨ k = 2 by omega) with rfl | rfl | rfl <;> rfl)
  rw [k.1, k.2]
  obtain ⟨a, ea⟩ := sgn_fin (eS U 2 1)
  obtain ⟨b, eb⟩ := sgn_fin (eS U 2 2)
  rw [ea, eb]
  exact up_24 a b
theorem il_U (U : Nat → Int) (h : symT U 4) : ilQ (upS (sgnZ (eS (prt U 1) 3 1)) (sgnZ (eS (prt U 1) 3 2)) (sgnZ (eS (prt U 1) 3 3)) 0) (rkS (sgnZ (eS (prt U 1) 3 1)) (sgnZ (eS (prt U 1) 3 2)) (sgnZ (eS (prt U 1) 3 3)) 0) (upS (sgnZ (eS U 4 1)) (sgnZ (eS U 4 2)) (sgnZ (eS U 4 3)) (sgnZ (eS U 4 4))) (rkS (sgnZ (eS U 4 1)) (sgnZ (eS U 4 2)) (sgnZ (eS U 4 3)) (sgnZ (eS U 4 4))) := by
  have s3 : symT (prt U 1) 3 := prt_sym (f := 1) (r := 3) h (by decide)
  have k := il_4 (il_F U h) (gap_3 _ s3)
  have c := il_c U h
  rw [show eS (prt U 1) 3 1 + U 0 = eS U 4 1 by omega, show eS (prt U 1) 3 2 + (eS U 4 2 - eS (prt U 1) 3 2) = eS U 4 2 by omega, show eS (prt U 1) 3 3 + (eS U 4 3 - eS (prt U 1) 3 3) = eS U 4 3 by omega] at k
  exact k
theorem il_ok : ILs := by
  intro S d hd2 hd3 h
  have a1 := upN_le (prt S 1) d
  have a2 := rkN_le (prt S 1) d
  have a3 := upN_le (prt S 0) (d + 1)
  have a4 := rkN_le (prt S 0) (d + 1)
  have goal : ilQ (upN (prt S 1) d) (rkN (prt S 1) d) (upN (prt S 0) (d + 1)) (rkN (prt S 0) (d + 1)) := by
    rcases (show d = 2 ∨ d = 3 by omega) with rfl | rfl
    · have k := il_U (padT (prt S 0) 3) (pad_sym (by decide) h)
      obtain ⟨e1, e2, e3, e4⟩ := pad_3 (prt S 0)
      have p0 : prt (padT (prt S 0) 3) 1 0 = prt S 1 0 := rfl
      have p1 : prt (padT (prt S 0) 3) 1 1 = prt S 1 1 := rfl
      have p2 : prt (padT (prt S 0) 3) 1 2 = 0 := rfl
      have p4 : prt (padT (prt S 0) 3) 1 4 = prt S 1 4 := rfl
      have p5 : prt (padT (prt S 0) 3) 1 5 = prt S 1 5 := rfl
      have p6 : prt (padT (prt S 0) 3) 1 6 = 0 := rfl
      have p8 : prt (padT (prt S 0) 3) 1 8 = 0 := rfl
      have p9 : prt (padT (prt S 0) 3) 1 9 = 0 := rfl
      have p10 : prt (padT (prt S 0) 3) 1 10 = 0 := rfl
      have f1 : eS (prt (padT (prt S 0) 3) 1) 3 1 = eS (prt S 1) 2 1 := by
        simp only [eS, p0, p5, p10]; omega
      have f2 : eS (prt (padT (prt S 0) 3) 1) 3 2 = eS (prt S 1) 2 2 := by
        simp only [eS, m2, Nat.reduceMul, Nat.reduceAdd, p0, p1, p2, p4, p5, p6, p8, p9, p10]; grind
      have f3 : eS (prt (padT (prt S 0) 3) 1) 3 3 = 0 := by
        simp only [eS, m3, m2, Nat.reduceMul, Nat.reduceAdd, p0, p1, p2, p4, p5, p6, p8, p9, p10]; grind
      rw [e1, e2, e3, e4, f1, f2, f3, show sgnZ 0 = 0 from rfl] at k
      rw [(up_2 (prt S 1)).1, (up_2 (prt S 1)).2, (up_3 (prt S 0)).1, (up_3 (prt S 0)).2]
      exact k
    · have k := il_U (prt S 0) h
      have hc : ∀ a b, a < 3 → b < 3 → prt (prt S 0) 1 (4 * a + b) = prt S 1 (4 * a + b) := by
        intro a b ha hb
        unfold prt
        rw [q4d a (show b < 4 by omega), q4m a (show b < 4 by omega), q4d (1 + a) (show 1 + b < 4 by omega), q4m (1 + a) (show 1 + b < 4 by omega), Nat.zero_add, Nat.zero_add]
      rw [eS_congr (by decide) (by decide) hc 1 (by decide), eS_congr (by decide) (by decide) hc 2 (by decide), eS_congr (by decide) (by decide) hc 3 (by decide)] at k
      rw [(up_3 (prt S 1)).1, (up_3 (prt S 1)).2, (up_4 (prt S 0)).1, (up_4 (prt S 0)).2]
      exact k
  obtain ⟨g1, g2, g3, g4⟩ := goal
  refine ⟨g1, g2, g3, g4, ?_, ?_⟩
  · show upN (prt S 1) d + (rkN (prt S 1) d - upN (prt S 1) d) ≤ d
    omega
  · show upN (prt S 0) (d + 1) + (rkN (prt S 0) (d + 1) - upN (prt S 0) (d + 1)) ≤ d + 1
    omega
