/-! the signs: both ways of counting, and the gaps -/
theorem sgn_pos {x : Int} : 0 < sgnZ x ↔ 0 < x := by
  unfold sgnZ; split
  · simp_all
  · split <;> omega
theorem sgn_neg {x : Int} : sgnZ x < 0 ↔ x < 0 := by
  unfold sgnZ; split
  · omega
  · split <;> omega
theorem sgn_m (x : Int) : sgnZ (-x) = -(sgnZ x) := by
  unfold sgnZ
  repeat' split
  all_goals omega
theorem sgn_3 (x : Int) : sgnZ x = -1 ∨ sgnZ x = 0 ∨ sgnZ x = 1 := by
  unfold sgnZ; split
  · exact Or.inr (Or.inr rfl)
  · split
    · exact Or.inl rfl
    · exact Or.inr (Or.inl rfl)
theorem x01_sgn (s t : Int) : x01 (sgnZ s) (sgnZ t) = x01 s t := by
  by_cases h : 0 < s ↔ 0 < t
  · rw [x01_s h, x01_s (show 0 < sgnZ s ↔ 0 < sgnZ t by rw [sgn_pos, sgn_pos]; exact h)]
  · rw [x01_d h, x01_d (show ¬ (0 < sgnZ s ↔ 0 < sgnZ t) by rw [sgn_pos, sgn_pos]; exact h)]
theorem tn_sgn (k : Nat) (e : Int) : tnE k (sgnZ e) = sgnZ (tnE k e) := by
  unfold tnE; split
  · exact (sgn_m e).symm
  · rfl
theorem fsx_sgn (E : Nat → Int) : ∀ n, fsx (fun k => sgnZ (E k)) n = ((fsx E n).1, (fsx E n).2.1, sgnZ (fsx E n).2.2.1, sgnZ (fsx E n).2.2.2)
  | 0 => rfl
  | n + 1 => by
    by_cases h : E (n + 1) = 0
    · rw [fsx_z h, fsx_z (E := fun k => sgnZ (E k)) (show sgnZ (E (n + 1)) = 0 from sgnZ_0 h)]
      exact fsx_sgn E n
    · rw [fsx_n (E := fun k => sgnZ (E k)) (fsx_sgn E n) (show ¬ sgnZ (E (n + 1)) = 0 from fun q => h (sgnZ_ne.mp q)), fsx_n (E := E) (a := (fsx E n).1) (b := (fsx E n).2.1) (u := (fsx E n).2.2.1) (d := (fsx E n).2.2.2) rfl h, tn_sgn, x01_sgn, x01_sgn]
theorem chgA_sgn (O : Nat → Int) : ∀ n x, chgA (fun k => sgnZ (O k)) n (sgnZ x) = chgA O n x
  | 0, _ => rfl
  | n + 1, x => by
    have i := chgA_sgn O n
    by_cases h : O n = 0
    · rw [chgA_z h, chgA_z (O := fun k => sgnZ (O k)) (show sgnZ (O n) = 0 from sgnZ_0 h)]; exact i x
    · have h2 : ¬ sgnZ (O n) = 0 := fun q => h (sgnZ_ne.mp q)
      by_cases e : O n < 0 ↔ x < 0
      · rw [chgA_s h e, chgA_s (O := fun k => sgnZ (O k)) h2 (show sgnZ (O n) < 0 ↔ sgnZ x < 0 by rw [sgn_neg, sgn_neg]; exact e)]; exact i (O n)
      · rw [chgA_d h e, chgA_d (O := fun k => sgnZ (O k)) h2 (show ¬ (sgnZ (O n) < 0 ↔ sgnZ x < 0) by rw [sgn_neg, sgn_neg]; exact e)]; rw [i (O n)]
def symT (U : Nat → Int) (r : Nat) : Prop := ∀ a b, a < r → b < r → U (4 * a + b) = U (4 * b + a)
abbrev gap4 (s1 s2 s3 s4 : Int) : Prop := (s1 = 0 → s2 ≤ 0) ∧ (s1 = 0 → s2 = 0 → s3 = 0 ∧ s4 = 0) ∧ (s2 = 0 → s1 * s3 ≤ 0) ∧ (s2 = 0 → s3 = 0 → s4 = 0) ∧ (s3 = 0 → s2 * s4 ≤ 0)
theorem sq4_1 (U : Nat → Int) (h : symT U 4) : eS U 4 1 * eS U 4 1 - 2 * eS U 4 2 = U 0 * U 0 + U 5 * U 5 + U 10 * U 10 + U 15 * U 15 + 2 * (U 1 * U 1 + U 2 * U 2 + U 3 * U 3 + U 6 * U 6 + U 7 * U 7 + U 11 * U 11) := by
  have h1 : U 4 = U 1 := h 1 0 (by decide) (by decide)
  have h2 : U 8 = U 2 := h 2 0 (by decide) (by decide)
  have h3 : U 12 = U 3 := h 3 0 (by decide) (by decide)
  have h4 : U 9 = U 6 := h 2 1 (by decide) (by decide)
  have h5 : U 13 = U 7 := h 3 1 (by decide) (by decide)
  have h6 : U 14 = U 11 := h 3 2 (by decide) (by decide)
  simp only [eS, m2, Nat.reduceMul, Nat.reduceAdd]
  rw [h1, h2, h3, h4, h5, h6]
  grind
theorem sq4_3 (U : Nat → Int) (h : symT U 4) : eS U 4 3 * eS U 4 3 - 2 * eS U 4 2 * eS U 4 4 = adjM U 4 0 0 * adjM U 4 0 0 + adjM U 4 1 1 * adjM U 4 1 1 + adjM U 4 2 2 * adjM U 4 2 2 + adjM U 4 3 3 * adjM U 4 3 3 + 2 * (adjM U 4 0 1 * adjM U 4 0 1 + adjM U 4 0 2 * adjM U 4 0 2 + adjM U 4 0 3 * adjM U 4 0 3 + adjM U 4 1 2 * adjM U 4 1 2 + adjM U 4 1 3 * adjM U 4 1 3 + adjM U 4 2 3 * adjM U 4 2 3) := by
  have h1 : U 4 = U 1 := h 1 0 (by decide) (by decide)
  have h2 : U 8 = U 2 := h 2 0 (by decide) (by decide)
  have h3 : U 12 = U 3 := h 3 0 (by decide) (by decide)
  have h4 : U 9 = U 6 := h 2 1 (by decide) (by decide)
  have h5 : U 13 = U 7 := h 3 1 (by decide) (by decide)
  have h6 : U 14 = U 11 := h 3 2 (by decide) (by decide)
  simp only [eS, adjM, m4, m3, m2, Nat.reduceMul, Nat.reduceAdd]
  rw [h1, h2, h3, h4, h5, h6]
  grind
theorem sq4_2 (U : Nat → Int) (h : symT U 4) : eS U 4 2 * eS U 4 2 - 2 * eS U 4 1 * eS U 4 3 + 2 * eS U 4 4 = m2 U 0 1 0 1 * m2 U 0 1 0 1 + m2 U 0 2 0 2 * m2 U 0 2 0 2 + m2 U 0 3 0 3 * m2 U 0 3 0 3 + m2 U 1 2 1 2 * m2 U 1 2 1 2 + m2 U 1 3 1 3 * m2 U 1 3 1 3 + m2 U 2 3 2 3 * m2 U 2 3 2 3 + 2 * (m2 U 0 1 0 2 * m2 U 0 1 0 2 + m2 U 0 1 0 3 * m2 U 0 1 0 3 + m2 U 0 1 1 2 * m2 U 0 1 1 2 + m2 U 0 1 1 3 * m2 U 0 1 1 3 + m2 U 0 1 2 3 * m2 U 0 1 2 3 + m2 U 0 2 0 3 * m2 U 0 2 0 3 + m2 U 0 2 1 2 * m2 U 0 2 1 2 + m2 U 0 2 1 3 * m2 U 0 2 1 3 + m2 U 0 2 2 3 * m2 U 0 2 2 3 + m2 U 0 3 1 2 * m2 U 0 3 1 2 + m2 U 0 3 1 3 * m2 U 0 3 1 3 + m2 U 0 3 2 3 * m2 U 0 3 2 3 + m2 U 1 2 1 3 * m2 U 1 2 1 3 + m2 U 1 2 2 3 * m2 U 1 2 2 3 + m2 U 1 3 2 3 * m2 U 1 3 2 3) := by
  have h1 : U 4 = U 1 := h 1 0 (by decide) (by decide)
  have h2 : U 8 = U 2 := h 2 0 (by decide) (by decide)
  have h3 : U 12 = U 3 := h 3 0 (by decide) (by decide)
  have h4 : U 9 = U 6 := h 2 1 (by decide) (by decide)
  have h5 : U 13 = U 7 := h 3 1 (by decide) (by decide)
  have h6 : U 14 = U 11 := h 3 2 (by decide) (by decide)
  simp only [eS, m4, m3, m2, Nat.reduceMul, Nat.reduceAdd]
  rw [h1, h2, h3, h4, h5, h6]
  grind
def sB (U : Nat → Int) (i j : Nat) : Int := U (4 * i) * U j + U (4 * i + 1) * U (4 + j) + U (4 * i + 2) * U (8 + j) + U (4 * i + 3) * U (12 + j) - (U 0 + U 5 + U 10 + U 15) * U (4 * i + j)
theorem sq4_t (U : Nat → Int) (h : symT U 4) : 2 * (eS U 4 2 * eS U 4 2) - 2 * eS U 4 1 * eS U 4 3 - 4 * eS U 4 4 = sB U 0 0 * sB U 0 0 + sB U 1 1 * sB U 1 1 + sB U 2 2 * sB U 2 2 + sB U 3 3 * sB U 3 3 + 2 * (sB U 0 1 * sB U 0 1 + sB U 0 2 * sB U 0 2 + sB U 0 3 * sB U 0 3 + sB U 1 2 * sB U 1 2 + sB U 1 3 * sB U 1 3 + sB U 2 3 * sB U 2 3) := by
  have h1 : U 4 = U 1 := h 1 0 (by decide) (by decide)
  have h2 : U 8 = U 2 := h 2 0 (by decide) (by decide)
  have h3 : U 12 = U 3 := h 3 0 (by decide) (by decide)
  have h4 : U 9 = U 6 := h 2 1 (by decide) (by decide)
  have h5 : U 13 = U 7 := h 3 1 (by decide) (by decide)
  have h6 : U 14 = U 11 := h 3 2 (by decide) (by decide)
  simp only [eS, m4, m3, m2, sB, Nat.reduceMul, Nat.reduceAdd]
  rw [h1, h2, h3, h4, h5, h6]
  grind
theorem sq0 (x : Int) : 0 ≤ x * x := by
  rcases Int.le_total 0 x with q | q
  · exact Int.mul_nonneg q q
  · exact Int.mul_nonneg_of_nonpos_of_nonpos q q
theorem sq_z {x : Int} (h : x * x = 0) : x = 0 := by
  rcases Int.mul_eq_zero.mp h with q | q <;> exact q
theorem gap_4 (U : Nat → Int) (h : symT U 4) : gap4 (eS U 4 1) (eS U 4 2) (eS U 4 3) (eS U 4 4) := by
  have a1 := sq4_1 U h
  have a2 := sq4_2 U h
  have a3 := sq4_3 U h
  have a4 := sq4_t U h
  have b1 : 0 ≤ eS U 4 1 * eS U 4 1 - 2 * eS U 4 2 := by
    rw [a1]
    have := sq0 (U 0); have := sq0 (U 5); have := sq0 (U 10); have := sq0 (U 15); have := sq0 (U 1); have := sq0 (U 2); have := sq0 (U 3); have := sq0 (U 6); have := sq0 (U 7); have := sq0 (U 11)
    omega
  have b2 : 0 ≤ eS U 4 2 * eS U 4 2 - 2 * eS U 4 1 * eS U 4 3 + 2 * eS U 4 4 := by
    rw [a2]
    repeat' first | apply Int.add_nonneg | exact sq0 _ | (apply Int.mul_nonneg; decide)
  have b3 : 0 ≤ eS U 4 3 * eS U 4 3 - 2 * eS U 4 2 * eS U 4 4 := by
    rw [a3]
    repeat' first | apply Int.add_nonneg | exact sq0 _ | (apply Int.mul_nonneg; decide)
  have b4 : 0 ≤ 2 * (eS U 4 2 * eS U 4 2) - 2 * eS U 4 1 * eS U 4 3 - 4 * eS U 4 4 := by
    rw [a4]
    repeat' first | apply Int.add_nonneg | exact sq0 _ | (apply Int.mul_nonneg; decide)
  have g3 : eS U 4 2 = 0 → eS U 4 1 * eS U 4 3 ≤ 0 ∧ (eS U 4 3 = 0 → eS U 4 4 = 0) := by
    intro q
    rw [q, Int.mul_assoc] at b2 b4
    constructor
    · omega
    · intro q3; rw [q3, Int.mul_zero] at b2 b4; omega
  refine ⟨fun q => ?_, fun q q2 => ?_, fun q => (g3 q).1, fun q => (g3 q).2, fun q => ?_⟩
  · rw [q] at b1; omega
  · rw [q, q2] at a1
    have c0 := sq0 (U 0); have c5 := sq0 (U 5); have c10 := sq0 (U 10); have c15 := sq0 (U 15); have c1 := sq0 (U 1); have c2 := sq0 (U 2); have c3 := sq0 (U 3); have c6 := sq0 (U 6); have c7 := sq0 (U 7); have c11 := sq0 (U 11)
    have z0 : U 0 = 0 := sq_z (by omega)
    have z5 : U 5 = 0 := sq_z (by omega)
    have z10 : U 10 = 0 := sq_z (by omega)
    have z15 : U 15 = 0 := sq_z (by omega)
    have z1 : U 1 = 0 := sq_z (by omega)
    have z2 : U 2 = 0 := sq_z (by omega)
    have z3 : U 3 = 0 := sq_z (by omega)
    have z6 : U 6 = 0 := sq_z (by omega)
    have z7 : U 7 = 0 := sq_z (by omega)
    have z11 : U 11 = 0 := sq_z (by omega)
    have h1 : U 4 = U 1 := h 1 0 (by decide) (by decide)
    have h2 : U 8 = U 2 := h 2 0 (by decide) (by decide)
    have h3 : U 12 = U 3 := h 3 0 (by decide) (by decide)
    have h4 : U 9 = U 6 := h 2 1 (by decide) (by decide)
    have h5 : U 13 = U 7 := h 3 1 (by decide) (by decide)
    have h6 : U 14 = U 11 := h 3 2 (by decide) (by decide)
    constructor
    · simp only [eS, m3, m2, Nat.reduceMul, Nat.reduceAdd]; rw [h1, h2, h3, h4, h5, h6, z0, z5, z10, z15, z1, z2, z3, z6, z7, z11]; rfl
    · simp only [eS, m4, m3, m2, Nat.reduceMul, Nat.reduceAdd]; rw [h1, h2, h3, h4, h5, h6, z0, z5, z10, z15, z1, z2, z3, z6, z7, z11]; rfl
  · rw [q, Int.mul_assoc] at b3; omega
