/-! determinants by elimination without fractions (Bareiss), up to 4 rows: the pure side -/
def dt (n : Nat) (C : Nat → Int) : Int := match n with
  | 0 => 1
  | 1 => C (4 * 0 + 0)
  | 2 => m2 C 0 1 0 1
  | 3 => m3 C 0 1 2 0 1 2
  | 4 => m4 C
  | _ => 0
/-- the minor of rows 0 .. k - 1, i and columns 0 .. k - 1, j -/
def mnr (C : Nat → Int) (k i j : Nat) : Int := match k with
  | 0 => C (4 * i + j)
  | 1 => m2 C 0 i 0 j
  | 2 => m3 C 0 1 i 0 1 j
  | _ => C (4 * 0 + 0) * m3 C 1 2 i 1 2 j - C (4 * 0 + 1) * m3 C 1 2 i 0 2 j + C (4 * 0 + 2) * m3 C 1 2 i 0 1 j - C (4 * 0 + j) * m3 C 1 2 i 0 1 2
theorem mnr_kk (C : Nat → Int) {k : Nat} (h : k < 4) : mnr C k k k = dt (k + 1) C := by
  match k, h with
  | 0, _ => rfl
  | 1, _ => rfl
  | 2, _ => rfl
  | 3, _ => rfl
theorem syl (C : Nat → Int) {k : Nat} (h : k < 3) (i j : Nat) : mnr C k i j * mnr C k k k - mnr C k i k * mnr C k k j = dt k C * mnr C (k + 1) i j := by
  match k, h with
  | 0, _ => simp only [mnr, dt, m2]; grind
  | 1, _ => simp only [mnr, dt, m2, m3]; grind
  | 2, _ => simp only [mnr, dt, m2, m3]; grind
theorem dtz {C : Nat → Int} {n k : Nat} (hn : n ≤ 4) (hk : k < n) (h0 : dt k C ≠ 0) (h : ∀ i, k ≤ i → i < n → mnr C k i k = 0) : dt n C = 0 := by
  have hl : n = k + 1 → dt n C = 0 := fun e => by subst e; rw [← mnr_kk C (by omega)]; exact h k (Nat.le_refl _) (by omega)
  match n, k, hn, hk with
  | 1, 0, _, _ => exact hl rfl
  | 2, 1, _, _ => exact hl rfl
  | 3, 2, _, _ => exact hl rfl
  | 4, 3, _, _ => exact hl rfl
  | 2, 0, _, _ =>
    have a := h 0 (by decide) (by decide)
    have b := h 1 (by decide) (by decide)
    simp only [mnr] at a b
    simp only [dt, m2]
    rw [a, b, Int.zero_mul, Int.mul_zero, Int.sub_self]
  | 3, 0, _, _ =>
    have a := h 0 (by decide) (by decide)
    have b := h 1 (by decide) (by decide)
    have c := h 2 (by decide) (by decide)
    simp only [mnr] at a b c
    simp only [dt, m2, m3]
    rw [a, b, c]
    grind
  | 4, 0, _, _ =>
    have a : C 0 = 0 := h 0 (by decide) (by decide)
    have b : C 4 = 0 := h 1 (by decide) (by decide)
    have c : C 8 = 0 := h 2 (by decide) (by decide)
    have d : C 12 = 0 := h 3 (by decide) (by decide)
    simp only [dt, m2, m3, m4, Nat.reduceMul, Nat.reduceAdd]
    rw [a, b, c, d]
    grind
  | 3, 1, _, _ =>
    have a := h 1 (by decide) (by decide)
    have b := h 2 (by decide) (by decide)
    have e := syl C (k := 1) (by decide) 2 2
    rw [a, b, Int.mul_zero, Int.zero_mul, Int.sub_self] at e
    rcases Int.mul_eq_zero.mp e.symm with q | q
    · exact absurd q h0
    · exact q
  | 4, 2, _, _ =>
    have a := h 2 (by decide) (by decide)
    have b := h 3 (by decide) (by decide)
    have e := syl C (k := 2) (by decide) 3 3
    rw [a, b, Int.mul_zero, Int.zero_mul, Int.sub_self] at e
    rcases Int.mul_eq_zero.mp e.symm with q | q
    · exact absurd q h0
    · exact q
  | 4, 1, _, _ =>
    have a := h 1 (by decide) (by decide)
    have b := h 2 (by decide) (by decide)
    have c := h 3 (by decide) (by decide)
    have key : dt 1 C * (dt 1 C * dt 4 C) = mnr C 1 1 1 * (mnr C 1 2 2 * mnr C 1 3 3 - mnr C 1 2 3 * mnr C 1 3 2) - mnr C 1 1 2 * (mnr C 1 2 1 * mnr C 1 3 3 - mnr C 1 2 3 * mnr C 1 3 1) + mnr C 1 1 3 * (mnr C 1 2 1 * mnr C 1 3 2 - mnr C 1 2 2 * mnr C 1 3 1) := by
      simp only [mnr, dt, m2, m3, m4, Nat.reduceMul, Nat.reduceAdd]
      grind
    rw [a, b, c] at key
    have key2 : dt 1 C * (dt 1 C * dt 4 C) = 0 := by rw [key]; grind
    rcases Int.mul_eq_zero.mp key2 with q | q
    · exact absurd q h0
    · rcases Int.mul_eq_zero.mp q with q | q
      · exact absurd q h0
      · exact q
/-- two rows of a table changed -/
def swM (C : Nat → Int) (p k : Nat) : Nat → Int := fun q => C (4 * swp p k (q / 4) + q % 4)
theorem swM_at (C : Nat → Int) (p k a : Nat) {b : Nat} (hb : b < 4) : swM C p k (4 * a + b) = C (4 * swp p k a + b) := by
  unfold swM
  rw [q4d a hb, q4m a hb]
theorem swp_lt {p k r : Nat} (h1 : r < k) (h2 : k < p) : swp p k r = r := by
  unfold swp
  rw [if_neg (by omega), if_neg (by omega)]
theorem dt_sw {C : Nat → Int} {n p k : Nat} (hn : n ≤ 4) (hk : k < p) (hp : p < n) : dt n (swM C p k) = -(dt n C) := by
  match n, p, k, hn, hk, hp with
  | 2, 1, 0, _, _, _ => simp only [dt, m2, swM, swp, Nat.reduceMul, Nat.reduceAdd, Nat.reduceDiv, Nat.reduceMod, Nat.reduceEqDiff, if_true, if_false]; grind
  | 3, 1, 0, _, _, _ => simp [dt, m2, m3, swM, swp]; grind
  | 3, 2, 0, _, _, _ => simp [dt, m2, m3, swM, swp]; grind
  | 3, 2, 1, _, _, _ => simp [dt, m2, m3, swM, swp]; grind
  | 4, 1, 0, _, _, _ => simp [dt, m2, m3, m4, swM, swp]; grind
  | 4, 2, 0, _, _, _ => simp [dt, m2, m3, m4, swM, swp]; grind
  | 4, 3, 0, _, _, _ => simp [dt, m2, m3, m4, swM, swp]; grind
  | 4, 2, 1, _, _, _ => simp [dt, m2, m3, m4, swM, swp]; grind
  | 4, 3, 1, _, _, _ => simp [dt, m2, m3, m4, swM, swp]; grind
  | 4, 3, 2, _, _, _ => simp [dt, m2, m3, m4, swM, swp]; grind
  | 0, _, _, _, _, hp => exact absurd hp (by omega)
  | 1, p, k, _, hk, hp => exact absurd hp (by omega)
  | n + 5, _, _, hn, _, _ => exact absurd hn (by omega)
theorem dt_lo {C : Nat → Int} {p k : Nat} (hk : k < p) (hp : p < 4) : dt k (swM C p k) = dt k C := by
  match k, hk with
  | 0, _ => rfl
  | 1, hk =>
    show swM C p 1 (4 * 0 + 0) = C (4 * 0 + 0)
    rw [swM_at C p 1 0 (by decide), swp_lt (by decide) hk]
  | 2, hk =>
    show m2 (swM C p 2) 0 1 0 1 = m2 C 0 1 0 1
    unfold m2
    rw [swM_at C p 2 0 (by decide), swM_at C p 2 0 (by decide), swM_at C p 2 1 (by decide), swM_at C p 2 1 (by decide), swp_lt (show 0 < 2 by decide) hk, swp_lt (show 1 < 2 by decide) hk]
  | n + 3, hk => exact absurd hk (by omega)
theorem mnr_sw {C : Nat → Int} {p k i j : Nat} (hk : k < p) (hp : p < 4) (hj : j < 4) : mnr (swM C p k) k i j = mnr C k (swp p k i) j := by
  match k, hk with
  | 0, _ => exact swM_at C p 0 i hj
  | 1, hk =>
    show m2 (swM C p 1) 0 i 0 j = m2 C 0 (swp p 1 i) 0 j
    unfold m2
    rw [swM_at C p 1 0 (by decide), swM_at C p 1 i hj, swM_at C p 1 0 hj, swM_at C p 1 i (by decide), swp_lt (show 0 < 1 by decide) hk]
  | 2, hk =>
    show m3 (swM C p 2) 0 1 i 0 1 j = m3 C 0 1 (swp p 2 i) 0 1 j
    unfold m3 m2
    rw [swM_at C p 2 0 (show 0 < 4 by decide), swM_at C p 2 0 (show 1 < 4 by decide), swM_at C p 2 0 hj, swM_at C p 2 1 (show 0 < 4 by decide), swM_at C p 2 1 (show 1 < 4 by decide), swM_at C p 2 1 hj, swM_at C p 2 i (show 0 < 4 by decide), swM_at C p 2 i (show 1 < 4 by decide), swM_at C p 2 i hj, swp_lt (show 0 < 2 by decide) hk, swp_lt (show 1 < 2 by decide) hk]
  | n + 3, hk => exact absurd hk (by omega)
theorem swp_b {p k i n : Nat} (hk : k < p) (hp : p < n) (hi : i < n) : swp p k i < n := by
  unfold swp; split
  · omega
  · split <;> omega
theorem swp_ge {p k i : Nat} (hk : k < p) (hi : k ≤ i) : k ≤ swp p k i := by
  unfold swp; split
  · omega
  · split <;> omega
theorem sw_enB {C : Nat → Int} {n p k : Nat} {B : Int} (hn : n ≤ 4) (hk : k < p) (hp : p < n) (h : enB C n B) : enB (swM C p k) n B := by
  intro a b ha hb
  rw [swM_at C p k a (by omega)]
  exact h _ b (swp_b hk hp ha) hb
def mat5 (W : Nat → Int) : Nat → Int := fun q => W (5 * (q / 4) + q % 4)
theorem mat5_at (W : Nat → Int) (a : Nat) {b : Nat} (hb : b < 4) : mat5 W (4 * a + b) = W (5 * a + b) := by
  unfold mat5
  rw [q4d a hb, q4m a hb]
/-- bounds of the minors met on the way -/
theorem mnr_B {C : Nat → Int} {n k i j : Nat} (hn : n ≤ 4) (h : enB C n (tabB n)) (hk : k < n) (hi : i < n) (hj : j < n) (hi2 : k ≤ i) (hj2 : k ≤ j) : inB (mnr C k i j) 10000000000000 := by
  have hB : ∀ {m : Nat}, m ≤ 3 → tabB m = 8000 := fun hm => by unfold tabB; exact if_neg (by omega)
  match n, k, hn, hk, h, hi, hj, hi2, hj2 with
  | n, 0, hn, _, h, hi, hj, _, _ => exact leB (h i j hi hj) (by unfold tabB; split <;> decide)
  | 2, 1, _, _, h, hi, hj, _, _ => exact leB (m2_B h (by decide) hi (by decide) hj) (by decide)
  | 3, 1, _, _, h, hi, hj, _, _ => exact leB (m2_B h (by decide) hi (by decide) hj) (by decide)
  | 4, 1, _, _, h, hi, hj, _, _ => exact leB (m2_B h (by decide) hi (by decide) hj) (by decide)
  | 3, 2, _, _, h, hi, hj, _, _ => exact leB (m3_B h (by decide) (by decide) hi (by decide) (by decide) hj) (by decide)
  | 4, 2, _, _, h, hi, hj, _, _ => exact leB (m3_B h (by decide) (by decide) hi (by decide) (by decide) hj) (by decide)
  | 4, 3, _, _, h, hi, hj, hi2, hj2 =>
    have e1 : i = 3 := by omega
    have e2 : j = 3 := by omega
    subst e1; subst e2
    exact leB (show inB (m4 C) _ from m4_B h) (by decide)
  | n, k + 4, hn, hk, _, _, _, _, _ => exact absurd hk (by omega)
theorem mnr_B2 {C : Nat → Int} {n k i j : Nat} (hn : n ≤ 4) (h : enB C n (tabB n)) (hk : k + 1 < n) (hi : i < n) (hj : j < n) : inB (mnr C k i j) 130000000 := by
  match n, k, hn, hk, h, hi, hj with
  | n, 0, hn, _, h, hi, hj => exact leB (h i j hi hj) (by unfold tabB; split <;> decide)
  | 3, 1, _, _, h, hi, hj => exact leB (m2_B h (by decide) hi (by decide) hj) (by decide)
  | 4, 1, _, _, h, hi, hj => exact leB (m2_B h (by decide) hi (by decide) hj) (by decide)
  | 4, 2, _, _, h, hi, hj => exact leB (m3_B h (by decide) (by decide) hi (by decide) (by decide) hj) (by decide)
  | n, k + 3, hn, hk, _, _, _ => exact absurd hk (by omega)
theorem dt_B {C : Nat → Int} {n k : Nat} (hn : n ≤ 4) (h : enB C n (tabB n)) (hk : k < n) : inB (dt k C) 10000000000000 := by
  match k, hk with
  | 0, _ => show inB 1 _; exact ⟨by decide, by decide⟩
  | k + 1, hk =>
    rw [← mnr_kk C (by omega)]
    exact mnr_B hn h (by omega) (by omega) (by omega) (Nat.le_refl _) (Nat.le_refl _)
