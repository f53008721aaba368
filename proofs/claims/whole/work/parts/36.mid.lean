/-! middles: the ranks -/
theorem rk_val2 (U : Nat → Int) : rkN U 2 = if eS U 2 2 = 0 then (if eS U 2 1 = 0 then 0 else 1) else 2 := by
  have c0 : cO U 2 0 = eS U 2 2 := rfl
  have c1 : cO U 2 1 = -(eS U 2 1) := rfl
  unfold rkN
  by_cases q : eS U 2 2 = 0
  · by_cases w : eS U 2 1 = 0
    · simp [zerN, c0, c1, q, w]
    · simp [zerN, c0, c1, q, w]
  · simp [zerN, c0, c1, q]
theorem rk_val3 (U : Nat → Int) : rkN U 3 = if eS U 3 3 = 0 then (if eS U 3 2 = 0 then (if eS U 3 1 = 0 then 0 else 1) else 2) else 3 := by
  have c0 : cO U 3 0 = -(eS U 3 3) := rfl
  have c1 : cO U 3 1 = eS U 3 2 := rfl
  have c2 : cO U 3 2 = -(eS U 3 1) := rfl
  unfold rkN
  by_cases q : eS U 3 3 = 0
  · by_cases w : eS U 3 2 = 0
    · by_cases v : eS U 3 1 = 0
      · simp [zerN, c0, c1, c2, q, w, v]
      · simp [zerN, c0, c1, c2, q, w, v]
    · simp [zerN, c0, c1, c2, q, w]
  · simp [zerN, c0, c1, c2, q]
theorem z2_2 {M : Nat → Nat → Int} : z2 2 2 M ↔ M 0 0 * M 1 1 - M 0 1 * M 1 0 = 0 := by
  constructor
  · intro h; exact h 0 1 0 1 (by decide) (by decide) (by decide) (by decide)
  · intro h i k a b hi hk ha hb
    rcases (show i = 0 ∨ i = 1 by omega) with rfl | rfl <;> rcases (show k = 0 ∨ k = 1 by omega) with rfl | rfl <;> rcases (show a = 0 ∨ a = 1 by omega) with rfl | rfl <;> rcases (show b = 0 ∨ b = 1 by omega) with rfl | rfl <;> grind
theorem rank_2 {M : Nat → Nat → Int} {x y z : Int} {n : Nat} (hx : M 0 0 = x) (hy : M 0 1 = y) (hy2 : M 1 0 = y) (hz : M 1 1 = z) (h : rkP M 2 2 n) : n = if x * z - y * y = 0 then (if x + z = 0 then 0 else 1) else 2 := by
  obtain ⟨h0, h1, h2, _⟩ := h
  rw [z2_2, hx, hy, hy2, hz] at h2
  have e1 : z1 2 2 M ↔ x = 0 ∧ y = 0 ∧ z = 0 := by
    constructor
    · intro q
      exact ⟨hx ▸ q 0 0 (by decide) (by decide), hy ▸ q 0 1 (by decide) (by decide), hz ▸ q 1 1 (by decide) (by decide)⟩
    · rintro ⟨a, b, c⟩ i j hi hj
      rcases (show i = 0 ∨ i = 1 by omega) with rfl | rfl <;> rcases (show j = 0 ∨ j = 1 by omega) with rfl | rfl
      · rw [hx, a]
      · rw [hy, b]
      · rw [hy2, b]
      · rw [hz, c]
  rw [e1] at h1
  by_cases q : x * z - y * y = 0
  · rw [if_pos q]
    have n2 : ¬ 2 ≤ n := fun w => (h2.mp w) q
    by_cases w : x + z = 0
    · rw [if_pos w]
      have a := sq0 x; have b := sq0 y
      have e : x * z = -(x * x) := by rw [show z = -x by omega, Int.mul_neg]
      have x0 : x = 0 := sq_z (by omega)
      have y0 : y = 0 := sq_z (by omega)
      have : ¬ 1 ≤ n := fun v => (h1.mp v) ⟨x0, y0, by omega⟩
      omega
    · rw [if_neg w]
      have : 1 ≤ n := h1.mpr (fun v => w (by omega))
      omega
  · rw [if_neg q]
    have := h2.mpr q
    omega
theorem rank_3 {M : Nat → Nat → Int} {x y z p q s : Int} {n : Nat} (h00 : M 0 0 = x) (h01 : M 0 1 = p) (h02 : M 0 2 = q) (h10 : M 1 0 = p) (h11 : M 1 1 = y) (h12 : M 1 2 = s) (h20 : M 2 0 = q) (h21 : M 2 1 = s) (h22 : M 2 2 = z) (h : rkP M 3 3 n) : n = if x * (y * z - s * s) - p * (p * z - s * q) + q * (p * s - y * q) = 0 then (if (y * z - s * s) + (x * z - q * q) + (x * y - p * p) = 0 then (if x + y + z = 0 then 0 else 1) else 2) else 3 := by
  obtain ⟨h0, h1, h2, h3⟩ := h
  have h3 := h3 rfl
  have e3 : z3 3 M ↔ x * (y * z - s * s) - p * (p * z - s * q) + q * (p * s - y * q) = 0 := by
    constructor
    · intro w
      have := w 0 1 2 (by decide) (by decide) (by decide)
      unfold d3 at this
      rw [h00, h01, h02, h10, h11, h12, h20, h21, h22] at this
      exact this
    · intro w a b c ha hb hc
      unfold d3
      rcases (show a = 0 ∨ a = 1 ∨ a = 2 by omega) with rfl | rfl | rfl <;> rcases (show b = 0 ∨ b = 1 ∨ b = 2 by omega) with rfl | rfl | rfl <;> rcases (show c = 0 ∨ c = 1 ∨ c = 2 by omega) with rfl | rfl | rfl <;> simp only [h00, h01, h02, h10, h11, h12, h20, h21, h22] <;> grind
  have e2 : z2 3 3 M ↔ (y * z - s * s = 0 ∧ x * z - q * q = 0 ∧ x * y - p * p = 0 ∧ q * s - p * z = 0 ∧ p * s - q * y = 0 ∧ p * q - x * s = 0) := by
    constructor
    · intro w
      have w1 := w 1 2 1 2 (by decide) (by decide) (by decide) (by decide)
      have w2 := w 0 2 0 2 (by decide) (by decide) (by decide) (by decide)
      have w3 := w 0 1 0 1 (by decide) (by decide) (by decide) (by decide)
      have w4 := w 0 2 1 2 (by decide) (by decide) (by decide) (by decide)
      have w5 := w 0 1 1 2 (by decide) (by decide) (by decide) (by decide)
      have w6 := w 0 1 0 2 (by decide) (by decide) (by decide) (by decide)
      rw [h11, h22, h12, h21] at w1
      rw [h00, h22, h02, h20] at w2
      rw [h00, h11, h01, h10] at w3
      rw [h01, h22, h02, h21] at w4
      rw [h01, h12, h02, h11] at w5
      rw [h00, h12, h02, h10] at w6
      refine ⟨w1, w2, w3, ?_, ?_, ?_⟩ <;> grind
    · rintro ⟨w1, w2, w3, w4, w5, w6⟩ i k a b hi hk ha hb
      rcases (show i = 0 ∨ i = 1 ∨ i = 2 by omega) with rfl | rfl | rfl <;> rcases (show k = 0 ∨ k = 1 ∨ k = 2 by omega) with rfl | rfl | rfl <;> rcases (show a = 0 ∨ a = 1 ∨ a = 2 by omega) with rfl | rfl | rfl <;> rcases (show b = 0 ∨ b = 1 ∨ b = 2 by omega) with rfl | rfl | rfl <;> simp only [h00, h01, h02, h10, h11, h12, h20, h21, h22] <;> grind
  have e1 : z1 3 3 M ↔ x = 0 ∧ y = 0 ∧ z = 0 ∧ p = 0 ∧ q = 0 ∧ s = 0 := by
    constructor
    · intro w
      exact ⟨h00 ▸ w 0 0 (by decide) (by decide), h11 ▸ w 1 1 (by decide) (by decide), h22 ▸ w 2 2 (by decide) (by decide), h01 ▸ w 0 1 (by decide) (by decide), h02 ▸ w 0 2 (by decide) (by decide), h12 ▸ w 1 2 (by decide) (by decide)⟩
    · rintro ⟨a, b, c, d, e, f⟩ i j hi hj
      rcases (show i = 0 ∨ i = 1 ∨ i = 2 by omega) with rfl | rfl | rfl <;> rcases (show j = 0 ∨ j = 1 ∨ j = 2 by omega) with rfl | rfl | rfl <;> simp only [h00, h01, h02, h10, h11, h12, h20, h21, h22] <;> assumption
  rw [e1] at h1
  rw [e2] at h2
  rw [e3] at h3
  by_cases w3 : x * (y * z - s * s) - p * (p * z - s * q) + q * (p * s - y * q) = 0
  · rw [if_pos w3]
    have n3 : ¬ 3 ≤ n := fun v => (h3.mp v) w3
    have sq2 : (y * z - s * s) * (y * z - s * s) + (x * z - q * q) * (x * z - q * q) + (x * y - p * p) * (x * y - p * p) + 2 * ((q * s - p * z) * (q * s - p * z) + (p * s - q * y) * (p * s - q * y) + (p * q - x * s) * (p * q - x * s)) = ((y * z - s * s) + (x * z - q * q) + (x * y - p * p)) * ((y * z - s * s) + (x * z - q * q) + (x * y - p * p)) - 2 * (x + y + z) * (x * (y * z - s * s) - p * (p * z - s * q) + q * (p * s - y * q)) := by grind
    by_cases w2 : (y * z - s * s) + (x * z - q * q) + (x * y - p * p) = 0
    · rw [if_pos w2]
      rw [w2, w3] at sq2
      simp only [Int.mul_zero, Int.sub_zero] at sq2
      have b1 := sq0 (y * z - s * s); have b2 := sq0 (x * z - q * q); have b3 := sq0 (x * y - p * p); have b4 := sq0 (q * s - p * z); have b5 := sq0 (p * s - q * y); have b6 := sq0 (p * q - x * s)
      have n2 : ¬ 2 ≤ n := fun v => (h2.mp v) ⟨sq_z (by omega), sq_z (by omega), sq_z (by omega), sq_z (by omega), sq_z (by omega), sq_z (by omega)⟩
      have sq1 : x * x + y * y + z * z + 2 * (p * p + q * q + s * s) = (x + y + z) * (x + y + z) - 2 * ((y * z - s * s) + (x * z - q * q) + (x * y - p * p)) := by grind
      by_cases w1 : x + y + z = 0
      · rw [if_pos w1]
        rw [w1, w2] at sq1
        simp only [Int.mul_zero, Int.sub_zero] at sq1
        have c1 := sq0 x; have c2 := sq0 y; have c3 := sq0 z; have c4 := sq0 p; have c5 := sq0 q; have c6 := sq0 s
        have n1 : ¬ 1 ≤ n := fun v => (h1.mp v) ⟨sq_z (by omega), sq_z (by omega), sq_z (by omega), sq_z (by omega), sq_z (by omega), sq_z (by omega)⟩
        omega
      · rw [if_neg w1]
        have : 1 ≤ n := h1.mpr (fun v => w1 (by omega))
        omega
    · rw [if_neg w2]
      have : 2 ≤ n := h2.mpr (fun v => w2 (by omega))
      omega
  · rw [if_neg w3]
    have := h3.mpr w3
    omega
theorem r1_eq {Fm : Nat → Int} {d n : Nat} (hd2 : 2 ≤ d) (hd3 : d ≤ 3) (hS : symF Fm) (h : rkP (rkF Fm d) d d n) : n = rkN (prt Fm 1) d := by
  have s1 : Fm 9 = Fm 6 := hS 2 1 (by decide) (by decide)
  have s2 : Fm 13 = Fm 7 := hS 3 1 (by decide) (by decide)
  have s3 : Fm 14 = Fm 11 := hS 3 2 (by decide) (by decide)
  rcases (show d = 2 ∨ d = 3 by omega) with rfl | rfl
  · have e1 : eS (prt Fm 1) 2 1 = Fm 5 + Fm 10 := rfl
    have e2 : eS (prt Fm 1) 2 2 = Fm 5 * Fm 10 - Fm 6 * Fm 6 := by
      show Fm 5 * Fm 10 - Fm 6 * Fm 9 = _
      rw [s1]
    rw [rk_val2, e1, e2]
    exact rank_2 (x := Fm 5) (y := Fm 6) (z := Fm 10) rfl rfl s1 rfl h
  · have e1 : eS (prt Fm 1) 3 1 = Fm 5 + Fm 10 + Fm 15 := rfl
    have e2 : eS (prt Fm 1) 3 2 = (Fm 10 * Fm 15 - Fm 11 * Fm 11) + (Fm 5 * Fm 15 - Fm 7 * Fm 7) + (Fm 5 * Fm 10 - Fm 6 * Fm 6) := by
      simp only [eS, m2, prt, Nat.reduceMul, Nat.reduceAdd, Nat.reduceMod, Nat.reduceDiv]; rw [s1, s2, s3]; grind
    have e3 : eS (prt Fm 1) 3 3 = Fm 5 * (Fm 10 * Fm 15 - Fm 11 * Fm 11) - Fm 6 * (Fm 6 * Fm 15 - Fm 11 * Fm 7) + Fm 7 * (Fm 6 * Fm 11 - Fm 10 * Fm 7) := by
      simp only [eS, m3, m2, prt, Nat.reduceMul, Nat.reduceAdd, Nat.reduceMod, Nat.reduceDiv]; rw [s1, s2, s3]
    rw [rk_val3, e1, e2, e3]
    exact rank_3 (x := Fm 5) (y := Fm 10) (z := Fm 15) (p := Fm 6) (q := Fm 7) (s := Fm 11) rfl rfl rfl s1 rfl rfl s2 s3 rfl h
