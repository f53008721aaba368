/-! lines: class and reference alike -/
theorem sq_root {x y : Int} (h : x * x = y * y) : x = y ∨ x = -y := by
  have e : (x - y) * (x + y) = 0 := by
    have : (x - y) * (x + y) = x * x - y * y := by grind
    rw [this, h]; exact Int.sub_self _
  rcases Int.mul_eq_zero.mp e with q | q
  · left; omega
  · right; omega
theorem sq_le28 {r z : Int} (h0 : 0 ≤ r) (h : r * r = z) (hz : z ≤ 800) : r ≤ 28 := by
  rcases Int.lt_or_le 28 r with q | q
  · have k := Int.mul_le_mul (show (29 : Int) ≤ r by omega) (show (29 : Int) ≤ r by omega) (by decide) h0
    omega
  · exact q
theorem rt_rm {rt : Nat} {r z : Int} (hz : z ≠ 0) (hb : z ≤ 800) (h1 : rtOK rt z) (h2 : rmOK r z) : (rt = 0 ∧ r < 0) ∨ (rt ≠ 0 ∧ 0 ≤ r ∧ r = (rt : Int) ∧ (rt : Int) * rt = z) := by
  rcases h1 with ⟨a, b, c⟩ | ⟨a, b⟩
  · right
    rcases h2 with ⟨x, y, w⟩ | ⟨x, y⟩
    · refine ⟨by omega, x, ?_, c⟩
      rcases sq_root (show r * r = (rt : Int) * rt by rw [w, c]) with q | q <;> omega
    · exact absurd c (y rt)
  · left
    refine ⟨a, ?_⟩
    rcases h2 with ⟨x, y, w⟩ | ⟨x, y⟩
    · exfalso
      have l := sq_le28 x w hb
      have n : r ≠ 0 := by
        intro q
        rw [q, Int.mul_zero] at w
        exact hz w.symm
      refine b r.toNat (by omega) (by omega) ?_
      rw [Int.toNat_of_nonneg x]; exact w
    · omega
theorem sq_dvd {a b : Int} (h : a * a ∣ b * b) : a ∣ b := by
  have k := Int.natAbs_dvd_natAbs.mpr h
  rw [Int.natAbs_mul, Int.natAbs_mul, ← Nat.pow_two, ← Nat.pow_two] at k
  exact Int.natAbs_dvd_natAbs.mp ((Nat.pow_dvd_pow_iff (by decide)).mp k)
theorem sq_div {a b z : Int} (ha : a ≠ 0) (h : b * b = a * a * z) : ∃ m : Int, z = m * m := by
  obtain ⟨m, hm⟩ := sq_dvd (a := a) (b := b) ⟨z, h⟩
  refine ⟨m, ?_⟩
  rw [hm] at h
  have n : a * a ≠ 0 := fun q => ha (sq_z q)
  have e : a * a * z = a * a * (m * m) := by rw [← h]; grind
  exact Int.eq_of_mul_eq_mul_left n e
theorem rt6 {rt : Nat} {a b x z w : Int} (ha : a ≠ 0) (hx : x ≠ 0) (hb : x ≤ 800) (e : a * a * x = b * b * z) (h1 : rtOK rt x) (h2 : rmOK w z) : (rt = 0 ∧ w < 0) ∨ (rt ≠ 0 ∧ 0 ≤ w ∧ (rt : Int) * rt = x ∧ w * w = z) := by
  rcases h1 with ⟨p1, p2, p3⟩ | ⟨p1, p2⟩
  · right
    rcases h2 with ⟨q1, q2, q3⟩ | ⟨q1, q2⟩
    · exact ⟨by omega, q1, p3, q3⟩
    · exfalso
      have nb : b ≠ 0 := by
        intro q
        rw [q, Int.zero_mul, Int.zero_mul] at e
        rcases Int.mul_eq_zero.mp e with y | y
        · exact ha (sq_z y)
        · exact hx y
      have e2 : (a * (rt : Int)) * (a * (rt : Int)) = b * b * z := by
        have l : (a * (rt : Int)) * (a * (rt : Int)) = a * a * ((rt : Int) * rt) := by grind
        rw [l, p3, e]
      obtain ⟨m, hm⟩ := sq_div nb e2
      refine q2 m.natAbs ?_
      rw [hm]
      rcases Int.natAbs_eq m with y | y
      · rw [← y]
      · have : ((m.natAbs : Nat) : Int) = -m := by omega
        rw [this]; grind
  · left
    refine ⟨p1, ?_⟩
    rcases h2 with ⟨q1, q2, q3⟩ | ⟨q1, q2⟩
    · exfalso
      have e2 : (b * w) * (b * w) = a * a * x := by
        have l : (b * w) * (b * w) = b * b * (w * w) := by grind
        rw [l, q3, e]
      obtain ⟨m, hm⟩ := sq_div ha e2
      have k : ((m.natAbs : Nat) : Int) * ((m.natAbs : Nat) : Int) = x := by
        rw [hm]
        rcases Int.natAbs_eq m with y | y
        · rw [← y]
        · have : ((m.natAbs : Nat) : Int) = -m := by omega
          rw [this]; grind
      have l := sq_le28 (by omega) k hb
      have n : m.natAbs ≠ 0 := by
        intro q
        rw [q] at k
        exact hx k.symm
      exact p2 m.natAbs (by omega) (by omega) k
    · omega
theorem s3 {Fm : Nat → Int} (hS : symF Fm) : Fm 4 = Fm 1 ∧ Fm 8 = Fm 2 ∧ Fm 9 = Fm 6 := ⟨hS 1 0 (by decide) (by decide), hS 2 0 (by decide) (by decide), hS 2 1 (by decide) (by decide)⟩
theorem ad_v {Fm : Nat → Int} (hS : symF Fm) : adjM (prt Fm 0) 3 0 0 = Fm 5 * Fm 10 - Fm 6 * Fm 6 ∧ adjM (prt Fm 0) 3 0 1 = Fm 2 * Fm 6 - Fm 1 * Fm 10 ∧ adjM (prt Fm 0) 3 0 2 = Fm 1 * Fm 6 - Fm 2 * Fm 5 ∧ adjM (prt Fm 0) 3 1 0 = Fm 2 * Fm 6 - Fm 1 * Fm 10 ∧ adjM (prt Fm 0) 3 1 1 = Fm 0 * Fm 10 - Fm 2 * Fm 2 ∧ adjM (prt Fm 0) 3 1 2 = Fm 2 * Fm 1 - Fm 0 * Fm 6 ∧ adjM (prt Fm 0) 3 2 0 = Fm 1 * Fm 6 - Fm 2 * Fm 5 ∧ adjM (prt Fm 0) 3 2 1 = Fm 2 * Fm 1 - Fm 0 * Fm 6 ∧ adjM (prt Fm 0) 3 2 2 = Fm 0 * Fm 5 - Fm 1 * Fm 1 := by
  obtain ⟨h1, h2, h3⟩ := s3 hS
  clear hS
  refine ⟨?_, ?_, ?_, ?_, ?_, ?_, ?_, ?_, ?_⟩ <;> (simp only [adjM, m2, prt, Nat.reduceMul, Nat.reduceAdd, Nat.reduceMod, Nat.reduceDiv]; (try rw [h1]); (try rw [h2]); (try rw [h3]); try grind)
def dtM (Fm : Nat → Int) : Int := Fm 0 * (Fm 5 * Fm 10 - Fm 6 * Fm 6) + Fm 1 * (Fm 2 * Fm 6 - Fm 1 * Fm 10) + Fm 2 * (Fm 1 * Fm 6 - Fm 2 * Fm 5)
theorem es_v {Fm : Nat → Int} (hS : symF Fm) : eS (prt Fm 1) 2 1 = Fm 5 + Fm 10 ∧ eS (prt Fm 1) 2 2 = Fm 5 * Fm 10 - Fm 6 * Fm 6 ∧ eS (prt Fm 0) 3 2 = (Fm 0 * Fm 5 - Fm 1 * Fm 1) + (Fm 0 * Fm 10 - Fm 2 * Fm 2) + (Fm 5 * Fm 10 - Fm 6 * Fm 6) ∧ eS (prt Fm 0) 3 3 = dtM Fm := by
  obtain ⟨h1, h2, h3⟩ := s3 hS
  clear hS
  refine ⟨?_, ?_, ?_, ?_⟩ <;> (simp only [eS, m3, m2, prt, dtM, Nat.reduceMul, Nat.reduceAdd, Nat.reduceMod, Nat.reduceDiv]; (try rw [h1]); (try rw [h2]); (try rw [h3]); try grind)
theorem cr_v {Fm : Nat → Int} (hS : symF Fm) (kk rt : Nat) : crsT Fm kk rt 0 = rt * Fm 0 ∧ crsT Fm kk rt 1 = rt * Fm 1 - adjM (prt Fm 0) 3 kk 2 ∧ crsT Fm kk rt 2 = rt * Fm 2 + adjM (prt Fm 0) 3 kk 1 ∧ crsT Fm kk rt 4 = rt * Fm 1 + adjM (prt Fm 0) 3 kk 2 ∧ crsT Fm kk rt 5 = rt * Fm 5 ∧ crsT Fm kk rt 6 = rt * Fm 6 - adjM (prt Fm 0) 3 kk 0 ∧ crsT Fm kk rt 8 = rt * Fm 2 - adjM (prt Fm 0) 3 kk 1 ∧ crsT Fm kk rt 9 = rt * Fm 6 + adjM (prt Fm 0) 3 kk 0 ∧ crsT Fm kk rt 10 = rt * Fm 10 := by
  obtain ⟨h1, h2, h3⟩ := s3 hS
  refine ⟨Int.add_zero _, ?_, rfl, ?_, Int.add_zero _, ?_, ?_, ?_, Int.add_zero _⟩
  · show (rt : Int) * Fm 1 + -(adjM (prt Fm 0) 3 kk 2) = _; omega
  · show (rt : Int) * Fm 4 + adjM (prt Fm 0) 3 kk 2 = _; rw [h1]
  · show (rt : Int) * Fm 6 + -(adjM (prt Fm 0) 3 kk 0) = _; omega
  · show (rt : Int) * Fm 8 + -(adjM (prt Fm 0) 3 kk 1) = _; rw [h2]; omega
  · show (rt : Int) * Fm 9 + adjM (prt Fm 0) 3 kk 0 = _; rw [h3]
theorem mp_1 (c p q a b d : Int) : p * (a * d - b * b) + a * (q * b - p * d) + b * (p * b - q * a) = 0 ∧ q * (a * d - b * b) + b * (q * b - p * d) + d * (p * b - q * a) = 0 ∧ c * (q * b - p * d) + p * (c * d - q * q) + q * (q * p - c * b) = 0 ∧ q * (q * b - p * d) + b * (c * d - q * q) + d * (q * p - c * b) = 0 ∧ c * (p * b - q * a) + p * (q * p - c * b) + q * (c * a - p * p) = 0 ∧ p * (p * b - q * a) + a * (q * p - c * b) + b * (c * a - p * p) = 0 := by
  refine ⟨?_, ?_, ?_, ?_, ?_, ?_⟩ <;> grind
theorem mp_2 (c p q a b d : Int) : p * (q * b - p * d) + a * (c * d - q * q) + b * (q * p - c * b) = c * (a * d - b * b) + p * (q * b - p * d) + q * (p * b - q * a) ∧ q * (p * b - q * a) + b * (q * p - c * b) + d * (c * a - p * p) = c * (a * d - b * b) + p * (q * b - p * d) + q * (p * b - q * a) := by
  refine ⟨?_, ?_⟩ <;> grind
theorem cr_rk {Fm : Nat → Int} (hS : symF Fm) {kk rt : Nat} (hk : kk ≤ 2) (hD : dtM Fm = 0) (hr : (rt : Int) * rt = -(adjM (prt Fm 0) 3 kk kk)) : rk1 (crsT Fm kk rt) := by
  obtain ⟨a00, a01, a02, a10, a11, a12, a20, a21, a22⟩ := ad_v hS
  obtain ⟨w0, w1, w2, w4, w5, w6, w8, w9, w10⟩ := cr_v hS kk rt
  obtain ⟨m1, m2, m3, m4, m5, m6⟩ := mp_1 (Fm 0) (Fm 1) (Fm 2) (Fm 5) (Fm 6) (Fm 10)
  obtain ⟨n1, n2⟩ := mp_2 (Fm 0) (Fm 1) (Fm 2) (Fm 5) (Fm 6) (Fm 10)
  rcases (show kk = 0 ∨ kk = 1 ∨ kk = 2 by omega) with rfl | rfl | rfl
  · rw [a00] at hr w6 w9; rw [a01] at w2 w8; rw [a02] at w1 w4
    obtain ⟨k00, k01, k02, k11, k12, k22⟩ := jac_0 hD hr
    exact crs_rk1 w0 w1 w2 w4 w5 w6 w8 w9 w10 k00 k01 k02 k11 k12 k22 hD m1 m2
  · rw [a11] at hr w2 w8; rw [a10] at w6 w9; rw [a12] at w1 w4
    obtain ⟨k00, k01, k02, k11, k12, k22⟩ := jac_1 hD hr
    exact crs_rk1 w0 w1 w2 w4 w5 w6 w8 w9 w10 k00 k01 k02 k11 k12 k22 m3 (n1.trans hD) m4
  · rw [a22] at hr w1 w4; rw [a21] at w2 w8; rw [a20] at w6 w9
    obtain ⟨k00, k01, k02, k11, k12, k22⟩ := jac_2 hD hr
    exact crs_rk1 w0 w1 w2 w4 w5 w6 w8 w9 w10 k00 k01 k02 k11 k12 k22 m5 m6 (n2.trans hD)
def lnEq (ln lm : Nat) (B1 B2 L : Nat → Int) : Prop := (ln = 0 ∧ lm = 0) ∨ (ln = 2 ∧ lm = 2 ∧ ((∀ i, i < 3 → B1 i = L i ∧ B2 i = L (3 + i)) ∨ (∀ i, i < 3 → B1 i = L (3 + i) ∧ B2 i = L i)))
theorem ge_t {W u0 u1 u2 : Int} {X : Nat → Int} {lam : Int} {f : Nat → Nat} (h0 : X (f 0) = lam * u0) (h1 : X (f 1) = lam * u1) (h2 : X (f 2) = lam * u2) : ∀ b, b < 3 → X (f b) = lam * ptR 2 u0 u1 u2 0 b := by
  intro b hb
  match b, hb with
  | 0, _ => exact h0
  | 1, _ => exact h1
  | 2, _ => exact h2
theorem row_t {X : Nat → Int} {lam u0 u1 u2 : Int} {i0 : Nat} (h0 : X (4 * i0 + 0) = lam * u0) (h1 : X (4 * i0 + 1) = lam * u1) (h2 : X (4 * i0 + 2) = lam * u2) : ∀ b, b < 3 → X (4 * i0 + b) = lam * ptR 2 u0 u1 u2 0 b := by
  intro b hb
  match b, hb with
  | 0, _ => exact h0
  | 1, _ => exact h1
  | 2, _ => exact h2
theorem col_t {X : Nat → Int} {lam u0 u1 u2 : Int} {j0 : Nat} (h0 : X (4 * 0 + j0) = lam * u0) (h1 : X (4 * 1 + j0) = lam * u1) (h2 : X (4 * 2 + j0) = lam * u2) : ∀ a, a < 3 → X (4 * a + j0) = lam * ptR 2 u0 u1 u2 0 a := by
  intro b hb
  match b, hb with
  | 0, _ => exact h0
  | 1, _ => exact h1
  | 2, _ => exact h2
theorem g1 {u0 u1 u2 : Int} (h : u1 ≠ 0) : gcdN (ptR 2 u0 u1 u2 0) 3 ≠ 0 := gcd_ne (G := ptR 2 u0 u1 u2 0) (k := 1) (by decide) h
theorem g2 {u0 u1 u2 : Int} (h : u2 ≠ 0) : gcdN (ptR 2 u0 u1 u2 0) 3 ≠ 0 := gcd_ne (G := ptR 2 u0 u1 u2 0) (k := 2) (by decide) h
theorem nz2 {x y : Int} (hx : x ≠ 0) (hy : y ≠ 0) : x * y ≠ 0 := fun q => by
  rcases Int.mul_eq_zero.mp q with z | z
  · exact hx z
  · exact hy z
theorem two_l {ln lm : Nat} {B1 B2 L : Nat → Int} {u0 u1 u2 v0 v1 v2 : Int} (hm : lm = 2) (ht : two L u0 u1 u2 v0 v1 v2) (h : ln = 2 ∧ ∀ i, i < 3 → B1 i = woN (ptR 2 u0 u1 u2 0) 3 i ∧ B2 i = woN (ptR 2 v0 v1 v2 0) 3 i) : lnEq ln lm B1 B2 L :=
  Or.inr ⟨h.1, hm, Or.inl (fun i hi => ⟨(h.2 i hi).1.trans (ht i hi).1.symm, (h.2 i hi).2.trans (ht i hi).2.symm⟩)⟩
theorem two_r {ln lm : Nat} {B1 B2 L : Nat → Int} {u0 u1 u2 v0 v1 v2 : Int} (hm : lm = 2) (ht : two L u0 u1 u2 v0 v1 v2) (h : ln = 2 ∧ ∀ i, i < 3 → B1 i = woN (ptR 2 v0 v1 v2 0) 3 i ∧ B2 i = woN (ptR 2 u0 u1 u2 0) 3 i) : lnEq ln lm B1 B2 L :=
  Or.inr ⟨h.1, hm, Or.inr (fun i hi => ⟨(h.2 i hi).1.trans (ht i hi).2.symm, (h.2 i hi).2.trans (ht i hi).1.symm⟩)⟩
theorem m_800 {x y z w : Int} (hx : inB x 20) (hy : inB y 20) (hz : inB z 20) (hw : inB w 20) : -(x * y - z * w) ≤ 800 := by
  have a := mulB hx hy
  have b := mulB hz hw
  unfold inB at a b
  omega
theorem two5 {Fm : Nat → Int} {ln lm : Nat} {B1 B2 L : Nat → Int} (hS : symF Fm) (hB : ∀ k, k < 16 → inB (Fm k) 20) (hA : Fm 5 * Fm 10 - Fm 6 * Fm 6 < 0) (hD : dtM Fm = 0) (h1 : lnTwo Fm ln B1 B2) (h2 : f2P Fm 1 lm L) : lnEq ln lm B1 B2 L := by
  obtain ⟨kk, rt, ⟨hk, hl, hne, hr⟩, z0, z1⟩ := h1
  obtain ⟨a00, a01, a02, -, -, -, -, -, -⟩ := ad_v hS
  have k0 : kk = 0 := by
    by_cases q : kk = 0
    · exact q
    · have := hl 0 (by omega)
      rw [a00] at this; omega
  subst k0
  obtain ⟨r, hm, y0, y1⟩ := h2.2 (by decide)
  have hm2 : rmOK r (-(adjM (prt Fm 0) 3 0 0)) := by
    rw [a00, show -(Fm 5 * Fm 10 - Fm 6 * Fm 6) = Fm 6 * Fm 6 - Fm 5 * Fm 10 by omega]; exact hm
  rcases rt_rm (by rw [a00]; omega) (by rw [a00]; exact m_800 (hB 5 (by decide)) (hB 10 (by decide)) (hB 6 (by decide)) (hB 6 (by decide))) hr hm2 with ⟨e1, e2⟩ | ⟨e1, e2, e3, e4⟩
  · exact Or.inl ⟨z0 e1, y0 e2⟩
  · obtain ⟨lm2, c1, c2, c3⟩ := y1 e2
    have hW := z1 e1
    have rk := cr_rk hS (by decide) hD e4
    obtain ⟨w0, w1, w2, w4, w5, w6, w8, w9, w10⟩ := cr_v hS 0 rt
    subst e3
    rw [a00] at e4 w6 w9; rw [a01] at w2 w8; rw [a02] at w1 w4
    have rn : (rt : Int) ≠ 0 := by omega
    clear hr hm hm2 y0 y1 z0 z1 hl hne h2 hB hS a00 a01 a02 e2
    by_cases q5 : Fm 5 ≠ 0
    · refine two_l lm2 (c1 q5) (rl_two rk (i0 := 1) (j0 := 1) (by decide) (by decide) (g1 (nz2 rn q5)) (g1 (nz2 rn q5)) (lam := 1) (mu := 1) (by decide) (by decide) (row_t ?_ ?_ ?_) (col_t ?_ ?_ ?_) hW)
      · show crsT Fm 0 rt 4 = _; rw [w4]; grind
      · show crsT Fm 0 rt 5 = _; rw [w5]; grind
      · show crsT Fm 0 rt 6 = _; rw [w6]; grind
      · show crsT Fm 0 rt 1 = _; rw [w1]; grind
      · show crsT Fm 0 rt 5 = _; rw [w5]; grind
      · show crsT Fm 0 rt 9 = _; rw [w9]; grind
    · have q5 : Fm 5 = 0 := by omega
      by_cases q10 : Fm 10 ≠ 0
      · refine two_r lm2 (c2 q5 q10) (rl_two rk (i0 := 2) (j0 := 2) (by decide) (by decide) (g2 (nz2 rn q10)) (g2 (nz2 rn q10)) (lam := 1) (mu := 1) (by decide) (by decide) (row_t ?_ ?_ ?_) (col_t ?_ ?_ ?_) hW)
        · show crsT Fm 0 rt 8 = _; rw [w8]; grind
        · show crsT Fm 0 rt 9 = _; rw [w9]; grind
        · show crsT Fm 0 rt 10 = _; rw [w10]; grind
        · show crsT Fm 0 rt 2 = _; rw [w2]; grind
        · show crsT Fm 0 rt 6 = _; rw [w6]; grind
        · show crsT Fm 0 rt 10 = _; rw [w10]; grind
      · have q10 : Fm 10 = 0 := by omega
        have n6 : Fm 6 ≠ 0 := by
          intro z
          rw [q5, z] at hA; omega
        rw [q5, Int.zero_mul] at e4
        have hq : (rt : Int) * rt = Fm 6 * Fm 6 := by rw [e4]; omega
        have r2 : 2 * (rt : Int) ≠ 0 := by omega
        rcases sq_root hq with y | y
        · refine two_r lm2 (c3 q5 q10) (rl_two rk (i0 := 1) (j0 := 2) (by decide) (by decide) (g2 n6) (g1 n6) (lam := 2 * (rt : Int)) (mu := 2 * (rt : Int)) r2 r2 (row_t ?_ ?_ ?_) (col_t ?_ ?_ ?_) hW)
          · show crsT Fm 0 rt 4 = _; rw [w4, q5, ← y]; grind
          · show crsT Fm 0 rt 5 = _; rw [w5, q5]; grind
          · show crsT Fm 0 rt 6 = _; rw [w6, q5, ← y]; grind
          · show crsT Fm 0 rt 2 = _; rw [w2, q10, ← y]; grind
          · show crsT Fm 0 rt 6 = _; rw [w6, q5, ← y]; grind
          · show crsT Fm 0 rt 10 = _; rw [w10, q10]; grind
        · have y6 : Fm 6 = -(rt : Int) := by omega
          refine two_l lm2 (c3 q5 q10) (rl_two rk (i0 := 2) (j0 := 1) (by decide) (by decide) (g1 n6) (g2 n6) (lam := 2 * (rt : Int)) (mu := 2 * (rt : Int)) r2 r2 (row_t ?_ ?_ ?_) (col_t ?_ ?_ ?_) hW)
          · show crsT Fm 0 rt 8 = _; rw [w8, q10, y6]; grind
          · show crsT Fm 0 rt 9 = _; rw [w9, q5, y6]; grind
          · show crsT Fm 0 rt 10 = _; rw [w10, q10]; grind
          · show crsT Fm 0 rt 1 = _; rw [w1, q5, y6]; grind
          · show crsT Fm 0 rt 5 = _; rw [w5, q5]; grind
          · show crsT Fm 0 rt 9 = _; rw [w9, q5, y6]; grind
theorem jz {c p q a b d : Int} (hA : a * d - b * b = 0) (hD : c * (a * d - b * b) + p * (q * b - p * d) + q * (p * b - q * a) = 0) : q * b - p * d = 0 ∧ p * b - q * a = 0 ∧ (q * p - c * b) * (q * p - c * b) = (c * d - q * q) * (c * a - p * p) ∧ a * a * (c * d - q * q) = b * b * (c * a - p * p) := by
  have e1 : (q * b - p * d) * (q * b - p * d) = (a * d - b * b) * (c * d - q * q) - (c * (a * d - b * b) + p * (q * b - p * d) + q * (p * b - q * a)) * d := by clear hA hD; grind
  have e2 : (p * b - q * a) * (p * b - q * a) = (a * d - b * b) * (c * a - p * p) - (c * (a * d - b * b) + p * (q * b - p * d) + q * (p * b - q * a)) * a := by clear hA hD; grind
  have e3 : (q * p - c * b) * (q * p - c * b) = (c * d - q * q) * (c * a - p * p) - (c * (a * d - b * b) + p * (q * b - p * d) + q * (p * b - q * a)) * c := by clear hA hD; grind
  have e4 : a * a * (c * d - q * q) = b * b * (c * a - p * p) + b * p * (p * b - q * a) - a * p * (q * b - p * d) + a * (c * (a * d - b * b) + p * (q * b - p * d) + q * (p * b - q * a)) := by clear hA hD e1 e2 e3; grind
  rw [hD, hA, Int.zero_mul, Int.zero_mul] at e1 e2
  rw [hD, Int.zero_mul] at e3
  have z1 := sq_z e1
  have z2 := sq_z e2
  refine ⟨z1, z2, by omega, ?_⟩
  rw [hD, z1, z2, Int.mul_zero, Int.mul_zero, Int.mul_zero] at e4
  omega
theorem two6 {Fm : Nat → Int} {ln lm : Nat} {B1 B2 L : Nat → Int} (hS : symF Fm) (hB : ∀ k, k < 16 → inB (Fm k) 20) (hA : Fm 5 * Fm 10 - Fm 6 * Fm 6 = 0) (hT : Fm 5 + Fm 10 ≠ 0) (hM : (Fm 0 * Fm 5 - Fm 1 * Fm 1) + (Fm 0 * Fm 10 - Fm 2 * Fm 2) + (Fm 5 * Fm 10 - Fm 6 * Fm 6) < 0) (hD : dtM Fm = 0) (h1 : lnTwo Fm ln B1 B2) (h2 : f2P Fm 0 lm L) : lnEq ln lm B1 B2 L := by
  obtain ⟨kk, rt, ⟨hk, hl, hne, hr⟩, z0, z1⟩ := h1
  obtain ⟨a00, a01, a02, a10, a11, a12, a20, a21, a22⟩ := ad_v hS
  obtain ⟨j1, j2, j3, j4⟩ := jz hA hD
  have k0 : kk ≠ 0 := by
    intro q
    rw [q] at hne
    exact hne (by decide) (a00.trans hA)
  obtain ⟨w, hm, y0, y1⟩ := h2.1 rfl
  obtain ⟨w0, w1, w2, w4, w5, w6, w8, w9, w10⟩ := cr_v hS kk rt
  by_cases q5 : Fm 5 ≠ 0
  · rw [if_pos q5] at hm
    have fin : ∀ p2 : Int, adjM (prt Fm 0) 3 kk 2 = p2 → adjM (prt Fm 0) 3 kk 0 = 0 → rt ≠ 0 → 0 ≤ w → (p2 = rt * w ∨ p2 = -(rt * w)) → (rt : Int) * rt = -(adjM (prt Fm 0) 3 kk kk) → lnEq ln lm B1 B2 L := by
      intro p2 e2 e0 hrt hw hp hrr
      obtain ⟨lm2, c1, c2⟩ := y1 hw
      have hW := z1 hrt
      have rk := cr_rk hS hk hD hrr
      have rn : (rt : Int) ≠ 0 := by omega
      rw [e2] at w1 w4
      rw [e0] at w6 w9
      clear hr hm y0 y1 z0 z1 hl hne h2 hB hS a00 a01 a02 a10 a11 a12 a20 a21 a22 j1 j2 j3 j4 hrr e2 e0 hA hM hD
      rcases hp with y | y
      · refine two_l lm2 (c1 q5) (rl_two rk (i0 := 1) (j0 := 1) (by decide) (by decide) (g1 q5) (g1 q5) (lam := (rt : Int)) (mu := (rt : Int)) rn rn (row_t ?_ ?_ ?_) (col_t ?_ ?_ ?_) hW)
        · show crsT Fm kk rt 4 = _; rw [w4, y]; grind
        · show crsT Fm kk rt 5 = _; rw [w5]
        · show crsT Fm kk rt 6 = _; rw [w6]; grind
        · show crsT Fm kk rt 1 = _; rw [w1, y]; grind
        · show crsT Fm kk rt 5 = _; rw [w5]
        · show crsT Fm kk rt 9 = _; rw [w9]; grind
      · refine two_r lm2 (c1 q5) (rl_two rk (i0 := 1) (j0 := 1) (by decide) (by decide) (g1 q5) (g1 q5) (lam := (rt : Int)) (mu := (rt : Int)) rn rn (row_t ?_ ?_ ?_) (col_t ?_ ?_ ?_) hW)
        · show crsT Fm kk rt 4 = _; rw [w4, y]; grind
        · show crsT Fm kk rt 5 = _; rw [w5]
        · show crsT Fm kk rt 6 = _; rw [w6]; grind
        · show crsT Fm kk rt 1 = _; rw [w1, y]; grind
        · show crsT Fm kk rt 5 = _; rw [w5]
        · show crsT Fm kk rt 9 = _; rw [w9]; grind
    rcases (show kk = 1 ∨ kk = 2 by omega) with rfl | rfl
    · have nx := hne (by decide)
      have e : Fm 5 * Fm 5 * (-(adjM (prt Fm 0) 3 1 1)) = Fm 6 * Fm 6 * (Fm 1 * Fm 1 - Fm 5 * Fm 0) := by
        rw [a11]
        have l1 : Fm 5 * Fm 5 * (-(Fm 0 * Fm 10 - Fm 2 * Fm 2)) = -(Fm 5 * Fm 5 * (Fm 0 * Fm 10 - Fm 2 * Fm 2)) := by grind
        rw [l1, j4]; grind
      rcases rt6 q5 (by omega) (by rw [a11]; exact m_800 (hB 0 (by decide)) (hB 10 (by decide)) (hB 2 (by decide)) (hB 2 (by decide))) e hr hm with ⟨e1, e2⟩ | ⟨e1, e2, e3, e4⟩
      · exact Or.inl ⟨z0 e1, y0 e2⟩
      · refine fin _ a12 (a10.trans j1) e1 e2 (sq_root ?_) e3
        rw [j3]
        have l1 : (rt : Int) * w * (rt * w) = (rt : Int) * rt * (w * w) := by grind
        rw [l1, e3, e4, a11]; grind
    · have z11 := hl 1 (by decide)
      have nx : -(adjM (prt Fm 0) 3 2 2) ≠ 0 := by rw [a22]; rw [a11] at z11; omega
      have hm2 : rmOK w (-(adjM (prt Fm 0) 3 2 2)) := by
        rw [a22, show -(Fm 0 * Fm 5 - Fm 1 * Fm 1) = Fm 1 * Fm 1 - Fm 5 * Fm 0 by rw [Int.mul_comm (Fm 5) (Fm 0)]; omega]; exact hm
      rcases rt_rm nx (by rw [a22]; exact m_800 (hB 0 (by decide)) (hB 5 (by decide)) (hB 1 (by decide)) (hB 1 (by decide))) hr hm2 with ⟨e1, e2⟩ | ⟨e1, e2, e3, e4⟩
      · exact Or.inl ⟨z0 e1, y0 e2⟩
      · refine fin _ rfl (a20.trans j2) e1 e2 (Or.inr ?_) e4
        rw [e3, e4, Int.neg_neg]
  · have q5 : Fm 5 = 0 := by omega
    have q6 : Fm 6 = 0 := by rw [q5, Int.zero_mul] at hA; exact sq_z (by omega)
    have q10 : Fm 10 ≠ 0 := by omega
    have q1 : Fm 1 = 0 := by
      have e := hD
      unfold dtM at e
      rw [q5, q6] at e
      have l1 : Fm 0 * (0 * Fm 10 - 0 * 0) + Fm 1 * (Fm 2 * 0 - Fm 1 * Fm 10) + Fm 2 * (Fm 1 * 0 - Fm 2 * 0) = -(Fm 1 * Fm 1 * Fm 10) := by grind
      rw [l1] at e
      rcases Int.mul_eq_zero.mp (show Fm 1 * Fm 1 * Fm 10 = 0 by omega) with z | z
      · exact sq_z z
      · exact absurd z q10
    have hk1 : kk = 1 := by
      by_cases q : kk = 2
      · have := hl 1 (by omega)
        rw [a11] at this
        rw [q5, q1, q6] at hM
        omega
      · omega
    subst hk1
    rw [if_neg (show ¬ Fm 5 ≠ 0 from fun z => z q5)] at hm
    have hm2 : rmOK w (-(adjM (prt Fm 0) 3 1 1)) := by
      rw [a11, show -(Fm 0 * Fm 10 - Fm 2 * Fm 2) = Fm 2 * Fm 2 - Fm 10 * Fm 0 by rw [Int.mul_comm (Fm 10) (Fm 0)]; omega]; exact hm
    have nx := hne (by decide)
    rcases rt_rm (by omega) (by rw [a11]; exact m_800 (hB 0 (by decide)) (hB 10 (by decide)) (hB 2 (by decide)) (hB 2 (by decide))) hr hm2 with ⟨e1, e2⟩ | ⟨e1, e2, e3, e4⟩
    · exact Or.inl ⟨z0 e1, y0 e2⟩
    · obtain ⟨lm2, c1, c2⟩ := y1 e2
      have hW := z1 e1
      have rk := cr_rk hS (by decide) hD e4
      have rn : (rt : Int) ≠ 0 := by omega
      subst e3
      have e5 : adjM (prt Fm 0) 3 1 1 = -((rt : Int) * rt) := by omega
      rw [e5] at w2 w8
      rw [a10, j1] at w6 w9
      clear hr hm hm2 y0 y1 z0 z1 hl hne h2 hB hS a00 a01 a02 a10 a11 a12 a20 a21 a22 j1 j2 j3 j4 hA hM hD e4 e5 nx
      refine two_l lm2 (c2 q5) (rl_two rk (i0 := 2) (j0 := 2) (by decide) (by decide) (g2 q10) (g2 q10) (lam := (rt : Int)) (mu := (rt : Int)) rn rn (row_t ?_ ?_ ?_) (col_t ?_ ?_ ?_) hW)
      · show crsT Fm 1 rt 8 = _; rw [w8]; grind
      · show crsT Fm 1 rt 9 = _; rw [w9, q6]; grind
      · show crsT Fm 1 rt 10 = _; rw [w10]
      · show crsT Fm 1 rt 2 = _; rw [w2]; grind
      · show crsT Fm 1 rt 6 = _; rw [w6, q6]; grind
      · show crsT Fm 1 rt 10 = _; rw [w10]
/-! the kinds' signs -/
theorem kd_5 : ∀ a b c e : Fin 4, (a : Nat) + b ≤ 2 → (c : Nat) + e ≤ 3 → kiP (keyN a b c e) = 5 → a = 1 ∧ b = 1 ∧ c = 1 ∧ e = 1 := by decide +kernel
theorem kd_6 : ∀ a b c e : Fin 4, (a : Nat) + b ≤ 2 → (c : Nat) + e ≤ 3 → kiP (keyN a b c e) = 6 → (a : Nat) + b = 1 ∧ c = 1 ∧ e = 1 := by decide +kernel
theorem kd_7 : ∀ a b c e : Fin 4, (a : Nat) + b ≤ 2 → (c : Nat) + e ≤ 3 → kiP (keyN a b c e) = 7 → (a : Nat) + b = 0 ∧ c = 1 ∧ e = 1 := by decide +kernel
theorem kd_9 : ∀ a b c e : Fin 4, (a : Nat) + b ≤ 2 → (c : Nat) + e ≤ 3 → kiP (keyN a b c e) = 9 → (a : Nat) + b = 1 := by decide +kernel
theorem sk_2 : ∀ a b : Fin 3, (rkS ((a : Int) - 1) ((b : Int) - 1) 0 0 = 2 → upS ((a : Int) - 1) ((b : Int) - 1) 0 0 = 1 → (b : Int) - 1 = -1) ∧ (rkS ((a : Int) - 1) ((b : Int) - 1) 0 0 = 1 → (b : Int) - 1 = 0 ∧ (a : Int) - 1 ≠ 0) ∧ (rkS ((a : Int) - 1) ((b : Int) - 1) 0 0 = 0 → (b : Int) - 1 = 0 ∧ (a : Int) - 1 = 0) := by decide +kernel
theorem sk_3 : ∀ a b c : Fin 3, rkS ((a : Int) - 1) ((b : Int) - 1) ((c : Int) - 1) 0 = 2 → upS ((a : Int) - 1) ((b : Int) - 1) ((c : Int) - 1) 0 = 1 → (b : Int) - 1 = -1 ∧ (c : Int) - 1 = 0 := by decide +kernel
theorem A_2 (U : Nat → Int) : (rkN U 2 = 2 → upN U 2 = 1 → eS U 2 2 < 0) ∧ (rkN U 2 = 1 → eS U 2 2 = 0 ∧ eS U 2 1 ≠ 0) ∧ (rkN U 2 = 0 → eS U 2 2 = 0 ∧ eS U 2 1 = 0) := by
  rw [(up_2 U).1, (up_2 U).2]
  obtain ⟨a, ea⟩ := sgn_fin (eS U 2 1)
  obtain ⟨b, eb⟩ := sgn_fin (eS U 2 2)
  have k := sk_2 a b
  rw [← ea, ← eb] at k
  refine ⟨fun q q2 => ?_, fun q => ?_, fun q => ?_⟩
  · have := k.1 q q2
    exact sgn_neg.mp (by rw [this]; decide)
  · exact ⟨sgnZ_ne.mp (k.2.1 q).1, fun z => (k.2.1 q).2 (sgnZ_0 z)⟩
  · exact ⟨sgnZ_ne.mp (k.2.2 q).1, sgnZ_ne.mp (k.2.2 q).2⟩
theorem M_3 (U : Nat → Int) (h1 : rkN U 3 = 2) (h2 : upN U 3 = 1) : eS U 3 2 < 0 ∧ eS U 3 3 = 0 := by
  rw [(up_3 U).1] at h2
  rw [(up_3 U).2] at h1
  obtain ⟨a, ea⟩ := sgn_fin (eS U 3 1)
  obtain ⟨b, eb⟩ := sgn_fin (eS U 3 2)
  obtain ⟨c, ec⟩ := sgn_fin (eS U 3 3)
  have k := sk_3 a b c
  rw [← ea, ← eb, ← ec] at k
  obtain ⟨x, y⟩ := k h1 h2
  exact ⟨sgn_neg.mp (by rw [x]; decide), sgnZ_ne.mp y⟩
theorem kd_of {Fm : Nat → Int} {P : Fin 4 → Fin 4 → Fin 4 → Fin 4 → Prop} {n : Nat} (h : kindN Fm 2 = n) (hP : ∀ a b c e : Fin 4, (a : Nat) + b ≤ 2 → (c : Nat) + e ≤ 3 → kiP (keyN a b c e) = n → P a b c e) : ∃ a b c e : Fin 4, (a : Nat) = upN (prt Fm 1) 2 ∧ (b : Nat) = rkN (prt Fm 1) 2 - upN (prt Fm 1) 2 ∧ (c : Nat) = upN (prt Fm 0) 3 ∧ (e : Nat) = rkN (prt Fm 0) 3 - upN (prt Fm 0) 3 ∧ P a b c e := by
  have a1 := upN_le (prt Fm 1) 2
  have a2 := rkN_le (prt Fm 1) 2
  have a3 := upN_le (prt Fm 0) 3
  have a4 := rkN_le (prt Fm 0) 3
  unfold kindN at h
  rw [if_pos rfl] at h
  refine ⟨⟨upN (prt Fm 1) 2, by omega⟩, ⟨rkN (prt Fm 1) 2 - upN (prt Fm 1) 2, by omega⟩, ⟨upN (prt Fm 0) 3, by omega⟩, ⟨rkN (prt Fm 0) 3 - upN (prt Fm 0) 3, by omega⟩, rfl, rfl, rfl, rfl, ?_⟩
  exact hP _ _ _ _ (by show upN (prt Fm 1) 2 + (rkN (prt Fm 1) 2 - upN (prt Fm 1) 2) ≤ 2; omega) (by show upN (prt Fm 0) 3 + (rkN (prt Fm 0) 3 - upN (prt Fm 0) 3) ≤ 3; omega) h
theorem fn1 {a : Fin 4} (h : a = 1) : (a : Nat) = 1 := by rw [h]; rfl
theorem k5_f {Fm : Nat → Int} (hS : symF Fm) (h : kindN Fm 2 = 5) : Fm 5 * Fm 10 - Fm 6 * Fm 6 < 0 ∧ dtM Fm = 0 := by
  obtain ⟨a, b, c, e, ha, hb, hc, he, p1, p2, p3, p4⟩ := kd_of h kd_5
  have q1 := fn1 p1; have q2 := fn1 p2; have q3 := fn1 p3; have q4 := fn1 p4
  obtain ⟨v1, v2, v3, v4⟩ := es_v hS
  have k1 := (A_2 (prt Fm 1)).1 (by omega) (by omega)
  have k2 := M_3 (prt Fm 0) (by omega) (by omega)
  rw [v2] at k1
  rw [v4] at k2
  exact ⟨k1, k2.2⟩
theorem k6_f {Fm : Nat → Int} (hS : symF Fm) (h : kindN Fm 2 = 6) : Fm 5 * Fm 10 - Fm 6 * Fm 6 = 0 ∧ Fm 5 + Fm 10 ≠ 0 ∧ (Fm 0 * Fm 5 - Fm 1 * Fm 1) + (Fm 0 * Fm 10 - Fm 2 * Fm 2) + (Fm 5 * Fm 10 - Fm 6 * Fm 6) < 0 ∧ dtM Fm = 0 := by
  obtain ⟨a, b, c, e, ha, hb, hc, he, p1, p3, p4⟩ := kd_of h kd_6
  have q3 := fn1 p3; have q4 := fn1 p4
  have u := upN_le (prt Fm 1) 2
  obtain ⟨v1, v2, v3, v4⟩ := es_v hS
  have k1 := (A_2 (prt Fm 1)).2.1 (by omega)
  have k2 := M_3 (prt Fm 0) (by omega) (by omega)
  rw [v1, v2] at k1
  rw [v3, v4] at k2
  exact ⟨k1.1, k1.2, k2.1, k2.2⟩
theorem k7_f {Fm : Nat → Int} (hS : symF Fm) (h : kindN Fm 2 = 7) : gcdN (row7 Fm) 3 ≠ 0 := by
  obtain ⟨a, b, c, e, ha, hb, hc, he, p1, p3, p4⟩ := kd_of h kd_7
  have q3 := fn1 p3; have q4 := fn1 p4
  have u := upN_le (prt Fm 1) 2
  obtain ⟨v1, v2, v3, v4⟩ := es_v hS
  have k1 := (A_2 (prt Fm 1)).2.2 (by omega)
  have k2 := M_3 (prt Fm 0) (by omega) (by omega)
  rw [v1, v2] at k1
  rw [v3, v4] at k2
  by_cases z1 : Fm 1 = 0
  · by_cases z2 : Fm 2 = 0
    · exfalso
      have e : (Fm 0 * Fm 5 - Fm 1 * Fm 1) + (Fm 0 * Fm 10 - Fm 2 * Fm 2) = Fm 0 * (Fm 5 + Fm 10) := by rw [z1, z2]; grind
      have k3 := k2.1
      rw [k1.1, e, k1.2, Int.mul_zero] at k3
      omega
    · exact gcd_ne (G := row7 Fm) (k := 2) (by decide) (show 2 * Fm 2 ≠ 0 by omega)
  · exact gcd_ne (G := row7 Fm) (k := 1) (by decide) (show 2 * Fm 1 ≠ 0 by omega)
theorem k9_f {Fm : Nat → Int} (hS : symF Fm) (h : kindN Fm 2 = 9) : gcdN (row9 Fm) 3 ≠ 0 := by
  obtain ⟨a, b, c, e, ha, hb, hc, he, p1⟩ := kd_of h kd_9
  have u := upN_le (prt Fm 1) 2
  obtain ⟨v1, v2, v3, v4⟩ := es_v hS
  have k1 := (A_2 (prt Fm 1)).2.1 (by omega)
  rw [v1, v2] at k1
  by_cases z : Fm 5 ≠ 0
  · refine gcd_ne (G := row9 Fm) (k := 1) (by decide) ?_
    show Fm (4 * (if Fm 5 ≠ 0 then 1 else 2) + 1) ≠ 0
    rw [if_pos z]; exact z
  · refine gcd_ne (G := row9 Fm) (k := 2) (by decide) ?_
    show Fm (4 * (if Fm 5 ≠ 0 then 1 else 2) + 2) ≠ 0
    rw [if_neg z]
    show Fm 10 ≠ 0
    omega
/-! what is picked -/
theorem lex_congr {L G L2 G2 : Nat → Int} (h : ∀ i, i < 3 → L i = L2 i) (h2 : ∀ i, i < 3 → G i = G2 i) : lexB L G ↔ lexB L2 G2 := by
  unfold lexB
  rw [h 0 (by decide), h 1 (by decide), h 2 (by decide), h2 0 (by decide), h2 1 (by decide), h2 2 (by decide)]
theorem lex_as {L G : Nat → Int} (h : lexB L G) : ¬ lexB G L := by
  unfold lexB at h ⊢; omega
theorem lex_eq {L G : Nat → Int} (h : ¬ lexB L G) (h2 : ¬ lexB G L) : ∀ i, i < 3 → L i = G i := by
  unfold lexB at h h2
  intro i hi
  rcases (show i = 0 ∨ i = 1 ∨ i = 2 by omega) with rfl | rfl | rfl <;> omega
theorem pick_2 {B1 B2 L : Nat → Int} {k i : Nat} {r : Int} (hk : k ≤ 1) (hi : i < 3) (h : (∀ i, i < 3 → B1 i = L i ∧ B2 i = L (3 + i)) ∨ (∀ i, i < 3 → B1 i = L (3 + i) ∧ B2 i = L i)) (h1 : lexF L → r = L (3 * (1 - k) + i)) (h2 : ¬ lexF L → r = L (3 * k + i)) : r = lnPick 2 B1 B2 k i := by
  rcases h with h | h
  · have cg : lexB B1 B2 ↔ lexB L (fun i => L (3 + i)) := lex_congr (fun i hi => (h i hi).1) (fun i hi => (h i hi).2)
    by_cases q : lexF L
    · have nq : ¬ lexB B1 B2 := fun z => lex_as q (cg.mp z)
      have e := h1 q
      rcases (show k = 0 ∨ k = 1 by omega) with rfl | rfl
      · rw [lnPick_2 (by decide) (fun z => by rcases z with z | z; exact absurd z (by decide); exact nq (z.mp rfl)), e, (h i hi).2]
      · rw [lnPick_1 (by decide) (Or.inr ⟨fun z => absurd z (by decide), fun z => absurd z nq⟩), e, (h i hi).1, show 3 * (1 - 1) + i = i by omega]
    · have e := h2 q
      by_cases q2 : lexB B1 B2
      · rcases (show k = 0 ∨ k = 1 by omega) with rfl | rfl
        · rw [lnPick_1 (by decide) (Or.inr ⟨fun _ => q2, fun _ => rfl⟩), e, (h i hi).1, show 3 * 0 + i = i by omega]
        · rw [lnPick_2 (by decide) (fun z => by rcases z with z | z; exact absurd z (by decide); exact absurd (z.mpr q2) (by decide)), e, (h i hi).2]
      · have eq := lex_eq (L := L) (G := fun i => L (3 + i)) (fun z => q2 (cg.mpr z)) q
        rcases (show k = 0 ∨ k = 1 by omega) with rfl | rfl
        · rw [lnPick_2 (by decide) (fun z => by rcases z with z | z; exact absurd z (by decide); exact q2 (z.mp rfl)), e, (h i hi).2, show 3 * 0 + i = i by omega]
          exact eq i hi
        · rw [lnPick_1 (by decide) (Or.inr ⟨fun z => absurd z (by decide), fun z => absurd z q2⟩), e, (h i hi).1]
          exact (eq i hi).symm
  · have cg : lexB B1 B2 ↔ lexB (fun i => L (3 + i)) L := lex_congr (fun i hi => (h i hi).1) (fun i hi => (h i hi).2)
    by_cases q : lexF L
    · have q2 : lexB B1 B2 := cg.mpr q
      have e := h1 q
      rcases (show k = 0 ∨ k = 1 by omega) with rfl | rfl
      · rw [lnPick_1 (by decide) (Or.inr ⟨fun _ => q2, fun _ => rfl⟩), e, (h i hi).1]
      · rw [lnPick_2 (by decide) (fun z => by rcases z with z | z; exact absurd z (by decide); exact absurd (z.mpr q2) (by decide)), e, (h i hi).2, show 3 * (1 - 1) + i = i by omega]
    · have q2 : ¬ lexB B1 B2 := fun z => q (cg.mp z)
      have e := h2 q
      rcases (show k = 0 ∨ k = 1 by omega) with rfl | rfl
      · rw [lnPick_2 (by decide) (fun z => by rcases z with z | z; exact absurd z (by decide); exact q2 (z.mp rfl)), e, (h i hi).2, show 3 * 0 + i = i by omega]
      · rw [lnPick_1 (by decide) (Or.inr ⟨fun z => absurd z (by decide), fun z => absurd z q2⟩), e, (h i hi).1]
theorem fl_two {Fm : Nat → Int} {kv : Int} {lm : Nat} {L : Nat → Int} (h : flP Fm kv lm L) : lm ≤ 2 := by
  obtain ⟨a, b, c, d, e⟩ := h
  by_cases q7 : kv = 7
  · have := (a q7).1; omega
  · by_cases q9 : kv = 9
    · have := (b q9).1; omega
    · by_cases q5 : kv = 5
      · rcases f2_lm (c q5) with z | z <;> omega
      · by_cases q6 : kv = 6
        · rcases f2_lm (d q6) with z | z <;> omega
        · have := e (by omega); omega
theorem ln_eq {Fm : Nat → Int} {d : Nat} (hd2 : 2 ≤ d) (hd3 : d ≤ 3) (hS : symF Fm) (hB : ∀ k, k < 16 → inB (Fm k) 20) (hK : kndM Fm d = nI (kindN Fm d)) {k i r r2 : Int} (h1 : s_lnM Fm d k i r) (h2 : s_line Fm d k i r2) : r = r2 := by
  by_cases q : d = 2 ∧ 0 ≤ i ∧ i ≤ 2
  · obtain ⟨q2, i0, i2⟩ := q
    subst q2
    obtain ⟨lm, L, hf, n1, n2⟩ := h1.2 ⟨rfl, i0, i2⟩
    have kl : kindN Fm 2 ≤ 9 := by unfold kindN; rw [if_pos rfl]; exact kiP_le _
    have kv : (kndM Fm 2).toInt = ((kindN Fm 2 : Nat) : Int) := by rw [hK]; exact nI_toInt (by omega)
    rw [kv] at hf
    by_cases qk : 0 ≤ k ∧ k ≤ 1
    · obtain ⟨ln, L1, L2, ho, e⟩ := h2.2 ⟨rfl, qk.1, qk.2, i0, i2⟩
      obtain ⟨kn, rfl⟩ : ∃ z : Nat, k = z := ⟨k.toNat, by omega⟩
      obtain ⟨ii, rfl⟩ : ∃ z : Nat, i = z := ⟨i.toNat, by omega⟩
      rw [Int.toNat_natCast, Int.toNat_natCast] at e n2
      obtain ⟨o7, o9, o56, on⟩ := ho
      obtain ⟨f7, f9, f5, f6, fn⟩ := hf
      have zero : ln = 0 → lm = 0 → r = r2 := by
        intro z1 z2
        rw [e, lnPick_n (by omega)]
        exact n1 (by omega)
      have one : ∀ G : Nat → Int, gcdN G 3 ≠ 0 → lnOne G ln L1 → (lm = 1 ∧ ∀ i, i < 3 → L i = woN G 3 i) → r = r2 := by
        intro G hg hn hm
        obtain ⟨x, y⟩ := hn.2 hg
        by_cases z : kn = 0
        · subst z
          rw [e, lnPick_1 (by omega) (Or.inl x), y ii (by omega), ← hm.2 ii (by omega)]
          have w := (n2 ⟨by omega, by omega⟩).2 (fun z => by omega)
          rw [show 3 * 0 + ii = ii by omega] at w
          exact w
        · rw [e, lnPick_n (by omega)]
          exact n1 (by omega)
      have two : lnEq ln lm L1 L2 L → r = r2 := by
        intro hq
        rcases hq with ⟨a, b⟩ | ⟨a, b, c⟩
        · exact zero a b
        · rw [e, a]
          have w := n2 ⟨by omega, by omega⟩
          exact pick_2 (by omega) (by omega) c (fun z => w.1 ⟨b, z⟩) (fun z => w.2 (fun y => z y.2))
      by_cases k7 : kindN Fm 2 = 7
      · exact one _ (k7_f hS k7) (o7 k7) (f7 (by omega))
      · by_cases k9 : kindN Fm 2 = 9
        · exact one _ (k9_f hS k9) (o9 k9) (f9 (by omega))
        · by_cases k5 : kindN Fm 2 = 5
          · obtain ⟨x, y⟩ := k5_f hS k5
            exact two (two5 hS hB x y (o56 (Or.inl k5)) (f5 (by omega)))
          · by_cases k6 : kindN Fm 2 = 6
            · obtain ⟨x, y, z, w⟩ := k6_f hS k6
              exact two (two6 hS hB x y z w (o56 (Or.inr k6)) (f6 (by omega)))
            · exact zero (on (by omega)) (fn (by omega))
    · have l := fl_two hf
      rw [n1 (by omega), h2.1 (by omega)]
  · rw [h1.1 q, h2.1 (by omega)]
