/-! lines: rows that are multiples of each other have one normal form -/
def par (x y : Nat → Int) : Prop := ∀ a b, a < 3 → b < 3 → x a * y b = x b * y a
theorem gcdN_mul (c : Int) (G : Nat → Int) : ∀ n, gcdN (fun k => c * G k) n = c.natAbs * gcdN G n
  | 0 => rfl
  | n + 1 => by
    show Nat.gcd (gcdN (fun k => c * G k) n) (c * G n).natAbs = c.natAbs * Nat.gcd (gcdN G n) (G n).natAbs
    rw [gcdN_mul c G n, Int.natAbs_mul, Nat.gcd_mul_left]
theorem gcdN_dvd {G : Nat → Int} {k : Nat} : ∀ {n : Nat}, k < n → gcdN G n ∣ (G k).natAbs
  | 0, h => absurd h (Nat.not_lt_zero _)
  | n + 1, h => by
    show Nat.gcd (gcdN G n) (G n).natAbs ∣ _
    by_cases q : k = n
    · subst q; exact Nat.gcd_dvd_right _ _
    · exact Nat.dvd_trans (Nat.gcd_dvd_left _ _) (gcdN_dvd (n := n) (by omega))
theorem par_abs {x y : Nat → Int} (h : par x y) {a : Nat} (ha : a < 3) : (x a).natAbs * gcdN y 3 = (y a).natAbs * gcdN x 3 := by
  rw [← gcdN_mul, ← gcdN_mul]
  refine gcdN_congr (fun k hk => ?_)
  show x a * y k = y a * x k
  rw [h a k ha hk, Int.mul_comm]
theorem par_lead {x y : Nat → Int} (hz : ∀ a, a < 3 → (x a = 0 ↔ y a = 0)) : ∀ n, n ≤ 3 → (leadN x n = 0 ∧ leadN y n = 0) ∨ ∃ f, f < 3 ∧ leadN x n = x f ∧ leadN y n = y f ∧ x f ≠ 0 ∧ y f ≠ 0
  | 0, _ => Or.inl ⟨rfl, rfl⟩
  | n + 1, hn => by
    have e1 : leadN x (n + 1) = if leadN x n = 0 then x n else leadN x n := rfl
    have e2 : leadN y (n + 1) = if leadN y n = 0 then y n else leadN y n := rfl
    rcases par_lead hz n (by omega) with ⟨a, b⟩ | ⟨f, hf, a, b, c, d⟩
    · rw [e1, e2, if_pos a, if_pos b]
      by_cases q : x n = 0
      · exact Or.inl ⟨q, (hz n (by omega)).mp q⟩
      · exact Or.inr ⟨n, by omega, rfl, rfl, q, fun z => q ((hz n (by omega)).mpr z)⟩
    · rw [e1, e2, if_neg (by rw [a]; exact c), if_neg (by rw [b]; exact d)]
      exact Or.inr ⟨f, hf, a, b, c, d⟩
theorem cross_1 {xa ya xf yf gx gy : Int} (h1 : xa * yf = xf * ya) (h2 : xf * gy = yf * gx) (h : xf ≠ 0) : xa * gy = ya * gx := by
  apply Int.eq_of_mul_eq_mul_left h
  have e : xf * (xa * gy) = xa * (xf * gy) := by grind
  rw [e, h2]
  have e2 : xa * (yf * gx) = xa * yf * gx := by grind
  rw [e2, h1]; grind
theorem cross_2 {xa ya xf yf gx gy : Int} (h1 : xa * yf = xf * ya) (h2 : xf * gy = -(yf * gx)) (h : xf ≠ 0) : xa * gy = -(ya * gx) := by
  have := cross_1 (gx := -gx) (gy := gy) h1 (by rw [h2]; grind) h
  rw [this]; grind
theorem dv_p {G : Nat → Int} {n : Nat} (h : 0 < leadN G n) : dvN G n = ((gcdN G n : Nat) : Int) := if_neg (by omega)
theorem dv_m {G : Nat → Int} {n : Nat} (h : leadN G n < 0) : dvN G n = -((gcdN G n : Nat) : Int) := if_pos h
theorem dv_dvd {G : Nat → Int} {n k : Nat} (h : k < n) : dvN G n ∣ G k := by
  have d : ((gcdN G n : Nat) : Int) ∣ G k := Int.ofNat_dvd_left.mpr (gcdN_dvd h)
  unfold dvN
  split
  · exact Int.neg_dvd.mpr d
  · exact d
theorem dv_ne {G : Nat → Int} {n : Nat} (h : gcdN G n ≠ 0) : dvN G n ≠ 0 := by
  unfold dvN
  split <;> omega
theorem wo_par {x y : Nat → Int} (hx : gcdN x 3 ≠ 0) (hy : gcdN y 3 ≠ 0) (h : par x y) : ∀ i, i < 3 → woN x 3 i = woN y 3 i := by
  intro i hi
  have hz : ∀ a, a < 3 → (x a = 0 ↔ y a = 0) := by
    intro a ha
    have e := par_abs h ha
    constructor
    · intro q
      rw [q] at e
      have e2 : (y a).natAbs * gcdN x 3 = 0 := by rw [← e]; exact Nat.zero_mul _
      rcases Nat.mul_eq_zero.mp e2 with z | z
      · exact Int.natAbs_eq_zero.mp z
      · exact absurd z hx
    · intro q
      rw [q] at e
      have e2 : (x a).natAbs * gcdN y 3 = 0 := by rw [e]; exact Nat.zero_mul _
      rcases Nat.mul_eq_zero.mp e2 with z | z
      · exact Int.natAbs_eq_zero.mp z
      · exact absurd z hy
  rcases par_lead hz 3 (Nat.le_refl _) with ⟨a, _⟩ | ⟨f, hf, a, b, c, d⟩
  · exact absurd a (lead_ne hx)
  · have e := par_abs h hf
    have e3 : ((x f).natAbs : Int) * ((gcdN y 3 : Nat) : Int) = ((y f).natAbs : Int) * ((gcdN x 3 : Nat) : Int) := by
      rw [← Int.natCast_mul, ← Int.natCast_mul, e]
    have p := h i f hi hf
    have key : x i * dvN y 3 = y i * dvN x 3 := by
      by_cases s1 : 0 < x f
      · rw [show ((x f).natAbs : Int) = x f by omega] at e3
        rw [dv_p (show 0 < leadN x 3 by rw [a]; exact s1)]
        by_cases s2 : 0 < y f
        · rw [show ((y f).natAbs : Int) = y f by omega] at e3
          rw [dv_p (show 0 < leadN y 3 by rw [b]; exact s2)]
          exact cross_1 p e3 c
        · rw [show ((y f).natAbs : Int) = -(y f) by omega, Int.neg_mul] at e3
          rw [dv_m (show leadN y 3 < 0 by rw [b]; omega)]
          rw [Int.mul_neg, cross_2 p e3 c, Int.neg_neg]
      · rw [show ((x f).natAbs : Int) = -(x f) by omega, Int.neg_mul] at e3
        rw [dv_m (show leadN x 3 < 0 by rw [a]; omega)]
        by_cases s2 : 0 < y f
        · rw [show ((y f).natAbs : Int) = y f by omega] at e3
          rw [dv_p (show 0 < leadN y 3 by rw [b]; exact s2)]
          rw [Int.mul_neg]
          exact cross_2 p (by omega) c
        · rw [show ((y f).natAbs : Int) = -(y f) by omega, Int.neg_mul] at e3
          rw [dv_m (show leadN y 3 < 0 by rw [b]; omega)]
          rw [Int.mul_neg, Int.mul_neg, cross_1 p (show x f * ((gcdN y 3 : Nat) : Int) = y f * ((gcdN x 3 : Nat) : Int) by omega) c]
    unfold woN
    rw [if_neg hx, if_neg hy]
    obtain ⟨u, hu⟩ := dv_dvd (G := x) (n := 3) hi
    obtain ⟨v, hv⟩ := dv_dvd (G := y) (n := 3) hi
    have nx := dv_ne hx
    have ny := dv_ne hy
    rw [hu, hv, Int.mul_tdiv_cancel_left _ nx, Int.mul_tdiv_cancel_left _ ny]
    rw [hu, hv] at key
    have k2 : dvN x 3 * (dvN y 3 * u) = dvN x 3 * (dvN y 3 * v) := by
      have l1 : dvN x 3 * (dvN y 3 * u) = dvN x 3 * u * dvN y 3 := by grind
      have l2 : dvN x 3 * (dvN y 3 * v) = dvN y 3 * v * dvN x 3 := by grind
      rw [l1, l2, key]
    exact Int.eq_of_mul_eq_mul_left ny (Int.eq_of_mul_eq_mul_left nx k2)
/-- all two by two minors of W are 0 -/
def rk1 (W : Nat → Int) : Prop := ∀ a b c e, a < 3 → b < 3 → c < 3 → e < 3 → W (4 * a + b) * W (4 * c + e) = W (4 * a + e) * W (4 * c + b)
theorem gcd_ex {G : Nat → Int} : ∀ {n : Nat}, gcdN G n ≠ 0 → ∃ k, k < n ∧ G k ≠ 0
  | 0, h => absurd rfl h
  | n + 1, h => by
    by_cases q : G n = 0
    · have e : gcdN G n ≠ 0 := by
        intro z; apply h
        show Nat.gcd (gcdN G n) (G n).natAbs = 0
        rw [z, q]; rfl
      obtain ⟨k, hk, hg⟩ := gcd_ex e
      exact ⟨k, by omega, hg⟩
    · exact ⟨n, by omega, q⟩
theorem rl_two {W u v B1 B2 : Nat → Int} {ln i0 j0 : Nat} {lam mu : Int} (hW : rk1 W) (hi0 : i0 < 3) (hj0 : j0 < 3) (hu : gcdN u 3 ≠ 0) (hv : gcdN v 3 ≠ 0) (hl : lam ≠ 0) (hm : mu ≠ 0) (e1 : ∀ b, b < 3 → W (4 * i0 + b) = lam * u b) (e2 : ∀ a, a < 3 → W (4 * a + j0) = mu * v a) (h : rlOK W ln B1 B2) : ln = 2 ∧ ∀ i, i < 3 → B1 i = woN u 3 i ∧ B2 i = woN v 3 i := by
  have nz : ¬ (∀ a b, a < 3 → b < 3 → W (4 * a + b) = 0) := by
    intro z
    obtain ⟨k, hk, hg⟩ := gcd_ex hu
    have q := z i0 k hi0 hk
    rw [e1 k hk] at q
    rcases Int.mul_eq_zero.mp q with y | y
    · exact hl y
    · exact hg y
  obtain ⟨hln, i, j, hi, hj, hne, hB⟩ := h.2 nz
  refine ⟨hln, fun k hk => ?_⟩
  have pr : par (fun q => W (4 * i + q)) u := by
    intro a b ha hb
    have m := hW i a i0 b hi ha hi0 hb
    rw [e1 b hb, e1 a ha] at m
    apply Int.eq_of_mul_eq_mul_left hl
    show lam * (W (4 * i + a) * u b) = lam * (W (4 * i + b) * u a)
    have l1 : lam * (W (4 * i + a) * u b) = W (4 * i + a) * (lam * u b) := by grind
    have l2 : lam * (W (4 * i + b) * u a) = W (4 * i + b) * (lam * u a) := by grind
    rw [l1, l2, m]
  have pc : par (fun q => W (4 * q + j)) v := by
    intro a b ha hb
    have m := hW a j b j0 ha hj hb hj0
    rw [e2 b hb, e2 a ha] at m
    apply Int.eq_of_mul_eq_mul_left hm
    show mu * (W (4 * a + j) * v b) = mu * (W (4 * b + j) * v a)
    have l1 : mu * (W (4 * a + j) * v b) = W (4 * a + j) * (mu * v b) := by grind
    have l2 : mu * (W (4 * b + j) * v a) = mu * v a * W (4 * b + j) := by grind
    rw [l1, l2, m]
  have gx : gcdN (fun q => W (4 * i + q)) 3 ≠ 0 := gcd_ne (G := fun q => W (4 * i + q)) hj hne
  have gy : gcdN (fun q => W (4 * q + j)) 3 ≠ 0 := gcd_ne (G := fun q => W (4 * q + j)) hi hne
  rw [(hB k hk).1, (hB k hk).2]
  exact ⟨wo_par gx hu pr k hk, wo_par gy hv pc k hk⟩
theorem crs_id (c p q a b d r p0 p1 p2 : Int) :
    r * c * (r * a) - (r * p - p2) * (r * p + p2) = p2 * p2 + r * r * (c * a - p * p) ∧
    r * c * (r * b - p0) - (r * q + p1) * (r * p + p2) = -(p1 * p2 + r * r * (q * p - c * b)) - r * (c * p0 + p * p1 + q * p2) ∧
    (r * p - p2) * (r * b - p0) - (r * q + p1) * (r * a) = (p0 * p2 + r * r * (p * b - q * a)) - r * (p * p0 + a * p1 + b * p2) ∧
    r * c * (r * b + p0) - (r * p - p2) * (r * q - p1) = -(p1 * p2 + r * r * (q * p - c * b)) + r * (c * p0 + p * p1 + q * p2) ∧
    r * c * (r * d) - (r * q + p1) * (r * q - p1) = p1 * p1 + r * r * (c * d - q * q) ∧
    (r * p - p2) * (r * d) - (r * q + p1) * (r * b + p0) = -(p0 * p1 + r * r * (q * b - p * d)) - r * (q * p0 + b * p1 + d * p2) ∧
    (r * p + p2) * (r * b + p0) - (r * a) * (r * q - p1) = (p0 * p2 + r * r * (p * b - q * a)) + r * (p * p0 + a * p1 + b * p2) ∧
    (r * p + p2) * (r * d) - (r * b - p0) * (r * q - p1) = -(p0 * p1 + r * r * (q * b - p * d)) + r * (q * p0 + b * p1 + d * p2) ∧
    r * a * (r * d) - (r * b - p0) * (r * b + p0) = p0 * p0 + r * r * (a * d - b * b) := by
  refine ⟨?_, ?_, ?_, ?_, ?_, ?_, ?_, ?_, ?_⟩ <;> grind
/-- the table of joinLines has rank one, where p belongs to the adjugate and the determinant is 0 -/
theorem crs_rk1 {c p q a b d r p0 p1 p2 : Int} {W : Nat → Int} (w0 : W 0 = r * c) (w1 : W 1 = r * p - p2) (w2 : W 2 = r * q + p1) (w4 : W 4 = r * p + p2) (w5 : W 5 = r * a) (w6 : W 6 = r * b - p0) (w8 : W 8 = r * q - p1) (w9 : W 9 = r * b + p0) (w10 : W 10 = r * d)
    (k00 : p0 * p0 + r * r * (a * d - b * b) = 0) (k01 : p0 * p1 + r * r * (q * b - p * d) = 0) (k02 : p0 * p2 + r * r * (p * b - q * a) = 0) (k11 : p1 * p1 + r * r * (c * d - q * q) = 0) (k12 : p1 * p2 + r * r * (q * p - c * b) = 0) (k22 : p2 * p2 + r * r * (c * a - p * p) = 0)
    (h0 : c * p0 + p * p1 + q * p2 = 0) (h1 : p * p0 + a * p1 + b * p2 = 0) (h2 : q * p0 + b * p1 + d * p2 = 0) : rk1 W := by
  obtain ⟨i1, i2, i3, i4, i5, i6, i7, i8, i9⟩ := crs_id c p q a b d r p0 p1 p2
  rw [k22] at i1; rw [k12, h0, Int.mul_zero] at i2; rw [k02, h1, Int.mul_zero] at i3; rw [k12, h0, Int.mul_zero] at i4; rw [k11] at i5; rw [k01, h2, Int.mul_zero] at i6; rw [k02, h1, Int.mul_zero] at i7; rw [k01, h2, Int.mul_zero] at i8; rw [k00] at i9
  have n1 : W 0 * W 5 = W 1 * W 4 := by rw [w0, w5, w1, w4]; omega
  have n2 : W 0 * W 6 = W 2 * W 4 := by rw [w0, w6, w2, w4]; omega
  have n3 : W 1 * W 6 = W 2 * W 5 := by rw [w1, w6, w2, w5]; omega
  have n4 : W 0 * W 9 = W 1 * W 8 := by rw [w0, w9, w1, w8]; omega
  have n5 : W 0 * W 10 = W 2 * W 8 := by rw [w0, w10, w2, w8]; omega
  have n6 : W 1 * W 10 = W 2 * W 9 := by rw [w1, w10, w2, w9]; omega
  have n7 : W 4 * W 9 = W 5 * W 8 := by rw [w4, w9, w5, w8]; omega
  have n8 : W 4 * W 10 = W 6 * W 8 := by rw [w4, w10, w6, w8]; omega
  have n9 : W 5 * W 10 = W 6 * W 9 := by rw [w5, w10, w6, w9]; omega
  clear i1 i2 i3 i4 i5 i6 i7 i8 i9
  clear w0 w1 w2 w4 w5 w6 w8 w9 w10 k00 k01 k02 k11 k12 k22 h0 h1 h2
  intro x y z w hx hy hz hw
  have fin : ∀ x y w, x < 3 → y < 3 → w < 3 → (∀ z, z < 3 → x < z → W (4 * x + y) * W (4 * z + w) = W (4 * x + w) * W (4 * z + y)) := by
    intro x y w hx hy hw z hz hxz
    rcases (show (x = 0 ∧ z = 1) ∨ (x = 0 ∧ z = 2) ∨ (x = 1 ∧ z = 2) by omega) with ⟨rfl, rfl⟩ | ⟨rfl, rfl⟩ | ⟨rfl, rfl⟩ <;> rcases (show y = 0 ∨ y = 1 ∨ y = 2 by omega) with rfl | rfl | rfl <;> rcases (show w = 0 ∨ w = 1 ∨ w = 2 by omega) with rfl | rfl | rfl <;>
      first | rfl | exact n1 | exact n2 | exact n3 | exact n4 | exact n5 | exact n6 | exact n7 | exact n8 | exact n9 | exact n1.symm | exact n2.symm | exact n3.symm | exact n4.symm | exact n5.symm | exact n6.symm | exact n7.symm | exact n8.symm | exact n9.symm
  rcases Nat.lt_trichotomy x z with l | l | l
  · exact fin x y w hx hy hw z hz l
  · subst l; exact Int.mul_comm _ _
  · have e := fin z w y hz hw hy x hx l
    rw [Int.mul_comm, e]; exact Int.mul_comm _ _
/-! minors of the adjugate -/
theorem jac_0 {c p q a b d r : Int} (hD : c * (a * d - b * b) + p * (q * b - p * d) + q * (p * b - q * a) = 0) (hr : r * r = -(a * d - b * b)) :
    (a * d - b * b) * (a * d - b * b) + r * r * (a * d - b * b) = 0 ∧ (a * d - b * b) * (q * b - p * d) + r * r * (q * b - p * d) = 0 ∧ (a * d - b * b) * (p * b - q * a) + r * r * (p * b - q * a) = 0 ∧ (q * b - p * d) * (q * b - p * d) + r * r * (c * d - q * q) = 0 ∧ (q * b - p * d) * (p * b - q * a) + r * r * (q * p - c * b) = 0 ∧ (p * b - q * a) * (p * b - q * a) + r * r * (c * a - p * p) = 0 := by
  rw [hr]
  refine ⟨by grind, by grind, by grind, ?_, ?_, ?_⟩
  · have e : (q * b - p * d) * (q * b - p * d) + -(a * d - b * b) * (c * d - q * q) = -(c * (a * d - b * b) + p * (q * b - p * d) + q * (p * b - q * a)) * d := by clear hD hr; grind
    rw [e, hD]; exact Int.zero_mul _
  · have e : (q * b - p * d) * (p * b - q * a) + -(a * d - b * b) * (q * p - c * b) = (c * (a * d - b * b) + p * (q * b - p * d) + q * (p * b - q * a)) * b := by clear hD hr; grind
    rw [e, hD]; exact Int.zero_mul _
  · have e : (p * b - q * a) * (p * b - q * a) + -(a * d - b * b) * (c * a - p * p) = -(c * (a * d - b * b) + p * (q * b - p * d) + q * (p * b - q * a)) * a := by clear hD hr; grind
    rw [e, hD]; exact Int.zero_mul _
theorem jac_1 {c p q a b d r : Int} (hD : c * (a * d - b * b) + p * (q * b - p * d) + q * (p * b - q * a) = 0) (hr : r * r = -(c * d - q * q)) :
    (q * b - p * d) * (q * b - p * d) + r * r * (a * d - b * b) = 0 ∧ (q * b - p * d) * (c * d - q * q) + r * r * (q * b - p * d) = 0 ∧ (q * b - p * d) * (q * p - c * b) + r * r * (p * b - q * a) = 0 ∧ (c * d - q * q) * (c * d - q * q) + r * r * (c * d - q * q) = 0 ∧ (c * d - q * q) * (q * p - c * b) + r * r * (q * p - c * b) = 0 ∧ (q * p - c * b) * (q * p - c * b) + r * r * (c * a - p * p) = 0 := by
  rw [hr]
  refine ⟨?_, by grind, ?_, by grind, by grind, ?_⟩
  · have e : (q * b - p * d) * (q * b - p * d) + -(c * d - q * q) * (a * d - b * b) = -(c * (a * d - b * b) + p * (q * b - p * d) + q * (p * b - q * a)) * d := by clear hD hr; grind
    rw [e, hD]; exact Int.zero_mul _
  · have e : (q * b - p * d) * (q * p - c * b) + -(c * d - q * q) * (p * b - q * a) = (c * (a * d - b * b) + p * (q * b - p * d) + q * (p * b - q * a)) * q := by clear hD hr; grind
    rw [e, hD]; exact Int.zero_mul _
  · have e : (q * p - c * b) * (q * p - c * b) + -(c * d - q * q) * (c * a - p * p) = -(c * (a * d - b * b) + p * (q * b - p * d) + q * (p * b - q * a)) * c := by clear hD hr; grind
    rw [e, hD]; exact Int.zero_mul _
theorem jac_2 {c p q a b d r : Int} (hD : c * (a * d - b * b) + p * (q * b - p * d) + q * (p * b - q * a) = 0) (hr : r * r = -(c * a - p * p)) :
    (p * b - q * a) * (p * b - q * a) + r * r * (a * d - b * b) = 0 ∧ (p * b - q * a) * (q * p - c * b) + r * r * (q * b - p * d) = 0 ∧ (p * b - q * a) * (c * a - p * p) + r * r * (p * b - q * a) = 0 ∧ (q * p - c * b) * (q * p - c * b) + r * r * (c * d - q * q) = 0 ∧ (q * p - c * b) * (c * a - p * p) + r * r * (q * p - c * b) = 0 ∧ (c * a - p * p) * (c * a - p * p) + r * r * (c * a - p * p) = 0 := by
  rw [hr]
  refine ⟨?_, ?_, by grind, ?_, by grind, by grind⟩
  · have e : (p * b - q * a) * (p * b - q * a) + -(c * a - p * p) * (a * d - b * b) = -(c * (a * d - b * b) + p * (q * b - p * d) + q * (p * b - q * a)) * a := by clear hD hr; grind
    rw [e, hD]; exact Int.zero_mul _
  · have e : (p * b - q * a) * (q * p - c * b) + -(c * a - p * p) * (q * b - p * d) = (c * (a * d - b * b) + p * (q * b - p * d) + q * (p * b - q * a)) * p := by clear hD hr; grind
    rw [e, hD]; exact Int.zero_mul _
  · have e : (q * p - c * b) * (q * p - c * b) + -(c * a - p * p) * (c * d - q * q) = -(c * (a * d - b * b) + p * (q * b - p * d) + q * (p * b - q * a)) * c := by clear hD hr; grind
    rw [e, hD]; exact Int.zero_mul _
