/-! ranks by elimination: the pure side -/
def rkF (Fm : Nat → Int) (d : Nat) : Nat → Nat → Int := fun i j => if j < d then Fm (4 * (i + 1) + j + 1) else Fm (4 * (i + 1))
def mw (W : Nat → Int) : Nat → Nat → Int := fun i j => W (5 * i + j)
def z1 (d n : Nat) (M : Nat → Nat → Int) : Prop := ∀ i j, i < d → j < n → M i j = 0
def z2 (d n : Nat) (M : Nat → Nat → Int) : Prop := ∀ i k a b, i < d → k < d → a < n → b < n → M i a * M k b - M i b * M k a = 0
def d3 (M : Nat → Nat → Int) (a b c : Nat) : Int := M 0 a * (M 1 b * M 2 c - M 1 c * M 2 b) - M 0 b * (M 1 a * M 2 c - M 1 c * M 2 a) + M 0 c * (M 1 a * M 2 b - M 1 b * M 2 a)
def z3 (n : Nat) (M : Nat → Nat → Int) : Prop := ∀ a b c, a < n → b < n → c < n → d3 M a b c = 0
def zEq (d n : Nat) (M G : Nat → Nat → Int) : Prop := (z1 d n M ↔ z1 d n G) ∧ (z2 d n M ↔ z2 d n G) ∧ (d = 3 → (z3 n M ↔ z3 n G))
theorem zEq_trans {d n : Nat} {A B C : Nat → Nat → Int} (h : zEq d n A B) (h2 : zEq d n B C) : zEq d n A C :=
  ⟨h.1.trans h2.1, h.2.1.trans h2.2.1, fun q => (h.2.2 q).trans (h2.2.2 q)⟩
theorem zEq_congr {d n : Nat} {A B : Nat → Nat → Int} (h : ∀ i j, i < d → j < n → A i j = B i j) : zEq d n A B := by
  refine ⟨?_, ?_, ?_⟩
  · constructor
    · intro q i j hi hj; rw [← h i j hi hj]; exact q i j hi hj
    · intro q i j hi hj; rw [h i j hi hj]; exact q i j hi hj
  · constructor
    · intro q i k a b hi hk ha hb; rw [← h i a hi ha, ← h k b hk hb, ← h i b hi hb, ← h k a hk ha]; exact q i k a b hi hk ha hb
    · intro q i k a b hi hk ha hb; rw [h i a hi ha, h k b hk hb, h i b hi hb, h k a hk ha]; exact q i k a b hi hk ha hb
  · intro q3
    subst q3
    have e : ∀ a b c, a < n → b < n → c < n → d3 A a b c = d3 B a b c := by
      intro a b c ha hb hc
      unfold d3
      rw [h 0 a (by decide) ha, h 0 b (by decide) hb, h 0 c (by decide) hc, h 1 a (by decide) ha, h 1 b (by decide) hb, h 1 c (by decide) hc, h 2 a (by decide) ha, h 2 b (by decide) hb, h 2 c (by decide) hc]
    constructor
    · intro q a b c ha hb hc; rw [← e a b c ha hb hc]; exact q a b c ha hb hc
    · intro q a b c ha hb hc; rw [e a b c ha hb hc]; exact q a b c ha hb hc
theorem mz {p x : Int} (hp : p ≠ 0) (h : p * x = 0) : x = 0 := by
  rcases Int.mul_eq_zero.mp h with q | q
  · exact absurd q hp
  · exact q
theorem z_op {d n i0 r0 : Nat} {M M2 : Nat → Nat → Int} {p f : Int} (hd : d ≤ 3) (hi : i0 < d) (hr : r0 < d) (hne : i0 ≠ r0) (hp : p ≠ 0) (h1 : ∀ j, j < n → M2 i0 j = M i0 j * p - f * M r0 j) (h2 : ∀ i j, i < d → i ≠ i0 → j < n → M2 i j = M i j) : zEq d n M2 M := by
  refine ⟨?_, ?_, ?_⟩
  · constructor
    · intro q i j hi2 hj
      by_cases e : i = i0
      · subst e
        have a := q i j hi2 hj
        have b := q r0 j hr hj
        rw [h2 r0 j hr (Ne.symm hne) hj] at b
        rw [h1 j hj, b] at a
        exact mz hp (by rw [Int.mul_comm]; omega)
      · rw [← h2 i j hi2 e hj]; exact q i j hi2 hj
    · intro q i j hi2 hj
      by_cases e : i = i0
      · subst e; rw [h1 j hj, q i j hi2 hj, q r0 j hr hj, Int.zero_mul, Int.mul_zero]; rfl
      · rw [h2 i j hi2 e hj]; exact q i j hi2 hj
  · constructor
    · intro q i k a b hi2 hk ha hb
      by_cases e : i = i0
      · by_cases e2 : k = i0
        · subst e; subst e2; grind
        · subst e
          have x := q i k a b hi2 hk ha hb
          have y := q r0 k a b hr hk ha hb
          rw [h2 r0 a hr (Ne.symm hne) ha, h2 r0 b hr (Ne.symm hne) hb, h2 k a hk e2 ha, h2 k b hk e2 hb] at y
          rw [h1 a ha, h1 b hb, h2 k a hk e2 ha, h2 k b hk e2 hb] at x
          exact mz hp (by grind)
      · by_cases e2 : k = i0
        · subst e2
          have x := q i k a b hi2 hk ha hb
          have y := q i r0 a b hi2 hr ha hb
          rw [h2 r0 a hr (Ne.symm hne) ha, h2 r0 b hr (Ne.symm hne) hb, h2 i a hi2 e ha, h2 i b hi2 e hb] at y
          rw [h1 a ha, h1 b hb, h2 i a hi2 e ha, h2 i b hi2 e hb] at x
          exact mz hp (by grind)
        · rw [← h2 i a hi2 e ha, ← h2 i b hi2 e hb, ← h2 k a hk e2 ha, ← h2 k b hk e2 hb]; exact q i k a b hi2 hk ha hb
    · intro q i k a b hi2 hk ha hb
      by_cases e : i = i0
      · by_cases e2 : k = i0
        · subst e; subst e2; grind
        · subst e
          have x := q i k a b hi2 hk ha hb
          have y := q r0 k a b hr hk ha hb
          rw [h1 a ha, h1 b hb, h2 k a hk e2 ha, h2 k b hk e2 hb]
          grind
      · by_cases e2 : k = i0
        · subst e2
          have x := q i k a b hi2 hk ha hb
          have y := q i r0 a b hi2 hr ha hb
          rw [h1 a ha, h1 b hb, h2 i a hi2 e ha, h2 i b hi2 e hb]
          grind
        · rw [h2 i a hi2 e ha, h2 i b hi2 e hb, h2 k a hk e2 ha, h2 k b hk e2 hb]; exact q i k a b hi2 hk ha hb
  · intro q3
    subst q3
    have e : ∀ a b c, a < n → b < n → c < n → d3 M2 a b c = p * d3 M a b c := by
      intro a b c ha hb hc
      unfold d3
      have ga := h1 a ha; have gb := h1 b hb; have gc := h1 c hc
      rcases (show i0 = 0 ∨ i0 = 1 ∨ i0 = 2 by omega) with rfl | rfl | rfl
      · rw [ga, gb, gc, h2 1 a (by decide) (by decide) ha, h2 1 b (by decide) (by decide) hb, h2 1 c (by decide) (by decide) hc, h2 2 a (by decide) (by decide) ha, h2 2 b (by decide) (by decide) hb, h2 2 c (by decide) (by decide) hc]
        rcases (show r0 = 1 ∨ r0 = 2 by omega) with rfl | rfl <;> grind
      · rw [ga, gb, gc, h2 0 a (by decide) (by decide) ha, h2 0 b (by decide) (by decide) hb, h2 0 c (by decide) (by decide) hc, h2 2 a (by decide) (by decide) ha, h2 2 b (by decide) (by decide) hb, h2 2 c (by decide) (by decide) hc]
        rcases (show r0 = 0 ∨ r0 = 2 by omega) with rfl | rfl <;> grind
      · rw [ga, gb, gc, h2 0 a (by decide) (by decide) ha, h2 0 b (by decide) (by decide) hb, h2 0 c (by decide) (by decide) hc, h2 1 a (by decide) (by decide) ha, h2 1 b (by decide) (by decide) hb, h2 1 c (by decide) (by decide) hc]
        rcases (show r0 = 0 ∨ r0 = 1 by omega) with rfl | rfl <;> grind
    constructor
    · intro q a b c ha hb hc; exact mz hp (by rw [← e a b c ha hb hc]; exact q a b c ha hb hc)
    · intro q a b c ha hb hc; rw [e a b c ha hb hc, q a b c ha hb hc, Int.mul_zero]
theorem swp_in {a b i d : Nat} (ha : a < d) (hb : b < d) (hi : i < d) : swp a b i < d := by
  unfold swp; split
  · exact hb
  · split <;> omega
theorem swp_swp {a b i : Nat} : swp a b (swp a b i) = i := by
  unfold swp; repeat' split
  all_goals omega
theorem swp_r (p r : Nat) : swp p r r = p := by
  unfold swp; split <;> simp_all
theorem z_swap {d n a b : Nat} {M M2 : Nat → Nat → Int} (hd : d ≤ 3) (ha : a < d) (hb : b < d) (h : ∀ i j, i < d → j < n → M2 i j = M (swp a b i) j) : zEq d n M2 M := by
  refine ⟨?_, ?_, ?_⟩
  · constructor
    · intro q i j hi hj
      have := h (swp a b i) j (swp_in ha hb hi) hj
      rw [swp_swp] at this
      rw [← this]; exact q _ j (swp_in ha hb hi) hj
    · intro q i j hi hj
      rw [h i j hi hj]; exact q _ j (swp_in ha hb hi) hj
  · constructor
    · intro q i k x y hi hk hx hy
      have e := q (swp a b i) (swp a b k) x y (swp_in ha hb hi) (swp_in ha hb hk) hx hy
      rw [h _ x (swp_in ha hb hi) hx, h _ y (swp_in ha hb hi) hy, h _ x (swp_in ha hb hk) hx, h _ y (swp_in ha hb hk) hy, swp_swp, swp_swp] at e
      exact e
    · intro q i k x y hi hk hx hy
      rw [h i x hi hx, h i y hi hy, h k x hk hx, h k y hk hy]
      exact q _ _ x y (swp_in ha hb hi) (swp_in ha hb hk) hx hy
  · intro q3
    subst q3
    have e : ∀ x y z, x < n → y < n → z < n → d3 M2 x y z = d3 M x y z ∨ d3 M2 x y z = -(d3 M x y z) := by
      intro x y z hx hy hz
      unfold d3
      rw [h 0 x (by decide) hx, h 0 y (by decide) hy, h 0 z (by decide) hz, h 1 x (by decide) hx, h 1 y (by decide) hy, h 1 z (by decide) hz, h 2 x (by decide) hx, h 2 y (by decide) hy, h 2 z (by decide) hz]
      rcases (show a = 0 ∨ a = 1 ∨ a = 2 by omega) with rfl | rfl | rfl <;> rcases (show b = 0 ∨ b = 1 ∨ b = 2 by omega) with rfl | rfl | rfl <;> first | (left; rfl) | (right; simp only [swp]; grind) | (right; unfold swp; grind)
    constructor
    · intro q x y z hx hy hz
      have := q x y z hx hy hz
      rcases e x y z hx hy hz with w | w <;> omega
    · intro q x y z hx hy hz
      have := q x y z hx hy hz
      rcases e x y z hx hy hz with w | w <;> omega
/-- the shape of steps -/
def ech (M : Nat → Nat → Int) (d c r : Nat) : Prop := ∃ pv : Nat → Nat, (∀ k, k < r → M k (pv k) ≠ 0 ∧ pv k < c ∧ ∀ j, j < pv k → M k j = 0) ∧ (∀ k l, k < l → l < r → pv k < pv l) ∧ ∀ i j, r ≤ i → i < d → j < c → M i j = 0
theorem ech_0 (M : Nat → Nat → Int) (d : Nat) : ech M d 0 0 := ⟨fun _ => 0, fun k h => absurd h (Nat.not_lt_zero _), fun k l _ h => absurd h (Nat.not_lt_zero _), fun i j _ _ h => absurd h (Nat.not_lt_zero _)⟩
theorem ech_skip {M : Nat → Nat → Int} {d c r : Nat} (h : ech M d c r) (hz : ∀ i, r ≤ i → i < d → M i c = 0) : ech M d (c + 1) r := by
  obtain ⟨pv, h1, h2, h3⟩ := h
  refine ⟨pv, fun k hk => ⟨(h1 k hk).1, Nat.lt_succ_of_lt (h1 k hk).2.1, (h1 k hk).2.2⟩, h2, fun i j hi hd hj => ?_⟩
  by_cases e : j = c
  · rw [e]; exact hz i hi hd
  · exact h3 i j hi hd (by omega)
theorem ech_step {M M2 : Nat → Nat → Int} {d c r : Nat} (h : ech M d c r) (g1 : ∀ k j, k < r → j ≤ c → M2 k j = M k j) (g2 : M2 r c ≠ 0) (g3 : ∀ j, j < c → M2 r j = 0) (g4 : ∀ i j, r < i → i < d → j ≤ c → M2 i j = 0) : ech M2 d (c + 1) (r + 1) := by
  obtain ⟨pv, h1, h2, h3⟩ := h
  refine ⟨fun k => if k = r then c else pv k, fun k hk => ?_, fun k l hkl hl => ?_, fun i j hi hd hj => g4 i j (by omega) hd (by omega)⟩
  · by_cases e : k = r
    · subst e
      dsimp only
      rw [if_pos rfl]
      exact ⟨g2, by omega, g3⟩
    · obtain ⟨a1, a2, a3⟩ := h1 k (by omega)
      dsimp only
      rw [if_neg e]
      refine ⟨by rw [g1 k _ (by omega) (by omega)]; exact a1, by omega, fun j hj => by rw [g1 k j (by omega) (by omega)]; exact a3 j hj⟩
  · dsimp only
    rw [if_neg (show ¬ k = r by omega)]
    by_cases e : l = r
    · rw [if_pos e]; exact (h1 k (by omega)).2.1
    · rw [if_neg e]; exact h2 k l hkl (by omega)
/-- r is the rank of the first d rows and n columns -/
def rkP (G : Nat → Nat → Int) (d n r : Nat) : Prop := r ≤ d ∧ (1 ≤ r ↔ ¬ z1 d n G) ∧ (2 ≤ r ↔ ¬ z2 d n G) ∧ (d = 3 → (3 ≤ r ↔ ¬ z3 n G))
theorem rk_fin {M : Nat → Nat → Int} {d n c r : Nat} (hd2 : 2 ≤ d) (hd3 : d ≤ 3) (hr : r ≤ d) (hc : c ≤ n) (h : ech M d c r) (he : c = n ∨ r = d) : rkP M d n r := by
  obtain ⟨pv, h1, h2, h3⟩ := h
  refine ⟨hr, ⟨fun q z => ?_, fun q => ?_⟩, ⟨fun q z => ?_, fun q => ?_⟩, fun e3 => ⟨fun q z => ?_, fun q => ?_⟩⟩
  · obtain ⟨a1, a2, _⟩ := h1 0 (by omega)
    exact a1 (z 0 (pv 0) (by omega) (by omega))
  · refine Classical.byContradiction (fun w => q (fun i j hi hj => h3 i j (by omega) hi (by omega)))
  · obtain ⟨a1, a2, _⟩ := h1 0 (by omega)
    obtain ⟨b1, b2, b3⟩ := h1 1 (by omega)
    have e := z 0 1 (pv 0) (pv 1) (by omega) (by omega) (by omega) (by omega)
    rw [b3 (pv 0) (h2 0 1 (by decide) (by omega)), Int.mul_zero, Int.sub_zero] at e
    exact b1 (mz a1 e)
  · refine Classical.byContradiction (fun w => q (fun i k a b hi hk ha hb => ?_))
    by_cases e : i = 0
    · by_cases e2 : k = 0
      · subst e; subst e2; grind
      · rw [h3 k a (by omega) hk (by omega), h3 k b (by omega) hk (by omega)]; grind
    · rw [h3 i a (by omega) hi (by omega), h3 i b (by omega) hi (by omega)]; grind
  · obtain ⟨a1, a2, _⟩ := h1 0 (by omega)
    obtain ⟨b1, b2, b3⟩ := h1 1 (by omega)
    obtain ⟨c1, c2, c3⟩ := h1 2 (by omega)
    have p01 := h2 0 1 (by decide) (by omega)
    have p12 := h2 1 2 (by decide) (by omega)
    have e := z (pv 0) (pv 1) (pv 2) (by omega) (by omega) (by omega)
    unfold d3 at e
    rw [b3 (pv 0) p01, c3 (pv 0) (by omega), c3 (pv 1) p12] at e
    have e2 : M 0 (pv 0) * (M 1 (pv 1) * M 2 (pv 2)) = 0 := by grind
    exact c1 (mz b1 (mz a1 e2))
  · refine Classical.byContradiction (fun w => q (fun a b c' ha hb hc' => ?_))
    unfold d3
    rw [h3 2 a (by omega) (by omega) (by omega), h3 2 b (by omega) (by omega) (by omega), h3 2 c' (by omega) (by omega) (by omega)]
    grind
theorem rkP_congr {M G : Nat → Nat → Int} {d n r : Nat} (h : rkP M d n r) (e : zEq d n M G) : rkP G d n r := by
  obtain ⟨a, b, c, f⟩ := h
  exact ⟨a, b.trans (not_congr e.1), c.trans (not_congr e.2.1), fun q => (f q).trans (not_congr (e.2.2 q))⟩
def rB : Nat → Int
  | 0 => 20
  | 1 => 800
  | 2 => 1280000
  | _ => 4000000000000
theorem rB_up {r : Nat} (h : r ≤ 2) : rB r * rB r + rB r * rB r ≤ rB (r + 1) := by
  rcases (show r = 0 ∨ r = 1 ∨ r = 2 by omega) with rfl | rfl | rfl <;> decide
theorem rB_le {r : Nat} (h : r ≤ 2) : rB r ≤ rB (r + 1) := by
  rcases (show r = 0 ∨ r = 1 ∨ r = 2 by omega) with rfl | rfl | rfl <;> decide
theorem rB_l (r : Nat) : rB r ≤ 9000000000000000000 := by
  unfold rB; split <;> decide
theorem rkF_B {Fm : Nat → Int} {d i j : Nat} (hd : d ≤ 3) (hi : i < d) (hF : ∀ k, k < 16 → inB (Fm k) 20) : inB (rkF Fm d i j) 20 := by
  unfold rkF; split
  · exact hF _ (by omega)
  · exact hF _ (by omega)
