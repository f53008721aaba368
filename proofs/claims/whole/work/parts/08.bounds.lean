/-! bounds of the coefficients; what a loaded table holds -/
theorem mulB {a b A B : Int} (ha : inB a A) (hb : inB b B) : inB (a * b) (A * B) := by
  obtain ⟨a1, a2⟩ := ha
  obtain ⟨b1, b2⟩ := hb
  have h1 := Int.mul_nonneg (show 0 ≤ A - a by omega) (show 0 ≤ B + b by omega)
  have h2 := Int.mul_nonneg (show 0 ≤ A + a by omega) (show 0 ≤ B - b by omega)
  have h3 := Int.mul_nonneg (show 0 ≤ A - a by omega) (show 0 ≤ B - b by omega)
  have h4 := Int.mul_nonneg (show 0 ≤ A + a by omega) (show 0 ≤ B + b by omega)
  constructor <;> grind
theorem addB {a b A B : Int} (ha : inB a A) (hb : inB b B) : inB (a + b) (A + B) := by
  unfold inB at *; omega
theorem subB {a b A B : Int} (ha : inB a A) (hb : inB b B) : inB (a - b) (A + B) := by
  unfold inB at *; omega
theorem negB {a A : Int} (ha : inB a A) : inB (-a) A := by
  unfold inB at *; omega
theorem leB {a A B : Int} (ha : inB a A) (h : A ≤ B) : inB a B := by
  unfold inB at *; omega
theorem lB_of {a A : Int} (ha : inB a A) (h : A ≤ 9000000000000000000) : lB a := by
  unfold inB at ha; unfold lB; omega
theorem nB_of {a A : Int} (ha : inB a A) (h : A < 1099511627776) : a.natAbs < 2 ^ 40 := by
  unfold inB at ha; omega
def enB (C : Nat → Int) (r : Nat) (B : Int) : Prop := ∀ a b, a < r → b < r → inB (C (4 * a + b)) B
theorem m2_B {C : Nat → Int} {r : Nat} {B : Int} (h : enB C r B) {i j a b : Nat} (hi : i < r) (hj : j < r) (ha : a < r) (hb : b < r) : inB (m2 C i j a b) (B * B + B * B) :=
  subB (mulB (h i a hi ha) (h j b hj hb)) (mulB (h i b hi hb) (h j a hj ha))
theorem m3_B {C : Nat → Int} {r : Nat} {B : Int} (h : enB C r B) {i j k a b c : Nat} (hi : i < r) (hj : j < r) (hk : k < r) (ha : a < r) (hb : b < r) (hc : c < r) : inB (m3 C i j k a b c) (B * (B * B + B * B) + B * (B * B + B * B) + B * (B * B + B * B)) :=
  addB (subB (mulB (h i a hi ha) (m2_B h hj hk hb hc)) (mulB (h i b hi hb) (m2_B h hj hk ha hc))) (mulB (h i c hi hc) (m2_B h hj hk ha hb))
theorem m4_B {C : Nat → Int} {B : Int} (h : enB C 4 B) : inB (m4 C) (B * (B * (B * B + B * B) + B * (B * B + B * B) + B * (B * B + B * B)) + B * (B * (B * B + B * B) + B * (B * B + B * B) + B * (B * B + B * B)) + B * (B * (B * B + B * B) + B * (B * B + B * B) + B * (B * B + B * B)) + B * (B * (B * B + B * B) + B * (B * B + B * B) + B * (B * B + B * B))) :=
  subB (addB (subB (mulB (h 0 0 (by decide) (by decide)) (m3_B h (by decide) (by decide) (by decide) (by decide) (by decide) (by decide))) (mulB (h 0 1 (by decide) (by decide)) (m3_B h (by decide) (by decide) (by decide) (by decide) (by decide) (by decide)))) (mulB (h 0 2 (by decide) (by decide)) (m3_B h (by decide) (by decide) (by decide) (by decide) (by decide) (by decide)))) (mulB (h 0 3 (by decide) (by decide)) (m3_B h (by decide) (by decide) (by decide) (by decide) (by decide) (by decide)))
def tabB (r : Nat) : Int := if r = 4 then 20 else 8000
theorem eS_B {C : Nat → Int} {r : Nat} (h2 : 2 ≤ r) (h4 : r ≤ 4) (h : enB C r (tabB r)) (k : Nat) (hk : k ≤ r) : inB (eS C r k) 10000000000000 := by
  have D : ∀ {n : Nat}, n < 4 → n < 4 := fun h => h
  match r, k, h2, h4, h, hk with
  | 2, 0, _, _, h, _ => show inB 1 _; exact ⟨by decide, by decide⟩
  | 3, 0, _, _, h, _ => show inB 1 _; exact ⟨by decide, by decide⟩
  | 4, 0, _, _, h, _ => show inB 1 _; exact ⟨by decide, by decide⟩
  | 2, 1, _, _, h, _ => exact leB (addB (h 0 0 (by decide) (by decide)) (h 1 1 (by decide) (by decide))) (by decide)
  | 3, 1, _, _, h, _ => exact leB (addB (addB (h 0 0 (by decide) (by decide)) (h 1 1 (by decide) (by decide))) (h 2 2 (by decide) (by decide))) (by decide)
  | 4, 1, _, _, h, _ => exact leB (addB (addB (addB (h 0 0 (by decide) (by decide)) (h 1 1 (by decide) (by decide))) (h 2 2 (by decide) (by decide))) (h 3 3 (by decide) (by decide))) (by decide)
  | 2, 2, _, _, h, _ => exact leB (m2_B h (by decide) (by decide) (by decide) (by decide)) (by decide)
  | 3, 2, _, _, h, _ => exact leB (addB (addB (m2_B h (by decide) (by decide) (by decide) (by decide)) (m2_B h (by decide) (by decide) (by decide) (by decide))) (m2_B h (by decide) (by decide) (by decide) (by decide))) (by decide)
  | 4, 2, _, _, h, _ => exact leB (addB (addB (addB (addB (addB (m2_B h (by decide) (by decide) (by decide) (by decide)) (m2_B h (by decide) (by decide) (by decide) (by decide))) (m2_B h (by decide) (by decide) (by decide) (by decide))) (m2_B h (by decide) (by decide) (by decide) (by decide))) (m2_B h (by decide) (by decide) (by decide) (by decide))) (m2_B h (by decide) (by decide) (by decide) (by decide))) (by decide)
  | 3, 3, _, _, h, _ => exact leB (m3_B h (by decide) (by decide) (by decide) (by decide) (by decide) (by decide)) (by decide)
  | 4, 3, _, _, h, _ => exact leB (addB (addB (addB (m3_B h (by decide) (by decide) (by decide) (by decide) (by decide) (by decide)) (m3_B h (by decide) (by decide) (by decide) (by decide) (by decide) (by decide))) (m3_B h (by decide) (by decide) (by decide) (by decide) (by decide) (by decide))) (m3_B h (by decide) (by decide) (by decide) (by decide) (by decide) (by decide))) (by decide)
  | 4, 4, _, _, h, _ => exact leB (m4_B h) (by decide)
  | 2, n + 3, _, _, h, hk => exact absurd hk (by omega)
  | 3, n + 4, _, _, h, hk => exact absurd hk (by omega)
  | 4, n + 5, _, _, h, hk => exact absurd hk (by omega)
  | 0, _, h2, _, _, _ => exact absurd h2 (by decide)
  | 1, _, h2, _, _, _ => exact absurd h2 (by decide)
  | n + 5, _, _, h4, _, _ => exact absurd h4 (by omega)
/-- the coefficient of the k-th power from the top -/
def eT (C : Nat → Int) (r k : Nat) : Int := if k % 2 = 0 then eS C r k else -(eS C r k)
theorem eT_B {C : Nat → Int} {r : Nat} (h2 : 2 ≤ r) (h4 : r ≤ 4) (h : enB C r (tabB r)) (k : Nat) (hk : k ≤ r) : inB (eT C r k) 10000000000000 := by
  unfold eT
  split
  · exact eS_B h2 h4 h k hk
  · exact negB (eS_B h2 h4 h k hk)
theorem fl_c (C : Nat → Int) {r : Nat} (h2 : 2 ≤ r) (h4 : r ≤ 4) : ∀ k, k ≤ r → (flM C r k).2 = eT C r k := by
  intro k hk
  match r, k, h2, h4, hk with
  | 2, 0, _, _, _ => rfl
  | 3, 0, _, _, _ => rfl
  | 4, 0, _, _, _ => rfl
  | 2, 1, _, _, _ => exact e1_2 C
  | 3, 1, _, _, _ => exact e1_3 C
  | 4, 1, _, _, _ => exact e1_4 C
  | 2, 2, _, _, _ => exact e2_2 C
  | 3, 2, _, _, _ => exact e2_3 C
  | 4, 2, _, _, _ => exact e2_4 C
  | 3, 3, _, _, _ => exact e3_3 C
  | 4, 3, _, _, _ => exact e3_4 C
  | 4, 4, _, _, _ => exact e4_4 C
  | 2, n + 3, _, _, h => exact absurd h (by omega)
  | 3, n + 4, _, _, h => exact absurd h (by omega)
  | 4, n + 5, _, _, h => exact absurd h (by omega)
  | 0, _, h2, _, _ => exact absurd h2 (by decide)
  | 1, _, h2, _, _ => exact absurd h2 (by decide)
  | n + 5, _, _, h4, _ => exact absurd h4 (by omega)
theorem fl_d (C : Nat → Int) {r : Nat} (h2 : 2 ≤ r) (h4 : r ≤ 4) : ∀ k, k < r → -(diaN (flM C r (k + 1)).1 r) = ((k + 1 : Nat) : Int) * eT C r (k + 1) := by
  intro k hk
  match r, k, h2, h4, hk with
  | 2, 0, _, _, _ => exact d1_2 C
  | 3, 0, _, _, _ => exact d1_3 C
  | 4, 0, _, _, _ => exact d1_4 C
  | 2, 1, _, _, _ => exact d2_2 C
  | 3, 1, _, _, _ => exact d2_3 C
  | 4, 1, _, _, _ => exact d2_4 C
  | 3, 2, _, _, _ => exact d3_3 C
  | 4, 2, _, _, _ => exact d3_4 C
  | 4, 3, _, _, _ => exact d4_4 C
  | 2, n + 2, _, _, h => exact absurd h (by omega)
  | 3, n + 3, _, _, h => exact absurd h (by omega)
  | 4, n + 4, _, _, h => exact absurd h (by omega)
  | 0, _, h2, _, _ => exact absurd h2 (by decide)
  | 1, _, h2, _, _ => exact absurd h2 (by decide)
  | n + 5, _, _, h4, _ => exact absurd h4 (by omega)
theorem fl_q {C : Nat → Int} {r : Nat} (h2 : 2 ≤ r) (h4 : r ≤ 4) (h : enB C r (tabB r)) : ∀ k, k < r → lB (-(diaN (flM C r (k + 1)).1 r)) := by
  intro k hk
  rw [fl_d C h2 h4 k hk]
  refine lB_of (mulB (A := 4) (B := 10000000000000) ⟨by omega, by omega⟩ (eT_B h2 h4 h (k + 1) hk)) (by decide)
theorem fl_f (C : Nat → Int) {r : Nat} (h2 : 2 ≤ r) (h4 : r ≤ 4) : ∀ a b, a < r → b < r → flF C r (r - 1) (4 * a + b) = if r % 2 = 0 then -(adjM C r a b) else adjM C r a b := by
  intro a b ha hb
  match r, h2, h4, ha, hb with
  | 2, _, _, ha, hb =>
    have hA : a = 0 ∨ a = 1 := by omega
    have hB : b = 0 ∨ b = 1 := by omega
    rcases hA with rfl | rfl <;> rcases hB with rfl | rfl
    · show _ = -(C 5); rw [show flF C 2 (2 - 1) (4 * 0 + 0) = _ from f2_2_00 C]; simp only [eS]; omega
    · show _ = -(-(C 1)); rw [show flF C 2 (2 - 1) (4 * 0 + 1) = _ from f2_2_01 C]; omega
    · show _ = -(-(C 4)); rw [show flF C 2 (2 - 1) (4 * 1 + 0) = _ from f2_2_10 C]; omega
    · show _ = -(C 0); rw [show flF C 2 (2 - 1) (4 * 1 + 1) = _ from f2_2_11 C]; simp only [eS]; omega
  | 3, _, _, ha, hb =>
    have hA : a = 0 ∨ a = 1 ∨ a = 2 := by omega
    have hB : b = 0 ∨ b = 1 ∨ b = 2 := by omega
    rcases hA with rfl | rfl | rfl <;> rcases hB with rfl | rfl | rfl
    · exact f3_3_00 C
    · exact f3_3_01 C
    · exact f3_3_02 C
    · exact f3_3_10 C
    · exact f3_3_11 C
    · exact f3_3_12 C
    · exact f3_3_20 C
    · exact f3_3_21 C
    · exact f3_3_22 C
  | 4, _, _, ha, hb =>
    have hA : a = 0 ∨ a = 1 ∨ a = 2 ∨ a = 3 := by omega
    have hB : b = 0 ∨ b = 1 ∨ b = 2 ∨ b = 3 := by omega
    rcases hA with rfl | rfl | rfl | rfl <;> rcases hB with rfl | rfl | rfl | rfl
    · exact f4_4_00 C
    · exact f4_4_01 C
    · exact f4_4_02 C
    · exact f4_4_03 C
    · exact f4_4_10 C
    · exact f4_4_11 C
    · exact f4_4_12 C
    · exact f4_4_13 C
    · exact f4_4_20 C
    · exact f4_4_21 C
    · exact f4_4_22 C
    · exact f4_4_23 C
    · exact f4_4_30 C
    · exact f4_4_31 C
    · exact f4_4_32 C
    · exact f4_4_33 C
  | 0, h2, _, _, _ => exact absurd h2 (by decide)
  | 1, h2, _, _, _ => exact absurd h2 (by decide)
  | n + 5, _, h4, _, _ => exact absurd h4 (by omega)
