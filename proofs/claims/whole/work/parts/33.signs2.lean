/-! the signs: class and reference count alike -/
def padT (U : Nat → Int) (r : Nat) : Nat → Int := fun q => if q / 4 < r ∧ q % 4 < r then U q else 0
theorem pad_sym {U : Nat → Int} {r : Nat} (h4 : r ≤ 4) (h : symT U r) : symT (padT U r) 4 := by
  intro a b ha hb
  unfold padT
  rw [q4d a hb, q4m a hb, q4d b ha, q4m b ha]
  by_cases q : a < r ∧ b < r
  · rw [if_pos q, if_pos ⟨q.2, q.1⟩]; exact h a b q.1 q.2
  · rw [if_neg q, if_neg (fun z => q ⟨z.2, z.1⟩)]
theorem pad_2 (U : Nat → Int) : eS (padT U 2) 4 1 = eS U 2 1 ∧ eS (padT U 2) 4 2 = eS U 2 2 ∧ eS (padT U 2) 4 3 = 0 ∧ eS (padT U 2) 4 4 = 0 := by
  have p0 : padT U 2 0 = U 0 := rfl
  have p1 : padT U 2 1 = U 1 := rfl
  have p2 : padT U 2 2 = 0 := rfl
  have p3 : padT U 2 3 = 0 := rfl
  have p4 : padT U 2 4 = U 4 := rfl
  have p5 : padT U 2 5 = U 5 := rfl
  have p6 : padT U 2 6 = 0 := rfl
  have p7 : padT U 2 7 = 0 := rfl
  have p8 : padT U 2 8 = 0 := rfl
  have p9 : padT U 2 9 = 0 := rfl
  have p10 : padT U 2 10 = 0 := rfl
  have p11 : padT U 2 11 = 0 := rfl
  have p12 : padT U 2 12 = 0 := rfl
  have p13 : padT U 2 13 = 0 := rfl
  have p14 : padT U 2 14 = 0 := rfl
  have p15 : padT U 2 15 = 0 := rfl
  refine ⟨?_, ?_, ?_, ?_⟩ <;> (simp only [eS, m4, m3, m2, Nat.reduceMul, Nat.reduceAdd, p0, p1, p2, p3, p4, p5, p6, p7, p8, p9, p10, p11, p12, p13, p14, p15]; grind)
theorem pad_3 (U : Nat → Int) : eS (padT U 3) 4 1 = eS U 3 1 ∧ eS (padT U 3) 4 2 = eS U 3 2 ∧ eS (padT U 3) 4 3 = eS U 3 3 ∧ eS (padT U 3) 4 4 = 0 := by
  have p0 : padT U 3 0 = U 0 := rfl
  have p1 : padT U 3 1 = U 1 := rfl
  have p2 : padT U 3 2 = U 2 := rfl
  have p3 : padT U 3 3 = 0 := rfl
  have p4 : padT U 3 4 = U 4 := rfl
  have p5 : padT U 3 5 = U 5 := rfl
  have p6 : padT U 3 6 = U 6 := rfl
  have p7 : padT U 3 7 = 0 := rfl
  have p8 : padT U 3 8 = U 8 := rfl
  have p9 : padT U 3 9 = U 9 := rfl
  have p10 : padT U 3 10 = U 10 := rfl
  have p11 : padT U 3 11 = 0 := rfl
  have p12 : padT U 3 12 = 0 := rfl
  have p13 : padT U 3 13 = 0 := rfl
  have p14 : padT U 3 14 = 0 := rfl
  have p15 : padT U 3 15 = 0 := rfl
  refine ⟨?_, ?_, ?_, ?_⟩ <;> (simp only [eS, m4, m3, m2, Nat.reduceMul, Nat.reduceAdd, p0, p1, p2, p3, p4, p5, p6, p7, p8, p9, p10, p11, p12, p13, p14, p15]; grind)
theorem gap_3 (U : Nat → Int) (h : symT U 3) : gap4 (eS U 3 1) (eS U 3 2) (eS U 3 3) 0 := by
  obtain ⟨a, b, c, d⟩ := pad_3 U
  have := gap_4 _ (pad_sym (by decide) h)
  rw [a, b, c, d] at this
  exact this
theorem gap_2 (U : Nat → Int) (h : symT U 2) : gap4 (eS U 2 1) (eS U 2 2) 0 0 := by
  obtain ⟨a, b, c, d⟩ := pad_2 U
  have := gap_4 _ (pad_sym (by decide) h)
  rw [a, b, c, d] at this
  exact this
theorem sgn_mul {x y : Int} (h : x * y ≤ 0) : sgnZ x * sgnZ y ≤ 0 := by
  by_cases p1 : 0 < x
  · by_cases p2 : 0 < y
    · have := Int.mul_pos p1 p2; omega
    · rw [sgnZ_p p1, Int.one_mul]
      have := @sgn_pos y; omega
  · by_cases p2 : x < 0
    · rw [sgnZ_m p2]
      by_cases p3 : y < 0
      · have := Int.mul_pos_of_neg_of_neg p2 p3; omega
      · have := @sgn_neg y; omega
    · rw [sgnZ_0 (show x = 0 by omega), Int.zero_mul]; exact Int.le_refl _
theorem gap_sgn {a b c d : Int} (h : gap4 a b c d) : gap4 (sgnZ a) (sgnZ b) (sgnZ c) (sgnZ d) := by
  obtain ⟨h1, h2, h3, h4, h5⟩ := h
  refine ⟨fun q => ?_, fun q q2 => ?_, fun q => sgn_mul (h3 (sgnZ_ne.mp q)), fun q q2 => sgnZ_0 (h4 (sgnZ_ne.mp q) (sgnZ_ne.mp q2)), fun q => sgn_mul (h5 (sgnZ_ne.mp q))⟩
  · have := h1 (sgnZ_ne.mp q)
    have := @sgn_pos b; omega
  · obtain ⟨x, y⟩ := h2 (sgnZ_ne.mp q) (sgnZ_ne.mp q2)
    exact ⟨sgnZ_0 x, sgnZ_0 y⟩
/-- signs as a row -/
def sR (s1 s2 s3 s4 : Int) : Nat → Int := fun k => match k with
  | 0 => 1
  | 1 => s1
  | 2 => s2
  | 3 => s3
  | 4 => s4
  | _ => 0
def sO (s1 s2 s3 s4 : Int) (r : Nat) : Nat → Int := fun k => if (r - k) % 2 = 0 then sR s1 s2 s3 s4 (r - k) else -(sR s1 s2 s3 s4 (r - k))
abbrev cntOK (s1 s2 s3 s4 : Int) (r : Nat) : Prop := (fsx (sR s1 s2 s3 s4) r).1 = chgA (sO s1 s2 s3 s4 r) r 1 ∧ (fsx (sR s1 s2 s3 s4) r).2.1 = r - zerN (sO s1 s2 s3 s4 r) r r - chgA (sO s1 s2 s3 s4 r) r 1
theorem cnt_2 : ∀ a b : Fin 3, gap4 ((a : Int) - 1) ((b : Int) - 1) 0 0 → cntOK ((a : Int) - 1) ((b : Int) - 1) 0 0 2 := by decide +kernel
theorem cnt_3 : ∀ a b c : Fin 3, gap4 ((a : Int) - 1) ((b : Int) - 1) ((c : Int) - 1) 0 → cntOK ((a : Int) - 1) ((b : Int) - 1) ((c : Int) - 1) 0 3 := by decide +kernel
theorem cnt_4 : ∀ a b c d : Fin 3, gap4 ((a : Int) - 1) ((b : Int) - 1) ((c : Int) - 1) ((d : Int) - 1) → cntOK ((a : Int) - 1) ((b : Int) - 1) ((c : Int) - 1) ((d : Int) - 1) 4 := by decide +kernel
theorem sgn_fin (x : Int) : ∃ a : Fin 3, sgnZ x = (a : Int) - 1 := by
  rcases sgn_3 x with q | q | q
  · exact ⟨0, q⟩
  · exact ⟨1, q⟩
  · exact ⟨2, q⟩
theorem zerN_sgn {O G : Nat → Int} {r : Nat} (h : ∀ k, k < r → (O k = 0 ↔ G k = 0)) : ∀ n, n ≤ r → zerN O r n = zerN G r n
  | 0, _ => rfl
  | n + 1, hn => by
    have i := zerN_sgn h n (by omega)
    have e := h (r - (n + 1)) (by omega)
    unfold zerN
    by_cases q : O (r - (n + 1)) = 0
    · rw [if_pos q, if_pos (e.mp q)]; exact i
    · rw [if_neg q, if_neg (fun z => q (e.mpr z))]
theorem cnt_of {U : Nat → Int} {r : Nat} {s1 s2 s3 s4 : Int} (hs : ∀ k, k ≤ r → sgnZ (eS U r k) = sR s1 s2 s3 s4 k) (h : cntOK s1 s2 s3 s4 r) : abN U r = upN U r ∧ beN U r = dwN U r := by
  have e1 : fsx (fun k => sgnZ (eS U r k)) r = fsx (sR s1 s2 s3 s4) r := fsx_congr (fun k hk => hs k hk)
  have e2 := fsx_sgn (eS U r) r
  rw [e1] at e2
  have hO : ∀ k, k < r → sgnZ (cO U r k) = sO s1 s2 s3 s4 r k := by
    intro k hk
    show sgnZ (eT U r (r - k)) = _
    unfold eT sO
    split
    · exact hs _ (Nat.sub_le _ _)
    · rw [sgn_m, hs _ (Nat.sub_le _ _)]
  have e3 : upN U r = chgA (sO s1 s2 s3 s4 r) r 1 := by
    unfold upN
    rw [← chgA_sgn (cO U r) r 1]
    exact chgA_congr r _ hO
  have e4 : rkN U r = r - zerN (sO s1 s2 s3 s4 r) r r := by
    unfold rkN
    rw [zerN_sgn (G := sO s1 s2 s3 s4 r) (fun k hk => by rw [← hO k hk]; exact sgnZ_ne.symm) r (Nat.le_refl _)]
  have e5 : (fsx (eS U r) r).1 = (fsx (sR s1 s2 s3 s4) r).1 := by rw [e2]
  have e6 : (fsx (eS U r) r).2.1 = (fsx (sR s1 s2 s3 s4) r).2.1 := by rw [e2]
  unfold abN beN dwN
  rw [e5, e6, e3, e4]
  exact h
theorem cnt_eq {U : Nat → Int} {r : Nat} (h2 : 2 ≤ r) (h4 : r ≤ 4) (h : symT U r) : abN U r = upN U r ∧ beN U r = dwN U r := by
  match r, h2, h4, h with
  | 2, _, _, h =>
    have g := gap_sgn (gap_2 U h)
    obtain ⟨a, ea⟩ := sgn_fin (eS U 2 1)
    obtain ⟨b, eb⟩ := sgn_fin (eS U 2 2)
    rw [ea, eb] at g
    refine cnt_of (s1 := (a : Int) - 1) (s2 := (b : Int) - 1) (s3 := 0) (s4 := 0) (fun k hk => ?_) (cnt_2 a b g)
    rcases (show k = 0 ∨ k = 1 ∨ k = 2 by omega) with rfl | rfl | rfl
    · rfl
    · exact ea
    · exact eb
  | 3, _, _, h =>
    have g := gap_sgn (gap_3 U h)
    obtain ⟨a, ea⟩ := sgn_fin (eS U 3 1)
    obtain ⟨b, eb⟩ := sgn_fin (eS U 3 2)
    obtain ⟨c, ec⟩ := sgn_fin (eS U 3 3)
    rw [ea, eb, ec] at g
    refine cnt_of (s1 := (a : Int) - 1) (s2 := (b : Int) - 1) (s3 := (c : Int) - 1) (s4 := 0) (fun k hk => ?_) (cnt_3 a b c g)
    rcases (show k = 0 ∨ k = 1 ∨ k = 2 ∨ k = 3 by omega) with rfl | rfl | rfl | rfl
    · rfl
    · exact ea
    · exact eb
    · exact ec
  | 4, _, _, h =>
    have g := gap_sgn (gap_4 U h)
    obtain ⟨a, ea⟩ := sgn_fin (eS U 4 1)
    obtain ⟨b, eb⟩ := sgn_fin (eS U 4 2)
    obtain ⟨c, ec⟩ := sgn_fin (eS U 4 3)
    obtain ⟨d, ed⟩ := sgn_fin (eS U 4 4)
    rw [ea, eb, ec, ed] at g
    refine cnt_of (s1 := (a : Int) - 1) (s2 := (b : Int) - 1) (s3 := (c : Int) - 1) (s4 := (d : Int) - 1) (fun k hk => ?_) (cnt_4 a b c d g)
    rcases (show k = 0 ∨ k = 1 ∨ k = 2 ∨ k = 3 ∨ k = 4 by omega) with rfl | rfl | rfl | rfl | rfl
    · rfl
    · exact ea
    · exact eb
    · exact ec
    · exact ed
  | 0, h2, _, _ => exact absurd h2 (by decide)
  | 1, h2, _, _ => exact absurd h2 (by decide)
  | n + 5, _, h4, _ => exact absurd h4 (by omega)
