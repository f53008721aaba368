/-! class and reference answer alike: signs, below, middle, unlike -/
def symF (Fm : Nat → Int) : Prop := ∀ i j, i < 4 → j < 4 → Fm (4 * i + j) = Fm (4 * j + i)
theorem prt_sym {Fm : Nat → Int} {f r : Nat} (hS : symF Fm) (h : f + r ≤ 4) : symT (prt Fm f) r := by
  intro a b ha hb
  unfold prt
  rw [q4d a (show b < 4 by omega), q4m a (show b < 4 by omega), q4d b (show a < 4 by omega), q4m b (show a < 4 by omega)]
  exact hS _ _ (by omega) (by omega)
theorem sg_eq {Fm : Nat → Int} {d : Nat} (hd2 : 2 ≤ d) (hd3 : d ≤ 3) (hS : symF Fm) (w : Int) : sgM Fm d w = s_signs Fm d w := by
  have a := cnt_eq hd2 (by omega) (prt_sym (f := 1) (r := d) hS (by omega))
  have b := cnt_eq (r := d + 1) (by omega) (by omega) (prt_sym (f := 0) (r := d + 1) hS (by omega))
  unfold sgM s_signs
  rw [a.1, a.2, b.1, b.2]
theorem sh_sym {Fm : Nat → Int} {up dn : Int} (hS : symF Fm) : symF (shZ Fm up dn) := by
  intro i j hi hj
  unfold shZ
  rw [q4d i hj, q4m i hj, q4d j hi, q4m j hi, hS i j hi hj]
  by_cases q : i = j
  · rw [if_pos q, if_pos q.symm]
  · rw [if_neg q, if_neg (fun z => q z.symm)]
theorem bl_eq {Fm : Nat → Int} {d : Nat} (hd2 : 2 ≤ d) (hd3 : d ≤ 3) (hS : symF Fm) (up dn : Int) : s_blw Fm d up dn = s_below Fm d up dn := by
  unfold s_blw s_below
  rw [(cnt_eq hd2 (by omega) (prt_sym (f := 1) (r := d) (sh_sym (up := up) (dn := dn) hS) (by omega))).2]
theorem col_eq {Fm : Nat → Int} {d a : Nat} (hd2 : 2 ≤ d) (hd3 : d ≤ 3) (ha : a < d) : eS (colZ Fm a) d d = midN Fm d a d := by
  rcases (show d = 2 ∨ d = 3 by omega) with rfl | rfl
  · rcases (show a = 0 ∨ a = 1 by omega) with rfl | rfl <;>
      (simp only [eS, m2, colZ, midN, adjM, prt, Nat.reduceMul, Nat.reduceAdd, Nat.reduceMod, Nat.reduceDiv, Nat.reduceEqDiff, if_true, if_false, reduceIte]; grind)
  · rcases (show a = 0 ∨ a = 1 ∨ a = 2 by omega) with rfl | rfl | rfl <;>
      (simp only [eS, m3, m2, colZ, midN, adjM, prt, Nat.reduceMul, Nat.reduceAdd, Nat.reduceMod, Nat.reduceDiv, Nat.reduceEqDiff, if_true, if_false, reduceIte]; grind)
theorem mdl_eq {Fm : Nat → Int} {d : Nat} (hd2 : 2 ≤ d) (hd3 : d ≤ 3) (ax pt : Int) : s_mdl Fm d ax pt = s_middle Fm d ax pt := by
  unfold s_mdl s_middle
  by_cases q : ax < 1 ∨ (d : Int) < ax ∨ (pt ≠ 0 ∧ pt ≠ 1)
  · rw [if_pos q, if_pos q]
  · rw [if_neg q, if_neg q]
    by_cases z : det (prt Fm 1) d = 0
    · rw [if_pos z, z]; rfl
    · rw [if_neg z, col_eq hd2 hd3 (by omega)]
theorem un_eq {Fm : Nat → Int} {d : Nat} (hd2 : 2 ≤ d) (hd3 : d ≤ 3) (hS : symF Fm) : s_unM Fm d = s_unl Fm d := by
  have s1 : Fm 9 = Fm 6 := hS 2 1 (by decide) (by decide)
  have s2 : Fm 13 = Fm 7 := hS 3 1 (by decide) (by decide)
  have s3 : Fm 14 = Fm 11 := hS 3 2 (by decide) (by decide)
  rcases (show d = 2 ∨ d = 3 by omega) with rfl | rfl
  · have e : eS (prt Fm 1) 2 1 * eS (prt Fm 1) 2 1 - 4 * eS (prt Fm 1) 2 2 = (Fm 5 - Fm 10) * (Fm 5 - Fm 10) + 4 * (Fm 6 * Fm 6) := by
      simp only [eS, m2, prt, Nat.reduceMul, Nat.reduceAdd, Nat.reduceMod, Nat.reduceDiv]; rw [s1]; grind
    unfold s_unl unlZ
    rw [if_pos rfl]
    by_cases q : sameP Fm 2
    · rw [s_unM_t q]
      have a : Fm 6 = 0 := q 1 2 (by decide) (by decide) (by decide) (by decide)
      have b : Fm 10 = Fm 5 := q 2 2 (by decide) (by decide) (by decide) (by decide)
      rw [a, b, Int.sub_self] at e
      rw [if_pos (by omega)]
    · rw [s_unM_f q, if_pos rfl, if_neg]
      intro z
      apply q
      have c1 := sq0 (Fm 5 - Fm 10)
      have c2 := sq0 (Fm 6)
      have x1 : Fm 6 = 0 := sq_z (by omega)
      have x2 : Fm 5 - Fm 10 = 0 := sq_z (by omega)
      intro i j hi1 hi2 hj1 hj2
      rcases (show i = 1 ∨ i = 2 by omega) with rfl | rfl <;> rcases (show j = 1 ∨ j = 2 by omega) with rfl | rfl
      · rfl
      · exact x1
      · exact s1.trans x1
      · show Fm 10 = Fm 5; omega
  · have e : 2 * (eS (prt Fm 1) 3 1 * eS (prt Fm 1) 3 1 - 3 * eS (prt Fm 1) 3 2) = (Fm 5 - Fm 10) * (Fm 5 - Fm 10) + (Fm 10 - Fm 15) * (Fm 10 - Fm 15) + (Fm 15 - Fm 5) * (Fm 15 - Fm 5) + 6 * (Fm 6 * Fm 6 + Fm 7 * Fm 7 + Fm 11 * Fm 11) := by
      simp only [eS, m2, prt, Nat.reduceMul, Nat.reduceAdd, Nat.reduceMod, Nat.reduceDiv]; rw [s1, s2, s3]; grind
    have hc : -(cO (prt Fm 1) 3 0) = eS (prt Fm 1) 3 3 := by
      show -(eT (prt Fm 1) 3 3) = _
      show -(-(eS (prt Fm 1) 3 3)) = _
      exact Int.neg_neg _
    unfold s_unl unlZ
    rw [if_neg (show ¬ 3 = 2 by decide), hc]
    by_cases q : sameP Fm 3
    · rw [s_unM_t q]
      have a : Fm 6 = 0 := q 1 2 (by decide) (by decide) (by decide) (by decide)
      have a2 : Fm 7 = 0 := q 1 3 (by decide) (by decide) (by decide) (by decide)
      have a3 : Fm 11 = 0 := q 2 3 (by decide) (by decide) (by decide) (by decide)
      have b : Fm 10 = Fm 5 := q 2 2 (by decide) (by decide) (by decide) (by decide)
      have b2 : Fm 15 = Fm 5 := q 3 3 (by decide) (by decide) (by decide) (by decide)
      rw [a, a2, a3, b, b2, Int.sub_self] at e
      rw [if_pos (by omega)]
    · rw [s_unM_f q, if_neg (show ¬ 3 = 2 by decide)]
      refine (if_neg ?_).symm
      intro z
      apply q
      have c1 := sq0 (Fm 5 - Fm 10)
      have c2 := sq0 (Fm 10 - Fm 15)
      have c3 := sq0 (Fm 15 - Fm 5)
      have c4 := sq0 (Fm 6)
      have c5 := sq0 (Fm 7)
      have c6 := sq0 (Fm 11)
      have x1 : Fm 6 = 0 := sq_z (by omega)
      have x2 : Fm 7 = 0 := sq_z (by omega)
      have x3 : Fm 11 = 0 := sq_z (by omega)
      have y1 : Fm 5 - Fm 10 = 0 := sq_z (by omega)
      have y2 : Fm 15 - Fm 5 = 0 := sq_z (by omega)
      intro i j hi1 hi2 hj1 hj2
      rcases (show i = 1 ∨ i = 2 ∨ i = 3 by omega) with rfl | rfl | rfl <;> rcases (show j = 1 ∨ j = 2 ∨ j = 3 by omega) with rfl | rfl | rfl
      · rfl
      · exact x1
      · exact x2
      · exact s1.trans x1
      · show Fm 10 = Fm 5; omega
      · exact x3
      · exact s2.trans x2
      · exact s3.trans x3
      · show Fm 15 = Fm 5; omega
