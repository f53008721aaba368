/-! middles: class and reference answer alike -/
theorem rk_val4 (U : Nat → Int) : rkN U 4 = if eS U 4 4 = 0 then (if eS U 4 3 = 0 then (if eS U 4 2 = 0 then (if eS U 4 1 = 0 then 0 else 1) else 2) else 3) else 4 := by
  have c0 : cO U 4 0 = eS U 4 4 := rfl
  have c1 : cO U 4 1 = -(eS U 4 3) := rfl
  have c2 : cO U 4 2 = eS U 4 2 := rfl
  have c3 : cO U 4 3 = -(eS U 4 1) := rfl
  unfold rkN
  by_cases q : eS U 4 4 = 0
  · by_cases w : eS U 4 3 = 0
    · by_cases v : eS U 4 2 = 0
      · by_cases t : eS U 4 1 = 0
        · simp [zerN, c0, c1, c2, c3, q, w, v, t]
        · simp [zerN, c0, c1, c2, c3, q, w, v, t]
      · simp [zerN, c0, c1, c2, c3, q, w, v]
    · simp [zerN, c0, c1, c2, c3, q, w]
  · simp [zerN, c0, c1, c2, c3, q]
theorem mid_eq {Fm : Nat → Int} {d r1 r2 : Nat} (hd2 : 2 ≤ d) (hd3 : d ≤ 3) (hS : symF Fm) (h1 : rkP (rkF Fm d) d d r1) (h2 : rkP (rkF Fm d) d (d + 1) r2) : (if r1 = r2 then nI (d - r1) else -3) = s_mid Fm d := by
  have e := r1_eq hd2 hd3 hS h1
  have s1 : Fm 9 = Fm 6 := hS 2 1 (by decide) (by decide)
  have s2 : Fm 13 = Fm 7 := hS 3 1 (by decide) (by decide)
  have s3 : Fm 14 = Fm 11 := hS 3 2 (by decide) (by decide)
  have s4 : Fm 1 = Fm 4 := hS 0 1 (by decide) (by decide)
  have s5 : Fm 2 = Fm 8 := hS 0 2 (by decide) (by decide)
  have s6 : Fm 3 = Fm 12 := hS 0 3 (by decide) (by decide)
  have key : r1 ≠ r2 ↔ rkN (prt Fm 0) (d + 1) = r1 + 2 := by
    rcases (show d = 2 ∨ d = 3 by omega) with rfl | rfl
    · rw [show 2 + 1 = 3 from rfl, rk_val3]
      refine mid_2 (m := Fm 0) (a := Fm 4) (b := Fm 8) (x := Fm 5) (y := Fm 6) (z := Fm 10) rfl rfl s1 rfl rfl rfl h1 h2 ?_ ?_
      · simp only [eS, m3, m2, prt, Nat.reduceMul, Nat.reduceAdd, Nat.reduceMod, Nat.reduceDiv]; rw [s1, s4, s5]; clear e h1 h2 hS; grind
      · simp only [eS, m3, m2, prt, Nat.reduceMul, Nat.reduceAdd, Nat.reduceMod, Nat.reduceDiv]; rw [s1, s4, s5]; clear e h1 h2 hS; grind
    · rw [show 3 + 1 = 4 from rfl, rk_val4]
      refine mid_3 (m := Fm 0) (a := Fm 4) (b := Fm 8) (c := Fm 12) (x := Fm 5) (y := Fm 10) (z := Fm 15) (p := Fm 6) (q := Fm 7) (s := Fm 11) rfl rfl rfl s1 rfl rfl s2 s3 rfl rfl rfl rfl h1 h2 ?_ ?_ ?_
      · simp only [eS, m4, m3, m2, prt, Nat.reduceMul, Nat.reduceAdd, Nat.reduceMod, Nat.reduceDiv]; rw [s1, s2, s3, s4, s5, s6]; clear e h1 h2 hS; grind
      · simp only [eS, m4, m3, m2, prt, Nat.reduceMul, Nat.reduceAdd, Nat.reduceMod, Nat.reduceDiv]; rw [s1, s2, s3, s4, s5, s6]; clear e h1 h2 hS; grind
      · simp only [eS, m4, m3, m2, prt, Nat.reduceMul, Nat.reduceAdd, Nat.reduceMod, Nat.reduceDiv]; rw [s1, s2, s3, s4, s5, s6]; clear e h1 h2 hS; grind
  unfold s_mid
  rw [← e]
  by_cases q : r1 = r2
  · rw [if_pos q, if_neg (fun z => key.mpr z q)]
  · rw [if_neg q, if_pos (key.mp q)]
