/-! kinds: where the signs interlace, the reference's table holds the key -/
/-- signs (a, b) of A within those (c, e) of the whole table, d + 1 rows -/
abbrev ilP (d a b c e : Nat) : Prop := a ≤ c ∧ c ≤ a + 1 ∧ b ≤ e ∧ e ≤ b + 1 ∧ a + b ≤ d ∧ c + e ≤ d + 1
theorem kP_ok : ∀ a b c e : Fin 4, ilP 2 a b c e → fndN plF (keyN a b c e : Nat) 12 = ((kiP (keyN a b c e) : Nat) : Int) := by decide +kernel
theorem kS_ok : ∀ a b c e : Fin 5, ilP 3 a b c e → fndN spF (keyN a b c e : Nat) 20 = ((kiS (keyN a b c e) : Nat) : Int) := by decide +kernel
theorem kn_eq {Fm : Nat → Int} {d : Nat} (hd2 : 2 ≤ d) (hd3 : d ≤ 3) (hA : symT (prt Fm 1) d) (hM : symT (prt Fm 0) (d + 1)) (hi : ilP d (upN (prt Fm 1) d) (dwN (prt Fm 1) d) (upN (prt Fm 0) (d + 1)) (dwN (prt Fm 0) (d + 1))) : kndM Fm d = nI (kindN Fm d) := by
  have a := cnt_eq hd2 (by omega) hA
  have b := cnt_eq (r := d + 1) (by omega) (by omega) hM
  unfold kndM kindN
  rw [a.1, a.2, b.1, b.2]
  obtain ⟨w, hw⟩ : ∃ z, z = upN (prt Fm 1) d := ⟨_, rfl⟩
  obtain ⟨x, hx⟩ : ∃ z, z = dwN (prt Fm 1) d := ⟨_, rfl⟩
  obtain ⟨y, hy⟩ : ∃ z, z = upN (prt Fm 0) (d + 1) := ⟨_, rfl⟩
  obtain ⟨v, hv⟩ : ∃ z, z = dwN (prt Fm 0) (d + 1) := ⟨_, rfl⟩
  rw [← hw, ← hx, ← hy, ← hv] at hi ⊢
  clear hw hx hy hv a b
  obtain ⟨i1, i2, i3, i4, i5, i6⟩ := hi
  by_cases q : d = 2
  · subst q
    rw [if_pos rfl, if_pos rfl]
    have k := kP_ok ⟨w, by omega⟩ ⟨x, by omega⟩ ⟨y, by omega⟩ ⟨v, by omega⟩ ⟨i1, i2, i3, i4, i5, i6⟩
    dsimp only at k
    rw [k]
    first | exact iI_nI _ | exact (iI_nI _).symm
  · have q3 : d = 3 := by omega
    subst q3
    rw [if_neg q, if_neg q]
    have k := kS_ok ⟨w, by omega⟩ ⟨x, by omega⟩ ⟨y, by omega⟩ ⟨v, by omega⟩ ⟨i1, i2, i3, i4, i5, i6⟩
    dsimp only at k
    rw [k]
    first | exact iI_nI _ | exact (iI_nI _).symm
/-- A and M interlace in every symmetric table -/
def ILs : Prop := ∀ (S : Nat → Int) (d : Nat), 2 ≤ d → d ≤ 3 → symT (prt S 0) (d + 1) → ilP d (upN (prt S 1) d) (dwN (prt S 1) d) (upN (prt S 0) (d + 1)) (dwN (prt S 0) (d + 1))
theorem sym_1 {S : Nat → Int} {d : Nat} (hd3 : d ≤ 3) (h : symT (prt S 0) (d + 1)) : symT (prt S 1) d := by
  intro a b ha hb
  have e := h (1 + a) (1 + b) (by omega) (by omega)
  unfold prt at e ⊢
  rw [q4d (1 + a) (show 1 + b < 4 by omega), q4m (1 + a) (show 1 + b < 4 by omega), q4d (1 + b) (show 1 + a < 4 by omega), q4m (1 + b) (show 1 + a < 4 by omega), Nat.zero_add, Nat.zero_add] at e
  rw [q4d a (show b < 4 by omega), q4m a (show b < 4 by omega), q4d b (show a < 4 by omega), q4m b (show a < 4 by omega)]
  exact e
theorem cut_sym {Fm G : Nat → Int} {pv : Nat} (hp : pv ≤ 3) (hS : symF Fm) : symT (prt (cutT Fm G pv) 0) 3 := by
  intro a b ha hb
  have k : ∀ x, x < 3 → skp x pv < 4 := fun x hx => by unfold skp; split <;> omega
  unfold prt cutT
  rw [q4d a (show b < 4 by omega), q4m a (show b < 4 by omega), q4d b (show a < 4 by omega), q4m b (show a < 4 by omega), Nat.zero_add, Nat.zero_add, q4d a (show b < 4 by omega), q4m a (show b < 4 by omega), q4d b (show a < 4 by omega), q4m b (show a < 4 by omega)]
  unfold cutZ
  rw [hS (skp a pv) (skp b pv) (k a ha) (k b hb), hS pv (skp b pv) (by omega) (k b hb), hS (skp a pv) pv (k a ha) (by omega)]
  grind
theorem sec_eq {Fm : Nat → Int} {d : Nat} (IL : ILs) (hd2 : 2 ≤ d) (hd3 : d ≤ 3) (hS : symF Fm) (a b c e : Int) : s_seM Fm d a b c e = s_sec Fm d a b c e := by
  by_cases q : d = 2
  · rw [s_seM_2 q, s_sec_2 q]
  · have q3 : d = 3 := by omega
    subst q3
    by_cases w : rowBad (ptR 3 e a b c) 3 10
    · rw [s_seM_t q w, s_sec_t q w]
    · rw [s_seM_f q w, s_sec_f q w]
      have h := cut_sym (Fm := Fm) (G := ptR 3 (-e) a b c) (pvN_le b c) hS
      exact kn_eq (by decide) (by decide) (sym_1 (by decide) h) h (IL _ 2 (by decide) (by decide) h)
