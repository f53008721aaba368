/-! kinds: where the signs interlace, the reference's table holds the key -/
/-- signs (a, b) of A within those (c, e) of the whole table, d + 1 rows -/
abbrev ilP (d a b c e : Nat) : Prop := a ≤ c ∧ c ≤ a + 1 ∧ b ≤ e ∧ e ≤ b + 1 ∧ a + b ≤ d ∧ c + e ≤ d + 1
theorem kP_ok : ∀ a b c e : Fin 4, ilP 2 a b c e → fndN plF (keyN a b c e : Nat) 12 = ((kiP (keyN a b c e) : Nat) : Int) := by decide +kernel
theorem kS_ok : ∀ a b c e : Fin 5, ilP 3 a b c e → fndN spF (keyN a b c e : Nat) 20 = ((kiS (keyN a b c e) : Nat) : Int) := by decide +kernel
theorem kn_eq {Fm : Nat → Int} {d : Nat} (hd2 : 2 ≤ d) (hd3 : d ≤ 3) (hS : symF Fm) (hi : ilP d (upN (prt Fm 1) d) (dwN (prt Fm 1) d) (upN (prt Fm 0) (d + 1)) (dwN (prt Fm 0) (d + 1))) : kndM Fm d = nI (kindN Fm d) := by
  have a := cnt_eq hd2 (by omega) (prt_sym (f := 1) (r := d) hS (by omega))
  have b := cnt_eq (r := d + 1) (by omega) (by omega) (prt_sym (f := 0) (r := d + 1) hS (by omega))
  unfold kndM kindN
  rw [a.1, a.2, b.1, b.2]
  obtain ⟨w, hw⟩ : ∃ z, z = upN (prt Fm 1) d := ⟨_, rfl⟩
  obtain ⟨x, hx⟩ : ∃ z, z = dwN (prt Fm 1) d := ⟨_, rfl⟩
  obtain ⟨y, hy⟩ : ∃ z, z = upN (prt Fm 0) (d + 1) := ⟨_, rfl⟩
  obtain ⟨v, hv⟩ : ∃ z, z = dwN (prt Fm 0) (d + 1) := ⟨_, rfl⟩
  rw [← hw, ← hx, ← hy, ← hv] at hi ⊢
  clear hw hx hy hv a b
  obtain ⟨i1, i2, i3, i4, i5, i6⟩ := hi
  by_cases q : d = 2
  · subst q
    rw [if_pos rfl, if_pos rfl]
    have k := kP_ok ⟨w, by omega⟩ ⟨x, by omega⟩ ⟨y, by omega⟩ ⟨v, by omega⟩ ⟨i1, i2, i3, i4, i5, i6⟩
    dsimp only at k
    rw [k]
    first | exact iI_nI _ | exact (iI_nI _).symm
  · have q3 : d = 3 := by omega
    subst q3
    rw [if_neg q, if_neg q]
    have k := kS_ok ⟨w, by omega⟩ ⟨x, by omega⟩ ⟨y, by omega⟩ ⟨v, by omega⟩ ⟨i1, i2, i3, i4, i5, i6⟩
    dsimp only at k
    rw [k]
    first | exact iI_nI _ | exact (iI_nI _).symm
