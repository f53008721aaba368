/-! contracts of ConicKindsModel: lines (wip/spec_model10.py, modelJ) -/
def rmOK (rt z : Int) : Prop := (0 ≤ rt ∧ rt ≤ 32 ∧ rt * rt = z) ∨ (rt = -1 ∧ ∀ j : Nat, (j : Int) * j ≠ z)
theorem sq_mono {a b : Nat} (h : a ≤ b) : (a : Int) * a ≤ (b : Int) * b := Int.mul_le_mul (by omega) (by omega) (by omega) (by omega)
theorem rt_lt {r : Nat} {z : Int} (hz : inB z 1000) (h : (r : Int) * r < z) : r < 32 := by
  rcases Nat.lt_or_ge r 32 with q | q
  · exact q
  · have := sq_mono q; unfold inB at hz; omega
theorem rt_no {r : Nat} {z : Int} (h1 : ∀ j, j < r → (j : Int) * j < z) (h2 : ¬ (r : Int) * r < z) (h3 : ¬ (r : Int) * r = z) : ∀ j : Nat, (j : Int) * j ≠ z := by
  intro j q
  rcases Nat.lt_or_ge j r with w | w
  · have := h1 j w; omega
  · have := sq_mono w; omega
def two (L : Nat → Int) (u0 u1 u2 v0 v1 v2 : Int) : Prop := ∀ i, i < 3 → L i = woN (ptR 2 u0 u1 u2 0) 3 i ∧ L (3 + i) = woN (ptR 2 v0 v1 v2 0) 3 i
/-- what findTwo leaves -/
def f2P (Fm : Nat → Int) (cr : Nat) (lm : Nat) (L : Nat → Int) : Prop :=
  (cr = 0 → ∃ w, rmOK w (if Fm 5 ≠ 0 then Fm 1 * Fm 1 - Fm 5 * Fm 0 else Fm 2 * Fm 2 - Fm 10 * Fm 0) ∧ (w < 0 → lm = 0) ∧ (0 ≤ w → lm = 2 ∧ (Fm 5 ≠ 0 → two L (Fm 1 + w) (Fm 5) (Fm 6) (Fm 1 - w) (Fm 5) (Fm 6)) ∧ (Fm 5 = 0 → two L (Fm 2 + w) 0 (Fm 10) (Fm 2 - w) 0 (Fm 10))))
  ∧ (cr ≠ 0 → ∃ r, rmOK r (Fm 6 * Fm 6 - Fm 5 * Fm 10) ∧ (r < 0 → lm = 0) ∧ (0 ≤ r → lm = 2 ∧ (Fm 5 ≠ 0 → two L (Fm 1 * (Fm 6 + r) - Fm 5 * Fm 2) (r * Fm 5) (r * (Fm 6 + r)) (Fm 5 * Fm 2 - Fm 1 * (Fm 6 - r)) (r * Fm 5) (r * (Fm 6 - r))) ∧ (Fm 5 = 0 → Fm 10 ≠ 0 → two L (Fm 2 * (Fm 6 + r) - Fm 10 * Fm 1) (r * (Fm 6 + r)) (r * Fm 10) (Fm 10 * Fm 1 - Fm 2 * (Fm 6 - r)) (r * (Fm 6 - r)) (r * Fm 10)) ∧ (Fm 5 = 0 → Fm 10 = 0 → two L (Fm 2) (Fm 6) 0 (Fm 1) 0 (Fm 6))))
theorem two_of {L1 L2 : Nat → Int} {u0 u1 u2 v0 v1 v2 : Int} (h1 : ∀ i, i < 3 → L1 (3 * 0 + i) = woN (ptR 2 u0 u1 u2 0) 3 i) (h2 : ∀ i, i < 3 → L2 (3 * 1 + i) = woN (ptR 2 v0 v1 v2 0) 3 i) (h3 : ∀ i, i < 3 → L2 (3 * (1 - 1) + i) = L1 (3 * (1 - 1) + i)) : two L2 u0 u1 u2 v0 v1 v2 := by
  intro i hi
  refine ⟨?_, h2 i hi⟩
  have a := h1 i hi
  have b := h3 i hi
  rw [show 3 * 0 + i = i by omega] at a
  rw [show 3 * (1 - 1) + i = i by omega] at b
  rw [b, a]
theorem rm_B {r z : Int} (h : rmOK r z) : inB r 32 := by
  rcases h with ⟨a, b, _⟩ | ⟨a, _⟩
  · exact ⟨by omega, b⟩
  · exact ⟨by omega, by omega⟩
theorem two_B {L1 L2 : Nat → Int} (h1 : ∀ i, i < 3 → lB (L1 (3 * 0 + i))) (h2 : ∀ i, i < 3 → lB (L2 (3 * 1 + i))) (h3 : ∀ i, i < 3 → L2 (3 * (1 - 1) + i) = L1 (3 * (1 - 1) + i)) : ∀ k, k < 6 → lB (L2 k) := by
  intro k hk
  by_cases q : k < 3
  · have b := h3 k q
    have a := h1 k q
    rw [show 3 * 0 + k = k by omega] at a
    rw [show 3 * (1 - 1) + k = k by omega] at b
    rw [b]; exact a
  · have a := h2 (k - 3) (by omega)
    rw [show 3 * 1 + (k - 3) = k by omega] at a
    exact a
theorem set3 {Q0 : Nat → Int} {u0 u1 u2 : Int} : ∀ k, k < 3 → upZ (upZ (upZ Q0 0 u0) 1 u1) 2 u2 k = ptR 2 u0 u1 u2 0 k := by
  intro k hk
  match k, hk with
  | 0, _ => rfl
  | 1, _ => rfl
  | 2, _ => rfl
/-- what findLines leaves -/
def flP (Fm : Nat → Int) (kv : Int) (lm : Nat) (L : Nat → Int) : Prop :=
  (kv = 7 → lm = 1 ∧ ∀ i, i < 3 → L i = woN (row7 Fm) 3 i) ∧ (kv = 9 → lm = 1 ∧ ∀ i, i < 3 → L i = woN (row9 Fm) 3 i) ∧ (kv = 5 → f2P Fm 1 lm L) ∧ (kv = 6 → f2P Fm 0 lm L) ∧ (¬ (kv = 5 ∨ kv = 6 ∨ kv = 7 ∨ kv = 9) → lm = 0)

def rm_r_root : Room := { frames := 0, cells := 0, slots := 0, locals := 0 }
set_option maxHeartbeats 4000000 in
set_option maxRecDepth 100000 in
/-- the root -/
theorem r_root (l : Launch) (D : va_G) (cJ cI : ClassId) (z : Int) (hz : inB z 1000) (sz : Nat) : xMl l y_M_root (Cond.code y_M_root b_M_root 4 (some .long) :: tW) rm_r_root [.long (lI z)] D vwC [(cJ, .long), (cI, .int)] sz [] (fun (rv : Int64) (uo : Int) => rv = lI uo ∧ (rmOK uo z)) (fun (uo : Int) => []) 0 0 := by
  refine xol (cc := b_M_root) (maxL := 4) (by decide) rfl (Nat.le_of_ble_eq_true rfl) ?_
  intro p e s m args below meth c Q A hx hb hml hts hown hN hA hS hP hK hD hret ls hl
  have hl : lv_has ls 4 [(0, .long (lI z))] := hl
  obtain ⟨H, hH⟩ : ∃ z, z = s.heap := ⟨_, rfl⟩
  obtain ⟨locs, hlc⟩ : ∃ z : List Loc, z = [] := ⟨_, rfl⟩
  rw [← hH] at hP
  have hS : va_S A s.heap H locs := by rw [hH, hlc]; exact hS
  have key : W p l e rm_r_root s m args below meth c H locs 0 0 Q (F0 m 0 ls []) := by
    refine lv_lconst (v := lI 0) hx hb d_M_root_0 (by decide) ?_
    refine lv_lstore_n (lv' := [(2, .long (lI 0)), (0, .long (lI z))]) hx hb d_M_root_1 rfl hl (by decide) rfl (fun ls hl => ?_)
    have lp_2 : ∀ (n_2 : Nat) (r : Nat) (H : Heap) (locs : List Loc) (ls : Array Slot), (r ≤ 32) → (∀ j, j < r → (j : Int) * j < z) → (33 - r) < n_2 → va_P D vwC [] H → va_D A [] → va_S A s.heap H locs → lv_has ls 4 [(0, .long (lI z)), (2, .long (lI ((r : Nat) : Int)))] → W p l e rm_r_root s m args below meth c H locs 0 0 Q (F0 m 2 ls []) := by
      intro n_2
      induction n_2 with
      | zero => intro r H locs ls hr h1 hn_2; exact absurd hn_2 (Nat.not_lt_zero _)
      | succ n_2 ih_2 =>
        intro r H locs ls hr h1 hn_2 hP hD hS hl
        refine lv_lload_n hx hb d_M_root_2 rfl (lv_at hl 1 rfl) ?_
        refine lv_lload_n hx hb d_M_root_3 rfl (lv_at hl 1 rfl) ?_
        refine xl_mul hx hb d_M_root_4 ?_
        refine lv_lload_n hx hb d_M_root_5 rfl (lv_at hl 0 rfl) ?_
        refine xl_ge (tgt := 17) hx hb (by first | exact lB_of hz (by decide) | exact lB_of (mulB (a := (r : Int)) (A := 40) ⟨by omega, by omega⟩ (b := (r : Int)) (B := 40) ⟨by omega, by omega⟩) (by decide)) (by first | exact lB_of hz (by decide) | exact lB_of (mulB (a := (r : Int)) (A := 40) ⟨by omega, by omega⟩ (b := (r : Int)) (B := 40) ⟨by omega, by omega⟩) (by decide)) d_M_root_6 d_M_root_7 (by decide) (fun c7_0 => ?_) (fun c7_0 => ?_)
        · skip
          refine lv_lload_n hx hb d_M_root_17 rfl (lv_at hl 1 rfl) ?_
          refine lv_lload_n hx hb d_M_root_18 rfl (lv_at hl 1 rfl) ?_
          refine xl_mul hx hb d_M_root_19 ?_
          refine lv_lload_n hx hb d_M_root_20 rfl (lv_at hl 0 rfl) ?_
          refine xl_ne (tgt := 29) hx hb (by first | exact lB_of hz (by decide) | exact lB_of (mulB (a := (r : Int)) (A := 40) ⟨by omega, by omega⟩ (b := (r : Int)) (B := 40) ⟨by omega, by omega⟩) (by decide)) (by first | exact lB_of hz (by decide) | exact lB_of (mulB (a := (r : Int)) (A := 40) ⟨by omega, by omega⟩ (b := (r : Int)) (B := 40) ⟨by omega, by omega⟩) (by decide)) d_M_root_21 d_M_root_22 (by decide) (fun c22_1 => ?_) (fun c22_1 => ?_)
          · skip
            refine lv_ldc2 (v := lI (-1)) hx hb hown (hts _ tw_572) d_M_root_29 ?_
            exact hret H locs _ ls (lI (-1)) (-1) d_M_root_32 ⟨rfl, Or.inr ⟨rfl, rt_no h1 (by omega) (by omega)⟩⟩ hP hD hS
          · skip
            refine lv_lload_n hx hb d_M_root_25 rfl (lv_at hl 1 rfl) ?_
            refine lv_goto (tgt := 32) hx hb d_M_root_26 (by decide) ?_
            exact hret H locs _ ls (lI ((r : Nat) : Int)) ((r : Nat) : Int) d_M_root_32 ⟨rfl, Or.inl ⟨by omega, by omega, by omega⟩⟩ hP hD hS
        · skip
          refine lv_lload_n hx hb d_M_root_10 rfl (lv_at hl 1 rfl) ?_
          refine lv_lconst (v := lI 1) hx hb d_M_root_11 (by decide) ?_
          refine xl_add hx hb d_M_root_12 ?_
          refine lv_lstore_n (lv' := [(2, .long (lI (((r : Nat) : Int) + 1))), (0, .long (lI z))]) hx hb d_M_root_13 rfl hl (by decide) rfl (fun ls hl => ?_)
          refine lv_goto (tgt := 2) hx hb d_M_root_14 (by decide) ?_
          have hrl : r < 32 := rt_lt hz (by omega)
          exact ih_2 (r + 1) H locs ls (by omega) (fun j q => by by_cases e : j = r; rw [e]; omega; exact h1 j (by omega)) (by omega) hP hD hS (lv_sub hl [1, 0] rfl)
    exact lp_2 ((33 - 0) + 1) 0 H locs ls (by decide) (fun j q => absurd q (Nat.not_lt_zero _)) (by omega) hP hD hS (lv_sub hl [1, 0] rfl)
  rw [hH, hlc] at key; exact key

def rm_r_setLine : Room := { frames := 2, cells := 0, slots := 0, locals := 56 }
set_option maxHeartbeats 4000000 in
set_option maxRecDepth 100000 in
/-- a line is set -/
theorem r_setLine (l : Launch) (D : va_G) (cJ cI : ClassId) (g : Nat) (cd : Int32) (d : Nat) (ik : Int32) (rw : Int32) (ab : Int32) (be : Int32) (a0 : Int32) (a1 : Int32) (b0 : Int32) (b1 : Int32) (lm : Int32) (mm : Nat) (kf : Nat) (tb : Nat) (wk : Nat) (pl : Nat) (sp : Nat) (po : Nat) (to : Nat) (ba : Nat) (li : Nat) (Q0 : Nat → Int) (L0 : Nat → Int) (kk : Nat) (u0 : Int) (u1 : Int) (u2 : Int) (hkk : kk ≤ 1) (hu0 : inB u0 50000) (hu1 : inB u1 50000) (hu2 : inB u2 50000) (sz : Nat) : xMv l y_M_setLine (Cond.code y_M_setLine b_M_setLine 9 none :: tW) rm_r_setLine [.ref g, .int (nI kk), .long (lI u0), .long (lI u1), .long (lI u2)] D vwC [(cJ, .long), (cI, .int)] sz [(g, .inr (2, [.int cd, .int (nI d), .ref mm, .int ik, .ref kf, .ref tb, .int rw, .ref wk, .int ab, .int be, .ref pl, .ref sp, .int a0, .int a1, .int b0, .int b1, .ref po, .ref to, .ref ba, .ref li, .int lm])), (to, LA cJ 4 Q0), (li, LA cJ 6 L0)] (fun (uo : (Nat → Int) × (Nat → Int)) => (∀ i, i < 3 → uo.2 (3 * kk + i) = woN (ptR 2 u0 u1 u2 0) 3 i) ∧ (∀ i, i < 3 → lB (uo.2 (3 * kk + i))) ∧ ∀ i, i < 3 → uo.2 (3 * (1 - kk) + i) = L0 (3 * (1 - kk) + i)) (fun (uo : (Nat → Int) × (Nat → Int)) => [(g, .inr (2, [.int cd, .int (nI d), .ref mm, .int ik, .ref kf, .ref tb, .int rw, .ref wk, .int ab, .int be, .ref pl, .ref sp, .int a0, .int a1, .int b0, .int b1, .ref po, .ref to, .ref ba, .ref li, .int lm])), (to, LA cJ 4 uo.1), (li, LA cJ 6 uo.2)]) 0 0 := by
  refine xov (cc := b_M_setLine) (maxL := 9) (by decide) rfl (Nat.le_of_ble_eq_true rfl) ?_
  intro p e s m args below meth c Q A hx hb hml hts hown hN hA hS hP hK hD hret ls hl
  have hl : lv_has ls 9 [(0, .ref g), (1, .int (nI kk)), (2, .long (lI u0)), (4, .long (lI u1)), (6, .long (lI u2))] := hl
  obtain ⟨H, hH⟩ : ∃ z, z = s.heap := ⟨_, rfl⟩
  obtain ⟨locs, hlc⟩ : ∃ z : List Loc, z = [] := ⟨_, rfl⟩
  rw [← hH] at hP
  have hS : va_S A s.heap H locs := by rw [hH, hlc]; exact hS
  have key : W p l e rm_r_setLine s m args below meth c H locs 0 0 Q (F0 m 0 ls []) := by
    refine lv_aload_n hx hb d_M_setLine_0 rfl (lv_at hl 0 rfl) ?_
    refine va_get (D := D) (ci := 2) (v := .ref to) (C := R_M) (T := F_M) (N := 21) hx hb hts iw_M hown hK hP 0 rfl rfl 17 (by decide) (hts _ tw_404) (fun _ h9 => h9) rfl d_M_setLine_1 ?_
    refine lv_iconst (v := nI 0) hx hb d_M_setLine_4 (by decide) ?_
    refine lv_lload_n hx hb d_M_setLine_5 rfl (lv_at hl 2 rfl) ?_
    refine xl_ast hx hb hK hP hD hS 1 0 rfl rfl (k := 0) (by omega) (by first | decide | omega) d_M_setLine_6 (fun H locs hP hD hS => ?_)
    have hP : va_P D vwC [(g, .inr (2, [.int cd, .int (nI d), .ref mm, .int ik, .ref kf, .ref tb, .int rw, .ref wk, .int ab, .int be, .ref pl, .ref sp, .int a0, .int a1, .int b0, .int b1, .ref po, .ref to, .ref ba, .ref li, .int lm])), (to, LA cJ 4 (upZ Q0 0 u0)), (li, LA cJ 6 L0)] H := hP
    have hD : va_D A [(g, .inr (2, [.int cd, .int (nI d), .ref mm, .int ik, .ref kf, .ref tb, .int rw, .ref wk, .int ab, .int be, .ref pl, .ref sp, .int a0, .int a1, .int b0, .int b1, .ref po, .ref to, .ref ba, .ref li, .int lm])), (to, LA cJ 4 (upZ Q0 0 u0)), (li, LA cJ 6 L0)] := hD
    refine lv_aload_n hx hb d_M_setLine_7 rfl (lv_at hl 0 rfl) ?_
    refine va_get (D := D) (ci := 2) (v := .ref to) (C := R_M) (T := F_M) (N := 21) hx hb hts iw_M hown hK hP 0 rfl rfl 17 (by decide) (hts _ tw_404) (fun _ h9 => h9) rfl d_M_setLine_8 ?_
    refine lv_iconst (v := nI 1) hx hb d_M_setLine_11 (by decide) ?_
    refine lv_lload hx hb d_M_setLine_12 (lv_at hl 3 rfl) ?_
    refine xl_ast hx hb hK hP hD hS 1 0 rfl rfl (k := 1) (by omega) (by first | decide | omega) d_M_setLine_14 (fun H locs hP hD hS => ?_)
    have hP : va_P D vwC [(g, .inr (2, [.int cd, .int (nI d), .ref mm, .int ik, .ref kf, .ref tb, .int rw, .ref wk, .int ab, .int be, .ref pl, .ref sp, .int a0, .int a1, .int b0, .int b1, .ref po, .ref to, .ref ba, .ref li, .int lm])), (to, LA cJ 4 (upZ (upZ Q0 0 u0) 1 u1)), (li, LA cJ 6 L0)] H := hP
    have hD : va_D A [(g, .inr (2, [.int cd, .int (nI d), .ref mm, .int ik, .ref kf, .ref tb, .int rw, .ref wk, .int ab, .int be, .ref pl, .ref sp, .int a0, .int a1, .int b0, .int b1, .ref po, .ref to, .ref ba, .ref li, .int lm])), (to, LA cJ 4 (upZ (upZ Q0 0 u0) 1 u1)), (li, LA cJ 6 L0)] := hD
    refine lv_aload_n hx hb d_M_setLine_15 rfl (lv_at hl 0 rfl) ?_
    refine va_get (D := D) (ci := 2) (v := .ref to) (C := R_M) (T := F_M) (N := 21) hx hb hts iw_M hown hK hP 0 rfl rfl 17 (by decide) (hts _ tw_404) (fun _ h9 => h9) rfl d_M_setLine_16 ?_
    refine lv_iconst (v := nI 2) hx hb d_M_setLine_19 (by decide) ?_
    refine lv_lload hx hb d_M_setLine_20 (lv_at hl 4 rfl) ?_
    refine xl_ast hx hb hK hP hD hS 1 0 rfl rfl (k := 2) (by omega) (by first | decide | omega) d_M_setLine_22 (fun H locs hP hD hS => ?_)
    have hP : va_P D vwC [(g, .inr (2, [.int cd, .int (nI d), .ref mm, .int ik, .ref kf, .ref tb, .int rw, .ref wk, .int ab, .int be, .ref pl, .ref sp, .int a0, .int a1, .int b0, .int b1, .ref po, .ref to, .ref ba, .ref li, .int lm])), (to, LA cJ 4 (upZ (upZ (upZ Q0 0 u0) 1 u1) 2 u2)), (li, LA cJ 6 L0)] H := hP
    have hD : va_D A [(g, .inr (2, [.int cd, .int (nI d), .ref mm, .int ik, .ref kf, .ref tb, .int rw, .ref wk, .int ab, .int be, .ref pl, .ref sp, .int a0, .int a1, .int b0, .int b1, .ref po, .ref to, .ref ba, .ref li, .int lm])), (to, LA cJ 4 (upZ (upZ (upZ Q0 0 u0) 1 u1) 2 u2)), (li, LA cJ 6 L0)] := hD
    obtain ⟨E9, hE9⟩ : ∃ z, z = upZ (upZ (upZ Q0 0 u0) 1 u1) 2 u2 := ⟨_, rfl⟩
    rw [← hE9] at hP hD
    have hP : va_P D vwC [(g, .inr (2, [.int cd, .int (nI d), .ref mm, .int ik, .ref kf, .ref tb, .int rw, .ref wk, .int ab, .int be, .ref pl, .ref sp, .int a0, .int a1, .int b0, .int b1, .ref po, .ref to, .ref ba, .ref li, .int lm])), (to, LA cJ 4 E9), (li, LA cJ 6 L0)] H := hP
    have hD : va_D A [(g, .inr (2, [.int cd, .int (nI d), .ref mm, .int ik, .ref kf, .ref tb, .int rw, .ref wk, .int ab, .int be, .ref pl, .ref sp, .int a0, .int a1, .int b0, .int b1, .ref po, .ref to, .ref ba, .ref li, .int lm])), (to, LA cJ 4 E9), (li, LA cJ 6 L0)] := hD
    have hE : ∀ k, k < 3 → E9 k = (ptR 2 u0 u1 u2 0) k := by rw [hE9]; exact set3
    have hEB : ∀ k, k < 3 → inB (E9 k) 50000 := fun k hk => by rw [hE k hk]; rcases (show k = 0 ∨ k = 1 ∨ k = 2 by omega) with rfl | rfl | rfl; exact hu0; exact hu1; exact hu2
    refine lv_iconst (v := nI 0) hx hb d_M_setLine_23 (by decide) ?_
    refine lv_istore (lv' := [(8, .int (nI 0)), (0, .ref g), (1, .int (nI kk)), (2, .long (lI u0)), (4, .long (lI u1)), (6, .long (lI u2))]) hx hb d_M_setLine_24 hl (by decide) rfl (fun ls hl => ?_)
    have lp_26 : ∀ (n_26 : Nat) (i : Nat) (L3 : Nat → Int) (H : Heap) (locs : List Loc) (ls : Array Slot), (i ≤ 3) → (∀ x, x < i → L3 (3 * kk + x) = woN E9 3 x) → (∀ x, x < 3 → L3 (3 * (1 - kk) + x) = L0 (3 * (1 - kk) + x)) → (3 - i) < n_26 → va_P D vwC [(g, .inr (2, [.int cd, .int (nI d), .ref mm, .int ik, .ref kf, .ref tb, .int rw, .ref wk, .int ab, .int be, .ref pl, .ref sp, .int a0, .int a1, .int b0, .int b1, .ref po, .ref to, .ref ba, .ref li, .int lm])), (to, LA cJ 4 E9), (li, LA cJ 6 L3)] H → va_D A [(g, .inr (2, [.int cd, .int (nI d), .ref mm, .int ik, .ref kf, .ref tb, .int rw, .ref wk, .int ab, .int be, .ref pl, .ref sp, .int a0, .int a1, .int b0, .int b1, .ref po, .ref to, .ref ba, .ref li, .int lm])), (to, LA cJ 4 E9), (li, LA cJ 6 L3)] → va_S A s.heap H locs → lv_has ls 9 [(0, .ref g), (1, .int (nI kk)), (8, .int (nI i))] → W p l e rm_r_setLine s m args below meth c H locs 0 0 Q (F0 m 26 ls []) := by
      intro n_26
      induction n_26 with
      | zero => intro i L3 H locs ls hi h1 h2 hn_26; exact absurd hn_26 (Nat.not_lt_zero _)
      | succ n_26 ih_26 =>
        intro i L3 H locs ls hi h1 h2 hn_26 hP hD hS hl
        refine lv_iload hx hb d_M_setLine_26 (lv_at hl 2 rfl) ?_
        refine lv_iconst (v := nI 3) hx hb d_M_setLine_28 (by decide) ?_
        refine xn_ge (tgt := 56) hx hb (by omega) (by omega) d_M_setLine_29 (by decide) (fun c29_0 => ?_) (fun c29_0 => ?_)
        · skip
          exact hret H locs _ ls (E9, L3) d_M_setLine_56 (by first | exact ⟨fun x hx2 => (h1 x (by omega)).trans (woN_congr hx2 hE), fun x hx2 => by rw [h1 x (by omega)]; exact woN_lB (hEB x hx2), h2⟩ | (dsimp only; exact ⟨fun x hx2 => (h1 x (by omega)).trans (woN_congr hx2 hE), fun x hx2 => by rw [h1 x (by omega)]; exact woN_lB (hEB x hx2), h2⟩)) hP hD hS
        · skip
          refine lv_aload_n hx hb d_M_setLine_32 rfl (lv_at hl 0 rfl) ?_
          refine va_get (D := D) (ci := 2) (v := .ref li) (C := R_M) (T := F_M) (N := 21) hx hb hts iw_M hown hK hP 0 rfl rfl 19 (by decide) (hts _ tw_406) (fun _ h9 => h9) rfl d_M_setLine_33 ?_
          refine lv_iconst (v := nI 3) hx hb d_M_setLine_36 (by decide) ?_
          refine lv_iload_n hx hb d_M_setLine_37 rfl (lv_at hl 1 rfl) ?_
          refine xn_mul hx hb d_M_setLine_38 ?_
          refine lv_iload hx hb d_M_setLine_39 (lv_at hl 2 rfl) ?_
          refine xn_add hx hb d_M_setLine_41 ?_
          refine lv_aload_n hx hb d_M_setLine_42 rfl (lv_at hl 0 rfl) ?_
          refine lv_iconst (v := nI 3) hx hb d_M_setLine_43 (by decide) ?_
          refine lv_iload hx hb d_M_setLine_44 (lv_at hl 2 rfl) ?_
          refine xcl (wc := [(g, .inr (2, [.int cd, .int (nI d), .ref mm, .int ik, .ref kf, .ref tb, .int rw, .ref wk, .int ab, .int be, .ref pl, .ref sp, .int a0, .int a1, .int b0, .int b1, .ref po, .ref to, .ref ba, .ref li, .int lm])), (to, LA cJ 4 E9)]) (wr := [(li, LA cJ 6 L3)]) hP hD hS hA [0, 1] [2] rfl rfl (by decide) (by decide) (va_runV (As := [.int (nI 3), .int (nI i)]) (rest := [.int (nI ((3 * kk) + i)), .ref li]) ⟨hx, hb, hml, hown, hts⟩ (r_without l D cJ cI g cd d ik rw ab be a0 a1 b0 b1 lm mm kf tb wk pl sp po to ba li E9 3 i (by first | assumption | omega) (by first | assumption | omega) (fun k hk => nB_of (hEB k hk) (by decide)) H.size) (cwV 2 hts (gV tw_568 tw_570 tws_29 tw_3 tw_571) rfl rfl rfl ⟨rfl, hd_M_without⟩ ⟨Nat.le_of_ble_eq_true rfl, Nat.le_of_ble_eq_true rfl⟩) (xPreV (C := R_M) (T := F_M) (N := 21) (q0 := 0) hN hK (hP.sub (ws' := [(g, .inr (2, [.int cd, .int (nI d), .ref mm, .int ik, .ref kf, .ref tb, .int rw, .ref wk, .int ab, .int be, .ref pl, .ref sp, .int a0, .int a1, .int b0, .int b1, .ref po, .ref to, .ref ba, .ref li, .int lm])), (to, LA cJ 4 E9)]) [0, 1] rfl) (hD.sub (ws' := [(g, .inr (2, [.int cd, .int (nI d), .ref mm, .int ik, .ref kf, .ref tb, .int rw, .ref wk, .int ab, .int be, .ref pl, .ref sp, .int a0, .int a1, .int b0, .int b1, .ref po, .ref to, .ref ba, .ref li, .int lm])), (to, LA cJ 4 E9)]) [0, 1] (by decide) rfl) rfl rfl) rfl rfl hl.1 rfl (lv_room (Nat.le_of_ble_eq_true rfl)) d_M_setLine_46 ⟨Nat.le_of_ble_eq_true rfl, Nat.le_of_ble_eq_true rfl⟩) (fun r_2 u_3 H locs hw_4 hP hD hS => ?_)
          try dsimp only at hw_4
          have hP : va_P D vwC [(g, .inr (2, [.int cd, .int (nI d), .ref mm, .int ik, .ref kf, .ref tb, .int rw, .ref wk, .int ab, .int be, .ref pl, .ref sp, .int a0, .int a1, .int b0, .int b1, .ref po, .ref to, .ref ba, .ref li, .int lm])), (to, LA cJ 4 E9), (li, LA cJ 6 L3)] H := hP.sub [1, 2, 0] rfl
          have hD : va_D A [(g, .inr (2, [.int cd, .int (nI d), .ref mm, .int ik, .ref kf, .ref tb, .int rw, .ref wk, .int ab, .int be, .ref pl, .ref sp, .int a0, .int a1, .int b0, .int b1, .ref po, .ref to, .ref ba, .ref li, .int lm])), (to, LA cJ 4 E9), (li, LA cJ 6 L3)] := hD.sub [1, 2, 0] (by decide) rfl
          subst hw_4
          refine xl_ast hx hb hK hP hD hS 2 0 rfl rfl (k := (3 * kk) + i) (by omega) (by first | decide | omega) d_M_setLine_49 (fun H locs hP hD hS => ?_)
          have hP : va_P D vwC [(g, .inr (2, [.int cd, .int (nI d), .ref mm, .int ik, .ref kf, .ref tb, .int rw, .ref wk, .int ab, .int be, .ref pl, .ref sp, .int a0, .int a1, .int b0, .int b1, .ref po, .ref to, .ref ba, .ref li, .int lm])), (to, LA cJ 4 E9), (li, LA cJ 6 (upZ L3 ((3 * kk) + i) (woN E9 3 i)))] H := hP
          have hD : va_D A [(g, .inr (2, [.int cd, .int (nI d), .ref mm, .int ik, .ref kf, .ref tb, .int rw, .ref wk, .int ab, .int be, .ref pl, .ref sp, .int a0, .int a1, .int b0, .int b1, .ref po, .ref to, .ref ba, .ref li, .int lm])), (to, LA cJ 4 E9), (li, LA cJ 6 (upZ L3 ((3 * kk) + i) (woN E9 3 i)))] := hD
          refine lv_iinc (v := nI (i + 1)) (lv' := [(8, .int (nI (i + 1))), (0, .ref g), (1, .int (nI kk))]) hx hb d_M_setLine_50 hl (k := 2) rfl (nI_add _ _) (by decide) rfl (fun ls hl => ?_)
          refine lv_goto (tgt := 26) hx hb d_M_setLine_53 (by decide) ?_
          exact ih_26 (i + 1) (upZ L3 ((3 * kk) + i) (woN E9 3 i)) H locs ls (by omega) (fun x hx2 => by by_cases q : x = i; rw [q, upZ_at]; rw [upZ_ne (k := 3 * kk + i) (j := 3 * kk + x) _ _ (by omega)]; exact h1 x (by omega)) (fun x hx2 => by rw [upZ_ne (k := 3 * kk + i) (j := 3 * (1 - kk) + x) _ _ (by omega)]; exact h2 x hx2) (by omega) hP hD hS (lv_sub hl [1, 2, 0] rfl)
    exact lp_26 ((3 - 0) + 1) 0 L0 H locs ls (Nat.zero_le _) (fun x q => absurd q (Nat.not_lt_zero _)) (fun x _ => rfl) (by omega) hP hD hS (lv_sub hl [1, 2, 0] rfl)
  rw [hH, hlc] at key; exact key

def rm_r_findTwo : Room := { frames := 3, cells := 0, slots := 0, locals := 84 }
set_option maxHeartbeats 4000000 in
set_option maxRecDepth 100000 in
/-- two lines -/
theorem r_findTwo (l : Launch) (D : va_G) (cJ cI : ClassId) (g : Nat) (cd : Int32) (d : Nat) (ik : Int32) (rw : Int32) (ab : Int32) (be : Int32) (a0 : Int32) (a1 : Int32) (b0 : Int32) (b1 : Int32) (lm : Int32) (mm : Nat) (kf : Nat) (tb : Nat) (wk : Nat) (pl : Nat) (sp : Nat) (po : Nat) (to : Nat) (ba : Nat) (li : Nat) (Fm : Nat → Int) (Q0 : Nat → Int) (L0 : Nat → Int) (cr : Nat) (hF : ∀ k, k < 16 → inB (Fm k) 20) (hcr : cr ≤ 1) (sz : Nat) : xMv l y_M_findTwo (Cond.code y_M_findTwo b_M_findTwo 14 none :: tW) rm_r_findTwo [.ref g, .int (nI cr)] D vwC [(cJ, .long), (cI, .int)] sz [(g, .inr (2, [.int cd, .int (nI d), .ref mm, .int ik, .ref kf, .ref tb, .int rw, .ref wk, .int ab, .int be, .ref pl, .ref sp, .int a0, .int a1, .int b0, .int b1, .ref po, .ref to, .ref ba, .ref li, .int lm])), (mm, IA cI 16 Fm), (to, LA cJ 4 Q0), (li, LA cJ 6 L0)] (fun (uo : Nat × (Nat → Int) × (Nat → Int)) => f2P Fm cr uo.1 uo.2.2 ∧ (uo.1 = 2 → ∀ k, k < 6 → lB (uo.2.2 k))) (fun (uo : Nat × (Nat → Int) × (Nat → Int)) => [(g, .inr (2, [.int cd, .int (nI d), .ref mm, .int ik, .ref kf, .ref tb, .int rw, .ref wk, .int ab, .int be, .ref pl, .ref sp, .int a0, .int a1, .int b0, .int b1, .ref po, .ref to, .ref ba, .ref li, .int (nI uo.1)])), (mm, IA cI 16 Fm), (to, LA cJ 4 uo.2.1), (li, LA cJ 6 uo.2.2)]) 0 0 := by
  refine xov (cc := b_M_findTwo) (maxL := 14) (by decide) rfl (Nat.le_of_ble_eq_true rfl) ?_
  intro p e s m args below meth c Q A hx hb hml hts hown hN hA hS hP hK hD hret ls hl
  have hl : lv_has ls 14 [(0, .ref g), (1, .int (nI cr))] := hl
  obtain ⟨H, hH⟩ : ∃ z, z = s.heap := ⟨_, rfl⟩
  obtain ⟨locs, hlc⟩ : ∃ z : List Loc, z = [] := ⟨_, rfl⟩
  rw [← hH] at hP
  have hS : va_S A s.heap H locs := by rw [hH, hlc]; exact hS
  have key : W p l e rm_r_findTwo s m args below meth c H locs 0 0 Q (F0 m 0 ls []) := by
    refine lv_aload_n hx hb d_M_findTwo_0 rfl (lv_at hl 0 rfl) ?_
    refine va_get (D := D) (ci := 2) (v := .ref mm) (C := R_M) (T := F_M) (N := 21) hx hb hts iw_M hown hK hP 0 rfl rfl 2 (by decide) (hts _ tw_389) (fun _ h9 => h9) rfl d_M_findTwo_1 ?_
    refine lv_iconst (v := nI 5) hx hb d_M_findTwo_4 (by decide) ?_
    refine xi_ald hx hb hK hP 1 1 rfl rfl (k := 5) (by omega) (by first | decide | omega) d_M_findTwo_5 ?_
    refine lv_i2l (v := lI (Fm 5)) hx hb d_M_findTwo_6 (iI_i2l (iB_of (hF _ (by decide)) (by decide))) ?_
    refine lv_lstore_n (lv' := [(2, .long (lI (Fm 5))), (0, .ref g), (1, .int (nI cr))]) hx hb d_M_findTwo_7 rfl hl (by decide) rfl (fun ls hl => ?_)
    refine lv_aload_n hx hb d_M_findTwo_8 rfl (lv_at hl 1 rfl) ?_
    refine va_get (D := D) (ci := 2) (v := .ref mm) (C := R_M) (T := F_M) (N := 21) hx hb hts iw_M hown hK hP 0 rfl rfl 2 (by decide) (hts _ tw_389) (fun _ h9 => h9) rfl d_M_findTwo_9 ?_
    refine lv_bipush (v := nI 6) hx hb d_M_findTwo_12 (by decide) ?_
    refine xi_ald hx hb hK hP 1 1 rfl rfl (k := 6) (by omega) (by first | decide | omega) d_M_findTwo_14 ?_
    refine lv_i2l (v := lI (Fm 6)) hx hb d_M_findTwo_15 (iI_i2l (iB_of (hF _ (by decide)) (by decide))) ?_
    refine lv_lstore (lv' := [(4, .long (lI (Fm 6))), (2, .long (lI (Fm 5))), (0, .ref g), (1, .int (nI cr))]) hx hb d_M_findTwo_16 hl (by decide) rfl (fun ls hl => ?_)
    refine lv_aload_n hx hb d_M_findTwo_18 rfl (lv_at hl 2 rfl) ?_
    refine va_get (D := D) (ci := 2) (v := .ref mm) (C := R_M) (T := F_M) (N := 21) hx hb hts iw_M hown hK hP 0 rfl rfl 2 (by decide) (hts _ tw_389) (fun _ h9 => h9) rfl d_M_findTwo_19 ?_
    refine lv_bipush (v := nI 10) hx hb d_M_findTwo_22 (by decide) ?_
    refine xi_ald hx hb hK hP 1 1 rfl rfl (k := 10) (by omega) (by first | decide | omega) d_M_findTwo_24 ?_
    refine lv_i2l (v := lI (Fm 10)) hx hb d_M_findTwo_25 (iI_i2l (iB_of (hF _ (by decide)) (by decide))) ?_
    refine lv_lstore (lv' := [(6, .long (lI (Fm 10))), (4, .long (lI (Fm 6))), (2, .long (lI (Fm 5))), (0, .ref g), (1, .int (nI cr))]) hx hb d_M_findTwo_26 hl (by decide) rfl (fun ls hl => ?_)
    refine lv_aload_n hx hb d_M_findTwo_28 rfl (lv_at hl 3 rfl) ?_
    refine va_get (D := D) (ci := 2) (v := .ref mm) (C := R_M) (T := F_M) (N := 21) hx hb hts iw_M hown hK hP 0 rfl rfl 2 (by decide) (hts _ tw_389) (fun _ h9 => h9) rfl d_M_findTwo_29 ?_
    refine lv_iconst (v := nI 1) hx hb d_M_findTwo_32 (by decide) ?_
    refine xi_ald hx hb hK hP 1 1 rfl rfl (k := 1) (by omega) (by first | decide | omega) d_M_findTwo_33 ?_
    refine lv_i2l (v := lI (Fm 1)) hx hb d_M_findTwo_34 (iI_i2l (iB_of (hF _ (by decide)) (by decide))) ?_
    refine lv_lstore (lv' := [(8, .long (lI (Fm 1))), (6, .long (lI (Fm 10))), (4, .long (lI (Fm 6))), (2, .long (lI (Fm 5))), (0, .ref g), (1, .int (nI cr))]) hx hb d_M_findTwo_35 hl (by decide) rfl (fun ls hl => ?_)
    refine lv_aload_n hx hb d_M_findTwo_37 rfl (lv_at hl 4 rfl) ?_
    refine va_get (D := D) (ci := 2) (v := .ref mm) (C := R_M) (T := F_M) (N := 21) hx hb hts iw_M hown hK hP 0 rfl rfl 2 (by decide) (hts _ tw_389) (fun _ h9 => h9) rfl d_M_findTwo_38 ?_
    refine lv_iconst (v := nI 2) hx hb d_M_findTwo_41 (by decide) ?_
    refine xi_ald hx hb hK hP 1 1 rfl rfl (k := 2) (by omega) (by first | decide | omega) d_M_findTwo_42 ?_
    refine lv_i2l (v := lI (Fm 2)) hx hb d_M_findTwo_43 (iI_i2l (iB_of (hF _ (by decide)) (by decide))) ?_
    refine lv_lstore (lv' := [(10, .long (lI (Fm 2))), (8, .long (lI (Fm 1))), (6, .long (lI (Fm 10))), (4, .long (lI (Fm 6))), (2, .long (lI (Fm 5))), (0, .ref g), (1, .int (nI cr))]) hx hb d_M_findTwo_44 hl (by decide) rfl (fun ls hl => ?_)
    refine lv_aload_n hx hb d_M_findTwo_46 rfl (lv_at hl 5 rfl) ?_
    refine lv_iconst (v := nI 2) hx hb d_M_findTwo_47 (by decide) ?_
    refine va_put (D := D) (ci := 2) (v := .int (nI 2)) (ty := .int) (C := R_M) (T := F_M) (N := 21) hx hb hts iw_M ft_M ft_M_ok n_M hown hK hP hD hS 0 rfl rfl 20 (by decide) (hts _ tw_407) (fun _ h9 => h9) rfl (by decide +kernel) rfl rfl (Nat.le_of_ble_eq_true rfl) d_M_findTwo_48 (fun H locs hP hD hS => ?_)
    have hP : va_P D vwC [(g, .inr (2, [.int cd, .int (nI d), .ref mm, .int ik, .ref kf, .ref tb, .int rw, .ref wk, .int ab, .int be, .ref pl, .ref sp, .int a0, .int a1, .int b0, .int b1, .ref po, .ref to, .ref ba, .ref li, .int (nI 2)])), (mm, IA cI 16 Fm), (to, LA cJ 4 Q0), (li, LA cJ 6 L0)] H := hP
    have hD : va_D A [(g, .inr (2, [.int cd, .int (nI d), .ref mm, .int ik, .ref kf, .ref tb, .int rw, .ref wk, .int ab, .int be, .ref pl, .ref sp, .int a0, .int a1, .int b0, .int b1, .ref po, .ref to, .ref ba, .ref li, .int (nI 2)])), (mm, IA cI 16 Fm), (to, LA cJ 4 Q0), (li, LA cJ 6 L0)] := hD
    refine lv_iload_n hx hb d_M_findTwo_51 rfl (lv_at hl 6 rfl) ?_
    refine xz_ne (tgt := 180) (X := (cr : Nat)) hx hb (nI_toInt (by omega)) d_M_findTwo_52 (by decide) (fun c52_0 => ?_) (fun c52_0 => ?_)
    · skip
      refine lv_lload hx hb d_M_findTwo_180 (lv_at hl 3 rfl) ?_
      refine lv_lload hx hb d_M_findTwo_182 (lv_at hl 3 rfl) ?_
      refine xl_mul hx hb d_M_findTwo_184 ?_
      refine lv_lload_n hx hb d_M_findTwo_185 rfl (lv_at hl 4 rfl) ?_
      refine lv_lload hx hb d_M_findTwo_186 (lv_at hl 2 rfl) ?_
      refine xl_mul hx hb d_M_findTwo_188 ?_
      refine xl_sub hx hb d_M_findTwo_189 ?_
      refine xcl (wc := []) (wr := [(g, .inr (2, [.int cd, .int (nI d), .ref mm, .int ik, .ref kf, .ref tb, .int rw, .ref wk, .int ab, .int be, .ref pl, .ref sp, .int a0, .int a1, .int b0, .int b1, .ref po, .ref to, .ref ba, .ref li, .int (nI 2)])), (mm, IA cI 16 Fm), (to, LA cJ 4 Q0), (li, LA cJ 6 L0)]) hP hD hS hA [] [0, 1, 2, 3] rfl rfl (by decide) (by decide) (va_runS (As := [.long (lI (((Fm 6) * (Fm 6)) - ((Fm 5) * (Fm 10))))]) (rest := []) ⟨hx, hb, hml, hown, hts⟩ (r_root l D cJ cI (((Fm 6) * (Fm 6)) - ((Fm 5) * (Fm 10))) (leB (subB (mulB (hF 6 (by decide)) (hF 6 (by decide))) (mulB (hF 5 (by decide)) (hF 10 (by decide)))) (by decide)) H.size) (cwS 1 hts (gS tw_614 tw_615 tw_3 tw_616) rfl rfl rfl ⟨rfl, hd_M_root⟩ ⟨Nat.le_of_ble_eq_true rfl, Nat.le_of_ble_eq_true rfl⟩) (xPreS hN hK (hP.sub (ws' := []) [] rfl) (hD.sub (ws' := []) [] (by decide) rfl)) rfl rfl hl.1 rfl (lv_room (Nat.le_of_ble_eq_true rfl)) d_M_findTwo_190 ⟨Nat.le_of_ble_eq_true rfl, Nat.le_of_ble_eq_true rfl⟩) (fun r_2 u_3 H locs hrt hP hD hS => ?_)
      obtain ⟨rv9, rfl⟩ : ∃ z, z = u_3 := ⟨_, rfl⟩
      try dsimp only at hrt
      have hP : va_P D vwC [(g, .inr (2, [.int cd, .int (nI d), .ref mm, .int ik, .ref kf, .ref tb, .int rw, .ref wk, .int ab, .int be, .ref pl, .ref sp, .int a0, .int a1, .int b0, .int b1, .ref po, .ref to, .ref ba, .ref li, .int (nI 2)])), (mm, IA cI 16 Fm), (to, LA cJ 4 Q0), (li, LA cJ 6 L0)] H := hP
      have hD : va_D A [(g, .inr (2, [.int cd, .int (nI d), .ref mm, .int ik, .ref kf, .ref tb, .int rw, .ref wk, .int ab, .int be, .ref pl, .ref sp, .int a0, .int a1, .int b0, .int b1, .ref po, .ref to, .ref ba, .ref li, .int (nI 2)])), (mm, IA cI 16 Fm), (to, LA cJ 4 Q0), (li, LA cJ 6 L0)] := hD
      obtain ⟨rfl, hrt⟩ := hrt
      refine lv_lstore (lv' := [(12, .long (lI rv9)), (10, .long (lI (Fm 2))), (8, .long (lI (Fm 1))), (6, .long (lI (Fm 10))), (4, .long (lI (Fm 6))), (2, .long (lI (Fm 5))), (0, .ref g), (1, .int (nI cr))]) hx hb d_M_findTwo_193 hl (by decide) rfl (fun ls hl => ?_)
      refine lv_lload hx hb d_M_findTwo_195 (lv_at hl 0 rfl) ?_
      refine lv_lconst (v := lI 0) hx hb d_M_findTwo_197 (by decide) ?_
      refine xl_ge (tgt := 210) hx hb (lB_of (rm_B hrt) (by decide)) ⟨by decide, by decide⟩ d_M_findTwo_198 d_M_findTwo_199 (by decide) (fun c199_3 => ?_) (fun c199_3 => ?_)
      · skip
        refine lv_lload_n hx hb d_M_findTwo_210 rfl (lv_at hl 5 rfl) ?_
        refine lv_lconst (v := lI 0) hx hb d_M_findTwo_211 (by decide) ?_
        refine xl_eq (tgt := 279) hx hb (lB_of (hF _ (by decide)) (by decide)) ⟨by decide, by decide⟩ d_M_findTwo_212 d_M_findTwo_213 (by decide) (fun c213_4 => ?_) (fun c213_4 => ?_)
        · skip
          refine lv_lload hx hb d_M_findTwo_279 (lv_at hl 3 rfl) ?_
          refine lv_lconst (v := lI 0) hx hb d_M_findTwo_281 (by decide) ?_
          refine xl_eq (tgt := 353) hx hb (lB_of (hF _ (by decide)) (by decide)) ⟨by decide, by decide⟩ d_M_findTwo_282 d_M_findTwo_283 (by decide) (fun c283_5 => ?_) (fun c283_5 => ?_)
          · skip
            refine lv_aload_n hx hb d_M_findTwo_353 rfl (lv_at hl 6 rfl) ?_
            refine lv_iconst (v := nI 0) hx hb d_M_findTwo_354 (by decide) ?_
            refine lv_lload hx hb d_M_findTwo_355 (lv_at hl 1 rfl) ?_
            refine lv_lload hx hb d_M_findTwo_357 (lv_at hl 4 rfl) ?_
            refine lv_lconst (v := lI 0) hx hb d_M_findTwo_359 (by decide) ?_
            refine xcv (wc := [(g, .inr (2, [.int cd, .int (nI d), .ref mm, .int ik, .ref kf, .ref tb, .int rw, .ref wk, .int ab, .int be, .ref pl, .ref sp, .int a0, .int a1, .int b0, .int b1, .ref po, .ref to, .ref ba, .ref li, .int (nI 2)])), (to, LA cJ 4 Q0), (li, LA cJ 6 L0)]) (wr := [(mm, IA cI 16 Fm)]) hP hD hS hA [0, 2, 3] [1] rfl rfl (by decide) (by decide) (va_runV (As := [.int (nI 0), .long (lI (Fm 2)), .long (lI (Fm 6)), .long (lI 0)]) (rest := []) ⟨hx, hb, hml, hown, hts⟩ (r_setLine l D cJ cI g cd d ik rw ab be a0 a1 b0 b1 (nI 2) mm kf tb wk pl sp po to ba li Q0 L0 0 (Fm 2) (Fm 6) 0 (by decide) (leB (hF 2 (by decide)) (by decide)) (leB (hF 6 (by decide)) (by decide)) ⟨by decide, by decide⟩ H.size) (cwV 4 hts (gV tw_606 tw_608 tws_34 tw_3 tw_609) rfl rfl rfl ⟨rfl, hd_M_setLine⟩ ⟨Nat.le_of_ble_eq_true rfl, Nat.le_of_ble_eq_true rfl⟩) (xPreV (C := R_M) (T := F_M) (N := 21) (q0 := 0) hN hK (hP.sub (ws' := [(g, .inr (2, [.int cd, .int (nI d), .ref mm, .int ik, .ref kf, .ref tb, .int rw, .ref wk, .int ab, .int be, .ref pl, .ref sp, .int a0, .int a1, .int b0, .int b1, .ref po, .ref to, .ref ba, .ref li, .int (nI 2)])), (to, LA cJ 4 Q0), (li, LA cJ 6 L0)]) [0, 2, 3] rfl) (hD.sub (ws' := [(g, .inr (2, [.int cd, .int (nI d), .ref mm, .int ik, .ref kf, .ref tb, .int rw, .ref wk, .int ab, .int be, .ref pl, .ref sp, .int a0, .int a1, .int b0, .int b1, .ref po, .ref to, .ref ba, .ref li, .int (nI 2)])), (to, LA cJ 4 Q0), (li, LA cJ 6 L0)]) [0, 2, 3] (by decide) rfl) rfl rfl) rfl rfl hl.1 rfl (lv_room (Nat.le_of_ble_eq_true rfl)) d_M_findTwo_360 ⟨Nat.le_of_ble_eq_true rfl, Nat.le_of_ble_eq_true rfl⟩) (fun u_8 H locs hs1 hP hD hS => ?_)
            obtain ⟨Q2_9, L8⟩ := u_8
            try dsimp only at hs1
            have hP : va_P D vwC [(g, .inr (2, [.int cd, .int (nI d), .ref mm, .int ik, .ref kf, .ref tb, .int rw, .ref wk, .int ab, .int be, .ref pl, .ref sp, .int a0, .int a1, .int b0, .int b1, .ref po, .ref to, .ref ba, .ref li, .int (nI 2)])), (mm, IA cI 16 Fm), (to, LA cJ 4 Q2_9), (li, LA cJ 6 L8)] H := hP.sub [1, 0, 2, 3] rfl
            have hD : va_D A [(g, .inr (2, [.int cd, .int (nI d), .ref mm, .int ik, .ref kf, .ref tb, .int rw, .ref wk, .int ab, .int be, .ref pl, .ref sp, .int a0, .int a1, .int b0, .int b1, .ref po, .ref to, .ref ba, .ref li, .int (nI 2)])), (mm, IA cI 16 Fm), (to, LA cJ 4 Q2_9), (li, LA cJ 6 L8)] := hD.sub [1, 0, 2, 3] (by decide) rfl
            refine lv_aload_n hx hb d_M_findTwo_363 rfl (lv_at hl 6 rfl) ?_
            refine lv_iconst (v := nI 1) hx hb d_M_findTwo_364 (by decide) ?_
            refine lv_lload hx hb d_M_findTwo_365 (lv_at hl 2 rfl) ?_
            refine lv_lconst (v := lI 0) hx hb d_M_findTwo_367 (by decide) ?_
            refine lv_lload hx hb d_M_findTwo_368 (lv_at hl 4 rfl) ?_
            refine xcv (wc := [(g, .inr (2, [.int cd, .int (nI d), .ref mm, .int ik, .ref kf, .ref tb, .int rw, .ref wk, .int ab, .int be, .ref pl, .ref sp, .int a0, .int a1, .int b0, .int b1, .ref po, .ref to, .ref ba, .ref li, .int (nI 2)])), (to, LA cJ 4 Q2_9), (li, LA cJ 6 L8)]) (wr := [(mm, IA cI 16 Fm)]) hP hD hS hA [0, 2, 3] [1] rfl rfl (by decide) (by decide) (va_runV (As := [.int (nI 1), .long (lI (Fm 1)), .long (lI 0), .long (lI (Fm 6))]) (rest := []) ⟨hx, hb, hml, hown, hts⟩ (r_setLine l D cJ cI g cd d ik rw ab be a0 a1 b0 b1 (nI 2) mm kf tb wk pl sp po to ba li Q2_9 L8 1 (Fm 1) 0 (Fm 6) (by decide) (leB (hF 1 (by decide)) (by decide)) ⟨by decide, by decide⟩ (leB (hF 6 (by decide)) (by decide)) H.size) (cwV 4 hts (gV tw_606 tw_608 tws_34 tw_3 tw_609) rfl rfl rfl ⟨rfl, hd_M_setLine⟩ ⟨Nat.le_of_ble_eq_true rfl, Nat.le_of_ble_eq_true rfl⟩) (xPreV (C := R_M) (T := F_M) (N := 21) (q0 := 0) hN hK (hP.sub (ws' := [(g, .inr (2, [.int cd, .int (nI d), .ref mm, .int ik, .ref kf, .ref tb, .int rw, .ref wk, .int ab, .int be, .ref pl, .ref sp, .int a0, .int a1, .int b0, .int b1, .ref po, .ref to, .ref ba, .ref li, .int (nI 2)])), (to, LA cJ 4 Q2_9), (li, LA cJ 6 L8)]) [0, 2, 3] rfl) (hD.sub (ws' := [(g, .inr (2, [.int cd, .int (nI d), .ref mm, .int ik, .ref kf, .ref tb, .int rw, .ref wk, .int ab, .int be, .ref pl, .ref sp, .int a0, .int a1, .int b0, .int b1, .ref po, .ref to, .ref ba, .ref li, .int (nI 2)])), (to, LA cJ 4 Q2_9), (li, LA cJ 6 L8)]) [0, 2, 3] (by decide) rfl) rfl rfl) rfl rfl hl.1 rfl (lv_room (Nat.le_of_ble_eq_true rfl)) d_M_findTwo_370 ⟨Nat.le_of_ble_eq_true rfl, Nat.le_of_ble_eq_true rfl⟩) (fun u_11 H locs hs2 hP hD hS => ?_)
            obtain ⟨Q2_12, L9⟩ := u_11
            try dsimp only at hs2
            have hP : va_P D vwC [(g, .inr (2, [.int cd, .int (nI d), .ref mm, .int ik, .ref kf, .ref tb, .int rw, .ref wk, .int ab, .int be, .ref pl, .ref sp, .int a0, .int a1, .int b0, .int b1, .ref po, .ref to, .ref ba, .ref li, .int (nI 2)])), (mm, IA cI 16 Fm), (to, LA cJ 4 Q2_12), (li, LA cJ 6 L9)] H := hP.sub [1, 0, 2, 3] rfl
            have hD : va_D A [(g, .inr (2, [.int cd, .int (nI d), .ref mm, .int ik, .ref kf, .ref tb, .int rw, .ref wk, .int ab, .int be, .ref pl, .ref sp, .int a0, .int a1, .int b0, .int b1, .ref po, .ref to, .ref ba, .ref li, .int (nI 2)])), (mm, IA cI 16 Fm), (to, LA cJ 4 Q2_12), (li, LA cJ 6 L9)] := hD.sub [1, 0, 2, 3] (by decide) rfl
            exact hret H locs _ ls (2, Q2_12, L9) d_M_findTwo_373 (by first | exact ⟨⟨fun q => absurd q (by omega), fun _ => ⟨rv9, hrt, fun q => absurd q (by omega), fun _ => ⟨rfl, fun q => absurd c213_4 q, fun _ q => absurd c283_5 q, fun _ _ => two_of hs1.1 hs2.1 hs2.2.2⟩⟩⟩, fun _ => two_B hs1.2.1 hs2.2.1 hs2.2.2⟩ | (dsimp only; exact ⟨⟨fun q => absurd q (by omega), fun _ => ⟨rv9, hrt, fun q => absurd q (by omega), fun _ => ⟨rfl, fun q => absurd c213_4 q, fun _ q => absurd c283_5 q, fun _ _ => two_of hs1.1 hs2.1 hs2.2.2⟩⟩⟩, fun _ => two_B hs1.2.1 hs2.2.1 hs2.2.2⟩)) hP hD hS
          · skip
            refine lv_aload_n hx hb d_M_findTwo_286 rfl (lv_at hl 6 rfl) ?_
            refine lv_iconst (v := nI 0) hx hb d_M_findTwo_287 (by decide) ?_
            refine lv_lload hx hb d_M_findTwo_288 (lv_at hl 1 rfl) ?_
            refine lv_lload hx hb d_M_findTwo_290 (lv_at hl 4 rfl) ?_
            refine lv_lload hx hb d_M_findTwo_292 (lv_at hl 0 rfl) ?_
            refine xl_add hx hb d_M_findTwo_294 ?_
            refine xl_mul hx hb d_M_findTwo_295 ?_
            refine lv_lload hx hb d_M_findTwo_296 (lv_at hl 3 rfl) ?_
            refine lv_lload hx hb d_M_findTwo_298 (lv_at hl 2 rfl) ?_
            refine xl_mul hx hb d_M_findTwo_300 ?_
            refine xl_sub hx hb d_M_findTwo_301 ?_
            refine lv_lload hx hb d_M_findTwo_302 (lv_at hl 0 rfl) ?_
            refine lv_lload hx hb d_M_findTwo_304 (lv_at hl 4 rfl) ?_
            refine lv_lload hx hb d_M_findTwo_306 (lv_at hl 0 rfl) ?_
            refine xl_add hx hb d_M_findTwo_308 ?_
            refine xl_mul hx hb d_M_findTwo_309 ?_
            refine lv_lload hx hb d_M_findTwo_310 (lv_at hl 0 rfl) ?_
            refine lv_lload hx hb d_M_findTwo_312 (lv_at hl 3 rfl) ?_
            refine xl_mul hx hb d_M_findTwo_314 ?_
            refine xcv (wc := [(g, .inr (2, [.int cd, .int (nI d), .ref mm, .int ik, .ref kf, .ref tb, .int rw, .ref wk, .int ab, .int be, .ref pl, .ref sp, .int a0, .int a1, .int b0, .int b1, .ref po, .ref to, .ref ba, .ref li, .int (nI 2)])), (to, LA cJ 4 Q0), (li, LA cJ 6 L0)]) (wr := [(mm, IA cI 16 Fm)]) hP hD hS hA [0, 2, 3] [1] rfl rfl (by decide) (by decide) (va_runV (As := [.int (nI 0), .long (lI (((Fm 2) * ((Fm 6) + rv9)) - ((Fm 10) * (Fm 1)))), .long (lI (rv9 * ((Fm 6) + rv9))), .long (lI (rv9 * (Fm 10)))]) (rest := []) ⟨hx, hb, hml, hown, hts⟩ (r_setLine l D cJ cI g cd d ik rw ab be a0 a1 b0 b1 (nI 2) mm kf tb wk pl sp po to ba li Q0 L0 0 (((Fm 2) * ((Fm 6) + rv9)) - ((Fm 10) * (Fm 1))) (rv9 * ((Fm 6) + rv9)) (rv9 * (Fm 10)) (by decide) (leB (subB (mulB (hF 2 (by decide)) (addB (hF 6 (by decide)) (rm_B hrt))) (mulB (hF 10 (by decide)) (hF 1 (by decide)))) (by decide)) (leB (mulB (rm_B hrt) (addB (hF 6 (by decide)) (rm_B hrt))) (by decide)) (leB (mulB (rm_B hrt) (hF 10 (by decide))) (by decide)) H.size) (cwV 4 hts (gV tw_606 tw_608 tws_34 tw_3 tw_609) rfl rfl rfl ⟨rfl, hd_M_setLine⟩ ⟨Nat.le_of_ble_eq_true rfl, Nat.le_of_ble_eq_true rfl⟩) (xPreV (C := R_M) (T := F_M) (N := 21) (q0 := 0) hN hK (hP.sub (ws' := [(g, .inr (2, [.int cd, .int (nI d), .ref mm, .int ik, .ref kf, .ref tb, .int rw, .ref wk, .int ab, .int be, .ref pl, .ref sp, .int a0, .int a1, .int b0, .int b1, .ref po, .ref to, .ref ba, .ref li, .int (nI 2)])), (to, LA cJ 4 Q0), (li, LA cJ 6 L0)]) [0, 2, 3] rfl) (hD.sub (ws' := [(g, .inr (2, [.int cd, .int (nI d), .ref mm, .int ik, .ref kf, .ref tb, .int rw, .ref wk, .int ab, .int be, .ref pl, .ref sp, .int a0, .int a1, .int b0, .int b1, .ref po, .ref to, .ref ba, .ref li, .int (nI 2)])), (to, LA cJ 4 Q0), (li, LA cJ 6 L0)]) [0, 2, 3] (by decide) rfl) rfl rfl) rfl rfl hl.1 rfl (lv_room (Nat.le_of_ble_eq_true rfl)) d_M_findTwo_315 ⟨Nat.le_of_ble_eq_true rfl, Nat.le_of_ble_eq_true rfl⟩) (fun u_14 H locs hs1 hP hD hS => ?_)
            obtain ⟨Q2_15, L8⟩ := u_14
            try dsimp only at hs1
            have hP : va_P D vwC [(g, .inr (2, [.int cd, .int (nI d), .ref mm, .int ik, .ref kf, .ref tb, .int rw, .ref wk, .int ab, .int be, .ref pl, .ref sp, .int a0, .int a1, .int b0, .int b1, .ref po, .ref to, .ref ba, .ref li, .int (nI 2)])), (mm, IA cI 16 Fm), (to, LA cJ 4 Q2_15), (li, LA cJ 6 L8)] H := hP.sub [1, 0, 2, 3] rfl
            have hD : va_D A [(g, .inr (2, [.int cd, .int (nI d), .ref mm, .int ik, .ref kf, .ref tb, .int rw, .ref wk, .int ab, .int be, .ref pl, .ref sp, .int a0, .int a1, .int b0, .int b1, .ref po, .ref to, .ref ba, .ref li, .int (nI 2)])), (mm, IA cI 16 Fm), (to, LA cJ 4 Q2_15), (li, LA cJ 6 L8)] := hD.sub [1, 0, 2, 3] (by decide) rfl
            refine lv_aload_n hx hb d_M_findTwo_318 rfl (lv_at hl 6 rfl) ?_
            refine lv_iconst (v := nI 1) hx hb d_M_findTwo_319 (by decide) ?_
            refine lv_lload hx hb d_M_findTwo_320 (lv_at hl 3 rfl) ?_
            refine lv_lload hx hb d_M_findTwo_322 (lv_at hl 2 rfl) ?_
            refine xl_mul hx hb d_M_findTwo_324 ?_
            refine lv_lload hx hb d_M_findTwo_325 (lv_at hl 1 rfl) ?_
            refine lv_lload hx hb d_M_findTwo_327 (lv_at hl 4 rfl) ?_
            refine lv_lload hx hb d_M_findTwo_329 (lv_at hl 0 rfl) ?_
            refine xl_sub hx hb d_M_findTwo_331 ?_
            refine xl_mul hx hb d_M_findTwo_332 ?_
            refine xl_sub hx hb d_M_findTwo_333 ?_
            refine lv_lload hx hb d_M_findTwo_334 (lv_at hl 0 rfl) ?_
            refine lv_lload hx hb d_M_findTwo_336 (lv_at hl 4 rfl) ?_
            refine lv_lload hx hb d_M_findTwo_338 (lv_at hl 0 rfl) ?_
            refine xl_sub hx hb d_M_findTwo_340 ?_
            refine xl_mul hx hb d_M_findTwo_341 ?_
            refine lv_lload hx hb d_M_findTwo_342 (lv_at hl 0 rfl) ?_
            refine lv_lload hx hb d_M_findTwo_344 (lv_at hl 3 rfl) ?_
            refine xl_mul hx hb d_M_findTwo_346 ?_
            refine xcv (wc := [(g, .inr (2, [.int cd, .int (nI d), .ref mm, .int ik, .ref kf, .ref tb, .int rw, .ref wk, .int ab, .int be, .ref pl, .ref sp, .int a0, .int a1, .int b0, .int b1, .ref po, .ref to, .ref ba, .ref li, .int (nI 2)])), (to, LA cJ 4 Q2_15), (li, LA cJ 6 L8)]) (wr := [(mm, IA cI 16 Fm)]) hP hD hS hA [0, 2, 3] [1] rfl rfl (by decide) (by decide) (va_runV (As := [.int (nI 1), .long (lI (((Fm 10) * (Fm 1)) - ((Fm 2) * ((Fm 6) - rv9)))), .long (lI (rv9 * ((Fm 6) - rv9))), .long (lI (rv9 * (Fm 10)))]) (rest := []) ⟨hx, hb, hml, hown, hts⟩ (r_setLine l D cJ cI g cd d ik rw ab be a0 a1 b0 b1 (nI 2) mm kf tb wk pl sp po to ba li Q2_15 L8 1 (((Fm 10) * (Fm 1)) - ((Fm 2) * ((Fm 6) - rv9))) (rv9 * ((Fm 6) - rv9)) (rv9 * (Fm 10)) (by decide) (leB (subB (mulB (hF 10 (by decide)) (hF 1 (by decide))) (mulB (hF 2 (by decide)) (subB (hF 6 (by decide)) (rm_B hrt)))) (by decide)) (leB (mulB (rm_B hrt) (subB (hF 6 (by decide)) (rm_B hrt))) (by decide)) (leB (mulB (rm_B hrt) (hF 10 (by decide))) (by decide)) H.size) (cwV 4 hts (gV tw_606 tw_608 tws_34 tw_3 tw_609) rfl rfl rfl ⟨rfl, hd_M_setLine⟩ ⟨Nat.le_of_ble_eq_true rfl, Nat.le_of_ble_eq_true rfl⟩) (xPreV (C := R_M) (T := F_M) (N := 21) (q0 := 0) hN hK (hP.sub (ws' := [(g, .inr (2, [.int cd, .int (nI d), .ref mm, .int ik, .ref kf, .ref tb, .int rw, .ref wk, .int ab, .int be, .ref pl, .ref sp, .int a0, .int a1, .int b0, .int b1, .ref po, .ref to, .ref ba, .ref li, .int (nI 2)])), (to, LA cJ 4 Q2_15), (li, LA cJ 6 L8)]) [0, 2, 3] rfl) (hD.sub (ws' := [(g, .inr (2, [.int cd, .int (nI d), .ref mm, .int ik, .ref kf, .ref tb, .int rw, .ref wk, .int ab, .int be, .ref pl, .ref sp, .int a0, .int a1, .int b0, .int b1, .ref po, .ref to, .ref ba, .ref li, .int (nI 2)])), (to, LA cJ 4 Q2_15), (li, LA cJ 6 L8)]) [0, 2, 3] (by decide) rfl) rfl rfl) rfl rfl hl.1 rfl (lv_room (Nat.le_of_ble_eq_true rfl)) d_M_findTwo_347 ⟨Nat.le_of_ble_eq_true rfl, Nat.le_of_ble_eq_true rfl⟩) (fun u_17 H locs hs2 hP hD hS => ?_)
            obtain ⟨Q2_18, L9⟩ := u_17
            try dsimp only at hs2
            have hP : va_P D vwC [(g, .inr (2, [.int cd, .int (nI d), .ref mm, .int ik, .ref kf, .ref tb, .int rw, .ref wk, .int ab, .int be, .ref pl, .ref sp, .int a0, .int a1, .int b0, .int b1, .ref po, .ref to, .ref ba, .ref li, .int (nI 2)])), (mm, IA cI 16 Fm), (to, LA cJ 4 Q2_18), (li, LA cJ 6 L9)] H := hP.sub [1, 0, 2, 3] rfl
            have hD : va_D A [(g, .inr (2, [.int cd, .int (nI d), .ref mm, .int ik, .ref kf, .ref tb, .int rw, .ref wk, .int ab, .int be, .ref pl, .ref sp, .int a0, .int a1, .int b0, .int b1, .ref po, .ref to, .ref ba, .ref li, .int (nI 2)])), (mm, IA cI 16 Fm), (to, LA cJ 4 Q2_18), (li, LA cJ 6 L9)] := hD.sub [1, 0, 2, 3] (by decide) rfl
            refine lv_goto (tgt := 373) hx hb d_M_findTwo_350 (by decide) ?_
            exact hret H locs _ ls (2, Q2_18, L9) d_M_findTwo_373 (by first | exact ⟨⟨fun q => absurd q (by omega), fun _ => ⟨rv9, hrt, fun q => absurd q (by omega), fun _ => ⟨rfl, fun q => absurd c213_4 q, fun _ _ => two_of hs1.1 hs2.1 hs2.2.2, fun _ q => absurd q c283_5⟩⟩⟩, fun _ => two_B hs1.2.1 hs2.2.1 hs2.2.2⟩ | (dsimp only; exact ⟨⟨fun q => absurd q (by omega), fun _ => ⟨rv9, hrt, fun q => absurd q (by omega), fun _ => ⟨rfl, fun q => absurd c213_4 q, fun _ _ => two_of hs1.1 hs2.1 hs2.2.2, fun _ q => absurd q c283_5⟩⟩⟩, fun _ => two_B hs1.2.1 hs2.2.1 hs2.2.2⟩)) hP hD hS
        · skip
          refine lv_aload_n hx hb d_M_findTwo_216 rfl (lv_at hl 6 rfl) ?_
          refine lv_iconst (v := nI 0) hx hb d_M_findTwo_217 (by decide) ?_
          refine lv_lload hx hb d_M_findTwo_218 (lv_at hl 2 rfl) ?_
          refine lv_lload hx hb d_M_findTwo_220 (lv_at hl 4 rfl) ?_
          refine lv_lload hx hb d_M_findTwo_222 (lv_at hl 0 rfl) ?_
          refine xl_add hx hb d_M_findTwo_224 ?_
          refine xl_mul hx hb d_M_findTwo_225 ?_
          refine lv_lload_n hx hb d_M_findTwo_226 rfl (lv_at hl 5 rfl) ?_
          refine lv_lload hx hb d_M_findTwo_227 (lv_at hl 1 rfl) ?_
          refine xl_mul hx hb d_M_findTwo_229 ?_
          refine xl_sub hx hb d_M_findTwo_230 ?_
          refine lv_lload hx hb d_M_findTwo_231 (lv_at hl 0 rfl) ?_
          refine lv_lload_n hx hb d_M_findTwo_233 rfl (lv_at hl 5 rfl) ?_
          refine xl_mul hx hb d_M_findTwo_234 ?_
          refine lv_lload hx hb d_M_findTwo_235 (lv_at hl 0 rfl) ?_
          refine lv_lload hx hb d_M_findTwo_237 (lv_at hl 4 rfl) ?_
          refine lv_lload hx hb d_M_findTwo_239 (lv_at hl 0 rfl) ?_
          refine xl_add hx hb d_M_findTwo_241 ?_
          refine xl_mul hx hb d_M_findTwo_242 ?_
          refine xcv (wc := [(g, .inr (2, [.int cd, .int (nI d), .ref mm, .int ik, .ref kf, .ref tb, .int rw, .ref wk, .int ab, .int be, .ref pl, .ref sp, .int a0, .int a1, .int b0, .int b1, .ref po, .ref to, .ref ba, .ref li, .int (nI 2)])), (to, LA cJ 4 Q0), (li, LA cJ 6 L0)]) (wr := [(mm, IA cI 16 Fm)]) hP hD hS hA [0, 2, 3] [1] rfl rfl (by decide) (by decide) (va_runV (As := [.int (nI 0), .long (lI (((Fm 1) * ((Fm 6) + rv9)) - ((Fm 5) * (Fm 2)))), .long (lI (rv9 * (Fm 5))), .long (lI (rv9 * ((Fm 6) + rv9)))]) (rest := []) ⟨hx, hb, hml, hown, hts⟩ (r_setLine l D cJ cI g cd d ik rw ab be a0 a1 b0 b1 (nI 2) mm kf tb wk pl sp po to ba li Q0 L0 0 (((Fm 1) * ((Fm 6) + rv9)) - ((Fm 5) * (Fm 2))) (rv9 * (Fm 5)) (rv9 * ((Fm 6) + rv9)) (by decide) (leB (subB (mulB (hF 1 (by decide)) (addB (hF 6 (by decide)) (rm_B hrt))) (mulB (hF 5 (by decide)) (hF 2 (by decide)))) (by decide)) (leB (mulB (rm_B hrt) (hF 5 (by decide))) (by decide)) (leB (mulB (rm_B hrt) (addB (hF 6 (by decide)) (rm_B hrt))) (by decide)) H.size) (cwV 4 hts (gV tw_606 tw_608 tws_34 tw_3 tw_609) rfl rfl rfl ⟨rfl, hd_M_setLine⟩ ⟨Nat.le_of_ble_eq_true rfl, Nat.le_of_ble_eq_true rfl⟩) (xPreV (C := R_M) (T := F_M) (N := 21) (q0 := 0) hN hK (hP.sub (ws' := [(g, .inr (2, [.int cd, .int (nI d), .ref mm, .int ik, .ref kf, .ref tb, .int rw, .ref wk, .int ab, .int be, .ref pl, .ref sp, .int a0, .int a1, .int b0, .int b1, .ref po, .ref to, .ref ba, .ref li, .int (nI 2)])), (to, LA cJ 4 Q0), (li, LA cJ 6 L0)]) [0, 2, 3] rfl) (hD.sub (ws' := [(g, .inr (2, [.int cd, .int (nI d), .ref mm, .int ik, .ref kf, .ref tb, .int rw, .ref wk, .int ab, .int be, .ref pl, .ref sp, .int a0, .int a1, .int b0, .int b1, .ref po, .ref to, .ref ba, .ref li, .int (nI 2)])), (to, LA cJ 4 Q0), (li, LA cJ 6 L0)]) [0, 2, 3] (by decide) rfl) rfl rfl) rfl rfl hl.1 rfl (lv_room (Nat.le_of_ble_eq_true rfl)) d_M_findTwo_243 ⟨Nat.le_of_ble_eq_true rfl, Nat.le_of_ble_eq_true rfl⟩) (fun u_20 H locs hs1 hP hD hS => ?_)
          obtain ⟨Q2_21, L8⟩ := u_20
          try dsimp only at hs1
          have hP : va_P D vwC [(g, .inr (2, [.int cd, .int (nI d), .ref mm, .int ik, .ref kf, .ref tb, .int rw, .ref wk, .int ab, .int be, .ref pl, .ref sp, .int a0, .int a1, .int b0, .int b1, .ref po, .ref to, .ref ba, .ref li, .int (nI 2)])), (mm, IA cI 16 Fm), (to, LA cJ 4 Q2_21), (li, LA cJ 6 L8)] H := hP.sub [1, 0, 2, 3] rfl
          have hD : va_D A [(g, .inr (2, [.int cd, .int (nI d), .ref mm, .int ik, .ref kf, .ref tb, .int rw, .ref wk, .int ab, .int be, .ref pl, .ref sp, .int a0, .int a1, .int b0, .int b1, .ref po, .ref to, .ref ba, .ref li, .int (nI 2)])), (mm, IA cI 16 Fm), (to, LA cJ 4 Q2_21), (li, LA cJ 6 L8)] := hD.sub [1, 0, 2, 3] (by decide) rfl
          refine lv_aload_n hx hb d_M_findTwo_246 rfl (lv_at hl 6 rfl) ?_
          refine lv_iconst (v := nI 1) hx hb d_M_findTwo_247 (by decide) ?_
          refine lv_lload_n hx hb d_M_findTwo_248 rfl (lv_at hl 5 rfl) ?_
          refine lv_lload hx hb d_M_findTwo_249 (lv_at hl 1 rfl) ?_
          refine xl_mul hx hb d_M_findTwo_251 ?_
          refine lv_lload hx hb d_M_findTwo_252 (lv_at hl 2 rfl) ?_
          refine lv_lload hx hb d_M_findTwo_254 (lv_at hl 4 rfl) ?_
          refine lv_lload hx hb d_M_findTwo_256 (lv_at hl 0 rfl) ?_
          refine xl_sub hx hb d_M_findTwo_258 ?_
          refine xl_mul hx hb d_M_findTwo_259 ?_
          refine xl_sub hx hb d_M_findTwo_260 ?_
          refine lv_lload hx hb d_M_findTwo_261 (lv_at hl 0 rfl) ?_
          refine lv_lload_n hx hb d_M_findTwo_263 rfl (lv_at hl 5 rfl) ?_
          refine xl_mul hx hb d_M_findTwo_264 ?_
          refine lv_lload hx hb d_M_findTwo_265 (lv_at hl 0 rfl) ?_
          refine lv_lload hx hb d_M_findTwo_267 (lv_at hl 4 rfl) ?_
          refine lv_lload hx hb d_M_findTwo_269 (lv_at hl 0 rfl) ?_
          refine xl_sub hx hb d_M_findTwo_271 ?_
          refine xl_mul hx hb d_M_findTwo_272 ?_
          refine xcv (wc := [(g, .inr (2, [.int cd, .int (nI d), .ref mm, .int ik, .ref kf, .ref tb, .int rw, .ref wk, .int ab, .int be, .ref pl, .ref sp, .int a0, .int a1, .int b0, .int b1, .ref po, .ref to, .ref ba, .ref li, .int (nI 2)])), (to, LA cJ 4 Q2_21), (li, LA cJ 6 L8)]) (wr := [(mm, IA cI 16 Fm)]) hP hD hS hA [0, 2, 3] [1] rfl rfl (by decide) (by decide) (va_runV (As := [.int (nI 1), .long (lI (((Fm 5) * (Fm 2)) - ((Fm 1) * ((Fm 6) - rv9)))), .long (lI (rv9 * (Fm 5))), .long (lI (rv9 * ((Fm 6) - rv9)))]) (rest := []) ⟨hx, hb, hml, hown, hts⟩ (r_setLine l D cJ cI g cd d ik rw ab be a0 a1 b0 b1 (nI 2) mm kf tb wk pl sp po to ba li Q2_21 L8 1 (((Fm 5) * (Fm 2)) - ((Fm 1) * ((Fm 6) - rv9))) (rv9 * (Fm 5)) (rv9 * ((Fm 6) - rv9)) (by decide) (leB (subB (mulB (hF 5 (by decide)) (hF 2 (by decide))) (mulB (hF 1 (by decide)) (subB (hF 6 (by decide)) (rm_B hrt)))) (by decide)) (leB (mulB (rm_B hrt) (hF 5 (by decide))) (by decide)) (leB (mulB (rm_B hrt) (subB (hF 6 (by decide)) (rm_B hrt))) (by decide)) H.size) (cwV 4 hts (gV tw_606 tw_608 tws_34 tw_3 tw_609) rfl rfl rfl ⟨rfl, hd_M_setLine⟩ ⟨Nat.le_of_ble_eq_true rfl, Nat.le_of_ble_eq_true rfl⟩) (xPreV (C := R_M) (T := F_M) (N := 21) (q0 := 0) hN hK (hP.sub (ws' := [(g, .inr (2, [.int cd, .int (nI d), .ref mm, .int ik, .ref kf, .ref tb, .int rw, .ref wk, .int ab, .int be, .ref pl, .ref sp, .int a0, .int a1, .int b0, .int b1, .ref po, .ref to, .ref ba, .ref li, .int (nI 2)])), (to, LA cJ 4 Q2_21), (li, LA cJ 6 L8)]) [0, 2, 3] rfl) (hD.sub (ws' := [(g, .inr (2, [.int cd, .int (nI d), .ref mm, .int ik, .ref kf, .ref tb, .int rw, .ref wk, .int ab, .int be, .ref pl, .ref sp, .int a0, .int a1, .int b0, .int b1, .ref po, .ref to, .ref ba, .ref li, .int (nI 2)])), (to, LA cJ 4 Q2_21), (li, LA cJ 6 L8)]) [0, 2, 3] (by decide) rfl) rfl rfl) rfl rfl hl.1 rfl (lv_room (Nat.le_of_ble_eq_true rfl)) d_M_findTwo_273 ⟨Nat.le_of_ble_eq_true rfl, Nat.le_of_ble_eq_true rfl⟩) (fun u_23 H locs hs2 hP hD hS => ?_)
          obtain ⟨Q2_24, L9⟩ := u_23
          try dsimp only at hs2
          have hP : va_P D vwC [(g, .inr (2, [.int cd, .int (nI d), .ref mm, .int ik, .ref kf, .ref tb, .int rw, .ref wk, .int ab, .int be, .ref pl, .ref sp, .int a0, .int a1, .int b0, .int b1, .ref po, .ref to, .ref ba, .ref li, .int (nI 2)])), (mm, IA cI 16 Fm), (to, LA cJ 4 Q2_24), (li, LA cJ 6 L9)] H := hP.sub [1, 0, 2, 3] rfl
          have hD : va_D A [(g, .inr (2, [.int cd, .int (nI d), .ref mm, .int ik, .ref kf, .ref tb, .int rw, .ref wk, .int ab, .int be, .ref pl, .ref sp, .int a0, .int a1, .int b0, .int b1, .ref po, .ref to, .ref ba, .ref li, .int (nI 2)])), (mm, IA cI 16 Fm), (to, LA cJ 4 Q2_24), (li, LA cJ 6 L9)] := hD.sub [1, 0, 2, 3] (by decide) rfl
          refine lv_goto (tgt := 373) hx hb d_M_findTwo_276 (by decide) ?_
          exact hret H locs _ ls (2, Q2_24, L9) d_M_findTwo_373 (by first | exact ⟨⟨fun q => absurd q (by omega), fun _ => ⟨rv9, hrt, fun q => absurd q (by omega), fun _ => ⟨rfl, fun _ => two_of hs1.1 hs2.1 hs2.2.2, fun q => absurd q c213_4, fun q => absurd q c213_4⟩⟩⟩, fun _ => two_B hs1.2.1 hs2.2.1 hs2.2.2⟩ | (dsimp only; exact ⟨⟨fun q => absurd q (by omega), fun _ => ⟨rv9, hrt, fun q => absurd q (by omega), fun _ => ⟨rfl, fun _ => two_of hs1.1 hs2.1 hs2.2.2, fun q => absurd q c213_4, fun q => absurd q c213_4⟩⟩⟩, fun _ => two_B hs1.2.1 hs2.2.1 hs2.2.2⟩)) hP hD hS
      · skip
        refine lv_aload_n hx hb d_M_findTwo_202 rfl (lv_at hl 6 rfl) ?_
        refine lv_iconst (v := nI 0) hx hb d_M_findTwo_203 (by decide) ?_
        refine va_put (D := D) (ci := 2) (v := .int (nI 0)) (ty := .int) (C := R_M) (T := F_M) (N := 21) hx hb hts iw_M ft_M ft_M_ok n_M hown hK hP hD hS 0 rfl rfl 20 (by decide) (hts _ tw_407) (fun _ h9 => h9) rfl (by decide +kernel) rfl rfl (Nat.le_of_ble_eq_true rfl) d_M_findTwo_204 (fun H locs hP hD hS => ?_)
        have hP : va_P D vwC [(g, .inr (2, [.int cd, .int (nI d), .ref mm, .int ik, .ref kf, .ref tb, .int rw, .ref wk, .int ab, .int be, .ref pl, .ref sp, .int a0, .int a1, .int b0, .int b1, .ref po, .ref to, .ref ba, .ref li, .int (nI 0)])), (mm, IA cI 16 Fm), (to, LA cJ 4 Q0), (li, LA cJ 6 L0)] H := hP
        have hD : va_D A [(g, .inr (2, [.int cd, .int (nI d), .ref mm, .int ik, .ref kf, .ref tb, .int rw, .ref wk, .int ab, .int be, .ref pl, .ref sp, .int a0, .int a1, .int b0, .int b1, .ref po, .ref to, .ref ba, .ref li, .int (nI 0)])), (mm, IA cI 16 Fm), (to, LA cJ 4 Q0), (li, LA cJ 6 L0)] := hD
        refine lv_goto (tgt := 373) hx hb d_M_findTwo_207 (by decide) ?_
        exact hret H locs _ ls (0, Q0, L0) d_M_findTwo_373 (by first | exact ⟨⟨fun q => absurd q (by omega), fun _ => ⟨rv9, hrt, fun _ => rfl, fun q => absurd q (by omega)⟩⟩, fun q => absurd q (by decide)⟩ | (dsimp only; exact ⟨⟨fun q => absurd q (by omega), fun _ => ⟨rv9, hrt, fun _ => rfl, fun q => absurd q (by omega)⟩⟩, fun q => absurd q (by decide)⟩)) hP hD hS
    · skip
      refine lv_lload_n hx hb d_M_findTwo_55 rfl (lv_at hl 4 rfl) ?_
      refine lv_lconst (v := lI 0) hx hb d_M_findTwo_56 (by decide) ?_
      refine xl_eq (tgt := 82) hx hb (lB_of (hF _ (by decide)) (by decide)) ⟨by decide, by decide⟩ d_M_findTwo_57 d_M_findTwo_58 (by decide) (fun c58_24 => ?_) (fun c58_24 => ?_)
      · skip
        refine lv_lload hx hb d_M_findTwo_82 (lv_at hl 0 rfl) ?_
        refine lv_lload hx hb d_M_findTwo_84 (lv_at hl 0 rfl) ?_
        refine xl_mul hx hb d_M_findTwo_86 ?_
        refine lv_lload hx hb d_M_findTwo_87 (lv_at hl 2 rfl) ?_
        refine lv_aload_n hx hb d_M_findTwo_89 rfl (lv_at hl 5 rfl) ?_
        refine va_get (D := D) (ci := 2) (v := .ref mm) (C := R_M) (T := F_M) (N := 21) hx hb hts iw_M hown hK hP 0 rfl rfl 2 (by decide) (hts _ tw_389) (fun _ h9 => h9) rfl d_M_findTwo_90 ?_
        refine lv_iconst (v := nI 0) hx hb d_M_findTwo_93 (by decide) ?_
        refine xi_ald hx hb hK hP 1 1 rfl rfl (k := 0) (by omega) (by first | decide | omega) d_M_findTwo_94 ?_
        refine lv_i2l (v := lI (Fm 0)) hx hb d_M_findTwo_95 (iI_i2l (iB_of (hF _ (by decide)) (by decide))) ?_
        refine xl_mul hx hb d_M_findTwo_96 ?_
        refine xl_sub hx hb d_M_findTwo_97 ?_
        refine xcl (wc := []) (wr := [(g, .inr (2, [.int cd, .int (nI d), .ref mm, .int ik, .ref kf, .ref tb, .int rw, .ref wk, .int ab, .int be, .ref pl, .ref sp, .int a0, .int a1, .int b0, .int b1, .ref po, .ref to, .ref ba, .ref li, .int (nI 2)])), (mm, IA cI 16 Fm), (to, LA cJ 4 Q0), (li, LA cJ 6 L0)]) hP hD hS hA [] [0, 1, 2, 3] rfl rfl (by decide) (by decide) (va_runS (As := [.long (lI (((Fm 2) * (Fm 2)) - ((Fm 10) * (Fm 0))))]) (rest := []) ⟨hx, hb, hml, hown, hts⟩ (r_root l D cJ cI (((Fm 2) * (Fm 2)) - ((Fm 10) * (Fm 0))) (leB (subB (mulB (hF 2 (by decide)) (hF 2 (by decide))) (mulB (hF 10 (by decide)) (hF 0 (by decide)))) (by decide)) H.size) (cwS 1 hts (gS tw_614 tw_615 tw_3 tw_616) rfl rfl rfl ⟨rfl, hd_M_root⟩ ⟨Nat.le_of_ble_eq_true rfl, Nat.le_of_ble_eq_true rfl⟩) (xPreS hN hK (hP.sub (ws' := []) [] rfl) (hD.sub (ws' := []) [] (by decide) rfl)) rfl rfl hl.1 rfl (lv_room (Nat.le_of_ble_eq_true rfl)) d_M_findTwo_98 ⟨Nat.le_of_ble_eq_true rfl, Nat.le_of_ble_eq_true rfl⟩) (fun r_26 u_27 H locs hrt hP hD hS => ?_)
        obtain ⟨rv9, rfl⟩ : ∃ z, z = u_27 := ⟨_, rfl⟩
        try dsimp only at hrt
        have hP : va_P D vwC [(g, .inr (2, [.int cd, .int (nI d), .ref mm, .int ik, .ref kf, .ref tb, .int rw, .ref wk, .int ab, .int be, .ref pl, .ref sp, .int a0, .int a1, .int b0, .int b1, .ref po, .ref to, .ref ba, .ref li, .int (nI 2)])), (mm, IA cI 16 Fm), (to, LA cJ 4 Q0), (li, LA cJ 6 L0)] H := hP
        have hD : va_D A [(g, .inr (2, [.int cd, .int (nI d), .ref mm, .int ik, .ref kf, .ref tb, .int rw, .ref wk, .int ab, .int be, .ref pl, .ref sp, .int a0, .int a1, .int b0, .int b1, .ref po, .ref to, .ref ba, .ref li, .int (nI 2)])), (mm, IA cI 16 Fm), (to, LA cJ 4 Q0), (li, LA cJ 6 L0)] := hD
        obtain ⟨rfl, hrt⟩ := hrt
        refine lv_lstore (lv' := [(12, .long (lI rv9)), (10, .long (lI (Fm 2))), (8, .long (lI (Fm 1))), (6, .long (lI (Fm 10))), (4, .long (lI (Fm 6))), (2, .long (lI (Fm 5))), (0, .ref g), (1, .int (nI cr))]) hx hb d_M_findTwo_101 hl (by decide) rfl (fun ls hl => ?_)
        refine lv_lload hx hb d_M_findTwo_103 (lv_at hl 0 rfl) ?_
        refine lv_lconst (v := lI 0) hx hb d_M_findTwo_105 (by decide) ?_
        refine xl_ge (tgt := 118) hx hb (lB_of (rm_B hrt) (by decide)) ⟨by decide, by decide⟩ d_M_findTwo_106 d_M_findTwo_107 (by decide) (fun c107_27 => ?_) (fun c107_27 => ?_)
        · skip
          refine lv_lload_n hx hb d_M_findTwo_118 rfl (lv_at hl 5 rfl) ?_
          refine lv_lconst (v := lI 0) hx hb d_M_findTwo_119 (by decide) ?_
          refine xl_eq (tgt := 153) hx hb (lB_of (hF _ (by decide)) (by decide)) ⟨by decide, by decide⟩ d_M_findTwo_120 d_M_findTwo_121 (by decide) (fun c121_28 => ?_) (fun c121_28 => absurd c121_28 (by omega))
          refine lv_aload_n hx hb d_M_findTwo_153 rfl (lv_at hl 6 rfl) ?_
          refine lv_iconst (v := nI 0) hx hb d_M_findTwo_154 (by decide) ?_
          refine lv_lload hx hb d_M_findTwo_155 (lv_at hl 1 rfl) ?_
          refine lv_lload hx hb d_M_findTwo_157 (lv_at hl 0 rfl) ?_
          refine xl_add hx hb d_M_findTwo_159 ?_
          refine lv_lconst (v := lI 0) hx hb d_M_findTwo_160 (by decide) ?_
          refine lv_lload hx hb d_M_findTwo_161 (lv_at hl 3 rfl) ?_
          refine xcv (wc := [(g, .inr (2, [.int cd, .int (nI d), .ref mm, .int ik, .ref kf, .ref tb, .int rw, .ref wk, .int ab, .int be, .ref pl, .ref sp, .int a0, .int a1, .int b0, .int b1, .ref po, .ref to, .ref ba, .ref li, .int (nI 2)])), (to, LA cJ 4 Q0), (li, LA cJ 6 L0)]) (wr := [(mm, IA cI 16 Fm)]) hP hD hS hA [0, 2, 3] [1] rfl rfl (by decide) (by decide) (va_runV (As := [.int (nI 0), .long (lI ((Fm 2) + rv9)), .long (lI 0), .long (lI (Fm 10))]) (rest := []) ⟨hx, hb, hml, hown, hts⟩ (r_setLine l D cJ cI g cd d ik rw ab be a0 a1 b0 b1 (nI 2) mm kf tb wk pl sp po to ba li Q0 L0 0 ((Fm 2) + rv9) 0 (Fm 10) (by decide) (leB (addB (hF 2 (by decide)) (rm_B hrt)) (by decide)) ⟨by decide, by decide⟩ (leB (hF 10 (by decide)) (by decide)) H.size) (cwV 4 hts (gV tw_606 tw_608 tws_34 tw_3 tw_609) rfl rfl rfl ⟨rfl, hd_M_setLine⟩ ⟨Nat.le_of_ble_eq_true rfl, Nat.le_of_ble_eq_true rfl⟩) (xPreV (C := R_M) (T := F_M) (N := 21) (q0 := 0) hN hK (hP.sub (ws' := [(g, .inr (2, [.int cd, .int (nI d), .ref mm, .int ik, .ref kf, .ref tb, .int rw, .ref wk, .int ab, .int be, .ref pl, .ref sp, .int a0, .int a1, .int b0, .int b1, .ref po, .ref to, .ref ba, .ref li, .int (nI 2)])), (to, LA cJ 4 Q0), (li, LA cJ 6 L0)]) [0, 2, 3] rfl) (hD.sub (ws' := [(g, .inr (2, [.int cd, .int (nI d), .ref mm, .int ik, .ref kf, .ref tb, .int rw, .ref wk, .int ab, .int be, .ref pl, .ref sp, .int a0, .int a1, .int b0, .int b1, .ref po, .ref to, .ref ba, .ref li, .int (nI 2)])), (to, LA cJ 4 Q0), (li, LA cJ 6 L0)]) [0, 2, 3] (by decide) rfl) rfl rfl) rfl rfl hl.1 rfl (lv_room (Nat.le_of_ble_eq_true rfl)) d_M_findTwo_163 ⟨Nat.le_of_ble_eq_true rfl, Nat.le_of_ble_eq_true rfl⟩) (fun u_31 H locs hs1 hP hD hS => ?_)
          obtain ⟨Q2_32, L8⟩ := u_31
          try dsimp only at hs1
          have hP : va_P D vwC [(g, .inr (2, [.int cd, .int (nI d), .ref mm, .int ik, .ref kf, .ref tb, .int rw, .ref wk, .int ab, .int be, .ref pl, .ref sp, .int a0, .int a1, .int b0, .int b1, .ref po, .ref to, .ref ba, .ref li, .int (nI 2)])), (mm, IA cI 16 Fm), (to, LA cJ 4 Q2_32), (li, LA cJ 6 L8)] H := hP.sub [1, 0, 2, 3] rfl
          have hD : va_D A [(g, .inr (2, [.int cd, .int (nI d), .ref mm, .int ik, .ref kf, .ref tb, .int rw, .ref wk, .int ab, .int be, .ref pl, .ref sp, .int a0, .int a1, .int b0, .int b1, .ref po, .ref to, .ref ba, .ref li, .int (nI 2)])), (mm, IA cI 16 Fm), (to, LA cJ 4 Q2_32), (li, LA cJ 6 L8)] := hD.sub [1, 0, 2, 3] (by decide) rfl
          refine lv_aload_n hx hb d_M_findTwo_166 rfl (lv_at hl 6 rfl) ?_
          refine lv_iconst (v := nI 1) hx hb d_M_findTwo_167 (by decide) ?_
          refine lv_lload hx hb d_M_findTwo_168 (lv_at hl 1 rfl) ?_
          refine lv_lload hx hb d_M_findTwo_170 (lv_at hl 0 rfl) ?_
          refine xl_sub hx hb d_M_findTwo_172 ?_
          refine lv_lconst (v := lI 0) hx hb d_M_findTwo_173 (by decide) ?_
          refine lv_lload hx hb d_M_findTwo_174 (lv_at hl 3 rfl) ?_
          refine xcv (wc := [(g, .inr (2, [.int cd, .int (nI d), .ref mm, .int ik, .ref kf, .ref tb, .int rw, .ref wk, .int ab, .int be, .ref pl, .ref sp, .int a0, .int a1, .int b0, .int b1, .ref po, .ref to, .ref ba, .ref li, .int (nI 2)])), (to, LA cJ 4 Q2_32), (li, LA cJ 6 L8)]) (wr := [(mm, IA cI 16 Fm)]) hP hD hS hA [0, 2, 3] [1] rfl rfl (by decide) (by decide) (va_runV (As := [.int (nI 1), .long (lI ((Fm 2) - rv9)), .long (lI 0), .long (lI (Fm 10))]) (rest := []) ⟨hx, hb, hml, hown, hts⟩ (r_setLine l D cJ cI g cd d ik rw ab be a0 a1 b0 b1 (nI 2) mm kf tb wk pl sp po to ba li Q2_32 L8 1 ((Fm 2) - rv9) 0 (Fm 10) (by decide) (leB (subB (hF 2 (by decide)) (rm_B hrt)) (by decide)) ⟨by decide, by decide⟩ (leB (hF 10 (by decide)) (by decide)) H.size) (cwV 4 hts (gV tw_606 tw_608 tws_34 tw_3 tw_609) rfl rfl rfl ⟨rfl, hd_M_setLine⟩ ⟨Nat.le_of_ble_eq_true rfl, Nat.le_of_ble_eq_true rfl⟩) (xPreV (C := R_M) (T := F_M) (N := 21) (q0 := 0) hN hK (hP.sub (ws' := [(g, .inr (2, [.int cd, .int (nI d), .ref mm, .int ik, .ref kf, .ref tb, .int rw, .ref wk, .int ab, .int be, .ref pl, .ref sp, .int a0, .int a1, .int b0, .int b1, .ref po, .ref to, .ref ba, .ref li, .int (nI 2)])), (to, LA cJ 4 Q2_32), (li, LA cJ 6 L8)]) [0, 2, 3] rfl) (hD.sub (ws' := [(g, .inr (2, [.int cd, .int (nI d), .ref mm, .int ik, .ref kf, .ref tb, .int rw, .ref wk, .int ab, .int be, .ref pl, .ref sp, .int a0, .int a1, .int b0, .int b1, .ref po, .ref to, .ref ba, .ref li, .int (nI 2)])), (to, LA cJ 4 Q2_32), (li, LA cJ 6 L8)]) [0, 2, 3] (by decide) rfl) rfl rfl) rfl rfl hl.1 rfl (lv_room (Nat.le_of_ble_eq_true rfl)) d_M_findTwo_176 ⟨Nat.le_of_ble_eq_true rfl, Nat.le_of_ble_eq_true rfl⟩) (fun u_34 H locs hs2 hP hD hS => ?_)
          obtain ⟨Q2_35, L9⟩ := u_34
          try dsimp only at hs2
          have hP : va_P D vwC [(g, .inr (2, [.int cd, .int (nI d), .ref mm, .int ik, .ref kf, .ref tb, .int rw, .ref wk, .int ab, .int be, .ref pl, .ref sp, .int a0, .int a1, .int b0, .int b1, .ref po, .ref to, .ref ba, .ref li, .int (nI 2)])), (mm, IA cI 16 Fm), (to, LA cJ 4 Q2_35), (li, LA cJ 6 L9)] H := hP.sub [1, 0, 2, 3] rfl
          have hD : va_D A [(g, .inr (2, [.int cd, .int (nI d), .ref mm, .int ik, .ref kf, .ref tb, .int rw, .ref wk, .int ab, .int be, .ref pl, .ref sp, .int a0, .int a1, .int b0, .int b1, .ref po, .ref to, .ref ba, .ref li, .int (nI 2)])), (mm, IA cI 16 Fm), (to, LA cJ 4 Q2_35), (li, LA cJ 6 L9)] := hD.sub [1, 0, 2, 3] (by decide) rfl
          exact hret H locs _ ls (2, Q2_35, L9) d_M_findTwo_179 (by first | exact ⟨⟨fun _ => ⟨rv9, (if_neg (show ¬ Fm 5 ≠ 0 from fun q => q c58_24)).symm ▸ hrt, fun q => absurd q (by omega), fun _ => ⟨rfl, fun q => absurd c121_28 q, fun _ => two_of hs1.1 hs2.1 hs2.2.2⟩⟩, fun q => absurd (show cr = 0 from by omega) q⟩, fun _ => two_B hs1.2.1 hs2.2.1 hs2.2.2⟩ | (dsimp only; exact ⟨⟨fun _ => ⟨rv9, (if_neg (show ¬ Fm 5 ≠ 0 from fun q => q c58_24)).symm ▸ hrt, fun q => absurd q (by omega), fun _ => ⟨rfl, fun q => absurd c121_28 q, fun _ => two_of hs1.1 hs2.1 hs2.2.2⟩⟩, fun q => absurd (show cr = 0 from by omega) q⟩, fun _ => two_B hs1.2.1 hs2.2.1 hs2.2.2⟩)) hP hD hS
        · skip
          refine lv_aload_n hx hb d_M_findTwo_110 rfl (lv_at hl 6 rfl) ?_
          refine lv_iconst (v := nI 0) hx hb d_M_findTwo_111 (by decide) ?_
          refine va_put (D := D) (ci := 2) (v := .int (nI 0)) (ty := .int) (C := R_M) (T := F_M) (N := 21) hx hb hts iw_M ft_M ft_M_ok n_M hown hK hP hD hS 0 rfl rfl 20 (by decide) (hts _ tw_407) (fun _ h9 => h9) rfl (by decide +kernel) rfl rfl (Nat.le_of_ble_eq_true rfl) d_M_findTwo_112 (fun H locs hP hD hS => ?_)
          have hP : va_P D vwC [(g, .inr (2, [.int cd, .int (nI d), .ref mm, .int ik, .ref kf, .ref tb, .int rw, .ref wk, .int ab, .int be, .ref pl, .ref sp, .int a0, .int a1, .int b0, .int b1, .ref po, .ref to, .ref ba, .ref li, .int (nI 0)])), (mm, IA cI 16 Fm), (to, LA cJ 4 Q0), (li, LA cJ 6 L0)] H := hP
          have hD : va_D A [(g, .inr (2, [.int cd, .int (nI d), .ref mm, .int ik, .ref kf, .ref tb, .int rw, .ref wk, .int ab, .int be, .ref pl, .ref sp, .int a0, .int a1, .int b0, .int b1, .ref po, .ref to, .ref ba, .ref li, .int (nI 0)])), (mm, IA cI 16 Fm), (to, LA cJ 4 Q0), (li, LA cJ 6 L0)] := hD
          refine lv_goto (tgt := 179) hx hb d_M_findTwo_115 (by decide) ?_
          exact hret H locs _ ls (0, Q0, L0) d_M_findTwo_179 (by first | exact ⟨⟨fun _ => ⟨rv9, (if_neg (show ¬ Fm 5 ≠ 0 from fun q => q c58_24)).symm ▸ hrt, fun _ => rfl, fun q => absurd q (by omega)⟩, fun q => absurd (show cr = 0 from by omega) q⟩, fun q => absurd q (by decide)⟩ | (dsimp only; exact ⟨⟨fun _ => ⟨rv9, (if_neg (show ¬ Fm 5 ≠ 0 from fun q => q c58_24)).symm ▸ hrt, fun _ => rfl, fun q => absurd q (by omega)⟩, fun q => absurd (show cr = 0 from by omega) q⟩, fun q => absurd q (by decide)⟩)) hP hD hS
      · skip
        refine lv_lload hx hb d_M_findTwo_61 (lv_at hl 1 rfl) ?_
        refine lv_lload hx hb d_M_findTwo_63 (lv_at hl 1 rfl) ?_
        refine xl_mul hx hb d_M_findTwo_65 ?_
        refine lv_lload_n hx hb d_M_findTwo_66 rfl (lv_at hl 4 rfl) ?_
        refine lv_aload_n hx hb d_M_findTwo_67 rfl (lv_at hl 5 rfl) ?_
        refine va_get (D := D) (ci := 2) (v := .ref mm) (C := R_M) (T := F_M) (N := 21) hx hb hts iw_M hown hK hP 0 rfl rfl 2 (by decide) (hts _ tw_389) (fun _ h9 => h9) rfl d_M_findTwo_68 ?_
        refine lv_iconst (v := nI 0) hx hb d_M_findTwo_71 (by decide) ?_
        refine xi_ald hx hb hK hP 1 1 rfl rfl (k := 0) (by omega) (by first | decide | omega) d_M_findTwo_72 ?_
        refine lv_i2l (v := lI (Fm 0)) hx hb d_M_findTwo_73 (iI_i2l (iB_of (hF _ (by decide)) (by decide))) ?_
        refine xl_mul hx hb d_M_findTwo_74 ?_
        refine xl_sub hx hb d_M_findTwo_75 ?_
        refine xcl (wc := []) (wr := [(g, .inr (2, [.int cd, .int (nI d), .ref mm, .int ik, .ref kf, .ref tb, .int rw, .ref wk, .int ab, .int be, .ref pl, .ref sp, .int a0, .int a1, .int b0, .int b1, .ref po, .ref to, .ref ba, .ref li, .int (nI 2)])), (mm, IA cI 16 Fm), (to, LA cJ 4 Q0), (li, LA cJ 6 L0)]) hP hD hS hA [] [0, 1, 2, 3] rfl rfl (by decide) (by decide) (va_runS (As := [.long (lI (((Fm 1) * (Fm 1)) - ((Fm 5) * (Fm 0))))]) (rest := []) ⟨hx, hb, hml, hown, hts⟩ (r_root l D cJ cI (((Fm 1) * (Fm 1)) - ((Fm 5) * (Fm 0))) (leB (subB (mulB (hF 1 (by decide)) (hF 1 (by decide))) (mulB (hF 5 (by decide)) (hF 0 (by decide)))) (by decide)) H.size) (cwS 1 hts (gS tw_614 tw_615 tw_3 tw_616) rfl rfl rfl ⟨rfl, hd_M_root⟩ ⟨Nat.le_of_ble_eq_true rfl, Nat.le_of_ble_eq_true rfl⟩) (xPreS hN hK (hP.sub (ws' := []) [] rfl) (hD.sub (ws' := []) [] (by decide) rfl)) rfl rfl hl.1 rfl (lv_room (Nat.le_of_ble_eq_true rfl)) d_M_findTwo_76 ⟨Nat.le_of_ble_eq_true rfl, Nat.le_of_ble_eq_true rfl⟩) (fun r_36 u_37 H locs hrt hP hD hS => ?_)
        obtain ⟨rv9, rfl⟩ : ∃ z, z = u_37 := ⟨_, rfl⟩
        try dsimp only at hrt
        have hP : va_P D vwC [(g, .inr (2, [.int cd, .int (nI d), .ref mm, .int ik, .ref kf, .ref tb, .int rw, .ref wk, .int ab, .int be, .ref pl, .ref sp, .int a0, .int a1, .int b0, .int b1, .ref po, .ref to, .ref ba, .ref li, .int (nI 2)])), (mm, IA cI 16 Fm), (to, LA cJ 4 Q0), (li, LA cJ 6 L0)] H := hP
        have hD : va_D A [(g, .inr (2, [.int cd, .int (nI d), .ref mm, .int ik, .ref kf, .ref tb, .int rw, .ref wk, .int ab, .int be, .ref pl, .ref sp, .int a0, .int a1, .int b0, .int b1, .ref po, .ref to, .ref ba, .ref li, .int (nI 2)])), (mm, IA cI 16 Fm), (to, LA cJ 4 Q0), (li, LA cJ 6 L0)] := hD
        obtain ⟨rfl, hrt⟩ := hrt
        refine lv_goto (tgt := 101) hx hb d_M_findTwo_79 (by decide) ?_
        refine lv_lstore (lv' := [(12, .long (lI rv9)), (10, .long (lI (Fm 2))), (8, .long (lI (Fm 1))), (6, .long (lI (Fm 10))), (4, .long (lI (Fm 6))), (2, .long (lI (Fm 5))), (0, .ref g), (1, .int (nI cr))]) hx hb d_M_findTwo_101 hl (by decide) rfl (fun ls hl => ?_)
        refine lv_lload hx hb d_M_findTwo_103 (lv_at hl 0 rfl) ?_
        refine lv_lconst (v := lI 0) hx hb d_M_findTwo_105 (by decide) ?_
        refine xl_ge (tgt := 118) hx hb (lB_of (rm_B hrt) (by decide)) ⟨by decide, by decide⟩ d_M_findTwo_106 d_M_findTwo_107 (by decide) (fun c107_37 => ?_) (fun c107_37 => ?_)
        · skip
          refine lv_lload_n hx hb d_M_findTwo_118 rfl (lv_at hl 5 rfl) ?_
          refine lv_lconst (v := lI 0) hx hb d_M_findTwo_119 (by decide) ?_
          refine xl_eq (tgt := 153) hx hb (lB_of (hF _ (by decide)) (by decide)) ⟨by decide, by decide⟩ d_M_findTwo_120 d_M_findTwo_121 (by decide) (fun c121_38 => absurd c121_38 (by omega)) (fun c121_38 => ?_)
          refine lv_aload_n hx hb d_M_findTwo_124 rfl (lv_at hl 6 rfl) ?_
          refine lv_iconst (v := nI 0) hx hb d_M_findTwo_125 (by decide) ?_
          refine lv_lload hx hb d_M_findTwo_126 (lv_at hl 2 rfl) ?_
          refine lv_lload hx hb d_M_findTwo_128 (lv_at hl 0 rfl) ?_
          refine xl_add hx hb d_M_findTwo_130 ?_
          refine lv_lload_n hx hb d_M_findTwo_131 rfl (lv_at hl 5 rfl) ?_
          refine lv_lload hx hb d_M_findTwo_132 (lv_at hl 4 rfl) ?_
          refine xcv (wc := [(g, .inr (2, [.int cd, .int (nI d), .ref mm, .int ik, .ref kf, .ref tb, .int rw, .ref wk, .int ab, .int be, .ref pl, .ref sp, .int a0, .int a1, .int b0, .int b1, .ref po, .ref to, .ref ba, .ref li, .int (nI 2)])), (to, LA cJ 4 Q0), (li, LA cJ 6 L0)]) (wr := [(mm, IA cI 16 Fm)]) hP hD hS hA [0, 2, 3] [1] rfl rfl (by decide) (by decide) (va_runV (As := [.int (nI 0), .long (lI ((Fm 1) + rv9)), .long (lI (Fm 5)), .long (lI (Fm 6))]) (rest := []) ⟨hx, hb, hml, hown, hts⟩ (r_setLine l D cJ cI g cd d ik rw ab be a0 a1 b0 b1 (nI 2) mm kf tb wk pl sp po to ba li Q0 L0 0 ((Fm 1) + rv9) (Fm 5) (Fm 6) (by decide) (leB (addB (hF 1 (by decide)) (rm_B hrt)) (by decide)) (leB (hF 5 (by decide)) (by decide)) (leB (hF 6 (by decide)) (by decide)) H.size) (cwV 4 hts (gV tw_606 tw_608 tws_34 tw_3 tw_609) rfl rfl rfl ⟨rfl, hd_M_setLine⟩ ⟨Nat.le_of_ble_eq_true rfl, Nat.le_of_ble_eq_true rfl⟩) (xPreV (C := R_M) (T := F_M) (N := 21) (q0 := 0) hN hK (hP.sub (ws' := [(g, .inr (2, [.int cd, .int (nI d), .ref mm, .int ik, .ref kf, .ref tb, .int rw, .ref wk, .int ab, .int be, .ref pl, .ref sp, .int a0, .int a1, .int b0, .int b1, .ref po, .ref to, .ref ba, .ref li, .int (nI 2)])), (to, LA cJ 4 Q0), (li, LA cJ 6 L0)]) [0, 2, 3] rfl) (hD.sub (ws' := [(g, .inr (2, [.int cd, .int (nI d), .ref mm, .int ik, .ref kf, .ref tb, .int rw, .ref wk, .int ab, .int be, .ref pl, .ref sp, .int a0, .int a1, .int b0, .int b1, .ref po, .ref to, .ref ba, .ref li, .int (nI 2)])), (to, LA cJ 4 Q0), (li, LA cJ 6 L0)]) [0, 2, 3] (by decide) rfl) rfl rfl) rfl rfl hl.1 rfl (lv_room (Nat.le_of_ble_eq_true rfl)) d_M_findTwo_134 ⟨Nat.le_of_ble_eq_true rfl, Nat.le_of_ble_eq_true rfl⟩) (fun u_41 H locs hs1 hP hD hS => ?_)
          obtain ⟨Q2_42, L8⟩ := u_41
          try dsimp only at hs1
          have hP : va_P D vwC [(g, .inr (2, [.int cd, .int (nI d), .ref mm, .int ik, .ref kf, .ref tb, .int rw, .ref wk, .int ab, .int be, .ref pl, .ref sp, .int a0, .int a1, .int b0, .int b1, .ref po, .ref to, .ref ba, .ref li, .int (nI 2)])), (mm, IA cI 16 Fm), (to, LA cJ 4 Q2_42), (li, LA cJ 6 L8)] H := hP.sub [1, 0, 2, 3] rfl
          have hD : va_D A [(g, .inr (2, [.int cd, .int (nI d), .ref mm, .int ik, .ref kf, .ref tb, .int rw, .ref wk, .int ab, .int be, .ref pl, .ref sp, .int a0, .int a1, .int b0, .int b1, .ref po, .ref to, .ref ba, .ref li, .int (nI 2)])), (mm, IA cI 16 Fm), (to, LA cJ 4 Q2_42), (li, LA cJ 6 L8)] := hD.sub [1, 0, 2, 3] (by decide) rfl
          refine lv_aload_n hx hb d_M_findTwo_137 rfl (lv_at hl 6 rfl) ?_
          refine lv_iconst (v := nI 1) hx hb d_M_findTwo_138 (by decide) ?_
          refine lv_lload hx hb d_M_findTwo_139 (lv_at hl 2 rfl) ?_
          refine lv_lload hx hb d_M_findTwo_141 (lv_at hl 0 rfl) ?_
          refine xl_sub hx hb d_M_findTwo_143 ?_
          refine lv_lload_n hx hb d_M_findTwo_144 rfl (lv_at hl 5 rfl) ?_
          refine lv_lload hx hb d_M_findTwo_145 (lv_at hl 4 rfl) ?_
          refine xcv (wc := [(g, .inr (2, [.int cd, .int (nI d), .ref mm, .int ik, .ref kf, .ref tb, .int rw, .ref wk, .int ab, .int be, .ref pl, .ref sp, .int a0, .int a1, .int b0, .int b1, .ref po, .ref to, .ref ba, .ref li, .int (nI 2)])), (to, LA cJ 4 Q2_42), (li, LA cJ 6 L8)]) (wr := [(mm, IA cI 16 Fm)]) hP hD hS hA [0, 2, 3] [1] rfl rfl (by decide) (by decide) (va_runV (As := [.int (nI 1), .long (lI ((Fm 1) - rv9)), .long (lI (Fm 5)), .long (lI (Fm 6))]) (rest := []) ⟨hx, hb, hml, hown, hts⟩ (r_setLine l D cJ cI g cd d ik rw ab be a0 a1 b0 b1 (nI 2) mm kf tb wk pl sp po to ba li Q2_42 L8 1 ((Fm 1) - rv9) (Fm 5) (Fm 6) (by decide) (leB (subB (hF 1 (by decide)) (rm_B hrt)) (by decide)) (leB (hF 5 (by decide)) (by decide)) (leB (hF 6 (by decide)) (by decide)) H.size) (cwV 4 hts (gV tw_606 tw_608 tws_34 tw_3 tw_609) rfl rfl rfl ⟨rfl, hd_M_setLine⟩ ⟨Nat.le_of_ble_eq_true rfl, Nat.le_of_ble_eq_true rfl⟩) (xPreV (C := R_M) (T := F_M) (N := 21) (q0 := 0) hN hK (hP.sub (ws' := [(g, .inr (2, [.int cd, .int (nI d), .ref mm, .int ik, .ref kf, .ref tb, .int rw, .ref wk, .int ab, .int be, .ref pl, .ref sp, .int a0, .int a1, .int b0, .int b1, .ref po, .ref to, .ref ba, .ref li, .int (nI 2)])), (to, LA cJ 4 Q2_42), (li, LA cJ 6 L8)]) [0, 2, 3] rfl) (hD.sub (ws' := [(g, .inr (2, [.int cd, .int (nI d), .ref mm, .int ik, .ref kf, .ref tb, .int rw, .ref wk, .int ab, .int be, .ref pl, .ref sp, .int a0, .int a1, .int b0, .int b1, .ref po, .ref to, .ref ba, .ref li, .int (nI 2)])), (to, LA cJ 4 Q2_42), (li, LA cJ 6 L8)]) [0, 2, 3] (by decide) rfl) rfl rfl) rfl rfl hl.1 rfl (lv_room (Nat.le_of_ble_eq_true rfl)) d_M_findTwo_147 ⟨Nat.le_of_ble_eq_true rfl, Nat.le_of_ble_eq_true rfl⟩) (fun u_44 H locs hs2 hP hD hS => ?_)
          obtain ⟨Q2_45, L9⟩ := u_44
          try dsimp only at hs2
          have hP : va_P D vwC [(g, .inr (2, [.int cd, .int (nI d), .ref mm, .int ik, .ref kf, .ref tb, .int rw, .ref wk, .int ab, .int be, .ref pl, .ref sp, .int a0, .int a1, .int b0, .int b1, .ref po, .ref to, .ref ba, .ref li, .int (nI 2)])), (mm, IA cI 16 Fm), (to, LA cJ 4 Q2_45), (li, LA cJ 6 L9)] H := hP.sub [1, 0, 2, 3] rfl
          have hD : va_D A [(g, .inr (2, [.int cd, .int (nI d), .ref mm, .int ik, .ref kf, .ref tb, .int rw, .ref wk, .int ab, .int be, .ref pl, .ref sp, .int a0, .int a1, .int b0, .int b1, .ref po, .ref to, .ref ba, .ref li, .int (nI 2)])), (mm, IA cI 16 Fm), (to, LA cJ 4 Q2_45), (li, LA cJ 6 L9)] := hD.sub [1, 0, 2, 3] (by decide) rfl
          refine lv_goto (tgt := 179) hx hb d_M_findTwo_150 (by decide) ?_
          exact hret H locs _ ls (2, Q2_45, L9) d_M_findTwo_179 (by first | exact ⟨⟨fun _ => ⟨rv9, (if_pos (show Fm 5 ≠ 0 from c58_24)).symm ▸ hrt, fun q => absurd q (by omega), fun _ => ⟨rfl, fun _ => two_of hs1.1 hs2.1 hs2.2.2, fun q => absurd q c121_38⟩⟩, fun q => absurd (show cr = 0 from by omega) q⟩, fun _ => two_B hs1.2.1 hs2.2.1 hs2.2.2⟩ | (dsimp only; exact ⟨⟨fun _ => ⟨rv9, (if_pos (show Fm 5 ≠ 0 from c58_24)).symm ▸ hrt, fun q => absurd q (by omega), fun _ => ⟨rfl, fun _ => two_of hs1.1 hs2.1 hs2.2.2, fun q => absurd q c121_38⟩⟩, fun q => absurd (show cr = 0 from by omega) q⟩, fun _ => two_B hs1.2.1 hs2.2.1 hs2.2.2⟩)) hP hD hS
        · skip
          refine lv_aload_n hx hb d_M_findTwo_110 rfl (lv_at hl 6 rfl) ?_
          refine lv_iconst (v := nI 0) hx hb d_M_findTwo_111 (by decide) ?_
          refine va_put (D := D) (ci := 2) (v := .int (nI 0)) (ty := .int) (C := R_M) (T := F_M) (N := 21) hx hb hts iw_M ft_M ft_M_ok n_M hown hK hP hD hS 0 rfl rfl 20 (by decide) (hts _ tw_407) (fun _ h9 => h9) rfl (by decide +kernel) rfl rfl (Nat.le_of_ble_eq_true rfl) d_M_findTwo_112 (fun H locs hP hD hS => ?_)
          have hP : va_P D vwC [(g, .inr (2, [.int cd, .int (nI d), .ref mm, .int ik, .ref kf, .ref tb, .int rw, .ref wk, .int ab, .int be, .ref pl, .ref sp, .int a0, .int a1, .int b0, .int b1, .ref po, .ref to, .ref ba, .ref li, .int (nI 0)])), (mm, IA cI 16 Fm), (to, LA cJ 4 Q0), (li, LA cJ 6 L0)] H := hP
          have hD : va_D A [(g, .inr (2, [.int cd, .int (nI d), .ref mm, .int ik, .ref kf, .ref tb, .int rw, .ref wk, .int ab, .int be, .ref pl, .ref sp, .int a0, .int a1, .int b0, .int b1, .ref po, .ref to, .ref ba, .ref li, .int (nI 0)])), (mm, IA cI 16 Fm), (to, LA cJ 4 Q0), (li, LA cJ 6 L0)] := hD
          refine lv_goto (tgt := 179) hx hb d_M_findTwo_115 (by decide) ?_
          exact hret H locs _ ls (0, Q0, L0) d_M_findTwo_179 (by first | exact ⟨⟨fun _ => ⟨rv9, (if_pos (show Fm 5 ≠ 0 from c58_24)).symm ▸ hrt, fun _ => rfl, fun q => absurd q (by omega)⟩, fun q => absurd (show cr = 0 from by omega) q⟩, fun q => absurd q (by decide)⟩ | (dsimp only; exact ⟨⟨fun _ => ⟨rv9, (if_pos (show Fm 5 ≠ 0 from c58_24)).symm ▸ hrt, fun _ => rfl, fun q => absurd q (by omega)⟩, fun q => absurd (show cr = 0 from by omega) q⟩, fun q => absurd q (by decide)⟩)) hP hD hS
  rw [hH, hlc] at key; exact key
