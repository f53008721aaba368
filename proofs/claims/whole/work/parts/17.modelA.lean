/-! contracts of ConicKindsModel: first (wip/spec_model.py, modelA) -/
def swp (a b i : Nat) : Nat := if i = a then b else if i = b then a else i
def popN (b : Nat) : Nat := 0 + b / 2 ^ 0 % 2 + b / 2 ^ 1 % 2 + b / 2 ^ 2 % 2 + b / 2 ^ 3 % 2
theorem sw_step {W0 W3 : Nat → Int} {a b t : Nat} (ht : t < 5) (ha : a ≤ 3) (hb : b ≤ 3) (h1 : ∀ i j, i < 4 → j < 5 → W3 (5 * i + j) = if j < t then W0 (5 * swp a b i + j) else W0 (5 * i + j)) :
    ∀ i j, i < 4 → j < 5 → upZ (upZ W3 (5 * a + t) (W3 (5 * b + t))) (5 * b + t) (W3 (5 * a + t)) (5 * i + j) = if j < t + 1 then W0 (5 * swp a b i + j) else W0 (5 * i + j) := by
  intro i j hi hj
  have ea := h1 a t (by omega) ht
  have eb := h1 b t (by omega) ht
  rw [if_neg (Nat.lt_irrefl t)] at ea eb
  have e := h1 i j hi hj
  by_cases q : j = t
  · subst q
    rw [if_pos (Nat.lt_succ_self j)]
    by_cases q1 : i = b
    · subst q1
      rw [upZ_at, ea]
      unfold swp
      by_cases q2 : i = a
      · subst q2; rw [if_pos rfl]
      · rw [if_neg q2, if_pos rfl]
    · rw [upZ_ne _ _ (show 5 * i + j ≠ 5 * b + j by omega)]
      by_cases q2 : i = a
      · subst q2
        rw [upZ_at, eb]
        unfold swp
        rw [if_pos rfl]
      · rw [upZ_ne _ _ (show 5 * i + j ≠ 5 * a + j by omega), e, if_neg (Nat.lt_irrefl j)]
        unfold swp
        rw [if_neg q2, if_neg q1]
  · rw [upZ_ne _ _ (show 5 * i + j ≠ 5 * b + t by omega), upZ_ne _ _ (show 5 * i + j ≠ 5 * a + t by omega), e]
    by_cases q2 : j < t
    · rw [if_pos q2, if_pos (by omega)]
    · rw [if_neg q2, if_neg (by omega)]

def rm_r_in : Room := { frames := 0, cells := 0, slots := 0, locals := 0 }
set_option maxHeartbeats 4000000 in
set_option maxRecDepth 100000 in
/-- within -/
theorem r_in (l : Launch) (D : va_G) (cJ cI : ClassId) (z : Int) (lo : Int32) (hi : Int32) (hz : lB z) (sz : Nat) : xMz l y_M_in (Cond.code y_M_in b_M_in 4 (some .boolean) :: tW) rm_r_in [.long (lI z), .int lo, .int hi] D vwC [(cJ, .long), (cI, .int)] sz [] (fun (rv : Int32) (_ : Unit) => ((rv = nI 1 ∧ (lo.toInt ≤ z ∧ z ≤ hi.toInt)) ∨ (rv = nI 0 ∧ ¬ (lo.toInt ≤ z ∧ z ≤ hi.toInt)))) (fun (_ : Unit) => []) 0 0 := by
  refine xoz (cc := b_M_in) (maxL := 4) (by decide) rfl (Nat.le_of_ble_eq_true rfl) (fun r u h => by rcases h with h | h; exact Or.inr h.1; exact Or.inl h.1) ?_
  intro p e s m args below meth c Q A hx hb hml hts hown hN hA hS hP hK hD hret ls hl
  have hl : lv_has ls 4 [(0, .long (lI z)), (2, .int lo), (3, .int hi)] := hl
  obtain ⟨H, hH⟩ : ∃ z, z = s.heap := ⟨_, rfl⟩
  obtain ⟨locs, hlc⟩ : ∃ z : List Loc, z = [] := ⟨_, rfl⟩
  rw [← hH] at hP
  have hS : va_S A s.heap H locs := by rw [hH, hlc]; exact hS
  have key : W p l e rm_r_in s m args below meth c H locs 0 0 Q (F0 m 0 ls []) := by
    refine lv_lload_n hx hb d_M_in_0 rfl (lv_at hl 0 rfl) ?_
    refine lv_iload_n hx hb d_M_in_1 rfl (lv_at hl 1 rfl) ?_
    refine lv_i2l (v := lI lo.toInt) hx hb d_M_in_2 rfl ?_
    refine xl_lt (tgt := 18) hx hb (by first | assumption | exact lB_i _) (by first | assumption | exact lB_i _) d_M_in_3 d_M_in_4 (by decide) (fun c4_0 => ?_) (fun c4_0 => ?_)
    · skip
      refine lv_iconst (v := nI 0) hx hb d_M_in_18 (by decide) ?_
      exact hret H locs _ ls (nI 0) () d_M_in_19 (Or.inr ⟨rfl, (by omega)⟩) hP hD hS
    · skip
      refine lv_lload_n hx hb d_M_in_7 rfl (lv_at hl 0 rfl) ?_
      refine lv_iload_n hx hb d_M_in_8 rfl (lv_at hl 2 rfl) ?_
      refine lv_i2l (v := lI hi.toInt) hx hb d_M_in_9 rfl ?_
      refine xl_gt (tgt := 18) hx hb (by first | assumption | exact lB_i _) (by first | assumption | exact lB_i _) d_M_in_10 d_M_in_11 (by decide) (fun c11_1 => ?_) (fun c11_1 => ?_)
      · skip
        refine lv_iconst (v := nI 0) hx hb d_M_in_18 (by decide) ?_
        exact hret H locs _ ls (nI 0) () d_M_in_19 (Or.inr ⟨rfl, (by omega)⟩) hP hD hS
      · skip
        refine lv_iconst (v := nI 1) hx hb d_M_in_14 (by decide) ?_
        refine lv_goto (tgt := 19) hx hb d_M_in_15 (by decide) ?_
        exact hret H locs _ ls (nI 1) () d_M_in_19 (Or.inl ⟨rfl, (by omega)⟩) hP hD hS
  rw [hH, hlc] at key; exact key

def rm_r_dimension : Room := { frames := 0, cells := 0, slots := 0, locals := 0 }
set_option maxHeartbeats 4000000 in
set_option maxRecDepth 100000 in
/-- dimension -/
theorem r_dimension (l : Launch) (D : va_G) (cJ cI : ClassId) (g : Nat) (cd : Int32) (d : Nat) (ik : Int32) (rw : Int32) (ab : Int32) (be : Int32) (a0 : Int32) (a1 : Int32) (b0 : Int32) (b1 : Int32) (lm : Int32) (mm : Nat) (kf : Nat) (tb : Nat) (wk : Nat) (pl : Nat) (sp : Nat) (po : Nat) (to : Nat) (ba : Nat) (li : Nat) (Fm : Nat → Int) (v : Int32)  (sz : Nat) : xMi l y_M_dimension (Cond.code y_M_dimension b_M_dimension 4 (some .int) :: tW) rm_r_dimension [.ref g, .int v] D vwC [(cJ, .long), (cI, .int)] sz [(g, .inr (2, [.int cd, .int (nI d), .ref mm, .int ik, .ref kf, .ref tb, .int rw, .ref wk, .int ab, .int be, .ref pl, .ref sp, .int a0, .int a1, .int b0, .int b1, .ref po, .ref to, .ref ba, .ref li, .int lm])), (mm, IA cI 16 Fm)] (fun (rv : Int32) (uo : Nat × Int32 × (Nat → Int)) => rv = s_dim v d ∧ ((v.toInt = 2 ∨ v.toInt = 3 → uo.1 = v.toInt.toNat ∧ uo.2.1 = nI 0 ∧ ∀ k, k < 16 → uo.2.2 k = 0) ∧ (¬ (v.toInt = 2 ∨ v.toInt = 3) → uo.1 = d ∧ uo.2.1 = ik ∧ uo.2.2 = Fm))) (fun (uo : Nat × Int32 × (Nat → Int)) => [(g, .inr (2, [.int (nI 0), .int (nI uo.1), .ref mm, .int uo.2.1, .ref kf, .ref tb, .int rw, .ref wk, .int ab, .int be, .ref pl, .ref sp, .int a0, .int a1, .int b0, .int b1, .ref po, .ref to, .ref ba, .ref li, .int lm])), (mm, IA cI 16 uo.2.2)]) 0 0 := by
  refine xoi (cc := b_M_dimension) (maxL := 4) (by decide) rfl (Nat.le_of_ble_eq_true rfl) ?_
  intro p e s m args below meth c Q A hx hb hml hts hown hN hA hS hP hK hD hret ls hl
  have hl : lv_has ls 4 [(0, .ref g), (1, .int v)] := hl
  obtain ⟨H, hH⟩ : ∃ z, z = s.heap := ⟨_, rfl⟩
  obtain ⟨locs, hlc⟩ : ∃ z : List Loc, z = [] := ⟨_, rfl⟩
  rw [← hH] at hP
  have hS : va_S A s.heap H locs := by rw [hH, hlc]; exact hS
  have key : W p l e rm_r_dimension s m args below meth c H locs 0 0 Q (F0 m 0 ls []) := by
    refine lv_aload_n hx hb d_M_dimension_0 rfl (lv_at hl 0 rfl) ?_
    refine lv_iconst (v := nI 0) hx hb d_M_dimension_1 (by decide) ?_
    refine va_put (D := D) (ci := 2) (v := .int (nI 0)) (ty := .int) (C := R_M) (T := F_M) (N := 21) hx hb hts iw_M ft_M ft_M_ok n_M hown hK hP hD hS 0 rfl rfl 0 (by decide) (hts _ tw_387) (fun _ h9 => h9) rfl (by decide +kernel) rfl rfl (Nat.le_of_ble_eq_true rfl) d_M_dimension_2 (fun H locs hP hD hS => ?_)
    have hP : va_P D vwC [(g, .inr (2, [.int (nI 0), .int (nI d), .ref mm, .int ik, .ref kf, .ref tb, .int rw, .ref wk, .int ab, .int be, .ref pl, .ref sp, .int a0, .int a1, .int b0, .int b1, .ref po, .ref to, .ref ba, .ref li, .int lm])), (mm, IA cI 16 Fm)] H := hP
    have hD : va_D A [(g, .inr (2, [.int (nI 0), .int (nI d), .ref mm, .int ik, .ref kf, .ref tb, .int rw, .ref wk, .int ab, .int be, .ref pl, .ref sp, .int a0, .int a1, .int b0, .int b1, .ref po, .ref to, .ref ba, .ref li, .int lm])), (mm, IA cI 16 Fm)] := hD
    refine lv_iload_n hx hb d_M_dimension_5 rfl (lv_at hl 1 rfl) ?_
    refine lv_iconst (v := nI 2) hx hb d_M_dimension_6 (by decide) ?_
    refine xi_eq (tgt := 18) (X := v.toInt) (Y := (2 : Nat)) hx hb rfl (nI_toInt (by omega)) d_M_dimension_7 (by decide) (fun c7_0 => ?_) (fun c7_0 => ?_)
    · skip
      obtain rfl : v = nI 2 := by rw [← Int32.toInt_inj, nI_toInt (by decide)]; exact c7_0
      refine lv_aload_n hx hb d_M_dimension_18 rfl (lv_at hl 0 rfl) ?_
      refine va_get (D := D) (ci := 2) (v := .int (nI d)) (C := R_M) (T := F_M) (N := 21) hx hb hts iw_M hown hK hP 0 rfl rfl 1 (by decide) (hts _ tw_388) (fun _ h9 => h9) rfl d_M_dimension_19 ?_
      refine lv_istore_n (lv' := [(2, .int (nI d)), (0, .ref g), (1, .int (nI 2))]) hx hb d_M_dimension_22 rfl hl (by decide) rfl (fun ls hl => ?_)
      refine lv_aload_n hx hb d_M_dimension_23 rfl (lv_at hl 1 rfl) ?_
      refine lv_iload_n hx hb d_M_dimension_24 rfl (lv_at hl 2 rfl) ?_
      refine va_put (D := D) (ci := 2) (v := .int (nI 2)) (ty := .int) (C := R_M) (T := F_M) (N := 21) hx hb hts iw_M ft_M ft_M_ok n_M hown hK hP hD hS 0 rfl rfl 1 (by decide) (hts _ tw_388) (fun _ h9 => h9) rfl (by decide +kernel) rfl rfl (Nat.le_of_ble_eq_true rfl) d_M_dimension_25 (fun H locs hP hD hS => ?_)
      have hP : va_P D vwC [(g, .inr (2, [.int (nI 0), .int (nI 2), .ref mm, .int ik, .ref kf, .ref tb, .int rw, .ref wk, .int ab, .int be, .ref pl, .ref sp, .int a0, .int a1, .int b0, .int b1, .ref po, .ref to, .ref ba, .ref li, .int lm])), (mm, IA cI 16 Fm)] H := hP
      have hD : va_D A [(g, .inr (2, [.int (nI 0), .int (nI 2), .ref mm, .int ik, .ref kf, .ref tb, .int rw, .ref wk, .int ab, .int be, .ref pl, .ref sp, .int a0, .int a1, .int b0, .int b1, .ref po, .ref to, .ref ba, .ref li, .int lm])), (mm, IA cI 16 Fm)] := hD
      refine lv_iconst (v := nI 0) hx hb d_M_dimension_28 (by decide) ?_
      refine lv_istore_n (lv' := [(3, .int (nI 0)), (2, .int (nI d)), (0, .ref g), (1, .int (nI 2))]) hx hb d_M_dimension_29 rfl hl (by decide) rfl (fun ls hl => ?_)
      have lp_30 : ∀ (n_30 : Nat) (t : Nat) (G3 : Nat → Int) (H : Heap) (locs : List Loc) (ls : Array Slot), (t ≤ 16) → (∀ k, k < t → G3 k = 0) → (16 - t) < n_30 → va_P D vwC [(g, .inr (2, [.int (nI 0), .int (nI 2), .ref mm, .int ik, .ref kf, .ref tb, .int rw, .ref wk, .int ab, .int be, .ref pl, .ref sp, .int a0, .int a1, .int b0, .int b1, .ref po, .ref to, .ref ba, .ref li, .int lm])), (mm, IA cI 16 G3)] H → va_D A [(g, .inr (2, [.int (nI 0), .int (nI 2), .ref mm, .int ik, .ref kf, .ref tb, .int rw, .ref wk, .int ab, .int be, .ref pl, .ref sp, .int a0, .int a1, .int b0, .int b1, .ref po, .ref to, .ref ba, .ref li, .int lm])), (mm, IA cI 16 G3)] → va_S A s.heap H locs → lv_has ls 4 [(3, .int (nI t)), (2, .int (nI d)), (0, .ref g), (1, .int (nI 2))] → W p l e rm_r_dimension s m args below meth c H locs 0 0 Q (F0 m 30 ls []) := by
        intro n_30
        induction n_30 with
        | zero => intro t G3 H locs ls ht h1 hn_30; exact absurd hn_30 (Nat.not_lt_zero _)
        | succ n_30 ih_30 =>
          intro t G3 H locs ls ht h1 hn_30 hP hD hS hl
          refine lv_iload_n hx hb d_M_dimension_30 rfl (lv_at hl 0 rfl) ?_
          refine lv_bipush (v := nI 16) hx hb d_M_dimension_31 (by decide) ?_
          refine xn_ge (tgt := 49) hx hb (by omega) (by omega) d_M_dimension_33 (by decide) (fun c33_1 => ?_) (fun c33_1 => ?_)
          · skip
            refine lv_aload_n hx hb d_M_dimension_49 rfl (lv_at hl 2 rfl) ?_
            refine lv_iconst (v := nI 0) hx hb d_M_dimension_50 (by decide) ?_
            refine va_put (D := D) (ci := 2) (v := .int (nI 0)) (ty := .boolean) (C := R_M) (T := F_M) (N := 21) hx hb hts iw_M ft_M ft_M_ok n_M hown hK hP hD hS 0 rfl rfl 3 (by decide) (hts _ tw_390) (fun _ h9 => h9) rfl (by decide +kernel) rfl rfl (Nat.le_of_ble_eq_true rfl) d_M_dimension_51 (fun H locs hP hD hS => ?_)
            have hP : va_P D vwC [(g, .inr (2, [.int (nI 0), .int (nI 2), .ref mm, .int (nI 0), .ref kf, .ref tb, .int rw, .ref wk, .int ab, .int be, .ref pl, .ref sp, .int a0, .int a1, .int b0, .int b1, .ref po, .ref to, .ref ba, .ref li, .int lm])), (mm, IA cI 16 G3)] H := hP
            have hD : va_D A [(g, .inr (2, [.int (nI 0), .int (nI 2), .ref mm, .int (nI 0), .ref kf, .ref tb, .int rw, .ref wk, .int ab, .int be, .ref pl, .ref sp, .int a0, .int a1, .int b0, .int b1, .ref po, .ref to, .ref ba, .ref li, .int lm])), (mm, IA cI 16 G3)] := hD
            refine lv_iload_n hx hb d_M_dimension_54 rfl (lv_at hl 1 rfl) ?_
            exact hret H locs _ ls (nI d) (2, nI 0, G3) d_M_dimension_55 (by first | exact ⟨(by unfold s_dim; rw [nI_toInt (by decide)]; rfl), fun _ => ⟨(by rw [nI_toInt (by decide)]; rfl), rfl, fun k hk => h1 k (by omega)⟩, fun h => absurd (show (nI 2).toInt = 2 ∨ (nI 2).toInt = 3 by rw [nI_toInt (by decide)]; decide) h⟩ | (dsimp only; exact ⟨(by unfold s_dim; rw [nI_toInt (by decide)]; rfl), fun _ => ⟨(by rw [nI_toInt (by decide)]; rfl), rfl, fun k hk => h1 k (by omega)⟩, fun h => absurd (show (nI 2).toInt = 2 ∨ (nI 2).toInt = 3 by rw [nI_toInt (by decide)]; decide) h⟩)) hP hD hS
          · skip
            refine lv_aload_n hx hb d_M_dimension_36 rfl (lv_at hl 2 rfl) ?_
            refine va_get (D := D) (ci := 2) (v := .ref mm) (C := R_M) (T := F_M) (N := 21) hx hb hts iw_M hown hK hP 0 rfl rfl 2 (by decide) (hts _ tw_389) (fun _ h9 => h9) rfl d_M_dimension_37 ?_
            refine lv_iload_n hx hb d_M_dimension_40 rfl (lv_at hl 0 rfl) ?_
            refine lv_iconst (v := nI 0) hx hb d_M_dimension_41 (by decide) ?_
            refine xi_ast hx hb hK hP hD hS 1 1 rfl rfl (k := t) (x := ((0 : Nat) : Int)) (iI_nI _) (by omega) (by first | decide | omega) d_M_dimension_42 (fun H locs hP hD hS => ?_)
            have hP : va_P D vwC [(g, .inr (2, [.int (nI 0), .int (nI 2), .ref mm, .int ik, .ref kf, .ref tb, .int rw, .ref wk, .int ab, .int be, .ref pl, .ref sp, .int a0, .int a1, .int b0, .int b1, .ref po, .ref to, .ref ba, .ref li, .int lm])), (mm, IA cI 16 (upZ G3 t ((0 : Nat) : Int)))] H := hP
            have hD : va_D A [(g, .inr (2, [.int (nI 0), .int (nI 2), .ref mm, .int ik, .ref kf, .ref tb, .int rw, .ref wk, .int ab, .int be, .ref pl, .ref sp, .int a0, .int a1, .int b0, .int b1, .ref po, .ref to, .ref ba, .ref li, .int lm])), (mm, IA cI 16 (upZ G3 t ((0 : Nat) : Int)))] := hD
            refine lv_iinc (v := nI (t + 1)) (lv' := [(3, .int (nI (t + 1))), (2, .int (nI d)), (0, .ref g), (1, .int (nI 2))]) hx hb d_M_dimension_43 hl (k := 0) rfl (nI_add _ _) (by decide) rfl (fun ls hl => ?_)
            refine lv_goto (tgt := 30) hx hb d_M_dimension_46 (by decide) ?_
            exact ih_30 (t + 1) (upZ G3 t ((0 : Nat) : Int)) H locs ls (by omega) (fun k hk => by unfold upZ; split; rfl; exact h1 k (by omega)) (by omega) hP hD hS (lv_sub hl [0, 1, 2, 3] rfl)
      exact lp_30 ((16 - 0) + 1) 0 Fm H locs ls (Nat.zero_le _) (fun k h => absurd h (Nat.not_lt_zero _)) (by omega) hP hD hS (lv_sub hl [0, 1, 2, 3] rfl)
    · skip
      refine lv_iload_n hx hb d_M_dimension_10 rfl (lv_at hl 1 rfl) ?_
      refine lv_iconst (v := nI 3) hx hb d_M_dimension_11 (by decide) ?_
      refine xi_eq (tgt := 18) (X := v.toInt) (Y := (3 : Nat)) hx hb rfl (nI_toInt (by omega)) d_M_dimension_12 (by decide) (fun c12_2 => ?_) (fun c12_2 => ?_)
      · skip
        obtain rfl : v = nI 3 := by rw [← Int32.toInt_inj, nI_toInt (by decide)]; exact c12_2
        refine lv_aload_n hx hb d_M_dimension_18 rfl (lv_at hl 0 rfl) ?_
        refine va_get (D := D) (ci := 2) (v := .int (nI d)) (C := R_M) (T := F_M) (N := 21) hx hb hts iw_M hown hK hP 0 rfl rfl 1 (by decide) (hts _ tw_388) (fun _ h9 => h9) rfl d_M_dimension_19 ?_
        refine lv_istore_n (lv' := [(2, .int (nI d)), (0, .ref g), (1, .int (nI 3))]) hx hb d_M_dimension_22 rfl hl (by decide) rfl (fun ls hl => ?_)
        refine lv_aload_n hx hb d_M_dimension_23 rfl (lv_at hl 1 rfl) ?_
        refine lv_iload_n hx hb d_M_dimension_24 rfl (lv_at hl 2 rfl) ?_
        refine va_put (D := D) (ci := 2) (v := .int (nI 3)) (ty := .int) (C := R_M) (T := F_M) (N := 21) hx hb hts iw_M ft_M ft_M_ok n_M hown hK hP hD hS 0 rfl rfl 1 (by decide) (hts _ tw_388) (fun _ h9 => h9) rfl (by decide +kernel) rfl rfl (Nat.le_of_ble_eq_true rfl) d_M_dimension_25 (fun H locs hP hD hS => ?_)
        have hP : va_P D vwC [(g, .inr (2, [.int (nI 0), .int (nI 3), .ref mm, .int ik, .ref kf, .ref tb, .int rw, .ref wk, .int ab, .int be, .ref pl, .ref sp, .int a0, .int a1, .int b0, .int b1, .ref po, .ref to, .ref ba, .ref li, .int lm])), (mm, IA cI 16 Fm)] H := hP
        have hD : va_D A [(g, .inr (2, [.int (nI 0), .int (nI 3), .ref mm, .int ik, .ref kf, .ref tb, .int rw, .ref wk, .int ab, .int be, .ref pl, .ref sp, .int a0, .int a1, .int b0, .int b1, .ref po, .ref to, .ref ba, .ref li, .int lm])), (mm, IA cI 16 Fm)] := hD
        refine lv_iconst (v := nI 0) hx hb d_M_dimension_28 (by decide) ?_
        refine lv_istore_n (lv' := [(3, .int (nI 0)), (2, .int (nI d)), (0, .ref g), (1, .int (nI 3))]) hx hb d_M_dimension_29 rfl hl (by decide) rfl (fun ls hl => ?_)
        have lp_30 : ∀ (n_30 : Nat) (t : Nat) (G3 : Nat → Int) (H : Heap) (locs : List Loc) (ls : Array Slot), (t ≤ 16) → (∀ k, k < t → G3 k = 0) → (16 - t) < n_30 → va_P D vwC [(g, .inr (2, [.int (nI 0), .int (nI 3), .ref mm, .int ik, .ref kf, .ref tb, .int rw, .ref wk, .int ab, .int be, .ref pl, .ref sp, .int a0, .int a1, .int b0, .int b1, .ref po, .ref to, .ref ba, .ref li, .int lm])), (mm, IA cI 16 G3)] H → va_D A [(g, .inr (2, [.int (nI 0), .int (nI 3), .ref mm, .int ik, .ref kf, .ref tb, .int rw, .ref wk, .int ab, .int be, .ref pl, .ref sp, .int a0, .int a1, .int b0, .int b1, .ref po, .ref to, .ref ba, .ref li, .int lm])), (mm, IA cI 16 G3)] → va_S A s.heap H locs → lv_has ls 4 [(3, .int (nI t)), (2, .int (nI d)), (0, .ref g), (1, .int (nI 3))] → W p l e rm_r_dimension s m args below meth c H locs 0 0 Q (F0 m 30 ls []) := by
          intro n_30
          induction n_30 with
          | zero => intro t G3 H locs ls ht h1 hn_30; exact absurd hn_30 (Nat.not_lt_zero _)
          | succ n_30 ih_30 =>
            intro t G3 H locs ls ht h1 hn_30 hP hD hS hl
            refine lv_iload_n hx hb d_M_dimension_30 rfl (lv_at hl 0 rfl) ?_
            refine lv_bipush (v := nI 16) hx hb d_M_dimension_31 (by decide) ?_
            refine xn_ge (tgt := 49) hx hb (by omega) (by omega) d_M_dimension_33 (by decide) (fun c33_3 => ?_) (fun c33_3 => ?_)
            · skip
              refine lv_aload_n hx hb d_M_dimension_49 rfl (lv_at hl 2 rfl) ?_
              refine lv_iconst (v := nI 0) hx hb d_M_dimension_50 (by decide) ?_
              refine va_put (D := D) (ci := 2) (v := .int (nI 0)) (ty := .boolean) (C := R_M) (T := F_M) (N := 21) hx hb hts iw_M ft_M ft_M_ok n_M hown hK hP hD hS 0 rfl rfl 3 (by decide) (hts _ tw_390) (fun _ h9 => h9) rfl (by decide +kernel) rfl rfl (Nat.le_of_ble_eq_true rfl) d_M_dimension_51 (fun H locs hP hD hS => ?_)
              have hP : va_P D vwC [(g, .inr (2, [.int (nI 0), .int (nI 3), .ref mm, .int (nI 0), .ref kf, .ref tb, .int rw, .ref wk, .int ab, .int be, .ref pl, .ref sp, .int a0, .int a1, .int b0, .int b1, .ref po, .ref to, .ref ba, .ref li, .int lm])), (mm, IA cI 16 G3)] H := hP
              have hD : va_D A [(g, .inr (2, [.int (nI 0), .int (nI 3), .ref mm, .int (nI 0), .ref kf, .ref tb, .int rw, .ref wk, .int ab, .int be, .ref pl, .ref sp, .int a0, .int a1, .int b0, .int b1, .ref po, .ref to, .ref ba, .ref li, .int lm])), (mm, IA cI 16 G3)] := hD
              refine lv_iload_n hx hb d_M_dimension_54 rfl (lv_at hl 1 rfl) ?_
              exact hret H locs _ ls (nI d) (3, nI 0, G3) d_M_dimension_55 (by first | exact ⟨(by unfold s_dim; rw [nI_toInt (by decide)]; rfl), fun _ => ⟨(by rw [nI_toInt (by decide)]; rfl), rfl, fun k hk => h1 k (by omega)⟩, fun h => absurd (show (nI 3).toInt = 2 ∨ (nI 3).toInt = 3 by rw [nI_toInt (by decide)]; decide) h⟩ | (dsimp only; exact ⟨(by unfold s_dim; rw [nI_toInt (by decide)]; rfl), fun _ => ⟨(by rw [nI_toInt (by decide)]; rfl), rfl, fun k hk => h1 k (by omega)⟩, fun h => absurd (show (nI 3).toInt = 2 ∨ (nI 3).toInt = 3 by rw [nI_toInt (by decide)]; decide) h⟩)) hP hD hS
            · skip
              refine lv_aload_n hx hb d_M_dimension_36 rfl (lv_at hl 2 rfl) ?_
              refine va_get (D := D) (ci := 2) (v := .ref mm) (C := R_M) (T := F_M) (N := 21) hx hb hts iw_M hown hK hP 0 rfl rfl 2 (by decide) (hts _ tw_389) (fun _ h9 => h9) rfl d_M_dimension_37 ?_
              refine lv_iload_n hx hb d_M_dimension_40 rfl (lv_at hl 0 rfl) ?_
              refine lv_iconst (v := nI 0) hx hb d_M_dimension_41 (by decide) ?_
              refine xi_ast hx hb hK hP hD hS 1 1 rfl rfl (k := t) (x := ((0 : Nat) : Int)) (iI_nI _) (by omega) (by first | decide | omega) d_M_dimension_42 (fun H locs hP hD hS => ?_)
              have hP : va_P D vwC [(g, .inr (2, [.int (nI 0), .int (nI 3), .ref mm, .int ik, .ref kf, .ref tb, .int rw, .ref wk, .int ab, .int be, .ref pl, .ref sp, .int a0, .int a1, .int b0, .int b1, .ref po, .ref to, .ref ba, .ref li, .int lm])), (mm, IA cI 16 (upZ G3 t ((0 : Nat) : Int)))] H := hP
              have hD : va_D A [(g, .inr (2, [.int (nI 0), .int (nI 3), .ref mm, .int ik, .ref kf, .ref tb, .int rw, .ref wk, .int ab, .int be, .ref pl, .ref sp, .int a0, .int a1, .int b0, .int b1, .ref po, .ref to, .ref ba, .ref li, .int lm])), (mm, IA cI 16 (upZ G3 t ((0 : Nat) : Int)))] := hD
              refine lv_iinc (v := nI (t + 1)) (lv' := [(3, .int (nI (t + 1))), (2, .int (nI d)), (0, .ref g), (1, .int (nI 3))]) hx hb d_M_dimension_43 hl (k := 0) rfl (nI_add _ _) (by decide) rfl (fun ls hl => ?_)
              refine lv_goto (tgt := 30) hx hb d_M_dimension_46 (by decide) ?_
              exact ih_30 (t + 1) (upZ G3 t ((0 : Nat) : Int)) H locs ls (by omega) (fun k hk => by unfold upZ; split; rfl; exact h1 k (by omega)) (by omega) hP hD hS (lv_sub hl [0, 1, 2, 3] rfl)
        exact lp_30 ((16 - 0) + 1) 0 Fm H locs ls (Nat.zero_le _) (fun k h => absurd h (Nat.not_lt_zero _)) (by omega) hP hD hS (lv_sub hl [0, 1, 2, 3] rfl)
      · skip
        refine lv_bipush (v := (-2)) hx hb d_M_dimension_15 (by decide) ?_
        exact hret H locs _ ls (-2) (d, ik, Fm) d_M_dimension_17 (by first | exact ⟨(by unfold s_dim; rw [if_neg (show ¬ (v.toInt = 2 ∨ v.toInt = 3) from by omega)]), fun h => absurd h (by omega), fun _ => ⟨rfl, rfl, rfl⟩⟩ | (dsimp only; exact ⟨(by unfold s_dim; rw [if_neg (show ¬ (v.toInt = 2 ∨ v.toInt = 3) from by omega)]), fun h => absurd h (by omega), fun _ => ⟨rfl, rfl, rfl⟩⟩)) hP hD hS
  rw [hH, hlc] at key; exact key

def rm_r_put : Room := { frames := 1, cells := 0, slots := 0, locals := 23 }
set_option maxHeartbeats 4000000 in
set_option maxRecDepth 100000 in
/-- put -/
theorem r_put (l : Launch) (D : va_G) (cJ cI : ClassId) (g : Nat) (cd : Int32) (d : Nat) (ik : Int32) (rw : Int32) (ab : Int32) (be : Int32) (a0 : Int32) (a1 : Int32) (b0 : Int32) (b1 : Int32) (lm : Int32) (mm : Nat) (kf : Nat) (tb : Nat) (wk : Nat) (pl : Nat) (sp : Nat) (po : Nat) (to : Nat) (ba : Nat) (li : Nat) (Fm : Nat → Int) (vi : Int32) (vj : Int32) (vv : Int32) (hd3 : d ≤ 3) (hF : ∀ k, k < 16 → inB (Fm k) 20) (sz : Nat) : xMl l y_M_put (Cond.code y_M_put b_M_put 5 (some .long) :: tW) rm_r_put [.ref g, .int vi, .int vj, .int vv] D vwC [(cJ, .long), (cI, .int)] sz [(g, .inr (2, [.int cd, .int (nI d), .ref mm, .int ik, .ref kf, .ref tb, .int rw, .ref wk, .int ab, .int be, .ref pl, .ref sp, .int a0, .int a1, .int b0, .int b1, .ref po, .ref to, .ref ba, .ref li, .int lm])), (mm, IA cI 16 Fm)] (fun (rv : Int64) (uo : (Nat → Int)) => rv = lI (s_put Fm d vi.toInt vj.toInt vv.toInt) ∧ ((badP d vi.toInt vj.toInt vv.toInt → uo = Fm) ∧ (¬ badP d vi.toInt vj.toInt vv.toInt → uo = upZ (upZ Fm (4 * vi.toInt.toNat + vj.toInt.toNat) vv.toInt) (4 * vj.toInt.toNat + vi.toInt.toNat) vv.toInt))) (fun (uo : (Nat → Int)) => [(g, .inr (2, [.int (nI 0), .int (nI d), .ref mm, .int ik, .ref kf, .ref tb, .int rw, .ref wk, .int ab, .int be, .ref pl, .ref sp, .int a0, .int a1, .int b0, .int b1, .ref po, .ref to, .ref ba, .ref li, .int lm])), (mm, IA cI 16 uo)]) 0 0 := by
  refine xol (cc := b_M_put) (maxL := 5) (by decide) rfl (Nat.le_of_ble_eq_true rfl) ?_
  intro p e s m args below meth c Q A hx hb hml hts hown hN hA hS hP hK hD hret ls hl
  have hl : lv_has ls 5 [(0, .ref g), (1, .int vi), (2, .int vj), (3, .int vv)] := hl
  obtain ⟨H, hH⟩ : ∃ z, z = s.heap := ⟨_, rfl⟩
  obtain ⟨locs, hlc⟩ : ∃ z : List Loc, z = [] := ⟨_, rfl⟩
  rw [← hH] at hP
  have hS : va_S A s.heap H locs := by rw [hH, hlc]; exact hS
  have key : W p l e rm_r_put s m args below meth c H locs 0 0 Q (F0 m 0 ls []) := by
    refine lv_aload_n hx hb d_M_put_0 rfl (lv_at hl 0 rfl) ?_
    refine lv_iconst (v := nI 0) hx hb d_M_put_1 (by decide) ?_
    refine va_put (D := D) (ci := 2) (v := .int (nI 0)) (ty := .int) (C := R_M) (T := F_M) (N := 21) hx hb hts iw_M ft_M ft_M_ok n_M hown hK hP hD hS 0 rfl rfl 0 (by decide) (hts _ tw_387) (fun _ h9 => h9) rfl (by decide +kernel) rfl rfl (Nat.le_of_ble_eq_true rfl) d_M_put_2 (fun H locs hP hD hS => ?_)
    have hP : va_P D vwC [(g, .inr (2, [.int (nI 0), .int (nI d), .ref mm, .int ik, .ref kf, .ref tb, .int rw, .ref wk, .int ab, .int be, .ref pl, .ref sp, .int a0, .int a1, .int b0, .int b1, .ref po, .ref to, .ref ba, .ref li, .int lm])), (mm, IA cI 16 Fm)] H := hP
    have hD : va_D A [(g, .inr (2, [.int (nI 0), .int (nI d), .ref mm, .int ik, .ref kf, .ref tb, .int rw, .ref wk, .int ab, .int be, .ref pl, .ref sp, .int a0, .int a1, .int b0, .int b1, .ref po, .ref to, .ref ba, .ref li, .int lm])), (mm, IA cI 16 Fm)] := hD
    refine lv_iload_n hx hb d_M_put_5 rfl (lv_at hl 1 rfl) ?_
    refine lv_i2l (v := lI vi.toInt) hx hb d_M_put_6 rfl ?_
    refine lv_iconst (v := nI 0) hx hb d_M_put_7 (by decide) ?_
    refine lv_aload_n hx hb d_M_put_8 rfl (lv_at hl 0 rfl) ?_
    refine va_get (D := D) (ci := 2) (v := .int (nI d)) (C := R_M) (T := F_M) (N := 21) hx hb hts iw_M hown hK hP 0 rfl rfl 1 (by decide) (hts _ tw_388) (fun _ h9 => h9) rfl d_M_put_9 ?_
    refine xci (wc := []) (wr := [(g, .inr (2, [.int (nI 0), .int (nI d), .ref mm, .int ik, .ref kf, .ref tb, .int rw, .ref wk, .int ab, .int be, .ref pl, .ref sp, .int a0, .int a1, .int b0, .int b1, .ref po, .ref to, .ref ba, .ref li, .int lm])), (mm, IA cI 16 Fm)]) hP hD hS hA [] [0, 1] rfl rfl (by decide) (by decide) (va_runS (As := [.long (lI vi.toInt), .int (nI 0), .int (nI d)]) (rest := []) ⟨hx, hb, hml, hown, hts⟩ (r_in l D cJ cI vi.toInt (nI 0) (nI d) (lB_i _) H.size) (cwS 3 hts (gS tw_464 tw_465 tw_3 tw_466) rfl rfl rfl ⟨rfl, hd_M_in⟩ ⟨Nat.le_of_ble_eq_true rfl, Nat.le_of_ble_eq_true rfl⟩) (xPreS hN hK (hP.sub (ws' := []) [] rfl) (hD.sub (ws' := []) [] (by decide) rfl)) rfl rfl hl.1 rfl (lv_room (Nat.le_of_ble_eq_true rfl)) d_M_put_12 ⟨Nat.le_of_ble_eq_true rfl, Nat.le_of_ble_eq_true rfl⟩) (fun r_1 u_2 H locs hwi hP hD hS => ?_)
    try dsimp only at hwi
    have hP : va_P D vwC [(g, .inr (2, [.int (nI 0), .int (nI d), .ref mm, .int ik, .ref kf, .ref tb, .int rw, .ref wk, .int ab, .int be, .ref pl, .ref sp, .int a0, .int a1, .int b0, .int b1, .ref po, .ref to, .ref ba, .ref li, .int lm])), (mm, IA cI 16 Fm)] H := hP
    have hD : va_D A [(g, .inr (2, [.int (nI 0), .int (nI d), .ref mm, .int ik, .ref kf, .ref tb, .int rw, .ref wk, .int ab, .int be, .ref pl, .ref sp, .int a0, .int a1, .int b0, .int b1, .ref po, .ref to, .ref ba, .ref li, .int lm])), (mm, IA cI 16 Fm)] := hD
    rcases hwi with ⟨rfl, hwi⟩ | ⟨rfl, hwi⟩
    · skip
      refine xz_eq (tgt := 43) (X := (1 : Nat)) hx hb (nI_toInt (by omega)) d_M_put_15 (by decide) (fun c15_2 => absurd c15_2 (by omega)) (fun c15_2 => ?_)
      refine lv_iload_n hx hb d_M_put_18 rfl (lv_at hl 2 rfl) ?_
      refine lv_i2l (v := lI vj.toInt) hx hb d_M_put_19 rfl ?_
      refine lv_iconst (v := nI 0) hx hb d_M_put_20 (by decide) ?_
      refine lv_aload_n hx hb d_M_put_21 rfl (lv_at hl 0 rfl) ?_
      refine va_get (D := D) (ci := 2) (v := .int (nI d)) (C := R_M) (T := F_M) (N := 21) hx hb hts iw_M hown hK hP 0 rfl rfl 1 (by decide) (hts _ tw_388) (fun _ h9 => h9) rfl d_M_put_22 ?_
      refine xci (wc := []) (wr := [(g, .inr (2, [.int (nI 0), .int (nI d), .ref mm, .int ik, .ref kf, .ref tb, .int rw, .ref wk, .int ab, .int be, .ref pl, .ref sp, .int a0, .int a1, .int b0, .int b1, .ref po, .ref to, .ref ba, .ref li, .int lm])), (mm, IA cI 16 Fm)]) hP hD hS hA [] [0, 1] rfl rfl (by decide) (by decide) (va_runS (As := [.long (lI vj.toInt), .int (nI 0), .int (nI d)]) (rest := []) ⟨hx, hb, hml, hown, hts⟩ (r_in l D cJ cI vj.toInt (nI 0) (nI d) (lB_i _) H.size) (cwS 3 hts (gS tw_464 tw_465 tw_3 tw_466) rfl rfl rfl ⟨rfl, hd_M_in⟩ ⟨Nat.le_of_ble_eq_true rfl, Nat.le_of_ble_eq_true rfl⟩) (xPreS hN hK (hP.sub (ws' := []) [] rfl) (hD.sub (ws' := []) [] (by decide) rfl)) rfl rfl hl.1 rfl (lv_room (Nat.le_of_ble_eq_true rfl)) d_M_put_25 ⟨Nat.le_of_ble_eq_true rfl, Nat.le_of_ble_eq_true rfl⟩) (fun r_4 u_5 H locs hwj hP hD hS => ?_)
      try dsimp only at hwj
      have hP : va_P D vwC [(g, .inr (2, [.int (nI 0), .int (nI d), .ref mm, .int ik, .ref kf, .ref tb, .int rw, .ref wk, .int ab, .int be, .ref pl, .ref sp, .int a0, .int a1, .int b0, .int b1, .ref po, .ref to, .ref ba, .ref li, .int lm])), (mm, IA cI 16 Fm)] H := hP
      have hD : va_D A [(g, .inr (2, [.int (nI 0), .int (nI d), .ref mm, .int ik, .ref kf, .ref tb, .int rw, .ref wk, .int ab, .int be, .ref pl, .ref sp, .int a0, .int a1, .int b0, .int b1, .ref po, .ref to, .ref ba, .ref li, .int lm])), (mm, IA cI 16 Fm)] := hD
      rcases hwj with ⟨rfl, hwj⟩ | ⟨rfl, hwj⟩
      · skip
        refine xz_eq (tgt := 43) (X := (1 : Nat)) hx hb (nI_toInt (by omega)) d_M_put_28 (by decide) (fun c28_5 => absurd c28_5 (by omega)) (fun c28_5 => ?_)
        refine lv_iload_n hx hb d_M_put_31 rfl (lv_at hl 3 rfl) ?_
        refine lv_i2l (v := lI vv.toInt) hx hb d_M_put_32 rfl ?_
        refine lv_bipush (v := (-20)) hx hb d_M_put_33 (by decide) ?_
        refine lv_bipush (v := nI 20) hx hb d_M_put_35 (by decide) ?_
        refine xci (wc := []) (wr := [(g, .inr (2, [.int (nI 0), .int (nI d), .ref mm, .int ik, .ref kf, .ref tb, .int rw, .ref wk, .int ab, .int be, .ref pl, .ref sp, .int a0, .int a1, .int b0, .int b1, .ref po, .ref to, .ref ba, .ref li, .int lm])), (mm, IA cI 16 Fm)]) hP hD hS hA [] [0, 1] rfl rfl (by decide) (by decide) (va_runS (As := [.long (lI vv.toInt), .int (-20), .int (nI 20)]) (rest := []) ⟨hx, hb, hml, hown, hts⟩ (r_in l D cJ cI vv.toInt (-20) (nI 20) (lB_i _) H.size) (cwS 3 hts (gS tw_464 tw_465 tw_3 tw_466) rfl rfl rfl ⟨rfl, hd_M_in⟩ ⟨Nat.le_of_ble_eq_true rfl, Nat.le_of_ble_eq_true rfl⟩) (xPreS hN hK (hP.sub (ws' := []) [] rfl) (hD.sub (ws' := []) [] (by decide) rfl)) rfl rfl hl.1 rfl (lv_room (Nat.le_of_ble_eq_true rfl)) d_M_put_37 ⟨Nat.le_of_ble_eq_true rfl, Nat.le_of_ble_eq_true rfl⟩) (fun r_7 u_8 H locs hwv hP hD hS => ?_)
        try dsimp only at hwv
        have hP : va_P D vwC [(g, .inr (2, [.int (nI 0), .int (nI d), .ref mm, .int ik, .ref kf, .ref tb, .int rw, .ref wk, .int ab, .int be, .ref pl, .ref sp, .int a0, .int a1, .int b0, .int b1, .ref po, .ref to, .ref ba, .ref li, .int lm])), (mm, IA cI 16 Fm)] H := hP
        have hD : va_D A [(g, .inr (2, [.int (nI 0), .int (nI d), .ref mm, .int ik, .ref kf, .ref tb, .int rw, .ref wk, .int ab, .int be, .ref pl, .ref sp, .int a0, .int a1, .int b0, .int b1, .ref po, .ref to, .ref ba, .ref li, .int lm])), (mm, IA cI 16 Fm)] := hD
        rcases hwv with ⟨rfl, hwv⟩ | ⟨rfl, hwv⟩
        · skip
          refine xz_ne (tgt := 47) (X := (1 : Nat)) hx hb (nI_toInt (by omega)) d_M_put_40 (by decide) (fun c40_8 => ?_) (fun c40_8 => absurd c40_8 (by omega))
          have e00 : (nI 0).toInt = 0 := rfl
          have edd : (nI d).toInt = (d : Int) := nI_toInt (by omega)
          obtain ⟨i, hi, rfl⟩ := nI_range (v := vi) (d := d) (by omega)
          obtain ⟨j, hj, rfl⟩ := nI_range (v := vj) (d := d) (by omega)
          refine lv_aload_n hx hb d_M_put_47 rfl (lv_at hl 0 rfl) ?_
          refine va_get (D := D) (ci := 2) (v := .ref mm) (C := R_M) (T := F_M) (N := 21) hx hb hts iw_M hown hK hP 0 rfl rfl 2 (by decide) (hts _ tw_389) (fun _ h9 => h9) rfl d_M_put_48 ?_
          refine lv_iconst (v := nI 4) hx hb d_M_put_51 (by decide) ?_
          refine lv_iload_n hx hb d_M_put_52 rfl (lv_at hl 1 rfl) ?_
          refine xn_mul hx hb d_M_put_53 ?_
          refine lv_iload_n hx hb d_M_put_54 rfl (lv_at hl 2 rfl) ?_
          refine xn_add hx hb d_M_put_55 ?_
          refine xi_ald hx hb hK hP 1 1 rfl rfl (k := (4 * i) + j) (by omega) (by first | decide | omega) d_M_put_56 ?_
          refine lv_istore (lv' := [(4, .int (iI (Fm ((4 * i) + j)))), (0, .ref g), (1, .int (nI i)), (2, .int (nI j)), (3, .int vv)]) hx hb d_M_put_57 hl (by decide) rfl (fun ls hl => ?_)
          refine lv_aload_n hx hb d_M_put_59 rfl (lv_at hl 1 rfl) ?_
          refine va_get (D := D) (ci := 2) (v := .ref mm) (C := R_M) (T := F_M) (N := 21) hx hb hts iw_M hown hK hP 0 rfl rfl 2 (by decide) (hts _ tw_389) (fun _ h9 => h9) rfl d_M_put_60 ?_
          refine lv_iconst (v := nI 4) hx hb d_M_put_63 (by decide) ?_
          refine lv_iload_n hx hb d_M_put_64 rfl (lv_at hl 2 rfl) ?_
          refine xn_mul hx hb d_M_put_65 ?_
          refine lv_iload_n hx hb d_M_put_66 rfl (lv_at hl 3 rfl) ?_
          refine xn_add hx hb d_M_put_67 ?_
          refine lv_iload_n hx hb d_M_put_68 rfl (lv_at hl 4 rfl) ?_
          refine xi_ast hx hb hK hP hD hS 1 1 rfl rfl (k := (4 * i) + j) (x := vv.toInt) (iI_of _) (by omega) (by first | decide | omega) d_M_put_69 (fun H locs hP hD hS => ?_)
          have hP : va_P D vwC [(g, .inr (2, [.int (nI 0), .int (nI d), .ref mm, .int ik, .ref kf, .ref tb, .int rw, .ref wk, .int ab, .int be, .ref pl, .ref sp, .int a0, .int a1, .int b0, .int b1, .ref po, .ref to, .ref ba, .ref li, .int lm])), (mm, IA cI 16 (upZ Fm ((4 * i) + j) vv.toInt))] H := hP
          have hD : va_D A [(g, .inr (2, [.int (nI 0), .int (nI d), .ref mm, .int ik, .ref kf, .ref tb, .int rw, .ref wk, .int ab, .int be, .ref pl, .ref sp, .int a0, .int a1, .int b0, .int b1, .ref po, .ref to, .ref ba, .ref li, .int lm])), (mm, IA cI 16 (upZ Fm ((4 * i) + j) vv.toInt))] := hD
          refine lv_aload_n hx hb d_M_put_70 rfl (lv_at hl 1 rfl) ?_
          refine va_get (D := D) (ci := 2) (v := .ref mm) (C := R_M) (T := F_M) (N := 21) hx hb hts iw_M hown hK hP 0 rfl rfl 2 (by decide) (hts _ tw_389) (fun _ h9 => h9) rfl d_M_put_71 ?_
          refine lv_iconst (v := nI 4) hx hb d_M_put_74 (by decide) ?_
          refine lv_iload_n hx hb d_M_put_75 rfl (lv_at hl 3 rfl) ?_
          refine xn_mul hx hb d_M_put_76 ?_
          refine lv_iload_n hx hb d_M_put_77 rfl (lv_at hl 2 rfl) ?_
          refine xn_add hx hb d_M_put_78 ?_
          refine lv_iload_n hx hb d_M_put_79 rfl (lv_at hl 4 rfl) ?_
          refine xi_ast hx hb hK hP hD hS 1 1 rfl rfl (k := (4 * j) + i) (x := vv.toInt) (iI_of _) (by omega) (by first | decide | omega) d_M_put_80 (fun H locs hP hD hS => ?_)
          have hP : va_P D vwC [(g, .inr (2, [.int (nI 0), .int (nI d), .ref mm, .int ik, .ref kf, .ref tb, .int rw, .ref wk, .int ab, .int be, .ref pl, .ref sp, .int a0, .int a1, .int b0, .int b1, .ref po, .ref to, .ref ba, .ref li, .int lm])), (mm, IA cI 16 (upZ (upZ Fm ((4 * i) + j) vv.toInt) ((4 * j) + i) vv.toInt))] H := hP
          have hD : va_D A [(g, .inr (2, [.int (nI 0), .int (nI d), .ref mm, .int ik, .ref kf, .ref tb, .int rw, .ref wk, .int ab, .int be, .ref pl, .ref sp, .int a0, .int a1, .int b0, .int b1, .ref po, .ref to, .ref ba, .ref li, .int lm])), (mm, IA cI 16 (upZ (upZ Fm ((4 * i) + j) vv.toInt) ((4 * j) + i) vv.toInt))] := hD
          refine lv_iload hx hb d_M_put_81 (lv_at hl 0 rfl) ?_
          refine lv_i2l (v := lI (Fm ((4 * i) + j))) hx hb d_M_put_83 (iI_i2l (iB_of (hF _ (by omega)) (by decide))) ?_
          exact hret H locs _ ls (lI (Fm ((4 * i) + j))) (upZ (upZ Fm ((4 * i) + j) vv.toInt) ((4 * j) + i) vv.toInt) d_M_put_84 (by have e20 : (nI 20).toInt = 20 := rfl; have em : (-20 : Int32).toInt = -20 := rfl; have ed : (nI d).toInt = d := nI_toInt (by omega); have e0 : (nI 0).toInt = 0 := rfl; have ei : (nI i).toInt = i := nI_toInt (by omega); have ej : (nI j).toInt = j := nI_toInt (by omega); exact ⟨(by unfold s_put; rw [ei, ej, if_neg (show ¬ (((i : Int) < 0 ∨ (d : Int) < i) ∨ ((j : Int) < 0 ∨ (d : Int) < j) ∨ (vv.toInt < -20 ∨ 20 < vv.toInt)) from by omega)]; rfl), fun h => absurd h (by unfold badP; omega), fun _ => by rw [ei, ej]; rfl⟩) hP hD hS
        · skip
          refine xz_ne (tgt := 47) (X := (0 : Nat)) hx hb (nI_toInt (by omega)) d_M_put_40 (by decide) (fun c40_9 => absurd c40_9 (by omega)) (fun c40_9 => ?_)
          refine lv_ldc2 (v := lI (-1000000000000000000)) hx hb hown (hts _ tw_467) d_M_put_43 ?_
          exact hret H locs _ ls (lI (-1000000000000000000)) Fm d_M_put_46 (by have e20 : (nI 20).toInt = 20 := rfl; have em : (-20 : Int32).toInt = -20 := rfl; have ed : (nI d).toInt = d := nI_toInt (by omega); have e0 : (nI 0).toInt = 0 := rfl; exact ⟨(by unfold s_put; rw [if_pos (show (vi.toInt < 0 ∨ (d : Int) < vi.toInt) ∨ (vj.toInt < 0 ∨ (d : Int) < vj.toInt) ∨ (vv.toInt < -20 ∨ 20 < vv.toInt) from by omega)]; rfl), fun _ => rfl, fun h => absurd (show badP d vi.toInt vj.toInt vv.toInt by unfold badP; omega) h⟩) hP hD hS
      · skip
        refine xz_eq (tgt := 43) (X := (0 : Nat)) hx hb (nI_toInt (by omega)) d_M_put_28 (by decide) (fun c28_10 => ?_) (fun c28_10 => absurd c28_10 (by omega))
        refine lv_ldc2 (v := lI (-1000000000000000000)) hx hb hown (hts _ tw_467) d_M_put_43 ?_
        exact hret H locs _ ls (lI (-1000000000000000000)) Fm d_M_put_46 (by have e20 : (nI 20).toInt = 20 := rfl; have em : (-20 : Int32).toInt = -20 := rfl; have ed : (nI d).toInt = d := nI_toInt (by omega); have e0 : (nI 0).toInt = 0 := rfl; exact ⟨(by unfold s_put; rw [if_pos (show (vi.toInt < 0 ∨ (d : Int) < vi.toInt) ∨ (vj.toInt < 0 ∨ (d : Int) < vj.toInt) ∨ (vv.toInt < -20 ∨ 20 < vv.toInt) from by omega)]; rfl), fun _ => rfl, fun h => absurd (show badP d vi.toInt vj.toInt vv.toInt by unfold badP; omega) h⟩) hP hD hS
    · skip
      refine xz_eq (tgt := 43) (X := (0 : Nat)) hx hb (nI_toInt (by omega)) d_M_put_15 (by decide) (fun c15_11 => ?_) (fun c15_11 => absurd c15_11 (by omega))
      refine lv_ldc2 (v := lI (-1000000000000000000)) hx hb hown (hts _ tw_467) d_M_put_43 ?_
      exact hret H locs _ ls (lI (-1000000000000000000)) Fm d_M_put_46 (by have e20 : (nI 20).toInt = 20 := rfl; have em : (-20 : Int32).toInt = -20 := rfl; have ed : (nI d).toInt = d := nI_toInt (by omega); have e0 : (nI 0).toInt = 0 := rfl; exact ⟨(by unfold s_put; rw [if_pos (show (vi.toInt < 0 ∨ (d : Int) < vi.toInt) ∨ (vj.toInt < 0 ∨ (d : Int) < vj.toInt) ∨ (vv.toInt < -20 ∨ 20 < vv.toInt) from by omega)]; rfl), fun _ => rfl, fun h => absurd (show badP d vi.toInt vj.toInt vv.toInt by unfold badP; omega) h⟩) hP hD hS
  rw [hH, hlc] at key; exact key

def rm_r_take1 : Room := { frames := 0, cells := 0, slots := 0, locals := 0 }
set_option maxHeartbeats 4000000 in
set_option maxRecDepth 100000 in
/-- take -/
theorem r_take1 (l : Launch) (D : va_G) (cJ cI : ClassId) (g : Nat) (cd : Int32) (d : Nat) (ik : Int32) (rw : Int32) (ab : Int32) (be : Int32) (a0 : Int32) (a1 : Int32) (b0 : Int32) (b1 : Int32) (lm : Int32) (mm : Nat) (kf : Nat) (tb : Nat) (wk : Nat) (pl : Nat) (sp : Nat) (po : Nat) (to : Nat) (ba : Nat) (li : Nat) (Fm : Nat → Int) (T : Nat → Int) (hd3 : d ≤ 3) (hF : ∀ k, k < 16 → inB (Fm k) 20) (sz : Nat) : xMv l y_M_take (Cond.code y_M_take b_M_take 5 none :: tW) rm_r_take1 [.ref g, .int (nI 1)] D vwC [(cJ, .long), (cI, .int)] sz [(g, .inr (2, [.int cd, .int (nI d), .ref mm, .int ik, .ref kf, .ref tb, .int rw, .ref wk, .int ab, .int be, .ref pl, .ref sp, .int a0, .int a1, .int b0, .int b1, .ref po, .ref to, .ref ba, .ref li, .int lm])), (mm, IA cI 16 Fm), (tb, LA cJ 16 T)] (fun (uo : (Nat → Int)) => ∀ a b, a < d + 1 → b < d + 1 → uo (4 * a + b) = Fm (4 * (0 + a) + (0 + b))) (fun (uo : (Nat → Int)) => [(g, .inr (2, [.int cd, .int (nI d), .ref mm, .int ik, .ref kf, .ref tb, .int (nI (d + 1)), .ref wk, .int ab, .int be, .ref pl, .ref sp, .int a0, .int a1, .int b0, .int b1, .ref po, .ref to, .ref ba, .ref li, .int lm])), (mm, IA cI 16 Fm), (tb, LA cJ 16 uo)]) 0 0 := by
  refine xov (cc := b_M_take) (maxL := 5) (by decide) rfl (Nat.le_of_ble_eq_true rfl) ?_
  intro p e s m args below meth c Q A hx hb hml hts hown hN hA hS hP hK hD hret ls hl
  have hl : lv_has ls 5 [(0, .ref g), (1, .int (nI 1))] := hl
  obtain ⟨H, hH⟩ : ∃ z, z = s.heap := ⟨_, rfl⟩
  obtain ⟨locs, hlc⟩ : ∃ z : List Loc, z = [] := ⟨_, rfl⟩
  rw [← hH] at hP
  have hS : va_S A s.heap H locs := by rw [hH, hlc]; exact hS
  have key : W p l e rm_r_take1 s m args below meth c H locs 0 0 Q (F0 m 0 ls []) := by
    refine lv_iload_n hx hb d_M_take_0 rfl (lv_at hl 1 rfl) ?_
    refine xz_eq (tgt := 8) (X := (1 : Nat)) hx hb (nI_toInt (by omega)) d_M_take_1 (by decide) (fun c1_0 => absurd c1_0 (by omega)) (fun c1_0 => ?_)
    refine lv_iconst (v := nI 0) hx hb d_M_take_4 (by decide) ?_
    refine lv_goto (tgt := 9) hx hb d_M_take_5 (by decide) ?_
    refine lv_istore_n (lv' := [(2, .int (nI 0)), (0, .ref g), (1, .int (nI 1))]) hx hb d_M_take_9 rfl hl (by decide) rfl (fun ls hl => ?_)
    refine lv_aload_n hx hb d_M_take_10 rfl (lv_at hl 1 rfl) ?_
    refine lv_aload_n hx hb d_M_take_11 rfl (lv_at hl 1 rfl) ?_
    refine va_get (D := D) (ci := 2) (v := .int (nI d)) (C := R_M) (T := F_M) (N := 21) hx hb hts iw_M hown hK hP 0 rfl rfl 1 (by decide) (hts _ tw_388) (fun _ h9 => h9) rfl d_M_take_12 ?_
    refine lv_iconst (v := nI 1) hx hb d_M_take_15 (by decide) ?_
    refine xn_add hx hb d_M_take_16 ?_
    refine lv_iload_n hx hb d_M_take_17 rfl (lv_at hl 0 rfl) ?_
    refine xn_sub hx hb (by omega) d_M_take_18 ?_
    rw [show d + 1 - 0 = d + 1 from rfl]
    refine va_put (D := D) (ci := 2) (v := .int (nI (d + 1))) (ty := .int) (C := R_M) (T := F_M) (N := 21) hx hb hts iw_M ft_M ft_M_ok n_M hown hK hP hD hS 0 rfl rfl 6 (by decide) (hts _ tw_393) (fun _ h9 => h9) rfl (by decide +kernel) rfl rfl (Nat.le_of_ble_eq_true rfl) d_M_take_19 (fun H locs hP hD hS => ?_)
    have hP : va_P D vwC [(g, .inr (2, [.int cd, .int (nI d), .ref mm, .int ik, .ref kf, .ref tb, .int (nI (d + 1)), .ref wk, .int ab, .int be, .ref pl, .ref sp, .int a0, .int a1, .int b0, .int b1, .ref po, .ref to, .ref ba, .ref li, .int lm])), (mm, IA cI 16 Fm), (tb, LA cJ 16 T)] H := hP
    have hD : va_D A [(g, .inr (2, [.int cd, .int (nI d), .ref mm, .int ik, .ref kf, .ref tb, .int (nI (d + 1)), .ref wk, .int ab, .int be, .ref pl, .ref sp, .int a0, .int a1, .int b0, .int b1, .ref po, .ref to, .ref ba, .ref li, .int lm])), (mm, IA cI 16 Fm), (tb, LA cJ 16 T)] := hD
    refine lv_iconst (v := nI 0) hx hb d_M_take_22 (by decide) ?_
    refine lv_istore_n (lv' := [(3, .int (nI 0)), (2, .int (nI 0)), (0, .ref g), (1, .int (nI 1))]) hx hb d_M_take_23 rfl hl (by decide) rfl (fun ls hl => ?_)
    have lp_24 : ∀ (n_24 : Nat) (i : Nat) (T3 : Nat → Int) (H : Heap) (locs : List Loc) (ls : Array Slot), (i ≤ d + 1) → (∀ a b, a < i → b < d + 1 → T3 (4 * a + b) = Fm (4 * (0 + a) + (0 + b))) → ((d + 1) - i) < n_24 → va_P D vwC [(g, .inr (2, [.int cd, .int (nI d), .ref mm, .int ik, .ref kf, .ref tb, .int (nI (d + 1)), .ref wk, .int ab, .int be, .ref pl, .ref sp, .int a0, .int a1, .int b0, .int b1, .ref po, .ref to, .ref ba, .ref li, .int lm])), (mm, IA cI 16 Fm), (tb, LA cJ 16 T3)] H → va_D A [(g, .inr (2, [.int cd, .int (nI d), .ref mm, .int ik, .ref kf, .ref tb, .int (nI (d + 1)), .ref wk, .int ab, .int be, .ref pl, .ref sp, .int a0, .int a1, .int b0, .int b1, .ref po, .ref to, .ref ba, .ref li, .int lm])), (mm, IA cI 16 Fm), (tb, LA cJ 16 T3)] → va_S A s.heap H locs → lv_has ls 5 [(0, .ref g), (2, .int (nI 0)), (3, .int (nI i))] → W p l e rm_r_take1 s m args below meth c H locs 0 0 Q (F0 m 24 ls []) := by
      intro n_24
      induction n_24 with
      | zero => intro i T3 H locs ls hi h1 hn_24; exact absurd hn_24 (Nat.not_lt_zero _)
      | succ n_24 ih_24 =>
        intro i T3 H locs ls hi h1 hn_24 hP hD hS hl
        refine lv_iload_n hx hb d_M_take_24 rfl (lv_at hl 2 rfl) ?_
        refine lv_aload_n hx hb d_M_take_25 rfl (lv_at hl 0 rfl) ?_
        refine va_get (D := D) (ci := 2) (v := .int (nI (d + 1))) (C := R_M) (T := F_M) (N := 21) hx hb hts iw_M hown hK hP 0 rfl rfl 6 (by decide) (hts _ tw_393) (fun _ h9 => h9) rfl d_M_take_26 ?_
        refine xn_ge (tgt := 83) hx hb (by omega) (by omega) d_M_take_29 (by decide) (fun c29_1 => ?_) (fun c29_1 => ?_)
        · skip
          exact hret H locs _ ls T3 d_M_take_83 (fun a b ha hb => h1 a b (by omega) hb) hP hD hS
        · skip
          refine lv_iconst (v := nI 0) hx hb d_M_take_32 (by decide) ?_
          refine lv_istore (lv' := [(4, .int (nI 0)), (0, .ref g), (2, .int (nI 0)), (3, .int (nI i))]) hx hb d_M_take_33 hl (by decide) rfl (fun ls hl => ?_)
          have lp_35 : ∀ (n_35 : Nat) (j : Nat) (T4 : Nat → Int) (H : Heap) (locs : List Loc) (ls : Array Slot), (j ≤ d + 1) → (∀ a b, (a < i ∧ b < d + 1) ∨ (a = i ∧ b < j) → T4 (4 * a + b) = Fm (4 * (0 + a) + (0 + b))) → ((d + 1) - j) < n_35 → va_P D vwC [(g, .inr (2, [.int cd, .int (nI d), .ref mm, .int ik, .ref kf, .ref tb, .int (nI (d + 1)), .ref wk, .int ab, .int be, .ref pl, .ref sp, .int a0, .int a1, .int b0, .int b1, .ref po, .ref to, .ref ba, .ref li, .int lm])), (mm, IA cI 16 Fm), (tb, LA cJ 16 T4)] H → va_D A [(g, .inr (2, [.int cd, .int (nI d), .ref mm, .int ik, .ref kf, .ref tb, .int (nI (d + 1)), .ref wk, .int ab, .int be, .ref pl, .ref sp, .int a0, .int a1, .int b0, .int b1, .ref po, .ref to, .ref ba, .ref li, .int lm])), (mm, IA cI 16 Fm), (tb, LA cJ 16 T4)] → va_S A s.heap H locs → lv_has ls 5 [(0, .ref g), (2, .int (nI 0)), (3, .int (nI i)), (4, .int (nI j))] → W p l e rm_r_take1 s m args below meth c H locs 0 0 Q (F0 m 35 ls []) := by
            intro n_35
            induction n_35 with
            | zero => intro j T4 H locs ls hj h2 hn_35; exact absurd hn_35 (Nat.not_lt_zero _)
            | succ n_35 ih_35 =>
              intro j T4 H locs ls hj h2 hn_35 hP hD hS hl
              refine lv_iload hx hb d_M_take_35 (lv_at hl 3 rfl) ?_
              refine lv_aload_n hx hb d_M_take_37 rfl (lv_at hl 0 rfl) ?_
              refine va_get (D := D) (ci := 2) (v := .int (nI (d + 1))) (C := R_M) (T := F_M) (N := 21) hx hb hts iw_M hown hK hP 0 rfl rfl 6 (by decide) (hts _ tw_393) (fun _ h9 => h9) rfl d_M_take_38 ?_
              refine xn_ge (tgt := 77) hx hb (by omega) (by omega) d_M_take_41 (by decide) (fun c41_2 => ?_) (fun c41_2 => ?_)
              · skip
                refine lv_iinc (v := nI (i + 1)) (lv' := [(3, .int (nI (i + 1))), (0, .ref g), (2, .int (nI 0)), (4, .int (nI j))]) hx hb d_M_take_77 hl (k := 2) rfl (nI_add _ _) (by decide) rfl (fun ls hl => ?_)
                refine lv_goto (tgt := 24) hx hb d_M_take_80 (by decide) ?_
                exact ih_24 (i + 1) T4 H locs ls (by omega) (fun a b ha hb => h2 a b (by omega)) (by omega) hP hD hS (lv_sub hl [1, 2, 0] rfl)
              · skip
                refine lv_aload_n hx hb d_M_take_44 rfl (lv_at hl 0 rfl) ?_
                refine va_get (D := D) (ci := 2) (v := .ref tb) (C := R_M) (T := F_M) (N := 21) hx hb hts iw_M hown hK hP 0 rfl rfl 5 (by decide) (hts _ tw_392) (fun _ h9 => h9) rfl d_M_take_45 ?_
                refine lv_iconst (v := nI 4) hx hb d_M_take_48 (by decide) ?_
                refine lv_iload_n hx hb d_M_take_49 rfl (lv_at hl 2 rfl) ?_
                refine xn_mul hx hb d_M_take_50 ?_
                refine lv_iload hx hb d_M_take_51 (lv_at hl 3 rfl) ?_
                refine xn_add hx hb d_M_take_53 ?_
                refine lv_aload_n hx hb d_M_take_54 rfl (lv_at hl 0 rfl) ?_
                refine va_get (D := D) (ci := 2) (v := .ref mm) (C := R_M) (T := F_M) (N := 21) hx hb hts iw_M hown hK hP 0 rfl rfl 2 (by decide) (hts _ tw_389) (fun _ h9 => h9) rfl d_M_take_55 ?_
                refine lv_iconst (v := nI 4) hx hb d_M_take_58 (by decide) ?_
                refine lv_iload_n hx hb d_M_take_59 rfl (lv_at hl 2 rfl) ?_
                refine lv_iload_n hx hb d_M_take_60 rfl (lv_at hl 1 rfl) ?_
                refine xn_add hx hb d_M_take_61 ?_
                refine xn_mul hx hb d_M_take_62 ?_
                refine lv_iload hx hb d_M_take_63 (lv_at hl 3 rfl) ?_
                refine xn_add hx hb d_M_take_65 ?_
                refine lv_iload_n hx hb d_M_take_66 rfl (lv_at hl 1 rfl) ?_
                refine xn_add hx hb d_M_take_67 ?_
                refine xi_ald hx hb hK hP 1 1 rfl rfl (k := ((4 * (i + 0)) + j) + 0) (by omega) (by first | decide | omega) d_M_take_68 ?_
                refine lv_i2l (v := lI (Fm (((4 * (i + 0)) + j) + 0))) hx hb d_M_take_69 (iI_i2l (iB_of (hF _ (by omega)) (by decide))) ?_
                refine xl_ast hx hb hK hP hD hS 2 0 rfl rfl (k := (4 * i) + j) (by omega) (by first | decide | omega) d_M_take_70 (fun H locs hP hD hS => ?_)
                have hP : va_P D vwC [(g, .inr (2, [.int cd, .int (nI d), .ref mm, .int ik, .ref kf, .ref tb, .int (nI (d + 1)), .ref wk, .int ab, .int be, .ref pl, .ref sp, .int a0, .int a1, .int b0, .int b1, .ref po, .ref to, .ref ba, .ref li, .int lm])), (mm, IA cI 16 Fm), (tb, LA cJ 16 (upZ T4 ((4 * i) + j) (Fm (((4 * (i + 0)) + j) + 0))))] H := hP
                have hD : va_D A [(g, .inr (2, [.int cd, .int (nI d), .ref mm, .int ik, .ref kf, .ref tb, .int (nI (d + 1)), .ref wk, .int ab, .int be, .ref pl, .ref sp, .int a0, .int a1, .int b0, .int b1, .ref po, .ref to, .ref ba, .ref li, .int lm])), (mm, IA cI 16 Fm), (tb, LA cJ 16 (upZ T4 ((4 * i) + j) (Fm (((4 * (i + 0)) + j) + 0))))] := hD
                refine lv_iinc (v := nI (j + 1)) (lv' := [(4, .int (nI (j + 1))), (0, .ref g), (2, .int (nI 0)), (3, .int (nI i))]) hx hb d_M_take_71 hl (k := 3) rfl (nI_add _ _) (by decide) rfl (fun ls hl => ?_)
                refine lv_goto (tgt := 35) hx hb d_M_take_74 (by decide) ?_
                exact ih_35 (j + 1) (upZ T4 ((4 * i) + j) (Fm (((4 * (i + 0)) + j) + 0))) H locs ls (by omega) (fun a b h => by by_cases q : a = i ∧ b = j; obtain ⟨rfl, rfl⟩ := q; rw [upZ_at, show 4 * (a + 0) + b + 0 = 4 * (0 + a) + (0 + b) from by omega]; rw [upZ_ne (k := 4 * i + j) (j := 4 * a + b) _ _ (by omega)]; exact h2 a b (by omega)) (by omega) hP hD hS (lv_sub hl [1, 2, 3, 0] rfl)
          exact lp_35 (((d + 1) - 0) + 1) 0 T3 H locs ls (Nat.zero_le _) (fun a b h => h1 a b (by omega) (by omega)) (by omega) hP hD hS (lv_sub hl [1, 2, 3, 0] rfl)
    exact lp_24 (((d + 1) - 0) + 1) 0 T H locs ls (Nat.zero_le _) (fun a b h => absurd h (Nat.not_lt_zero _)) (by omega) hP hD hS (lv_sub hl [2, 1, 0] rfl)
  rw [hH, hlc] at key; exact key

def rm_r_take0 : Room := { frames := 0, cells := 0, slots := 0, locals := 0 }
set_option maxHeartbeats 4000000 in
set_option maxRecDepth 100000 in
/-- take -/
theorem r_take0 (l : Launch) (D : va_G) (cJ cI : ClassId) (g : Nat) (cd : Int32) (d : Nat) (ik : Int32) (rw : Int32) (ab : Int32) (be : Int32) (a0 : Int32) (a1 : Int32) (b0 : Int32) (b1 : Int32) (lm : Int32) (mm : Nat) (kf : Nat) (tb : Nat) (wk : Nat) (pl : Nat) (sp : Nat) (po : Nat) (to : Nat) (ba : Nat) (li : Nat) (Fm : Nat → Int) (T : Nat → Int) (hd3 : d ≤ 3) (hF : ∀ k, k < 16 → inB (Fm k) 20) (sz : Nat) : xMv l y_M_take (Cond.code y_M_take b_M_take 5 none :: tW) rm_r_take0 [.ref g, .int (nI 0)] D vwC [(cJ, .long), (cI, .int)] sz [(g, .inr (2, [.int cd, .int (nI d), .ref mm, .int ik, .ref kf, .ref tb, .int rw, .ref wk, .int ab, .int be, .ref pl, .ref sp, .int a0, .int a1, .int b0, .int b1, .ref po, .ref to, .ref ba, .ref li, .int lm])), (mm, IA cI 16 Fm), (tb, LA cJ 16 T)] (fun (uo : (Nat → Int)) => ∀ a b, a < d → b < d → uo (4 * a + b) = Fm (4 * (1 + a) + (1 + b))) (fun (uo : (Nat → Int)) => [(g, .inr (2, [.int cd, .int (nI d), .ref mm, .int ik, .ref kf, .ref tb, .int (nI d), .ref wk, .int ab, .int be, .ref pl, .ref sp, .int a0, .int a1, .int b0, .int b1, .ref po, .ref to, .ref ba, .ref li, .int lm])), (mm, IA cI 16 Fm), (tb, LA cJ 16 uo)]) 0 0 := by
  refine xov (cc := b_M_take) (maxL := 5) (by decide) rfl (Nat.le_of_ble_eq_true rfl) ?_
  intro p e s m args below meth c Q A hx hb hml hts hown hN hA hS hP hK hD hret ls hl
  have hl : lv_has ls 5 [(0, .ref g), (1, .int (nI 0))] := hl
  obtain ⟨H, hH⟩ : ∃ z, z = s.heap := ⟨_, rfl⟩
  obtain ⟨locs, hlc⟩ : ∃ z : List Loc, z = [] := ⟨_, rfl⟩
  rw [← hH] at hP
  have hS : va_S A s.heap H locs := by rw [hH, hlc]; exact hS
  have key : W p l e rm_r_take0 s m args below meth c H locs 0 0 Q (F0 m 0 ls []) := by
    refine lv_iload_n hx hb d_M_take_0 rfl (lv_at hl 1 rfl) ?_
    refine xz_eq (tgt := 8) (X := (0 : Nat)) hx hb (nI_toInt (by omega)) d_M_take_1 (by decide) (fun c1_0 => ?_) (fun c1_0 => absurd c1_0 (by omega))
    refine lv_iconst (v := nI 1) hx hb d_M_take_8 (by decide) ?_
    refine lv_istore_n (lv' := [(2, .int (nI 1)), (0, .ref g), (1, .int (nI 0))]) hx hb d_M_take_9 rfl hl (by decide) rfl (fun ls hl => ?_)
    refine lv_aload_n hx hb d_M_take_10 rfl (lv_at hl 1 rfl) ?_
    refine lv_aload_n hx hb d_M_take_11 rfl (lv_at hl 1 rfl) ?_
    refine va_get (D := D) (ci := 2) (v := .int (nI d)) (C := R_M) (T := F_M) (N := 21) hx hb hts iw_M hown hK hP 0 rfl rfl 1 (by decide) (hts _ tw_388) (fun _ h9 => h9) rfl d_M_take_12 ?_
    refine lv_iconst (v := nI 1) hx hb d_M_take_15 (by decide) ?_
    refine xn_add hx hb d_M_take_16 ?_
    refine lv_iload_n hx hb d_M_take_17 rfl (lv_at hl 0 rfl) ?_
    refine xn_sub hx hb (by omega) d_M_take_18 ?_
    rw [show d + 1 - 1 = d from rfl]
    refine va_put (D := D) (ci := 2) (v := .int (nI d)) (ty := .int) (C := R_M) (T := F_M) (N := 21) hx hb hts iw_M ft_M ft_M_ok n_M hown hK hP hD hS 0 rfl rfl 6 (by decide) (hts _ tw_393) (fun _ h9 => h9) rfl (by decide +kernel) rfl rfl (Nat.le_of_ble_eq_true rfl) d_M_take_19 (fun H locs hP hD hS => ?_)
    have hP : va_P D vwC [(g, .inr (2, [.int cd, .int (nI d), .ref mm, .int ik, .ref kf, .ref tb, .int (nI d), .ref wk, .int ab, .int be, .ref pl, .ref sp, .int a0, .int a1, .int b0, .int b1, .ref po, .ref to, .ref ba, .ref li, .int lm])), (mm, IA cI 16 Fm), (tb, LA cJ 16 T)] H := hP
    have hD : va_D A [(g, .inr (2, [.int cd, .int (nI d), .ref mm, .int ik, .ref kf, .ref tb, .int (nI d), .ref wk, .int ab, .int be, .ref pl, .ref sp, .int a0, .int a1, .int b0, .int b1, .ref po, .ref to, .ref ba, .ref li, .int lm])), (mm, IA cI 16 Fm), (tb, LA cJ 16 T)] := hD
    refine lv_iconst (v := nI 0) hx hb d_M_take_22 (by decide) ?_
    refine lv_istore_n (lv' := [(3, .int (nI 0)), (2, .int (nI 1)), (0, .ref g), (1, .int (nI 0))]) hx hb d_M_take_23 rfl hl (by decide) rfl (fun ls hl => ?_)
    have lp_24 : ∀ (n_24 : Nat) (i : Nat) (T3 : Nat → Int) (H : Heap) (locs : List Loc) (ls : Array Slot), (i ≤ d) → (∀ a b, a < i → b < d → T3 (4 * a + b) = Fm (4 * (1 + a) + (1 + b))) → (d - i) < n_24 → va_P D vwC [(g, .inr (2, [.int cd, .int (nI d), .ref mm, .int ik, .ref kf, .ref tb, .int (nI d), .ref wk, .int ab, .int be, .ref pl, .ref sp, .int a0, .int a1, .int b0, .int b1, .ref po, .ref to, .ref ba, .ref li, .int lm])), (mm, IA cI 16 Fm), (tb, LA cJ 16 T3)] H → va_D A [(g, .inr (2, [.int cd, .int (nI d), .ref mm, .int ik, .ref kf, .ref tb, .int (nI d), .ref wk, .int ab, .int be, .ref pl, .ref sp, .int a0, .int a1, .int b0, .int b1, .ref po, .ref to, .ref ba, .ref li, .int lm])), (mm, IA cI 16 Fm), (tb, LA cJ 16 T3)] → va_S A s.heap H locs → lv_has ls 5 [(0, .ref g), (2, .int (nI 1)), (3, .int (nI i))] → W p l e rm_r_take0 s m args below meth c H locs 0 0 Q (F0 m 24 ls []) := by
      intro n_24
      induction n_24 with
      | zero => intro i T3 H locs ls hi h1 hn_24; exact absurd hn_24 (Nat.not_lt_zero _)
      | succ n_24 ih_24 =>
        intro i T3 H locs ls hi h1 hn_24 hP hD hS hl
        refine lv_iload_n hx hb d_M_take_24 rfl (lv_at hl 2 rfl) ?_
        refine lv_aload_n hx hb d_M_take_25 rfl (lv_at hl 0 rfl) ?_
        refine va_get (D := D) (ci := 2) (v := .int (nI d)) (C := R_M) (T := F_M) (N := 21) hx hb hts iw_M hown hK hP 0 rfl rfl 6 (by decide) (hts _ tw_393) (fun _ h9 => h9) rfl d_M_take_26 ?_
        refine xn_ge (tgt := 83) hx hb (by omega) (by omega) d_M_take_29 (by decide) (fun c29_1 => ?_) (fun c29_1 => ?_)
        · skip
          exact hret H locs _ ls T3 d_M_take_83 (fun a b ha hb => h1 a b (by omega) hb) hP hD hS
        · skip
          refine lv_iconst (v := nI 0) hx hb d_M_take_32 (by decide) ?_
          refine lv_istore (lv' := [(4, .int (nI 0)), (0, .ref g), (2, .int (nI 1)), (3, .int (nI i))]) hx hb d_M_take_33 hl (by decide) rfl (fun ls hl => ?_)
          have lp_35 : ∀ (n_35 : Nat) (j : Nat) (T4 : Nat → Int) (H : Heap) (locs : List Loc) (ls : Array Slot), (j ≤ d) → (∀ a b, (a < i ∧ b < d) ∨ (a = i ∧ b < j) → T4 (4 * a + b) = Fm (4 * (1 + a) + (1 + b))) → (d - j) < n_35 → va_P D vwC [(g, .inr (2, [.int cd, .int (nI d), .ref mm, .int ik, .ref kf, .ref tb, .int (nI d), .ref wk, .int ab, .int be, .ref pl, .ref sp, .int a0, .int a1, .int b0, .int b1, .ref po, .ref to, .ref ba, .ref li, .int lm])), (mm, IA cI 16 Fm), (tb, LA cJ 16 T4)] H → va_D A [(g, .inr (2, [.int cd, .int (nI d), .ref mm, .int ik, .ref kf, .ref tb, .int (nI d), .ref wk, .int ab, .int be, .ref pl, .ref sp, .int a0, .int a1, .int b0, .int b1, .ref po, .ref to, .ref ba, .ref li, .int lm])), (mm, IA cI 16 Fm), (tb, LA cJ 16 T4)] → va_S A s.heap H locs → lv_has ls 5 [(0, .ref g), (2, .int (nI 1)), (3, .int (nI i)), (4, .int (nI j))] → W p l e rm_r_take0 s m args below meth c H locs 0 0 Q (F0 m 35 ls []) := by
            intro n_35
            induction n_35 with
            | zero => intro j T4 H locs ls hj h2 hn_35; exact absurd hn_35 (Nat.not_lt_zero _)
            | succ n_35 ih_35 =>
              intro j T4 H locs ls hj h2 hn_35 hP hD hS hl
              refine lv_iload hx hb d_M_take_35 (lv_at hl 3 rfl) ?_
              refine lv_aload_n hx hb d_M_take_37 rfl (lv_at hl 0 rfl) ?_
              refine va_get (D := D) (ci := 2) (v := .int (nI d)) (C := R_M) (T := F_M) (N := 21) hx hb hts iw_M hown hK hP 0 rfl rfl 6 (by decide) (hts _ tw_393) (fun _ h9 => h9) rfl d_M_take_38 ?_
              refine xn_ge (tgt := 77) hx hb (by omega) (by omega) d_M_take_41 (by decide) (fun c41_2 => ?_) (fun c41_2 => ?_)
              · skip
                refine lv_iinc (v := nI (i + 1)) (lv' := [(3, .int (nI (i + 1))), (0, .ref g), (2, .int (nI 1)), (4, .int (nI j))]) hx hb d_M_take_77 hl (k := 2) rfl (nI_add _ _) (by decide) rfl (fun ls hl => ?_)
                refine lv_goto (tgt := 24) hx hb d_M_take_80 (by decide) ?_
                exact ih_24 (i + 1) T4 H locs ls (by omega) (fun a b ha hb => h2 a b (by omega)) (by omega) hP hD hS (lv_sub hl [1, 2, 0] rfl)
              · skip
                refine lv_aload_n hx hb d_M_take_44 rfl (lv_at hl 0 rfl) ?_
                refine va_get (D := D) (ci := 2) (v := .ref tb) (C := R_M) (T := F_M) (N := 21) hx hb hts iw_M hown hK hP 0 rfl rfl 5 (by decide) (hts _ tw_392) (fun _ h9 => h9) rfl d_M_take_45 ?_
                refine lv_iconst (v := nI 4) hx hb d_M_take_48 (by decide) ?_
                refine lv_iload_n hx hb d_M_take_49 rfl (lv_at hl 2 rfl) ?_
                refine xn_mul hx hb d_M_take_50 ?_
                refine lv_iload hx hb d_M_take_51 (lv_at hl 3 rfl) ?_
                refine xn_add hx hb d_M_take_53 ?_
                refine lv_aload_n hx hb d_M_take_54 rfl (lv_at hl 0 rfl) ?_
                refine va_get (D := D) (ci := 2) (v := .ref mm) (C := R_M) (T := F_M) (N := 21) hx hb hts iw_M hown hK hP 0 rfl rfl 2 (by decide) (hts _ tw_389) (fun _ h9 => h9) rfl d_M_take_55 ?_
                refine lv_iconst (v := nI 4) hx hb d_M_take_58 (by decide) ?_
                refine lv_iload_n hx hb d_M_take_59 rfl (lv_at hl 2 rfl) ?_
                refine lv_iload_n hx hb d_M_take_60 rfl (lv_at hl 1 rfl) ?_
                refine xn_add hx hb d_M_take_61 ?_
                refine xn_mul hx hb d_M_take_62 ?_
                refine lv_iload hx hb d_M_take_63 (lv_at hl 3 rfl) ?_
                refine xn_add hx hb d_M_take_65 ?_
                refine lv_iload_n hx hb d_M_take_66 rfl (lv_at hl 1 rfl) ?_
                refine xn_add hx hb d_M_take_67 ?_
                refine xi_ald hx hb hK hP 1 1 rfl rfl (k := ((4 * (i + 1)) + j) + 1) (by omega) (by first | decide | omega) d_M_take_68 ?_
                refine lv_i2l (v := lI (Fm (((4 * (i + 1)) + j) + 1))) hx hb d_M_take_69 (iI_i2l (iB_of (hF _ (by omega)) (by decide))) ?_
                refine xl_ast hx hb hK hP hD hS 2 0 rfl rfl (k := (4 * i) + j) (by omega) (by first | decide | omega) d_M_take_70 (fun H locs hP hD hS => ?_)
                have hP : va_P D vwC [(g, .inr (2, [.int cd, .int (nI d), .ref mm, .int ik, .ref kf, .ref tb, .int (nI d), .ref wk, .int ab, .int be, .ref pl, .ref sp, .int a0, .int a1, .int b0, .int b1, .ref po, .ref to, .ref ba, .ref li, .int lm])), (mm, IA cI 16 Fm), (tb, LA cJ 16 (upZ T4 ((4 * i) + j) (Fm (((4 * (i + 1)) + j) + 1))))] H := hP
                have hD : va_D A [(g, .inr (2, [.int cd, .int (nI d), .ref mm, .int ik, .ref kf, .ref tb, .int (nI d), .ref wk, .int ab, .int be, .ref pl, .ref sp, .int a0, .int a1, .int b0, .int b1, .ref po, .ref to, .ref ba, .ref li, .int lm])), (mm, IA cI 16 Fm), (tb, LA cJ 16 (upZ T4 ((4 * i) + j) (Fm (((4 * (i + 1)) + j) + 1))))] := hD
                refine lv_iinc (v := nI (j + 1)) (lv' := [(4, .int (nI (j + 1))), (0, .ref g), (2, .int (nI 1)), (3, .int (nI i))]) hx hb d_M_take_71 hl (k := 3) rfl (nI_add _ _) (by decide) rfl (fun ls hl => ?_)
                refine lv_goto (tgt := 35) hx hb d_M_take_74 (by decide) ?_
                exact ih_35 (j + 1) (upZ T4 ((4 * i) + j) (Fm (((4 * (i + 1)) + j) + 1))) H locs ls (by omega) (fun a b h => by by_cases q : a = i ∧ b = j; obtain ⟨rfl, rfl⟩ := q; rw [upZ_at, show 4 * (a + 1) + b + 1 = 4 * (1 + a) + (1 + b) from by omega]; rw [upZ_ne (k := 4 * i + j) (j := 4 * a + b) _ _ (by omega)]; exact h2 a b (by omega)) (by omega) hP hD hS (lv_sub hl [1, 2, 3, 0] rfl)
          exact lp_35 ((d - 0) + 1) 0 T3 H locs ls (Nat.zero_le _) (fun a b h => h1 a b (by omega) (by omega)) (by omega) hP hD hS (lv_sub hl [1, 2, 3, 0] rfl)
    exact lp_24 ((d - 0) + 1) 0 T H locs ls (Nat.zero_le _) (fun a b h => absurd h (Nat.not_lt_zero _)) (by omega) hP hD hS (lv_sub hl [2, 1, 0] rfl)
  rw [hH, hlc] at key; exact key

def rm_r_swap : Room := { frames := 0, cells := 0, slots := 0, locals := 0 }
set_option maxHeartbeats 4000000 in
set_option maxRecDepth 100000 in
/-- two rows change places -/
theorem r_swap (l : Launch) (D : va_G) (cJ cI : ClassId) (g : Nat) (cd : Int32) (d : Nat) (ik : Int32) (rw : Int32) (ab : Int32) (be : Int32) (a0 : Int32) (a1 : Int32) (b0 : Int32) (b1 : Int32) (lm : Int32) (mm : Nat) (kf : Nat) (tb : Nat) (wk : Nat) (pl : Nat) (sp : Nat) (po : Nat) (to : Nat) (ba : Nat) (li : Nat) (W0 : Nat → Int) (a : Nat) (b : Nat) (ha : a ≤ 3) (hb2 : b ≤ 3) (sz : Nat) : xMv l y_M_swapRows (Cond.code y_M_swapRows b_M_swapRows 6 none :: tW) rm_r_swap [.ref g, .int (nI a), .int (nI b)] D vwC [(cJ, .long), (cI, .int)] sz [(g, .inr (2, [.int cd, .int (nI d), .ref mm, .int ik, .ref kf, .ref tb, .int rw, .ref wk, .int ab, .int be, .ref pl, .ref sp, .int a0, .int a1, .int b0, .int b1, .ref po, .ref to, .ref ba, .ref li, .int lm])), (wk, LA cJ 20 W0)] (fun (uo : (Nat → Int)) => ∀ i j, i < 4 → j < 5 → uo (5 * i + j) = W0 (5 * swp a b i + j)) (fun (uo : (Nat → Int)) => [(g, .inr (2, [.int cd, .int (nI d), .ref mm, .int ik, .ref kf, .ref tb, .int rw, .ref wk, .int ab, .int be, .ref pl, .ref sp, .int a0, .int a1, .int b0, .int b1, .ref po, .ref to, .ref ba, .ref li, .int lm])), (wk, LA cJ 20 uo)]) 0 0 := by
  refine xov (cc := b_M_swapRows) (maxL := 6) (by decide) rfl (Nat.le_of_ble_eq_true rfl) ?_
  intro p e s m args below meth c Q A hx hb hml hts hown hN hA hS hP hK hD hret ls hl
  have hl : lv_has ls 6 [(0, .ref g), (1, .int (nI a)), (2, .int (nI b))] := hl
  obtain ⟨H, hH⟩ : ∃ z, z = s.heap := ⟨_, rfl⟩
  obtain ⟨locs, hlc⟩ : ∃ z : List Loc, z = [] := ⟨_, rfl⟩
  rw [← hH] at hP
  have hS : va_S A s.heap H locs := by rw [hH, hlc]; exact hS
  have key : W p l e rm_r_swap s m args below meth c H locs 0 0 Q (F0 m 0 ls []) := by
    refine lv_iconst (v := nI 0) hx hb d_M_swapRows_0 (by decide) ?_
    refine lv_istore_n (lv' := [(3, .int (nI 0)), (0, .ref g), (1, .int (nI a)), (2, .int (nI b))]) hx hb d_M_swapRows_1 rfl hl (by decide) rfl (fun ls hl => ?_)
    have lp_2 : ∀ (n_2 : Nat) (t : Nat) (W3 : Nat → Int) (H : Heap) (locs : List Loc) (ls : Array Slot), (t ≤ 5) → (∀ i j, i < 4 → j < 5 → W3 (5 * i + j) = if j < t then W0 (5 * swp a b i + j) else W0 (5 * i + j)) → (5 - t) < n_2 → va_P D vwC [(g, .inr (2, [.int cd, .int (nI d), .ref mm, .int ik, .ref kf, .ref tb, .int rw, .ref wk, .int ab, .int be, .ref pl, .ref sp, .int a0, .int a1, .int b0, .int b1, .ref po, .ref to, .ref ba, .ref li, .int lm])), (wk, LA cJ 20 W3)] H → va_D A [(g, .inr (2, [.int cd, .int (nI d), .ref mm, .int ik, .ref kf, .ref tb, .int rw, .ref wk, .int ab, .int be, .ref pl, .ref sp, .int a0, .int a1, .int b0, .int b1, .ref po, .ref to, .ref ba, .ref li, .int lm])), (wk, LA cJ 20 W3)] → va_S A s.heap H locs → lv_has ls 6 [(0, .ref g), (1, .int (nI a)), (2, .int (nI b)), (3, .int (nI t))] → W p l e rm_r_swap s m args below meth c H locs 0 0 Q (F0 m 2 ls []) := by
      intro n_2
      induction n_2 with
      | zero => intro t W3 H locs ls ht h1 hn_2; exact absurd hn_2 (Nat.not_lt_zero _)
      | succ n_2 ih_2 =>
        intro t W3 H locs ls ht h1 hn_2 hP hD hS hl
        refine lv_iload_n hx hb d_M_swapRows_2 rfl (lv_at hl 3 rfl) ?_
        refine lv_iconst (v := nI 5) hx hb d_M_swapRows_3 (by decide) ?_
        refine xn_ge (tgt := 77) hx hb (by omega) (by omega) d_M_swapRows_4 (by decide) (fun c4_0 => ?_) (fun c4_0 => ?_)
        · skip
          exact hret H locs _ ls W3 d_M_swapRows_77 (fun i j hi hj => (h1 i j hi hj).trans (if_pos (by omega))) hP hD hS
        · skip
          refine lv_iconst (v := nI 5) hx hb d_M_swapRows_7 (by decide) ?_
          refine lv_iload_n hx hb d_M_swapRows_8 rfl (lv_at hl 1 rfl) ?_
          refine xn_mul hx hb d_M_swapRows_9 ?_
          refine lv_iload_n hx hb d_M_swapRows_10 rfl (lv_at hl 3 rfl) ?_
          refine xn_add hx hb d_M_swapRows_11 ?_
          refine lv_bipush (v := nI 20) hx hb d_M_swapRows_12 (by decide) ?_
          refine xn_ge (tgt := 77) hx hb (by omega) (by omega) d_M_swapRows_14 (by decide) (fun c14_1 => absurd c14_1 (by omega)) (fun c14_1 => ?_)
          refine lv_iconst (v := nI 5) hx hb d_M_swapRows_17 (by decide) ?_
          refine lv_iload_n hx hb d_M_swapRows_18 rfl (lv_at hl 2 rfl) ?_
          refine xn_mul hx hb d_M_swapRows_19 ?_
          refine lv_iload_n hx hb d_M_swapRows_20 rfl (lv_at hl 3 rfl) ?_
          refine xn_add hx hb d_M_swapRows_21 ?_
          refine lv_bipush (v := nI 20) hx hb d_M_swapRows_22 (by decide) ?_
          refine xn_ge (tgt := 77) hx hb (by omega) (by omega) d_M_swapRows_24 (by decide) (fun c24_2 => absurd c24_2 (by omega)) (fun c24_2 => ?_)
          refine lv_aload_n hx hb d_M_swapRows_27 rfl (lv_at hl 0 rfl) ?_
          refine va_get (D := D) (ci := 2) (v := .ref wk) (C := R_M) (T := F_M) (N := 21) hx hb hts iw_M hown hK hP 0 rfl rfl 7 (by decide) (hts _ tw_394) (fun _ h9 => h9) rfl d_M_swapRows_28 ?_
          refine lv_iconst (v := nI 5) hx hb d_M_swapRows_31 (by decide) ?_
          refine lv_iload_n hx hb d_M_swapRows_32 rfl (lv_at hl 1 rfl) ?_
          refine xn_mul hx hb d_M_swapRows_33 ?_
          refine lv_iload_n hx hb d_M_swapRows_34 rfl (lv_at hl 3 rfl) ?_
          refine xn_add hx hb d_M_swapRows_35 ?_
          refine xl_ald hx hb hK hP 1 0 rfl rfl (k := (5 * a) + t) (by omega) (by first | decide | omega) d_M_swapRows_36 ?_
          refine lv_lstore (lv' := [(4, .long (lI (W3 ((5 * a) + t)))), (0, .ref g), (1, .int (nI a)), (2, .int (nI b)), (3, .int (nI t))]) hx hb d_M_swapRows_37 hl (by decide) rfl (fun ls hl => ?_)
          refine lv_aload_n hx hb d_M_swapRows_39 rfl (lv_at hl 1 rfl) ?_
          refine va_get (D := D) (ci := 2) (v := .ref wk) (C := R_M) (T := F_M) (N := 21) hx hb hts iw_M hown hK hP 0 rfl rfl 7 (by decide) (hts _ tw_394) (fun _ h9 => h9) rfl d_M_swapRows_40 ?_
          refine lv_iconst (v := nI 5) hx hb d_M_swapRows_43 (by decide) ?_
          refine lv_iload_n hx hb d_M_swapRows_44 rfl (lv_at hl 2 rfl) ?_
          refine xn_mul hx hb d_M_swapRows_45 ?_
          refine lv_iload_n hx hb d_M_swapRows_46 rfl (lv_at hl 4 rfl) ?_
          refine xn_add hx hb d_M_swapRows_47 ?_
          refine lv_aload_n hx hb d_M_swapRows_48 rfl (lv_at hl 1 rfl) ?_
          refine va_get (D := D) (ci := 2) (v := .ref wk) (C := R_M) (T := F_M) (N := 21) hx hb hts iw_M hown hK hP 0 rfl rfl 7 (by decide) (hts _ tw_394) (fun _ h9 => h9) rfl d_M_swapRows_49 ?_
          refine lv_iconst (v := nI 5) hx hb d_M_swapRows_52 (by decide) ?_
          refine lv_iload_n hx hb d_M_swapRows_53 rfl (lv_at hl 3 rfl) ?_
          refine xn_mul hx hb d_M_swapRows_54 ?_
          refine lv_iload_n hx hb d_M_swapRows_55 rfl (lv_at hl 4 rfl) ?_
          refine xn_add hx hb d_M_swapRows_56 ?_
          refine xl_ald hx hb hK hP 1 0 rfl rfl (k := (5 * b) + t) (by omega) (by first | decide | omega) d_M_swapRows_57 ?_
          refine xl_ast hx hb hK hP hD hS 1 0 rfl rfl (k := (5 * a) + t) (by omega) (by first | decide | omega) d_M_swapRows_58 (fun H locs hP hD hS => ?_)
          have hP : va_P D vwC [(g, .inr (2, [.int cd, .int (nI d), .ref mm, .int ik, .ref kf, .ref tb, .int rw, .ref wk, .int ab, .int be, .ref pl, .ref sp, .int a0, .int a1, .int b0, .int b1, .ref po, .ref to, .ref ba, .ref li, .int lm])), (wk, LA cJ 20 (upZ W3 ((5 * a) + t) (W3 ((5 * b) + t))))] H := hP
          have hD : va_D A [(g, .inr (2, [.int cd, .int (nI d), .ref mm, .int ik, .ref kf, .ref tb, .int rw, .ref wk, .int ab, .int be, .ref pl, .ref sp, .int a0, .int a1, .int b0, .int b1, .ref po, .ref to, .ref ba, .ref li, .int lm])), (wk, LA cJ 20 (upZ W3 ((5 * a) + t) (W3 ((5 * b) + t))))] := hD
          refine lv_aload_n hx hb d_M_swapRows_59 rfl (lv_at hl 1 rfl) ?_
          refine va_get (D := D) (ci := 2) (v := .ref wk) (C := R_M) (T := F_M) (N := 21) hx hb hts iw_M hown hK hP 0 rfl rfl 7 (by decide) (hts _ tw_394) (fun _ h9 => h9) rfl d_M_swapRows_60 ?_
          refine lv_iconst (v := nI 5) hx hb d_M_swapRows_63 (by decide) ?_
          refine lv_iload_n hx hb d_M_swapRows_64 rfl (lv_at hl 3 rfl) ?_
          refine xn_mul hx hb d_M_swapRows_65 ?_
          refine lv_iload_n hx hb d_M_swapRows_66 rfl (lv_at hl 4 rfl) ?_
          refine xn_add hx hb d_M_swapRows_67 ?_
          refine lv_lload hx hb d_M_swapRows_68 (lv_at hl 0 rfl) ?_
          refine xl_ast hx hb hK hP hD hS 1 0 rfl rfl (k := (5 * b) + t) (by omega) (by first | decide | omega) d_M_swapRows_70 (fun H locs hP hD hS => ?_)
          have hP : va_P D vwC [(g, .inr (2, [.int cd, .int (nI d), .ref mm, .int ik, .ref kf, .ref tb, .int rw, .ref wk, .int ab, .int be, .ref pl, .ref sp, .int a0, .int a1, .int b0, .int b1, .ref po, .ref to, .ref ba, .ref li, .int lm])), (wk, LA cJ 20 (upZ (upZ W3 ((5 * a) + t) (W3 ((5 * b) + t))) ((5 * b) + t) (W3 ((5 * a) + t))))] H := hP
          have hD : va_D A [(g, .inr (2, [.int cd, .int (nI d), .ref mm, .int ik, .ref kf, .ref tb, .int rw, .ref wk, .int ab, .int be, .ref pl, .ref sp, .int a0, .int a1, .int b0, .int b1, .ref po, .ref to, .ref ba, .ref li, .int lm])), (wk, LA cJ 20 (upZ (upZ W3 ((5 * a) + t) (W3 ((5 * b) + t))) ((5 * b) + t) (W3 ((5 * a) + t))))] := hD
          refine lv_iinc (v := nI (t + 1)) (lv' := [(3, .int (nI (t + 1))), (4, .long (lI (W3 ((5 * a) + t)))), (0, .ref g), (1, .int (nI a)), (2, .int (nI b))]) hx hb d_M_swapRows_71 hl (k := 4) rfl (nI_add _ _) (by decide) rfl (fun ls hl => ?_)
          refine lv_goto (tgt := 2) hx hb d_M_swapRows_74 (by decide) ?_
          exact ih_2 (t + 1) (upZ (upZ W3 ((5 * a) + t) (W3 ((5 * b) + t))) ((5 * b) + t) (W3 ((5 * a) + t))) H locs ls (by omega) (fun i j hi hj => sw_step (by omega) ha hb2 h1 i j hi hj) (by omega) hP hD hS (lv_sub hl [2, 3, 4, 0] rfl)
    exact lp_2 ((5 - 0) + 1) 0 W0 H locs ls (Nat.zero_le _) (fun i j hi hj => rfl) (by omega) hP hD hS (lv_sub hl [1, 2, 3, 0] rfl)
  rw [hH, hlc] at key; exact key

def rm_r_bits : Room := { frames := 0, cells := 0, slots := 0, locals := 0 }
set_option maxHeartbeats 4000000 in
set_option maxRecDepth 100000 in
/-- how many bits -/
theorem r_bits (l : Launch) (D : va_G) (cJ cI : ClassId) (b : Nat) (hb2 : b < 16) (sz : Nat) : xMi l y_M_bitsOf (Cond.code y_M_bitsOf b_M_bitsOf 3 (some .int) :: tW) rm_r_bits [.int (nI b)] D vwC [(cJ, .long), (cI, .int)] sz [] (fun (rv : Int32) (_ : Unit) => rv = nI (popN b)) (fun (_ : Unit) => []) 0 0 := by
  refine xoi (cc := b_M_bitsOf) (maxL := 3) (by decide) rfl (Nat.le_of_ble_eq_true rfl) ?_
  intro p e s m args below meth c Q A hx hb hml hts hown hN hA hS hP hK hD hret ls hl
  have hl : lv_has ls 3 [(0, .int (nI b))] := hl
  obtain ⟨H, hH⟩ : ∃ z, z = s.heap := ⟨_, rfl⟩
  obtain ⟨locs, hlc⟩ : ∃ z : List Loc, z = [] := ⟨_, rfl⟩
  rw [← hH] at hP
  have hS : va_S A s.heap H locs := by rw [hH, hlc]; exact hS
  have key : W p l e rm_r_bits s m args below meth c H locs 0 0 Q (F0 m 0 ls []) := by
    refine lv_iconst (v := nI 0) hx hb d_M_bitsOf_0 (by decide) ?_
    refine lv_istore_n (lv' := [(1, .int (nI 0)), (0, .int (nI b))]) hx hb d_M_bitsOf_1 rfl hl (by decide) rfl (fun ls hl => ?_)
    refine lv_iconst (v := nI 0) hx hb d_M_bitsOf_2 (by decide) ?_
    refine lv_istore_n (lv' := [(2, .int (nI 0)), (1, .int (nI 0)), (0, .int (nI b))]) hx hb d_M_bitsOf_3 rfl hl (by decide) rfl (fun ls hl => ?_)
    refine lv_iload_n hx hb d_M_bitsOf_4 rfl (lv_at hl 0 rfl) ?_
    refine lv_iconst (v := nI 4) hx hb d_M_bitsOf_5 (by decide) ?_
    refine xn_ge (tgt := 23) hx hb (by omega) (by omega) d_M_bitsOf_6 (by decide) (fun c6_0 => absurd c6_0 (by decide)) (fun c6_0 => ?_)
    refine lv_iload_n hx hb d_M_bitsOf_9 rfl (lv_at hl 1 rfl) ?_
    refine lv_iload_n hx hb d_M_bitsOf_10 rfl (lv_at hl 2 rfl) ?_
    refine lv_iload_n hx hb d_M_bitsOf_11 rfl (lv_at hl 0 rfl) ?_
    refine xb_shr hx hb (by omega) (by omega) d_M_bitsOf_12 ?_
    refine lv_iconst (v := nI 1) hx hb d_M_bitsOf_13 (by decide) ?_
    refine xb_and1 hx hb (Nat.lt_of_le_of_lt (Nat.div_le_self _ _) hb2) d_M_bitsOf_14 ?_
    refine xn_add hx hb d_M_bitsOf_15 ?_
    refine lv_istore_n (lv' := [(1, .int (nI (0 + ((b / 2 ^ 0) % 2)))), (2, .int (nI 0)), (0, .int (nI b))]) hx hb d_M_bitsOf_16 rfl hl (by decide) rfl (fun ls hl => ?_)
    refine lv_iinc (v := nI (1)) (lv' := [(2, .int (nI 1)), (1, .int (nI (0 + ((b / 2 ^ 0) % 2)))), (0, .int (nI b))]) hx hb d_M_bitsOf_17 hl (k := 1) rfl (nI_add _ _) (by decide) rfl (fun ls hl => ?_)
    refine lv_goto (tgt := 4) hx hb d_M_bitsOf_20 (by decide) ?_
    refine lv_iload_n hx hb d_M_bitsOf_4 rfl (lv_at hl 0 rfl) ?_
    refine lv_iconst (v := nI 4) hx hb d_M_bitsOf_5 (by decide) ?_
    refine xn_ge (tgt := 23) hx hb (by omega) (by omega) d_M_bitsOf_6 (by decide) (fun c6_1 => absurd c6_1 (by decide)) (fun c6_1 => ?_)
    refine lv_iload_n hx hb d_M_bitsOf_9 rfl (lv_at hl 1 rfl) ?_
    refine lv_iload_n hx hb d_M_bitsOf_10 rfl (lv_at hl 2 rfl) ?_
    refine lv_iload_n hx hb d_M_bitsOf_11 rfl (lv_at hl 0 rfl) ?_
    refine xb_shr hx hb (by omega) (by omega) d_M_bitsOf_12 ?_
    refine lv_iconst (v := nI 1) hx hb d_M_bitsOf_13 (by decide) ?_
    refine xb_and1 hx hb (Nat.lt_of_le_of_lt (Nat.div_le_self _ _) hb2) d_M_bitsOf_14 ?_
    refine xn_add hx hb d_M_bitsOf_15 ?_
    refine lv_istore_n (lv' := [(1, .int (nI ((0 + ((b / 2 ^ 0) % 2)) + ((b / 2 ^ 1) % 2)))), (2, .int (nI 1)), (0, .int (nI b))]) hx hb d_M_bitsOf_16 rfl hl (by decide) rfl (fun ls hl => ?_)
    refine lv_iinc (v := nI (2)) (lv' := [(2, .int (nI 2)), (1, .int (nI ((0 + ((b / 2 ^ 0) % 2)) + ((b / 2 ^ 1) % 2)))), (0, .int (nI b))]) hx hb d_M_bitsOf_17 hl (k := 1) rfl (nI_add _ _) (by decide) rfl (fun ls hl => ?_)
    refine lv_goto (tgt := 4) hx hb d_M_bitsOf_20 (by decide) ?_
    refine lv_iload_n hx hb d_M_bitsOf_4 rfl (lv_at hl 0 rfl) ?_
    refine lv_iconst (v := nI 4) hx hb d_M_bitsOf_5 (by decide) ?_
    refine xn_ge (tgt := 23) hx hb (by omega) (by omega) d_M_bitsOf_6 (by decide) (fun c6_2 => absurd c6_2 (by decide)) (fun c6_2 => ?_)
    refine lv_iload_n hx hb d_M_bitsOf_9 rfl (lv_at hl 1 rfl) ?_
    refine lv_iload_n hx hb d_M_bitsOf_10 rfl (lv_at hl 2 rfl) ?_
    refine lv_iload_n hx hb d_M_bitsOf_11 rfl (lv_at hl 0 rfl) ?_
    refine xb_shr hx hb (by omega) (by omega) d_M_bitsOf_12 ?_
    refine lv_iconst (v := nI 1) hx hb d_M_bitsOf_13 (by decide) ?_
    refine xb_and1 hx hb (Nat.lt_of_le_of_lt (Nat.div_le_self _ _) hb2) d_M_bitsOf_14 ?_
    refine xn_add hx hb d_M_bitsOf_15 ?_
    refine lv_istore_n (lv' := [(1, .int (nI (((0 + ((b / 2 ^ 0) % 2)) + ((b / 2 ^ 1) % 2)) + ((b / 2 ^ 2) % 2)))), (2, .int (nI 2)), (0, .int (nI b))]) hx hb d_M_bitsOf_16 rfl hl (by decide) rfl (fun ls hl => ?_)
    refine lv_iinc (v := nI (3)) (lv' := [(2, .int (nI 3)), (1, .int (nI (((0 + ((b / 2 ^ 0) % 2)) + ((b / 2 ^ 1) % 2)) + ((b / 2 ^ 2) % 2)))), (0, .int (nI b))]) hx hb d_M_bitsOf_17 hl (k := 1) rfl (nI_add _ _) (by decide) rfl (fun ls hl => ?_)
    refine lv_goto (tgt := 4) hx hb d_M_bitsOf_20 (by decide) ?_
    refine lv_iload_n hx hb d_M_bitsOf_4 rfl (lv_at hl 0 rfl) ?_
    refine lv_iconst (v := nI 4) hx hb d_M_bitsOf_5 (by decide) ?_
    refine xn_ge (tgt := 23) hx hb (by omega) (by omega) d_M_bitsOf_6 (by decide) (fun c6_3 => absurd c6_3 (by decide)) (fun c6_3 => ?_)
    refine lv_iload_n hx hb d_M_bitsOf_9 rfl (lv_at hl 1 rfl) ?_
    refine lv_iload_n hx hb d_M_bitsOf_10 rfl (lv_at hl 2 rfl) ?_
    refine lv_iload_n hx hb d_M_bitsOf_11 rfl (lv_at hl 0 rfl) ?_
    refine xb_shr hx hb (by omega) (by omega) d_M_bitsOf_12 ?_
    refine lv_iconst (v := nI 1) hx hb d_M_bitsOf_13 (by decide) ?_
    refine xb_and1 hx hb (Nat.lt_of_le_of_lt (Nat.div_le_self _ _) hb2) d_M_bitsOf_14 ?_
    refine xn_add hx hb d_M_bitsOf_15 ?_
    refine lv_istore_n (lv' := [(1, .int (nI ((((0 + ((b / 2 ^ 0) % 2)) + ((b / 2 ^ 1) % 2)) + ((b / 2 ^ 2) % 2)) + ((b / 2 ^ 3) % 2)))), (2, .int (nI 3)), (0, .int (nI b))]) hx hb d_M_bitsOf_16 rfl hl (by decide) rfl (fun ls hl => ?_)
    refine lv_iinc (v := nI (4)) (lv' := [(2, .int (nI 4)), (1, .int (nI ((((0 + ((b / 2 ^ 0) % 2)) + ((b / 2 ^ 1) % 2)) + ((b / 2 ^ 2) % 2)) + ((b / 2 ^ 3) % 2)))), (0, .int (nI b))]) hx hb d_M_bitsOf_17 hl (k := 1) rfl (nI_add _ _) (by decide) rfl (fun ls hl => ?_)
    refine lv_goto (tgt := 4) hx hb d_M_bitsOf_20 (by decide) ?_
    refine lv_iload_n hx hb d_M_bitsOf_4 rfl (lv_at hl 0 rfl) ?_
    refine lv_iconst (v := nI 4) hx hb d_M_bitsOf_5 (by decide) ?_
    refine xn_ge (tgt := 23) hx hb (by omega) (by omega) d_M_bitsOf_6 (by decide) (fun c6_4 => ?_) (fun c6_4 => absurd c6_4 (by decide))
    refine lv_iload_n hx hb d_M_bitsOf_23 rfl (lv_at hl 1 rfl) ?_
    exact hret H locs _ ls (nI ((((0 + ((b / 2 ^ 0) % 2)) + ((b / 2 ^ 1) % 2)) + ((b / 2 ^ 2) % 2)) + ((b / 2 ^ 3) % 2))) () d_M_bitsOf_24 rfl hP hD hS
  rw [hH, hlc] at key; exact key
