/-! contracts of ConicKindsModel: points, polars, forms (wip/spec_model6.py, modelF) -/
theorem pt4 {P0 : Nat → Int} {d : Nat} {a b c e w : Int} (h : w = if d = 3 then e else 0) : ∀ k, k < 4 → upZ (upZ (upZ (upZ P0 0 a) 1 b) 2 c) 3 w k = ptR d a b c e k := by
  intro k hk
  match k, hk with
  | 0, _ => rfl
  | 1, _ => rfl
  | 2, _ => rfl
  | 3, _ => exact h
def frmM (Fm P : Nat → Int) (d : Nat) : Nat → Int
  | 0 => 0
  | i + 1 => frmM Fm P d i + rowN Fm P i (d + 1) * P i
theorem frmM_eq (Fm P : Nat → Int) (d : Nat) : ∀ n, frmM Fm P d n = frmN Fm P P d n
  | 0 => rfl
  | n + 1 => by
    show frmM Fm P d n + _ = frmN Fm P P d n + _
    rw [frmM_eq Fm P d n, Int.mul_comm]
def sgnZ (x : Int) : Int := if 0 < x then 1 else if x < 0 then -1 else 0
theorem sgnZ_p {x : Int} (h : 0 < x) : sgnZ x = 1 := if_pos h
theorem sgnZ_m {x : Int} (h : x < 0) : sgnZ x = -1 := (if_neg (by omega)).trans (if_pos h)
theorem sgnZ_0 {x : Int} (h : x = 0) : sgnZ x = 0 := by rw [h]; rfl
theorem sgnZ_ne {x : Int} : sgnZ x = 0 ↔ x = 0 := by
  unfold sgnZ
  split
  · omega
  · split <;> omega
theorem lead_ne {G : Nat → Int} : ∀ {n : Nat}, gcdN G n ≠ 0 → leadN G n ≠ 0
  | 0, h => absurd rfl h
  | n + 1, h => by
    show (if leadN G n = 0 then G n else leadN G n) ≠ 0
    by_cases q : leadN G n = 0
    · rw [if_pos q]
      intro z
      apply h
      show Nat.gcd (gcdN G n) (G n).natAbs = 0
      rw [z]
      by_cases q2 : gcdN G n = 0
      · rw [q2]; rfl
      · exact absurd q (lead_ne q2)
    · rw [if_neg q]; exact q
theorem wo_sg {G : Nat → Int} {n : Nat} {x : Int} (h : gcdN G n ≠ 0) : (sgnZ (leadN G n) * x).tdiv ((gcdN G n : Nat) : Int) = x.tdiv (dvN G n) := by
  have hl := lead_ne h
  unfold dvN
  by_cases q : leadN G n < 0
  · rw [sgnZ_m q, if_pos q, Int.neg_mul, Int.one_mul, Int.neg_tdiv, Int.tdiv_neg]
  · rw [sgnZ_p (by omega), if_neg q, Int.one_mul]
def fqJ (Fm B : Nat → Int) (p q i : Nat) : Nat → Int
  | 0 => 0
  | j + 1 => fqJ Fm B p q i j + B (4 * p + i) * Fm (4 * i + j) * B (4 * q + j)
def fqN (Fm B : Nat → Int) (p q : Nat) : Nat → Int
  | 0 => 0
  | i + 1 => fqN Fm B p q i + fqJ Fm B p q i 4

def rm_r_thrown : Room := { frames := 0, cells := 0, slots := 0, locals := 0 }
set_option maxHeartbeats 4000000 in
set_option maxRecDepth 100000 in
/-- thrown -/
theorem r_thrown (l : Launch) (D : va_G) (cJ cI : ClassId) (g : Nat) (cd : Int32) (d : Nat) (ik : Int32) (rw : Int32) (ab : Int32) (be : Int32) (a0 : Int32) (a1 : Int32) (b0 : Int32) (b1 : Int32) (lm : Int32) (mm : Nat) (kf : Nat) (tb : Nat) (wk : Nat) (pl : Nat) (sp : Nat) (po : Nat) (to : Nat) (ba : Nat) (li : Nat)  (sz : Nat) : xMi l y_M_thrown (Cond.code y_M_thrown b_M_thrown 1 (some .int) :: tW) rm_r_thrown [.ref g] D vwC [(cJ, .long), (cI, .int)] sz [(g, .inr (2, [.int cd, .int (nI d), .ref mm, .int ik, .ref kf, .ref tb, .int rw, .ref wk, .int ab, .int be, .ref pl, .ref sp, .int a0, .int a1, .int b0, .int b1, .ref po, .ref to, .ref ba, .ref li, .int lm]))] (fun (rv : Int32) (_ : Unit) => rv = cd) (fun (_ : Unit) => [(g, .inr (2, [.int cd, .int (nI d), .ref mm, .int ik, .ref kf, .ref tb, .int rw, .ref wk, .int ab, .int be, .ref pl, .ref sp, .int a0, .int a1, .int b0, .int b1, .ref po, .ref to, .ref ba, .ref li, .int lm]))]) 0 0 := by
  refine xoi (cc := b_M_thrown) (maxL := 1) (by decide) rfl (Nat.le_of_ble_eq_true rfl) ?_
  intro p e s m args below meth c Q A hx hb hml hts hown hN hA hS hP hK hD hret ls hl
  have hl : lv_has ls 1 [(0, .ref g)] := hl
  obtain ⟨H, hH⟩ : ∃ z, z = s.heap := ⟨_, rfl⟩
  obtain ⟨locs, hlc⟩ : ∃ z : List Loc, z = [] := ⟨_, rfl⟩
  rw [← hH] at hP
  have hS : va_S A s.heap H locs := by rw [hH, hlc]; exact hS
  have key : W p l e rm_r_thrown s m args below meth c H locs 0 0 Q (F0 m 0 ls []) := by
    refine lv_aload_n hx hb d_M_thrown_0 rfl (lv_at hl 0 rfl) ?_
    refine va_get (D := D) (ci := 2) (v := .int cd) (C := R_M) (T := F_M) (N := 21) hx hb hts iw_M hown hK hP 0 rfl rfl 0 (by decide) (hts _ tw_387) (fun _ h9 => h9) rfl d_M_thrown_1 ?_
    exact hret H locs _ ls cd () d_M_thrown_4 rfl hP hD hS
  rw [hH, hlc] at key; exact key

def rm_r_isPoint : Room := { frames := 1, cells := 0, slots := 0, locals := 23 }
set_option maxHeartbeats 4000000 in
set_option maxRecDepth 100000 in
/-- a point -/
theorem r_isPoint (l : Launch) (D : va_G) (cJ cI : ClassId) (g : Nat) (cd : Int32) (d : Nat) (ik : Int32) (rw : Int32) (ab : Int32) (be : Int32) (a0 : Int32) (a1 : Int32) (b0 : Int32) (b1 : Int32) (lm : Int32) (mm : Nat) (kf : Nat) (tb : Nat) (wk : Nat) (pl : Nat) (sp : Nat) (po : Nat) (to : Nat) (ba : Nat) (li : Nat) (P0 : Nat → Int) (x : Int32) (y : Int32) (z : Int32) (dn : Int32) (hd2 : 2 ≤ d) (hd3 : d ≤ 3) (sz : Nat) : xMz l y_M_isPoint (Cond.code y_M_isPoint b_M_isPoint 6 (some .boolean) :: tW) rm_r_isPoint [.ref g, .int x, .int y, .int z, .int dn] D vwC [(cJ, .long), (cI, .int)] sz [(g, .inr (2, [.int cd, .int (nI d), .ref mm, .int ik, .ref kf, .ref tb, .int rw, .ref wk, .int ab, .int be, .ref pl, .ref sp, .int a0, .int a1, .int b0, .int b1, .ref po, .ref to, .ref ba, .ref li, .int lm])), (po, LA cJ 4 P0)] (fun (rv : Int32) (uo : (Nat → Int)) => ((rv = nI 1 ∧ (ptOK d x.toInt y.toInt z.toInt dn.toInt)) ∨ (rv = nI 0 ∧ ¬ (ptOK d x.toInt y.toInt z.toInt dn.toInt))) ∧ (∀ k, k < 4 → uo k = ptR d dn.toInt x.toInt y.toInt z.toInt k)) (fun (uo : (Nat → Int)) => [(g, .inr (2, [.int cd, .int (nI d), .ref mm, .int ik, .ref kf, .ref tb, .int rw, .ref wk, .int ab, .int be, .ref pl, .ref sp, .int a0, .int a1, .int b0, .int b1, .ref po, .ref to, .ref ba, .ref li, .int lm])), (po, LA cJ 4 uo)]) 0 0 := by
  refine xoz (cc := b_M_isPoint) (maxL := 6) (by decide) rfl (Nat.le_of_ble_eq_true rfl) (fun r u h => by rcases h.1 with h | h; exact Or.inr h.1; exact Or.inl h.1) ?_
  intro p e s m args below meth c Q A hx hb hml hts hown hN hA hS hP hK hD hret ls hl
  have hl : lv_has ls 6 [(0, .ref g), (1, .int x), (2, .int y), (3, .int z), (4, .int dn)] := hl
  obtain ⟨H, hH⟩ : ∃ z, z = s.heap := ⟨_, rfl⟩
  obtain ⟨locs, hlc⟩ : ∃ z : List Loc, z = [] := ⟨_, rfl⟩
  rw [← hH] at hP
  have hS : va_S A s.heap H locs := by rw [hH, hlc]; exact hS
  have key : W p l e rm_r_isPoint s m args below meth c H locs 0 0 Q (F0 m 0 ls []) := by
    refine lv_iload hx hb d_M_isPoint_0 (lv_at hl 4 rfl) ?_
    refine lv_i2l (v := lI dn.toInt) hx hb d_M_isPoint_2 rfl ?_
    refine lv_iconst (v := nI 1) hx hb d_M_isPoint_3 (by decide) ?_
    refine lv_bipush (v := nI 100) hx hb d_M_isPoint_4 (by decide) ?_
    refine xci (wc := []) (wr := [(g, .inr (2, [.int cd, .int (nI d), .ref mm, .int ik, .ref kf, .ref tb, .int rw, .ref wk, .int ab, .int be, .ref pl, .ref sp, .int a0, .int a1, .int b0, .int b1, .ref po, .ref to, .ref ba, .ref li, .int lm])), (po, LA cJ 4 P0)]) hP hD hS hA [] [0, 1] rfl rfl (by decide) (by decide) (va_runS (As := [.long (lI dn.toInt), .int (nI 1), .int (nI 100)]) (rest := []) ⟨hx, hb, hml, hown, hts⟩ (r_in l D cJ cI dn.toInt (nI 1) (nI 100) (lB_i _) H.size) (cwS 3 hts (gS tw_464 tw_465 tw_3 tw_466) rfl rfl rfl ⟨rfl, hd_M_in⟩ ⟨Nat.le_of_ble_eq_true rfl, Nat.le_of_ble_eq_true rfl⟩) (xPreS hN hK (hP.sub (ws' := []) [] rfl) (hD.sub (ws' := []) [] (by decide) rfl)) rfl rfl hl.1 rfl (lv_room (Nat.le_of_ble_eq_true rfl)) d_M_isPoint_6 ⟨Nat.le_of_ble_eq_true rfl, Nat.le_of_ble_eq_true rfl⟩) (fun r_1 u_2 H locs hw_3 hP hD hS => ?_)
    try dsimp only at hw_3
    have hP : va_P D vwC [(g, .inr (2, [.int cd, .int (nI d), .ref mm, .int ik, .ref kf, .ref tb, .int rw, .ref wk, .int ab, .int be, .ref pl, .ref sp, .int a0, .int a1, .int b0, .int b1, .ref po, .ref to, .ref ba, .ref li, .int lm])), (po, LA cJ 4 P0)] H := hP
    have hD : va_D A [(g, .inr (2, [.int cd, .int (nI d), .ref mm, .int ik, .ref kf, .ref tb, .int rw, .ref wk, .int ab, .int be, .ref pl, .ref sp, .int a0, .int a1, .int b0, .int b1, .ref po, .ref to, .ref ba, .ref li, .int lm])), (po, LA cJ 4 P0)] := hD
    rcases hw_3 with ⟨rfl, hw_3⟩ | ⟨rfl, hw_3⟩
    · skip
      refine xz_eq (tgt := 66) (X := (1 : Nat)) hx hb (nI_toInt (by omega)) d_M_isPoint_9 (by decide) (fun c9_3 => absurd c9_3 (by omega)) (fun c9_3 => ?_)
      refine lv_iload_n hx hb d_M_isPoint_12 rfl (lv_at hl 1 rfl) ?_
      refine lv_i2l (v := lI x.toInt) hx hb d_M_isPoint_13 rfl ?_
      refine lv_sipush (v := (-1000)) hx hb d_M_isPoint_14 (by decide) ?_
      refine lv_sipush (v := nI 1000) hx hb d_M_isPoint_17 (by decide) ?_
      refine xci (wc := []) (wr := [(g, .inr (2, [.int cd, .int (nI d), .ref mm, .int ik, .ref kf, .ref tb, .int rw, .ref wk, .int ab, .int be, .ref pl, .ref sp, .int a0, .int a1, .int b0, .int b1, .ref po, .ref to, .ref ba, .ref li, .int lm])), (po, LA cJ 4 P0)]) hP hD hS hA [] [0, 1] rfl rfl (by decide) (by decide) (va_runS (As := [.long (lI x.toInt), .int (-1000), .int (nI 1000)]) (rest := []) ⟨hx, hb, hml, hown, hts⟩ (r_in l D cJ cI x.toInt (-1000) (nI 1000) (lB_i _) H.size) (cwS 3 hts (gS tw_464 tw_465 tw_3 tw_466) rfl rfl rfl ⟨rfl, hd_M_in⟩ ⟨Nat.le_of_ble_eq_true rfl, Nat.le_of_ble_eq_true rfl⟩) (xPreS hN hK (hP.sub (ws' := []) [] rfl) (hD.sub (ws' := []) [] (by decide) rfl)) rfl rfl hl.1 rfl (lv_room (Nat.le_of_ble_eq_true rfl)) d_M_isPoint_20 ⟨Nat.le_of_ble_eq_true rfl, Nat.le_of_ble_eq_true rfl⟩) (fun r_5 u_6 H locs hw_7 hP hD hS => ?_)
      try dsimp only at hw_7
      have hP : va_P D vwC [(g, .inr (2, [.int cd, .int (nI d), .ref mm, .int ik, .ref kf, .ref tb, .int rw, .ref wk, .int ab, .int be, .ref pl, .ref sp, .int a0, .int a1, .int b0, .int b1, .ref po, .ref to, .ref ba, .ref li, .int lm])), (po, LA cJ 4 P0)] H := hP
      have hD : va_D A [(g, .inr (2, [.int cd, .int (nI d), .ref mm, .int ik, .ref kf, .ref tb, .int rw, .ref wk, .int ab, .int be, .ref pl, .ref sp, .int a0, .int a1, .int b0, .int b1, .ref po, .ref to, .ref ba, .ref li, .int lm])), (po, LA cJ 4 P0)] := hD
      rcases hw_7 with ⟨rfl, hw_7⟩ | ⟨rfl, hw_7⟩
      · skip
        refine xz_eq (tgt := 66) (X := (1 : Nat)) hx hb (nI_toInt (by omega)) d_M_isPoint_23 (by decide) (fun c23_7 => absurd c23_7 (by omega)) (fun c23_7 => ?_)
        refine lv_iload_n hx hb d_M_isPoint_26 rfl (lv_at hl 2 rfl) ?_
        refine lv_i2l (v := lI y.toInt) hx hb d_M_isPoint_27 rfl ?_
        refine lv_sipush (v := (-1000)) hx hb d_M_isPoint_28 (by decide) ?_
        refine lv_sipush (v := nI 1000) hx hb d_M_isPoint_31 (by decide) ?_
        refine xci (wc := []) (wr := [(g, .inr (2, [.int cd, .int (nI d), .ref mm, .int ik, .ref kf, .ref tb, .int rw, .ref wk, .int ab, .int be, .ref pl, .ref sp, .int a0, .int a1, .int b0, .int b1, .ref po, .ref to, .ref ba, .ref li, .int lm])), (po, LA cJ 4 P0)]) hP hD hS hA [] [0, 1] rfl rfl (by decide) (by decide) (va_runS (As := [.long (lI y.toInt), .int (-1000), .int (nI 1000)]) (rest := []) ⟨hx, hb, hml, hown, hts⟩ (r_in l D cJ cI y.toInt (-1000) (nI 1000) (lB_i _) H.size) (cwS 3 hts (gS tw_464 tw_465 tw_3 tw_466) rfl rfl rfl ⟨rfl, hd_M_in⟩ ⟨Nat.le_of_ble_eq_true rfl, Nat.le_of_ble_eq_true rfl⟩) (xPreS hN hK (hP.sub (ws' := []) [] rfl) (hD.sub (ws' := []) [] (by decide) rfl)) rfl rfl hl.1 rfl (lv_room (Nat.le_of_ble_eq_true rfl)) d_M_isPoint_34 ⟨Nat.le_of_ble_eq_true rfl, Nat.le_of_ble_eq_true rfl⟩) (fun r_9 u_10 H locs hw_11 hP hD hS => ?_)
        try dsimp only at hw_11
        have hP : va_P D vwC [(g, .inr (2, [.int cd, .int (nI d), .ref mm, .int ik, .ref kf, .ref tb, .int rw, .ref wk, .int ab, .int be, .ref pl, .ref sp, .int a0, .int a1, .int b0, .int b1, .ref po, .ref to, .ref ba, .ref li, .int lm])), (po, LA cJ 4 P0)] H := hP
        have hD : va_D A [(g, .inr (2, [.int cd, .int (nI d), .ref mm, .int ik, .ref kf, .ref tb, .int rw, .ref wk, .int ab, .int be, .ref pl, .ref sp, .int a0, .int a1, .int b0, .int b1, .ref po, .ref to, .ref ba, .ref li, .int lm])), (po, LA cJ 4 P0)] := hD
        rcases hw_11 with ⟨rfl, hw_11⟩ | ⟨rfl, hw_11⟩
        · skip
          refine xz_eq (tgt := 66) (X := (1 : Nat)) hx hb (nI_toInt (by omega)) d_M_isPoint_37 (by decide) (fun c37_11 => absurd c37_11 (by omega)) (fun c37_11 => ?_)
          refine lv_aload_n hx hb d_M_isPoint_40 rfl (lv_at hl 0 rfl) ?_
          refine va_get (D := D) (ci := 2) (v := .int (nI d)) (C := R_M) (T := F_M) (N := 21) hx hb hts iw_M hown hK hP 0 rfl rfl 1 (by decide) (hts _ tw_388) (fun _ h9 => h9) rfl d_M_isPoint_41 ?_
          refine lv_iconst (v := nI 2) hx hb d_M_isPoint_44 (by decide) ?_
          refine xn_eq (tgt := 62) hx hb (by omega) (by omega) d_M_isPoint_45 (by decide) (fun c45_12 => ?_) (fun c45_12 => ?_)
          · skip
            refine lv_iconst (v := nI 1) hx hb d_M_isPoint_62 (by decide) ?_
            refine lv_goto (tgt := 67) hx hb d_M_isPoint_63 (by decide) ?_
            refine lv_istore (lv' := [(5, .int (nI 1)), (0, .ref g), (1, .int x), (2, .int y), (3, .int z), (4, .int dn)]) hx hb d_M_isPoint_67 hl (by decide) rfl (fun ls hl => ?_)
            refine lv_aload_n hx hb d_M_isPoint_69 rfl (lv_at hl 1 rfl) ?_
            refine va_get (D := D) (ci := 2) (v := .ref po) (C := R_M) (T := F_M) (N := 21) hx hb hts iw_M hown hK hP 0 rfl rfl 16 (by decide) (hts _ tw_403) (fun _ h9 => h9) rfl d_M_isPoint_70 ?_
            refine lv_iconst (v := nI 0) hx hb d_M_isPoint_73 (by decide) ?_
            refine lv_iload hx hb d_M_isPoint_74 (lv_at hl 5 rfl) ?_
            refine lv_i2l (v := lI dn.toInt) hx hb d_M_isPoint_76 rfl ?_
            refine xl_ast hx hb hK hP hD hS 1 0 rfl rfl (k := 0) (by omega) (by first | decide | omega) d_M_isPoint_77 (fun H locs hP hD hS => ?_)
            have hP : va_P D vwC [(g, .inr (2, [.int cd, .int (nI d), .ref mm, .int ik, .ref kf, .ref tb, .int rw, .ref wk, .int ab, .int be, .ref pl, .ref sp, .int a0, .int a1, .int b0, .int b1, .ref po, .ref to, .ref ba, .ref li, .int lm])), (po, LA cJ 4 (upZ P0 0 dn.toInt))] H := hP
            have hD : va_D A [(g, .inr (2, [.int cd, .int (nI d), .ref mm, .int ik, .ref kf, .ref tb, .int rw, .ref wk, .int ab, .int be, .ref pl, .ref sp, .int a0, .int a1, .int b0, .int b1, .ref po, .ref to, .ref ba, .ref li, .int lm])), (po, LA cJ 4 (upZ P0 0 dn.toInt))] := hD
            refine lv_aload_n hx hb d_M_isPoint_78 rfl (lv_at hl 1 rfl) ?_
            refine va_get (D := D) (ci := 2) (v := .ref po) (C := R_M) (T := F_M) (N := 21) hx hb hts iw_M hown hK hP 0 rfl rfl 16 (by decide) (hts _ tw_403) (fun _ h9 => h9) rfl d_M_isPoint_79 ?_
            refine lv_iconst (v := nI 1) hx hb d_M_isPoint_82 (by decide) ?_
            refine lv_iload_n hx hb d_M_isPoint_83 rfl (lv_at hl 2 rfl) ?_
            refine lv_i2l (v := lI x.toInt) hx hb d_M_isPoint_84 rfl ?_
            refine xl_ast hx hb hK hP hD hS 1 0 rfl rfl (k := 1) (by omega) (by first | decide | omega) d_M_isPoint_85 (fun H locs hP hD hS => ?_)
            have hP : va_P D vwC [(g, .inr (2, [.int cd, .int (nI d), .ref mm, .int ik, .ref kf, .ref tb, .int rw, .ref wk, .int ab, .int be, .ref pl, .ref sp, .int a0, .int a1, .int b0, .int b1, .ref po, .ref to, .ref ba, .ref li, .int lm])), (po, LA cJ 4 (upZ (upZ P0 0 dn.toInt) 1 x.toInt))] H := hP
            have hD : va_D A [(g, .inr (2, [.int cd, .int (nI d), .ref mm, .int ik, .ref kf, .ref tb, .int rw, .ref wk, .int ab, .int be, .ref pl, .ref sp, .int a0, .int a1, .int b0, .int b1, .ref po, .ref to, .ref ba, .ref li, .int lm])), (po, LA cJ 4 (upZ (upZ P0 0 dn.toInt) 1 x.toInt))] := hD
            refine lv_aload_n hx hb d_M_isPoint_86 rfl (lv_at hl 1 rfl) ?_
            refine va_get (D := D) (ci := 2) (v := .ref po) (C := R_M) (T := F_M) (N := 21) hx hb hts iw_M hown hK hP 0 rfl rfl 16 (by decide) (hts _ tw_403) (fun _ h9 => h9) rfl d_M_isPoint_87 ?_
            refine lv_iconst (v := nI 2) hx hb d_M_isPoint_90 (by decide) ?_
            refine lv_iload_n hx hb d_M_isPoint_91 rfl (lv_at hl 3 rfl) ?_
            refine lv_i2l (v := lI y.toInt) hx hb d_M_isPoint_92 rfl ?_
            refine xl_ast hx hb hK hP hD hS 1 0 rfl rfl (k := 2) (by omega) (by first | decide | omega) d_M_isPoint_93 (fun H locs hP hD hS => ?_)
            have hP : va_P D vwC [(g, .inr (2, [.int cd, .int (nI d), .ref mm, .int ik, .ref kf, .ref tb, .int rw, .ref wk, .int ab, .int be, .ref pl, .ref sp, .int a0, .int a1, .int b0, .int b1, .ref po, .ref to, .ref ba, .ref li, .int lm])), (po, LA cJ 4 (upZ (upZ (upZ P0 0 dn.toInt) 1 x.toInt) 2 y.toInt))] H := hP
            have hD : va_D A [(g, .inr (2, [.int cd, .int (nI d), .ref mm, .int ik, .ref kf, .ref tb, .int rw, .ref wk, .int ab, .int be, .ref pl, .ref sp, .int a0, .int a1, .int b0, .int b1, .ref po, .ref to, .ref ba, .ref li, .int lm])), (po, LA cJ 4 (upZ (upZ (upZ P0 0 dn.toInt) 1 x.toInt) 2 y.toInt))] := hD
            refine lv_aload_n hx hb d_M_isPoint_94 rfl (lv_at hl 1 rfl) ?_
            refine va_get (D := D) (ci := 2) (v := .ref po) (C := R_M) (T := F_M) (N := 21) hx hb hts iw_M hown hK hP 0 rfl rfl 16 (by decide) (hts _ tw_403) (fun _ h9 => h9) rfl d_M_isPoint_95 ?_
            refine lv_iconst (v := nI 3) hx hb d_M_isPoint_98 (by decide) ?_
            refine lv_aload_n hx hb d_M_isPoint_99 rfl (lv_at hl 1 rfl) ?_
            refine va_get (D := D) (ci := 2) (v := .int (nI d)) (C := R_M) (T := F_M) (N := 21) hx hb hts iw_M hown hK hP 0 rfl rfl 1 (by decide) (hts _ tw_388) (fun _ h9 => h9) rfl d_M_isPoint_100 ?_
            refine lv_iconst (v := nI 2) hx hb d_M_isPoint_103 (by decide) ?_
            refine xn_ne (tgt := 111) hx hb (by omega) (by omega) d_M_isPoint_104 (by decide) (fun c104_13 => absurd c104_13 (by omega)) (fun c104_13 => ?_)
            refine lv_lconst (v := lI 0) hx hb d_M_isPoint_107 (by decide) ?_
            refine lv_goto (tgt := 113) hx hb d_M_isPoint_108 (by decide) ?_
            refine xl_ast hx hb hK hP hD hS 1 0 rfl rfl (k := 3) (by omega) (by first | decide | omega) d_M_isPoint_113 (fun H locs hP hD hS => ?_)
            have hP : va_P D vwC [(g, .inr (2, [.int cd, .int (nI d), .ref mm, .int ik, .ref kf, .ref tb, .int rw, .ref wk, .int ab, .int be, .ref pl, .ref sp, .int a0, .int a1, .int b0, .int b1, .ref po, .ref to, .ref ba, .ref li, .int lm])), (po, LA cJ 4 (upZ (upZ (upZ (upZ P0 0 dn.toInt) 1 x.toInt) 2 y.toInt) 3 0))] H := hP
            have hD : va_D A [(g, .inr (2, [.int cd, .int (nI d), .ref mm, .int ik, .ref kf, .ref tb, .int rw, .ref wk, .int ab, .int be, .ref pl, .ref sp, .int a0, .int a1, .int b0, .int b1, .ref po, .ref to, .ref ba, .ref li, .int lm])), (po, LA cJ 4 (upZ (upZ (upZ (upZ P0 0 dn.toInt) 1 x.toInt) 2 y.toInt) 3 0))] := hD
            refine lv_iload hx hb d_M_isPoint_114 (lv_at hl 0 rfl) ?_
            exact hret H locs _ ls (nI 1) (upZ (upZ (upZ (upZ P0 0 dn.toInt) 1 x.toInt) 2 y.toInt) 3 0) d_M_isPoint_116 ⟨Or.inl ⟨rfl, (by have c1 : (nI 1).toInt = 1 := rfl; have c2 : (nI 100).toInt = 100 := rfl; have c3 : (nI 1000).toInt = 1000 := rfl; have c4 : (-1000 : Int32).toInt = -1000 := rfl; unfold ptOK inB; omega)⟩, pt4 (if_neg (by omega)).symm⟩ hP hD hS
          · skip
            refine lv_iload_n hx hb d_M_isPoint_48 rfl (lv_at hl 3 rfl) ?_
            refine lv_i2l (v := lI z.toInt) hx hb d_M_isPoint_49 rfl ?_
            refine lv_sipush (v := (-1000)) hx hb d_M_isPoint_50 (by decide) ?_
            refine lv_sipush (v := nI 1000) hx hb d_M_isPoint_53 (by decide) ?_
            refine xci (wc := []) (wr := [(g, .inr (2, [.int cd, .int (nI d), .ref mm, .int ik, .ref kf, .ref tb, .int rw, .ref wk, .int ab, .int be, .ref pl, .ref sp, .int a0, .int a1, .int b0, .int b1, .ref po, .ref to, .ref ba, .ref li, .int lm])), (po, LA cJ 4 P0)]) hP hD hS hA [] [0, 1] rfl rfl (by decide) (by decide) (va_runS (As := [.long (lI z.toInt), .int (-1000), .int (nI 1000)]) (rest := []) ⟨hx, hb, hml, hown, hts⟩ (r_in l D cJ cI z.toInt (-1000) (nI 1000) (lB_i _) H.size) (cwS 3 hts (gS tw_464 tw_465 tw_3 tw_466) rfl rfl rfl ⟨rfl, hd_M_in⟩ ⟨Nat.le_of_ble_eq_true rfl, Nat.le_of_ble_eq_true rfl⟩) (xPreS hN hK (hP.sub (ws' := []) [] rfl) (hD.sub (ws' := []) [] (by decide) rfl)) rfl rfl hl.1 rfl (lv_room (Nat.le_of_ble_eq_true rfl)) d_M_isPoint_56 ⟨Nat.le_of_ble_eq_true rfl, Nat.le_of_ble_eq_true rfl⟩) (fun r_15 u_16 H locs hw_17 hP hD hS => ?_)
            try dsimp only at hw_17
            have hP : va_P D vwC [(g, .inr (2, [.int cd, .int (nI d), .ref mm, .int ik, .ref kf, .ref tb, .int rw, .ref wk, .int ab, .int be, .ref pl, .ref sp, .int a0, .int a1, .int b0, .int b1, .ref po, .ref to, .ref ba, .ref li, .int lm])), (po, LA cJ 4 P0)] H := hP
            have hD : va_D A [(g, .inr (2, [.int cd, .int (nI d), .ref mm, .int ik, .ref kf, .ref tb, .int rw, .ref wk, .int ab, .int be, .ref pl, .ref sp, .int a0, .int a1, .int b0, .int b1, .ref po, .ref to, .ref ba, .ref li, .int lm])), (po, LA cJ 4 P0)] := hD
            rcases hw_17 with ⟨rfl, hw_17⟩ | ⟨rfl, hw_17⟩
            · skip
              refine xz_eq (tgt := 66) (X := (1 : Nat)) hx hb (nI_toInt (by omega)) d_M_isPoint_59 (by decide) (fun c59_17 => absurd c59_17 (by omega)) (fun c59_17 => ?_)
              refine lv_iconst (v := nI 1) hx hb d_M_isPoint_62 (by decide) ?_
              refine lv_goto (tgt := 67) hx hb d_M_isPoint_63 (by decide) ?_
              refine lv_istore (lv' := [(5, .int (nI 1)), (0, .ref g), (1, .int x), (2, .int y), (3, .int z), (4, .int dn)]) hx hb d_M_isPoint_67 hl (by decide) rfl (fun ls hl => ?_)
              refine lv_aload_n hx hb d_M_isPoint_69 rfl (lv_at hl 1 rfl) ?_
              refine va_get (D := D) (ci := 2) (v := .ref po) (C := R_M) (T := F_M) (N := 21) hx hb hts iw_M hown hK hP 0 rfl rfl 16 (by decide) (hts _ tw_403) (fun _ h9 => h9) rfl d_M_isPoint_70 ?_
              refine lv_iconst (v := nI 0) hx hb d_M_isPoint_73 (by decide) ?_
              refine lv_iload hx hb d_M_isPoint_74 (lv_at hl 5 rfl) ?_
              refine lv_i2l (v := lI dn.toInt) hx hb d_M_isPoint_76 rfl ?_
              refine xl_ast hx hb hK hP hD hS 1 0 rfl rfl (k := 0) (by omega) (by first | decide | omega) d_M_isPoint_77 (fun H locs hP hD hS => ?_)
              have hP : va_P D vwC [(g, .inr (2, [.int cd, .int (nI d), .ref mm, .int ik, .ref kf, .ref tb, .int rw, .ref wk, .int ab, .int be, .ref pl, .ref sp, .int a0, .int a1, .int b0, .int b1, .ref po, .ref to, .ref ba, .ref li, .int lm])), (po, LA cJ 4 (upZ P0 0 dn.toInt))] H := hP
              have hD : va_D A [(g, .inr (2, [.int cd, .int (nI d), .ref mm, .int ik, .ref kf, .ref tb, .int rw, .ref wk, .int ab, .int be, .ref pl, .ref sp, .int a0, .int a1, .int b0, .int b1, .ref po, .ref to, .ref ba, .ref li, .int lm])), (po, LA cJ 4 (upZ P0 0 dn.toInt))] := hD
              refine lv_aload_n hx hb d_M_isPoint_78 rfl (lv_at hl 1 rfl) ?_
              refine va_get (D := D) (ci := 2) (v := .ref po) (C := R_M) (T := F_M) (N := 21) hx hb hts iw_M hown hK hP 0 rfl rfl 16 (by decide) (hts _ tw_403) (fun _ h9 => h9) rfl d_M_isPoint_79 ?_
              refine lv_iconst (v := nI 1) hx hb d_M_isPoint_82 (by decide) ?_
              refine lv_iload_n hx hb d_M_isPoint_83 rfl (lv_at hl 2 rfl) ?_
              refine lv_i2l (v := lI x.toInt) hx hb d_M_isPoint_84 rfl ?_
              refine xl_ast hx hb hK hP hD hS 1 0 rfl rfl (k := 1) (by omega) (by first | decide | omega) d_M_isPoint_85 (fun H locs hP hD hS => ?_)
              have hP : va_P D vwC [(g, .inr (2, [.int cd, .int (nI d), .ref mm, .int ik, .ref kf, .ref tb, .int rw, .ref wk, .int ab, .int be, .ref pl, .ref sp, .int a0, .int a1, .int b0, .int b1, .ref po, .ref to, .ref ba, .ref li, .int lm])), (po, LA cJ 4 (upZ (upZ P0 0 dn.toInt) 1 x.toInt))] H := hP
              have hD : va_D A [(g, .inr (2, [.int cd, .int (nI d), .ref mm, .int ik, .ref kf, .ref tb, .int rw, .ref wk, .int ab, .int be, .ref pl, .ref sp, .int a0, .int a1, .int b0, .int b1, .ref po, .ref to, .ref ba, .ref li, .int lm])), (po, LA cJ 4 (upZ (upZ P0 0 dn.toInt) 1 x.toInt))] := hD
              refine lv_aload_n hx hb d_M_isPoint_86 rfl (lv_at hl 1 rfl) ?_
              refine va_get (D := D) (ci := 2) (v := .ref po) (C := R_M) (T := F_M) (N := 21) hx hb hts iw_M hown hK hP 0 rfl rfl 16 (by decide) (hts _ tw_403) (fun _ h9 => h9) rfl d_M_isPoint_87 ?_
              refine lv_iconst (v := nI 2) hx hb d_M_isPoint_90 (by decide) ?_
              refine lv_iload_n hx hb d_M_isPoint_91 rfl (lv_at hl 3 rfl) ?_
              refine lv_i2l (v := lI y.toInt) hx hb d_M_isPoint_92 rfl ?_
              refine xl_ast hx hb hK hP hD hS 1 0 rfl rfl (k := 2) (by omega) (by first | decide | omega) d_M_isPoint_93 (fun H locs hP hD hS => ?_)
              have hP : va_P D vwC [(g, .inr (2, [.int cd, .int (nI d), .ref mm, .int ik, .ref kf, .ref tb, .int rw, .ref wk, .int ab, .int be, .ref pl, .ref sp, .int a0, .int a1, .int b0, .int b1, .ref po, .ref to, .ref ba, .ref li, .int lm])), (po, LA cJ 4 (upZ (upZ (upZ P0 0 dn.toInt) 1 x.toInt) 2 y.toInt))] H := hP
              have hD : va_D A [(g, .inr (2, [.int cd, .int (nI d), .ref mm, .int ik, .ref kf, .ref tb, .int rw, .ref wk, .int ab, .int be, .ref pl, .ref sp, .int a0, .int a1, .int b0, .int b1, .ref po, .ref to, .ref ba, .ref li, .int lm])), (po, LA cJ 4 (upZ (upZ (upZ P0 0 dn.toInt) 1 x.toInt) 2 y.toInt))] := hD
              refine lv_aload_n hx hb d_M_isPoint_94 rfl (lv_at hl 1 rfl) ?_
              refine va_get (D := D) (ci := 2) (v := .ref po) (C := R_M) (T := F_M) (N := 21) hx hb hts iw_M hown hK hP 0 rfl rfl 16 (by decide) (hts _ tw_403) (fun _ h9 => h9) rfl d_M_isPoint_95 ?_
              refine lv_iconst (v := nI 3) hx hb d_M_isPoint_98 (by decide) ?_
              refine lv_aload_n hx hb d_M_isPoint_99 rfl (lv_at hl 1 rfl) ?_
              refine va_get (D := D) (ci := 2) (v := .int (nI d)) (C := R_M) (T := F_M) (N := 21) hx hb hts iw_M hown hK hP 0 rfl rfl 1 (by decide) (hts _ tw_388) (fun _ h9 => h9) rfl d_M_isPoint_100 ?_
              refine lv_iconst (v := nI 2) hx hb d_M_isPoint_103 (by decide) ?_
              refine xn_ne (tgt := 111) hx hb (by omega) (by omega) d_M_isPoint_104 (by decide) (fun c104_18 => ?_) (fun c104_18 => absurd c104_18 (by omega))
              refine lv_iload_n hx hb d_M_isPoint_111 rfl (lv_at hl 4 rfl) ?_
              refine lv_i2l (v := lI z.toInt) hx hb d_M_isPoint_112 rfl ?_
              refine xl_ast hx hb hK hP hD hS 1 0 rfl rfl (k := 3) (by omega) (by first | decide | omega) d_M_isPoint_113 (fun H locs hP hD hS => ?_)
              have hP : va_P D vwC [(g, .inr (2, [.int cd, .int (nI d), .ref mm, .int ik, .ref kf, .ref tb, .int rw, .ref wk, .int ab, .int be, .ref pl, .ref sp, .int a0, .int a1, .int b0, .int b1, .ref po, .ref to, .ref ba, .ref li, .int lm])), (po, LA cJ 4 (upZ (upZ (upZ (upZ P0 0 dn.toInt) 1 x.toInt) 2 y.toInt) 3 z.toInt))] H := hP
              have hD : va_D A [(g, .inr (2, [.int cd, .int (nI d), .ref mm, .int ik, .ref kf, .ref tb, .int rw, .ref wk, .int ab, .int be, .ref pl, .ref sp, .int a0, .int a1, .int b0, .int b1, .ref po, .ref to, .ref ba, .ref li, .int lm])), (po, LA cJ 4 (upZ (upZ (upZ (upZ P0 0 dn.toInt) 1 x.toInt) 2 y.toInt) 3 z.toInt))] := hD
              refine lv_iload hx hb d_M_isPoint_114 (lv_at hl 0 rfl) ?_
              exact hret H locs _ ls (nI 1) (upZ (upZ (upZ (upZ P0 0 dn.toInt) 1 x.toInt) 2 y.toInt) 3 z.toInt) d_M_isPoint_116 ⟨Or.inl ⟨rfl, (by have c1 : (nI 1).toInt = 1 := rfl; have c2 : (nI 100).toInt = 100 := rfl; have c3 : (nI 1000).toInt = 1000 := rfl; have c4 : (-1000 : Int32).toInt = -1000 := rfl; unfold ptOK inB; omega)⟩, pt4 (if_pos (by omega)).symm⟩ hP hD hS
            · skip
              refine xz_eq (tgt := 66) (X := (0 : Nat)) hx hb (nI_toInt (by omega)) d_M_isPoint_59 (by decide) (fun c59_19 => ?_) (fun c59_19 => absurd c59_19 (by omega))
              refine lv_iconst (v := nI 0) hx hb d_M_isPoint_66 (by decide) ?_
              refine lv_istore (lv' := [(5, .int (nI 0)), (0, .ref g), (1, .int x), (2, .int y), (3, .int z), (4, .int dn)]) hx hb d_M_isPoint_67 hl (by decide) rfl (fun ls hl => ?_)
              refine lv_aload_n hx hb d_M_isPoint_69 rfl (lv_at hl 1 rfl) ?_
              refine va_get (D := D) (ci := 2) (v := .ref po) (C := R_M) (T := F_M) (N := 21) hx hb hts iw_M hown hK hP 0 rfl rfl 16 (by decide) (hts _ tw_403) (fun _ h9 => h9) rfl d_M_isPoint_70 ?_
              refine lv_iconst (v := nI 0) hx hb d_M_isPoint_73 (by decide) ?_
              refine lv_iload hx hb d_M_isPoint_74 (lv_at hl 5 rfl) ?_
              refine lv_i2l (v := lI dn.toInt) hx hb d_M_isPoint_76 rfl ?_
              refine xl_ast hx hb hK hP hD hS 1 0 rfl rfl (k := 0) (by omega) (by first | decide | omega) d_M_isPoint_77 (fun H locs hP hD hS => ?_)
              have hP : va_P D vwC [(g, .inr (2, [.int cd, .int (nI d), .ref mm, .int ik, .ref kf, .ref tb, .int rw, .ref wk, .int ab, .int be, .ref pl, .ref sp, .int a0, .int a1, .int b0, .int b1, .ref po, .ref to, .ref ba, .ref li, .int lm])), (po, LA cJ 4 (upZ P0 0 dn.toInt))] H := hP
              have hD : va_D A [(g, .inr (2, [.int cd, .int (nI d), .ref mm, .int ik, .ref kf, .ref tb, .int rw, .ref wk, .int ab, .int be, .ref pl, .ref sp, .int a0, .int a1, .int b0, .int b1, .ref po, .ref to, .ref ba, .ref li, .int lm])), (po, LA cJ 4 (upZ P0 0 dn.toInt))] := hD
              refine lv_aload_n hx hb d_M_isPoint_78 rfl (lv_at hl 1 rfl) ?_
              refine va_get (D := D) (ci := 2) (v := .ref po) (C := R_M) (T := F_M) (N := 21) hx hb hts iw_M hown hK hP 0 rfl rfl 16 (by decide) (hts _ tw_403) (fun _ h9 => h9) rfl d_M_isPoint_79 ?_
              refine lv_iconst (v := nI 1) hx hb d_M_isPoint_82 (by decide) ?_
              refine lv_iload_n hx hb d_M_isPoint_83 rfl (lv_at hl 2 rfl) ?_
              refine lv_i2l (v := lI x.toInt) hx hb d_M_isPoint_84 rfl ?_
              refine xl_ast hx hb hK hP hD hS 1 0 rfl rfl (k := 1) (by omega) (by first | decide | omega) d_M_isPoint_85 (fun H locs hP hD hS => ?_)
              have hP : va_P D vwC [(g, .inr (2, [.int cd, .int (nI d), .ref mm, .int ik, .ref kf, .ref tb, .int rw, .ref wk, .int ab, .int be, .ref pl, .ref sp, .int a0, .int a1, .int b0, .int b1, .ref po, .ref to, .ref ba, .ref li, .int lm])), (po, LA cJ 4 (upZ (upZ P0 0 dn.toInt) 1 x.toInt))] H := hP
              have hD : va_D A [(g, .inr (2, [.int cd, .int (nI d), .ref mm, .int ik, .ref kf, .ref tb, .int rw, .ref wk, .int ab, .int be, .ref pl, .ref sp, .int a0, .int a1, .int b0, .int b1, .ref po, .ref to, .ref ba, .ref li, .int lm])), (po, LA cJ 4 (upZ (upZ P0 0 dn.toInt) 1 x.toInt))] := hD
              refine lv_aload_n hx hb d_M_isPoint_86 rfl (lv_at hl 1 rfl) ?_
              refine va_get (D := D) (ci := 2) (v := .ref po) (C := R_M) (T := F_M) (N := 21) hx hb hts iw_M hown hK hP 0 rfl rfl 16 (by decide) (hts _ tw_403) (fun _ h9 => h9) rfl d_M_isPoint_87 ?_
              refine lv_iconst (v := nI 2) hx hb d_M_isPoint_90 (by decide) ?_
              refine lv_iload_n hx hb d_M_isPoint_91 rfl (lv_at hl 3 rfl) ?_
              refine lv_i2l (v := lI y.toInt) hx hb d_M_isPoint_92 rfl ?_
              refine xl_ast hx hb hK hP hD hS 1 0 rfl rfl (k := 2) (by omega) (by first | decide | omega) d_M_isPoint_93 (fun H locs hP hD hS => ?_)
              have hP : va_P D vwC [(g, .inr (2, [.int cd, .int (nI d), .ref mm, .int ik, .ref kf, .ref tb, .int rw, .ref wk, .int ab, .int be, .ref pl, .ref sp, .int a0, .int a1, .int b0, .int b1, .ref po, .ref to, .ref ba, .ref li, .int lm])), (po, LA cJ 4 (upZ (upZ (upZ P0 0 dn.toInt) 1 x.toInt) 2 y.toInt))] H := hP
              have hD : va_D A [(g, .inr (2, [.int cd, .int (nI d), .ref mm, .int ik, .ref kf, .ref tb, .int rw, .ref wk, .int ab, .int be, .ref pl, .ref sp, .int a0, .int a1, .int b0, .int b1, .ref po, .ref to, .ref ba, .ref li, .int lm])), (po, LA cJ 4 (upZ (upZ (upZ P0 0 dn.toInt) 1 x.toInt) 2 y.toInt))] := hD
              refine lv_aload_n hx hb d_M_isPoint_94 rfl (lv_at hl 1 rfl) ?_
              refine va_get (D := D) (ci := 2) (v := .ref po) (C := R_M) (T := F_M) (N := 21) hx hb hts iw_M hown hK hP 0 rfl rfl 16 (by decide) (hts _ tw_403) (fun _ h9 => h9) rfl d_M_isPoint_95 ?_
              refine lv_iconst (v := nI 3) hx hb d_M_isPoint_98 (by decide) ?_
              refine lv_aload_n hx hb d_M_isPoint_99 rfl (lv_at hl 1 rfl) ?_
              refine va_get (D := D) (ci := 2) (v := .int (nI d)) (C := R_M) (T := F_M) (N := 21) hx hb hts iw_M hown hK hP 0 rfl rfl 1 (by decide) (hts _ tw_388) (fun _ h9 => h9) rfl d_M_isPoint_100 ?_
              refine lv_iconst (v := nI 2) hx hb d_M_isPoint_103 (by decide) ?_
              refine xn_ne (tgt := 111) hx hb (by omega) (by omega) d_M_isPoint_104 (by decide) (fun c104_20 => ?_) (fun c104_20 => absurd c104_20 (by omega))
              refine lv_iload_n hx hb d_M_isPoint_111 rfl (lv_at hl 4 rfl) ?_
              refine lv_i2l (v := lI z.toInt) hx hb d_M_isPoint_112 rfl ?_
              refine xl_ast hx hb hK hP hD hS 1 0 rfl rfl (k := 3) (by omega) (by first | decide | omega) d_M_isPoint_113 (fun H locs hP hD hS => ?_)
              have hP : va_P D vwC [(g, .inr (2, [.int cd, .int (nI d), .ref mm, .int ik, .ref kf, .ref tb, .int rw, .ref wk, .int ab, .int be, .ref pl, .ref sp, .int a0, .int a1, .int b0, .int b1, .ref po, .ref to, .ref ba, .ref li, .int lm])), (po, LA cJ 4 (upZ (upZ (upZ (upZ P0 0 dn.toInt) 1 x.toInt) 2 y.toInt) 3 z.toInt))] H := hP
              have hD : va_D A [(g, .inr (2, [.int cd, .int (nI d), .ref mm, .int ik, .ref kf, .ref tb, .int rw, .ref wk, .int ab, .int be, .ref pl, .ref sp, .int a0, .int a1, .int b0, .int b1, .ref po, .ref to, .ref ba, .ref li, .int lm])), (po, LA cJ 4 (upZ (upZ (upZ (upZ P0 0 dn.toInt) 1 x.toInt) 2 y.toInt) 3 z.toInt))] := hD
              refine lv_iload hx hb d_M_isPoint_114 (lv_at hl 0 rfl) ?_
              exact hret H locs _ ls (nI 0) (upZ (upZ (upZ (upZ P0 0 dn.toInt) 1 x.toInt) 2 y.toInt) 3 z.toInt) d_M_isPoint_116 ⟨Or.inr ⟨rfl, (by have c1 : (nI 1).toInt = 1 := rfl; have c2 : (nI 100).toInt = 100 := rfl; have c3 : (nI 1000).toInt = 1000 := rfl; have c4 : (-1000 : Int32).toInt = -1000 := rfl; unfold ptOK inB; omega)⟩, pt4 (if_pos (by omega)).symm⟩ hP hD hS
        · skip
          refine xz_eq (tgt := 66) (X := (0 : Nat)) hx hb (nI_toInt (by omega)) d_M_isPoint_37 (by decide) (fun c37_21 => ?_) (fun c37_21 => absurd c37_21 (by omega))
          refine lv_iconst (v := nI 0) hx hb d_M_isPoint_66 (by decide) ?_
          refine lv_istore (lv' := [(5, .int (nI 0)), (0, .ref g), (1, .int x), (2, .int y), (3, .int z), (4, .int dn)]) hx hb d_M_isPoint_67 hl (by decide) rfl (fun ls hl => ?_)
          refine lv_aload_n hx hb d_M_isPoint_69 rfl (lv_at hl 1 rfl) ?_
          refine va_get (D := D) (ci := 2) (v := .ref po) (C := R_M) (T := F_M) (N := 21) hx hb hts iw_M hown hK hP 0 rfl rfl 16 (by decide) (hts _ tw_403) (fun _ h9 => h9) rfl d_M_isPoint_70 ?_
          refine lv_iconst (v := nI 0) hx hb d_M_isPoint_73 (by decide) ?_
          refine lv_iload hx hb d_M_isPoint_74 (lv_at hl 5 rfl) ?_
          refine lv_i2l (v := lI dn.toInt) hx hb d_M_isPoint_76 rfl ?_
          refine xl_ast hx hb hK hP hD hS 1 0 rfl rfl (k := 0) (by omega) (by first | decide | omega) d_M_isPoint_77 (fun H locs hP hD hS => ?_)
          have hP : va_P D vwC [(g, .inr (2, [.int cd, .int (nI d), .ref mm, .int ik, .ref kf, .ref tb, .int rw, .ref wk, .int ab, .int be, .ref pl, .ref sp, .int a0, .int a1, .int b0, .int b1, .ref po, .ref to, .ref ba, .ref li, .int lm])), (po, LA cJ 4 (upZ P0 0 dn.toInt))] H := hP
          have hD : va_D A [(g, .inr (2, [.int cd, .int (nI d), .ref mm, .int ik, .ref kf, .ref tb, .int rw, .ref wk, .int ab, .int be, .ref pl, .ref sp, .int a0, .int a1, .int b0, .int b1, .ref po, .ref to, .ref ba, .ref li, .int lm])), (po, LA cJ 4 (upZ P0 0 dn.toInt))] := hD
          refine lv_aload_n hx hb d_M_isPoint_78 rfl (lv_at hl 1 rfl) ?_
          refine va_get (D := D) (ci := 2) (v := .ref po) (C := R_M) (T := F_M) (N := 21) hx hb hts iw_M hown hK hP 0 rfl rfl 16 (by decide) (hts _ tw_403) (fun _ h9 => h9) rfl d_M_isPoint_79 ?_
          refine lv_iconst (v := nI 1) hx hb d_M_isPoint_82 (by decide) ?_
          refine lv_iload_n hx hb d_M_isPoint_83 rfl (lv_at hl 2 rfl) ?_
          refine lv_i2l (v := lI x.toInt) hx hb d_M_isPoint_84 rfl ?_
          refine xl_ast hx hb hK hP hD hS 1 0 rfl rfl (k := 1) (by omega) (by first | decide | omega) d_M_isPoint_85 (fun H locs hP hD hS => ?_)
          have hP : va_P D vwC [(g, .inr (2, [.int cd, .int (nI d), .ref mm, .int ik, .ref kf, .ref tb, .int rw, .ref wk, .int ab, .int be, .ref pl, .ref sp, .int a0, .int a1, .int b0, .int b1, .ref po, .ref to, .ref ba, .ref li, .int lm])), (po, LA cJ 4 (upZ (upZ P0 0 dn.toInt) 1 x.toInt))] H := hP
          have hD : va_D A [(g, .inr (2, [.int cd, .int (nI d), .ref mm, .int ik, .ref kf, .ref tb, .int rw, .ref wk, .int ab, .int be, .ref pl, .ref sp, .int a0, .int a1, .int b0, .int b1, .ref po, .ref to, .ref ba, .ref li, .int lm])), (po, LA cJ 4 (upZ (upZ P0 0 dn.toInt) 1 x.toInt))] := hD
          refine lv_aload_n hx hb d_M_isPoint_86 rfl (lv_at hl 1 rfl) ?_
          refine va_get (D := D) (ci := 2) (v := .ref po) (C := R_M) (T := F_M) (N := 21) hx hb hts iw_M hown hK hP 0 rfl rfl 16 (by decide) (hts _ tw_403) (fun _ h9 => h9) rfl d_M_isPoint_87 ?_
          refine lv_iconst (v := nI 2) hx hb d_M_isPoint_90 (by decide) ?_
          refine lv_iload_n hx hb d_M_isPoint_91 rfl (lv_at hl 3 rfl) ?_
          refine lv_i2l (v := lI y.toInt) hx hb d_M_isPoint_92 rfl ?_
          refine xl_ast hx hb hK hP hD hS 1 0 rfl rfl (k := 2) (by omega) (by first | decide | omega) d_M_isPoint_93 (fun H locs hP hD hS => ?_)
          have hP : va_P D vwC [(g, .inr (2, [.int cd, .int (nI d), .ref mm, .int ik, .ref kf, .ref tb, .int rw, .ref wk, .int ab, .int be, .ref pl, .ref sp, .int a0, .int a1, .int b0, .int b1, .ref po, .ref to, .ref ba, .ref li, .int lm])), (po, LA cJ 4 (upZ (upZ (upZ P0 0 dn.toInt) 1 x.toInt) 2 y.toInt))] H := hP
          have hD : va_D A [(g, .inr (2, [.int cd, .int (nI d), .ref mm, .int ik, .ref kf, .ref tb, .int rw, .ref wk, .int ab, .int be, .ref pl, .ref sp, .int a0, .int a1, .int b0, .int b1, .ref po, .ref to, .ref ba, .ref li, .int lm])), (po, LA cJ 4 (upZ (upZ (upZ P0 0 dn.toInt) 1 x.toInt) 2 y.toInt))] := hD
          refine lv_aload_n hx hb d_M_isPoint_94 rfl (lv_at hl 1 rfl) ?_
          refine va_get (D := D) (ci := 2) (v := .ref po) (C := R_M) (T := F_M) (N := 21) hx hb hts iw_M hown hK hP 0 rfl rfl 16 (by decide) (hts _ tw_403) (fun _ h9 => h9) rfl d_M_isPoint_95 ?_
          refine lv_iconst (v := nI 3) hx hb d_M_isPoint_98 (by decide) ?_
          refine lv_aload_n hx hb d_M_isPoint_99 rfl (lv_at hl 1 rfl) ?_
          refine va_get (D := D) (ci := 2) (v := .int (nI d)) (C := R_M) (T := F_M) (N := 21) hx hb hts iw_M hown hK hP 0 rfl rfl 1 (by decide) (hts _ tw_388) (fun _ h9 => h9) rfl d_M_isPoint_100 ?_
          refine lv_iconst (v := nI 2) hx hb d_M_isPoint_103 (by decide) ?_
          refine xn_ne (tgt := 111) hx hb (by omega) (by omega) d_M_isPoint_104 (by decide) (fun c104_22 => ?_) (fun c104_22 => ?_)
          · skip
            refine lv_iload_n hx hb d_M_isPoint_111 rfl (lv_at hl 4 rfl) ?_
            refine lv_i2l (v := lI z.toInt) hx hb d_M_isPoint_112 rfl ?_
            refine xl_ast hx hb hK hP hD hS 1 0 rfl rfl (k := 3) (by omega) (by first | decide | omega) d_M_isPoint_113 (fun H locs hP hD hS => ?_)
            have hP : va_P D vwC [(g, .inr (2, [.int cd, .int (nI d), .ref mm, .int ik, .ref kf, .ref tb, .int rw, .ref wk, .int ab, .int be, .ref pl, .ref sp, .int a0, .int a1, .int b0, .int b1, .ref po, .ref to, .ref ba, .ref li, .int lm])), (po, LA cJ 4 (upZ (upZ (upZ (upZ P0 0 dn.toInt) 1 x.toInt) 2 y.toInt) 3 z.toInt))] H := hP
            have hD : va_D A [(g, .inr (2, [.int cd, .int (nI d), .ref mm, .int ik, .ref kf, .ref tb, .int rw, .ref wk, .int ab, .int be, .ref pl, .ref sp, .int a0, .int a1, .int b0, .int b1, .ref po, .ref to, .ref ba, .ref li, .int lm])), (po, LA cJ 4 (upZ (upZ (upZ (upZ P0 0 dn.toInt) 1 x.toInt) 2 y.toInt) 3 z.toInt))] := hD
            refine lv_iload hx hb d_M_isPoint_114 (lv_at hl 0 rfl) ?_
            exact hret H locs _ ls (nI 0) (upZ (upZ (upZ (upZ P0 0 dn.toInt) 1 x.toInt) 2 y.toInt) 3 z.toInt) d_M_isPoint_116 ⟨Or.inr ⟨rfl, (by have c1 : (nI 1).toInt = 1 := rfl; have c2 : (nI 100).toInt = 100 := rfl; have c3 : (nI 1000).toInt = 1000 := rfl; have c4 : (-1000 : Int32).toInt = -1000 := rfl; unfold ptOK inB; omega)⟩, pt4 (if_pos (by omega)).symm⟩ hP hD hS
          · skip
            refine lv_lconst (v := lI 0) hx hb d_M_isPoint_107 (by decide) ?_
            refine lv_goto (tgt := 113) hx hb d_M_isPoint_108 (by decide) ?_
            refine xl_ast hx hb hK hP hD hS 1 0 rfl rfl (k := 3) (by omega) (by first | decide | omega) d_M_isPoint_113 (fun H locs hP hD hS => ?_)
            have hP : va_P D vwC [(g, .inr (2, [.int cd, .int (nI d), .ref mm, .int ik, .ref kf, .ref tb, .int rw, .ref wk, .int ab, .int be, .ref pl, .ref sp, .int a0, .int a1, .int b0, .int b1, .ref po, .ref to, .ref ba, .ref li, .int lm])), (po, LA cJ 4 (upZ (upZ (upZ (upZ P0 0 dn.toInt) 1 x.toInt) 2 y.toInt) 3 0))] H := hP
            have hD : va_D A [(g, .inr (2, [.int cd, .int (nI d), .ref mm, .int ik, .ref kf, .ref tb, .int rw, .ref wk, .int ab, .int be, .ref pl, .ref sp, .int a0, .int a1, .int b0, .int b1, .ref po, .ref to, .ref ba, .ref li, .int lm])), (po, LA cJ 4 (upZ (upZ (upZ (upZ P0 0 dn.toInt) 1 x.toInt) 2 y.toInt) 3 0))] := hD
            refine lv_iload hx hb d_M_isPoint_114 (lv_at hl 0 rfl) ?_
            exact hret H locs _ ls (nI 0) (upZ (upZ (upZ (upZ P0 0 dn.toInt) 1 x.toInt) 2 y.toInt) 3 0) d_M_isPoint_116 ⟨Or.inr ⟨rfl, (by have c1 : (nI 1).toInt = 1 := rfl; have c2 : (nI 100).toInt = 100 := rfl; have c3 : (nI 1000).toInt = 1000 := rfl; have c4 : (-1000 : Int32).toInt = -1000 := rfl; unfold ptOK inB; omega)⟩, pt4 (if_neg (by omega)).symm⟩ hP hD hS
      · skip
        refine xz_eq (tgt := 66) (X := (0 : Nat)) hx hb (nI_toInt (by omega)) d_M_isPoint_23 (by decide) (fun c23_23 => ?_) (fun c23_23 => absurd c23_23 (by omega))
        refine lv_iconst (v := nI 0) hx hb d_M_isPoint_66 (by decide) ?_
        refine lv_istore (lv' := [(5, .int (nI 0)), (0, .ref g), (1, .int x), (2, .int y), (3, .int z), (4, .int dn)]) hx hb d_M_isPoint_67 hl (by decide) rfl (fun ls hl => ?_)
        refine lv_aload_n hx hb d_M_isPoint_69 rfl (lv_at hl 1 rfl) ?_
        refine va_get (D := D) (ci := 2) (v := .ref po) (C := R_M) (T := F_M) (N := 21) hx hb hts iw_M hown hK hP 0 rfl rfl 16 (by decide) (hts _ tw_403) (fun _ h9 => h9) rfl d_M_isPoint_70 ?_
        refine lv_iconst (v := nI 0) hx hb d_M_isPoint_73 (by decide) ?_
        refine lv_iload hx hb d_M_isPoint_74 (lv_at hl 5 rfl) ?_
        refine lv_i2l (v := lI dn.toInt) hx hb d_M_isPoint_76 rfl ?_
        refine xl_ast hx hb hK hP hD hS 1 0 rfl rfl (k := 0) (by omega) (by first | decide | omega) d_M_isPoint_77 (fun H locs hP hD hS => ?_)
        have hP : va_P D vwC [(g, .inr (2, [.int cd, .int (nI d), .ref mm, .int ik, .ref kf, .ref tb, .int rw, .ref wk, .int ab, .int be, .ref pl, .ref sp, .int a0, .int a1, .int b0, .int b1, .ref po, .ref to, .ref ba, .ref li, .int lm])), (po, LA cJ 4 (upZ P0 0 dn.toInt))] H := hP
        have hD : va_D A [(g, .inr (2, [.int cd, .int (nI d), .ref mm, .int ik, .ref kf, .ref tb, .int rw, .ref wk, .int ab, .int be, .ref pl, .ref sp, .int a0, .int a1, .int b0, .int b1, .ref po, .ref to, .ref ba, .ref li, .int lm])), (po, LA cJ 4 (upZ P0 0 dn.toInt))] := hD
        refine lv_aload_n hx hb d_M_isPoint_78 rfl (lv_at hl 1 rfl) ?_
        refine va_get (D := D) (ci := 2) (v := .ref po) (C := R_M) (T := F_M) (N := 21) hx hb hts iw_M hown hK hP 0 rfl rfl 16 (by decide) (hts _ tw_403) (fun _ h9 => h9) rfl d_M_isPoint_79 ?_
        refine lv_iconst (v := nI 1) hx hb d_M_isPoint_82 (by decide) ?_
        refine lv_iload_n hx hb d_M_isPoint_83 rfl (lv_at hl 2 rfl) ?_
        refine lv_i2l (v := lI x.toInt) hx hb d_M_isPoint_84 rfl ?_
        refine xl_ast hx hb hK hP hD hS 1 0 rfl rfl (k := 1) (by omega) (by first | decide | omega) d_M_isPoint_85 (fun H locs hP hD hS => ?_)
        have hP : va_P D vwC [(g, .inr (2, [.int cd, .int (nI d), .ref mm, .int ik, .ref kf, .ref tb, .int rw, .ref wk, .int ab, .int be, .ref pl, .ref sp, .int a0, .int a1, .int b0, .int b1, .ref po, .ref to, .ref ba, .ref li, .int lm])), (po, LA cJ 4 (upZ (upZ P0 0 dn.toInt) 1 x.toInt))] H := hP
        have hD : va_D A [(g, .inr (2, [.int cd, .int (nI d), .ref mm, .int ik, .ref kf, .ref tb, .int rw, .ref wk, .int ab, .int be, .ref pl, .ref sp, .int a0, .int a1, .int b0, .int b1, .ref po, .ref to, .ref ba, .ref li, .int lm])), (po, LA cJ 4 (upZ (upZ P0 0 dn.toInt) 1 x.toInt))] := hD
        refine lv_aload_n hx hb d_M_isPoint_86 rfl (lv_at hl 1 rfl) ?_
        refine va_get (D := D) (ci := 2) (v := .ref po) (C := R_M) (T := F_M) (N := 21) hx hb hts iw_M hown hK hP 0 rfl rfl 16 (by decide) (hts _ tw_403) (fun _ h9 => h9) rfl d_M_isPoint_87 ?_
        refine lv_iconst (v := nI 2) hx hb d_M_isPoint_90 (by decide) ?_
        refine lv_iload_n hx hb d_M_isPoint_91 rfl (lv_at hl 3 rfl) ?_
        refine lv_i2l (v := lI y.toInt) hx hb d_M_isPoint_92 rfl ?_
        refine xl_ast hx hb hK hP hD hS 1 0 rfl rfl (k := 2) (by omega) (by first | decide | omega) d_M_isPoint_93 (fun H locs hP hD hS => ?_)
        have hP : va_P D vwC [(g, .inr (2, [.int cd, .int (nI d), .ref mm, .int ik, .ref kf, .ref tb, .int rw, .ref wk, .int ab, .int be, .ref pl, .ref sp, .int a0, .int a1, .int b0, .int b1, .ref po, .ref to, .ref ba, .ref li, .int lm])), (po, LA cJ 4 (upZ (upZ (upZ P0 0 dn.toInt) 1 x.toInt) 2 y.toInt))] H := hP
        have hD : va_D A [(g, .inr (2, [.int cd, .int (nI d), .ref mm, .int ik, .ref kf, .ref tb, .int rw, .ref wk, .int ab, .int be, .ref pl, .ref sp, .int a0, .int a1, .int b0, .int b1, .ref po, .ref to, .ref ba, .ref li, .int lm])), (po, LA cJ 4 (upZ (upZ (upZ P0 0 dn.toInt) 1 x.toInt) 2 y.toInt))] := hD
        refine lv_aload_n hx hb d_M_isPoint_94 rfl (lv_at hl 1 rfl) ?_
        refine va_get (D := D) (ci := 2) (v := .ref po) (C := R_M) (T := F_M) (N := 21) hx hb hts iw_M hown hK hP 0 rfl rfl 16 (by decide) (hts _ tw_403) (fun _ h9 => h9) rfl d_M_isPoint_95 ?_
        refine lv_iconst (v := nI 3) hx hb d_M_isPoint_98 (by decide) ?_
        refine lv_aload_n hx hb d_M_isPoint_99 rfl (lv_at hl 1 rfl) ?_
        refine va_get (D := D) (ci := 2) (v := .int (nI d)) (C := R_M) (T := F_M) (N := 21) hx hb hts iw_M hown hK hP 0 rfl rfl 1 (by decide) (hts _ tw_388) (fun _ h9 => h9) rfl d_M_isPoint_100 ?_
        refine lv_iconst (v := nI 2) hx hb d_M_isPoint_103 (by decide) ?_
        refine xn_ne (tgt := 111) hx hb (by omega) (by omega) d_M_isPoint_104 (by decide) (fun c104_24 => ?_) (fun c104_24 => ?_)
        · skip
          refine lv_iload_n hx hb d_M_isPoint_111 rfl (lv_at hl 4 rfl) ?_
          refine lv_i2l (v := lI z.toInt) hx hb d_M_isPoint_112 rfl ?_
          refine xl_ast hx hb hK hP hD hS 1 0 rfl rfl (k := 3) (by omega) (by first | decide | omega) d_M_isPoint_113 (fun H locs hP hD hS => ?_)
          have hP : va_P D vwC [(g, .inr (2, [.int cd, .int (nI d), .ref mm, .int ik, .ref kf, .ref tb, .int rw, .ref wk, .int ab, .int be, .ref pl, .ref sp, .int a0, .int a1, .int b0, .int b1, .ref po, .ref to, .ref ba, .ref li, .int lm])), (po, LA cJ 4 (upZ (upZ (upZ (upZ P0 0 dn.toInt) 1 x.toInt) 2 y.toInt) 3 z.toInt))] H := hP
          have hD : va_D A [(g, .inr (2, [.int cd, .int (nI d), .ref mm, .int ik, .ref kf, .ref tb, .int rw, .ref wk, .int ab, .int be, .ref pl, .ref sp, .int a0, .int a1, .int b0, .int b1, .ref po, .ref to, .ref ba, .ref li, .int lm])), (po, LA cJ 4 (upZ (upZ (upZ (upZ P0 0 dn.toInt) 1 x.toInt) 2 y.toInt) 3 z.toInt))] := hD
          refine lv_iload hx hb d_M_isPoint_114 (lv_at hl 0 rfl) ?_
          exact hret H locs _ ls (nI 0) (upZ (upZ (upZ (upZ P0 0 dn.toInt) 1 x.toInt) 2 y.toInt) 3 z.toInt) d_M_isPoint_116 ⟨Or.inr ⟨rfl, (by have c1 : (nI 1).toInt = 1 := rfl; have c2 : (nI 100).toInt = 100 := rfl; have c3 : (nI 1000).toInt = 1000 := rfl; have c4 : (-1000 : Int32).toInt = -1000 := rfl; unfold ptOK inB; omega)⟩, pt4 (if_pos (by omega)).symm⟩ hP hD hS
        · skip
          refine lv_lconst (v := lI 0) hx hb d_M_isPoint_107 (by decide) ?_
          refine lv_goto (tgt := 113) hx hb d_M_isPoint_108 (by decide) ?_
          refine xl_ast hx hb hK hP hD hS 1 0 rfl rfl (k := 3) (by omega) (by first | decide | omega) d_M_isPoint_113 (fun H locs hP hD hS => ?_)
          have hP : va_P D vwC [(g, .inr (2, [.int cd, .int (nI d), .ref mm, .int ik, .ref kf, .ref tb, .int rw, .ref wk, .int ab, .int be, .ref pl, .ref sp, .int a0, .int a1, .int b0, .int b1, .ref po, .ref to, .ref ba, .ref li, .int lm])), (po, LA cJ 4 (upZ (upZ (upZ (upZ P0 0 dn.toInt) 1 x.toInt) 2 y.toInt) 3 0))] H := hP
          have hD : va_D A [(g, .inr (2, [.int cd, .int (nI d), .ref mm, .int ik, .ref kf, .ref tb, .int rw, .ref wk, .int ab, .int be, .ref pl, .ref sp, .int a0, .int a1, .int b0, .int b1, .ref po, .ref to, .ref ba, .ref li, .int lm])), (po, LA cJ 4 (upZ (upZ (upZ (upZ P0 0 dn.toInt) 1 x.toInt) 2 y.toInt) 3 0))] := hD
          refine lv_iload hx hb d_M_isPoint_114 (lv_at hl 0 rfl) ?_
          exact hret H locs _ ls (nI 0) (upZ (upZ (upZ (upZ P0 0 dn.toInt) 1 x.toInt) 2 y.toInt) 3 0) d_M_isPoint_116 ⟨Or.inr ⟨rfl, (by have c1 : (nI 1).toInt = 1 := rfl; have c2 : (nI 100).toInt = 100 := rfl; have c3 : (nI 1000).toInt = 1000 := rfl; have c4 : (-1000 : Int32).toInt = -1000 := rfl; unfold ptOK inB; omega)⟩, pt4 (if_neg (by omega)).symm⟩ hP hD hS
    · skip
      refine xz_eq (tgt := 66) (X := (0 : Nat)) hx hb (nI_toInt (by omega)) d_M_isPoint_9 (by decide) (fun c9_25 => ?_) (fun c9_25 => absurd c9_25 (by omega))
      refine lv_iconst (v := nI 0) hx hb d_M_isPoint_66 (by decide) ?_
      refine lv_istore (lv' := [(5, .int (nI 0)), (0, .ref g), (1, .int x), (2, .int y), (3, .int z), (4, .int dn)]) hx hb d_M_isPoint_67 hl (by decide) rfl (fun ls hl => ?_)
      refine lv_aload_n hx hb d_M_isPoint_69 rfl (lv_at hl 1 rfl) ?_
      refine va_get (D := D) (ci := 2) (v := .ref po) (C := R_M) (T := F_M) (N := 21) hx hb hts iw_M hown hK hP 0 rfl rfl 16 (by decide) (hts _ tw_403) (fun _ h9 => h9) rfl d_M_isPoint_70 ?_
      refine lv_iconst (v := nI 0) hx hb d_M_isPoint_73 (by decide) ?_
      refine lv_iload hx hb d_M_isPoint_74 (lv_at hl 5 rfl) ?_
      refine lv_i2l (v := lI dn.toInt) hx hb d_M_isPoint_76 rfl ?_
      refine xl_ast hx hb hK hP hD hS 1 0 rfl rfl (k := 0) (by omega) (by first | decide | omega) d_M_isPoint_77 (fun H locs hP hD hS => ?_)
      have hP : va_P D vwC [(g, .inr (2, [.int cd, .int (nI d), .ref mm, .int ik, .ref kf, .ref tb, .int rw, .ref wk, .int ab, .int be, .ref pl, .ref sp, .int a0, .int a1, .int b0, .int b1, .ref po, .ref to, .ref ba, .ref li, .int lm])), (po, LA cJ 4 (upZ P0 0 dn.toInt))] H := hP
      have hD : va_D A [(g, .inr (2, [.int cd, .int (nI d), .ref mm, .int ik, .ref kf, .ref tb, .int rw, .ref wk, .int ab, .int be, .ref pl, .ref sp, .int a0, .int a1, .int b0, .int b1, .ref po, .ref to, .ref ba, .ref li, .int lm])), (po, LA cJ 4 (upZ P0 0 dn.toInt))] := hD
      refine lv_aload_n hx hb d_M_isPoint_78 rfl (lv_at hl 1 rfl) ?_
      refine va_get (D := D) (ci := 2) (v := .ref po) (C := R_M) (T := F_M) (N := 21) hx hb hts iw_M hown hK hP 0 rfl rfl 16 (by decide) (hts _ tw_403) (fun _ h9 => h9) rfl d_M_isPoint_79 ?_
      refine lv_iconst (v := nI 1) hx hb d_M_isPoint_82 (by decide) ?_
      refine lv_iload_n hx hb d_M_isPoint_83 rfl (lv_at hl 2 rfl) ?_
      refine lv_i2l (v := lI x.toInt) hx hb d_M_isPoint_84 rfl ?_
      refine xl_ast hx hb hK hP hD hS 1 0 rfl rfl (k := 1) (by omega) (by first | decide | omega) d_M_isPoint_85 (fun H locs hP hD hS => ?_)
      have hP : va_P D vwC [(g, .inr (2, [.int cd, .int (nI d), .ref mm, .int ik, .ref kf, .ref tb, .int rw, .ref wk, .int ab, .int be, .ref pl, .ref sp, .int a0, .int a1, .int b0, .int b1, .ref po, .ref to, .ref ba, .ref li, .int lm])), (po, LA cJ 4 (upZ (upZ P0 0 dn.toInt) 1 x.toInt))] H := hP
      have hD : va_D A [(g, .inr (2, [.int cd, .int (nI d), .ref mm, .int ik, .ref kf, .ref tb, .int rw, .ref wk, .int ab, .int be, .ref pl, .ref sp, .int a0, .int a1, .int b0, .int b1, .ref po, .ref to, .ref ba, .ref li, .int lm])), (po, LA cJ 4 (upZ (upZ P0 0 dn.toInt) 1 x.toInt))] := hD
      refine lv_aload_n hx hb d_M_isPoint_86 rfl (lv_at hl 1 rfl) ?_
      refine va_get (D := D) (ci := 2) (v := .ref po) (C := R_M) (T := F_M) (N := 21) hx hb hts iw_M hown hK hP 0 rfl rfl 16 (by decide) (hts _ tw_403) (fun _ h9 => h9) rfl d_M_isPoint_87 ?_
      refine lv_iconst (v := nI 2) hx hb d_M_isPoint_90 (by decide) ?_
      refine lv_iload_n hx hb d_M_isPoint_91 rfl (lv_at hl 3 rfl) ?_
      refine lv_i2l (v := lI y.toInt) hx hb d_M_isPoint_92 rfl ?_
      refine xl_ast hx hb hK hP hD hS 1 0 rfl rfl (k := 2) (by omega) (by first | decide | omega) d_M_isPoint_93 (fun H locs hP hD hS => ?_)
      have hP : va_P D vwC [(g, .inr (2, [.int cd, .int (nI d), .ref mm, .int ik, .ref kf, .ref tb, .int rw, .ref wk, .int ab, .int be, .ref pl, .ref sp, .int a0, .int a1, .int b0, .int b1, .ref po, .ref to, .ref ba, .ref li, .int lm])), (po, LA cJ 4 (upZ (upZ (upZ P0 0 dn.toInt) 1 x.toInt) 2 y.toInt))] H := hP
      have hD : va_D A [(g, .inr (2, [.int cd, .int (nI d), .ref mm, .int ik, .ref kf, .ref tb, .int rw, .ref wk, .int ab, .int be, .ref pl, .ref sp, .int a0, .int a1, .int b0, .int b1, .ref po, .ref to, .ref ba, .ref li, .int lm])), (po, LA cJ 4 (upZ (upZ (upZ P0 0 dn.toInt) 1 x.toInt) 2 y.toInt))] := hD
      refine lv_aload_n hx hb d_M_isPoint_94 rfl (lv_at hl 1 rfl) ?_
      refine va_get (D := D) (ci := 2) (v := .ref po) (C := R_M) (T := F_M) (N := 21) hx hb hts iw_M hown hK hP 0 rfl rfl 16 (by decide) (hts _ tw_403) (fun _ h9 => h9) rfl d_M_isPoint_95 ?_
      refine lv_iconst (v := nI 3) hx hb d_M_isPoint_98 (by decide) ?_
      refine lv_aload_n hx hb d_M_isPoint_99 rfl (lv_at hl 1 rfl) ?_
      refine va_get (D := D) (ci := 2) (v := .int (nI d)) (C := R_M) (T := F_M) (N := 21) hx hb hts iw_M hown hK hP 0 rfl rfl 1 (by decide) (hts _ tw_388) (fun _ h9 => h9) rfl d_M_isPoint_100 ?_
      refine lv_iconst (v := nI 2) hx hb d_M_isPoint_103 (by decide) ?_
      refine xn_ne (tgt := 111) hx hb (by omega) (by omega) d_M_isPoint_104 (by decide) (fun c104_26 => ?_) (fun c104_26 => ?_)
      · skip
        refine lv_iload_n hx hb d_M_isPoint_111 rfl (lv_at hl 4 rfl) ?_
        refine lv_i2l (v := lI z.toInt) hx hb d_M_isPoint_112 rfl ?_
        refine xl_ast hx hb hK hP hD hS 1 0 rfl rfl (k := 3) (by omega) (by first | decide | omega) d_M_isPoint_113 (fun H locs hP hD hS => ?_)
        have hP : va_P D vwC [(g, .inr (2, [.int cd, .int (nI d), .ref mm, .int ik, .ref kf, .ref tb, .int rw, .ref wk, .int ab, .int be, .ref pl, .ref sp, .int a0, .int a1, .int b0, .int b1, .ref po, .ref to, .ref ba, .ref li, .int lm])), (po, LA cJ 4 (upZ (upZ (upZ (upZ P0 0 dn.toInt) 1 x.toInt) 2 y.toInt) 3 z.toInt))] H := hP
        have hD : va_D A [(g, .inr (2, [.int cd, .int (nI d), .ref mm, .int ik, .ref kf, .ref tb, .int rw, .ref wk, .int ab, .int be, .ref pl, .ref sp, .int a0, .int a1, .int b0, .int b1, .ref po, .ref to, .ref ba, .ref li, .int lm])), (po, LA cJ 4 (upZ (upZ (upZ (upZ P0 0 dn.toInt) 1 x.toInt) 2 y.toInt) 3 z.toInt))] := hD
        refine lv_iload hx hb d_M_isPoint_114 (lv_at hl 0 rfl) ?_
        exact hret H locs _ ls (nI 0) (upZ (upZ (upZ (upZ P0 0 dn.toInt) 1 x.toInt) 2 y.toInt) 3 z.toInt) d_M_isPoint_116 ⟨Or.inr ⟨rfl, (by have c1 : (nI 1).toInt = 1 := rfl; have c2 : (nI 100).toInt = 100 := rfl; have c3 : (nI 1000).toInt = 1000 := rfl; have c4 : (-1000 : Int32).toInt = -1000 := rfl; unfold ptOK inB; omega)⟩, pt4 (if_pos (by omega)).symm⟩ hP hD hS
      · skip
        refine lv_lconst (v := lI 0) hx hb d_M_isPoint_107 (by decide) ?_
        refine lv_goto (tgt := 113) hx hb d_M_isPoint_108 (by decide) ?_
        refine xl_ast hx hb hK hP hD hS 1 0 rfl rfl (k := 3) (by omega) (by first | decide | omega) d_M_isPoint_113 (fun H locs hP hD hS => ?_)
        have hP : va_P D vwC [(g, .inr (2, [.int cd, .int (nI d), .ref mm, .int ik, .ref kf, .ref tb, .int rw, .ref wk, .int ab, .int be, .ref pl, .ref sp, .int a0, .int a1, .int b0, .int b1, .ref po, .ref to, .ref ba, .ref li, .int lm])), (po, LA cJ 4 (upZ (upZ (upZ (upZ P0 0 dn.toInt) 1 x.toInt) 2 y.toInt) 3 0))] H := hP
        have hD : va_D A [(g, .inr (2, [.int cd, .int (nI d), .ref mm, .int ik, .ref kf, .ref tb, .int rw, .ref wk, .int ab, .int be, .ref pl, .ref sp, .int a0, .int a1, .int b0, .int b1, .ref po, .ref to, .ref ba, .ref li, .int lm])), (po, LA cJ 4 (upZ (upZ (upZ (upZ P0 0 dn.toInt) 1 x.toInt) 2 y.toInt) 3 0))] := hD
        refine lv_iload hx hb d_M_isPoint_114 (lv_at hl 0 rfl) ?_
        exact hret H locs _ ls (nI 0) (upZ (upZ (upZ (upZ P0 0 dn.toInt) 1 x.toInt) 2 y.toInt) 3 0) d_M_isPoint_116 ⟨Or.inr ⟨rfl, (by have c1 : (nI 1).toInt = 1 := rfl; have c2 : (nI 100).toInt = 100 := rfl; have c3 : (nI 1000).toInt = 1000 := rfl; have c4 : (-1000 : Int32).toInt = -1000 := rfl; unfold ptOK inB; omega)⟩, pt4 (if_neg (by omega)).symm⟩ hP hD hS
  rw [hH, hlc] at key; exact key

def rm_r_polarAt : Room := { frames := 0, cells := 0, slots := 0, locals := 0 }
set_option maxHeartbeats 4000000 in
set_option maxRecDepth 100000 in
/-- a row times the point -/
theorem r_polarAt (l : Launch) (D : va_G) (cJ cI : ClassId) (g : Nat) (cd : Int32) (d : Nat) (ik : Int32) (rw : Int32) (ab : Int32) (be : Int32) (a0 : Int32) (a1 : Int32) (b0 : Int32) (b1 : Int32) (lm : Int32) (mm : Nat) (kf : Nat) (tb : Nat) (wk : Nat) (pl : Nat) (sp : Nat) (po : Nat) (to : Nat) (ba : Nat) (li : Nat) (Fm : Nat → Int) (P0 : Nat → Int) (i : Nat) (hd3 : d ≤ 3) (hi : i ≤ 3) (hF : ∀ k, k < 16 → inB (Fm k) 20) (sz : Nat) : xMl l y_M_polarAt (Cond.code y_M_polarAt b_M_polarAt 5 (some .long) :: tW) rm_r_polarAt [.ref g, .int (nI i)] D vwC [(cJ, .long), (cI, .int)] sz [(g, .inr (2, [.int cd, .int (nI d), .ref mm, .int ik, .ref kf, .ref tb, .int rw, .ref wk, .int ab, .int be, .ref pl, .ref sp, .int a0, .int a1, .int b0, .int b1, .ref po, .ref to, .ref ba, .ref li, .int lm])), (mm, IA cI 16 Fm), (po, LA cJ 4 P0)] (fun (rv : Int64) (_ : Unit) => rv = lI (rowN Fm P0 i (d + 1))) (fun (_ : Unit) => [(g, .inr (2, [.int cd, .int (nI d), .ref mm, .int ik, .ref kf, .ref tb, .int rw, .ref wk, .int ab, .int be, .ref pl, .ref sp, .int a0, .int a1, .int b0, .int b1, .ref po, .ref to, .ref ba, .ref li, .int lm])), (mm, IA cI 16 Fm), (po, LA cJ 4 P0)]) 0 0 := by
  refine xol (cc := b_M_polarAt) (maxL := 5) (by decide) rfl (Nat.le_of_ble_eq_true rfl) ?_
  intro p e s m args below meth c Q A hx hb hml hts hown hN hA hS hP hK hD hret ls hl
  have hl : lv_has ls 5 [(0, .ref g), (1, .int (nI i))] := hl
  obtain ⟨H, hH⟩ : ∃ z, z = s.heap := ⟨_, rfl⟩
  obtain ⟨locs, hlc⟩ : ∃ z : List Loc, z = [] := ⟨_, rfl⟩
  rw [← hH] at hP
  have hS : va_S A s.heap H locs := by rw [hH, hlc]; exact hS
  have key : W p l e rm_r_polarAt s m args below meth c H locs 0 0 Q (F0 m 0 ls []) := by
    refine lv_lconst (v := lI 0) hx hb d_M_polarAt_0 (by decide) ?_
    refine lv_lstore_n (lv' := [(2, .long (lI 0)), (0, .ref g), (1, .int (nI i))]) hx hb d_M_polarAt_1 rfl hl (by decide) rfl (fun ls hl => ?_)
    refine lv_iconst (v := nI 0) hx hb d_M_polarAt_2 (by decide) ?_
    refine lv_istore (lv' := [(4, .int (nI 0)), (2, .long (lI 0)), (0, .ref g), (1, .int (nI i))]) hx hb d_M_polarAt_3 hl (by decide) rfl (fun ls hl => ?_)
    have lp_5 : ∀ (n_5 : Nat) (j : Nat) (H : Heap) (locs : List Loc) (ls : Array Slot), (j ≤ d + 1) → (d + 1 - j) < n_5 → va_P D vwC [(g, .inr (2, [.int cd, .int (nI d), .ref mm, .int ik, .ref kf, .ref tb, .int rw, .ref wk, .int ab, .int be, .ref pl, .ref sp, .int a0, .int a1, .int b0, .int b1, .ref po, .ref to, .ref ba, .ref li, .int lm])), (mm, IA cI 16 Fm), (po, LA cJ 4 P0)] H → va_D A [(g, .inr (2, [.int cd, .int (nI d), .ref mm, .int ik, .ref kf, .ref tb, .int rw, .ref wk, .int ab, .int be, .ref pl, .ref sp, .int a0, .int a1, .int b0, .int b1, .ref po, .ref to, .ref ba, .ref li, .int lm])), (mm, IA cI 16 Fm), (po, LA cJ 4 P0)] → va_S A s.heap H locs → lv_has ls 5 [(0, .ref g), (1, .int (nI i)), (2, .long (lI (rowN Fm P0 i j))), (4, .int (nI j))] → W p l e rm_r_polarAt s m args below meth c H locs 0 0 Q (F0 m 5 ls []) := by
      intro n_5
      induction n_5 with
      | zero => intro j H locs ls hj hn_5; exact absurd hn_5 (Nat.not_lt_zero _)
      | succ n_5 ih_5 =>
        intro j H locs ls hj hn_5 hP hD hS hl
        refine lv_iload hx hb d_M_polarAt_5 (lv_at hl 3 rfl) ?_
        refine lv_aload_n hx hb d_M_polarAt_7 rfl (lv_at hl 0 rfl) ?_
        refine va_get (D := D) (ci := 2) (v := .int (nI d)) (C := R_M) (T := F_M) (N := 21) hx hb hts iw_M hown hK hP 0 rfl rfl 1 (by decide) (hts _ tw_388) (fun _ h9 => h9) rfl d_M_polarAt_8 ?_
        refine xn_gt (tgt := 43) hx hb (by omega) (by omega) d_M_polarAt_11 (by decide) (fun c11_0 => ?_) (fun c11_0 => ?_)
        · skip
          refine lv_lload_n hx hb d_M_polarAt_43 rfl (lv_at hl 2 rfl) ?_
          exact hret H locs _ ls (lI (rowN Fm P0 i j)) () d_M_polarAt_44 (by rw [show j = d + 1 from by omega]) hP hD hS
        · skip
          refine lv_lload_n hx hb d_M_polarAt_14 rfl (lv_at hl 2 rfl) ?_
          refine lv_aload_n hx hb d_M_polarAt_15 rfl (lv_at hl 0 rfl) ?_
          refine va_get (D := D) (ci := 2) (v := .ref mm) (C := R_M) (T := F_M) (N := 21) hx hb hts iw_M hown hK hP 0 rfl rfl 2 (by decide) (hts _ tw_389) (fun _ h9 => h9) rfl d_M_polarAt_16 ?_
          refine lv_iconst (v := nI 4) hx hb d_M_polarAt_19 (by decide) ?_
          refine lv_iload_n hx hb d_M_polarAt_20 rfl (lv_at hl 1 rfl) ?_
          refine xn_mul hx hb d_M_polarAt_21 ?_
          refine lv_iload hx hb d_M_polarAt_22 (lv_at hl 3 rfl) ?_
          refine xn_add hx hb d_M_polarAt_24 ?_
          refine xi_ald hx hb hK hP 1 1 rfl rfl (k := (4 * i) + j) (by omega) (by first | decide | omega) d_M_polarAt_25 ?_
          refine lv_i2l (v := lI (Fm ((4 * i) + j))) hx hb d_M_polarAt_26 (iI_i2l (iB_of (hF _ (by omega)) (by decide))) ?_
          refine lv_aload_n hx hb d_M_polarAt_27 rfl (lv_at hl 0 rfl) ?_
          refine va_get (D := D) (ci := 2) (v := .ref po) (C := R_M) (T := F_M) (N := 21) hx hb hts iw_M hown hK hP 0 rfl rfl 16 (by decide) (hts _ tw_403) (fun _ h9 => h9) rfl d_M_polarAt_28 ?_
          refine lv_iload hx hb d_M_polarAt_31 (lv_at hl 3 rfl) ?_
          refine xl_ald hx hb hK hP 2 0 rfl rfl (k := j) (by omega) (by first | decide | omega) d_M_polarAt_33 ?_
          refine xl_mul hx hb d_M_polarAt_34 ?_
          refine xl_add hx hb d_M_polarAt_35 ?_
          refine lv_lstore_n (lv' := [(2, .long (lI ((rowN Fm P0 i j) + ((Fm ((4 * i) + j)) * (P0 j))))), (0, .ref g), (1, .int (nI i)), (4, .int (nI j))]) hx hb d_M_polarAt_36 rfl hl (by decide) rfl (fun ls hl => ?_)
          refine lv_iinc (v := nI (j + 1)) (lv' := [(4, .int (nI (j + 1))), (2, .long (lI ((rowN Fm P0 i j) + ((Fm ((4 * i) + j)) * (P0 j))))), (0, .ref g), (1, .int (nI i))]) hx hb d_M_polarAt_37 hl (k := 3) rfl (nI_add _ _) (by decide) rfl (fun ls hl => ?_)
          refine lv_goto (tgt := 5) hx hb d_M_polarAt_40 (by decide) ?_
          exact ih_5 (j + 1) H locs ls (by omega) (by omega) hP hD hS (lv_sub hl [2, 3, 1, 0] rfl)
    exact lp_5 ((d + 1 - 0) + 1) 0 H locs ls (Nat.zero_le _) (by omega) hP hD hS (lv_sub hl [2, 3, 1, 0] rfl)
  rw [hH, hlc] at key; exact key

def rm_r_at : Room := { frames := 2, cells := 0, slots := 0, locals := 48 }
set_option maxHeartbeats 4000000 in
set_option maxRecDepth 100000 in
/-- at -/
theorem r_at (l : Launch) (D : va_G) (cJ cI : ClassId) (g : Nat) (cd : Int32) (d : Nat) (ik : Int32) (rw : Int32) (ab : Int32) (be : Int32) (a0 : Int32) (a1 : Int32) (b0 : Int32) (b1 : Int32) (lm : Int32) (mm : Nat) (kf : Nat) (tb : Nat) (wk : Nat) (pl : Nat) (sp : Nat) (po : Nat) (to : Nat) (ba : Nat) (li : Nat) (Fm : Nat → Int) (P0 : Nat → Int) (x : Int32) (y : Int32) (z : Int32) (dn : Int32) (hd2 : 2 ≤ d) (hd3 : d ≤ 3) (hF : ∀ k, k < 16 → inB (Fm k) 20) (sz : Nat) : xMi l y_M_at (Cond.code y_M_at b_M_at 8 (some .int) :: tW) rm_r_at [.ref g, .int x, .int y, .int z, .int dn] D vwC [(cJ, .long), (cI, .int)] sz [(g, .inr (2, [.int cd, .int (nI d), .ref mm, .int ik, .ref kf, .ref tb, .int rw, .ref wk, .int ab, .int be, .ref pl, .ref sp, .int a0, .int a1, .int b0, .int b1, .ref po, .ref to, .ref ba, .ref li, .int lm])), (mm, IA cI 16 Fm), (po, LA cJ 4 P0)] (fun (rv : Int32) (uo : (Nat → Int)) => rv = s_at Fm d x.toInt y.toInt z.toInt dn.toInt) (fun (uo : (Nat → Int)) => [(g, .inr (2, [.int (nI 0), .int (nI d), .ref mm, .int ik, .ref kf, .ref tb, .int rw, .ref wk, .int ab, .int be, .ref pl, .ref sp, .int a0, .int a1, .int b0, .int b1, .ref po, .ref to, .ref ba, .ref li, .int lm])), (mm, IA cI 16 Fm), (po, LA cJ 4 uo)]) 0 0 := by
  refine xoi (cc := b_M_at) (maxL := 8) (by decide) rfl (Nat.le_of_ble_eq_true rfl) ?_
  intro p e s m args below meth c Q A hx hb hml hts hown hN hA hS hP hK hD hret ls hl
  have hl : lv_has ls 8 [(0, .ref g), (1, .int x), (2, .int y), (3, .int z), (4, .int dn)] := hl
  obtain ⟨H, hH⟩ : ∃ z, z = s.heap := ⟨_, rfl⟩
  obtain ⟨locs, hlc⟩ : ∃ z : List Loc, z = [] := ⟨_, rfl⟩
  rw [← hH] at hP
  have hS : va_S A s.heap H locs := by rw [hH, hlc]; exact hS
  have key : W p l e rm_r_at s m args below meth c H locs 0 0 Q (F0 m 0 ls []) := by
    refine lv_aload_n hx hb d_M_at_0 rfl (lv_at hl 0 rfl) ?_
    refine lv_iconst (v := nI 0) hx hb d_M_at_1 (by decide) ?_
    refine va_put (D := D) (ci := 2) (v := .int (nI 0)) (ty := .int) (C := R_M) (T := F_M) (N := 21) hx hb hts iw_M ft_M ft_M_ok n_M hown hK hP hD hS 0 rfl rfl 0 (by decide) (hts _ tw_387) (fun _ h9 => h9) rfl (by decide +kernel) rfl rfl (Nat.le_of_ble_eq_true rfl) d_M_at_2 (fun H locs hP hD hS => ?_)
    have hP : va_P D vwC [(g, .inr (2, [.int (nI 0), .int (nI d), .ref mm, .int ik, .ref kf, .ref tb, .int rw, .ref wk, .int ab, .int be, .ref pl, .ref sp, .int a0, .int a1, .int b0, .int b1, .ref po, .ref to, .ref ba, .ref li, .int lm])), (mm, IA cI 16 Fm), (po, LA cJ 4 P0)] H := hP
    have hD : va_D A [(g, .inr (2, [.int (nI 0), .int (nI d), .ref mm, .int ik, .ref kf, .ref tb, .int rw, .ref wk, .int ab, .int be, .ref pl, .ref sp, .int a0, .int a1, .int b0, .int b1, .ref po, .ref to, .ref ba, .ref li, .int lm])), (mm, IA cI 16 Fm), (po, LA cJ 4 P0)] := hD
    refine lv_aload_n hx hb d_M_at_5 rfl (lv_at hl 0 rfl) ?_
    refine lv_iload_n hx hb d_M_at_6 rfl (lv_at hl 1 rfl) ?_
    refine lv_iload_n hx hb d_M_at_7 rfl (lv_at hl 2 rfl) ?_
    refine lv_iload_n hx hb d_M_at_8 rfl (lv_at hl 3 rfl) ?_
    refine lv_iload hx hb d_M_at_9 (lv_at hl 4 rfl) ?_
    refine xci (wc := [(g, .inr (2, [.int (nI 0), .int (nI d), .ref mm, .int ik, .ref kf, .ref tb, .int rw, .ref wk, .int ab, .int be, .ref pl, .ref sp, .int a0, .int a1, .int b0, .int b1, .ref po, .ref to, .ref ba, .ref li, .int lm])), (po, LA cJ 4 P0)]) (wr := [(mm, IA cI 16 Fm)]) hP hD hS hA [0, 2] [1] rfl rfl (by decide) (by decide) (va_runV (As := [.int x, .int y, .int z, .int dn]) (rest := []) ⟨hx, hb, hml, hown, hts⟩ (r_isPoint l D cJ cI g (nI 0) d ik rw ab be a0 a1 b0 b1 lm mm kf tb wk pl sp po to ba li P0 x y z dn (by first | assumption | omega) (by first | assumption | omega) H.size) (cwV 4 hts (gV tw_556 tw_558 tws_27 tw_3 tw_559) rfl rfl rfl ⟨rfl, hd_M_isPoint⟩ ⟨Nat.le_of_ble_eq_true rfl, Nat.le_of_ble_eq_true rfl⟩) (xPreV (C := R_M) (T := F_M) (N := 21) (q0 := 0) hN hK (hP.sub (ws' := [(g, .inr (2, [.int (nI 0), .int (nI d), .ref mm, .int ik, .ref kf, .ref tb, .int rw, .ref wk, .int ab, .int be, .ref pl, .ref sp, .int a0, .int a1, .int b0, .int b1, .ref po, .ref to, .ref ba, .ref li, .int lm])), (po, LA cJ 4 P0)]) [0, 2] rfl) (hD.sub (ws' := [(g, .inr (2, [.int (nI 0), .int (nI d), .ref mm, .int ik, .ref kf, .ref tb, .int rw, .ref wk, .int ab, .int be, .ref pl, .ref sp, .int a0, .int a1, .int b0, .int b1, .ref po, .ref to, .ref ba, .ref li, .int lm])), (po, LA cJ 4 P0)]) [0, 2] (by decide) rfl) rfl rfl) rfl rfl hl.1 rfl (lv_room (Nat.le_of_ble_eq_true rfl)) d_M_at_11 ⟨Nat.le_of_ble_eq_true rfl, Nat.le_of_ble_eq_true rfl⟩) (fun r_1 u_2 H locs hwt hP hD hS => ?_)
    obtain ⟨P5, rfl⟩ : ∃ z, z = u_2 := ⟨_, rfl⟩
    try dsimp only at hwt
    have hP : va_P D vwC [(g, .inr (2, [.int (nI 0), .int (nI d), .ref mm, .int ik, .ref kf, .ref tb, .int rw, .ref wk, .int ab, .int be, .ref pl, .ref sp, .int a0, .int a1, .int b0, .int b1, .ref po, .ref to, .ref ba, .ref li, .int lm])), (mm, IA cI 16 Fm), (po, LA cJ 4 P5)] H := hP.sub [1, 0, 2] rfl
    have hD : va_D A [(g, .inr (2, [.int (nI 0), .int (nI d), .ref mm, .int ik, .ref kf, .ref tb, .int rw, .ref wk, .int ab, .int be, .ref pl, .ref sp, .int a0, .int a1, .int b0, .int b1, .ref po, .ref to, .ref ba, .ref li, .int lm])), (mm, IA cI 16 Fm), (po, LA cJ 4 P5)] := hD.sub [1, 0, 2] (by decide) rfl
    obtain ⟨hwt, hwtp⟩ := hwt
    rcases hwt with ⟨rfl, hwt⟩ | ⟨rfl, hwt⟩
    · skip
      refine xz_ne (tgt := 20) (X := (1 : Nat)) hx hb (nI_toInt (by omega)) d_M_at_14 (by decide) (fun c14_2 => ?_) (fun c14_2 => absurd c14_2 (by omega))
      have hB := hwtp
      have hBB := pt_B hwt hB
      refine lv_lconst (v := lI 0) hx hb d_M_at_20 (by decide) ?_
      refine lv_lstore (lv' := [(5, .long (lI 0)), (0, .ref g), (1, .int x), (2, .int y), (3, .int z), (4, .int dn)]) hx hb d_M_at_21 hl (by decide) rfl (fun ls hl => ?_)
      refine lv_iconst (v := nI 0) hx hb d_M_at_23 (by decide) ?_
      refine lv_istore (lv' := [(7, .int (nI 0)), (5, .long (lI 0)), (0, .ref g), (1, .int x), (2, .int y), (3, .int z), (4, .int dn)]) hx hb d_M_at_24 hl (by decide) rfl (fun ls hl => ?_)
      have lp_26 : ∀ (n_26 : Nat) (i : Nat) (H : Heap) (locs : List Loc) (ls : Array Slot), (i ≤ d + 1) → (d + 1 - i) < n_26 → va_P D vwC [(g, .inr (2, [.int (nI 0), .int (nI d), .ref mm, .int ik, .ref kf, .ref tb, .int rw, .ref wk, .int ab, .int be, .ref pl, .ref sp, .int a0, .int a1, .int b0, .int b1, .ref po, .ref to, .ref ba, .ref li, .int lm])), (mm, IA cI 16 Fm), (po, LA cJ 4 P5)] H → va_D A [(g, .inr (2, [.int (nI 0), .int (nI d), .ref mm, .int ik, .ref kf, .ref tb, .int rw, .ref wk, .int ab, .int be, .ref pl, .ref sp, .int a0, .int a1, .int b0, .int b1, .ref po, .ref to, .ref ba, .ref li, .int lm])), (mm, IA cI 16 Fm), (po, LA cJ 4 P5)] → va_S A s.heap H locs → lv_has ls 8 [(0, .ref g), (5, .long (lI (frmM Fm P5 d i))), (7, .int (nI i))] → W p l e rm_r_at s m args below meth c H locs 0 0 Q (F0 m 26 ls []) := by
        intro n_26
        induction n_26 with
        | zero => intro i H locs ls hi hn_26; exact absurd hn_26 (Nat.not_lt_zero _)
        | succ n_26 ih_26 =>
          intro i H locs ls hi hn_26 hP hD hS hl
          refine lv_iload hx hb d_M_at_26 (lv_at hl 2 rfl) ?_
          refine lv_aload_n hx hb d_M_at_28 rfl (lv_at hl 0 rfl) ?_
          refine va_get (D := D) (ci := 2) (v := .int (nI d)) (C := R_M) (T := F_M) (N := 21) hx hb hts iw_M hown hK hP 0 rfl rfl 1 (by decide) (hts _ tw_388) (fun _ h9 => h9) rfl d_M_at_29 ?_
          refine xn_gt (tgt := 60) hx hb (by omega) (by omega) d_M_at_32 (by decide) (fun c32_3 => ?_) (fun c32_3 => ?_)
          · skip
            have hlb : lB (frmM Fm P5 d i) := by rw [frmM_eq]; exact lB_of (leB (frmN_B hd3 hF hBB hBB (n := i) (by omega)) (show _ ≤ (4000000000 : Int) by rw [show i = d + 1 from by omega]; rcases (show d = 2 ∨ d = 3 by omega) with rfl | rfl <;> decide)) (by decide)
            refine lv_lload hx hb d_M_at_60 (lv_at hl 1 rfl) ?_
            refine lv_lconst (v := lI 0) hx hb d_M_at_62 (by decide) ?_
            refine xl_le (tgt := 71) hx hb hlb ⟨by decide, by decide⟩ d_M_at_63 d_M_at_64 (by decide) (fun c64_4 => ?_) (fun c64_4 => ?_)
            · skip
              refine lv_lload hx hb d_M_at_71 (lv_at hl 1 rfl) ?_
              refine lv_lconst (v := lI 0) hx hb d_M_at_73 (by decide) ?_
              refine xl_ne (tgt := 82) hx hb hlb ⟨by decide, by decide⟩ d_M_at_74 d_M_at_75 (by decide) (fun c75_5 => ?_) (fun c75_5 => ?_)
              · skip
                refine lv_iconst (v := nI 0) hx hb d_M_at_82 (by decide) ?_
                have hi9 : i = d + 1 := by omega
                subst hi9
                exact hret H locs _ ls (nI 0) P5 d_M_at_83 (by rw [s_at_t hwt, ← frmN_congr (Fm := Fm) (L := P5) (G := P5) (fun k hk => hB k (by omega)) (Nat.le_refl _) (fun k hk => hB k (by omega)), ← frmM_eq]; unfold sgc; split <;> (try split) <;> first | rfl | omega) hP hD hS
              · skip
                refine lv_iconst (v := nI 1) hx hb d_M_at_78 (by decide) ?_
                refine lv_goto (tgt := 83) hx hb d_M_at_79 (by decide) ?_
                have hi9 : i = d + 1 := by omega
                subst hi9
                exact hret H locs _ ls (nI 1) P5 d_M_at_83 (by rw [s_at_t hwt, ← frmN_congr (Fm := Fm) (L := P5) (G := P5) (fun k hk => hB k (by omega)) (Nat.le_refl _) (fun k hk => hB k (by omega)), ← frmM_eq]; unfold sgc; split <;> (try split) <;> first | rfl | omega) hP hD hS
            · skip
              refine lv_iconst (v := nI 2) hx hb d_M_at_67 (by decide) ?_
              refine lv_goto (tgt := 83) hx hb d_M_at_68 (by decide) ?_
              have hi9 : i = d + 1 := by omega
              subst hi9
              exact hret H locs _ ls (nI 2) P5 d_M_at_83 (by rw [s_at_t hwt, ← frmN_congr (Fm := Fm) (L := P5) (G := P5) (fun k hk => hB k (by omega)) (Nat.le_refl _) (fun k hk => hB k (by omega)), ← frmM_eq]; unfold sgc; split <;> (try split) <;> first | rfl | omega) hP hD hS
          · skip
            refine lv_lload hx hb d_M_at_35 (lv_at hl 1 rfl) ?_
            refine lv_aload_n hx hb d_M_at_37 rfl (lv_at hl 0 rfl) ?_
            refine lv_iload hx hb d_M_at_38 (lv_at hl 2 rfl) ?_
            refine xcl (wc := [(g, .inr (2, [.int (nI 0), .int (nI d), .ref mm, .int ik, .ref kf, .ref tb, .int rw, .ref wk, .int ab, .int be, .ref pl, .ref sp, .int a0, .int a1, .int b0, .int b1, .ref po, .ref to, .ref ba, .ref li, .int lm])), (mm, IA cI 16 Fm), (po, LA cJ 4 P5)]) (wr := []) hP hD hS hA [0, 1, 2] [] rfl rfl (by decide) (by decide) (va_runV (As := [.int (nI i)]) (rest := [.long (lI (frmM Fm P5 d i))]) ⟨hx, hb, hml, hown, hts⟩ (r_polarAt l D cJ cI g (nI 0) d ik rw ab be a0 a1 b0 b1 lm mm kf tb wk pl sp po to ba li Fm P5 i (by first | assumption | omega) (by first | assumption | omega) (by first | assumption | omega) H.size) (cwV 1 hts (gV tw_560 tw_562 tws_28 tw_3 tw_563) rfl rfl rfl ⟨rfl, hd_M_polarAt⟩ ⟨Nat.le_of_ble_eq_true rfl, Nat.le_of_ble_eq_true rfl⟩) (xPreV (C := R_M) (T := F_M) (N := 21) (q0 := 0) hN hK (hP.sub (ws' := [(g, .inr (2, [.int (nI 0), .int (nI d), .ref mm, .int ik, .ref kf, .ref tb, .int rw, .ref wk, .int ab, .int be, .ref pl, .ref sp, .int a0, .int a1, .int b0, .int b1, .ref po, .ref to, .ref ba, .ref li, .int lm])), (mm, IA cI 16 Fm), (po, LA cJ 4 P5)]) [0, 1, 2] rfl) (hD.sub (ws' := [(g, .inr (2, [.int (nI 0), .int (nI d), .ref mm, .int ik, .ref kf, .ref tb, .int rw, .ref wk, .int ab, .int be, .ref pl, .ref sp, .int a0, .int a1, .int b0, .int b1, .ref po, .ref to, .ref ba, .ref li, .int lm])), (mm, IA cI 16 Fm), (po, LA cJ 4 P5)]) [0, 1, 2] (by decide) rfl) rfl rfl) rfl rfl hl.1 rfl (lv_room (Nat.le_of_ble_eq_true rfl)) d_M_at_40 ⟨Nat.le_of_ble_eq_true rfl, Nat.le_of_ble_eq_true rfl⟩) (fun r_7 u_8 H locs hw_9 hP hD hS => ?_)
            try dsimp only at hw_9
            have hP : va_P D vwC [(g, .inr (2, [.int (nI 0), .int (nI d), .ref mm, .int ik, .ref kf, .ref tb, .int rw, .ref wk, .int ab, .int be, .ref pl, .ref sp, .int a0, .int a1, .int b0, .int b1, .ref po, .ref to, .ref ba, .ref li, .int lm])), (mm, IA cI 16 Fm), (po, LA cJ 4 P5)] H := hP
            have hD : va_D A [(g, .inr (2, [.int (nI 0), .int (nI d), .ref mm, .int ik, .ref kf, .ref tb, .int rw, .ref wk, .int ab, .int be, .ref pl, .ref sp, .int a0, .int a1, .int b0, .int b1, .ref po, .ref to, .ref ba, .ref li, .int lm])), (mm, IA cI 16 Fm), (po, LA cJ 4 P5)] := hD
            subst hw_9
            refine lv_aload_n hx hb d_M_at_43 rfl (lv_at hl 0 rfl) ?_
            refine va_get (D := D) (ci := 2) (v := .ref po) (C := R_M) (T := F_M) (N := 21) hx hb hts iw_M hown hK hP 0 rfl rfl 16 (by decide) (hts _ tw_403) (fun _ h9 => h9) rfl d_M_at_44 ?_
            refine lv_iload hx hb d_M_at_47 (lv_at hl 2 rfl) ?_
            refine xl_ald hx hb hK hP 2 0 rfl rfl (k := i) (by omega) (by first | decide | omega) d_M_at_49 ?_
            refine xl_mul hx hb d_M_at_50 ?_
            refine xl_add hx hb d_M_at_51 ?_
            refine lv_lstore (lv' := [(5, .long (lI ((frmM Fm P5 d i) + ((rowN Fm P5 i (d + 1)) * (P5 i))))), (0, .ref g), (7, .int (nI i))]) hx hb d_M_at_52 hl (by decide) rfl (fun ls hl => ?_)
            refine lv_iinc (v := nI (i + 1)) (lv' := [(7, .int (nI (i + 1))), (5, .long (lI ((frmM Fm P5 d i) + ((rowN Fm P5 i (d + 1)) * (P5 i))))), (0, .ref g)]) hx hb d_M_at_54 hl (k := 2) rfl (nI_add _ _) (by decide) rfl (fun ls hl => ?_)
            refine lv_goto (tgt := 26) hx hb d_M_at_57 (by decide) ?_
            exact ih_26 (i + 1) H locs ls (by omega) (by omega) hP hD hS (lv_sub hl [2, 1, 0] rfl)
      exact lp_26 ((d + 1 - 0) + 1) 0 H locs ls (Nat.zero_le _) (by omega) hP hD hS (lv_sub hl [2, 1, 0] rfl)
    · skip
      refine xz_ne (tgt := 20) (X := (0 : Nat)) hx hb (nI_toInt (by omega)) d_M_at_14 (by decide) (fun c14_9 => absurd c14_9 (by omega)) (fun c14_9 => ?_)
      refine lv_bipush (v := (-2)) hx hb d_M_at_17 (by decide) ?_
      exact hret H locs _ ls (-2) P5 d_M_at_19 ((s_at_f hwt).symm) hP hD hS
  rw [hH, hlc] at key; exact key

def rm_r_without : Room := { frames := 1, cells := 0, slots := 0, locals := 29 }
set_option maxHeartbeats 4000000 in
set_option maxRecDepth 100000 in
/-- a row without divisor -/
theorem r_without (l : Launch) (D : va_G) (cJ cI : ClassId) (g : Nat) (cd : Int32) (d : Nat) (ik : Int32) (rw : Int32) (ab : Int32) (be : Int32) (a0 : Int32) (a1 : Int32) (b0 : Int32) (b1 : Int32) (lm : Int32) (mm : Nat) (kf : Nat) (tb : Nat) (wk : Nat) (pl : Nat) (sp : Nat) (po : Nat) (to : Nat) (ba : Nat) (li : Nat) (G : Nat → Int) (n : Nat) (i : Nat) (hn : n ≤ 4) (hi : i < n) (hG : ∀ k, k < n → (G k).natAbs < 2 ^ 40) (sz : Nat) : xMl l y_M_without (Cond.code y_M_without b_M_without 8 (some .long) :: tW) rm_r_without [.ref g, .int (nI n), .int (nI i)] D vwC [(cJ, .long), (cI, .int)] sz [(g, .inr (2, [.int cd, .int (nI d), .ref mm, .int ik, .ref kf, .ref tb, .int rw, .ref wk, .int ab, .int be, .ref pl, .ref sp, .int a0, .int a1, .int b0, .int b1, .ref po, .ref to, .ref ba, .ref li, .int lm])), (to, LA cJ 4 G)] (fun (rv : Int64) (_ : Unit) => rv = lI (woN G n i)) (fun (_ : Unit) => [(g, .inr (2, [.int cd, .int (nI d), .ref mm, .int ik, .ref kf, .ref tb, .int rw, .ref wk, .int ab, .int be, .ref pl, .ref sp, .int a0, .int a1, .int b0, .int b1, .ref po, .ref to, .ref ba, .ref li, .int lm])), (to, LA cJ 4 G)]) 0 0 := by
  refine xol (cc := b_M_without) (maxL := 8) (by decide) rfl (Nat.le_of_ble_eq_true rfl) ?_
  intro p e s m args below meth c Q A hx hb hml hts hown hN hA hS hP hK hD hret ls hl
  have hl : lv_has ls 8 [(0, .ref g), (1, .int (nI n)), (2, .int (nI i))] := hl
  obtain ⟨H, hH⟩ : ∃ z, z = s.heap := ⟨_, rfl⟩
  obtain ⟨locs, hlc⟩ : ∃ z : List Loc, z = [] := ⟨_, rfl⟩
  rw [← hH] at hP
  have hS : va_S A s.heap H locs := by rw [hH, hlc]; exact hS
  have key : W p l e rm_r_without s m args below meth c H locs 0 0 Q (F0 m 0 ls []) := by
    refine lv_lconst (v := lI 0) hx hb d_M_without_0 (by decide) ?_
    refine lv_lstore_n (lv' := [(3, .long (lI 0)), (0, .ref g), (1, .int (nI n)), (2, .int (nI i))]) hx hb d_M_without_1 rfl hl (by decide) rfl (fun ls hl => ?_)
    refine lv_lconst (v := lI 0) hx hb d_M_without_2 (by decide) ?_
    refine lv_lstore (lv' := [(5, .long (lI 0)), (3, .long (lI 0)), (0, .ref g), (1, .int (nI n)), (2, .int (nI i))]) hx hb d_M_without_3 hl (by decide) rfl (fun ls hl => ?_)
    refine lv_iconst (v := nI 0) hx hb d_M_without_5 (by decide) ?_
    refine lv_istore (lv' := [(7, .int (nI 0)), (5, .long (lI 0)), (3, .long (lI 0)), (0, .ref g), (1, .int (nI n)), (2, .int (nI i))]) hx hb d_M_without_6 hl (by decide) rfl (fun ls hl => ?_)
    have lp_8 : ∀ (n_8 : Nat) (t : Nat) (sv : Int) (H : Heap) (locs : List Loc) (ls : Array Slot), (t ≤ n) → (sv = sgnZ (leadN G t)) → (-1 ≤ sv ∧ sv ≤ 1) → (n - t) < n_8 → va_P D vwC [(g, .inr (2, [.int cd, .int (nI d), .ref mm, .int ik, .ref kf, .ref tb, .int rw, .ref wk, .int ab, .int be, .ref pl, .ref sp, .int a0, .int a1, .int b0, .int b1, .ref po, .ref to, .ref ba, .ref li, .int lm])), (to, LA cJ 4 G)] H → va_D A [(g, .inr (2, [.int cd, .int (nI d), .ref mm, .int ik, .ref kf, .ref tb, .int rw, .ref wk, .int ab, .int be, .ref pl, .ref sp, .int a0, .int a1, .int b0, .int b1, .ref po, .ref to, .ref ba, .ref li, .int lm])), (to, LA cJ 4 G)] → va_S A s.heap H locs → lv_has ls 8 [(0, .ref g), (1, .int (nI n)), (2, .int (nI i)), (3, .long (lI ((gcdN G t : Nat) : Int))), (5, .long (lI sv)), (7, .int (nI t))] → W p l e rm_r_without s m args below meth c H locs 0 0 Q (F0 m 8 ls []) := by
      intro n_8
      induction n_8 with
      | zero => intro t sv H locs ls ht hs hsv hn_8; exact absurd hn_8 (Nat.not_lt_zero _)
      | succ n_8 ih_8 =>
        intro t sv H locs ls ht hs hsv hn_8 hP hD hS hl
        have hgl : gcdN G t < 2 ^ 40 := gcdN_lt (by decide) (fun k hk => hG k (by omega))
        refine lv_iload hx hb d_M_without_8 (lv_at hl 5 rfl) ?_
        refine lv_iload_n hx hb d_M_without_10 rfl (lv_at hl 1 rfl) ?_
        refine xn_ge (tgt := 81) hx hb (by omega) (by omega) d_M_without_11 (by decide) (fun c11_0 => ?_) (fun c11_0 => ?_)
        · skip
          refine lv_lload_n hx hb d_M_without_81 rfl (lv_at hl 3 rfl) ?_
          refine lv_lconst (v := lI 0) hx hb d_M_without_82 (by decide) ?_
          refine xl_ne (tgt := 93) hx hb (by unfold lB; omega) ⟨by decide, by decide⟩ d_M_without_83 d_M_without_84 (by decide) (fun c84_1 => ?_) (fun c84_1 => ?_)
          · skip
            refine lv_lload hx hb d_M_without_93 (lv_at hl 4 rfl) ?_
            refine lv_aload_n hx hb d_M_without_95 rfl (lv_at hl 0 rfl) ?_
            refine va_get (D := D) (ci := 2) (v := .ref to) (C := R_M) (T := F_M) (N := 21) hx hb hts iw_M hown hK hP 0 rfl rfl 17 (by decide) (hts _ tw_404) (fun _ h9 => h9) rfl d_M_without_96 ?_
            refine lv_iload_n hx hb d_M_without_99 rfl (lv_at hl 2 rfl) ?_
            refine xl_ald hx hb hK hP 1 0 rfl rfl (k := i) (by omega) (by first | decide | omega) d_M_without_100 ?_
            refine xl_mul hx hb d_M_without_101 ?_
            have hgi := hG i hi
            have hmi := mulB (a := sv) (A := 1) (B := 1099511627776) (b := G i) ⟨by omega, by omega⟩ ⟨by omega, by omega⟩
            have hmb : lB (sv * G i) := lB_of hmi (by decide)
            refine lv_lload_n hx hb d_M_without_102 rfl (lv_at hl 3 rfl) ?_
            refine xl_div hx hb hmb (by unfold lB; omega) (by omega) (by intro q; omega) d_M_without_103 ?_
            have ht9 : t = n := by omega
            subst ht9
            exact hret H locs _ ls (lI ((sv * (G i)).tdiv ((gcdN G t : Nat) : Int))) () d_M_without_104 (by unfold woN; rw [if_neg (show ¬ gcdN G t = 0 from by omega), hs, wo_sg (show gcdN G t ≠ 0 from by omega)]) hP hD hS
          · skip
            refine lv_ldc2 (v := lI (-1000000000000000000)) hx hb hown (hts _ tw_467) d_M_without_87 ?_
            refine lv_goto (tgt := 104) hx hb d_M_without_90 (by decide) ?_
            have ht9 : t = n := by omega
            subst ht9
            exact hret H locs _ ls (lI (-1000000000000000000)) () d_M_without_104 (by unfold woN; rw [if_pos (show gcdN G t = 0 from by omega)]; rfl) hP hD hS
        · skip
          refine lv_lload_n hx hb d_M_without_14 rfl (lv_at hl 3 rfl) ?_
          refine lv_aload_n hx hb d_M_without_15 rfl (lv_at hl 0 rfl) ?_
          refine va_get (D := D) (ci := 2) (v := .ref to) (C := R_M) (T := F_M) (N := 21) hx hb hts iw_M hown hK hP 0 rfl rfl 17 (by decide) (hts _ tw_404) (fun _ h9 => h9) rfl d_M_without_16 ?_
          refine lv_iload hx hb d_M_without_19 (lv_at hl 5 rfl) ?_
          refine xl_ald hx hb hK hP 1 0 rfl rfl (k := t) (by omega) (by first | decide | omega) d_M_without_21 ?_
          refine xcl (wc := []) (wr := [(g, .inr (2, [.int cd, .int (nI d), .ref mm, .int ik, .ref kf, .ref tb, .int rw, .ref wk, .int ab, .int be, .ref pl, .ref sp, .int a0, .int a1, .int b0, .int b1, .ref po, .ref to, .ref ba, .ref li, .int lm])), (to, LA cJ 4 G)]) hP hD hS hA [] [0, 1] rfl rfl (by decide) (by decide) (va_runS (As := [.long (lI ((gcdN G t : Nat) : Int)), .long (lI (G t))]) (rest := []) ⟨hx, hb, hml, hown, hts⟩ (r_gcd l D cJ cI ((gcdN G t : Nat) : Int) (G t) (by show gcdN G t < 2 ^ 40; exact hgl) (hG t (by omega)) H.size) (cwS 2 hts (gS tw_534 tw_535 tw_3 tw_536) rfl rfl rfl ⟨rfl, hd_M_divisor⟩ ⟨Nat.le_of_ble_eq_true rfl, Nat.le_of_ble_eq_true rfl⟩) (xPreS hN hK (hP.sub (ws' := []) [] rfl) (hD.sub (ws' := []) [] (by decide) rfl)) rfl rfl hl.1 rfl (lv_room (Nat.le_of_ble_eq_true rfl)) d_M_without_22 ⟨Nat.le_of_ble_eq_true rfl, Nat.le_of_ble_eq_true rfl⟩) (fun r_3 u_4 H locs hw_5 hP hD hS => ?_)
          try dsimp only at hw_5
          have hP : va_P D vwC [(g, .inr (2, [.int cd, .int (nI d), .ref mm, .int ik, .ref kf, .ref tb, .int rw, .ref wk, .int ab, .int be, .ref pl, .ref sp, .int a0, .int a1, .int b0, .int b1, .ref po, .ref to, .ref ba, .ref li, .int lm])), (to, LA cJ 4 G)] H := hP
          have hD : va_D A [(g, .inr (2, [.int cd, .int (nI d), .ref mm, .int ik, .ref kf, .ref tb, .int rw, .ref wk, .int ab, .int be, .ref pl, .ref sp, .int a0, .int a1, .int b0, .int b1, .ref po, .ref to, .ref ba, .ref li, .int lm])), (to, LA cJ 4 G)] := hD
          subst hw_5
          refine lv_lstore_n (lv' := [(3, .long (lI ((Nat.gcd ((gcdN G t : Nat) : Int).natAbs (G t).natAbs : Nat) : Int))), (0, .ref g), (1, .int (nI n)), (2, .int (nI i)), (5, .long (lI sv)), (7, .int (nI t))]) hx hb d_M_without_25 rfl hl (by decide) rfl (fun ls hl => ?_)
          refine lv_lload hx hb d_M_without_26 (lv_at hl 4 rfl) ?_
          refine lv_lconst (v := lI 0) hx hb d_M_without_28 (by decide) ?_
          refine xl_ne (tgt := 71) hx hb (by unfold lB; omega) ⟨by decide, by decide⟩ d_M_without_29 d_M_without_30 (by decide) (fun c30_5 => ?_) (fun c30_5 => ?_)
          · skip
            refine lv_lload hx hb d_M_without_71 (lv_at hl 4 rfl) ?_
            have hld : sv = sgnZ (leadN G (t + 1)) := by rw [hs]; congr 1; exact (if_neg (fun q => c30_5 (by rw [hs]; exact sgnZ_ne.mpr q))).symm
            refine lv_lstore (lv' := [(5, .long (lI sv)), (3, .long (lI ((Nat.gcd ((gcdN G t : Nat) : Int).natAbs (G t).natAbs : Nat) : Int))), (0, .ref g), (1, .int (nI n)), (2, .int (nI i)), (7, .int (nI t))]) hx hb d_M_without_73 hl (by decide) rfl (fun ls hl => ?_)
            refine lv_iinc (v := nI (t + 1)) (lv' := [(7, .int (nI (t + 1))), (5, .long (lI sv)), (3, .long (lI ((Nat.gcd ((gcdN G t : Nat) : Int).natAbs (G t).natAbs : Nat) : Int))), (0, .ref g), (1, .int (nI n)), (2, .int (nI i))]) hx hb d_M_without_75 hl (k := 5) rfl (nI_add _ _) (by decide) rfl (fun ls hl => ?_)
            refine lv_goto (tgt := 8) hx hb d_M_without_78 (by decide) ?_
            exact ih_8 (t + 1) sv H locs ls (by omega) hld (by omega) (by omega) hP hD hS (lv_sub hl [3, 4, 5, 2, 1, 0] rfl)
          · skip
            refine lv_aload_n hx hb d_M_without_33 rfl (lv_at hl 1 rfl) ?_
            refine va_get (D := D) (ci := 2) (v := .ref to) (C := R_M) (T := F_M) (N := 21) hx hb hts iw_M hown hK hP 0 rfl rfl 17 (by decide) (hts _ tw_404) (fun _ h9 => h9) rfl d_M_without_34 ?_
            refine lv_iload hx hb d_M_without_37 (lv_at hl 5 rfl) ?_
            refine xl_ald hx hb hK hP 1 0 rfl rfl (k := t) (by omega) (by first | decide | omega) d_M_without_39 ?_
            refine lv_lconst (v := lI 0) hx hb d_M_without_40 (by decide) ?_
            refine xl_le (tgt := 49) hx hb (by have := hG t (by omega); unfold lB; omega) ⟨by decide, by decide⟩ d_M_without_41 d_M_without_42 (by decide) (fun c42_6 => ?_) (fun c42_6 => ?_)
            · skip
              refine lv_aload_n hx hb d_M_without_49 rfl (lv_at hl 1 rfl) ?_
              refine va_get (D := D) (ci := 2) (v := .ref to) (C := R_M) (T := F_M) (N := 21) hx hb hts iw_M hown hK hP 0 rfl rfl 17 (by decide) (hts _ tw_404) (fun _ h9 => h9) rfl d_M_without_50 ?_
              refine lv_iload hx hb d_M_without_53 (lv_at hl 5 rfl) ?_
              refine xl_ald hx hb hK hP 1 0 rfl rfl (k := t) (by omega) (by first | decide | omega) d_M_without_55 ?_
              refine lv_lconst (v := lI 0) hx hb d_M_without_56 (by decide) ?_
              refine xl_ge (tgt := 67) hx hb (by have := hG t (by omega); unfold lB; omega) ⟨by decide, by decide⟩ d_M_without_57 d_M_without_58 (by decide) (fun c58_7 => ?_) (fun c58_7 => ?_)
              · skip
                refine lv_lconst (v := lI 0) hx hb d_M_without_67 (by decide) ?_
                refine lv_goto (tgt := 73) hx hb d_M_without_68 (by decide) ?_
                have hld : (0 : Int) = sgnZ (leadN G (t + 1)) := by rw [show leadN G (t + 1) = G t from if_pos (sgnZ_ne.mp (by rw [← hs]; exact c30_5))]; exact (sgnZ_0 (by omega)).symm
                refine lv_lstore (lv' := [(5, .long (lI 0)), (3, .long (lI ((Nat.gcd ((gcdN G t : Nat) : Int).natAbs (G t).natAbs : Nat) : Int))), (0, .ref g), (1, .int (nI n)), (2, .int (nI i)), (7, .int (nI t))]) hx hb d_M_without_73 hl (by decide) rfl (fun ls hl => ?_)
                refine lv_iinc (v := nI (t + 1)) (lv' := [(7, .int (nI (t + 1))), (5, .long (lI 0)), (3, .long (lI ((Nat.gcd ((gcdN G t : Nat) : Int).natAbs (G t).natAbs : Nat) : Int))), (0, .ref g), (1, .int (nI n)), (2, .int (nI i))]) hx hb d_M_without_75 hl (k := 5) rfl (nI_add _ _) (by decide) rfl (fun ls hl => ?_)
                refine lv_goto (tgt := 8) hx hb d_M_without_78 (by decide) ?_
                exact ih_8 (t + 1) 0 H locs ls (by omega) hld (by omega) (by omega) hP hD hS (lv_sub hl [3, 4, 5, 2, 1, 0] rfl)
              · skip
                refine lv_ldc2 (v := lI (-1)) hx hb hown (hts _ tw_572) d_M_without_61 ?_
                refine lv_goto (tgt := 73) hx hb d_M_without_64 (by decide) ?_
                have hld : ((-1) : Int) = sgnZ (leadN G (t + 1)) := by rw [show leadN G (t + 1) = G t from if_pos (sgnZ_ne.mp (by rw [← hs]; exact c30_5))]; exact (sgnZ_m (by omega)).symm
                refine lv_lstore (lv' := [(5, .long (lI (-1))), (3, .long (lI ((Nat.gcd ((gcdN G t : Nat) : Int).natAbs (G t).natAbs : Nat) : Int))), (0, .ref g), (1, .int (nI n)), (2, .int (nI i)), (7, .int (nI t))]) hx hb d_M_without_73 hl (by decide) rfl (fun ls hl => ?_)
                refine lv_iinc (v := nI (t + 1)) (lv' := [(7, .int (nI (t + 1))), (5, .long (lI (-1))), (3, .long (lI ((Nat.gcd ((gcdN G t : Nat) : Int).natAbs (G t).natAbs : Nat) : Int))), (0, .ref g), (1, .int (nI n)), (2, .int (nI i))]) hx hb d_M_without_75 hl (k := 5) rfl (nI_add _ _) (by decide) rfl (fun ls hl => ?_)
                refine lv_goto (tgt := 8) hx hb d_M_without_78 (by decide) ?_
                exact ih_8 (t + 1) (-1) H locs ls (by omega) hld (by omega) (by omega) hP hD hS (lv_sub hl [3, 4, 5, 2, 1, 0] rfl)
            · skip
              refine lv_lconst (v := lI 1) hx hb d_M_without_45 (by decide) ?_
              refine lv_goto (tgt := 73) hx hb d_M_without_46 (by decide) ?_
              have hld : (1 : Int) = sgnZ (leadN G (t + 1)) := by rw [show leadN G (t + 1) = G t from if_pos (sgnZ_ne.mp (by rw [← hs]; exact c30_5))]; exact (sgnZ_p (by omega)).symm
              refine lv_lstore (lv' := [(5, .long (lI 1)), (3, .long (lI ((Nat.gcd ((gcdN G t : Nat) : Int).natAbs (G t).natAbs : Nat) : Int))), (0, .ref g), (1, .int (nI n)), (2, .int (nI i)), (7, .int (nI t))]) hx hb d_M_without_73 hl (by decide) rfl (fun ls hl => ?_)
              refine lv_iinc (v := nI (t + 1)) (lv' := [(7, .int (nI (t + 1))), (5, .long (lI 1)), (3, .long (lI ((Nat.gcd ((gcdN G t : Nat) : Int).natAbs (G t).natAbs : Nat) : Int))), (0, .ref g), (1, .int (nI n)), (2, .int (nI i))]) hx hb d_M_without_75 hl (k := 5) rfl (nI_add _ _) (by decide) rfl (fun ls hl => ?_)
              refine lv_goto (tgt := 8) hx hb d_M_without_78 (by decide) ?_
              exact ih_8 (t + 1) 1 H locs ls (by omega) hld (by omega) (by omega) hP hD hS (lv_sub hl [3, 4, 5, 2, 1, 0] rfl)
    exact lp_8 ((n - 0) + 1) 0 0 H locs ls (Nat.zero_le _) rfl (⟨by decide, by decide⟩) (by omega) hP hD hS (lv_sub hl [3, 4, 5, 2, 1, 0] rfl)
  rw [hH, hlc] at key; exact key

def rm_r_polar : Room := { frames := 2, cells := 0, slots := 0, locals := 56 }
set_option maxHeartbeats 4000000 in
set_option maxRecDepth 100000 in
/-- polar -/
theorem r_polar (l : Launch) (D : va_G) (cJ cI : ClassId) (g : Nat) (cd : Int32) (d : Nat) (ik : Int32) (rw : Int32) (ab : Int32) (be : Int32) (a0 : Int32) (a1 : Int32) (b0 : Int32) (b1 : Int32) (lm : Int32) (mm : Nat) (kf : Nat) (tb : Nat) (wk : Nat) (pl : Nat) (sp : Nat) (po : Nat) (to : Nat) (ba : Nat) (li : Nat) (Fm : Nat → Int) (P0 : Nat → Int) (Q0 : Nat → Int) (x : Int32) (y : Int32) (z : Int32) (dn : Int32) (vi : Int32) (hd2 : 2 ≤ d) (hd3 : d ≤ 3) (hF : ∀ k, k < 16 → inB (Fm k) 20) (sz : Nat) : xMl l y_M_polar (Cond.code y_M_polar b_M_polar 7 (some .long) :: tW) rm_r_polar [.ref g, .int x, .int y, .int z, .int dn, .int vi] D vwC [(cJ, .long), (cI, .int)] sz [(g, .inr (2, [.int cd, .int (nI d), .ref mm, .int ik, .ref kf, .ref tb, .int rw, .ref wk, .int ab, .int be, .ref pl, .ref sp, .int a0, .int a1, .int b0, .int b1, .ref po, .ref to, .ref ba, .ref li, .int lm])), (mm, IA cI 16 Fm), (po, LA cJ 4 P0), (to, LA cJ 4 Q0)] (fun (rv : Int64) (uo : (Nat → Int) × (Nat → Int)) => rv = lI (s_polar Fm d x.toInt y.toInt z.toInt dn.toInt vi.toInt)) (fun (uo : (Nat → Int) × (Nat → Int)) => [(g, .inr (2, [.int (nI 0), .int (nI d), .ref mm, .int ik, .ref kf, .ref tb, .int rw, .ref wk, .int ab, .int be, .ref pl, .ref sp, .int a0, .int a1, .int b0, .int b1, .ref po, .ref to, .ref ba, .ref li, .int lm])), (mm, IA cI 16 Fm), (po, LA cJ 4 uo.1), (to, LA cJ 4 uo.2)]) 0 0 := by
  refine xol (cc := b_M_polar) (maxL := 7) (by decide) rfl (Nat.le_of_ble_eq_true rfl) ?_
  intro p e s m args below meth c Q A hx hb hml hts hown hN hA hS hP hK hD hret ls hl
  have hl : lv_has ls 7 [(0, .ref g), (1, .int x), (2, .int y), (3, .int z), (4, .int dn), (5, .int vi)] := hl
  obtain ⟨H, hH⟩ : ∃ z, z = s.heap := ⟨_, rfl⟩
  obtain ⟨locs, hlc⟩ : ∃ z : List Loc, z = [] := ⟨_, rfl⟩
  rw [← hH] at hP
  have hS : va_S A s.heap H locs := by rw [hH, hlc]; exact hS
  have key : W p l e rm_r_polar s m args below meth c H locs 0 0 Q (F0 m 0 ls []) := by
    refine lv_aload_n hx hb d_M_polar_0 rfl (lv_at hl 0 rfl) ?_
    refine lv_iconst (v := nI 0) hx hb d_M_polar_1 (by decide) ?_
    refine va_put (D := D) (ci := 2) (v := .int (nI 0)) (ty := .int) (C := R_M) (T := F_M) (N := 21) hx hb hts iw_M ft_M ft_M_ok n_M hown hK hP hD hS 0 rfl rfl 0 (by decide) (hts _ tw_387) (fun _ h9 => h9) rfl (by decide +kernel) rfl rfl (Nat.le_of_ble_eq_true rfl) d_M_polar_2 (fun H locs hP hD hS => ?_)
    have hP : va_P D vwC [(g, .inr (2, [.int (nI 0), .int (nI d), .ref mm, .int ik, .ref kf, .ref tb, .int rw, .ref wk, .int ab, .int be, .ref pl, .ref sp, .int a0, .int a1, .int b0, .int b1, .ref po, .ref to, .ref ba, .ref li, .int lm])), (mm, IA cI 16 Fm), (po, LA cJ 4 P0), (to, LA cJ 4 Q0)] H := hP
    have hD : va_D A [(g, .inr (2, [.int (nI 0), .int (nI d), .ref mm, .int ik, .ref kf, .ref tb, .int rw, .ref wk, .int ab, .int be, .ref pl, .ref sp, .int a0, .int a1, .int b0, .int b1, .ref po, .ref to, .ref ba, .ref li, .int lm])), (mm, IA cI 16 Fm), (po, LA cJ 4 P0), (to, LA cJ 4 Q0)] := hD
    refine lv_iload hx hb d_M_polar_5 (lv_at hl 5 rfl) ?_
    refine lv_i2l (v := lI vi.toInt) hx hb d_M_polar_7 rfl ?_
    refine lv_iconst (v := nI 0) hx hb d_M_polar_8 (by decide) ?_
    refine lv_aload_n hx hb d_M_polar_9 rfl (lv_at hl 0 rfl) ?_
    refine va_get (D := D) (ci := 2) (v := .int (nI d)) (C := R_M) (T := F_M) (N := 21) hx hb hts iw_M hown hK hP 0 rfl rfl 1 (by decide) (hts _ tw_388) (fun _ h9 => h9) rfl d_M_polar_10 ?_
    refine xci (wc := []) (wr := [(g, .inr (2, [.int (nI 0), .int (nI d), .ref mm, .int ik, .ref kf, .ref tb, .int rw, .ref wk, .int ab, .int be, .ref pl, .ref sp, .int a0, .int a1, .int b0, .int b1, .ref po, .ref to, .ref ba, .ref li, .int lm])), (mm, IA cI 16 Fm), (po, LA cJ 4 P0), (to, LA cJ 4 Q0)]) hP hD hS hA [] [0, 1, 2, 3] rfl rfl (by decide) (by decide) (va_runS (As := [.long (lI vi.toInt), .int (nI 0), .int (nI d)]) (rest := []) ⟨hx, hb, hml, hown, hts⟩ (r_in l D cJ cI vi.toInt (nI 0) (nI d) (lB_i _) H.size) (cwS 3 hts (gS tw_464 tw_465 tw_3 tw_466) rfl rfl rfl ⟨rfl, hd_M_in⟩ ⟨Nat.le_of_ble_eq_true rfl, Nat.le_of_ble_eq_true rfl⟩) (xPreS hN hK (hP.sub (ws' := []) [] rfl) (hD.sub (ws' := []) [] (by decide) rfl)) rfl rfl hl.1 rfl (lv_room (Nat.le_of_ble_eq_true rfl)) d_M_polar_13 ⟨Nat.le_of_ble_eq_true rfl, Nat.le_of_ble_eq_true rfl⟩) (fun r_1 u_2 H locs hwi hP hD hS => ?_)
    try dsimp only at hwi
    have hP : va_P D vwC [(g, .inr (2, [.int (nI 0), .int (nI d), .ref mm, .int ik, .ref kf, .ref tb, .int rw, .ref wk, .int ab, .int be, .ref pl, .ref sp, .int a0, .int a1, .int b0, .int b1, .ref po, .ref to, .ref ba, .ref li, .int lm])), (mm, IA cI 16 Fm), (po, LA cJ 4 P0), (to, LA cJ 4 Q0)] H := hP
    have hD : va_D A [(g, .inr (2, [.int (nI 0), .int (nI d), .ref mm, .int ik, .ref kf, .ref tb, .int rw, .ref wk, .int ab, .int be, .ref pl, .ref sp, .int a0, .int a1, .int b0, .int b1, .ref po, .ref to, .ref ba, .ref li, .int lm])), (mm, IA cI 16 Fm), (po, LA cJ 4 P0), (to, LA cJ 4 Q0)] := hD
    rcases hwi with ⟨rfl, hwi⟩ | ⟨rfl, hwi⟩
    · skip
      refine xz_eq (tgt := 31) (X := (1 : Nat)) hx hb (nI_toInt (by omega)) d_M_polar_16 (by decide) (fun c16_2 => absurd c16_2 (by omega)) (fun c16_2 => ?_)
      refine lv_aload_n hx hb d_M_polar_19 rfl (lv_at hl 0 rfl) ?_
      refine lv_iload_n hx hb d_M_polar_20 rfl (lv_at hl 1 rfl) ?_
      refine lv_iload_n hx hb d_M_polar_21 rfl (lv_at hl 2 rfl) ?_
      refine lv_iload_n hx hb d_M_polar_22 rfl (lv_at hl 3 rfl) ?_
      refine lv_iload hx hb d_M_polar_23 (lv_at hl 4 rfl) ?_
      refine xci (wc := [(g, .inr (2, [.int (nI 0), .int (nI d), .ref mm, .int ik, .ref kf, .ref tb, .int rw, .ref wk, .int ab, .int be, .ref pl, .ref sp, .int a0, .int a1, .int b0, .int b1, .ref po, .ref to, .ref ba, .ref li, .int lm])), (po, LA cJ 4 P0)]) (wr := [(mm, IA cI 16 Fm), (to, LA cJ 4 Q0)]) hP hD hS hA [0, 2] [1, 3] rfl rfl (by decide) (by decide) (va_runV (As := [.int x, .int y, .int z, .int dn]) (rest := []) ⟨hx, hb, hml, hown, hts⟩ (r_isPoint l D cJ cI g (nI 0) d ik rw ab be a0 a1 b0 b1 lm mm kf tb wk pl sp po to ba li P0 x y z dn (by first | assumption | omega) (by first | assumption | omega) H.size) (cwV 4 hts (gV tw_556 tw_558 tws_27 tw_3 tw_559) rfl rfl rfl ⟨rfl, hd_M_isPoint⟩ ⟨Nat.le_of_ble_eq_true rfl, Nat.le_of_ble_eq_true rfl⟩) (xPreV (C := R_M) (T := F_M) (N := 21) (q0 := 0) hN hK (hP.sub (ws' := [(g, .inr (2, [.int (nI 0), .int (nI d), .ref mm, .int ik, .ref kf, .ref tb, .int rw, .ref wk, .int ab, .int be, .ref pl, .ref sp, .int a0, .int a1, .int b0, .int b1, .ref po, .ref to, .ref ba, .ref li, .int lm])), (po, LA cJ 4 P0)]) [0, 2] rfl) (hD.sub (ws' := [(g, .inr (2, [.int (nI 0), .int (nI d), .ref mm, .int ik, .ref kf, .ref tb, .int rw, .ref wk, .int ab, .int be, .ref pl, .ref sp, .int a0, .int a1, .int b0, .int b1, .ref po, .ref to, .ref ba, .ref li, .int lm])), (po, LA cJ 4 P0)]) [0, 2] (by decide) rfl) rfl rfl) rfl rfl hl.1 rfl (lv_room (Nat.le_of_ble_eq_true rfl)) d_M_polar_25 ⟨Nat.le_of_ble_eq_true rfl, Nat.le_of_ble_eq_true rfl⟩) (fun r_4 u_5 H locs hwt hP hD hS => ?_)
      obtain ⟨P5, rfl⟩ : ∃ z, z = u_5 := ⟨_, rfl⟩
      try dsimp only at hwt
      have hP : va_P D vwC [(g, .inr (2, [.int (nI 0), .int (nI d), .ref mm, .int ik, .ref kf, .ref tb, .int rw, .ref wk, .int ab, .int be, .ref pl, .ref sp, .int a0, .int a1, .int b0, .int b1, .ref po, .ref to, .ref ba, .ref li, .int lm])), (mm, IA cI 16 Fm), (po, LA cJ 4 P5), (to, LA cJ 4 Q0)] H := hP.sub [2, 0, 3, 1] rfl
      have hD : va_D A [(g, .inr (2, [.int (nI 0), .int (nI d), .ref mm, .int ik, .ref kf, .ref tb, .int rw, .ref wk, .int ab, .int be, .ref pl, .ref sp, .int a0, .int a1, .int b0, .int b1, .ref po, .ref to, .ref ba, .ref li, .int lm])), (mm, IA cI 16 Fm), (po, LA cJ 4 P5), (to, LA cJ 4 Q0)] := hD.sub [2, 0, 3, 1] (by decide) rfl
      obtain ⟨hwt, hwtp⟩ := hwt
      rcases hwt with ⟨rfl, hwt⟩ | ⟨rfl, hwt⟩
      · skip
        refine xz_ne (tgt := 35) (X := (1 : Nat)) hx hb (nI_toInt (by omega)) d_M_polar_28 (by decide) (fun c28_5 => ?_) (fun c28_5 => absurd c28_5 (by omega))
        have e00 : (nI 0).toInt = 0 := rfl
        have edd : (nI d).toInt = (d : Int) := nI_toInt (by omega)
        obtain ⟨i, hi, rfl⟩ := nI_range (v := vi) (d := d) (by omega)
        have eii : (nI i).toInt = (i : Int) := nI_toInt (by omega)
        have hB := hwtp
        have hBB := pt_B hwt hB
        refine lv_iconst (v := nI 0) hx hb d_M_polar_35 (by decide) ?_
        refine lv_istore (lv' := [(6, .int (nI 0)), (0, .ref g), (1, .int x), (2, .int y), (3, .int z), (4, .int dn), (5, .int (nI i))]) hx hb d_M_polar_36 hl (by decide) rfl (fun ls hl => ?_)
        have lp_38 : ∀ (n_38 : Nat) (j : Nat) (E3 : Nat → Int) (H : Heap) (locs : List Loc) (ls : Array Slot), (j ≤ d + 1) → (∀ k, k < j → E3 k = rowN Fm P5 k (d + 1)) → (d + 1 - j) < n_38 → va_P D vwC [(g, .inr (2, [.int (nI 0), .int (nI d), .ref mm, .int ik, .ref kf, .ref tb, .int rw, .ref wk, .int ab, .int be, .ref pl, .ref sp, .int a0, .int a1, .int b0, .int b1, .ref po, .ref to, .ref ba, .ref li, .int lm])), (mm, IA cI 16 Fm), (po, LA cJ 4 P5), (to, LA cJ 4 E3)] H → va_D A [(g, .inr (2, [.int (nI 0), .int (nI d), .ref mm, .int ik, .ref kf, .ref tb, .int rw, .ref wk, .int ab, .int be, .ref pl, .ref sp, .int a0, .int a1, .int b0, .int b1, .ref po, .ref to, .ref ba, .ref li, .int lm])), (mm, IA cI 16 Fm), (po, LA cJ 4 P5), (to, LA cJ 4 E3)] → va_S A s.heap H locs → lv_has ls 7 [(0, .ref g), (5, .int (nI i)), (6, .int (nI j))] → W p l e rm_r_polar s m args below meth c H locs 0 0 Q (F0 m 38 ls []) := by
          intro n_38
          induction n_38 with
          | zero => intro j E3 H locs ls hj h3 hn_38; exact absurd hn_38 (Nat.not_lt_zero _)
          | succ n_38 ih_38 =>
            intro j E3 H locs ls hj h3 hn_38 hP hD hS hl
            refine lv_iload hx hb d_M_polar_38 (lv_at hl 2 rfl) ?_
            refine lv_aload_n hx hb d_M_polar_40 rfl (lv_at hl 0 rfl) ?_
            refine va_get (D := D) (ci := 2) (v := .int (nI d)) (C := R_M) (T := F_M) (N := 21) hx hb hts iw_M hown hK hP 0 rfl rfl 1 (by decide) (hts _ tw_388) (fun _ h9 => h9) rfl d_M_polar_41 ?_
            refine xn_gt (tgt := 66) hx hb (by omega) (by omega) d_M_polar_44 (by decide) (fun c44_6 => ?_) (fun c44_6 => ?_)
            · skip
              refine lv_aload_n hx hb d_M_polar_66 rfl (lv_at hl 0 rfl) ?_
              refine lv_aload_n hx hb d_M_polar_67 rfl (lv_at hl 0 rfl) ?_
              refine va_get (D := D) (ci := 2) (v := .int (nI d)) (C := R_M) (T := F_M) (N := 21) hx hb hts iw_M hown hK hP 0 rfl rfl 1 (by decide) (hts _ tw_388) (fun _ h9 => h9) rfl d_M_polar_68 ?_
              refine lv_iconst (v := nI 1) hx hb d_M_polar_71 (by decide) ?_
              refine xn_add hx hb d_M_polar_72 ?_
              refine lv_iload hx hb d_M_polar_73 (lv_at hl 1 rfl) ?_
              refine xcl (wc := [(g, .inr (2, [.int (nI 0), .int (nI d), .ref mm, .int ik, .ref kf, .ref tb, .int rw, .ref wk, .int ab, .int be, .ref pl, .ref sp, .int a0, .int a1, .int b0, .int b1, .ref po, .ref to, .ref ba, .ref li, .int lm])), (to, LA cJ 4 E3)]) (wr := [(mm, IA cI 16 Fm), (po, LA cJ 4 P5)]) hP hD hS hA [0, 3] [1, 2] rfl rfl (by decide) (by decide) (va_runV (As := [.int (nI (d + 1)), .int (nI i)]) (rest := []) ⟨hx, hb, hml, hown, hts⟩ (r_without l D cJ cI g (nI 0) d ik rw ab be a0 a1 b0 b1 lm mm kf tb wk pl sp po to ba li E3 (d + 1) i (by first | assumption | omega) (by first | assumption | omega) (fun k hk => by rw [h3 k (by omega)]; exact nB_of (leB (rowN_B (show k ≤ 3 by omega) hF hBB (n := d + 1) (by omega)) (show _ ≤ (100000 : Int) by omega)) (by decide)) H.size) (cwV 2 hts (gV tw_568 tw_570 tws_29 tw_3 tw_571) rfl rfl rfl ⟨rfl, hd_M_without⟩ ⟨Nat.le_of_ble_eq_true rfl, Nat.le_of_ble_eq_true rfl⟩) (xPreV (C := R_M) (T := F_M) (N := 21) (q0 := 0) hN hK (hP.sub (ws' := [(g, .inr (2, [.int (nI 0), .int (nI d), .ref mm, .int ik, .ref kf, .ref tb, .int rw, .ref wk, .int ab, .int be, .ref pl, .ref sp, .int a0, .int a1, .int b0, .int b1, .ref po, .ref to, .ref ba, .ref li, .int lm])), (to, LA cJ 4 E3)]) [0, 3] rfl) (hD.sub (ws' := [(g, .inr (2, [.int (nI 0), .int (nI d), .ref mm, .int ik, .ref kf, .ref tb, .int rw, .ref wk, .int ab, .int be, .ref pl, .ref sp, .int a0, .int a1, .int b0, .int b1, .ref po, .ref to, .ref ba, .ref li, .int lm])), (to, LA cJ 4 E3)]) [0, 3] (by decide) rfl) rfl rfl) rfl rfl hl.1 rfl (lv_room (Nat.le_of_ble_eq_true rfl)) d_M_polar_75 ⟨Nat.le_of_ble_eq_true rfl, Nat.le_of_ble_eq_true rfl⟩) (fun r_8 u_9 H locs hw_10 hP hD hS => ?_)
              try dsimp only at hw_10
              have hP : va_P D vwC [(g, .inr (2, [.int (nI 0), .int (nI d), .ref mm, .int ik, .ref kf, .ref tb, .int rw, .ref wk, .int ab, .int be, .ref pl, .ref sp, .int a0, .int a1, .int b0, .int b1, .ref po, .ref to, .ref ba, .ref li, .int lm])), (mm, IA cI 16 Fm), (po, LA cJ 4 P5), (to, LA cJ 4 E3)] H := hP.sub [2, 0, 1, 3] rfl
              have hD : va_D A [(g, .inr (2, [.int (nI 0), .int (nI d), .ref mm, .int ik, .ref kf, .ref tb, .int rw, .ref wk, .int ab, .int be, .ref pl, .ref sp, .int a0, .int a1, .int b0, .int b1, .ref po, .ref to, .ref ba, .ref li, .int lm])), (mm, IA cI 16 Fm), (po, LA cJ 4 P5), (to, LA cJ 4 E3)] := hD.sub [2, 0, 1, 3] (by decide) rfl
              subst hw_10
              exact hret H locs _ ls (lI (woN E3 (d + 1) i)) (P5, E3) d_M_polar_78 (by first | exact (by rw [s_polar_t (show s_polarP d x.toInt y.toInt z.toInt dn.toInt (nI i).toInt from ⟨by omega, hwt⟩), eii]; exact congrArg lI (woN_congr (show i < d + 1 by omega) (fun k hk => (h3 k (by omega)).trans (rowN_congr (fun q hq => hB q (by omega)))))) | (dsimp only; exact (by rw [s_polar_t (show s_polarP d x.toInt y.toInt z.toInt dn.toInt (nI i).toInt from ⟨by omega, hwt⟩), eii]; exact congrArg lI (woN_congr (show i < d + 1 by omega) (fun k hk => (h3 k (by omega)).trans (rowN_congr (fun q hq => hB q (by omega)))))))) hP hD hS
            · skip
              refine lv_aload_n hx hb d_M_polar_47 rfl (lv_at hl 0 rfl) ?_
              refine va_get (D := D) (ci := 2) (v := .ref to) (C := R_M) (T := F_M) (N := 21) hx hb hts iw_M hown hK hP 0 rfl rfl 17 (by decide) (hts _ tw_404) (fun _ h9 => h9) rfl d_M_polar_48 ?_
              refine lv_iload hx hb d_M_polar_51 (lv_at hl 2 rfl) ?_
              refine lv_aload_n hx hb d_M_polar_53 rfl (lv_at hl 0 rfl) ?_
              refine lv_iload hx hb d_M_polar_54 (lv_at hl 2 rfl) ?_
              refine xcl (wc := [(g, .inr (2, [.int (nI 0), .int (nI d), .ref mm, .int ik, .ref kf, .ref tb, .int rw, .ref wk, .int ab, .int be, .ref pl, .ref sp, .int a0, .int a1, .int b0, .int b1, .ref po, .ref to, .ref ba, .ref li, .int lm])), (mm, IA cI 16 Fm), (po, LA cJ 4 P5)]) (wr := [(to, LA cJ 4 E3)]) hP hD hS hA [0, 1, 2] [3] rfl rfl (by decide) (by decide) (va_runV (As := [.int (nI j)]) (rest := [.int (nI j), .ref to]) ⟨hx, hb, hml, hown, hts⟩ (r_polarAt l D cJ cI g (nI 0) d ik rw ab be a0 a1 b0 b1 lm mm kf tb wk pl sp po to ba li Fm P5 j (by first | assumption | omega) (by first | assumption | omega) (by first | assumption | omega) H.size) (cwV 1 hts (gV tw_560 tw_562 tws_28 tw_3 tw_563) rfl rfl rfl ⟨rfl, hd_M_polarAt⟩ ⟨Nat.le_of_ble_eq_true rfl, Nat.le_of_ble_eq_true rfl⟩) (xPreV (C := R_M) (T := F_M) (N := 21) (q0 := 0) hN hK (hP.sub (ws' := [(g, .inr (2, [.int (nI 0), .int (nI d), .ref mm, .int ik, .ref kf, .ref tb, .int rw, .ref wk, .int ab, .int be, .ref pl, .ref sp, .int a0, .int a1, .int b0, .int b1, .ref po, .ref to, .ref ba, .ref li, .int lm])), (mm, IA cI 16 Fm), (po, LA cJ 4 P5)]) [0, 1, 2] rfl) (hD.sub (ws' := [(g, .inr (2, [.int (nI 0), .int (nI d), .ref mm, .int ik, .ref kf, .ref tb, .int rw, .ref wk, .int ab, .int be, .ref pl, .ref sp, .int a0, .int a1, .int b0, .int b1, .ref po, .ref to, .ref ba, .ref li, .int lm])), (mm, IA cI 16 Fm), (po, LA cJ 4 P5)]) [0, 1, 2] (by decide) rfl) rfl rfl) rfl rfl hl.1 rfl (lv_room (Nat.le_of_ble_eq_true rfl)) d_M_polar_56 ⟨Nat.le_of_ble_eq_true rfl, Nat.le_of_ble_eq_true rfl⟩) (fun r_11 u_12 H locs hw_13 hP hD hS => ?_)
              try dsimp only at hw_13
              have hP : va_P D vwC [(g, .inr (2, [.int (nI 0), .int (nI d), .ref mm, .int ik, .ref kf, .ref tb, .int rw, .ref wk, .int ab, .int be, .ref pl, .ref sp, .int a0, .int a1, .int b0, .int b1, .ref po, .ref to, .ref ba, .ref li, .int lm])), (mm, IA cI 16 Fm), (po, LA cJ 4 P5), (to, LA cJ 4 E3)] H := hP.sub [1, 2, 3, 0] rfl
              have hD : va_D A [(g, .inr (2, [.int (nI 0), .int (nI d), .ref mm, .int ik, .ref kf, .ref tb, .int rw, .ref wk, .int ab, .int be, .ref pl, .ref sp, .int a0, .int a1, .int b0, .int b1, .ref po, .ref to, .ref ba, .ref li, .int lm])), (mm, IA cI 16 Fm), (po, LA cJ 4 P5), (to, LA cJ 4 E3)] := hD.sub [1, 2, 3, 0] (by decide) rfl
              subst hw_13
              refine xl_ast hx hb hK hP hD hS 3 0 rfl rfl (k := j) (by omega) (by first | decide | omega) d_M_polar_59 (fun H locs hP hD hS => ?_)
              have hP : va_P D vwC [(g, .inr (2, [.int (nI 0), .int (nI d), .ref mm, .int ik, .ref kf, .ref tb, .int rw, .ref wk, .int ab, .int be, .ref pl, .ref sp, .int a0, .int a1, .int b0, .int b1, .ref po, .ref to, .ref ba, .ref li, .int lm])), (mm, IA cI 16 Fm), (po, LA cJ 4 P5), (to, LA cJ 4 (upZ E3 j (rowN Fm P5 j (d + 1))))] H := hP
              have hD : va_D A [(g, .inr (2, [.int (nI 0), .int (nI d), .ref mm, .int ik, .ref kf, .ref tb, .int rw, .ref wk, .int ab, .int be, .ref pl, .ref sp, .int a0, .int a1, .int b0, .int b1, .ref po, .ref to, .ref ba, .ref li, .int lm])), (mm, IA cI 16 Fm), (po, LA cJ 4 P5), (to, LA cJ 4 (upZ E3 j (rowN Fm P5 j (d + 1))))] := hD
              refine lv_iinc (v := nI (j + 1)) (lv' := [(6, .int (nI (j + 1))), (0, .ref g), (5, .int (nI i))]) hx hb d_M_polar_60 hl (k := 2) rfl (nI_add _ _) (by decide) rfl (fun ls hl => ?_)
              refine lv_goto (tgt := 38) hx hb d_M_polar_63 (by decide) ?_
              exact ih_38 (j + 1) (upZ E3 j (rowN Fm P5 j (d + 1))) H locs ls (by omega) (fun k hk => by by_cases q : k = j; rw [q, upZ_at]; rw [upZ_ne (k := j) (j := k) _ _ q]; exact h3 k (by omega)) (by omega) hP hD hS (lv_sub hl [1, 2, 0] rfl)
        exact lp_38 ((d + 1 - 0) + 1) 0 Q0 H locs ls (Nat.zero_le _) (fun k h => absurd h (Nat.not_lt_zero _)) (by omega) hP hD hS (lv_sub hl [1, 6, 0] rfl)
      · skip
        refine xz_ne (tgt := 35) (X := (0 : Nat)) hx hb (nI_toInt (by omega)) d_M_polar_28 (by decide) (fun c28_13 => absurd c28_13 (by omega)) (fun c28_13 => ?_)
        refine lv_ldc2 (v := lI (-1000000000000000000)) hx hb hown (hts _ tw_467) d_M_polar_31 ?_
        exact hret H locs _ ls (lI (-1000000000000000000)) (P5, Q0) d_M_polar_34 (by first | exact (by have e00 : (nI 0).toInt = 0 := rfl; have edd : (nI d).toInt = (d : Int) := nI_toInt (by omega); rw [s_polar_f (show ¬ s_polarP d x.toInt y.toInt z.toInt dn.toInt vi.toInt from fun q => by first | exact absurd q.1 (by omega) | exact hwt q.2)]; rfl) | (dsimp only; exact (by have e00 : (nI 0).toInt = 0 := rfl; have edd : (nI d).toInt = (d : Int) := nI_toInt (by omega); rw [s_polar_f (show ¬ s_polarP d x.toInt y.toInt z.toInt dn.toInt vi.toInt from fun q => by first | exact absurd q.1 (by omega) | exact hwt q.2)]; rfl))) hP hD hS
    · skip
      refine xz_eq (tgt := 31) (X := (0 : Nat)) hx hb (nI_toInt (by omega)) d_M_polar_16 (by decide) (fun c16_14 => ?_) (fun c16_14 => absurd c16_14 (by omega))
      refine lv_ldc2 (v := lI (-1000000000000000000)) hx hb hown (hts _ tw_467) d_M_polar_31 ?_
      exact hret H locs _ ls (lI (-1000000000000000000)) (P0, Q0) d_M_polar_34 (by first | exact (by have e00 : (nI 0).toInt = 0 := rfl; have edd : (nI d).toInt = (d : Int) := nI_toInt (by omega); rw [s_polar_f (show ¬ s_polarP d x.toInt y.toInt z.toInt dn.toInt vi.toInt from fun q => by first | exact absurd q.1 (by omega) | exact hwt q.2)]; rfl) | (dsimp only; exact (by have e00 : (nI 0).toInt = 0 := rfl; have edd : (nI d).toInt = (d : Int) := nI_toInt (by omega); rw [s_polar_f (show ¬ s_polarP d x.toInt y.toInt z.toInt dn.toInt vi.toInt from fun q => by first | exact absurd q.1 (by omega) | exact hwt q.2)]; rfl))) hP hD hS
  rw [hH, hlc] at key; exact key

def rm_r_form : Room := { frames := 0, cells := 0, slots := 0, locals := 0 }
set_option maxHeartbeats 4000000 in
set_option maxRecDepth 100000 in
/-- the form at two rows of the base -/
theorem r_form (l : Launch) (D : va_G) (cJ cI : ClassId) (g : Nat) (cd : Int32) (d : Nat) (ik : Int32) (rw : Int32) (ab : Int32) (be : Int32) (a0 : Int32) (a1 : Int32) (b0 : Int32) (b1 : Int32) (lm : Int32) (mm : Nat) (kf : Nat) (tb : Nat) (wk : Nat) (pl : Nat) (sp : Nat) (po : Nat) (to : Nat) (ba : Nat) (li : Nat) (Fm : Nat → Int) (Bs : Nat → Int) (p9 : Nat) (q9 : Nat) (hp9 : p9 ≤ 2) (hq9 : q9 ≤ 2) (hF : ∀ k, k < 16 → inB (Fm k) 20) (sz : Nat) : xMl l y_M_formOf (Cond.code y_M_formOf b_M_formOf 7 (some .long) :: tW) rm_r_form [.ref g, .int (nI p9), .int (nI q9)] D vwC [(cJ, .long), (cI, .int)] sz [(g, .inr (2, [.int cd, .int (nI d), .ref mm, .int ik, .ref kf, .ref tb, .int rw, .ref wk, .int ab, .int be, .ref pl, .ref sp, .int a0, .int a1, .int b0, .int b1, .ref po, .ref to, .ref ba, .ref li, .int lm])), (mm, IA cI 16 Fm), (ba, LA cJ 12 Bs)] (fun (rv : Int64) (_ : Unit) => rv = lI (fqN Fm Bs p9 q9 4)) (fun (_ : Unit) => [(g, .inr (2, [.int cd, .int (nI d), .ref mm, .int ik, .ref kf, .ref tb, .int rw, .ref wk, .int ab, .int be, .ref pl, .ref sp, .int a0, .int a1, .int b0, .int b1, .ref po, .ref to, .ref ba, .ref li, .int lm])), (mm, IA cI 16 Fm), (ba, LA cJ 12 Bs)]) 0 0 := by
  refine xol (cc := b_M_formOf) (maxL := 7) (by decide) rfl (Nat.le_of_ble_eq_true rfl) ?_
  intro p e s m args below meth c Q A hx hb hml hts hown hN hA hS hP hK hD hret ls hl
  have hl : lv_has ls 7 [(0, .ref g), (1, .int (nI p9)), (2, .int (nI q9))] := hl
  obtain ⟨H, hH⟩ : ∃ z, z = s.heap := ⟨_, rfl⟩
  obtain ⟨locs, hlc⟩ : ∃ z : List Loc, z = [] := ⟨_, rfl⟩
  rw [← hH] at hP
  have hS : va_S A s.heap H locs := by rw [hH, hlc]; exact hS
  have key : W p l e rm_r_form s m args below meth c H locs 0 0 Q (F0 m 0 ls []) := by
    refine lv_lconst (v := lI 0) hx hb d_M_formOf_0 (by decide) ?_
    refine lv_lstore_n (lv' := [(3, .long (lI 0)), (0, .ref g), (1, .int (nI p9)), (2, .int (nI q9))]) hx hb d_M_formOf_1 rfl hl (by decide) rfl (fun ls hl => ?_)
    refine lv_iconst (v := nI 0) hx hb d_M_formOf_2 (by decide) ?_
    refine lv_istore (lv' := [(5, .int (nI 0)), (3, .long (lI 0)), (0, .ref g), (1, .int (nI p9)), (2, .int (nI q9))]) hx hb d_M_formOf_3 hl (by decide) rfl (fun ls hl => ?_)
    have lp_5 : ∀ (n_5 : Nat) (i : Nat) (H : Heap) (locs : List Loc) (ls : Array Slot), (i ≤ 4) → (4 - i) < n_5 → va_P D vwC [(g, .inr (2, [.int cd, .int (nI d), .ref mm, .int ik, .ref kf, .ref tb, .int rw, .ref wk, .int ab, .int be, .ref pl, .ref sp, .int a0, .int a1, .int b0, .int b1, .ref po, .ref to, .ref ba, .ref li, .int lm])), (mm, IA cI 16 Fm), (ba, LA cJ 12 Bs)] H → va_D A [(g, .inr (2, [.int cd, .int (nI d), .ref mm, .int ik, .ref kf, .ref tb, .int rw, .ref wk, .int ab, .int be, .ref pl, .ref sp, .int a0, .int a1, .int b0, .int b1, .ref po, .ref to, .ref ba, .ref li, .int lm])), (mm, IA cI 16 Fm), (ba, LA cJ 12 Bs)] → va_S A s.heap H locs → lv_has ls 7 [(0, .ref g), (1, .int (nI p9)), (2, .int (nI q9)), (3, .long (lI (fqN Fm Bs p9 q9 i))), (5, .int (nI i))] → W p l e rm_r_form s m args below meth c H locs 0 0 Q (F0 m 5 ls []) := by
      intro n_5
      induction n_5 with
      | zero => intro i H locs ls hi hn_5; exact absurd hn_5 (Nat.not_lt_zero _)
      | succ n_5 ih_5 =>
        intro i H locs ls hi hn_5 hP hD hS hl
        refine lv_iload hx hb d_M_formOf_5 (lv_at hl 4 rfl) ?_
        refine lv_iconst (v := nI 4) hx hb d_M_formOf_7 (by decide) ?_
        refine xn_ge (tgt := 72) hx hb (by omega) (by omega) d_M_formOf_8 (by decide) (fun c8_0 => ?_) (fun c8_0 => ?_)
        · skip
          refine lv_lload_n hx hb d_M_formOf_72 rfl (lv_at hl 3 rfl) ?_
          exact hret H locs _ ls (lI (fqN Fm Bs p9 q9 i)) () d_M_formOf_73 (by rw [show i = 4 from by omega]) hP hD hS
        · skip
          refine lv_iconst (v := nI 0) hx hb d_M_formOf_11 (by decide) ?_
          refine lv_istore (lv' := [(6, .int (nI 0)), (0, .ref g), (1, .int (nI p9)), (2, .int (nI q9)), (3, .long (lI (fqN Fm Bs p9 q9 i))), (5, .int (nI i))]) hx hb d_M_formOf_12 hl (by decide) rfl (fun ls hl => ?_)
          have lp_14 : ∀ (n_14 : Nat) (j : Nat) (H : Heap) (locs : List Loc) (ls : Array Slot), (j ≤ 4) → (4 - j) < n_14 → va_P D vwC [(g, .inr (2, [.int cd, .int (nI d), .ref mm, .int ik, .ref kf, .ref tb, .int rw, .ref wk, .int ab, .int be, .ref pl, .ref sp, .int a0, .int a1, .int b0, .int b1, .ref po, .ref to, .ref ba, .ref li, .int lm])), (mm, IA cI 16 Fm), (ba, LA cJ 12 Bs)] H → va_D A [(g, .inr (2, [.int cd, .int (nI d), .ref mm, .int ik, .ref kf, .ref tb, .int rw, .ref wk, .int ab, .int be, .ref pl, .ref sp, .int a0, .int a1, .int b0, .int b1, .ref po, .ref to, .ref ba, .ref li, .int lm])), (mm, IA cI 16 Fm), (ba, LA cJ 12 Bs)] → va_S A s.heap H locs → lv_has ls 7 [(0, .ref g), (1, .int (nI p9)), (2, .int (nI q9)), (3, .long (lI (fqN Fm Bs p9 q9 i + fqJ Fm Bs p9 q9 i j))), (5, .int (nI i)), (6, .int (nI j))] → W p l e rm_r_form s m args below meth c H locs 0 0 Q (F0 m 14 ls []) := by
            intro n_14
            induction n_14 with
            | zero => intro j H locs ls hj hn_14; exact absurd hn_14 (Nat.not_lt_zero _)
            | succ n_14 ih_14 =>
              intro j H locs ls hj hn_14 hP hD hS hl
              refine lv_iload hx hb d_M_formOf_14 (lv_at hl 5 rfl) ?_
              refine lv_iconst (v := nI 4) hx hb d_M_formOf_16 (by decide) ?_
              refine xn_ge (tgt := 66) hx hb (by omega) (by omega) d_M_formOf_17 (by decide) (fun c17_1 => ?_) (fun c17_1 => ?_)
              · skip
                have hj9 : j = 4 := by omega
                subst hj9
                refine lv_iinc (v := nI (i + 1)) (lv' := [(5, .int (nI (i + 1))), (0, .ref g), (1, .int (nI p9)), (2, .int (nI q9)), (3, .long (lI (fqN Fm Bs p9 q9 i + fqJ Fm Bs p9 q9 i 4))), (6, .int (nI 4))]) hx hb d_M_formOf_66 hl (k := 4) rfl (nI_add _ _) (by decide) rfl (fun ls hl => ?_)
                refine lv_goto (tgt := 5) hx hb d_M_formOf_69 (by decide) ?_
                exact ih_5 (i + 1) H locs ls (by omega) (by omega) hP hD hS (lv_sub hl [1, 2, 3, 4, 0] rfl)
              · skip
                refine lv_lload_n hx hb d_M_formOf_20 rfl (lv_at hl 3 rfl) ?_
                refine lv_aload_n hx hb d_M_formOf_21 rfl (lv_at hl 0 rfl) ?_
                refine va_get (D := D) (ci := 2) (v := .ref ba) (C := R_M) (T := F_M) (N := 21) hx hb hts iw_M hown hK hP 0 rfl rfl 18 (by decide) (hts _ tw_405) (fun _ h9 => h9) rfl d_M_formOf_22 ?_
                refine lv_iconst (v := nI 4) hx hb d_M_formOf_25 (by decide) ?_
                refine lv_iload_n hx hb d_M_formOf_26 rfl (lv_at hl 1 rfl) ?_
                refine xn_mul hx hb d_M_formOf_27 ?_
                refine lv_iload hx hb d_M_formOf_28 (lv_at hl 4 rfl) ?_
                refine xn_add hx hb d_M_formOf_30 ?_
                refine xl_ald hx hb hK hP 2 0 rfl rfl (k := (4 * p9) + i) (by omega) (by first | decide | omega) d_M_formOf_31 ?_
                refine lv_aload_n hx hb d_M_formOf_32 rfl (lv_at hl 0 rfl) ?_
                refine va_get (D := D) (ci := 2) (v := .ref mm) (C := R_M) (T := F_M) (N := 21) hx hb hts iw_M hown hK hP 0 rfl rfl 2 (by decide) (hts _ tw_389) (fun _ h9 => h9) rfl d_M_formOf_33 ?_
                refine lv_iconst (v := nI 4) hx hb d_M_formOf_36 (by decide) ?_
                refine lv_iload hx hb d_M_formOf_37 (lv_at hl 4 rfl) ?_
                refine xn_mul hx hb d_M_formOf_39 ?_
                refine lv_iload hx hb d_M_formOf_40 (lv_at hl 5 rfl) ?_
                refine xn_add hx hb d_M_formOf_42 ?_
                refine xi_ald hx hb hK hP 1 1 rfl rfl (k := (4 * i) + j) (by omega) (by first | decide | omega) d_M_formOf_43 ?_
                refine lv_i2l (v := lI (Fm ((4 * i) + j))) hx hb d_M_formOf_44 (iI_i2l (iB_of (hF _ (by omega)) (by decide))) ?_
                refine xl_mul hx hb d_M_formOf_45 ?_
                refine lv_aload_n hx hb d_M_formOf_46 rfl (lv_at hl 0 rfl) ?_
                refine va_get (D := D) (ci := 2) (v := .ref ba) (C := R_M) (T := F_M) (N := 21) hx hb hts iw_M hown hK hP 0 rfl rfl 18 (by decide) (hts _ tw_405) (fun _ h9 => h9) rfl d_M_formOf_47 ?_
                refine lv_iconst (v := nI 4) hx hb d_M_formOf_50 (by decide) ?_
                refine lv_iload_n hx hb d_M_formOf_51 rfl (lv_at hl 2 rfl) ?_
                refine xn_mul hx hb d_M_formOf_52 ?_
                refine lv_iload hx hb d_M_formOf_53 (lv_at hl 5 rfl) ?_
                refine xn_add hx hb d_M_formOf_55 ?_
                refine xl_ald hx hb hK hP 2 0 rfl rfl (k := (4 * q9) + j) (by omega) (by first | decide | omega) d_M_formOf_56 ?_
                refine xl_mul hx hb d_M_formOf_57 ?_
                refine xl_add hx hb d_M_formOf_58 ?_
                rw [Int.add_assoc]
                refine lv_lstore_n (lv' := [(3, .long (lI (fqN Fm Bs p9 q9 i + (fqJ Fm Bs p9 q9 i j + Bs (4 * p9 + i) * Fm (4 * i + j) * Bs (4 * q9 + j))))), (0, .ref g), (1, .int (nI p9)), (2, .int (nI q9)), (5, .int (nI i)), (6, .int (nI j))]) hx hb d_M_formOf_59 rfl hl (by decide) rfl (fun ls hl => ?_)
                refine lv_iinc (v := nI (j + 1)) (lv' := [(6, .int (nI (j + 1))), (3, .long (lI (fqN Fm Bs p9 q9 i + (fqJ Fm Bs p9 q9 i j + Bs (4 * p9 + i) * Fm (4 * i + j) * Bs (4 * q9 + j))))), (0, .ref g), (1, .int (nI p9)), (2, .int (nI q9)), (5, .int (nI i))]) hx hb d_M_formOf_60 hl (k := 5) rfl (nI_add _ _) (by decide) rfl (fun ls hl => ?_)
                refine lv_goto (tgt := 14) hx hb d_M_formOf_63 (by decide) ?_
                exact ih_14 (j + 1) H locs ls (by omega) (by omega) hP hD hS (lv_sub hl [2, 3, 4, 1, 5, 0] rfl)
          have hz : fqN Fm Bs p9 q9 i = fqN Fm Bs p9 q9 i + fqJ Fm Bs p9 q9 i 0 := (Int.add_zero _).symm
          rw [hz] at hl
          exact lp_14 ((4 - 0) + 1) 0 H locs ls (Nat.zero_le _) (by omega) hP hD hS (lv_sub hl [1, 2, 3, 4, 5, 0] rfl)
    exact lp_5 ((4 - 0) + 1) 0 H locs ls (Nat.zero_le _) (by omega) hP hD hS (lv_sub hl [2, 3, 4, 1, 0] rfl)
  rw [hH, hlc] at key; exact key
