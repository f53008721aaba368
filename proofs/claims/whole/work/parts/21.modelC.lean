/-! contracts of ConicKindsModel: minor, sums, findSigns (wip/spec_model3.py, modelC) -/
theorem mi_B {W T : Nat → Int} {r b : Nat} (h4 : r ≤ 4) (hB : enB T r (tabB r)) (h : ∀ a c, a < r → c < r → b / 2 ^ a % 2 = 1 → b / 2 ^ c % 2 = 1 → W (5 * cnb b a + cnb b c) = T (4 * a + c)) : ∀ i j, i < cnb b r → j < cnb b r → inB (W (5 * i + j)) (tabB (cnb b r)) := by
  intro i j hi hj
  obtain ⟨a, ha, ha2, rfl⟩ := cnb_surj b hi
  obtain ⟨c, hc, hc2, rfl⟩ := cnb_surj b hj
  rw [h a c ha hc ha2 hc2]
  exact leB (hB a c ha hc) (tab_le (cnb_le b r) h4)
theorem mi_ne {b i j a c : Nat} (hi : cnb b j ≤ 4) (hc : cnb b c ≤ 4) (q3 : b / 2 ^ a % 2 = 1) (q4 : b / 2 ^ c % 2 = 1) (q : a < i ∨ (a = i ∧ c < j)) : 5 * cnb b a + cnb b c ≠ 5 * cnb b i + cnb b j := by
  rcases q with q | ⟨rfl, q⟩
  · have := cnb_mono b q3 q; omega
  · have := cnb_mono b q4 q; omega
theorem popN_le (b : Nat) : popN b ≤ 4 := by unfold popN; omega
theorem cnb_z {b i : Nat} (h : b / 2 ^ i % 2 = 0) : cnb b i = cnb b (i + 1) := by show _ = cnb b i + b / 2 ^ i % 2; omega
theorem cnb_o {b i : Nat} (h : b / 2 ^ i % 2 = 1) : cnb b i + 1 = cnb b (i + 1) := by show _ = cnb b i + b / 2 ^ i % 2; omega

def rm_r_minor : Room := { frames := 2, cells := 0, slots := 0, locals := 54 }
set_option maxHeartbeats 4000000 in
set_option maxRecDepth 100000 in
/-- a principal minor -/
theorem r_minor (l : Launch) (D : va_G) (cJ cI : ClassId) (g : Nat) (cd : Int32) (d : Nat) (ik : Int32) (ab : Int32) (be : Int32) (a0 : Int32) (a1 : Int32) (b0 : Int32) (b1 : Int32) (lm : Int32) (mm : Nat) (kf : Nat) (tb : Nat) (wk : Nat) (pl : Nat) (sp : Nat) (po : Nat) (to : Nat) (ba : Nat) (li : Nat) (r : Nat) (T : Nat → Int) (W0 : Nat → Int) (b : Nat) (hr2 : 2 ≤ r) (hr4 : r ≤ 4) (hb16 : b < 16) (hbr : b < 2 ^ r) (hB : enB T r (tabB r)) (sz : Nat) : xMl l y_M_minor (Cond.code y_M_minor b_M_minor 6 (some .long) :: tW) rm_r_minor [.ref g, .int (nI b)] D vwC [(cJ, .long), (cI, .int)] sz [(g, .inr (2, [.int cd, .int (nI d), .ref mm, .int ik, .ref kf, .ref tb, .int (nI r), .ref wk, .int ab, .int be, .ref pl, .ref sp, .int a0, .int a1, .int b0, .int b1, .ref po, .ref to, .ref ba, .ref li, .int lm])), (tb, LA cJ 16 T), (wk, LA cJ 20 W0)] (fun (rv : Int64) (uo : (Nat → Int)) => rv = lI (pm T b)) (fun (uo : (Nat → Int)) => [(g, .inr (2, [.int cd, .int (nI d), .ref mm, .int ik, .ref kf, .ref tb, .int (nI r), .ref wk, .int ab, .int be, .ref pl, .ref sp, .int a0, .int a1, .int b0, .int b1, .ref po, .ref to, .ref ba, .ref li, .int lm])), (tb, LA cJ 16 T), (wk, LA cJ 20 uo)]) 0 0 := by
  refine xol (cc := b_M_minor) (maxL := 6) (by decide) rfl (Nat.le_of_ble_eq_true rfl) ?_
  intro p e s m args below meth c Q A hx hb hml hts hown hN hA hS hP hK hD hret ls hl
  have hl : lv_has ls 6 [(0, .ref g), (1, .int (nI b))] := hl
  obtain ⟨H, hH⟩ : ∃ z, z = s.heap := ⟨_, rfl⟩
  obtain ⟨locs, hlc⟩ : ∃ z : List Loc, z = [] := ⟨_, rfl⟩
  rw [← hH] at hP
  have hS : va_S A s.heap H locs := by rw [hH, hlc]; exact hS
  have key : W p l e rm_r_minor s m args below meth c H locs 0 0 Q (F0 m 0 ls []) := by
    refine lv_iconst (v := nI 0) hx hb d_M_minor_0 (by decide) ?_
    refine lv_istore_n (lv' := [(2, .int (nI 0)), (0, .ref g), (1, .int (nI b))]) hx hb d_M_minor_1 rfl hl (by decide) rfl (fun ls hl => ?_)
    refine lv_iconst (v := nI 0) hx hb d_M_minor_2 (by decide) ?_
    refine lv_istore_n (lv' := [(3, .int (nI 0)), (2, .int (nI 0)), (0, .ref g), (1, .int (nI b))]) hx hb d_M_minor_3 rfl hl (by decide) rfl (fun ls hl => ?_)
    have lp_4 : ∀ (n_4 : Nat) (i : Nat) (W3 : Nat → Int) (H : Heap) (locs : List Loc) (ls : Array Slot), (i ≤ r) → (∀ a c, a < i → c < r → b / 2 ^ a % 2 = 1 → b / 2 ^ c % 2 = 1 → W3 (5 * cnb b a + cnb b c) = T (4 * a + c)) → (r - i) < n_4 → va_P D vwC [(g, .inr (2, [.int cd, .int (nI d), .ref mm, .int ik, .ref kf, .ref tb, .int (nI r), .ref wk, .int ab, .int be, .ref pl, .ref sp, .int a0, .int a1, .int b0, .int b1, .ref po, .ref to, .ref ba, .ref li, .int lm])), (tb, LA cJ 16 T), (wk, LA cJ 20 W3)] H → va_D A [(g, .inr (2, [.int cd, .int (nI d), .ref mm, .int ik, .ref kf, .ref tb, .int (nI r), .ref wk, .int ab, .int be, .ref pl, .ref sp, .int a0, .int a1, .int b0, .int b1, .ref po, .ref to, .ref ba, .ref li, .int lm])), (tb, LA cJ 16 T), (wk, LA cJ 20 W3)] → va_S A s.heap H locs → lv_has ls 6 [(0, .ref g), (1, .int (nI b)), (2, .int (nI (cnb b i))), (3, .int (nI i))] → W p l e rm_r_minor s m args below meth c H locs 0 0 Q (F0 m 4 ls []) := by
      intro n_4
      induction n_4 with
      | zero => intro i W3 H locs ls hi h1 hn_4; exact absurd hn_4 (Nat.not_lt_zero _)
      | succ n_4 ih_4 =>
        intro i W3 H locs ls hi h1 hn_4 hP hD hS hl
        have hci := cnb_le b i
        refine lv_iload_n hx hb d_M_minor_4 rfl (lv_at hl 3 rfl) ?_
        refine lv_aload_n hx hb d_M_minor_5 rfl (lv_at hl 0 rfl) ?_
        refine va_get (D := D) (ci := 2) (v := .int (nI r)) (C := R_M) (T := F_M) (N := 21) hx hb hts iw_M hown hK hP 0 rfl rfl 6 (by decide) (hts _ tw_393) (fun _ h9 => h9) rfl d_M_minor_6 ?_
        refine xn_ge (tgt := 88) hx hb (by omega) (by omega) d_M_minor_9 (by decide) (fun c9_0 => ?_) (fun c9_0 => ?_)
        · skip
          have hir : r = i := by omega
          subst hir
          refine lv_aload_n hx hb d_M_minor_88 rfl (lv_at hl 0 rfl) ?_
          refine lv_iload_n hx hb d_M_minor_89 rfl (lv_at hl 2 rfl) ?_
          refine xcl (wc := [(g, .inr (2, [.int cd, .int (nI d), .ref mm, .int ik, .ref kf, .ref tb, .int (nI r), .ref wk, .int ab, .int be, .ref pl, .ref sp, .int a0, .int a1, .int b0, .int b1, .ref po, .ref to, .ref ba, .ref li, .int lm])), (wk, LA cJ 20 W3)]) (wr := [(tb, LA cJ 16 T)]) hP hD hS hA [0, 2] [1] rfl rfl (by decide) (by decide) (va_runV (As := [.int (nI (cnb b r))]) (rest := []) ⟨hx, hb, hml, hown, hts⟩ (r_det l D cJ cI g cd d ik (nI r) ab be a0 a1 b0 b1 lm mm kf tb wk pl sp po to ba li W3 (cnb b r) (Nat.le_trans (cnb_le b r) hr4) (mi_B hr4 hB (fun a c q1 q2 q3 q4 => h1 a c q1 q2 q3 q4)) H.size) (cwV 1 hts (gV tw_499 tw_501 tws_23 tw_3 tw_502) rfl rfl rfl ⟨rfl, hd_M_determinantOf⟩ ⟨Nat.le_of_ble_eq_true rfl, Nat.le_of_ble_eq_true rfl⟩) (xPreV (C := R_M) (T := F_M) (N := 21) (q0 := 0) hN hK (hP.sub (ws' := [(g, .inr (2, [.int cd, .int (nI d), .ref mm, .int ik, .ref kf, .ref tb, .int (nI r), .ref wk, .int ab, .int be, .ref pl, .ref sp, .int a0, .int a1, .int b0, .int b1, .ref po, .ref to, .ref ba, .ref li, .int lm])), (wk, LA cJ 20 W3)]) [0, 2] rfl) (hD.sub (ws' := [(g, .inr (2, [.int cd, .int (nI d), .ref mm, .int ik, .ref kf, .ref tb, .int (nI r), .ref wk, .int ab, .int be, .ref pl, .ref sp, .int a0, .int a1, .int b0, .int b1, .ref po, .ref to, .ref ba, .ref li, .int lm])), (wk, LA cJ 20 W3)]) [0, 2] (by decide) rfl) rfl rfl) rfl rfl hl.1 rfl (lv_room (Nat.le_of_ble_eq_true rfl)) d_M_minor_90 ⟨Nat.le_of_ble_eq_true rfl, Nat.le_of_ble_eq_true rfl⟩) (fun r_2 u_3 H locs hw_4 hP hD hS => ?_)
          obtain ⟨W2_5, rfl⟩ : ∃ z, z = u_3 := ⟨_, rfl⟩
          try dsimp only at hw_4
          have hP : va_P D vwC [(g, .inr (2, [.int cd, .int (nI d), .ref mm, .int ik, .ref kf, .ref tb, .int (nI r), .ref wk, .int ab, .int be, .ref pl, .ref sp, .int a0, .int a1, .int b0, .int b1, .ref po, .ref to, .ref ba, .ref li, .int lm])), (tb, LA cJ 16 T), (wk, LA cJ 20 W2_5)] H := hP.sub [1, 0, 2] rfl
          have hD : va_D A [(g, .inr (2, [.int cd, .int (nI d), .ref mm, .int ik, .ref kf, .ref tb, .int (nI r), .ref wk, .int ab, .int be, .ref pl, .ref sp, .int a0, .int a1, .int b0, .int b1, .ref po, .ref to, .ref ba, .ref li, .int lm])), (tb, LA cJ 16 T), (wk, LA cJ 20 W2_5)] := hD.sub [1, 0, 2] (by decide) rfl
          subst hw_4
          exact hret H locs _ ls (lI (dt (cnb b r) (mat5 W3))) W2_5 d_M_minor_93 (by rw [pm_eq hr2 hr4 hbr (fun a c q1 q2 q3 q4 => h1 a c q1 q2 q3 q4)]) hP hD hS
        · skip
          refine lv_iload_n hx hb d_M_minor_12 rfl (lv_at hl 1 rfl) ?_
          refine lv_iload_n hx hb d_M_minor_13 rfl (lv_at hl 3 rfl) ?_
          refine xb_shr hx hb (by omega) (by omega) d_M_minor_14 ?_
          refine lv_iconst (v := nI 1) hx hb d_M_minor_15 (by decide) ?_
          refine xb_and1 hx hb (Nat.lt_of_le_of_lt (Nat.div_le_self _ _) hb16) d_M_minor_16 ?_
          refine xz_ne (tgt := 23) (X := ((b / 2 ^ i) % 2 : Nat)) hx hb (nI_toInt (by omega)) d_M_minor_17 (by decide) (fun c17_5 => ?_) (fun c17_5 => ?_)
          · skip
            refine lv_iconst (v := nI 0) hx hb d_M_minor_23 (by decide) ?_
            refine lv_istore (lv' := [(4, .int (nI 0)), (0, .ref g), (1, .int (nI b)), (2, .int (nI (cnb b i))), (3, .int (nI i))]) hx hb d_M_minor_24 hl (by decide) rfl (fun ls hl => ?_)
            refine lv_iconst (v := nI 0) hx hb d_M_minor_26 (by decide) ?_
            refine lv_istore (lv' := [(5, .int (nI 0)), (4, .int (nI 0)), (0, .ref g), (1, .int (nI b)), (2, .int (nI (cnb b i))), (3, .int (nI i))]) hx hb d_M_minor_27 hl (by decide) rfl (fun ls hl => ?_)
            have lp_29 : ∀ (n_29 : Nat) (j : Nat) (W4 : Nat → Int) (H : Heap) (locs : List Loc) (ls : Array Slot), (j ≤ r) → (∀ a c, (a < i ∧ c < r) ∨ (a = i ∧ c < j) → b / 2 ^ a % 2 = 1 → b / 2 ^ c % 2 = 1 → W4 (5 * cnb b a + cnb b c) = T (4 * a + c)) → (r - j) < n_29 → va_P D vwC [(g, .inr (2, [.int cd, .int (nI d), .ref mm, .int ik, .ref kf, .ref tb, .int (nI r), .ref wk, .int ab, .int be, .ref pl, .ref sp, .int a0, .int a1, .int b0, .int b1, .ref po, .ref to, .ref ba, .ref li, .int lm])), (tb, LA cJ 16 T), (wk, LA cJ 20 W4)] H → va_D A [(g, .inr (2, [.int cd, .int (nI d), .ref mm, .int ik, .ref kf, .ref tb, .int (nI r), .ref wk, .int ab, .int be, .ref pl, .ref sp, .int a0, .int a1, .int b0, .int b1, .ref po, .ref to, .ref ba, .ref li, .int lm])), (tb, LA cJ 16 T), (wk, LA cJ 20 W4)] → va_S A s.heap H locs → lv_has ls 6 [(0, .ref g), (1, .int (nI b)), (2, .int (nI (cnb b i))), (3, .int (nI i)), (4, .int (nI (cnb b j))), (5, .int (nI j))] → W p l e rm_r_minor s m args below meth c H locs 0 0 Q (F0 m 29 ls []) := by
              intro n_29
              induction n_29 with
              | zero => intro j W4 H locs ls hj h2 hn_29; exact absurd hn_29 (Nat.not_lt_zero _)
              | succ n_29 ih_29 =>
                intro j W4 H locs ls hj h2 hn_29 hP hD hS hl
                have hcj := cnb_le b j
                refine lv_iload hx hb d_M_minor_29 (lv_at hl 5 rfl) ?_
                refine lv_aload_n hx hb d_M_minor_31 rfl (lv_at hl 0 rfl) ?_
                refine va_get (D := D) (ci := 2) (v := .int (nI r)) (C := R_M) (T := F_M) (N := 21) hx hb hts iw_M hown hK hP 0 rfl rfl 6 (by decide) (hts _ tw_393) (fun _ h9 => h9) rfl d_M_minor_32 ?_
                refine xn_ge (tgt := 79) hx hb (by omega) (by omega) d_M_minor_35 (by decide) (fun c35_6 => ?_) (fun c35_6 => ?_)
                · skip
                  refine lv_iinc (v := nI ((cnb b i) + 1)) (lv' := [(2, .int (nI ((cnb b i) + 1))), (0, .ref g), (1, .int (nI b)), (3, .int (nI i)), (4, .int (nI (cnb b j))), (5, .int (nI j))]) hx hb d_M_minor_79 hl (k := 2) rfl (nI_add _ _) (by decide) rfl (fun ls hl => ?_)
                  refine lv_iinc (v := nI (i + 1)) (lv' := [(3, .int (nI (i + 1))), (2, .int (nI ((cnb b i) + 1))), (0, .ref g), (1, .int (nI b)), (4, .int (nI (cnb b j))), (5, .int (nI j))]) hx hb d_M_minor_82 hl (k := 3) rfl (nI_add _ _) (by decide) rfl (fun ls hl => ?_)
                  refine lv_goto (tgt := 4) hx hb d_M_minor_85 (by decide) ?_
                  rw [cnb_o (b := b) (i := i) (by omega)] at hl
                  exact ih_4 (i + 1) W4 H locs ls (by omega) (fun a c q1 q2 q3 q4 => h2 a c (by omega) q3 q4) (by omega) hP hD hS (lv_sub hl [2, 3, 1, 0] rfl)
                · skip
                  refine lv_iload_n hx hb d_M_minor_38 rfl (lv_at hl 1 rfl) ?_
                  refine lv_iload hx hb d_M_minor_39 (lv_at hl 5 rfl) ?_
                  refine xb_shr hx hb (by omega) (by omega) d_M_minor_41 ?_
                  refine lv_iconst (v := nI 1) hx hb d_M_minor_42 (by decide) ?_
                  refine xb_and1 hx hb (Nat.lt_of_le_of_lt (Nat.div_le_self _ _) hb16) d_M_minor_43 ?_
                  refine lv_iconst (v := nI 1) hx hb d_M_minor_44 (by decide) ?_
                  refine xn_ne (tgt := 73) hx hb (by omega) (by omega) d_M_minor_45 (by decide) (fun c45_7 => ?_) (fun c45_7 => ?_)
                  · skip
                    refine lv_iinc (v := nI (j + 1)) (lv' := [(5, .int (nI (j + 1))), (0, .ref g), (1, .int (nI b)), (2, .int (nI (cnb b i))), (3, .int (nI i)), (4, .int (nI (cnb b j)))]) hx hb d_M_minor_73 hl (k := 5) rfl (nI_add _ _) (by decide) rfl (fun ls hl => ?_)
                    refine lv_goto (tgt := 29) hx hb d_M_minor_76 (by decide) ?_
                    rw [cnb_z (b := b) (i := j) (by omega)] at hl
                    exact ih_29 (j + 1) W4 H locs ls (by omega) (fun a c q q3 q4 => h2 a c (by by_cases z : c = j; subst z; omega; omega) q3 q4) (by omega) hP hD hS (lv_sub hl [1, 2, 3, 4, 5, 0] rfl)
                  · skip
                    refine lv_aload_n hx hb d_M_minor_48 rfl (lv_at hl 0 rfl) ?_
                    refine va_get (D := D) (ci := 2) (v := .ref wk) (C := R_M) (T := F_M) (N := 21) hx hb hts iw_M hown hK hP 0 rfl rfl 7 (by decide) (hts _ tw_394) (fun _ h9 => h9) rfl d_M_minor_49 ?_
                    refine lv_iconst (v := nI 5) hx hb d_M_minor_52 (by decide) ?_
                    refine lv_iload_n hx hb d_M_minor_53 rfl (lv_at hl 2 rfl) ?_
                    refine xn_mul hx hb d_M_minor_54 ?_
                    refine lv_iload hx hb d_M_minor_55 (lv_at hl 4 rfl) ?_
                    refine xn_add hx hb d_M_minor_57 ?_
                    refine lv_aload_n hx hb d_M_minor_58 rfl (lv_at hl 0 rfl) ?_
                    refine va_get (D := D) (ci := 2) (v := .ref tb) (C := R_M) (T := F_M) (N := 21) hx hb hts iw_M hown hK hP 0 rfl rfl 5 (by decide) (hts _ tw_392) (fun _ h9 => h9) rfl d_M_minor_59 ?_
                    refine lv_iconst (v := nI 4) hx hb d_M_minor_62 (by decide) ?_
                    refine lv_iload_n hx hb d_M_minor_63 rfl (lv_at hl 3 rfl) ?_
                    refine xn_mul hx hb d_M_minor_64 ?_
                    refine lv_iload hx hb d_M_minor_65 (lv_at hl 5 rfl) ?_
                    refine xn_add hx hb d_M_minor_67 ?_
                    refine xl_ald hx hb hK hP 1 0 rfl rfl (k := (4 * i) + j) (by omega) (by first | decide | omega) d_M_minor_68 ?_
                    refine xl_ast hx hb hK hP hD hS 2 0 rfl rfl (k := (5 * (cnb b i)) + (cnb b j)) (by omega) (by first | decide | omega) d_M_minor_69 (fun H locs hP hD hS => ?_)
                    have hP : va_P D vwC [(g, .inr (2, [.int cd, .int (nI d), .ref mm, .int ik, .ref kf, .ref tb, .int (nI r), .ref wk, .int ab, .int be, .ref pl, .ref sp, .int a0, .int a1, .int b0, .int b1, .ref po, .ref to, .ref ba, .ref li, .int lm])), (tb, LA cJ 16 T), (wk, LA cJ 20 (upZ W4 ((5 * (cnb b i)) + (cnb b j)) (T ((4 * i) + j))))] H := hP
                    have hD : va_D A [(g, .inr (2, [.int cd, .int (nI d), .ref mm, .int ik, .ref kf, .ref tb, .int (nI r), .ref wk, .int ab, .int be, .ref pl, .ref sp, .int a0, .int a1, .int b0, .int b1, .ref po, .ref to, .ref ba, .ref li, .int lm])), (tb, LA cJ 16 T), (wk, LA cJ 20 (upZ W4 ((5 * (cnb b i)) + (cnb b j)) (T ((4 * i) + j))))] := hD
                    refine lv_iinc (v := nI ((cnb b j) + 1)) (lv' := [(4, .int (nI ((cnb b j) + 1))), (0, .ref g), (1, .int (nI b)), (2, .int (nI (cnb b i))), (3, .int (nI i)), (5, .int (nI j))]) hx hb d_M_minor_70 hl (k := 4) rfl (nI_add _ _) (by decide) rfl (fun ls hl => ?_)
                    refine lv_iinc (v := nI (j + 1)) (lv' := [(5, .int (nI (j + 1))), (4, .int (nI ((cnb b j) + 1))), (0, .ref g), (1, .int (nI b)), (2, .int (nI (cnb b i))), (3, .int (nI i))]) hx hb d_M_minor_73 hl (k := 5) rfl (nI_add _ _) (by decide) rfl (fun ls hl => ?_)
                    refine lv_goto (tgt := 29) hx hb d_M_minor_76 (by decide) ?_
                    rw [cnb_o (b := b) (i := j) (by omega)] at hl
                    exact ih_29 (j + 1) (upZ W4 ((5 * (cnb b i)) + (cnb b j)) (T ((4 * i) + j))) H locs ls (by omega) (fun a c q q3 q4 => by by_cases z : a = i ∧ c = j; obtain ⟨rfl, rfl⟩ := z; rw [upZ_at]; rw [upZ_ne (k := 5 * cnb b i + cnb b j) (j := 5 * cnb b a + cnb b c) _ _ (mi_ne (by omega) (Nat.le_trans (cnb_le b c) (by omega)) q3 q4 (by omega))]; exact h2 a c (by omega) q3 q4) (by omega) hP hD hS (lv_sub hl [2, 3, 4, 5, 1, 0] rfl)
            exact lp_29 ((r - 0) + 1) 0 W3 H locs ls (Nat.zero_le _) (fun a c q q3 q4 => h1 a c (by omega) (by omega) q3 q4) (by omega) hP hD hS (lv_sub hl [2, 3, 4, 5, 1, 0] rfl)
          · skip
            refine lv_goto (tgt := 82) hx hb d_M_minor_20 (by decide) ?_
            refine lv_iinc (v := nI (i + 1)) (lv' := [(3, .int (nI (i + 1))), (0, .ref g), (1, .int (nI b)), (2, .int (nI (cnb b i)))]) hx hb d_M_minor_82 hl (k := 3) rfl (nI_add _ _) (by decide) rfl (fun ls hl => ?_)
            refine lv_goto (tgt := 4) hx hb d_M_minor_85 (by decide) ?_
            rw [cnb_z (b := b) (i := i) (by omega)] at hl
            exact ih_4 (i + 1) W3 H locs ls (by omega) (fun a c q1 q2 q3 q4 => h1 a c (by by_cases z : a = i; subst z; omega; omega) q2 q3 q4) (by omega) hP hD hS (lv_sub hl [1, 2, 3, 0] rfl)
    exact lp_4 ((r - 0) + 1) 0 W0 H locs ls (Nat.zero_le _) (fun a c q => absurd q (Nat.not_lt_zero _)) (by omega) hP hD hS (lv_sub hl [2, 3, 1, 0] rfl)
  rw [hH, hlc] at key; exact key

def rm_r_sums : Room := { frames := 3, cells := 0, slots := 0, locals := 79 }
set_option maxHeartbeats 4000000 in
set_option maxRecDepth 100000 in
/-- a sum of principal minors -/
theorem r_sums (l : Launch) (D : va_G) (cJ cI : ClassId) (g : Nat) (cd : Int32) (d : Nat) (ik : Int32) (ab : Int32) (be : Int32) (a0 : Int32) (a1 : Int32) (b0 : Int32) (b1 : Int32) (lm : Int32) (mm : Nat) (kf : Nat) (tb : Nat) (wk : Nat) (pl : Nat) (sp : Nat) (po : Nat) (to : Nat) (ba : Nat) (li : Nat) (r : Nat) (T : Nat → Int) (W0 : Nat → Int) (k : Nat) (hr2 : 2 ≤ r) (hr4 : r ≤ 4) (hk1 : 1 ≤ k) (hkr : k ≤ r) (hB : enB T r (tabB r)) (sz : Nat) : xMl l y_M_sums (Cond.code y_M_sums b_M_sums 5 (some .long) :: tW) rm_r_sums [.ref g, .int (nI k)] D vwC [(cJ, .long), (cI, .int)] sz [(g, .inr (2, [.int cd, .int (nI d), .ref mm, .int ik, .ref kf, .ref tb, .int (nI r), .ref wk, .int ab, .int be, .ref pl, .ref sp, .int a0, .int a1, .int b0, .int b1, .ref po, .ref to, .ref ba, .ref li, .int lm])), (tb, LA cJ 16 T), (wk, LA cJ 20 W0)] (fun (rv : Int64) (uo : (Nat → Int)) => rv = lI (eS T r k)) (fun (uo : (Nat → Int)) => [(g, .inr (2, [.int cd, .int (nI d), .ref mm, .int ik, .ref kf, .ref tb, .int (nI r), .ref wk, .int ab, .int be, .ref pl, .ref sp, .int a0, .int a1, .int b0, .int b1, .ref po, .ref to, .ref ba, .ref li, .int lm])), (tb, LA cJ 16 T), (wk, LA cJ 20 uo)]) 0 0 := by
  refine xol (cc := b_M_sums) (maxL := 5) (by decide) rfl (Nat.le_of_ble_eq_true rfl) ?_
  intro p e s m args below meth c Q A hx hb hml hts hown hN hA hS hP hK hD hret ls hl
  have hl : lv_has ls 5 [(0, .ref g), (1, .int (nI k))] := hl
  obtain ⟨H, hH⟩ : ∃ z, z = s.heap := ⟨_, rfl⟩
  obtain ⟨locs, hlc⟩ : ∃ z : List Loc, z = [] := ⟨_, rfl⟩
  rw [← hH] at hP
  have hS : va_S A s.heap H locs := by rw [hH, hlc]; exact hS
  have key : W p l e rm_r_sums s m args below meth c H locs 0 0 Q (F0 m 0 ls []) := by
    have h2r := p2_16 hr4
    refine lv_lconst (v := lI 0) hx hb d_M_sums_0 (by decide) ?_
    refine lv_lstore_n (lv' := [(2, .long (lI 0)), (0, .ref g), (1, .int (nI k))]) hx hb d_M_sums_1 rfl hl (by decide) rfl (fun ls hl => ?_)
    refine lv_iconst (v := nI 0) hx hb d_M_sums_2 (by decide) ?_
    refine lv_istore (lv' := [(4, .int (nI 0)), (2, .long (lI 0)), (0, .ref g), (1, .int (nI k))]) hx hb d_M_sums_3 hl (by decide) rfl (fun ls hl => ?_)
    have lp_5 : ∀ (n_5 : Nat) (t : Nat) (W3 : Nat → Int) (H : Heap) (locs : List Loc) (ls : Array Slot), (t ≤ 2 ^ r) → (2 ^ r - t) < n_5 → va_P D vwC [(g, .inr (2, [.int cd, .int (nI d), .ref mm, .int ik, .ref kf, .ref tb, .int (nI r), .ref wk, .int ab, .int be, .ref pl, .ref sp, .int a0, .int a1, .int b0, .int b1, .ref po, .ref to, .ref ba, .ref li, .int lm])), (tb, LA cJ 16 T), (wk, LA cJ 20 W3)] H → va_D A [(g, .inr (2, [.int cd, .int (nI d), .ref mm, .int ik, .ref kf, .ref tb, .int (nI r), .ref wk, .int ab, .int be, .ref pl, .ref sp, .int a0, .int a1, .int b0, .int b1, .ref po, .ref to, .ref ba, .ref li, .int lm])), (tb, LA cJ 16 T), (wk, LA cJ 20 W3)] → va_S A s.heap H locs → lv_has ls 5 [(0, .ref g), (1, .int (nI k)), (2, .long (lI (smN T k t))), (4, .int (nI t))] → W p l e rm_r_sums s m args below meth c H locs 0 0 Q (F0 m 5 ls []) := by
      intro n_5
      induction n_5 with
      | zero => intro t W3 H locs ls ht hn_5; exact absurd hn_5 (Nat.not_lt_zero _)
      | succ n_5 ih_5 =>
        intro t W3 H locs ls ht hn_5 hP hD hS hl
        refine lv_iload hx hb d_M_sums_5 (lv_at hl 3 rfl) ?_
        refine lv_iconst (v := nI 1) hx hb d_M_sums_7 (by decide) ?_
        refine lv_aload_n hx hb d_M_sums_8 rfl (lv_at hl 0 rfl) ?_
        refine va_get (D := D) (ci := 2) (v := .int (nI r)) (C := R_M) (T := F_M) (N := 21) hx hb hts iw_M hown hK hP 0 rfl rfl 6 (by decide) (hts _ tw_393) (fun _ h9 => h9) rfl d_M_sums_9 ?_
        refine xb_shl1 hx hb (by omega) d_M_sums_12 ?_
        refine xn_ge (tgt := 44) hx hb (by omega) (by omega) d_M_sums_13 (by decide) (fun c13_0 => ?_) (fun c13_0 => ?_)
        · skip
          refine lv_lload_n hx hb d_M_sums_44 rfl (lv_at hl 2 rfl) ?_
          exact hret H locs _ ls (lI (smN T k t)) W3 d_M_sums_45 (by rw [← smN_eq T hr2 hr4 hk1 hkr, show t = 2 ^ r from by omega]) hP hD hS
        · skip
          refine lv_lload_n hx hb d_M_sums_16 rfl (lv_at hl 2 rfl) ?_
          refine lv_iload hx hb d_M_sums_17 (lv_at hl 3 rfl) ?_
          refine xci (wc := []) (wr := [(g, .inr (2, [.int cd, .int (nI d), .ref mm, .int ik, .ref kf, .ref tb, .int (nI r), .ref wk, .int ab, .int be, .ref pl, .ref sp, .int a0, .int a1, .int b0, .int b1, .ref po, .ref to, .ref ba, .ref li, .int lm])), (tb, LA cJ 16 T), (wk, LA cJ 20 W3)]) hP hD hS hA [] [0, 1, 2] rfl rfl (by decide) (by decide) (va_runS (As := [.int (nI t)]) (rest := [.long (lI (smN T k t))]) ⟨hx, hb, hml, hown, hts⟩ (r_bits l D cJ cI t (by first | assumption | omega) H.size) (cwS 1 hts (gS tw_492 tw_493 tw_3 tw_494) rfl rfl rfl ⟨rfl, hd_M_bitsOf⟩ ⟨Nat.le_of_ble_eq_true rfl, Nat.le_of_ble_eq_true rfl⟩) (xPreS hN hK (hP.sub (ws' := []) [] rfl) (hD.sub (ws' := []) [] (by decide) rfl)) rfl rfl hl.1 rfl (lv_room (Nat.le_of_ble_eq_true rfl)) d_M_sums_19 ⟨Nat.le_of_ble_eq_true rfl, Nat.le_of_ble_eq_true rfl⟩) (fun r_2 u_3 H locs hw_4 hP hD hS => ?_)
          try dsimp only at hw_4
          have hP : va_P D vwC [(g, .inr (2, [.int cd, .int (nI d), .ref mm, .int ik, .ref kf, .ref tb, .int (nI r), .ref wk, .int ab, .int be, .ref pl, .ref sp, .int a0, .int a1, .int b0, .int b1, .ref po, .ref to, .ref ba, .ref li, .int lm])), (tb, LA cJ 16 T), (wk, LA cJ 20 W3)] H := hP
          have hD : va_D A [(g, .inr (2, [.int cd, .int (nI d), .ref mm, .int ik, .ref kf, .ref tb, .int (nI r), .ref wk, .int ab, .int be, .ref pl, .ref sp, .int a0, .int a1, .int b0, .int b1, .ref po, .ref to, .ref ba, .ref li, .int lm])), (tb, LA cJ 16 T), (wk, LA cJ 20 W3)] := hD
          subst hw_4
          have hpo := popN_le t
          refine lv_iload_n hx hb d_M_sums_22 rfl (lv_at hl 1 rfl) ?_
          refine xn_ne (tgt := 35) hx hb (by omega) (by omega) d_M_sums_23 (by decide) (fun c23_4 => ?_) (fun c23_4 => ?_)
          · skip
            refine lv_lconst (v := lI 0) hx hb d_M_sums_35 (by decide) ?_
            refine xl_add hx hb d_M_sums_36 ?_
            refine lv_lstore_n (lv' := [(2, .long (lI ((smN T k t) + 0))), (0, .ref g), (1, .int (nI k)), (4, .int (nI t))]) hx hb d_M_sums_37 rfl hl (by decide) rfl (fun ls hl => ?_)
            refine lv_iinc (v := nI (t + 1)) (lv' := [(4, .int (nI (t + 1))), (2, .long (lI ((smN T k t) + 0))), (0, .ref g), (1, .int (nI k))]) hx hb d_M_sums_38 hl (k := 3) rfl (nI_add _ _) (by decide) rfl (fun ls hl => ?_)
            refine lv_goto (tgt := 5) hx hb d_M_sums_41 (by decide) ?_
            rw [show smN T k t + 0 = smN T k (t + 1) from by show _ = smN T k t + (if popN t = k then pm T t else 0); rw [if_neg c23_4]] at hl
            exact ih_5 (t + 1) W3 H locs ls (by omega) (by omega) hP hD hS (lv_sub hl [2, 3, 1, 0] rfl)
          · skip
            refine lv_aload_n hx hb d_M_sums_26 rfl (lv_at hl 0 rfl) ?_
            refine lv_iload hx hb d_M_sums_27 (lv_at hl 3 rfl) ?_
            refine xcl (wc := [(g, .inr (2, [.int cd, .int (nI d), .ref mm, .int ik, .ref kf, .ref tb, .int (nI r), .ref wk, .int ab, .int be, .ref pl, .ref sp, .int a0, .int a1, .int b0, .int b1, .ref po, .ref to, .ref ba, .ref li, .int lm])), (tb, LA cJ 16 T), (wk, LA cJ 20 W3)]) (wr := []) hP hD hS hA [0, 1, 2] [] rfl rfl (by decide) (by decide) (va_runV (As := [.int (nI t)]) (rest := [.long (lI (smN T k t))]) ⟨hx, hb, hml, hown, hts⟩ (r_minor l D cJ cI g cd d ik ab be a0 a1 b0 b1 lm mm kf tb wk pl sp po to ba li r T W3 t (by first | assumption | omega) (by first | assumption | omega) (by omega) (by omega) (by first | assumption | omega) H.size) (cwV 1 hts (gV tw_495 tw_497 tws_22 tw_3 tw_498) rfl rfl rfl ⟨rfl, hd_M_minor⟩ ⟨Nat.le_of_ble_eq_true rfl, Nat.le_of_ble_eq_true rfl⟩) (xPreV (C := R_M) (T := F_M) (N := 21) (q0 := 0) hN hK (hP.sub (ws' := [(g, .inr (2, [.int cd, .int (nI d), .ref mm, .int ik, .ref kf, .ref tb, .int (nI r), .ref wk, .int ab, .int be, .ref pl, .ref sp, .int a0, .int a1, .int b0, .int b1, .ref po, .ref to, .ref ba, .ref li, .int lm])), (tb, LA cJ 16 T), (wk, LA cJ 20 W3)]) [0, 1, 2] rfl) (hD.sub (ws' := [(g, .inr (2, [.int cd, .int (nI d), .ref mm, .int ik, .ref kf, .ref tb, .int (nI r), .ref wk, .int ab, .int be, .ref pl, .ref sp, .int a0, .int a1, .int b0, .int b1, .ref po, .ref to, .ref ba, .ref li, .int lm])), (tb, LA cJ 16 T), (wk, LA cJ 20 W3)]) [0, 1, 2] (by decide) rfl) rfl rfl) rfl rfl hl.1 rfl (lv_room (Nat.le_of_ble_eq_true rfl)) d_M_sums_29 ⟨Nat.le_of_ble_eq_true rfl, Nat.le_of_ble_eq_true rfl⟩) (fun r_6 u_7 H locs hw_8 hP hD hS => ?_)
            obtain ⟨W2_9, rfl⟩ : ∃ z, z = u_7 := ⟨_, rfl⟩
            try dsimp only at hw_8
            have hP : va_P D vwC [(g, .inr (2, [.int cd, .int (nI d), .ref mm, .int ik, .ref kf, .ref tb, .int (nI r), .ref wk, .int ab, .int be, .ref pl, .ref sp, .int a0, .int a1, .int b0, .int b1, .ref po, .ref to, .ref ba, .ref li, .int lm])), (tb, LA cJ 16 T), (wk, LA cJ 20 W2_9)] H := hP
            have hD : va_D A [(g, .inr (2, [.int cd, .int (nI d), .ref mm, .int ik, .ref kf, .ref tb, .int (nI r), .ref wk, .int ab, .int be, .ref pl, .ref sp, .int a0, .int a1, .int b0, .int b1, .ref po, .ref to, .ref ba, .ref li, .int lm])), (tb, LA cJ 16 T), (wk, LA cJ 20 W2_9)] := hD
            subst hw_8
            refine lv_goto (tgt := 36) hx hb d_M_sums_32 (by decide) ?_
            refine xl_add hx hb d_M_sums_36 ?_
            refine lv_lstore_n (lv' := [(2, .long (lI ((smN T k t) + (pm T t)))), (0, .ref g), (1, .int (nI k)), (4, .int (nI t))]) hx hb d_M_sums_37 rfl hl (by decide) rfl (fun ls hl => ?_)
            refine lv_iinc (v := nI (t + 1)) (lv' := [(4, .int (nI (t + 1))), (2, .long (lI ((smN T k t) + (pm T t)))), (0, .ref g), (1, .int (nI k))]) hx hb d_M_sums_38 hl (k := 3) rfl (nI_add _ _) (by decide) rfl (fun ls hl => ?_)
            refine lv_goto (tgt := 5) hx hb d_M_sums_41 (by decide) ?_
            rw [show smN T k t + pm T t = smN T k (t + 1) from by show _ = smN T k t + (if popN t = k then pm T t else 0); rw [if_pos c23_4]] at hl
            exact ih_5 (t + 1) W2_9 H locs ls (by omega) (by omega) hP hD hS (lv_sub hl [2, 3, 1, 0] rfl)
    exact lp_5 ((2 ^ r - 0) + 1) 0 W0 H locs ls (Nat.zero_le _) (by omega) hP hD hS (lv_sub hl [2, 3, 1, 0] rfl)
  rw [hH, hlc] at key; exact key

def rm_r_findSigns : Room := { frames := 4, cells := 0, slots := 0, locals := 103 }
set_option maxHeartbeats 4000000 in
set_option maxRecDepth 100000 in
/-- the signs -/
theorem r_findSigns (l : Launch) (D : va_G) (cJ cI : ClassId) (g : Nat) (cd : Int32) (d : Nat) (ik : Int32) (a0 : Int32) (a1 : Int32) (b0 : Int32) (b1 : Int32) (lm : Int32) (mm : Nat) (kf : Nat) (tb : Nat) (wk : Nat) (pl : Nat) (sp : Nat) (po : Nat) (to : Nat) (ba : Nat) (li : Nat) (r : Nat) (ab : Int32) (be : Int32) (T : Nat → Int) (W0 : Nat → Int) (hr2 : 2 ≤ r) (hr4 : r ≤ 4) (hB : enB T r (tabB r)) (sz : Nat) : xMv l y_M_findSigns (Cond.code y_M_findSigns b_M_findSigns 10 none :: tW) rm_r_findSigns [.ref g] D vwC [(cJ, .long), (cI, .int)] sz [(g, .inr (2, [.int cd, .int (nI d), .ref mm, .int ik, .ref kf, .ref tb, .int (nI r), .ref wk, .int ab, .int be, .ref pl, .ref sp, .int a0, .int a1, .int b0, .int b1, .ref po, .ref to, .ref ba, .ref li, .int lm])), (tb, LA cJ 16 T), (wk, LA cJ 20 W0)] (fun (uo : (Nat → Int)) => True) (fun (uo : (Nat → Int)) => [(g, .inr (2, [.int cd, .int (nI d), .ref mm, .int ik, .ref kf, .ref tb, .int (nI r), .ref wk, .int (nI (abN T r)), .int (nI (beN T r)), .ref pl, .ref sp, .int a0, .int a1, .int b0, .int b1, .ref po, .ref to, .ref ba, .ref li, .int lm])), (tb, LA cJ 16 T), (wk, LA cJ 20 uo)]) 0 0 := by
  refine xov (cc := b_M_findSigns) (maxL := 10) (by decide) rfl (Nat.le_of_ble_eq_true rfl) ?_
  intro p e s m args below meth c Q A hx hb hml hts hown hN hA hS hP hK hD hret ls hl
  have hl : lv_has ls 10 [(0, .ref g)] := hl
  obtain ⟨H, hH⟩ : ∃ z, z = s.heap := ⟨_, rfl⟩
  obtain ⟨locs, hlc⟩ : ∃ z : List Loc, z = [] := ⟨_, rfl⟩
  rw [← hH] at hP
  have hS : va_S A s.heap H locs := by rw [hH, hlc]; exact hS
  have key : W p l e rm_r_findSigns s m args below meth c H locs 0 0 Q (F0 m 0 ls []) := by
    refine lv_aload_n hx hb d_M_findSigns_0 rfl (lv_at hl 0 rfl) ?_
    refine lv_iconst (v := nI 0) hx hb d_M_findSigns_1 (by decide) ?_
    refine va_put (D := D) (ci := 2) (v := .int (nI 0)) (ty := .int) (C := R_M) (T := F_M) (N := 21) hx hb hts iw_M ft_M ft_M_ok n_M hown hK hP hD hS 0 rfl rfl 8 (by decide) (hts _ tw_395) (fun _ h9 => h9) rfl (by decide +kernel) rfl rfl (Nat.le_of_ble_eq_true rfl) d_M_findSigns_2 (fun H locs hP hD hS => ?_)
    have hP : va_P D vwC [(g, .inr (2, [.int cd, .int (nI d), .ref mm, .int ik, .ref kf, .ref tb, .int (nI r), .ref wk, .int (nI 0), .int be, .ref pl, .ref sp, .int a0, .int a1, .int b0, .int b1, .ref po, .ref to, .ref ba, .ref li, .int lm])), (tb, LA cJ 16 T), (wk, LA cJ 20 W0)] H := hP
    have hD : va_D A [(g, .inr (2, [.int cd, .int (nI d), .ref mm, .int ik, .ref kf, .ref tb, .int (nI r), .ref wk, .int (nI 0), .int be, .ref pl, .ref sp, .int a0, .int a1, .int b0, .int b1, .ref po, .ref to, .ref ba, .ref li, .int lm])), (tb, LA cJ 16 T), (wk, LA cJ 20 W0)] := hD
    refine lv_aload_n hx hb d_M_findSigns_5 rfl (lv_at hl 0 rfl) ?_
    refine lv_iconst (v := nI 0) hx hb d_M_findSigns_6 (by decide) ?_
    refine va_put (D := D) (ci := 2) (v := .int (nI 0)) (ty := .int) (C := R_M) (T := F_M) (N := 21) hx hb hts iw_M ft_M ft_M_ok n_M hown hK hP hD hS 0 rfl rfl 9 (by decide) (hts _ tw_396) (fun _ h9 => h9) rfl (by decide +kernel) rfl rfl (Nat.le_of_ble_eq_true rfl) d_M_findSigns_7 (fun H locs hP hD hS => ?_)
    have hP : va_P D vwC [(g, .inr (2, [.int cd, .int (nI d), .ref mm, .int ik, .ref kf, .ref tb, .int (nI r), .ref wk, .int (nI 0), .int (nI 0), .ref pl, .ref sp, .int a0, .int a1, .int b0, .int b1, .ref po, .ref to, .ref ba, .ref li, .int lm])), (tb, LA cJ 16 T), (wk, LA cJ 20 W0)] H := hP
    have hD : va_D A [(g, .inr (2, [.int cd, .int (nI d), .ref mm, .int ik, .ref kf, .ref tb, .int (nI r), .ref wk, .int (nI 0), .int (nI 0), .ref pl, .ref sp, .int a0, .int a1, .int b0, .int b1, .ref po, .ref to, .ref ba, .ref li, .int lm])), (tb, LA cJ 16 T), (wk, LA cJ 20 W0)] := hD
    refine lv_lconst (v := lI 1) hx hb d_M_findSigns_10 (by decide) ?_
    refine lv_lstore_n (lv' := [(1, .long (lI 1)), (0, .ref g)]) hx hb d_M_findSigns_11 rfl hl (by decide) rfl (fun ls hl => ?_)
    refine lv_lconst (v := lI 1) hx hb d_M_findSigns_12 (by decide) ?_
    refine lv_lstore_n (lv' := [(3, .long (lI 1)), (1, .long (lI 1)), (0, .ref g)]) hx hb d_M_findSigns_13 rfl hl (by decide) rfl (fun ls hl => ?_)
    refine lv_iconst (v := nI 1) hx hb d_M_findSigns_14 (by decide) ?_
    refine lv_istore (lv' := [(5, .int (nI 1)), (3, .long (lI 1)), (1, .long (lI 1)), (0, .ref g)]) hx hb d_M_findSigns_15 hl (by decide) rfl (fun ls hl => ?_)
    have lp_17 : ∀ (n_17 : Nat) (k : Nat) (W3 : Nat → Int) (av : Nat) (bv : Nat) (uv : Int) (dv : Int) (H : Heap) (locs : List Loc) (ls : Array Slot), (k ≤ r) → (fsx (eS T r) k = (av, bv, uv, dv)) → (lB uv) → (lB dv) → (r - k) < n_17 → va_P D vwC [(g, .inr (2, [.int cd, .int (nI d), .ref mm, .int ik, .ref kf, .ref tb, .int (nI r), .ref wk, .int (nI av), .int (nI bv), .ref pl, .ref sp, .int a0, .int a1, .int b0, .int b1, .ref po, .ref to, .ref ba, .ref li, .int lm])), (tb, LA cJ 16 T), (wk, LA cJ 20 W3)] H → va_D A [(g, .inr (2, [.int cd, .int (nI d), .ref mm, .int ik, .ref kf, .ref tb, .int (nI r), .ref wk, .int (nI av), .int (nI bv), .ref pl, .ref sp, .int a0, .int a1, .int b0, .int b1, .ref po, .ref to, .ref ba, .ref li, .int lm])), (tb, LA cJ 16 T), (wk, LA cJ 20 W3)] → va_S A s.heap H locs → lv_has ls 10 [(0, .ref g), (1, .long (lI uv)), (3, .long (lI dv)), (5, .int (nI (k + 1)))] → W p l e rm_r_findSigns s m args below meth c H locs 0 0 Q (F0 m 17 ls []) := by
      intro n_17
      induction n_17 with
      | zero => intro k W3 av bv uv dv H locs ls hk hf hlu hld hn_17; exact absurd hn_17 (Nat.not_lt_zero _)
      | succ n_17 ih_17 =>
        intro k W3 av bv uv dv H locs ls hk hf hlu hld hn_17 hP hD hS hl
        refine lv_iload hx hb d_M_findSigns_17 (lv_at hl 3 rfl) ?_
        refine lv_aload_n hx hb d_M_findSigns_19 rfl (lv_at hl 0 rfl) ?_
        refine va_get (D := D) (ci := 2) (v := .int (nI r)) (C := R_M) (T := F_M) (N := 21) hx hb hts iw_M hown hK hP 0 rfl rfl 6 (by decide) (hts _ tw_393) (fun _ h9 => h9) rfl d_M_findSigns_20 ?_
        refine xn_gt (tgt := 151) hx hb (by omega) (by omega) d_M_findSigns_23 (by decide) (fun c23_0 => ?_) (fun c23_0 => ?_)
        · skip
          have hkr9 : k = r := by omega
          subst hkr9
          have hA9 : av = abN T k := by unfold abN; rw [hf]
          have hB9 : bv = beN T k := by unfold beN; rw [hf]
          rw [hA9, hB9] at hP hD
          exact hret H locs _ ls W3 d_M_findSigns_151 trivial hP hD hS
        · skip
          refine lv_aload_n hx hb d_M_findSigns_26 rfl (lv_at hl 0 rfl) ?_
          refine lv_iload hx hb d_M_findSigns_27 (lv_at hl 3 rfl) ?_
          refine xcl (wc := [(g, .inr (2, [.int cd, .int (nI d), .ref mm, .int ik, .ref kf, .ref tb, .int (nI r), .ref wk, .int (nI av), .int (nI bv), .ref pl, .ref sp, .int a0, .int a1, .int b0, .int b1, .ref po, .ref to, .ref ba, .ref li, .int lm])), (tb, LA cJ 16 T), (wk, LA cJ 20 W3)]) (wr := []) hP hD hS hA [0, 1, 2] [] rfl rfl (by decide) (by decide) (va_runV (As := [.int (nI (k + 1))]) (rest := []) ⟨hx, hb, hml, hown, hts⟩ (r_sums l D cJ cI g cd d ik (nI av) (nI bv) a0 a1 b0 b1 lm mm kf tb wk pl sp po to ba li r T W3 (k + 1) (by first | assumption | omega) (by first | assumption | omega) (by omega) (by omega) (by first | assumption | omega) H.size) (cwV 1 hts (gV tw_488 tw_490 tws_21 tw_3 tw_491) rfl rfl rfl ⟨rfl, hd_M_sums⟩ ⟨Nat.le_of_ble_eq_true rfl, Nat.le_of_ble_eq_true rfl⟩) (xPreV (C := R_M) (T := F_M) (N := 21) (q0 := 0) hN hK (hP.sub (ws' := [(g, .inr (2, [.int cd, .int (nI d), .ref mm, .int ik, .ref kf, .ref tb, .int (nI r), .ref wk, .int (nI av), .int (nI bv), .ref pl, .ref sp, .int a0, .int a1, .int b0, .int b1, .ref po, .ref to, .ref ba, .ref li, .int lm])), (tb, LA cJ 16 T), (wk, LA cJ 20 W3)]) [0, 1, 2] rfl) (hD.sub (ws' := [(g, .inr (2, [.int cd, .int (nI d), .ref mm, .int ik, .ref kf, .ref tb, .int (nI r), .ref wk, .int (nI av), .int (nI bv), .ref pl, .ref sp, .int a0, .int a1, .int b0, .int b1, .ref po, .ref to, .ref ba, .ref li, .int lm])), (tb, LA cJ 16 T), (wk, LA cJ 20 W3)]) [0, 1, 2] (by decide) rfl) rfl rfl) rfl rfl hl.1 rfl (lv_room (Nat.le_of_ble_eq_true rfl)) d_M_findSigns_29 ⟨Nat.le_of_ble_eq_true rfl, Nat.le_of_ble_eq_true rfl⟩) (fun r_2 u_3 H locs hw_4 hP hD hS => ?_)
          obtain ⟨W9, rfl⟩ : ∃ z, z = u_3 := ⟨_, rfl⟩
          try dsimp only at hw_4
          have hP : va_P D vwC [(g, .inr (2, [.int cd, .int (nI d), .ref mm, .int ik, .ref kf, .ref tb, .int (nI r), .ref wk, .int (nI av), .int (nI bv), .ref pl, .ref sp, .int a0, .int a1, .int b0, .int b1, .ref po, .ref to, .ref ba, .ref li, .int lm])), (tb, LA cJ 16 T), (wk, LA cJ 20 W9)] H := hP
          have hD : va_D A [(g, .inr (2, [.int cd, .int (nI d), .ref mm, .int ik, .ref kf, .ref tb, .int (nI r), .ref wk, .int (nI av), .int (nI bv), .ref pl, .ref sp, .int a0, .int a1, .int b0, .int b1, .ref po, .ref to, .ref ba, .ref li, .int lm])), (tb, LA cJ 16 T), (wk, LA cJ 20 W9)] := hD
          subst hw_4
          have hEB := eS_B hr2 hr4 hB (k + 1) (by omega)
          have hlE : lB (eS T r (k + 1)) := lB_of hEB (by decide)
          have hlN : lB (-(eS T r (k + 1))) := lB_of (negB hEB) (by decide)
          refine lv_lstore (lv' := [(6, .long (lI (eS T r (k + 1)))), (0, .ref g), (1, .long (lI uv)), (3, .long (lI dv)), (5, .int (nI (k + 1)))]) hx hb d_M_findSigns_32 hl (by decide) rfl (fun ls hl => ?_)
          refine lv_iload hx hb d_M_findSigns_34 (lv_at hl 4 rfl) ?_
          refine lv_iconst (v := nI 2) hx hb d_M_findSigns_36 (by decide) ?_
          refine xn_rem hx hb (by omega) (by omega) (by omega) d_M_findSigns_37 ?_
          refine lv_iconst (v := nI 1) hx hb d_M_findSigns_38 (by decide) ?_
          refine xn_ne (tgt := 48) hx hb (by omega) (by omega) d_M_findSigns_39 (by decide) (fun c39_4 => ?_) (fun c39_4 => ?_)
          · skip
            refine lv_lload hx hb d_M_findSigns_48 (lv_at hl 0 rfl) ?_
            refine lv_lstore (lv' := [(8, .long (lI (eS T r (k + 1)))), (6, .long (lI (eS T r (k + 1)))), (0, .ref g), (1, .long (lI uv)), (3, .long (lI dv)), (5, .int (nI (k + 1)))]) hx hb d_M_findSigns_50 hl (by decide) rfl (fun ls hl => ?_)
            refine lv_lload hx hb d_M_findSigns_52 (lv_at hl 1 rfl) ?_
            refine lv_lconst (v := lI 0) hx hb d_M_findSigns_54 (by decide) ?_
            refine xl_eq (tgt := 145) hx hb hlE ⟨by decide, by decide⟩ d_M_findSigns_55 d_M_findSigns_56 (by decide) (fun c56_5 => ?_) (fun c56_5 => ?_)
            · skip
              refine lv_iinc (v := nI ((k + 1) + 1)) (lv' := [(5, .int (nI ((k + 1) + 1))), (8, .long (lI (eS T r (k + 1)))), (6, .long (lI (eS T r (k + 1)))), (0, .ref g), (1, .long (lI uv)), (3, .long (lI dv))]) hx hb d_M_findSigns_145 hl (k := 5) rfl (nI_add _ _) (by decide) rfl (fun ls hl => ?_)
              refine lv_goto (tgt := 17) hx hb d_M_findSigns_148 (by decide) ?_
              exact ih_17 (k + 1) W9 av bv uv dv H locs ls (by omega) (by rw [fsx_z c56_5]; exact hf) hlu hld (by omega) hP hD hS (lv_sub hl [3, 4, 5, 0] rfl)
            · skip
              refine lv_aload_n hx hb d_M_findSigns_59 rfl (lv_at hl 2 rfl) ?_
              refine lv_dup hx hb d_M_findSigns_60 rfl ?_
              refine va_get (D := D) (ci := 2) (v := .int (nI bv)) (C := R_M) (T := F_M) (N := 21) hx hb hts iw_M hown hK hP 0 rfl rfl 9 (by decide) (hts _ tw_396) (fun _ h9 => h9) rfl d_M_findSigns_61 ?_
              refine lv_lload hx hb d_M_findSigns_64 (lv_at hl 1 rfl) ?_
              refine lv_lconst (v := lI 0) hx hb d_M_findSigns_66 (by decide) ?_
              refine xl_le (tgt := 75) hx hb hlE ⟨by decide, by decide⟩ d_M_findSigns_67 d_M_findSigns_68 (by decide) (fun c68_6 => ?_) (fun c68_6 => ?_)
              · skip
                refine lv_iconst (v := nI 0) hx hb d_M_findSigns_75 (by decide) ?_
                refine lv_lload_n hx hb d_M_findSigns_76 rfl (lv_at hl 4 rfl) ?_
                refine lv_lconst (v := lI 0) hx hb d_M_findSigns_77 (by decide) ?_
                refine xl_le (tgt := 86) hx hb hld ⟨by decide, by decide⟩ d_M_findSigns_78 d_M_findSigns_79 (by decide) (fun c79_7 => ?_) (fun c79_7 => ?_)
                · skip
                  refine lv_iconst (v := nI 0) hx hb d_M_findSigns_86 (by decide) ?_
                  refine xn_eq (tgt := 94) hx hb (by omega) (by omega) d_M_findSigns_87 (by decide) (fun c87_8 => ?_) (fun c87_8 => absurd c87_8 (by decide))
                  refine lv_iconst (v := nI 0) hx hb d_M_findSigns_94 (by decide) ?_
                  refine xn_add hx hb d_M_findSigns_95 ?_
                  refine va_put (D := D) (ci := 2) (v := .int (nI (bv + 0))) (ty := .int) (C := R_M) (T := F_M) (N := 21) hx hb hts iw_M ft_M ft_M_ok n_M hown hK hP hD hS 0 rfl rfl 9 (by decide) (hts _ tw_396) (fun _ h9 => h9) rfl (by decide +kernel) rfl rfl (Nat.le_of_ble_eq_true rfl) d_M_findSigns_96 (fun H locs hP hD hS => ?_)
                  have hP : va_P D vwC [(g, .inr (2, [.int cd, .int (nI d), .ref mm, .int ik, .ref kf, .ref tb, .int (nI r), .ref wk, .int (nI av), .int (nI (bv + 0)), .ref pl, .ref sp, .int a0, .int a1, .int b0, .int b1, .ref po, .ref to, .ref ba, .ref li, .int lm])), (tb, LA cJ 16 T), (wk, LA cJ 20 W9)] H := hP
                  have hD : va_D A [(g, .inr (2, [.int cd, .int (nI d), .ref mm, .int ik, .ref kf, .ref tb, .int (nI r), .ref wk, .int (nI av), .int (nI (bv + 0)), .ref pl, .ref sp, .int a0, .int a1, .int b0, .int b1, .ref po, .ref to, .ref ba, .ref li, .int lm])), (tb, LA cJ 16 T), (wk, LA cJ 20 W9)] := hD
                  refine lv_aload_n hx hb d_M_findSigns_99 rfl (lv_at hl 2 rfl) ?_
                  refine lv_dup hx hb d_M_findSigns_100 rfl ?_
                  refine va_get (D := D) (ci := 2) (v := .int (nI av)) (C := R_M) (T := F_M) (N := 21) hx hb hts iw_M hown hK hP 0 rfl rfl 8 (by decide) (hts _ tw_395) (fun _ h9 => h9) rfl d_M_findSigns_101 ?_
                  refine lv_lload hx hb d_M_findSigns_104 (lv_at hl 0 rfl) ?_
                  refine lv_lconst (v := lI 0) hx hb d_M_findSigns_106 (by decide) ?_
                  refine xl_le (tgt := 115) hx hb (by first | exact hlE | exact hlN) ⟨by decide, by decide⟩ d_M_findSigns_107 d_M_findSigns_108 (by decide) (fun c108_9 => ?_) (fun c108_9 => ?_)
                  · skip
                    refine lv_iconst (v := nI 0) hx hb d_M_findSigns_115 (by decide) ?_
                    refine lv_lload_n hx hb d_M_findSigns_116 rfl (lv_at hl 3 rfl) ?_
                    refine lv_lconst (v := lI 0) hx hb d_M_findSigns_117 (by decide) ?_
                    refine xl_le (tgt := 126) hx hb hlu ⟨by decide, by decide⟩ d_M_findSigns_118 d_M_findSigns_119 (by decide) (fun c119_10 => ?_) (fun c119_10 => ?_)
                    · skip
                      refine lv_iconst (v := nI 0) hx hb d_M_findSigns_126 (by decide) ?_
                      refine xn_eq (tgt := 134) hx hb (by omega) (by omega) d_M_findSigns_127 (by decide) (fun c127_11 => ?_) (fun c127_11 => absurd c127_11 (by decide))
                      refine lv_iconst (v := nI 0) hx hb d_M_findSigns_134 (by decide) ?_
                      refine xn_add hx hb d_M_findSigns_135 ?_
                      refine va_put (D := D) (ci := 2) (v := .int (nI (av + 0))) (ty := .int) (C := R_M) (T := F_M) (N := 21) hx hb hts iw_M ft_M ft_M_ok n_M hown hK hP hD hS 0 rfl rfl 8 (by decide) (hts _ tw_395) (fun _ h9 => h9) rfl (by decide +kernel) rfl rfl (Nat.le_of_ble_eq_true rfl) d_M_findSigns_136 (fun H locs hP hD hS => ?_)
                      have hP : va_P D vwC [(g, .inr (2, [.int cd, .int (nI d), .ref mm, .int ik, .ref kf, .ref tb, .int (nI r), .ref wk, .int (nI (av + 0)), .int (nI (bv + 0)), .ref pl, .ref sp, .int a0, .int a1, .int b0, .int b1, .ref po, .ref to, .ref ba, .ref li, .int lm])), (tb, LA cJ 16 T), (wk, LA cJ 20 W9)] H := hP
                      have hD : va_D A [(g, .inr (2, [.int cd, .int (nI d), .ref mm, .int ik, .ref kf, .ref tb, .int (nI r), .ref wk, .int (nI (av + 0)), .int (nI (bv + 0)), .ref pl, .ref sp, .int a0, .int a1, .int b0, .int b1, .ref po, .ref to, .ref ba, .ref li, .int lm])), (tb, LA cJ 16 T), (wk, LA cJ 20 W9)] := hD
                      refine lv_lload hx hb d_M_findSigns_139 (lv_at hl 1 rfl) ?_
                      refine lv_lstore_n (lv' := [(3, .long (lI (eS T r (k + 1)))), (8, .long (lI (eS T r (k + 1)))), (6, .long (lI (eS T r (k + 1)))), (0, .ref g), (1, .long (lI uv)), (5, .int (nI (k + 1)))]) hx hb d_M_findSigns_141 rfl hl (by decide) rfl (fun ls hl => ?_)
                      refine lv_lload hx hb d_M_findSigns_142 (lv_at hl 1 rfl) ?_
                      refine lv_lstore_n (lv' := [(1, .long (lI (eS T r (k + 1)))), (3, .long (lI (eS T r (k + 1)))), (8, .long (lI (eS T r (k + 1)))), (6, .long (lI (eS T r (k + 1)))), (0, .ref g), (5, .int (nI (k + 1)))]) hx hb d_M_findSigns_144 rfl hl (by decide) rfl (fun ls hl => ?_)
                      refine lv_iinc (v := nI ((k + 1) + 1)) (lv' := [(5, .int (nI ((k + 1) + 1))), (1, .long (lI (eS T r (k + 1)))), (3, .long (lI (eS T r (k + 1)))), (8, .long (lI (eS T r (k + 1)))), (6, .long (lI (eS T r (k + 1)))), (0, .ref g)]) hx hb d_M_findSigns_145 hl (k := 5) rfl (nI_add _ _) (by decide) rfl (fun ls hl => ?_)
                      refine lv_goto (tgt := 17) hx hb d_M_findSigns_148 (by decide) ?_
                      exact ih_17 (k + 1) W9 (av + 0) (bv + 0) (eS T r (k + 1)) (eS T r (k + 1)) H locs ls (by omega) (by rw [fsx_n hf c56_5, tnE_e (show ¬ (k + 1) % 2 = 1 from by omega), x01_s (s := eS T r (k + 1)) (t := uv) (by omega), x01_s (s := eS T r (k + 1)) (t := dv) (by omega)]) (by unfold lB at *; omega) hlE (by omega) hP hD hS (lv_sub hl [5, 1, 2, 0] rfl)
                    · skip
                      refine lv_iconst (v := nI 1) hx hb d_M_findSigns_122 (by decide) ?_
                      refine lv_goto (tgt := 127) hx hb d_M_findSigns_123 (by decide) ?_
                      refine xn_eq (tgt := 134) hx hb (by omega) (by omega) d_M_findSigns_127 (by decide) (fun c127_12 => absurd c127_12 (by decide)) (fun c127_12 => ?_)
                      refine lv_iconst (v := nI 1) hx hb d_M_findSigns_130 (by decide) ?_
                      refine lv_goto (tgt := 135) hx hb d_M_findSigns_131 (by decide) ?_
                      refine xn_add hx hb d_M_findSigns_135 ?_
                      refine va_put (D := D) (ci := 2) (v := .int (nI (av + 1))) (ty := .int) (C := R_M) (T := F_M) (N := 21) hx hb hts iw_M ft_M ft_M_ok n_M hown hK hP hD hS 0 rfl rfl 8 (by decide) (hts _ tw_395) (fun _ h9 => h9) rfl (by decide +kernel) rfl rfl (Nat.le_of_ble_eq_true rfl) d_M_findSigns_136 (fun H locs hP hD hS => ?_)
                      have hP : va_P D vwC [(g, .inr (2, [.int cd, .int (nI d), .ref mm, .int ik, .ref kf, .ref tb, .int (nI r), .ref wk, .int (nI (av + 1)), .int (nI (bv + 0)), .ref pl, .ref sp, .int a0, .int a1, .int b0, .int b1, .ref po, .ref to, .ref ba, .ref li, .int lm])), (tb, LA cJ 16 T), (wk, LA cJ 20 W9)] H := hP
                      have hD : va_D A [(g, .inr (2, [.int cd, .int (nI d), .ref mm, .int ik, .ref kf, .ref tb, .int (nI r), .ref wk, .int (nI (av + 1)), .int (nI (bv + 0)), .ref pl, .ref sp, .int a0, .int a1, .int b0, .int b1, .ref po, .ref to, .ref ba, .ref li, .int lm])), (tb, LA cJ 16 T), (wk, LA cJ 20 W9)] := hD
                      refine lv_lload hx hb d_M_findSigns_139 (lv_at hl 1 rfl) ?_
                      refine lv_lstore_n (lv' := [(3, .long (lI (eS T r (k + 1)))), (8, .long (lI (eS T r (k + 1)))), (6, .long (lI (eS T r (k + 1)))), (0, .ref g), (1, .long (lI uv)), (5, .int (nI (k + 1)))]) hx hb d_M_findSigns_141 rfl hl (by decide) rfl (fun ls hl => ?_)
                      refine lv_lload hx hb d_M_findSigns_142 (lv_at hl 1 rfl) ?_
                      refine lv_lstore_n (lv' := [(1, .long (lI (eS T r (k + 1)))), (3, .long (lI (eS T r (k + 1)))), (8, .long (lI (eS T r (k + 1)))), (6, .long (lI (eS T r (k + 1)))), (0, .ref g), (5, .int (nI (k + 1)))]) hx hb d_M_findSigns_144 rfl hl (by decide) rfl (fun ls hl => ?_)
                      refine lv_iinc (v := nI ((k + 1) + 1)) (lv' := [(5, .int (nI ((k + 1) + 1))), (1, .long (lI (eS T r (k + 1)))), (3, .long (lI (eS T r (k + 1)))), (8, .long (lI (eS T r (k + 1)))), (6, .long (lI (eS T r (k + 1)))), (0, .ref g)]) hx hb d_M_findSigns_145 hl (k := 5) rfl (nI_add _ _) (by decide) rfl (fun ls hl => ?_)
                      refine lv_goto (tgt := 17) hx hb d_M_findSigns_148 (by decide) ?_
                      exact ih_17 (k + 1) W9 (av + 1) (bv + 0) (eS T r (k + 1)) (eS T r (k + 1)) H locs ls (by omega) (by rw [fsx_n hf c56_5, tnE_e (show ¬ (k + 1) % 2 = 1 from by omega), x01_d (s := eS T r (k + 1)) (t := uv) (by omega), x01_s (s := eS T r (k + 1)) (t := dv) (by omega)]) (by unfold lB at *; omega) hlE (by omega) hP hD hS (lv_sub hl [5, 1, 2, 0] rfl)
                  · skip
                    refine lv_iconst (v := nI 1) hx hb d_M_findSigns_111 (by decide) ?_
                    refine lv_goto (tgt := 116) hx hb d_M_findSigns_112 (by decide) ?_
                    refine lv_lload_n hx hb d_M_findSigns_116 rfl (lv_at hl 3 rfl) ?_
                    refine lv_lconst (v := lI 0) hx hb d_M_findSigns_117 (by decide) ?_
                    refine xl_le (tgt := 126) hx hb hlu ⟨by decide, by decide⟩ d_M_findSigns_118 d_M_findSigns_119 (by decide) (fun c119_13 => ?_) (fun c119_13 => ?_)
                    · skip
                      refine lv_iconst (v := nI 0) hx hb d_M_findSigns_126 (by decide) ?_
                      refine xn_eq (tgt := 134) hx hb (by omega) (by omega) d_M_findSigns_127 (by decide) (fun c127_14 => absurd c127_14 (by decide)) (fun c127_14 => ?_)
                      refine lv_iconst (v := nI 1) hx hb d_M_findSigns_130 (by decide) ?_
                      refine lv_goto (tgt := 135) hx hb d_M_findSigns_131 (by decide) ?_
                      refine xn_add hx hb d_M_findSigns_135 ?_
                      refine va_put (D := D) (ci := 2) (v := .int (nI (av + 1))) (ty := .int) (C := R_M) (T := F_M) (N := 21) hx hb hts iw_M ft_M ft_M_ok n_M hown hK hP hD hS 0 rfl rfl 8 (by decide) (hts _ tw_395) (fun _ h9 => h9) rfl (by decide +kernel) rfl rfl (Nat.le_of_ble_eq_true rfl) d_M_findSigns_136 (fun H locs hP hD hS => ?_)
                      have hP : va_P D vwC [(g, .inr (2, [.int cd, .int (nI d), .ref mm, .int ik, .ref kf, .ref tb, .int (nI r), .ref wk, .int (nI (av + 1)), .int (nI (bv + 0)), .ref pl, .ref sp, .int a0, .int a1, .int b0, .int b1, .ref po, .ref to, .ref ba, .ref li, .int lm])), (tb, LA cJ 16 T), (wk, LA cJ 20 W9)] H := hP
                      have hD : va_D A [(g, .inr (2, [.int cd, .int (nI d), .ref mm, .int ik, .ref kf, .ref tb, .int (nI r), .ref wk, .int (nI (av + 1)), .int (nI (bv + 0)), .ref pl, .ref sp, .int a0, .int a1, .int b0, .int b1, .ref po, .ref to, .ref ba, .ref li, .int lm])), (tb, LA cJ 16 T), (wk, LA cJ 20 W9)] := hD
                      refine lv_lload hx hb d_M_findSigns_139 (lv_at hl 1 rfl) ?_
                      refine lv_lstore_n (lv' := [(3, .long (lI (eS T r (k + 1)))), (8, .long (lI (eS T r (k + 1)))), (6, .long (lI (eS T r (k + 1)))), (0, .ref g), (1, .long (lI uv)), (5, .int (nI (k + 1)))]) hx hb d_M_findSigns_141 rfl hl (by decide) rfl (fun ls hl => ?_)
                      refine lv_lload hx hb d_M_findSigns_142 (lv_at hl 1 rfl) ?_
                      refine lv_lstore_n (lv' := [(1, .long (lI (eS T r (k + 1)))), (3, .long (lI (eS T r (k + 1)))), (8, .long (lI (eS T r (k + 1)))), (6, .long (lI (eS T r (k + 1)))), (0, .ref g), (5, .int (nI (k + 1)))]) hx hb d_M_findSigns_144 rfl hl (by decide) rfl (fun ls hl => ?_)
                      refine lv_iinc (v := nI ((k + 1) + 1)) (lv' := [(5, .int (nI ((k + 1) + 1))), (1, .long (lI (eS T r (k + 1)))), (3, .long (lI (eS T r (k + 1)))), (8, .long (lI (eS T r (k + 1)))), (6, .long (lI (eS T r (k + 1)))), (0, .ref g)]) hx hb d_M_findSigns_145 hl (k := 5) rfl (nI_add _ _) (by decide) rfl (fun ls hl => ?_)
                      refine lv_goto (tgt := 17) hx hb d_M_findSigns_148 (by decide) ?_
                      exact ih_17 (k + 1) W9 (av + 1) (bv + 0) (eS T r (k + 1)) (eS T r (k + 1)) H locs ls (by omega) (by rw [fsx_n hf c56_5, tnE_e (show ¬ (k + 1) % 2 = 1 from by omega), x01_d (s := eS T r (k + 1)) (t := uv) (by omega), x01_s (s := eS T r (k + 1)) (t := dv) (by omega)]) (by unfold lB at *; omega) hlE (by omega) hP hD hS (lv_sub hl [5, 1, 2, 0] rfl)
                    · skip
                      refine lv_iconst (v := nI 1) hx hb d_M_findSigns_122 (by decide) ?_
                      refine lv_goto (tgt := 127) hx hb d_M_findSigns_123 (by decide) ?_
                      refine xn_eq (tgt := 134) hx hb (by omega) (by omega) d_M_findSigns_127 (by decide) (fun c127_15 => ?_) (fun c127_15 => absurd c127_15 (by decide))
                      refine lv_iconst (v := nI 0) hx hb d_M_findSigns_134 (by decide) ?_
                      refine xn_add hx hb d_M_findSigns_135 ?_
                      refine va_put (D := D) (ci := 2) (v := .int (nI (av + 0))) (ty := .int) (C := R_M) (T := F_M) (N := 21) hx hb hts iw_M ft_M ft_M_ok n_M hown hK hP hD hS 0 rfl rfl 8 (by decide) (hts _ tw_395) (fun _ h9 => h9) rfl (by decide +kernel) rfl rfl (Nat.le_of_ble_eq_true rfl) d_M_findSigns_136 (fun H locs hP hD hS => ?_)
                      have hP : va_P D vwC [(g, .inr (2, [.int cd, .int (nI d), .ref mm, .int ik, .ref kf, .ref tb, .int (nI r), .ref wk, .int (nI (av + 0)), .int (nI (bv + 0)), .ref pl, .ref sp, .int a0, .int a1, .int b0, .int b1, .ref po, .ref to, .ref ba, .ref li, .int lm])), (tb, LA cJ 16 T), (wk, LA cJ 20 W9)] H := hP
                      have hD : va_D A [(g, .inr (2, [.int cd, .int (nI d), .ref mm, .int ik, .ref kf, .ref tb, .int (nI r), .ref wk, .int (nI (av + 0)), .int (nI (bv + 0)), .ref pl, .ref sp, .int a0, .int a1, .int b0, .int b1, .ref po, .ref to, .ref ba, .ref li, .int lm])), (tb, LA cJ 16 T), (wk, LA cJ 20 W9)] := hD
                      refine lv_lload hx hb d_M_findSigns_139 (lv_at hl 1 rfl) ?_
                      refine lv_lstore_n (lv' := [(3, .long (lI (eS T r (k + 1)))), (8, .long (lI (eS T r (k + 1)))), (6, .long (lI (eS T r (k + 1)))), (0, .ref g), (1, .long (lI uv)), (5, .int (nI (k + 1)))]) hx hb d_M_findSigns_141 rfl hl (by decide) rfl (fun ls hl => ?_)
                      refine lv_lload hx hb d_M_findSigns_142 (lv_at hl 1 rfl) ?_
                      refine lv_lstore_n (lv' := [(1, .long (lI (eS T r (k + 1)))), (3, .long (lI (eS T r (k + 1)))), (8, .long (lI (eS T r (k + 1)))), (6, .long (lI (eS T r (k + 1)))), (0, .ref g), (5, .int (nI (k + 1)))]) hx hb d_M_findSigns_144 rfl hl (by decide) rfl (fun ls hl => ?_)
                      refine lv_iinc (v := nI ((k + 1) + 1)) (lv' := [(5, .int (nI ((k + 1) + 1))), (1, .long (lI (eS T r (k + 1)))), (3, .long (lI (eS T r (k + 1)))), (8, .long (lI (eS T r (k + 1)))), (6, .long (lI (eS T r (k + 1)))), (0, .ref g)]) hx hb d_M_findSigns_145 hl (k := 5) rfl (nI_add _ _) (by decide) rfl (fun ls hl => ?_)
                      refine lv_goto (tgt := 17) hx hb d_M_findSigns_148 (by decide) ?_
                      exact ih_17 (k + 1) W9 (av + 0) (bv + 0) (eS T r (k + 1)) (eS T r (k + 1)) H locs ls (by omega) (by rw [fsx_n hf c56_5, tnE_e (show ¬ (k + 1) % 2 = 1 from by omega), x01_s (s := eS T r (k + 1)) (t := uv) (by omega), x01_s (s := eS T r (k + 1)) (t := dv) (by omega)]) (by unfold lB at *; omega) hlE (by omega) hP hD hS (lv_sub hl [5, 1, 2, 0] rfl)
                · skip
                  refine lv_iconst (v := nI 1) hx hb d_M_findSigns_82 (by decide) ?_
                  refine lv_goto (tgt := 87) hx hb d_M_findSigns_83 (by decide) ?_
                  refine xn_eq (tgt := 94) hx hb (by omega) (by omega) d_M_findSigns_87 (by decide) (fun c87_16 => absurd c87_16 (by decide)) (fun c87_16 => ?_)
                  refine lv_iconst (v := nI 1) hx hb d_M_findSigns_90 (by decide) ?_
                  refine lv_goto (tgt := 95) hx hb d_M_findSigns_91 (by decide) ?_
                  refine xn_add hx hb d_M_findSigns_95 ?_
                  refine va_put (D := D) (ci := 2) (v := .int (nI (bv + 1))) (ty := .int) (C := R_M) (T := F_M) (N := 21) hx hb hts iw_M ft_M ft_M_ok n_M hown hK hP hD hS 0 rfl rfl 9 (by decide) (hts _ tw_396) (fun _ h9 => h9) rfl (by decide +kernel) rfl rfl (Nat.le_of_ble_eq_true rfl) d_M_findSigns_96 (fun H locs hP hD hS => ?_)
                  have hP : va_P D vwC [(g, .inr (2, [.int cd, .int (nI d), .ref mm, .int ik, .ref kf, .ref tb, .int (nI r), .ref wk, .int (nI av), .int (nI (bv + 1)), .ref pl, .ref sp, .int a0, .int a1, .int b0, .int b1, .ref po, .ref to, .ref ba, .ref li, .int lm])), (tb, LA cJ 16 T), (wk, LA cJ 20 W9)] H := hP
                  have hD : va_D A [(g, .inr (2, [.int cd, .int (nI d), .ref mm, .int ik, .ref kf, .ref tb, .int (nI r), .ref wk, .int (nI av), .int (nI (bv + 1)), .ref pl, .ref sp, .int a0, .int a1, .int b0, .int b1, .ref po, .ref to, .ref ba, .ref li, .int lm])), (tb, LA cJ 16 T), (wk, LA cJ 20 W9)] := hD
                  refine lv_aload_n hx hb d_M_findSigns_99 rfl (lv_at hl 2 rfl) ?_
                  refine lv_dup hx hb d_M_findSigns_100 rfl ?_
                  refine va_get (D := D) (ci := 2) (v := .int (nI av)) (C := R_M) (T := F_M) (N := 21) hx hb hts iw_M hown hK hP 0 rfl rfl 8 (by decide) (hts _ tw_395) (fun _ h9 => h9) rfl d_M_findSigns_101 ?_
                  refine lv_lload hx hb d_M_findSigns_104 (lv_at hl 0 rfl) ?_
                  refine lv_lconst (v := lI 0) hx hb d_M_findSigns_106 (by decide) ?_
                  refine xl_le (tgt := 115) hx hb (by first | exact hlE | exact hlN) ⟨by decide, by decide⟩ d_M_findSigns_107 d_M_findSigns_108 (by decide) (fun c108_17 => ?_) (fun c108_17 => ?_)
                  · skip
                    refine lv_iconst (v := nI 0) hx hb d_M_findSigns_115 (by decide) ?_
                    refine lv_lload_n hx hb d_M_findSigns_116 rfl (lv_at hl 3 rfl) ?_
                    refine lv_lconst (v := lI 0) hx hb d_M_findSigns_117 (by decide) ?_
                    refine xl_le (tgt := 126) hx hb hlu ⟨by decide, by decide⟩ d_M_findSigns_118 d_M_findSigns_119 (by decide) (fun c119_18 => ?_) (fun c119_18 => ?_)
                    · skip
                      refine lv_iconst (v := nI 0) hx hb d_M_findSigns_126 (by decide) ?_
                      refine xn_eq (tgt := 134) hx hb (by omega) (by omega) d_M_findSigns_127 (by decide) (fun c127_19 => ?_) (fun c127_19 => absurd c127_19 (by decide))
                      refine lv_iconst (v := nI 0) hx hb d_M_findSigns_134 (by decide) ?_
                      refine xn_add hx hb d_M_findSigns_135 ?_
                      refine va_put (D := D) (ci := 2) (v := .int (nI (av + 0))) (ty := .int) (C := R_M) (T := F_M) (N := 21) hx hb hts iw_M ft_M ft_M_ok n_M hown hK hP hD hS 0 rfl rfl 8 (by decide) (hts _ tw_395) (fun _ h9 => h9) rfl (by decide +kernel) rfl rfl (Nat.le_of_ble_eq_true rfl) d_M_findSigns_136 (fun H locs hP hD hS => ?_)
                      have hP : va_P D vwC [(g, .inr (2, [.int cd, .int (nI d), .ref mm, .int ik, .ref kf, .ref tb, .int (nI r), .ref wk, .int (nI (av + 0)), .int (nI (bv + 1)), .ref pl, .ref sp, .int a0, .int a1, .int b0, .int b1, .ref po, .ref to, .ref ba, .ref li, .int lm])), (tb, LA cJ 16 T), (wk, LA cJ 20 W9)] H := hP
                      have hD : va_D A [(g, .inr (2, [.int cd, .int (nI d), .ref mm, .int ik, .ref kf, .ref tb, .int (nI r), .ref wk, .int (nI (av + 0)), .int (nI (bv + 1)), .ref pl, .ref sp, .int a0, .int a1, .int b0, .int b1, .ref po, .ref to, .ref ba, .ref li, .int lm])), (tb, LA cJ 16 T), (wk, LA cJ 20 W9)] := hD
                      refine lv_lload hx hb d_M_findSigns_139 (lv_at hl 1 rfl) ?_
                      refine lv_lstore_n (lv' := [(3, .long (lI (eS T r (k + 1)))), (8, .long (lI (eS T r (k + 1)))), (6, .long (lI (eS T r (k + 1)))), (0, .ref g), (1, .long (lI uv)), (5, .int (nI (k + 1)))]) hx hb d_M_findSigns_141 rfl hl (by decide) rfl (fun ls hl => ?_)
                      refine lv_lload hx hb d_M_findSigns_142 (lv_at hl 1 rfl) ?_
                      refine lv_lstore_n (lv' := [(1, .long (lI (eS T r (k + 1)))), (3, .long (lI (eS T r (k + 1)))), (8, .long (lI (eS T r (k + 1)))), (6, .long (lI (eS T r (k + 1)))), (0, .ref g), (5, .int (nI (k + 1)))]) hx hb d_M_findSigns_144 rfl hl (by decide) rfl (fun ls hl => ?_)
                      refine lv_iinc (v := nI ((k + 1) + 1)) (lv' := [(5, .int (nI ((k + 1) + 1))), (1, .long (lI (eS T r (k + 1)))), (3, .long (lI (eS T r (k + 1)))), (8, .long (lI (eS T r (k + 1)))), (6, .long (lI (eS T r (k + 1)))), (0, .ref g)]) hx hb d_M_findSigns_145 hl (k := 5) rfl (nI_add _ _) (by decide) rfl (fun ls hl => ?_)
                      refine lv_goto (tgt := 17) hx hb d_M_findSigns_148 (by decide) ?_
                      exact ih_17 (k + 1) W9 (av + 0) (bv + 1) (eS T r (k + 1)) (eS T r (k + 1)) H locs ls (by omega) (by rw [fsx_n hf c56_5, tnE_e (show ¬ (k + 1) % 2 = 1 from by omega), x01_s (s := eS T r (k + 1)) (t := uv) (by omega), x01_d (s := eS T r (k + 1)) (t := dv) (by omega)]) (by unfold lB at *; omega) hlE (by omega) hP hD hS (lv_sub hl [5, 1, 2, 0] rfl)
                    · skip
                      refine lv_iconst (v := nI 1) hx hb d_M_findSigns_122 (by decide) ?_
                      refine lv_goto (tgt := 127) hx hb d_M_findSigns_123 (by decide) ?_
                      refine xn_eq (tgt := 134) hx hb (by omega) (by omega) d_M_findSigns_127 (by decide) (fun c127_20 => absurd c127_20 (by decide)) (fun c127_20 => ?_)
                      refine lv_iconst (v := nI 1) hx hb d_M_findSigns_130 (by decide) ?_
                      refine lv_goto (tgt := 135) hx hb d_M_findSigns_131 (by decide) ?_
                      refine xn_add hx hb d_M_findSigns_135 ?_
                      refine va_put (D := D) (ci := 2) (v := .int (nI (av + 1))) (ty := .int) (C := R_M) (T := F_M) (N := 21) hx hb hts iw_M ft_M ft_M_ok n_M hown hK hP hD hS 0 rfl rfl 8 (by decide) (hts _ tw_395) (fun _ h9 => h9) rfl (by decide +kernel) rfl rfl (Nat.le_of_ble_eq_true rfl) d_M_findSigns_136 (fun H locs hP hD hS => ?_)
                      have hP : va_P D vwC [(g, .inr (2, [.int cd, .int (nI d), .ref mm, .int ik, .ref kf, .ref tb, .int (nI r), .ref wk, .int (nI (av + 1)), .int (nI (bv + 1)), .ref pl, .ref sp, .int a0, .int a1, .int b0, .int b1, .ref po, .ref to, .ref ba, .ref li, .int lm])), (tb, LA cJ 16 T), (wk, LA cJ 20 W9)] H := hP
                      have hD : va_D A [(g, .inr (2, [.int cd, .int (nI d), .ref mm, .int ik, .ref kf, .ref tb, .int (nI r), .ref wk, .int (nI (av + 1)), .int (nI (bv + 1)), .ref pl, .ref sp, .int a0, .int a1, .int b0, .int b1, .ref po, .ref to, .ref ba, .ref li, .int lm])), (tb, LA cJ 16 T), (wk, LA cJ 20 W9)] := hD
                      refine lv_lload hx hb d_M_findSigns_139 (lv_at hl 1 rfl) ?_
                      refine lv_lstore_n (lv' := [(3, .long (lI (eS T r (k + 1)))), (8, .long (lI (eS T r (k + 1)))), (6, .long (lI (eS T r (k + 1)))), (0, .ref g), (1, .long (lI uv)), (5, .int (nI (k + 1)))]) hx hb d_M_findSigns_141 rfl hl (by decide) rfl (fun ls hl => ?_)
                      refine lv_lload hx hb d_M_findSigns_142 (lv_at hl 1 rfl) ?_
                      refine lv_lstore_n (lv' := [(1, .long (lI (eS T r (k + 1)))), (3, .long (lI (eS T r (k + 1)))), (8, .long (lI (eS T r (k + 1)))), (6, .long (lI (eS T r (k + 1)))), (0, .ref g), (5, .int (nI (k + 1)))]) hx hb d_M_findSigns_144 rfl hl (by decide) rfl (fun ls hl => ?_)
                      refine lv_iinc (v := nI ((k + 1) + 1)) (lv' := [(5, .int (nI ((k + 1) + 1))), (1, .long (lI (eS T r (k + 1)))), (3, .long (lI (eS T r (k + 1)))), (8, .long (lI (eS T r (k + 1)))), (6, .long (lI (eS T r (k + 1)))), (0, .ref g)]) hx hb d_M_findSigns_145 hl (k := 5) rfl (nI_add _ _) (by decide) rfl (fun ls hl => ?_)
                      refine lv_goto (tgt := 17) hx hb d_M_findSigns_148 (by decide) ?_
                      exact ih_17 (k + 1) W9 (av + 1) (bv + 1) (eS T r (k + 1)) (eS T r (k + 1)) H locs ls (by omega) (by rw [fsx_n hf c56_5, tnE_e (show ¬ (k + 1) % 2 = 1 from by omega), x01_d (s := eS T r (k + 1)) (t := uv) (by omega), x01_d (s := eS T r (k + 1)) (t := dv) (by omega)]) (by unfold lB at *; omega) hlE (by omega) hP hD hS (lv_sub hl [5, 1, 2, 0] rfl)
                  · skip
                    refine lv_iconst (v := nI 1) hx hb d_M_findSigns_111 (by decide) ?_
                    refine lv_goto (tgt := 116) hx hb d_M_findSigns_112 (by decide) ?_
                    refine lv_lload_n hx hb d_M_findSigns_116 rfl (lv_at hl 3 rfl) ?_
                    refine lv_lconst (v := lI 0) hx hb d_M_findSigns_117 (by decide) ?_
                    refine xl_le (tgt := 126) hx hb hlu ⟨by decide, by decide⟩ d_M_findSigns_118 d_M_findSigns_119 (by decide) (fun c119_21 => ?_) (fun c119_21 => ?_)
                    · skip
                      refine lv_iconst (v := nI 0) hx hb d_M_findSigns_126 (by decide) ?_
                      refine xn_eq (tgt := 134) hx hb (by omega) (by omega) d_M_findSigns_127 (by decide) (fun c127_22 => absurd c127_22 (by decide)) (fun c127_22 => ?_)
                      refine lv_iconst (v := nI 1) hx hb d_M_findSigns_130 (by decide) ?_
                      refine lv_goto (tgt := 135) hx hb d_M_findSigns_131 (by decide) ?_
                      refine xn_add hx hb d_M_findSigns_135 ?_
                      refine va_put (D := D) (ci := 2) (v := .int (nI (av + 1))) (ty := .int) (C := R_M) (T := F_M) (N := 21) hx hb hts iw_M ft_M ft_M_ok n_M hown hK hP hD hS 0 rfl rfl 8 (by decide) (hts _ tw_395) (fun _ h9 => h9) rfl (by decide +kernel) rfl rfl (Nat.le_of_ble_eq_true rfl) d_M_findSigns_136 (fun H locs hP hD hS => ?_)
                      have hP : va_P D vwC [(g, .inr (2, [.int cd, .int (nI d), .ref mm, .int ik, .ref kf, .ref tb, .int (nI r), .ref wk, .int (nI (av + 1)), .int (nI (bv + 1)), .ref pl, .ref sp, .int a0, .int a1, .int b0, .int b1, .ref po, .ref to, .ref ba, .ref li, .int lm])), (tb, LA cJ 16 T), (wk, LA cJ 20 W9)] H := hP
                      have hD : va_D A [(g, .inr (2, [.int cd, .int (nI d), .ref mm, .int ik, .ref kf, .ref tb, .int (nI r), .ref wk, .int (nI (av + 1)), .int (nI (bv + 1)), .ref pl, .ref sp, .int a0, .int a1, .int b0, .int b1, .ref po, .ref to, .ref ba, .ref li, .int lm])), (tb, LA cJ 16 T), (wk, LA cJ 20 W9)] := hD
                      refine lv_lload hx hb d_M_findSigns_139 (lv_at hl 1 rfl) ?_
                      refine lv_lstore_n (lv' := [(3, .long (lI (eS T r (k + 1)))), (8, .long (lI (eS T r (k + 1)))), (6, .long (lI (eS T r (k + 1)))), (0, .ref g), (1, .long (lI uv)), (5, .int (nI (k + 1)))]) hx hb d_M_findSigns_141 rfl hl (by decide) rfl (fun ls hl => ?_)
                      refine lv_lload hx hb d_M_findSigns_142 (lv_at hl 1 rfl) ?_
                      refine lv_lstore_n (lv' := [(1, .long (lI (eS T r (k + 1)))), (3, .long (lI (eS T r (k + 1)))), (8, .long (lI (eS T r (k + 1)))), (6, .long (lI (eS T r (k + 1)))), (0, .ref g), (5, .int (nI (k + 1)))]) hx hb d_M_findSigns_144 rfl hl (by decide) rfl (fun ls hl => ?_)
                      refine lv_iinc (v := nI ((k + 1) + 1)) (lv' := [(5, .int (nI ((k + 1) + 1))), (1, .long (lI (eS T r (k + 1)))), (3, .long (lI (eS T r (k + 1)))), (8, .long (lI (eS T r (k + 1)))), (6, .long (lI (eS T r (k + 1)))), (0, .ref g)]) hx hb d_M_findSigns_145 hl (k := 5) rfl (nI_add _ _) (by decide) rfl (fun ls hl => ?_)
                      refine lv_goto (tgt := 17) hx hb d_M_findSigns_148 (by decide) ?_
                      exact ih_17 (k + 1) W9 (av + 1) (bv + 1) (eS T r (k + 1)) (eS T r (k + 1)) H locs ls (by omega) (by rw [fsx_n hf c56_5, tnE_e (show ¬ (k + 1) % 2 = 1 from by omega), x01_d (s := eS T r (k + 1)) (t := uv) (by omega), x01_d (s := eS T r (k + 1)) (t := dv) (by omega)]) (by unfold lB at *; omega) hlE (by omega) hP hD hS (lv_sub hl [5, 1, 2, 0] rfl)
                    · skip
                      refine lv_iconst (v := nI 1) hx hb d_M_findSigns_122 (by decide) ?_
                      refine lv_goto (tgt := 127) hx hb d_M_findSigns_123 (by decide) ?_
                      refine xn_eq (tgt := 134) hx hb (by omega) (by omega) d_M_findSigns_127 (by decide) (fun c127_23 => ?_) (fun c127_23 => absurd c127_23 (by decide))
                      refine lv_iconst (v := nI 0) hx hb d_M_findSigns_134 (by decide) ?_
                      refine xn_add hx hb d_M_findSigns_135 ?_
                      refine va_put (D := D) (ci := 2) (v := .int (nI (av + 0))) (ty := .int) (C := R_M) (T := F_M) (N := 21) hx hb hts iw_M ft_M ft_M_ok n_M hown hK hP hD hS 0 rfl rfl 8 (by decide) (hts _ tw_395) (fun _ h9 => h9) rfl (by decide +kernel) rfl rfl (Nat.le_of_ble_eq_true rfl) d_M_findSigns_136 (fun H locs hP hD hS => ?_)
                      have hP : va_P D vwC [(g, .inr (2, [.int cd, .int (nI d), .ref mm, .int ik, .ref kf, .ref tb, .int (nI r), .ref wk, .int (nI (av + 0)), .int (nI (bv + 1)), .ref pl, .ref sp, .int a0, .int a1, .int b0, .int b1, .ref po, .ref to, .ref ba, .ref li, .int lm])), (tb, LA cJ 16 T), (wk, LA cJ 20 W9)] H := hP
                      have hD : va_D A [(g, .inr (2, [.int cd, .int (nI d), .ref mm, .int ik, .ref kf, .ref tb, .int (nI r), .ref wk, .int (nI (av + 0)), .int (nI (bv + 1)), .ref pl, .ref sp, .int a0, .int a1, .int b0, .int b1, .ref po, .ref to, .ref ba, .ref li, .int lm])), (tb, LA cJ 16 T), (wk, LA cJ 20 W9)] := hD
                      refine lv_lload hx hb d_M_findSigns_139 (lv_at hl 1 rfl) ?_
                      refine lv_lstore_n (lv' := [(3, .long (lI (eS T r (k + 1)))), (8, .long (lI (eS T r (k + 1)))), (6, .long (lI (eS T r (k + 1)))), (0, .ref g), (1, .long (lI uv)), (5, .int (nI (k + 1)))]) hx hb d_M_findSigns_141 rfl hl (by decide) rfl (fun ls hl => ?_)
                      refine lv_lload hx hb d_M_findSigns_142 (lv_at hl 1 rfl) ?_
                      refine lv_lstore_n (lv' := [(1, .long (lI (eS T r (k + 1)))), (3, .long (lI (eS T r (k + 1)))), (8, .long (lI (eS T r (k + 1)))), (6, .long (lI (eS T r (k + 1)))), (0, .ref g), (5, .int (nI (k + 1)))]) hx hb d_M_findSigns_144 rfl hl (by decide) rfl (fun ls hl => ?_)
                      refine lv_iinc (v := nI ((k + 1) + 1)) (lv' := [(5, .int (nI ((k + 1) + 1))), (1, .long (lI (eS T r (k + 1)))), (3, .long (lI (eS T r (k + 1)))), (8, .long (lI (eS T r (k + 1)))), (6, .long (lI (eS T r (k + 1)))), (0, .ref g)]) hx hb d_M_findSigns_145 hl (k := 5) rfl (nI_add _ _) (by decide) rfl (fun ls hl => ?_)
                      refine lv_goto (tgt := 17) hx hb d_M_findSigns_148 (by decide) ?_
                      exact ih_17 (k + 1) W9 (av + 0) (bv + 1) (eS T r (k + 1)) (eS T r (k + 1)) H locs ls (by omega) (by rw [fsx_n hf c56_5, tnE_e (show ¬ (k + 1) % 2 = 1 from by omega), x01_s (s := eS T r (k + 1)) (t := uv) (by omega), x01_d (s := eS T r (k + 1)) (t := dv) (by omega)]) (by unfold lB at *; omega) hlE (by omega) hP hD hS (lv_sub hl [5, 1, 2, 0] rfl)
              · skip
                refine lv_iconst (v := nI 1) hx hb d_M_findSigns_71 (by decide) ?_
                refine lv_goto (tgt := 76) hx hb d_M_findSigns_72 (by decide) ?_
                refine lv_lload_n hx hb d_M_findSigns_76 rfl (lv_at hl 4 rfl) ?_
                refine lv_lconst (v := lI 0) hx hb d_M_findSigns_77 (by decide) ?_
                refine xl_le (tgt := 86) hx hb hld ⟨by decide, by decide⟩ d_M_findSigns_78 d_M_findSigns_79 (by decide) (fun c79_24 => ?_) (fun c79_24 => ?_)
                · skip
                  refine lv_iconst (v := nI 0) hx hb d_M_findSigns_86 (by decide) ?_
                  refine xn_eq (tgt := 94) hx hb (by omega) (by omega) d_M_findSigns_87 (by decide) (fun c87_25 => absurd c87_25 (by decide)) (fun c87_25 => ?_)
                  refine lv_iconst (v := nI 1) hx hb d_M_findSigns_90 (by decide) ?_
                  refine lv_goto (tgt := 95) hx hb d_M_findSigns_91 (by decide) ?_
                  refine xn_add hx hb d_M_findSigns_95 ?_
                  refine va_put (D := D) (ci := 2) (v := .int (nI (bv + 1))) (ty := .int) (C := R_M) (T := F_M) (N := 21) hx hb hts iw_M ft_M ft_M_ok n_M hown hK hP hD hS 0 rfl rfl 9 (by decide) (hts _ tw_396) (fun _ h9 => h9) rfl (by decide +kernel) rfl rfl (Nat.le_of_ble_eq_true rfl) d_M_findSigns_96 (fun H locs hP hD hS => ?_)
                  have hP : va_P D vwC [(g, .inr (2, [.int cd, .int (nI d), .ref mm, .int ik, .ref kf, .ref tb, .int (nI r), .ref wk, .int (nI av), .int (nI (bv + 1)), .ref pl, .ref sp, .int a0, .int a1, .int b0, .int b1, .ref po, .ref to, .ref ba, .ref li, .int lm])), (tb, LA cJ 16 T), (wk, LA cJ 20 W9)] H := hP
                  have hD : va_D A [(g, .inr (2, [.int cd, .int (nI d), .ref mm, .int ik, .ref kf, .ref tb, .int (nI r), .ref wk, .int (nI av), .int (nI (bv + 1)), .ref pl, .ref sp, .int a0, .int a1, .int b0, .int b1, .ref po, .ref to, .ref ba, .ref li, .int lm])), (tb, LA cJ 16 T), (wk, LA cJ 20 W9)] := hD
                  refine lv_aload_n hx hb d_M_findSigns_99 rfl (lv_at hl 2 rfl) ?_
                  refine lv_dup hx hb d_M_findSigns_100 rfl ?_
                  refine va_get (D := D) (ci := 2) (v := .int (nI av)) (C := R_M) (T := F_M) (N := 21) hx hb hts iw_M hown hK hP 0 rfl rfl 8 (by decide) (hts _ tw_395) (fun _ h9 => h9) rfl d_M_findSigns_101 ?_
                  refine lv_lload hx hb d_M_findSigns_104 (lv_at hl 0 rfl) ?_
                  refine lv_lconst (v := lI 0) hx hb d_M_findSigns_106 (by decide) ?_
                  refine xl_le (tgt := 115) hx hb (by first | exact hlE | exact hlN) ⟨by decide, by decide⟩ d_M_findSigns_107 d_M_findSigns_108 (by decide) (fun c108_26 => ?_) (fun c108_26 => ?_)
                  · skip
                    refine lv_iconst (v := nI 0) hx hb d_M_findSigns_115 (by decide) ?_
                    refine lv_lload_n hx hb d_M_findSigns_116 rfl (lv_at hl 3 rfl) ?_
                    refine lv_lconst (v := lI 0) hx hb d_M_findSigns_117 (by decide) ?_
                    refine xl_le (tgt := 126) hx hb hlu ⟨by decide, by decide⟩ d_M_findSigns_118 d_M_findSigns_119 (by decide) (fun c119_27 => ?_) (fun c119_27 => ?_)
                    · skip
                      refine lv_iconst (v := nI 0) hx hb d_M_findSigns_126 (by decide) ?_
                      refine xn_eq (tgt := 134) hx hb (by omega) (by omega) d_M_findSigns_127 (by decide) (fun c127_28 => ?_) (fun c127_28 => absurd c127_28 (by decide))
                      refine lv_iconst (v := nI 0) hx hb d_M_findSigns_134 (by decide) ?_
                      refine xn_add hx hb d_M_findSigns_135 ?_
                      refine va_put (D := D) (ci := 2) (v := .int (nI (av + 0))) (ty := .int) (C := R_M) (T := F_M) (N := 21) hx hb hts iw_M ft_M ft_M_ok n_M hown hK hP hD hS 0 rfl rfl 8 (by decide) (hts _ tw_395) (fun _ h9 => h9) rfl (by decide +kernel) rfl rfl (Nat.le_of_ble_eq_true rfl) d_M_findSigns_136 (fun H locs hP hD hS => ?_)
                      have hP : va_P D vwC [(g, .inr (2, [.int cd, .int (nI d), .ref mm, .int ik, .ref kf, .ref tb, .int (nI r), .ref wk, .int (nI (av + 0)), .int (nI (bv + 1)), .ref pl, .ref sp, .int a0, .int a1, .int b0, .int b1, .ref po, .ref to, .ref ba, .ref li, .int lm])), (tb, LA cJ 16 T), (wk, LA cJ 20 W9)] H := hP
                      have hD : va_D A [(g, .inr (2, [.int cd, .int (nI d), .ref mm, .int ik, .ref kf, .ref tb, .int (nI r), .ref wk, .int (nI (av + 0)), .int (nI (bv + 1)), .ref pl, .ref sp, .int a0, .int a1, .int b0, .int b1, .ref po, .ref to, .ref ba, .ref li, .int lm])), (tb, LA cJ 16 T), (wk, LA cJ 20 W9)] := hD
                      refine lv_lload hx hb d_M_findSigns_139 (lv_at hl 1 rfl) ?_
                      refine lv_lstore_n (lv' := [(3, .long (lI (eS T r (k + 1)))), (8, .long (lI (eS T r (k + 1)))), (6, .long (lI (eS T r (k + 1)))), (0, .ref g), (1, .long (lI uv)), (5, .int (nI (k + 1)))]) hx hb d_M_findSigns_141 rfl hl (by decide) rfl (fun ls hl => ?_)
                      refine lv_lload hx hb d_M_findSigns_142 (lv_at hl 1 rfl) ?_
                      refine lv_lstore_n (lv' := [(1, .long (lI (eS T r (k + 1)))), (3, .long (lI (eS T r (k + 1)))), (8, .long (lI (eS T r (k + 1)))), (6, .long (lI (eS T r (k + 1)))), (0, .ref g), (5, .int (nI (k + 1)))]) hx hb d_M_findSigns_144 rfl hl (by decide) rfl (fun ls hl => ?_)
                      refine lv_iinc (v := nI ((k + 1) + 1)) (lv' := [(5, .int (nI ((k + 1) + 1))), (1, .long (lI (eS T r (k + 1)))), (3, .long (lI (eS T r (k + 1)))), (8, .long (lI (eS T r (k + 1)))), (6, .long (lI (eS T r (k + 1)))), (0, .ref g)]) hx hb d_M_findSigns_145 hl (k := 5) rfl (nI_add _ _) (by decide) rfl (fun ls hl => ?_)
                      refine lv_goto (tgt := 17) hx hb d_M_findSigns_148 (by decide) ?_
                      exact ih_17 (k + 1) W9 (av + 0) (bv + 1) (eS T r (k + 1)) (eS T r (k + 1)) H locs ls (by omega) (by rw [fsx_n hf c56_5, tnE_e (show ¬ (k + 1) % 2 = 1 from by omega), x01_s (s := eS T r (k + 1)) (t := uv) (by omega), x01_d (s := eS T r (k + 1)) (t := dv) (by omega)]) (by unfold lB at *; omega) hlE (by omega) hP hD hS (lv_sub hl [5, 1, 2, 0] rfl)
                    · skip
                      refine lv_iconst (v := nI 1) hx hb d_M_findSigns_122 (by decide) ?_
                      refine lv_goto (tgt := 127) hx hb d_M_findSigns_123 (by decide) ?_
                      refine xn_eq (tgt := 134) hx hb (by omega) (by omega) d_M_findSigns_127 (by decide) (fun c127_29 => absurd c127_29 (by decide)) (fun c127_29 => ?_)
                      refine lv_iconst (v := nI 1) hx hb d_M_findSigns_130 (by decide) ?_
                      refine lv_goto (tgt := 135) hx hb d_M_findSigns_131 (by decide) ?_
                      refine xn_add hx hb d_M_findSigns_135 ?_
                      refine va_put (D := D) (ci := 2) (v := .int (nI (av + 1))) (ty := .int) (C := R_M) (T := F_M) (N := 21) hx hb hts iw_M ft_M ft_M_ok n_M hown hK hP hD hS 0 rfl rfl 8 (by decide) (hts _ tw_395) (fun _ h9 => h9) rfl (by decide +kernel) rfl rfl (Nat.le_of_ble_eq_true rfl) d_M_findSigns_136 (fun H locs hP hD hS => ?_)
                      have hP : va_P D vwC [(g, .inr (2, [.int cd, .int (nI d), .ref mm, .int ik, .ref kf, .ref tb, .int (nI r), .ref wk, .int (nI (av + 1)), .int (nI (bv + 1)), .ref pl, .ref sp, .int a0, .int a1, .int b0, .int b1, .ref po, .ref to, .ref ba, .ref li, .int lm])), (tb, LA cJ 16 T), (wk, LA cJ 20 W9)] H := hP
                      have hD : va_D A [(g, .inr (2, [.int cd, .int (nI d), .ref mm, .int ik, .ref kf, .ref tb, .int (nI r), .ref wk, .int (nI (av + 1)), .int (nI (bv + 1)), .ref pl, .ref sp, .int a0, .int a1, .int b0, .int b1, .ref po, .ref to, .ref ba, .ref li, .int lm])), (tb, LA cJ 16 T), (wk, LA cJ 20 W9)] := hD
                      refine lv_lload hx hb d_M_findSigns_139 (lv_at hl 1 rfl) ?_
                      refine lv_lstore_n (lv' := [(3, .long (lI (eS T r (k + 1)))), (8, .long (lI (eS T r (k + 1)))), (6, .long (lI (eS T r (k + 1)))), (0, .ref g), (1, .long (lI uv)), (5, .int (nI (k + 1)))]) hx hb d_M_findSigns_141 rfl hl (by decide) rfl (fun ls hl => ?_)
                      refine lv_lload hx hb d_M_findSigns_142 (lv_at hl 1 rfl) ?_
                      refine lv_lstore_n (lv' := [(1, .long (lI (eS T r (k + 1)))), (3, .long (lI (eS T r (k + 1)))), (8, .long (lI (eS T r (k + 1)))), (6, .long (lI (eS T r (k + 1)))), (0, .ref g), (5, .int (nI (k + 1)))]) hx hb d_M_findSigns_144 rfl hl (by decide) rfl (fun ls hl => ?_)
                      refine lv_iinc (v := nI ((k + 1) + 1)) (lv' := [(5, .int (nI ((k + 1) + 1))), (1, .long (lI (eS T r (k + 1)))), (3, .long (lI (eS T r (k + 1)))), (8, .long (lI (eS T r (k + 1)))), (6, .long (lI (eS T r (k + 1)))), (0, .ref g)]) hx hb d_M_findSigns_145 hl (k := 5) rfl (nI_add _ _) (by decide) rfl (fun ls hl => ?_)
                      refine lv_goto (tgt := 17) hx hb d_M_findSigns_148 (by decide) ?_
                      exact ih_17 (k + 1) W9 (av + 1) (bv + 1) (eS T r (k + 1)) (eS T r (k + 1)) H locs ls (by omega) (by rw [fsx_n hf c56_5, tnE_e (show ¬ (k + 1) % 2 = 1 from by omega), x01_d (s := eS T r (k + 1)) (t := uv) (by omega), x01_d (s := eS T r (k + 1)) (t := dv) (by omega)]) (by unfold lB at *; omega) hlE (by omega) hP hD hS (lv_sub hl [5, 1, 2, 0] rfl)
                  · skip
                    refine lv_iconst (v := nI 1) hx hb d_M_findSigns_111 (by decide) ?_
                    refine lv_goto (tgt := 116) hx hb d_M_findSigns_112 (by decide) ?_
                    refine lv_lload_n hx hb d_M_findSigns_116 rfl (lv_at hl 3 rfl) ?_
                    refine lv_lconst (v := lI 0) hx hb d_M_findSigns_117 (by decide) ?_
                    refine xl_le (tgt := 126) hx hb hlu ⟨by decide, by decide⟩ d_M_findSigns_118 d_M_findSigns_119 (by decide) (fun c119_30 => ?_) (fun c119_30 => ?_)
                    · skip
                      refine lv_iconst (v := nI 0) hx hb d_M_findSigns_126 (by decide) ?_
                      refine xn_eq (tgt := 134) hx hb (by omega) (by omega) d_M_findSigns_127 (by decide) (fun c127_31 => absurd c127_31 (by decide)) (fun c127_31 => ?_)
                      refine lv_iconst (v := nI 1) hx hb d_M_findSigns_130 (by decide) ?_
                      refine lv_goto (tgt := 135) hx hb d_M_findSigns_131 (by decide) ?_
                      refine xn_add hx hb d_M_findSigns_135 ?_
                      refine va_put (D := D) (ci := 2) (v := .int (nI (av + 1))) (ty := .int) (C := R_M) (T := F_M) (N := 21) hx hb hts iw_M ft_M ft_M_ok n_M hown hK hP hD hS 0 rfl rfl 8 (by decide) (hts _ tw_395) (fun _ h9 => h9) rfl (by decide +kernel) rfl rfl (Nat.le_of_ble_eq_true rfl) d_M_findSigns_136 (fun H locs hP hD hS => ?_)
                      have hP : va_P D vwC [(g, .inr (2, [.int cd, .int (nI d), .ref mm, .int ik, .ref kf, .ref tb, .int (nI r), .ref wk, .int (nI (av + 1)), .int (nI (bv + 1)), .ref pl, .ref sp, .int a0, .int a1, .int b0, .int b1, .ref po, .ref to, .ref ba, .ref li, .int lm])), (tb, LA cJ 16 T), (wk, LA cJ 20 W9)] H := hP
                      have hD : va_D A [(g, .inr (2, [.int cd, .int (nI d), .ref mm, .int ik, .ref kf, .ref tb, .int (nI r), .ref wk, .int (nI (av + 1)), .int (nI (bv + 1)), .ref pl, .ref sp, .int a0, .int a1, .int b0, .int b1, .ref po, .ref to, .ref ba, .ref li, .int lm])), (tb, LA cJ 16 T), (wk, LA cJ 20 W9)] := hD
                      refine lv_lload hx hb d_M_findSigns_139 (lv_at hl 1 rfl) ?_
                      refine lv_lstore_n (lv' := [(3, .long (lI (eS T r (k + 1)))), (8, .long (lI (eS T r (k + 1)))), (6, .long (lI (eS T r (k + 1)))), (0, .ref g), (1, .long (lI uv)), (5, .int (nI (k + 1)))]) hx hb d_M_findSigns_141 rfl hl (by decide) rfl (fun ls hl => ?_)
                      refine lv_lload hx hb d_M_findSigns_142 (lv_at hl 1 rfl) ?_
                      refine lv_lstore_n (lv' := [(1, .long (lI (eS T r (k + 1)))), (3, .long (lI (eS T r (k + 1)))), (8, .long (lI (eS T r (k + 1)))), (6, .long (lI (eS T r (k + 1)))), (0, .ref g), (5, .int (nI (k + 1)))]) hx hb d_M_findSigns_144 rfl hl (by decide) rfl (fun ls hl => ?_)
                      refine lv_iinc (v := nI ((k + 1) + 1)) (lv' := [(5, .int (nI ((k + 1) + 1))), (1, .long (lI (eS T r (k + 1)))), (3, .long (lI (eS T r (k + 1)))), (8, .long (lI (eS T r (k + 1)))), (6, .long (lI (eS T r (k + 1)))), (0, .ref g)]) hx hb d_M_findSigns_145 hl (k := 5) rfl (nI_add _ _) (by decide) rfl (fun ls hl => ?_)
                      refine lv_goto (tgt := 17) hx hb d_M_findSigns_148 (by decide) ?_
                      exact ih_17 (k + 1) W9 (av + 1) (bv + 1) (eS T r (k + 1)) (eS T r (k + 1)) H locs ls (by omega) (by rw [fsx_n hf c56_5, tnE_e (show ¬ (k + 1) % 2 = 1 from by omega), x01_d (s := eS T r (k + 1)) (t := uv) (by omega), x01_d (s := eS T r (k + 1)) (t := dv) (by omega)]) (by unfold lB at *; omega) hlE (by omega) hP hD hS (lv_sub hl [5, 1, 2, 0] rfl)
                    · skip
                      refine lv_iconst (v := nI 1) hx hb d_M_findSigns_122 (by decide) ?_
                      refine lv_goto (tgt := 127) hx hb d_M_findSigns_123 (by decide) ?_
                      refine xn_eq (tgt := 134) hx hb (by omega) (by omega) d_M_findSigns_127 (by decide) (fun c127_32 => ?_) (fun c127_32 => absurd c127_32 (by decide))
                      refine lv_iconst (v := nI 0) hx hb d_M_findSigns_134 (by decide) ?_
                      refine xn_add hx hb d_M_findSigns_135 ?_
                      refine va_put (D := D) (ci := 2) (v := .int (nI (av + 0))) (ty := .int) (C := R_M) (T := F_M) (N := 21) hx hb hts iw_M ft_M ft_M_ok n_M hown hK hP hD hS 0 rfl rfl 8 (by decide) (hts _ tw_395) (fun _ h9 => h9) rfl (by decide +kernel) rfl rfl (Nat.le_of_ble_eq_true rfl) d_M_findSigns_136 (fun H locs hP hD hS => ?_)
                      have hP : va_P D vwC [(g, .inr (2, [.int cd, .int (nI d), .ref mm, .int ik, .ref kf, .ref tb, .int (nI r), .ref wk, .int (nI (av + 0)), .int (nI (bv + 1)), .ref pl, .ref sp, .int a0, .int a1, .int b0, .int b1, .ref po, .ref to, .ref ba, .ref li, .int lm])), (tb, LA cJ 16 T), (wk, LA cJ 20 W9)] H := hP
                      have hD : va_D A [(g, .inr (2, [.int cd, .int (nI d), .ref mm, .int ik, .ref kf, .ref tb, .int (nI r), .ref wk, .int (nI (av + 0)), .int (nI (bv + 1)), .ref pl, .ref sp, .int a0, .int a1, .int b0, .int b1, .ref po, .ref to, .ref ba, .ref li, .int lm])), (tb, LA cJ 16 T), (wk, LA cJ 20 W9)] := hD
                      refine lv_lload hx hb d_M_findSigns_139 (lv_at hl 1 rfl) ?_
                      refine lv_lstore_n (lv' := [(3, .long (lI (eS T r (k + 1)))), (8, .long (lI (eS T r (k + 1)))), (6, .long (lI (eS T r (k + 1)))), (0, .ref g), (1, .long (lI uv)), (5, .int (nI (k + 1)))]) hx hb d_M_findSigns_141 rfl hl (by decide) rfl (fun ls hl => ?_)
                      refine lv_lload hx hb d_M_findSigns_142 (lv_at hl 1 rfl) ?_
                      refine lv_lstore_n (lv' := [(1, .long (lI (eS T r (k + 1)))), (3, .long (lI (eS T r (k + 1)))), (8, .long (lI (eS T r (k + 1)))), (6, .long (lI (eS T r (k + 1)))), (0, .ref g), (5, .int (nI (k + 1)))]) hx hb d_M_findSigns_144 rfl hl (by decide) rfl (fun ls hl => ?_)
                      refine lv_iinc (v := nI ((k + 1) + 1)) (lv' := [(5, .int (nI ((k + 1) + 1))), (1, .long (lI (eS T r (k + 1)))), (3, .long (lI (eS T r (k + 1)))), (8, .long (lI (eS T r (k + 1)))), (6, .long (lI (eS T r (k + 1)))), (0, .ref g)]) hx hb d_M_findSigns_145 hl (k := 5) rfl (nI_add _ _) (by decide) rfl (fun ls hl => ?_)
                      refine lv_goto (tgt := 17) hx hb d_M_findSigns_148 (by decide) ?_
                      exact ih_17 (k + 1) W9 (av + 0) (bv + 1) (eS T r (k + 1)) (eS T r (k + 1)) H locs ls (by omega) (by rw [fsx_n hf c56_5, tnE_e (show ¬ (k + 1) % 2 = 1 from by omega), x01_s (s := eS T r (k + 1)) (t := uv) (by omega), x01_d (s := eS T r (k + 1)) (t := dv) (by omega)]) (by unfold lB at *; omega) hlE (by omega) hP hD hS (lv_sub hl [5, 1, 2, 0] rfl)
                · skip
                  refine lv_iconst (v := nI 1) hx hb d_M_findSigns_82 (by decide) ?_
                  refine lv_goto (tgt := 87) hx hb d_M_findSigns_83 (by decide) ?_
                  refine xn_eq (tgt := 94) hx hb (by omega) (by omega) d_M_findSigns_87 (by decide) (fun c87_33 => ?_) (fun c87_33 => absurd c87_33 (by decide))
                  refine lv_iconst (v := nI 0) hx hb d_M_findSigns_94 (by decide) ?_
                  refine xn_add hx hb d_M_findSigns_95 ?_
                  refine va_put (D := D) (ci := 2) (v := .int (nI (bv + 0))) (ty := .int) (C := R_M) (T := F_M) (N := 21) hx hb hts iw_M ft_M ft_M_ok n_M hown hK hP hD hS 0 rfl rfl 9 (by decide) (hts _ tw_396) (fun _ h9 => h9) rfl (by decide +kernel) rfl rfl (Nat.le_of_ble_eq_true rfl) d_M_findSigns_96 (fun H locs hP hD hS => ?_)
                  have hP : va_P D vwC [(g, .inr (2, [.int cd, .int (nI d), .ref mm, .int ik, .ref kf, .ref tb, .int (nI r), .ref wk, .int (nI av), .int (nI (bv + 0)), .ref pl, .ref sp, .int a0, .int a1, .int b0, .int b1, .ref po, .ref to, .ref ba, .ref li, .int lm])), (tb, LA cJ 16 T), (wk, LA cJ 20 W9)] H := hP
                  have hD : va_D A [(g, .inr (2, [.int cd, .int (nI d), .ref mm, .int ik, .ref kf, .ref tb, .int (nI r), .ref wk, .int (nI av), .int (nI (bv + 0)), .ref pl, .ref sp, .int a0, .int a1, .int b0, .int b1, .ref po, .ref to, .ref ba, .ref li, .int lm])), (tb, LA cJ 16 T), (wk, LA cJ 20 W9)] := hD
                  refine lv_aload_n hx hb d_M_findSigns_99 rfl (lv_at hl 2 rfl) ?_
                  refine lv_dup hx hb d_M_findSigns_100 rfl ?_
                  refine va_get (D := D) (ci := 2) (v := .int (nI av)) (C := R_M) (T := F_M) (N := 21) hx hb hts iw_M hown hK hP 0 rfl rfl 8 (by decide) (hts _ tw_395) (fun _ h9 => h9) rfl d_M_findSigns_101 ?_
                  refine lv_lload hx hb d_M_findSigns_104 (lv_at hl 0 rfl) ?_
                  refine lv_lconst (v := lI 0) hx hb d_M_findSigns_106 (by decide) ?_
                  refine xl_le (tgt := 115) hx hb (by first | exact hlE | exact hlN) ⟨by decide, by decide⟩ d_M_findSigns_107 d_M_findSigns_108 (by decide) (fun c108_34 => ?_) (fun c108_34 => ?_)
                  · skip
                    refine lv_iconst (v := nI 0) hx hb d_M_findSigns_115 (by decide) ?_
                    refine lv_lload_n hx hb d_M_findSigns_116 rfl (lv_at hl 3 rfl) ?_
                    refine lv_lconst (v := lI 0) hx hb d_M_findSigns_117 (by decide) ?_
                    refine xl_le (tgt := 126) hx hb hlu ⟨by decide, by decide⟩ d_M_findSigns_118 d_M_findSigns_119 (by decide) (fun c119_35 => ?_) (fun c119_35 => ?_)
                    · skip
                      refine lv_iconst (v := nI 0) hx hb d_M_findSigns_126 (by decide) ?_
                      refine xn_eq (tgt := 134) hx hb (by omega) (by omega) d_M_findSigns_127 (by decide) (fun c127_36 => ?_) (fun c127_36 => absurd c127_36 (by decide))
                      refine lv_iconst (v := nI 0) hx hb d_M_findSigns_134 (by decide) ?_
                      refine xn_add hx hb d_M_findSigns_135 ?_
                      refine va_put (D := D) (ci := 2) (v := .int (nI (av + 0))) (ty := .int) (C := R_M) (T := F_M) (N := 21) hx hb hts iw_M ft_M ft_M_ok n_M hown hK hP hD hS 0 rfl rfl 8 (by decide) (hts _ tw_395) (fun _ h9 => h9) rfl (by decide +kernel) rfl rfl (Nat.le_of_ble_eq_true rfl) d_M_findSigns_136 (fun H locs hP hD hS => ?_)
                      have hP : va_P D vwC [(g, .inr (2, [.int cd, .int (nI d), .ref mm, .int ik, .ref kf, .ref tb, .int (nI r), .ref wk, .int (nI (av + 0)), .int (nI (bv + 0)), .ref pl, .ref sp, .int a0, .int a1, .int b0, .int b1, .ref po, .ref to, .ref ba, .ref li, .int lm])), (tb, LA cJ 16 T), (wk, LA cJ 20 W9)] H := hP
                      have hD : va_D A [(g, .inr (2, [.int cd, .int (nI d), .ref mm, .int ik, .ref kf, .ref tb, .int (nI r), .ref wk, .int (nI (av + 0)), .int (nI (bv + 0)), .ref pl, .ref sp, .int a0, .int a1, .int b0, .int b1, .ref po, .ref to, .ref ba, .ref li, .int lm])), (tb, LA cJ 16 T), (wk, LA cJ 20 W9)] := hD
                      refine lv_lload hx hb d_M_findSigns_139 (lv_at hl 1 rfl) ?_
                      refine lv_lstore_n (lv' := [(3, .long (lI (eS T r (k + 1)))), (8, .long (lI (eS T r (k + 1)))), (6, .long (lI (eS T r (k + 1)))), (0, .ref g), (1, .long (lI uv)), (5, .int (nI (k + 1)))]) hx hb d_M_findSigns_141 rfl hl (by decide) rfl (fun ls hl => ?_)
                      refine lv_lload hx hb d_M_findSigns_142 (lv_at hl 1 rfl) ?_
                      refine lv_lstore_n (lv' := [(1, .long (lI (eS T r (k + 1)))), (3, .long (lI (eS T r (k + 1)))), (8, .long (lI (eS T r (k + 1)))), (6, .long (lI (eS T r (k + 1)))), (0, .ref g), (5, .int (nI (k + 1)))]) hx hb d_M_findSigns_144 rfl hl (by decide) rfl (fun ls hl => ?_)
                      refine lv_iinc (v := nI ((k + 1) + 1)) (lv' := [(5, .int (nI ((k + 1) + 1))), (1, .long (lI (eS T r (k + 1)))), (3, .long (lI (eS T r (k + 1)))), (8, .long (lI (eS T r (k + 1)))), (6, .long (lI (eS T r (k + 1)))), (0, .ref g)]) hx hb d_M_findSigns_145 hl (k := 5) rfl (nI_add _ _) (by decide) rfl (fun ls hl => ?_)
                      refine lv_goto (tgt := 17) hx hb d_M_findSigns_148 (by decide) ?_
                      exact ih_17 (k + 1) W9 (av + 0) (bv + 0) (eS T r (k + 1)) (eS T r (k + 1)) H locs ls (by omega) (by rw [fsx_n hf c56_5, tnE_e (show ¬ (k + 1) % 2 = 1 from by omega), x01_s (s := eS T r (k + 1)) (t := uv) (by omega), x01_s (s := eS T r (k + 1)) (t := dv) (by omega)]) (by unfold lB at *; omega) hlE (by omega) hP hD hS (lv_sub hl [5, 1, 2, 0] rfl)
                    · skip
                      refine lv_iconst (v := nI 1) hx hb d_M_findSigns_122 (by decide) ?_
                      refine lv_goto (tgt := 127) hx hb d_M_findSigns_123 (by decide) ?_
                      refine xn_eq (tgt := 134) hx hb (by omega) (by omega) d_M_findSigns_127 (by decide) (fun c127_37 => absurd c127_37 (by decide)) (fun c127_37 => ?_)
                      refine lv_iconst (v := nI 1) hx hb d_M_findSigns_130 (by decide) ?_
                      refine lv_goto (tgt := 135) hx hb d_M_findSigns_131 (by decide) ?_
                      refine xn_add hx hb d_M_findSigns_135 ?_
                      refine va_put (D := D) (ci := 2) (v := .int (nI (av + 1))) (ty := .int) (C := R_M) (T := F_M) (N := 21) hx hb hts iw_M ft_M ft_M_ok n_M hown hK hP hD hS 0 rfl rfl 8 (by decide) (hts _ tw_395) (fun _ h9 => h9) rfl (by decide +kernel) rfl rfl (Nat.le_of_ble_eq_true rfl) d_M_findSigns_136 (fun H locs hP hD hS => ?_)
                      have hP : va_P D vwC [(g, .inr (2, [.int cd, .int (nI d), .ref mm, .int ik, .ref kf, .ref tb, .int (nI r), .ref wk, .int (nI (av + 1)), .int (nI (bv + 0)), .ref pl, .ref sp, .int a0, .int a1, .int b0, .int b1, .ref po, .ref to, .ref ba, .ref li, .int lm])), (tb, LA cJ 16 T), (wk, LA cJ 20 W9)] H := hP
                      have hD : va_D A [(g, .inr (2, [.int cd, .int (nI d), .ref mm, .int ik, .ref kf, .ref tb, .int (nI r), .ref wk, .int (nI (av + 1)), .int (nI (bv + 0)), .ref pl, .ref sp, .int a0, .int a1, .int b0, .int b1, .ref po, .ref to, .ref ba, .ref li, .int lm])), (tb, LA cJ 16 T), (wk, LA cJ 20 W9)] := hD
                      refine lv_lload hx hb d_M_findSigns_139 (lv_at hl 1 rfl) ?_
                      refine lv_lstore_n (lv' := [(3, .long (lI (eS T r (k + 1)))), (8, .long (lI (eS T r (k + 1)))), (6, .long (lI (eS T r (k + 1)))), (0, .ref g), (1, .long (lI uv)), (5, .int (nI (k + 1)))]) hx hb d_M_findSigns_141 rfl hl (by decide) rfl (fun ls hl => ?_)
                      refine lv_lload hx hb d_M_findSigns_142 (lv_at hl 1 rfl) ?_
                      refine lv_lstore_n (lv' := [(1, .long (lI (eS T r (k + 1)))), (3, .long (lI (eS T r (k + 1)))), (8, .long (lI (eS T r (k + 1)))), (6, .long (lI (eS T r (k + 1)))), (0, .ref g), (5, .int (nI (k + 1)))]) hx hb d_M_findSigns_144 rfl hl (by decide) rfl (fun ls hl => ?_)
                      refine lv_iinc (v := nI ((k + 1) + 1)) (lv' := [(5, .int (nI ((k + 1) + 1))), (1, .long (lI (eS T r (k + 1)))), (3, .long (lI (eS T r (k + 1)))), (8, .long (lI (eS T r (k + 1)))), (6, .long (lI (eS T r (k + 1)))), (0, .ref g)]) hx hb d_M_findSigns_145 hl (k := 5) rfl (nI_add _ _) (by decide) rfl (fun ls hl => ?_)
                      refine lv_goto (tgt := 17) hx hb d_M_findSigns_148 (by decide) ?_
                      exact ih_17 (k + 1) W9 (av + 1) (bv + 0) (eS T r (k + 1)) (eS T r (k + 1)) H locs ls (by omega) (by rw [fsx_n hf c56_5, tnE_e (show ¬ (k + 1) % 2 = 1 from by omega), x01_d (s := eS T r (k + 1)) (t := uv) (by omega), x01_s (s := eS T r (k + 1)) (t := dv) (by omega)]) (by unfold lB at *; omega) hlE (by omega) hP hD hS (lv_sub hl [5, 1, 2, 0] rfl)
                  · skip
                    refine lv_iconst (v := nI 1) hx hb d_M_findSigns_111 (by decide) ?_
                    refine lv_goto (tgt := 116) hx hb d_M_findSigns_112 (by decide) ?_
                    refine lv_lload_n hx hb d_M_findSigns_116 rfl (lv_at hl 3 rfl) ?_
                    refine lv_lconst (v := lI 0) hx hb d_M_findSigns_117 (by decide) ?_
                    refine xl_le (tgt := 126) hx hb hlu ⟨by decide, by decide⟩ d_M_findSigns_118 d_M_findSigns_119 (by decide) (fun c119_38 => ?_) (fun c119_38 => ?_)
                    · skip
                      refine lv_iconst (v := nI 0) hx hb d_M_findSigns_126 (by decide) ?_
                      refine xn_eq (tgt := 134) hx hb (by omega) (by omega) d_M_findSigns_127 (by decide) (fun c127_39 => absurd c127_39 (by decide)) (fun c127_39 => ?_)
                      refine lv_iconst (v := nI 1) hx hb d_M_findSigns_130 (by decide) ?_
                      refine lv_goto (tgt := 135) hx hb d_M_findSigns_131 (by decide) ?_
                      refine xn_add hx hb d_M_findSigns_135 ?_
                      refine va_put (D := D) (ci := 2) (v := .int (nI (av + 1))) (ty := .int) (C := R_M) (T := F_M) (N := 21) hx hb hts iw_M ft_M ft_M_ok n_M hown hK hP hD hS 0 rfl rfl 8 (by decide) (hts _ tw_395) (fun _ h9 => h9) rfl (by decide +kernel) rfl rfl (Nat.le_of_ble_eq_true rfl) d_M_findSigns_136 (fun H locs hP hD hS => ?_)
                      have hP : va_P D vwC [(g, .inr (2, [.int cd, .int (nI d), .ref mm, .int ik, .ref kf, .ref tb, .int (nI r), .ref wk, .int (nI (av + 1)), .int (nI (bv + 0)), .ref pl, .ref sp, .int a0, .int a1, .int b0, .int b1, .ref po, .ref to, .ref ba, .ref li, .int lm])), (tb, LA cJ 16 T), (wk, LA cJ 20 W9)] H := hP
                      have hD : va_D A [(g, .inr (2, [.int cd, .int (nI d), .ref mm, .int ik, .ref kf, .ref tb, .int (nI r), .ref wk, .int (nI (av + 1)), .int (nI (bv + 0)), .ref pl, .ref sp, .int a0, .int a1, .int b0, .int b1, .ref po, .ref to, .ref ba, .ref li, .int lm])), (tb, LA cJ 16 T), (wk, LA cJ 20 W9)] := hD
                      refine lv_lload hx hb d_M_findSigns_139 (lv_at hl 1 rfl) ?_
                      refine lv_lstore_n (lv' := [(3, .long (lI (eS T r (k + 1)))), (8, .long (lI (eS T r (k + 1)))), (6, .long (lI (eS T r (k + 1)))), (0, .ref g), (1, .long (lI uv)), (5, .int (nI (k + 1)))]) hx hb d_M_findSigns_141 rfl hl (by decide) rfl (fun ls hl => ?_)
                      refine lv_lload hx hb d_M_findSigns_142 (lv_at hl 1 rfl) ?_
                      refine lv_lstore_n (lv' := [(1, .long (lI (eS T r (k + 1)))), (3, .long (lI (eS T r (k + 1)))), (8, .long (lI (eS T r (k + 1)))), (6, .long (lI (eS T r (k + 1)))), (0, .ref g), (5, .int (nI (k + 1)))]) hx hb d_M_findSigns_144 rfl hl (by decide) rfl (fun ls hl => ?_)
                      refine lv_iinc (v := nI ((k + 1) + 1)) (lv' := [(5, .int (nI ((k + 1) + 1))), (1, .long (lI (eS T r (k + 1)))), (3, .long (lI (eS T r (k + 1)))), (8, .long (lI (eS T r (k + 1)))), (6, .long (lI (eS T r (k + 1)))), (0, .ref g)]) hx hb d_M_findSigns_145 hl (k := 5) rfl (nI_add _ _) (by decide) rfl (fun ls hl => ?_)
                      refine lv_goto (tgt := 17) hx hb d_M_findSigns_148 (by decide) ?_
                      exact ih_17 (k + 1) W9 (av + 1) (bv + 0) (eS T r (k + 1)) (eS T r (k + 1)) H locs ls (by omega) (by rw [fsx_n hf c56_5, tnE_e (show ¬ (k + 1) % 2 = 1 from by omega), x01_d (s := eS T r (k + 1)) (t := uv) (by omega), x01_s (s := eS T r (k + 1)) (t := dv) (by omega)]) (by unfold lB at *; omega) hlE (by omega) hP hD hS (lv_sub hl [5, 1, 2, 0] rfl)
                    · skip
                      refine lv_iconst (v := nI 1) hx hb d_M_findSigns_122 (by decide) ?_
                      refine lv_goto (tgt := 127) hx hb d_M_findSigns_123 (by decide) ?_
                      refine xn_eq (tgt := 134) hx hb (by omega) (by omega) d_M_findSigns_127 (by decide) (fun c127_40 => ?_) (fun c127_40 => absurd c127_40 (by decide))
                      refine lv_iconst (v := nI 0) hx hb d_M_findSigns_134 (by decide) ?_
                      refine xn_add hx hb d_M_findSigns_135 ?_
                      refine va_put (D := D) (ci := 2) (v := .int (nI (av + 0))) (ty := .int) (C := R_M) (T := F_M) (N := 21) hx hb hts iw_M ft_M ft_M_ok n_M hown hK hP hD hS 0 rfl rfl 8 (by decide) (hts _ tw_395) (fun _ h9 => h9) rfl (by decide +kernel) rfl rfl (Nat.le_of_ble_eq_true rfl) d_M_findSigns_136 (fun H locs hP hD hS => ?_)
                      have hP : va_P D vwC [(g, .inr (2, [.int cd, .int (nI d), .ref mm, .int ik, .ref kf, .ref tb, .int (nI r), .ref wk, .int (nI (av + 0)), .int (nI (bv + 0)), .ref pl, .ref sp, .int a0, .int a1, .int b0, .int b1, .ref po, .ref to, .ref ba, .ref li, .int lm])), (tb, LA cJ 16 T), (wk, LA cJ 20 W9)] H := hP
                      have hD : va_D A [(g, .inr (2, [.int cd, .int (nI d), .ref mm, .int ik, .ref kf, .ref tb, .int (nI r), .ref wk, .int (nI (av + 0)), .int (nI (bv + 0)), .ref pl, .ref sp, .int a0, .int a1, .int b0, .int b1, .ref po, .ref to, .ref ba, .ref li, .int lm])), (tb, LA cJ 16 T), (wk, LA cJ 20 W9)] := hD
                      refine lv_lload hx hb d_M_findSigns_139 (lv_at hl 1 rfl) ?_
                      refine lv_lstore_n (lv' := [(3, .long (lI (eS T r (k + 1)))), (8, .long (lI (eS T r (k + 1)))), (6, .long (lI (eS T r (k + 1)))), (0, .ref g), (1, .long (lI uv)), (5, .int (nI (k + 1)))]) hx hb d_M_findSigns_141 rfl hl (by decide) rfl (fun ls hl => ?_)
                      refine lv_lload hx hb d_M_findSigns_142 (lv_at hl 1 rfl) ?_
                      refine lv_lstore_n (lv' := [(1, .long (lI (eS T r (k + 1)))), (3, .long (lI (eS T r (k + 1)))), (8, .long (lI (eS T r (k + 1)))), (6, .long (lI (eS T r (k + 1)))), (0, .ref g), (5, .int (nI (k + 1)))]) hx hb d_M_findSigns_144 rfl hl (by decide) rfl (fun ls hl => ?_)
                      refine lv_iinc (v := nI ((k + 1) + 1)) (lv' := [(5, .int (nI ((k + 1) + 1))), (1, .long (lI (eS T r (k + 1)))), (3, .long (lI (eS T r (k + 1)))), (8, .long (lI (eS T r (k + 1)))), (6, .long (lI (eS T r (k + 1)))), (0, .ref g)]) hx hb d_M_findSigns_145 hl (k := 5) rfl (nI_add _ _) (by decide) rfl (fun ls hl => ?_)
                      refine lv_goto (tgt := 17) hx hb d_M_findSigns_148 (by decide) ?_
                      exact ih_17 (k + 1) W9 (av + 0) (bv + 0) (eS T r (k + 1)) (eS T r (k + 1)) H locs ls (by omega) (by rw [fsx_n hf c56_5, tnE_e (show ¬ (k + 1) % 2 = 1 from by omega), x01_s (s := eS T r (k + 1)) (t := uv) (by omega), x01_s (s := eS T r (k + 1)) (t := dv) (by omega)]) (by unfold lB at *; omega) hlE (by omega) hP hD hS (lv_sub hl [5, 1, 2, 0] rfl)
          · skip
            refine lv_lload hx hb d_M_findSigns_42 (lv_at hl 0 rfl) ?_
            refine xl_neg hx hb d_M_findSigns_44 ?_
            refine lv_goto (tgt := 50) hx hb d_M_findSigns_45 (by decide) ?_
            refine lv_lstore (lv' := [(8, .long (lI (-(eS T r (k + 1))))), (6, .long (lI (eS T r (k + 1)))), (0, .ref g), (1, .long (lI uv)), (3, .long (lI dv)), (5, .int (nI (k + 1)))]) hx hb d_M_findSigns_50 hl (by decide) rfl (fun ls hl => ?_)
            refine lv_lload hx hb d_M_findSigns_52 (lv_at hl 1 rfl) ?_
            refine lv_lconst (v := lI 0) hx hb d_M_findSigns_54 (by decide) ?_
            refine xl_eq (tgt := 145) hx hb hlE ⟨by decide, by decide⟩ d_M_findSigns_55 d_M_findSigns_56 (by decide) (fun c56_41 => ?_) (fun c56_41 => ?_)
            · skip
              refine lv_iinc (v := nI ((k + 1) + 1)) (lv' := [(5, .int (nI ((k + 1) + 1))), (8, .long (lI (-(eS T r (k + 1))))), (6, .long (lI (eS T r (k + 1)))), (0, .ref g), (1, .long (lI uv)), (3, .long (lI dv))]) hx hb d_M_findSigns_145 hl (k := 5) rfl (nI_add _ _) (by decide) rfl (fun ls hl => ?_)
              refine lv_goto (tgt := 17) hx hb d_M_findSigns_148 (by decide) ?_
              exact ih_17 (k + 1) W9 av bv uv dv H locs ls (by omega) (by rw [fsx_z c56_41]; exact hf) hlu hld (by omega) hP hD hS (lv_sub hl [3, 4, 5, 0] rfl)
            · skip
              refine lv_aload_n hx hb d_M_findSigns_59 rfl (lv_at hl 2 rfl) ?_
              refine lv_dup hx hb d_M_findSigns_60 rfl ?_
              refine va_get (D := D) (ci := 2) (v := .int (nI bv)) (C := R_M) (T := F_M) (N := 21) hx hb hts iw_M hown hK hP 0 rfl rfl 9 (by decide) (hts _ tw_396) (fun _ h9 => h9) rfl d_M_findSigns_61 ?_
              refine lv_lload hx hb d_M_findSigns_64 (lv_at hl 1 rfl) ?_
              refine lv_lconst (v := lI 0) hx hb d_M_findSigns_66 (by decide) ?_
              refine xl_le (tgt := 75) hx hb hlE ⟨by decide, by decide⟩ d_M_findSigns_67 d_M_findSigns_68 (by decide) (fun c68_42 => ?_) (fun c68_42 => ?_)
              · skip
                refine lv_iconst (v := nI 0) hx hb d_M_findSigns_75 (by decide) ?_
                refine lv_lload_n hx hb d_M_findSigns_76 rfl (lv_at hl 4 rfl) ?_
                refine lv_lconst (v := lI 0) hx hb d_M_findSigns_77 (by decide) ?_
                refine xl_le (tgt := 86) hx hb hld ⟨by decide, by decide⟩ d_M_findSigns_78 d_M_findSigns_79 (by decide) (fun c79_43 => ?_) (fun c79_43 => ?_)
                · skip
                  refine lv_iconst (v := nI 0) hx hb d_M_findSigns_86 (by decide) ?_
                  refine xn_eq (tgt := 94) hx hb (by omega) (by omega) d_M_findSigns_87 (by decide) (fun c87_44 => ?_) (fun c87_44 => absurd c87_44 (by decide))
                  refine lv_iconst (v := nI 0) hx hb d_M_findSigns_94 (by decide) ?_
                  refine xn_add hx hb d_M_findSigns_95 ?_
                  refine va_put (D := D) (ci := 2) (v := .int (nI (bv + 0))) (ty := .int) (C := R_M) (T := F_M) (N := 21) hx hb hts iw_M ft_M ft_M_ok n_M hown hK hP hD hS 0 rfl rfl 9 (by decide) (hts _ tw_396) (fun _ h9 => h9) rfl (by decide +kernel) rfl rfl (Nat.le_of_ble_eq_true rfl) d_M_findSigns_96 (fun H locs hP hD hS => ?_)
                  have hP : va_P D vwC [(g, .inr (2, [.int cd, .int (nI d), .ref mm, .int ik, .ref kf, .ref tb, .int (nI r), .ref wk, .int (nI av), .int (nI (bv + 0)), .ref pl, .ref sp, .int a0, .int a1, .int b0, .int b1, .ref po, .ref to, .ref ba, .ref li, .int lm])), (tb, LA cJ 16 T), (wk, LA cJ 20 W9)] H := hP
                  have hD : va_D A [(g, .inr (2, [.int cd, .int (nI d), .ref mm, .int ik, .ref kf, .ref tb, .int (nI r), .ref wk, .int (nI av), .int (nI (bv + 0)), .ref pl, .ref sp, .int a0, .int a1, .int b0, .int b1, .ref po, .ref to, .ref ba, .ref li, .int lm])), (tb, LA cJ 16 T), (wk, LA cJ 20 W9)] := hD
                  refine lv_aload_n hx hb d_M_findSigns_99 rfl (lv_at hl 2 rfl) ?_
                  refine lv_dup hx hb d_M_findSigns_100 rfl ?_
                  refine va_get (D := D) (ci := 2) (v := .int (nI av)) (C := R_M) (T := F_M) (N := 21) hx hb hts iw_M hown hK hP 0 rfl rfl 8 (by decide) (hts _ tw_395) (fun _ h9 => h9) rfl d_M_findSigns_101 ?_
                  refine lv_lload hx hb d_M_findSigns_104 (lv_at hl 0 rfl) ?_
                  refine lv_lconst (v := lI 0) hx hb d_M_findSigns_106 (by decide) ?_
                  refine xl_le (tgt := 115) hx hb (by first | exact hlE | exact hlN) ⟨by decide, by decide⟩ d_M_findSigns_107 d_M_findSigns_108 (by decide) (fun c108_45 => ?_) (fun c108_45 => ?_)
                  · skip
                    refine lv_iconst (v := nI 0) hx hb d_M_findSigns_115 (by decide) ?_
                    refine lv_lload_n hx hb d_M_findSigns_116 rfl (lv_at hl 3 rfl) ?_
                    refine lv_lconst (v := lI 0) hx hb d_M_findSigns_117 (by decide) ?_
                    refine xl_le (tgt := 126) hx hb hlu ⟨by decide, by decide⟩ d_M_findSigns_118 d_M_findSigns_119 (by decide) (fun c119_46 => ?_) (fun c119_46 => ?_)
                    · skip
                      refine lv_iconst (v := nI 0) hx hb d_M_findSigns_126 (by decide) ?_
                      refine xn_eq (tgt := 134) hx hb (by omega) (by omega) d_M_findSigns_127 (by decide) (fun c127_47 => ?_) (fun c127_47 => absurd c127_47 (by decide))
                      refine lv_iconst (v := nI 0) hx hb d_M_findSigns_134 (by decide) ?_
                      refine xn_add hx hb d_M_findSigns_135 ?_
                      refine va_put (D := D) (ci := 2) (v := .int (nI (av + 0))) (ty := .int) (C := R_M) (T := F_M) (N := 21) hx hb hts iw_M ft_M ft_M_ok n_M hown hK hP hD hS 0 rfl rfl 8 (by decide) (hts _ tw_395) (fun _ h9 => h9) rfl (by decide +kernel) rfl rfl (Nat.le_of_ble_eq_true rfl) d_M_findSigns_136 (fun H locs hP hD hS => ?_)
                      have hP : va_P D vwC [(g, .inr (2, [.int cd, .int (nI d), .ref mm, .int ik, .ref kf, .ref tb, .int (nI r), .ref wk, .int (nI (av + 0)), .int (nI (bv + 0)), .ref pl, .ref sp, .int a0, .int a1, .int b0, .int b1, .ref po, .ref to, .ref ba, .ref li, .int lm])), (tb, LA cJ 16 T), (wk, LA cJ 20 W9)] H := hP
                      have hD : va_D A [(g, .inr (2, [.int cd, .int (nI d), .ref mm, .int ik, .ref kf, .ref tb, .int (nI r), .ref wk, .int (nI (av + 0)), .int (nI (bv + 0)), .ref pl, .ref sp, .int a0, .int a1, .int b0, .int b1, .ref po, .ref to, .ref ba, .ref li, .int lm])), (tb, LA cJ 16 T), (wk, LA cJ 20 W9)] := hD
                      refine lv_lload hx hb d_M_findSigns_139 (lv_at hl 1 rfl) ?_
                      refine lv_lstore_n (lv' := [(3, .long (lI (eS T r (k + 1)))), (8, .long (lI (-(eS T r (k + 1))))), (6, .long (lI (eS T r (k + 1)))), (0, .ref g), (1, .long (lI uv)), (5, .int (nI (k + 1)))]) hx hb d_M_findSigns_141 rfl hl (by decide) rfl (fun ls hl => ?_)
                      refine lv_lload hx hb d_M_findSigns_142 (lv_at hl 1 rfl) ?_
                      refine lv_lstore_n (lv' := [(1, .long (lI (-(eS T r (k + 1))))), (3, .long (lI (eS T r (k + 1)))), (8, .long (lI (-(eS T r (k + 1))))), (6, .long (lI (eS T r (k + 1)))), (0, .ref g), (5, .int (nI (k + 1)))]) hx hb d_M_findSigns_144 rfl hl (by decide) rfl (fun ls hl => ?_)
                      refine lv_iinc (v := nI ((k + 1) + 1)) (lv' := [(5, .int (nI ((k + 1) + 1))), (1, .long (lI (-(eS T r (k + 1))))), (3, .long (lI (eS T r (k + 1)))), (8, .long (lI (-(eS T r (k + 1))))), (6, .long (lI (eS T r (k + 1)))), (0, .ref g)]) hx hb d_M_findSigns_145 hl (k := 5) rfl (nI_add _ _) (by decide) rfl (fun ls hl => ?_)
                      refine lv_goto (tgt := 17) hx hb d_M_findSigns_148 (by decide) ?_
                      exact ih_17 (k + 1) W9 (av + 0) (bv + 0) (-(eS T r (k + 1))) (eS T r (k + 1)) H locs ls (by omega) (by rw [fsx_n hf c56_41, tnE_o (show (k + 1) % 2 = 1 from by omega), x01_s (s := -(eS T r (k + 1))) (t := uv) (by omega), x01_s (s := eS T r (k + 1)) (t := dv) (by omega)]) (by unfold lB at *; omega) hlE (by omega) hP hD hS (lv_sub hl [5, 1, 2, 0] rfl)
                    · skip
                      refine lv_iconst (v := nI 1) hx hb d_M_findSigns_122 (by decide) ?_
                      refine lv_goto (tgt := 127) hx hb d_M_findSigns_123 (by decide) ?_
                      refine xn_eq (tgt := 134) hx hb (by omega) (by omega) d_M_findSigns_127 (by decide) (fun c127_48 => absurd c127_48 (by decide)) (fun c127_48 => ?_)
                      refine lv_iconst (v := nI 1) hx hb d_M_findSigns_130 (by decide) ?_
                      refine lv_goto (tgt := 135) hx hb d_M_findSigns_131 (by decide) ?_
                      refine xn_add hx hb d_M_findSigns_135 ?_
                      refine va_put (D := D) (ci := 2) (v := .int (nI (av + 1))) (ty := .int) (C := R_M) (T := F_M) (N := 21) hx hb hts iw_M ft_M ft_M_ok n_M hown hK hP hD hS 0 rfl rfl 8 (by decide) (hts _ tw_395) (fun _ h9 => h9) rfl (by decide +kernel) rfl rfl (Nat.le_of_ble_eq_true rfl) d_M_findSigns_136 (fun H locs hP hD hS => ?_)
                      have hP : va_P D vwC [(g, .inr (2, [.int cd, .int (nI d), .ref mm, .int ik, .ref kf, .ref tb, .int (nI r), .ref wk, .int (nI (av + 1)), .int (nI (bv + 0)), .ref pl, .ref sp, .int a0, .int a1, .int b0, .int b1, .ref po, .ref to, .ref ba, .ref li, .int lm])), (tb, LA cJ 16 T), (wk, LA cJ 20 W9)] H := hP
                      have hD : va_D A [(g, .inr (2, [.int cd, .int (nI d), .ref mm, .int ik, .ref kf, .ref tb, .int (nI r), .ref wk, .int (nI (av + 1)), .int (nI (bv + 0)), .ref pl, .ref sp, .int a0, .int a1, .int b0, .int b1, .ref po, .ref to, .ref ba, .ref li, .int lm])), (tb, LA cJ 16 T), (wk, LA cJ 20 W9)] := hD
                      refine lv_lload hx hb d_M_findSigns_139 (lv_at hl 1 rfl) ?_
                      refine lv_lstore_n (lv' := [(3, .long (lI (eS T r (k + 1)))), (8, .long (lI (-(eS T r (k + 1))))), (6, .long (lI (eS T r (k + 1)))), (0, .ref g), (1, .long (lI uv)), (5, .int (nI (k + 1)))]) hx hb d_M_findSigns_141 rfl hl (by decide) rfl (fun ls hl => ?_)
                      refine lv_lload hx hb d_M_findSigns_142 (lv_at hl 1 rfl) ?_
                      refine lv_lstore_n (lv' := [(1, .long (lI (-(eS T r (k + 1))))), (3, .long (lI (eS T r (k + 1)))), (8, .long (lI (-(eS T r (k + 1))))), (6, .long (lI (eS T r (k + 1)))), (0, .ref g), (5, .int (nI (k + 1)))]) hx hb d_M_findSigns_144 rfl hl (by decide) rfl (fun ls hl => ?_)
                      refine lv_iinc (v := nI ((k + 1) + 1)) (lv' := [(5, .int (nI ((k + 1) + 1))), (1, .long (lI (-(eS T r (k + 1))))), (3, .long (lI (eS T r (k + 1)))), (8, .long (lI (-(eS T r (k + 1))))), (6, .long (lI (eS T r (k + 1)))), (0, .ref g)]) hx hb d_M_findSigns_145 hl (k := 5) rfl (nI_add _ _) (by decide) rfl (fun ls hl => ?_)
                      refine lv_goto (tgt := 17) hx hb d_M_findSigns_148 (by decide) ?_
                      exact ih_17 (k + 1) W9 (av + 1) (bv + 0) (-(eS T r (k + 1))) (eS T r (k + 1)) H locs ls (by omega) (by rw [fsx_n hf c56_41, tnE_o (show (k + 1) % 2 = 1 from by omega), x01_d (s := -(eS T r (k + 1))) (t := uv) (by omega), x01_s (s := eS T r (k + 1)) (t := dv) (by omega)]) (by unfold lB at *; omega) hlE (by omega) hP hD hS (lv_sub hl [5, 1, 2, 0] rfl)
                  · skip
                    refine lv_iconst (v := nI 1) hx hb d_M_findSigns_111 (by decide) ?_
                    refine lv_goto (tgt := 116) hx hb d_M_findSigns_112 (by decide) ?_
                    refine lv_lload_n hx hb d_M_findSigns_116 rfl (lv_at hl 3 rfl) ?_
                    refine lv_lconst (v := lI 0) hx hb d_M_findSigns_117 (by decide) ?_
                    refine xl_le (tgt := 126) hx hb hlu ⟨by decide, by decide⟩ d_M_findSigns_118 d_M_findSigns_119 (by decide) (fun c119_49 => ?_) (fun c119_49 => ?_)
                    · skip
                      refine lv_iconst (v := nI 0) hx hb d_M_findSigns_126 (by decide) ?_
                      refine xn_eq (tgt := 134) hx hb (by omega) (by omega) d_M_findSigns_127 (by decide) (fun c127_50 => absurd c127_50 (by decide)) (fun c127_50 => ?_)
                      refine lv_iconst (v := nI 1) hx hb d_M_findSigns_130 (by decide) ?_
                      refine lv_goto (tgt := 135) hx hb d_M_findSigns_131 (by decide) ?_
                      refine xn_add hx hb d_M_findSigns_135 ?_
                      refine va_put (D := D) (ci := 2) (v := .int (nI (av + 1))) (ty := .int) (C := R_M) (T := F_M) (N := 21) hx hb hts iw_M ft_M ft_M_ok n_M hown hK hP hD hS 0 rfl rfl 8 (by decide) (hts _ tw_395) (fun _ h9 => h9) rfl (by decide +kernel) rfl rfl (Nat.le_of_ble_eq_true rfl) d_M_findSigns_136 (fun H locs hP hD hS => ?_)
                      have hP : va_P D vwC [(g, .inr (2, [.int cd, .int (nI d), .ref mm, .int ik, .ref kf, .ref tb, .int (nI r), .ref wk, .int (nI (av + 1)), .int (nI (bv + 0)), .ref pl, .ref sp, .int a0, .int a1, .int b0, .int b1, .ref po, .ref to, .ref ba, .ref li, .int lm])), (tb, LA cJ 16 T), (wk, LA cJ 20 W9)] H := hP
                      have hD : va_D A [(g, .inr (2, [.int cd, .int (nI d), .ref mm, .int ik, .ref kf, .ref tb, .int (nI r), .ref wk, .int (nI (av + 1)), .int (nI (bv + 0)), .ref pl, .ref sp, .int a0, .int a1, .int b0, .int b1, .ref po, .ref to, .ref ba, .ref li, .int lm])), (tb, LA cJ 16 T), (wk, LA cJ 20 W9)] := hD
                      refine lv_lload hx hb d_M_findSigns_139 (lv_at hl 1 rfl) ?_
                      refine lv_lstore_n (lv' := [(3, .long (lI (eS T r (k + 1)))), (8, .long (lI (-(eS T r (k + 1))))), (6, .long (lI (eS T r (k + 1)))), (0, .ref g), (1, .long (lI uv)), (5, .int (nI (k + 1)))]) hx hb d_M_findSigns_141 rfl hl (by decide) rfl (fun ls hl => ?_)
                      refine lv_lload hx hb d_M_findSigns_142 (lv_at hl 1 rfl) ?_
                      refine lv_lstore_n (lv' := [(1, .long (lI (-(eS T r (k + 1))))), (3, .long (lI (eS T r (k + 1)))), (8, .long (lI (-(eS T r (k + 1))))), (6, .long (lI (eS T r (k + 1)))), (0, .ref g), (5, .int (nI (k + 1)))]) hx hb d_M_findSigns_144 rfl hl (by decide) rfl (fun ls hl => ?_)
                      refine lv_iinc (v := nI ((k + 1) + 1)) (lv' := [(5, .int (nI ((k + 1) + 1))), (1, .long (lI (-(eS T r (k + 1))))), (3, .long (lI (eS T r (k + 1)))), (8, .long (lI (-(eS T r (k + 1))))), (6, .long (lI (eS T r (k + 1)))), (0, .ref g)]) hx hb d_M_findSigns_145 hl (k := 5) rfl (nI_add _ _) (by decide) rfl (fun ls hl => ?_)
                      refine lv_goto (tgt := 17) hx hb d_M_findSigns_148 (by decide) ?_
                      exact ih_17 (k + 1) W9 (av + 1) (bv + 0) (-(eS T r (k + 1))) (eS T r (k + 1)) H locs ls (by omega) (by rw [fsx_n hf c56_41, tnE_o (show (k + 1) % 2 = 1 from by omega), x01_d (s := -(eS T r (k + 1))) (t := uv) (by omega), x01_s (s := eS T r (k + 1)) (t := dv) (by omega)]) (by unfold lB at *; omega) hlE (by omega) hP hD hS (lv_sub hl [5, 1, 2, 0] rfl)
                    · skip
                      refine lv_iconst (v := nI 1) hx hb d_M_findSigns_122 (by decide) ?_
                      refine lv_goto (tgt := 127) hx hb d_M_findSigns_123 (by decide) ?_
                      refine xn_eq (tgt := 134) hx hb (by omega) (by omega) d_M_findSigns_127 (by decide) (fun c127_51 => ?_) (fun c127_51 => absurd c127_51 (by decide))
                      refine lv_iconst (v := nI 0) hx hb d_M_findSigns_134 (by decide) ?_
                      refine xn_add hx hb d_M_findSigns_135 ?_
                      refine va_put (D := D) (ci := 2) (v := .int (nI (av + 0))) (ty := .int) (C := R_M) (T := F_M) (N := 21) hx hb hts iw_M ft_M ft_M_ok n_M hown hK hP hD hS 0 rfl rfl 8 (by decide) (hts _ tw_395) (fun _ h9 => h9) rfl (by decide +kernel) rfl rfl (Nat.le_of_ble_eq_true rfl) d_M_findSigns_136 (fun H locs hP hD hS => ?_)
                      have hP : va_P D vwC [(g, .inr (2, [.int cd, .int (nI d), .ref mm, .int ik, .ref kf, .ref tb, .int (nI r), .ref wk, .int (nI (av + 0)), .int (nI (bv + 0)), .ref pl, .ref sp, .int a0, .int a1, .int b0, .int b1, .ref po, .ref to, .ref ba, .ref li, .int lm])), (tb, LA cJ 16 T), (wk, LA cJ 20 W9)] H := hP
                      have hD : va_D A [(g, .inr (2, [.int cd, .int (nI d), .ref mm, .int ik, .ref kf, .ref tb, .int (nI r), .ref wk, .int (nI (av + 0)), .int (nI (bv + 0)), .ref pl, .ref sp, .int a0, .int a1, .int b0, .int b1, .ref po, .ref to, .ref ba, .ref li, .int lm])), (tb, LA cJ 16 T), (wk, LA cJ 20 W9)] := hD
                      refine lv_lload hx hb d_M_findSigns_139 (lv_at hl 1 rfl) ?_
                      refine lv_lstore_n (lv' := [(3, .long (lI (eS T r (k + 1)))), (8, .long (lI (-(eS T r (k + 1))))), (6, .long (lI (eS T r (k + 1)))), (0, .ref g), (1, .long (lI uv)), (5, .int (nI (k + 1)))]) hx hb d_M_findSigns_141 rfl hl (by decide) rfl (fun ls hl => ?_)
                      refine lv_lload hx hb d_M_findSigns_142 (lv_at hl 1 rfl) ?_
                      refine lv_lstore_n (lv' := [(1, .long (lI (-(eS T r (k + 1))))), (3, .long (lI (eS T r (k + 1)))), (8, .long (lI (-(eS T r (k + 1))))), (6, .long (lI (eS T r (k + 1)))), (0, .ref g), (5, .int (nI (k + 1)))]) hx hb d_M_findSigns_144 rfl hl (by decide) rfl (fun ls hl => ?_)
                      refine lv_iinc (v := nI ((k + 1) + 1)) (lv' := [(5, .int (nI ((k + 1) + 1))), (1, .long (lI (-(eS T r (k + 1))))), (3, .long (lI (eS T r (k + 1)))), (8, .long (lI (-(eS T r (k + 1))))), (6, .long (lI (eS T r (k + 1)))), (0, .ref g)]) hx hb d_M_findSigns_145 hl (k := 5) rfl (nI_add _ _) (by decide) rfl (fun ls hl => ?_)
                      refine lv_goto (tgt := 17) hx hb d_M_findSigns_148 (by decide) ?_
                      exact ih_17 (k + 1) W9 (av + 0) (bv + 0) (-(eS T r (k + 1))) (eS T r (k + 1)) H locs ls (by omega) (by rw [fsx_n hf c56_41, tnE_o (show (k + 1) % 2 = 1 from by omega), x01_s (s := -(eS T r (k + 1))) (t := uv) (by omega), x01_s (s := eS T r (k + 1)) (t := dv) (by omega)]) (by unfold lB at *; omega) hlE (by omega) hP hD hS (lv_sub hl [5, 1, 2, 0] rfl)
                · skip
                  refine lv_iconst (v := nI 1) hx hb d_M_findSigns_82 (by decide) ?_
                  refine lv_goto (tgt := 87) hx hb d_M_findSigns_83 (by decide) ?_
                  refine xn_eq (tgt := 94) hx hb (by omega) (by omega) d_M_findSigns_87 (by decide) (fun c87_52 => absurd c87_52 (by decide)) (fun c87_52 => ?_)
                  refine lv_iconst (v := nI 1) hx hb d_M_findSigns_90 (by decide) ?_
                  refine lv_goto (tgt := 95) hx hb d_M_findSigns_91 (by decide) ?_
                  refine xn_add hx hb d_M_findSigns_95 ?_
                  refine va_put (D := D) (ci := 2) (v := .int (nI (bv + 1))) (ty := .int) (C := R_M) (T := F_M) (N := 21) hx hb hts iw_M ft_M ft_M_ok n_M hown hK hP hD hS 0 rfl rfl 9 (by decide) (hts _ tw_396) (fun _ h9 => h9) rfl (by decide +kernel) rfl rfl (Nat.le_of_ble_eq_true rfl) d_M_findSigns_96 (fun H locs hP hD hS => ?_)
                  have hP : va_P D vwC [(g, .inr (2, [.int cd, .int (nI d), .ref mm, .int ik, .ref kf, .ref tb, .int (nI r), .ref wk, .int (nI av), .int (nI (bv + 1)), .ref pl, .ref sp, .int a0, .int a1, .int b0, .int b1, .ref po, .ref to, .ref ba, .ref li, .int lm])), (tb, LA cJ 16 T), (wk, LA cJ 20 W9)] H := hP
                  have hD : va_D A [(g, .inr (2, [.int cd, .int (nI d), .ref mm, .int ik, .ref kf, .ref tb, .int (nI r), .ref wk, .int (nI av), .int (nI (bv + 1)), .ref pl, .ref sp, .int a0, .int a1, .int b0, .int b1, .ref po, .ref to, .ref ba, .ref li, .int lm])), (tb, LA cJ 16 T), (wk, LA cJ 20 W9)] := hD
                  refine lv_aload_n hx hb d_M_findSigns_99 rfl (lv_at hl 2 rfl) ?_
                  refine lv_dup hx hb d_M_findSigns_100 rfl ?_
                  refine va_get (D := D) (ci := 2) (v := .int (nI av)) (C := R_M) (T := F_M) (N := 21) hx hb hts iw_M hown hK hP 0 rfl rfl 8 (by decide) (hts _ tw_395) (fun _ h9 => h9) rfl d_M_findSigns_101 ?_
                  refine lv_lload hx hb d_M_findSigns_104 (lv_at hl 0 rfl) ?_
                  refine lv_lconst (v := lI 0) hx hb d_M_findSigns_106 (by decide) ?_
                  refine xl_le (tgt := 115) hx hb (by first | exact hlE | exact hlN) ⟨by decide, by decide⟩ d_M_findSigns_107 d_M_findSigns_108 (by decide) (fun c108_53 => ?_) (fun c108_53 => ?_)
                  · skip
                    refine lv_iconst (v := nI 0) hx hb d_M_findSigns_115 (by decide) ?_
                    refine lv_lload_n hx hb d_M_findSigns_116 rfl (lv_at hl 3 rfl) ?_
                    refine lv_lconst (v := lI 0) hx hb d_M_findSigns_117 (by decide) ?_
                    refine xl_le (tgt := 126) hx hb hlu ⟨by decide, by decide⟩ d_M_findSigns_118 d_M_findSigns_119 (by decide) (fun c119_54 => ?_) (fun c119_54 => ?_)
                    · skip
                      refine lv_iconst (v := nI 0) hx hb d_M_findSigns_126 (by decide) ?_
                      refine xn_eq (tgt := 134) hx hb (by omega) (by omega) d_M_findSigns_127 (by decide) (fun c127_55 => ?_) (fun c127_55 => absurd c127_55 (by decide))
                      refine lv_iconst (v := nI 0) hx hb d_M_findSigns_134 (by decide) ?_
                      refine xn_add hx hb d_M_findSigns_135 ?_
                      refine va_put (D := D) (ci := 2) (v := .int (nI (av + 0))) (ty := .int) (C := R_M) (T := F_M) (N := 21) hx hb hts iw_M ft_M ft_M_ok n_M hown hK hP hD hS 0 rfl rfl 8 (by decide) (hts _ tw_395) (fun _ h9 => h9) rfl (by decide +kernel) rfl rfl (Nat.le_of_ble_eq_true rfl) d_M_findSigns_136 (fun H locs hP hD hS => ?_)
                      have hP : va_P D vwC [(g, .inr (2, [.int cd, .int (nI d), .ref mm, .int ik, .ref kf, .ref tb, .int (nI r), .ref wk, .int (nI (av + 0)), .int (nI (bv + 1)), .ref pl, .ref sp, .int a0, .int a1, .int b0, .int b1, .ref po, .ref to, .ref ba, .ref li, .int lm])), (tb, LA cJ 16 T), (wk, LA cJ 20 W9)] H := hP
                      have hD : va_D A [(g, .inr (2, [.int cd, .int (nI d), .ref mm, .int ik, .ref kf, .ref tb, .int (nI r), .ref wk, .int (nI (av + 0)), .int (nI (bv + 1)), .ref pl, .ref sp, .int a0, .int a1, .int b0, .int b1, .ref po, .ref to, .ref ba, .ref li, .int lm])), (tb, LA cJ 16 T), (wk, LA cJ 20 W9)] := hD
                      refine lv_lload hx hb d_M_findSigns_139 (lv_at hl 1 rfl) ?_
                      refine lv_lstore_n (lv' := [(3, .long (lI (eS T r (k + 1)))), (8, .long (lI (-(eS T r (k + 1))))), (6, .long (lI (eS T r (k + 1)))), (0, .ref g), (1, .long (lI uv)), (5, .int (nI (k + 1)))]) hx hb d_M_findSigns_141 rfl hl (by decide) rfl (fun ls hl => ?_)
                      refine lv_lload hx hb d_M_findSigns_142 (lv_at hl 1 rfl) ?_
                      refine lv_lstore_n (lv' := [(1, .long (lI (-(eS T r (k + 1))))), (3, .long (lI (eS T r (k + 1)))), (8, .long (lI (-(eS T r (k + 1))))), (6, .long (lI (eS T r (k + 1)))), (0, .ref g), (5, .int (nI (k + 1)))]) hx hb d_M_findSigns_144 rfl hl (by decide) rfl (fun ls hl => ?_)
                      refine lv_iinc (v := nI ((k + 1) + 1)) (lv' := [(5, .int (nI ((k + 1) + 1))), (1, .long (lI (-(eS T r (k + 1))))), (3, .long (lI (eS T r (k + 1)))), (8, .long (lI (-(eS T r (k + 1))))), (6, .long (lI (eS T r (k + 1)))), (0, .ref g)]) hx hb d_M_findSigns_145 hl (k := 5) rfl (nI_add _ _) (by decide) rfl (fun ls hl => ?_)
                      refine lv_goto (tgt := 17) hx hb d_M_findSigns_148 (by decide) ?_
                      exact ih_17 (k + 1) W9 (av + 0) (bv + 1) (-(eS T r (k + 1))) (eS T r (k + 1)) H locs ls (by omega) (by rw [fsx_n hf c56_41, tnE_o (show (k + 1) % 2 = 1 from by omega), x01_s (s := -(eS T r (k + 1))) (t := uv) (by omega), x01_d (s := eS T r (k + 1)) (t := dv) (by omega)]) (by unfold lB at *; omega) hlE (by omega) hP hD hS (lv_sub hl [5, 1, 2, 0] rfl)
                    · skip
                      refine lv_iconst (v := nI 1) hx hb d_M_findSigns_122 (by decide) ?_
                      refine lv_goto (tgt := 127) hx hb d_M_findSigns_123 (by decide) ?_
                      refine xn_eq (tgt := 134) hx hb (by omega) (by omega) d_M_findSigns_127 (by decide) (fun c127_56 => absurd c127_56 (by decide)) (fun c127_56 => ?_)
                      refine lv_iconst (v := nI 1) hx hb d_M_findSigns_130 (by decide) ?_
                      refine lv_goto (tgt := 135) hx hb d_M_findSigns_131 (by decide) ?_
                      refine xn_add hx hb d_M_findSigns_135 ?_
                      refine va_put (D := D) (ci := 2) (v := .int (nI (av + 1))) (ty := .int) (C := R_M) (T := F_M) (N := 21) hx hb hts iw_M ft_M ft_M_ok n_M hown hK hP hD hS 0 rfl rfl 8 (by decide) (hts _ tw_395) (fun _ h9 => h9) rfl (by decide +kernel) rfl rfl (Nat.le_of_ble_eq_true rfl) d_M_findSigns_136 (fun H locs hP hD hS => ?_)
                      have hP : va_P D vwC [(g, .inr (2, [.int cd, .int (nI d), .ref mm, .int ik, .ref kf, .ref tb, .int (nI r), .ref wk, .int (nI (av + 1)), .int (nI (bv + 1)), .ref pl, .ref sp, .int a0, .int a1, .int b0, .int b1, .ref po, .ref to, .ref ba, .ref li, .int lm])), (tb, LA cJ 16 T), (wk, LA cJ 20 W9)] H := hP
                      have hD : va_D A [(g, .inr (2, [.int cd, .int (nI d), .ref mm, .int ik, .ref kf, .ref tb, .int (nI r), .ref wk, .int (nI (av + 1)), .int (nI (bv + 1)), .ref pl, .ref sp, .int a0, .int a1, .int b0, .int b1, .ref po, .ref to, .ref ba, .ref li, .int lm])), (tb, LA cJ 16 T), (wk, LA cJ 20 W9)] := hD
                      refine lv_lload hx hb d_M_findSigns_139 (lv_at hl 1 rfl) ?_
                      refine lv_lstore_n (lv' := [(3, .long (lI (eS T r (k + 1)))), (8, .long (lI (-(eS T r (k + 1))))), (6, .long (lI (eS T r (k + 1)))), (0, .ref g), (1, .long (lI uv)), (5, .int (nI (k + 1)))]) hx hb d_M_findSigns_141 rfl hl (by decide) rfl (fun ls hl => ?_)
                      refine lv_lload hx hb d_M_findSigns_142 (lv_at hl 1 rfl) ?_
                      refine lv_lstore_n (lv' := [(1, .long (lI (-(eS T r (k + 1))))), (3, .long (lI (eS T r (k + 1)))), (8, .long (lI (-(eS T r (k + 1))))), (6, .long (lI (eS T r (k + 1)))), (0, .ref g), (5, .int (nI (k + 1)))]) hx hb d_M_findSigns_144 rfl hl (by decide) rfl (fun ls hl => ?_)
                      refine lv_iinc (v := nI ((k + 1) + 1)) (lv' := [(5, .int (nI ((k + 1) + 1))), (1, .long (lI (-(eS T r (k + 1))))), (3, .long (lI (eS T r (k + 1)))), (8, .long (lI (-(eS T r (k + 1))))), (6, .long (lI (eS T r (k + 1)))), (0, .ref g)]) hx hb d_M_findSigns_145 hl (k := 5) rfl (nI_add _ _) (by decide) rfl (fun ls hl => ?_)
                      refine lv_goto (tgt := 17) hx hb d_M_findSigns_148 (by decide) ?_
                      exact ih_17 (k + 1) W9 (av + 1) (bv + 1) (-(eS T r (k + 1))) (eS T r (k + 1)) H locs ls (by omega) (by rw [fsx_n hf c56_41, tnE_o (show (k + 1) % 2 = 1 from by omega), x01_d (s := -(eS T r (k + 1))) (t := uv) (by omega), x01_d (s := eS T r (k + 1)) (t := dv) (by omega)]) (by unfold lB at *; omega) hlE (by omega) hP hD hS (lv_sub hl [5, 1, 2, 0] rfl)
                  · skip
                    refine lv_iconst (v := nI 1) hx hb d_M_findSigns_111 (by decide) ?_
                    refine lv_goto (tgt := 116) hx hb d_M_findSigns_112 (by decide) ?_
                    refine lv_lload_n hx hb d_M_findSigns_116 rfl (lv_at hl 3 rfl) ?_
                    refine lv_lconst (v := lI 0) hx hb d_M_findSigns_117 (by decide) ?_
                    refine xl_le (tgt := 126) hx hb hlu ⟨by decide, by decide⟩ d_M_findSigns_118 d_M_findSigns_119 (by decide) (fun c119_57 => ?_) (fun c119_57 => ?_)
                    · skip
                      refine lv_iconst (v := nI 0) hx hb d_M_findSigns_126 (by decide) ?_
                      refine xn_eq (tgt := 134) hx hb (by omega) (by omega) d_M_findSigns_127 (by decide) (fun c127_58 => absurd c127_58 (by decide)) (fun c127_58 => ?_)
                      refine lv_iconst (v := nI 1) hx hb d_M_findSigns_130 (by decide) ?_
                      refine lv_goto (tgt := 135) hx hb d_M_findSigns_131 (by decide) ?_
                      refine xn_add hx hb d_M_findSigns_135 ?_
                      refine va_put (D := D) (ci := 2) (v := .int (nI (av + 1))) (ty := .int) (C := R_M) (T := F_M) (N := 21) hx hb hts iw_M ft_M ft_M_ok n_M hown hK hP hD hS 0 rfl rfl 8 (by decide) (hts _ tw_395) (fun _ h9 => h9) rfl (by decide +kernel) rfl rfl (Nat.le_of_ble_eq_true rfl) d_M_findSigns_136 (fun H locs hP hD hS => ?_)
                      have hP : va_P D vwC [(g, .inr (2, [.int cd, .int (nI d), .ref mm, .int ik, .ref kf, .ref tb, .int (nI r), .ref wk, .int (nI (av + 1)), .int (nI (bv + 1)), .ref pl, .ref sp, .int a0, .int a1, .int b0, .int b1, .ref po, .ref to, .ref ba, .ref li, .int lm])), (tb, LA cJ 16 T), (wk, LA cJ 20 W9)] H := hP
                      have hD : va_D A [(g, .inr (2, [.int cd, .int (nI d), .ref mm, .int ik, .ref kf, .ref tb, .int (nI r), .ref wk, .int (nI (av + 1)), .int (nI (bv + 1)), .ref pl, .ref sp, .int a0, .int a1, .int b0, .int b1, .ref po, .ref to, .ref ba, .ref li, .int lm])), (tb, LA cJ 16 T), (wk, LA cJ 20 W9)] := hD
                      refine lv_lload hx hb d_M_findSigns_139 (lv_at hl 1 rfl) ?_
                      refine lv_lstore_n (lv' := [(3, .long (lI (eS T r (k + 1)))), (8, .long (lI (-(eS T r (k + 1))))), (6, .long (lI (eS T r (k + 1)))), (0, .ref g), (1, .long (lI uv)), (5, .int (nI (k + 1)))]) hx hb d_M_findSigns_141 rfl hl (by decide) rfl (fun ls hl => ?_)
                      refine lv_lload hx hb d_M_findSigns_142 (lv_at hl 1 rfl) ?_
                      refine lv_lstore_n (lv' := [(1, .long (lI (-(eS T r (k + 1))))), (3, .long (lI (eS T r (k + 1)))), (8, .long (lI (-(eS T r (k + 1))))), (6, .long (lI (eS T r (k + 1)))), (0, .ref g), (5, .int (nI (k + 1)))]) hx hb d_M_findSigns_144 rfl hl (by decide) rfl (fun ls hl => ?_)
                      refine lv_iinc (v := nI ((k + 1) + 1)) (lv' := [(5, .int (nI ((k + 1) + 1))), (1, .long (lI (-(eS T r (k + 1))))), (3, .long (lI (eS T r (k + 1)))), (8, .long (lI (-(eS T r (k + 1))))), (6, .long (lI (eS T r (k + 1)))), (0, .ref g)]) hx hb d_M_findSigns_145 hl (k := 5) rfl (nI_add _ _) (by decide) rfl (fun ls hl => ?_)
                      refine lv_goto (tgt := 17) hx hb d_M_findSigns_148 (by decide) ?_
                      exact ih_17 (k + 1) W9 (av + 1) (bv + 1) (-(eS T r (k + 1))) (eS T r (k + 1)) H locs ls (by omega) (by rw [fsx_n hf c56_41, tnE_o (show (k + 1) % 2 = 1 from by omega), x01_d (s := -(eS T r (k + 1))) (t := uv) (by omega), x01_d (s := eS T r (k + 1)) (t := dv) (by omega)]) (by unfold lB at *; omega) hlE (by omega) hP hD hS (lv_sub hl [5, 1, 2, 0] rfl)
                    · skip
                      refine lv_iconst (v := nI 1) hx hb d_M_findSigns_122 (by decide) ?_
                      refine lv_goto (tgt := 127) hx hb d_M_findSigns_123 (by decide) ?_
                      refine xn_eq (tgt := 134) hx hb (by omega) (by omega) d_M_findSigns_127 (by decide) (fun c127_59 => ?_) (fun c127_59 => absurd c127_59 (by decide))
                      refine lv_iconst (v := nI 0) hx hb d_M_findSigns_134 (by decide) ?_
                      refine xn_add hx hb d_M_findSigns_135 ?_
                      refine va_put (D := D) (ci := 2) (v := .int (nI (av + 0))) (ty := .int) (C := R_M) (T := F_M) (N := 21) hx hb hts iw_M ft_M ft_M_ok n_M hown hK hP hD hS 0 rfl rfl 8 (by decide) (hts _ tw_395) (fun _ h9 => h9) rfl (by decide +kernel) rfl rfl (Nat.le_of_ble_eq_true rfl) d_M_findSigns_136 (fun H locs hP hD hS => ?_)
                      have hP : va_P D vwC [(g, .inr (2, [.int cd, .int (nI d), .ref mm, .int ik, .ref kf, .ref tb, .int (nI r), .ref wk, .int (nI (av + 0)), .int (nI (bv + 1)), .ref pl, .ref sp, .int a0, .int a1, .int b0, .int b1, .ref po, .ref to, .ref ba, .ref li, .int lm])), (tb, LA cJ 16 T), (wk, LA cJ 20 W9)] H := hP
                      have hD : va_D A [(g, .inr (2, [.int cd, .int (nI d), .ref mm, .int ik, .ref kf, .ref tb, .int (nI r), .ref wk, .int (nI (av + 0)), .int (nI (bv + 1)), .ref pl, .ref sp, .int a0, .int a1, .int b0, .int b1, .ref po, .ref to, .ref ba, .ref li, .int lm])), (tb, LA cJ 16 T), (wk, LA cJ 20 W9)] := hD
                      refine lv_lload hx hb d_M_findSigns_139 (lv_at hl 1 rfl) ?_
                      refine lv_lstore_n (lv' := [(3, .long (lI (eS T r (k + 1)))), (8, .long (lI (-(eS T r (k + 1))))), (6, .long (lI (eS T r (k + 1)))), (0, .ref g), (1, .long (lI uv)), (5, .int (nI (k + 1)))]) hx hb d_M_findSigns_141 rfl hl (by decide) rfl (fun ls hl => ?_)
                      refine lv_lload hx hb d_M_findSigns_142 (lv_at hl 1 rfl) ?_
                      refine lv_lstore_n (lv' := [(1, .long (lI (-(eS T r (k + 1))))), (3, .long (lI (eS T r (k + 1)))), (8, .long (lI (-(eS T r (k + 1))))), (6, .long (lI (eS T r (k + 1)))), (0, .ref g), (5, .int (nI (k + 1)))]) hx hb d_M_findSigns_144 rfl hl (by decide) rfl (fun ls hl => ?_)
                      refine lv_iinc (v := nI ((k + 1) + 1)) (lv' := [(5, .int (nI ((k + 1) + 1))), (1, .long (lI (-(eS T r (k + 1))))), (3, .long (lI (eS T r (k + 1)))), (8, .long (lI (-(eS T r (k + 1))))), (6, .long (lI (eS T r (k + 1)))), (0, .ref g)]) hx hb d_M_findSigns_145 hl (k := 5) rfl (nI_add _ _) (by decide) rfl (fun ls hl => ?_)
                      refine lv_goto (tgt := 17) hx hb d_M_findSigns_148 (by decide) ?_
                      exact ih_17 (k + 1) W9 (av + 0) (bv + 1) (-(eS T r (k + 1))) (eS T r (k + 1)) H locs ls (by omega) (by rw [fsx_n hf c56_41, tnE_o (show (k + 1) % 2 = 1 from by omega), x01_s (s := -(eS T r (k + 1))) (t := uv) (by omega), x01_d (s := eS T r (k + 1)) (t := dv) (by omega)]) (by unfold lB at *; omega) hlE (by omega) hP hD hS (lv_sub hl [5, 1, 2, 0] rfl)
              · skip
                refine lv_iconst (v := nI 1) hx hb d_M_findSigns_71 (by decide) ?_
                refine lv_goto (tgt := 76) hx hb d_M_findSigns_72 (by decide) ?_
                refine lv_lload_n hx hb d_M_findSigns_76 rfl (lv_at hl 4 rfl) ?_
                refine lv_lconst (v := lI 0) hx hb d_M_findSigns_77 (by decide) ?_
                refine xl_le (tgt := 86) hx hb hld ⟨by decide, by decide⟩ d_M_findSigns_78 d_M_findSigns_79 (by decide) (fun c79_60 => ?_) (fun c79_60 => ?_)
                · skip
                  refine lv_iconst (v := nI 0) hx hb d_M_findSigns_86 (by decide) ?_
                  refine xn_eq (tgt := 94) hx hb (by omega) (by omega) d_M_findSigns_87 (by decide) (fun c87_61 => absurd c87_61 (by decide)) (fun c87_61 => ?_)
                  refine lv_iconst (v := nI 1) hx hb d_M_findSigns_90 (by decide) ?_
                  refine lv_goto (tgt := 95) hx hb d_M_findSigns_91 (by decide) ?_
                  refine xn_add hx hb d_M_findSigns_95 ?_
                  refine va_put (D := D) (ci := 2) (v := .int (nI (bv + 1))) (ty := .int) (C := R_M) (T := F_M) (N := 21) hx hb hts iw_M ft_M ft_M_ok n_M hown hK hP hD hS 0 rfl rfl 9 (by decide) (hts _ tw_396) (fun _ h9 => h9) rfl (by decide +kernel) rfl rfl (Nat.le_of_ble_eq_true rfl) d_M_findSigns_96 (fun H locs hP hD hS => ?_)
                  have hP : va_P D vwC [(g, .inr (2, [.int cd, .int (nI d), .ref mm, .int ik, .ref kf, .ref tb, .int (nI r), .ref wk, .int (nI av), .int (nI (bv + 1)), .ref pl, .ref sp, .int a0, .int a1, .int b0, .int b1, .ref po, .ref to, .ref ba, .ref li, .int lm])), (tb, LA cJ 16 T), (wk, LA cJ 20 W9)] H := hP
                  have hD : va_D A [(g, .inr (2, [.int cd, .int (nI d), .ref mm, .int ik, .ref kf, .ref tb, .int (nI r), .ref wk, .int (nI av), .int (nI (bv + 1)), .ref pl, .ref sp, .int a0, .int a1, .int b0, .int b1, .ref po, .ref to, .ref ba, .ref li, .int lm])), (tb, LA cJ 16 T), (wk, LA cJ 20 W9)] := hD
                  refine lv_aload_n hx hb d_M_findSigns_99 rfl (lv_at hl 2 rfl) ?_
                  refine lv_dup hx hb d_M_findSigns_100 rfl ?_
                  refine va_get (D := D) (ci := 2) (v := .int (nI av)) (C := R_M) (T := F_M) (N := 21) hx hb hts iw_M hown hK hP 0 rfl rfl 8 (by decide) (hts _ tw_395) (fun _ h9 => h9) rfl d_M_findSigns_101 ?_
                  refine lv_lload hx hb d_M_findSigns_104 (lv_at hl 0 rfl) ?_
                  refine lv_lconst (v := lI 0) hx hb d_M_findSigns_106 (by decide) ?_
                  refine xl_le (tgt := 115) hx hb (by first | exact hlE | exact hlN) ⟨by decide, by decide⟩ d_M_findSigns_107 d_M_findSigns_108 (by decide) (fun c108_62 => ?_) (fun c108_62 => ?_)
                  · skip
                    refine lv_iconst (v := nI 0) hx hb d_M_findSigns_115 (by decide) ?_
                    refine lv_lload_n hx hb d_M_findSigns_116 rfl (lv_at hl 3 rfl) ?_
                    refine lv_lconst (v := lI 0) hx hb d_M_findSigns_117 (by decide) ?_
                    refine xl_le (tgt := 126) hx hb hlu ⟨by decide, by decide⟩ d_M_findSigns_118 d_M_findSigns_119 (by decide) (fun c119_63 => ?_) (fun c119_63 => ?_)
                    · skip
                      refine lv_iconst (v := nI 0) hx hb d_M_findSigns_126 (by decide) ?_
                      refine xn_eq (tgt := 134) hx hb (by omega) (by omega) d_M_findSigns_127 (by decide) (fun c127_64 => ?_) (fun c127_64 => absurd c127_64 (by decide))
                      refine lv_iconst (v := nI 0) hx hb d_M_findSigns_134 (by decide) ?_
                      refine xn_add hx hb d_M_findSigns_135 ?_
                      refine va_put (D := D) (ci := 2) (v := .int (nI (av + 0))) (ty := .int) (C := R_M) (T := F_M) (N := 21) hx hb hts iw_M ft_M ft_M_ok n_M hown hK hP hD hS 0 rfl rfl 8 (by decide) (hts _ tw_395) (fun _ h9 => h9) rfl (by decide +kernel) rfl rfl (Nat.le_of_ble_eq_true rfl) d_M_findSigns_136 (fun H locs hP hD hS => ?_)
                      have hP : va_P D vwC [(g, .inr (2, [.int cd, .int (nI d), .ref mm, .int ik, .ref kf, .ref tb, .int (nI r), .ref wk, .int (nI (av + 0)), .int (nI (bv + 1)), .ref pl, .ref sp, .int a0, .int a1, .int b0, .int b1, .ref po, .ref to, .ref ba, .ref li, .int lm])), (tb, LA cJ 16 T), (wk, LA cJ 20 W9)] H := hP
                      have hD : va_D A [(g, .inr (2, [.int cd, .int (nI d), .ref mm, .int ik, .ref kf, .ref tb, .int (nI r), .ref wk, .int (nI (av + 0)), .int (nI (bv + 1)), .ref pl, .ref sp, .int a0, .int a1, .int b0, .int b1, .ref po, .ref to, .ref ba, .ref li, .int lm])), (tb, LA cJ 16 T), (wk, LA cJ 20 W9)] := hD
                      refine lv_lload hx hb d_M_findSigns_139 (lv_at hl 1 rfl) ?_
                      refine lv_lstore_n (lv' := [(3, .long (lI (eS T r (k + 1)))), (8, .long (lI (-(eS T r (k + 1))))), (6, .long (lI (eS T r (k + 1)))), (0, .ref g), (1, .long (lI uv)), (5, .int (nI (k + 1)))]) hx hb d_M_findSigns_141 rfl hl (by decide) rfl (fun ls hl => ?_)
                      refine lv_lload hx hb d_M_findSigns_142 (lv_at hl 1 rfl) ?_
                      refine lv_lstore_n (lv' := [(1, .long (lI (-(eS T r (k + 1))))), (3, .long (lI (eS T r (k + 1)))), (8, .long (lI (-(eS T r (k + 1))))), (6, .long (lI (eS T r (k + 1)))), (0, .ref g), (5, .int (nI (k + 1)))]) hx hb d_M_findSigns_144 rfl hl (by decide) rfl (fun ls hl => ?_)
                      refine lv_iinc (v := nI ((k + 1) + 1)) (lv' := [(5, .int (nI ((k + 1) + 1))), (1, .long (lI (-(eS T r (k + 1))))), (3, .long (lI (eS T r (k + 1)))), (8, .long (lI (-(eS T r (k + 1))))), (6, .long (lI (eS T r (k + 1)))), (0, .ref g)]) hx hb d_M_findSigns_145 hl (k := 5) rfl (nI_add _ _) (by decide) rfl (fun ls hl => ?_)
                      refine lv_goto (tgt := 17) hx hb d_M_findSigns_148 (by decide) ?_
                      exact ih_17 (k + 1) W9 (av + 0) (bv + 1) (-(eS T r (k + 1))) (eS T r (k + 1)) H locs ls (by omega) (by rw [fsx_n hf c56_41, tnE_o (show (k + 1) % 2 = 1 from by omega), x01_s (s := -(eS T r (k + 1))) (t := uv) (by omega), x01_d (s := eS T r (k + 1)) (t := dv) (by omega)]) (by unfold lB at *; omega) hlE (by omega) hP hD hS (lv_sub hl [5, 1, 2, 0] rfl)
                    · skip
                      refine lv_iconst (v := nI 1) hx hb d_M_findSigns_122 (by decide) ?_
                      refine lv_goto (tgt := 127) hx hb d_M_findSigns_123 (by decide) ?_
                      refine xn_eq (tgt := 134) hx hb (by omega) (by omega) d_M_findSigns_127 (by decide) (fun c127_65 => absurd c127_65 (by decide)) (fun c127_65 => ?_)
                      refine lv_iconst (v := nI 1) hx hb d_M_findSigns_130 (by decide) ?_
                      refine lv_goto (tgt := 135) hx hb d_M_findSigns_131 (by decide) ?_
                      refine xn_add hx hb d_M_findSigns_135 ?_
                      refine va_put (D := D) (ci := 2) (v := .int (nI (av + 1))) (ty := .int) (C := R_M) (T := F_M) (N := 21) hx hb hts iw_M ft_M ft_M_ok n_M hown hK hP hD hS 0 rfl rfl 8 (by decide) (hts _ tw_395) (fun _ h9 => h9) rfl (by decide +kernel) rfl rfl (Nat.le_of_ble_eq_true rfl) d_M_findSigns_136 (fun H locs hP hD hS => ?_)
                      have hP : va_P D vwC [(g, .inr (2, [.int cd, .int (nI d), .ref mm, .int ik, .ref kf, .ref tb, .int (nI r), .ref wk, .int (nI (av + 1)), .int (nI (bv + 1)), .ref pl, .ref sp, .int a0, .int a1, .int b0, .int b1, .ref po, .ref to, .ref ba, .ref li, .int lm])), (tb, LA cJ 16 T), (wk, LA cJ 20 W9)] H := hP
                      have hD : va_D A [(g, .inr (2, [.int cd, .int (nI d), .ref mm, .int ik, .ref kf, .ref tb, .int (nI r), .ref wk, .int (nI (av + 1)), .int (nI (bv + 1)), .ref pl, .ref sp, .int a0, .int a1, .int b0, .int b1, .ref po, .ref to, .ref ba, .ref li, .int lm])), (tb, LA cJ 16 T), (wk, LA cJ 20 W9)] := hD
                      refine lv_lload hx hb d_M_findSigns_139 (lv_at hl 1 rfl) ?_
                      refine lv_lstore_n (lv' := [(3, .long (lI (eS T r (k + 1)))), (8, .long (lI (-(eS T r (k + 1))))), (6, .long (lI (eS T r (k + 1)))), (0, .ref g), (1, .long (lI uv)), (5, .int (nI (k + 1)))]) hx hb d_M_findSigns_141 rfl hl (by decide) rfl (fun ls hl => ?_)
                      refine lv_lload hx hb d_M_findSigns_142 (lv_at hl 1 rfl) ?_
                      refine lv_lstore_n (lv' := [(1, .long (lI (-(eS T r (k + 1))))), (3, .long (lI (eS T r (k + 1)))), (8, .long (lI (-(eS T r (k + 1))))), (6, .long (lI (eS T r (k + 1)))), (0, .ref g), (5, .int (nI (k + 1)))]) hx hb d_M_findSigns_144 rfl hl (by decide) rfl (fun ls hl => ?_)
                      refine lv_iinc (v := nI ((k + 1) + 1)) (lv' := [(5, .int (nI ((k + 1) + 1))), (1, .long (lI (-(eS T r (k + 1))))), (3, .long (lI (eS T r (k + 1)))), (8, .long (lI (-(eS T r (k + 1))))), (6, .long (lI (eS T r (k + 1)))), (0, .ref g)]) hx hb d_M_findSigns_145 hl (k := 5) rfl (nI_add _ _) (by decide) rfl (fun ls hl => ?_)
                      refine lv_goto (tgt := 17) hx hb d_M_findSigns_148 (by decide) ?_
                      exact ih_17 (k + 1) W9 (av + 1) (bv + 1) (-(eS T r (k + 1))) (eS T r (k + 1)) H locs ls (by omega) (by rw [fsx_n hf c56_41, tnE_o (show (k + 1) % 2 = 1 from by omega), x01_d (s := -(eS T r (k + 1))) (t := uv) (by omega), x01_d (s := eS T r (k + 1)) (t := dv) (by omega)]) (by unfold lB at *; omega) hlE (by omega) hP hD hS (lv_sub hl [5, 1, 2, 0] rfl)
                  · skip
                    refine lv_iconst (v := nI 1) hx hb d_M_findSigns_111 (by decide) ?_
                    refine lv_goto (tgt := 116) hx hb d_M_findSigns_112 (by decide) ?_
                    refine lv_lload_n hx hb d_M_findSigns_116 rfl (lv_at hl 3 rfl) ?_
                    refine lv_lconst (v := lI 0) hx hb d_M_findSigns_117 (by decide) ?_
                    refine xl_le (tgt := 126) hx hb hlu ⟨by decide, by decide⟩ d_M_findSigns_118 d_M_findSigns_119 (by decide) (fun c119_66 => ?_) (fun c119_66 => ?_)
                    · skip
                      refine lv_iconst (v := nI 0) hx hb d_M_findSigns_126 (by decide) ?_
                      refine xn_eq (tgt := 134) hx hb (by omega) (by omega) d_M_findSigns_127 (by decide) (fun c127_67 => absurd c127_67 (by decide)) (fun c127_67 => ?_)
                      refine lv_iconst (v := nI 1) hx hb d_M_findSigns_130 (by decide) ?_
                      refine lv_goto (tgt := 135) hx hb d_M_findSigns_131 (by decide) ?_
                      refine xn_add hx hb d_M_findSigns_135 ?_
                      refine va_put (D := D) (ci := 2) (v := .int (nI (av + 1))) (ty := .int) (C := R_M) (T := F_M) (N := 21) hx hb hts iw_M ft_M ft_M_ok n_M hown hK hP hD hS 0 rfl rfl 8 (by decide) (hts _ tw_395) (fun _ h9 => h9) rfl (by decide +kernel) rfl rfl (Nat.le_of_ble_eq_true rfl) d_M_findSigns_136 (fun H locs hP hD hS => ?_)
                      have hP : va_P D vwC [(g, .inr (2, [.int cd, .int (nI d), .ref mm, .int ik, .ref kf, .ref tb, .int (nI r), .ref wk, .int (nI (av + 1)), .int (nI (bv + 1)), .ref pl, .ref sp, .int a0, .int a1, .int b0, .int b1, .ref po, .ref to, .ref ba, .ref li, .int lm])), (tb, LA cJ 16 T), (wk, LA cJ 20 W9)] H := hP
                      have hD : va_D A [(g, .inr (2, [.int cd, .int (nI d), .ref mm, .int ik, .ref kf, .ref tb, .int (nI r), .ref wk, .int (nI (av + 1)), .int (nI (bv + 1)), .ref pl, .ref sp, .int a0, .int a1, .int b0, .int b1, .ref po, .ref to, .ref ba, .ref li, .int lm])), (tb, LA cJ 16 T), (wk, LA cJ 20 W9)] := hD
                      refine lv_lload hx hb d_M_findSigns_139 (lv_at hl 1 rfl) ?_
                      refine lv_lstore_n (lv' := [(3, .long (lI (eS T r (k + 1)))), (8, .long (lI (-(eS T r (k + 1))))), (6, .long (lI (eS T r (k + 1)))), (0, .ref g), (1, .long (lI uv)), (5, .int (nI (k + 1)))]) hx hb d_M_findSigns_141 rfl hl (by decide) rfl (fun ls hl => ?_)
                      refine lv_lload hx hb d_M_findSigns_142 (lv_at hl 1 rfl) ?_
                      refine lv_lstore_n (lv' := [(1, .long (lI (-(eS T r (k + 1))))), (3, .long (lI (eS T r (k + 1)))), (8, .long (lI (-(eS T r (k + 1))))), (6, .long (lI (eS T r (k + 1)))), (0, .ref g), (5, .int (nI (k + 1)))]) hx hb d_M_findSigns_144 rfl hl (by decide) rfl (fun ls hl => ?_)
                      refine lv_iinc (v := nI ((k + 1) + 1)) (lv' := [(5, .int (nI ((k + 1) + 1))), (1, .long (lI (-(eS T r (k + 1))))), (3, .long (lI (eS T r (k + 1)))), (8, .long (lI (-(eS T r (k + 1))))), (6, .long (lI (eS T r (k + 1)))), (0, .ref g)]) hx hb d_M_findSigns_145 hl (k := 5) rfl (nI_add _ _) (by decide) rfl (fun ls hl => ?_)
                      refine lv_goto (tgt := 17) hx hb d_M_findSigns_148 (by decide) ?_
                      exact ih_17 (k + 1) W9 (av + 1) (bv + 1) (-(eS T r (k + 1))) (eS T r (k + 1)) H locs ls (by omega) (by rw [fsx_n hf c56_41, tnE_o (show (k + 1) % 2 = 1 from by omega), x01_d (s := -(eS T r (k + 1))) (t := uv) (by omega), x01_d (s := eS T r (k + 1)) (t := dv) (by omega)]) (by unfold lB at *; omega) hlE (by omega) hP hD hS (lv_sub hl [5, 1, 2, 0] rfl)
                    · skip
                      refine lv_iconst (v := nI 1) hx hb d_M_findSigns_122 (by decide) ?_
                      refine lv_goto (tgt := 127) hx hb d_M_findSigns_123 (by decide) ?_
                      refine xn_eq (tgt := 134) hx hb (by omega) (by omega) d_M_findSigns_127 (by decide) (fun c127_68 => ?_) (fun c127_68 => absurd c127_68 (by decide))
                      refine lv_iconst (v := nI 0) hx hb d_M_findSigns_134 (by decide) ?_
                      refine xn_add hx hb d_M_findSigns_135 ?_
                      refine va_put (D := D) (ci := 2) (v := .int (nI (av + 0))) (ty := .int) (C := R_M) (T := F_M) (N := 21) hx hb hts iw_M ft_M ft_M_ok n_M hown hK hP hD hS 0 rfl rfl 8 (by decide) (hts _ tw_395) (fun _ h9 => h9) rfl (by decide +kernel) rfl rfl (Nat.le_of_ble_eq_true rfl) d_M_findSigns_136 (fun H locs hP hD hS => ?_)
                      have hP : va_P D vwC [(g, .inr (2, [.int cd, .int (nI d), .ref mm, .int ik, .ref kf, .ref tb, .int (nI r), .ref wk, .int (nI (av + 0)), .int (nI (bv + 1)), .ref pl, .ref sp, .int a0, .int a1, .int b0, .int b1, .ref po, .ref to, .ref ba, .ref li, .int lm])), (tb, LA cJ 16 T), (wk, LA cJ 20 W9)] H := hP
                      have hD : va_D A [(g, .inr (2, [.int cd, .int (nI d), .ref mm, .int ik, .ref kf, .ref tb, .int (nI r), .ref wk, .int (nI (av + 0)), .int (nI (bv + 1)), .ref pl, .ref sp, .int a0, .int a1, .int b0, .int b1, .ref po, .ref to, .ref ba, .ref li, .int lm])), (tb, LA cJ 16 T), (wk, LA cJ 20 W9)] := hD
                      refine lv_lload hx hb d_M_findSigns_139 (lv_at hl 1 rfl) ?_
                      refine lv_lstore_n (lv' := [(3, .long (lI (eS T r (k + 1)))), (8, .long (lI (-(eS T r (k + 1))))), (6, .long (lI (eS T r (k + 1)))), (0, .ref g), (1, .long (lI uv)), (5, .int (nI (k + 1)))]) hx hb d_M_findSigns_141 rfl hl (by decide) rfl (fun ls hl => ?_)
                      refine lv_lload hx hb d_M_findSigns_142 (lv_at hl 1 rfl) ?_
                      refine lv_lstore_n (lv' := [(1, .long (lI (-(eS T r (k + 1))))), (3, .long (lI (eS T r (k + 1)))), (8, .long (lI (-(eS T r (k + 1))))), (6, .long (lI (eS T r (k + 1)))), (0, .ref g), (5, .int (nI (k + 1)))]) hx hb d_M_findSigns_144 rfl hl (by decide) rfl (fun ls hl => ?_)
                      refine lv_iinc (v := nI ((k + 1) + 1)) (lv' := [(5, .int (nI ((k + 1) + 1))), (1, .long (lI (-(eS T r (k + 1))))), (3, .long (lI (eS T r (k + 1)))), (8, .long (lI (-(eS T r (k + 1))))), (6, .long (lI (eS T r (k + 1)))), (0, .ref g)]) hx hb d_M_findSigns_145 hl (k := 5) rfl (nI_add _ _) (by decide) rfl (fun ls hl => ?_)
                      refine lv_goto (tgt := 17) hx hb d_M_findSigns_148 (by decide) ?_
                      exact ih_17 (k + 1) W9 (av + 0) (bv + 1) (-(eS T r (k + 1))) (eS T r (k + 1)) H locs ls (by omega) (by rw [fsx_n hf c56_41, tnE_o (show (k + 1) % 2 = 1 from by omega), x01_s (s := -(eS T r (k + 1))) (t := uv) (by omega), x01_d (s := eS T r (k + 1)) (t := dv) (by omega)]) (by unfold lB at *; omega) hlE (by omega) hP hD hS (lv_sub hl [5, 1, 2, 0] rfl)
                · skip
                  refine lv_iconst (v := nI 1) hx hb d_M_findSigns_82 (by decide) ?_
                  refine lv_goto (tgt := 87) hx hb d_M_findSigns_83 (by decide) ?_
                  refine xn_eq (tgt := 94) hx hb (by omega) (by omega) d_M_findSigns_87 (by decide) (fun c87_69 => ?_) (fun c87_69 => absurd c87_69 (by decide))
                  refine lv_iconst (v := nI 0) hx hb d_M_findSigns_94 (by decide) ?_
                  refine xn_add hx hb d_M_findSigns_95 ?_
                  refine va_put (D := D) (ci := 2) (v := .int (nI (bv + 0))) (ty := .int) (C := R_M) (T := F_M) (N := 21) hx hb hts iw_M ft_M ft_M_ok n_M hown hK hP hD hS 0 rfl rfl 9 (by decide) (hts _ tw_396) (fun _ h9 => h9) rfl (by decide +kernel) rfl rfl (Nat.le_of_ble_eq_true rfl) d_M_findSigns_96 (fun H locs hP hD hS => ?_)
                  have hP : va_P D vwC [(g, .inr (2, [.int cd, .int (nI d), .ref mm, .int ik, .ref kf, .ref tb, .int (nI r), .ref wk, .int (nI av), .int (nI (bv + 0)), .ref pl, .ref sp, .int a0, .int a1, .int b0, .int b1, .ref po, .ref to, .ref ba, .ref li, .int lm])), (tb, LA cJ 16 T), (wk, LA cJ 20 W9)] H := hP
                  have hD : va_D A [(g, .inr (2, [.int cd, .int (nI d), .ref mm, .int ik, .ref kf, .ref tb, .int (nI r), .ref wk, .int (nI av), .int (nI (bv + 0)), .ref pl, .ref sp, .int a0, .int a1, .int b0, .int b1, .ref po, .ref to, .ref ba, .ref li, .int lm])), (tb, LA cJ 16 T), (wk, LA cJ 20 W9)] := hD
                  refine lv_aload_n hx hb d_M_findSigns_99 rfl (lv_at hl 2 rfl) ?_
                  refine lv_dup hx hb d_M_findSigns_100 rfl ?_
                  refine va_get (D := D) (ci := 2) (v := .int (nI av)) (C := R_M) (T := F_M) (N := 21) hx hb hts iw_M hown hK hP 0 rfl rfl 8 (by decide) (hts _ tw_395) (fun _ h9 => h9) rfl d_M_findSigns_101 ?_
                  refine lv_lload hx hb d_M_findSigns_104 (lv_at hl 0 rfl) ?_
                  refine lv_lconst (v := lI 0) hx hb d_M_findSigns_106 (by decide) ?_
                  refine xl_le (tgt := 115) hx hb (by first | exact hlE | exact hlN) ⟨by decide, by decide⟩ d_M_findSigns_107 d_M_findSigns_108 (by decide) (fun c108_70 => ?_) (fun c108_70 => ?_)
                  · skip
                    refine lv_iconst (v := nI 0) hx hb d_M_findSigns_115 (by decide) ?_
                    refine lv_lload_n hx hb d_M_findSigns_116 rfl (lv_at hl 3 rfl) ?_
                    refine lv_lconst (v := lI 0) hx hb d_M_findSigns_117 (by decide) ?_
                    refine xl_le (tgt := 126) hx hb hlu ⟨by decide, by decide⟩ d_M_findSigns_118 d_M_findSigns_119 (by decide) (fun c119_71 => ?_) (fun c119_71 => ?_)
                    · skip
                      refine lv_iconst (v := nI 0) hx hb d_M_findSigns_126 (by decide) ?_
                      refine xn_eq (tgt := 134) hx hb (by omega) (by omega) d_M_findSigns_127 (by decide) (fun c127_72 => ?_) (fun c127_72 => absurd c127_72 (by decide))
                      refine lv_iconst (v := nI 0) hx hb d_M_findSigns_134 (by decide) ?_
                      refine xn_add hx hb d_M_findSigns_135 ?_
                      refine va_put (D := D) (ci := 2) (v := .int (nI (av + 0))) (ty := .int) (C := R_M) (T := F_M) (N := 21) hx hb hts iw_M ft_M ft_M_ok n_M hown hK hP hD hS 0 rfl rfl 8 (by decide) (hts _ tw_395) (fun _ h9 => h9) rfl (by decide +kernel) rfl rfl (Nat.le_of_ble_eq_true rfl) d_M_findSigns_136 (fun H locs hP hD hS => ?_)
                      have hP : va_P D vwC [(g, .inr (2, [.int cd, .int (nI d), .ref mm, .int ik, .ref kf, .ref tb, .int (nI r), .ref wk, .int (nI (av + 0)), .int (nI (bv + 0)), .ref pl, .ref sp, .int a0, .int a1, .int b0, .int b1, .ref po, .ref to, .ref ba, .ref li, .int lm])), (tb, LA cJ 16 T), (wk, LA cJ 20 W9)] H := hP
                      have hD : va_D A [(g, .inr (2, [.int cd, .int (nI d), .ref mm, .int ik, .ref kf, .ref tb, .int (nI r), .ref wk, .int (nI (av + 0)), .int (nI (bv + 0)), .ref pl, .ref sp, .int a0, .int a1, .int b0, .int b1, .ref po, .ref to, .ref ba, .ref li, .int lm])), (tb, LA cJ 16 T), (wk, LA cJ 20 W9)] := hD
                      refine lv_lload hx hb d_M_findSigns_139 (lv_at hl 1 rfl) ?_
                      refine lv_lstore_n (lv' := [(3, .long (lI (eS T r (k + 1)))), (8, .long (lI (-(eS T r (k + 1))))), (6, .long (lI (eS T r (k + 1)))), (0, .ref g), (1, .long (lI uv)), (5, .int (nI (k + 1)))]) hx hb d_M_findSigns_141 rfl hl (by decide) rfl (fun ls hl => ?_)
                      refine lv_lload hx hb d_M_findSigns_142 (lv_at hl 1 rfl) ?_
                      refine lv_lstore_n (lv' := [(1, .long (lI (-(eS T r (k + 1))))), (3, .long (lI (eS T r (k + 1)))), (8, .long (lI (-(eS T r (k + 1))))), (6, .long (lI (eS T r (k + 1)))), (0, .ref g), (5, .int (nI (k + 1)))]) hx hb d_M_findSigns_144 rfl hl (by decide) rfl (fun ls hl => ?_)
                      refine lv_iinc (v := nI ((k + 1) + 1)) (lv' := [(5, .int (nI ((k + 1) + 1))), (1, .long (lI (-(eS T r (k + 1))))), (3, .long (lI (eS T r (k + 1)))), (8, .long (lI (-(eS T r (k + 1))))), (6, .long (lI (eS T r (k + 1)))), (0, .ref g)]) hx hb d_M_findSigns_145 hl (k := 5) rfl (nI_add _ _) (by decide) rfl (fun ls hl => ?_)
                      refine lv_goto (tgt := 17) hx hb d_M_findSigns_148 (by decide) ?_
                      exact ih_17 (k + 1) W9 (av + 0) (bv + 0) (-(eS T r (k + 1))) (eS T r (k + 1)) H locs ls (by omega) (by rw [fsx_n hf c56_41, tnE_o (show (k + 1) % 2 = 1 from by omega), x01_s (s := -(eS T r (k + 1))) (t := uv) (by omega), x01_s (s := eS T r (k + 1)) (t := dv) (by omega)]) (by unfold lB at *; omega) hlE (by omega) hP hD hS (lv_sub hl [5, 1, 2, 0] rfl)
                    · skip
                      refine lv_iconst (v := nI 1) hx hb d_M_findSigns_122 (by decide) ?_
                      refine lv_goto (tgt := 127) hx hb d_M_findSigns_123 (by decide) ?_
                      refine xn_eq (tgt := 134) hx hb (by omega) (by omega) d_M_findSigns_127 (by decide) (fun c127_73 => absurd c127_73 (by decide)) (fun c127_73 => ?_)
                      refine lv_iconst (v := nI 1) hx hb d_M_findSigns_130 (by decide) ?_
                      refine lv_goto (tgt := 135) hx hb d_M_findSigns_131 (by decide) ?_
                      refine xn_add hx hb d_M_findSigns_135 ?_
                      refine va_put (D := D) (ci := 2) (v := .int (nI (av + 1))) (ty := .int) (C := R_M) (T := F_M) (N := 21) hx hb hts iw_M ft_M ft_M_ok n_M hown hK hP hD hS 0 rfl rfl 8 (by decide) (hts _ tw_395) (fun _ h9 => h9) rfl (by decide +kernel) rfl rfl (Nat.le_of_ble_eq_true rfl) d_M_findSigns_136 (fun H locs hP hD hS => ?_)
                      have hP : va_P D vwC [(g, .inr (2, [.int cd, .int (nI d), .ref mm, .int ik, .ref kf, .ref tb, .int (nI r), .ref wk, .int (nI (av + 1)), .int (nI (bv + 0)), .ref pl, .ref sp, .int a0, .int a1, .int b0, .int b1, .ref po, .ref to, .ref ba, .ref li, .int lm])), (tb, LA cJ 16 T), (wk, LA cJ 20 W9)] H := hP
                      have hD : va_D A [(g, .inr (2, [.int cd, .int (nI d), .ref mm, .int ik, .ref kf, .ref tb, .int (nI r), .ref wk, .int (nI (av + 1)), .int (nI (bv + 0)), .ref pl, .ref sp, .int a0, .int a1, .int b0, .int b1, .ref po, .ref to, .ref ba, .ref li, .int lm])), (tb, LA cJ 16 T), (wk, LA cJ 20 W9)] := hD
                      refine lv_lload hx hb d_M_findSigns_139 (lv_at hl 1 rfl) ?_
                      refine lv_lstore_n (lv' := [(3, .long (lI (eS T r (k + 1)))), (8, .long (lI (-(eS T r (k + 1))))), (6, .long (lI (eS T r (k + 1)))), (0, .ref g), (1, .long (lI uv)), (5, .int (nI (k + 1)))]) hx hb d_M_findSigns_141 rfl hl (by decide) rfl (fun ls hl => ?_)
                      refine lv_lload hx hb d_M_findSigns_142 (lv_at hl 1 rfl) ?_
                      refine lv_lstore_n (lv' := [(1, .long (lI (-(eS T r (k + 1))))), (3, .long (lI (eS T r (k + 1)))), (8, .long (lI (-(eS T r (k + 1))))), (6, .long (lI (eS T r (k + 1)))), (0, .ref g), (5, .int (nI (k + 1)))]) hx hb d_M_findSigns_144 rfl hl (by decide) rfl (fun ls hl => ?_)
                      refine lv_iinc (v := nI ((k + 1) + 1)) (lv' := [(5, .int (nI ((k + 1) + 1))), (1, .long (lI (-(eS T r (k + 1))))), (3, .long (lI (eS T r (k + 1)))), (8, .long (lI (-(eS T r (k + 1))))), (6, .long (lI (eS T r (k + 1)))), (0, .ref g)]) hx hb d_M_findSigns_145 hl (k := 5) rfl (nI_add _ _) (by decide) rfl (fun ls hl => ?_)
                      refine lv_goto (tgt := 17) hx hb d_M_findSigns_148 (by decide) ?_
                      exact ih_17 (k + 1) W9 (av + 1) (bv + 0) (-(eS T r (k + 1))) (eS T r (k + 1)) H locs ls (by omega) (by rw [fsx_n hf c56_41, tnE_o (show (k + 1) % 2 = 1 from by omega), x01_d (s := -(eS T r (k + 1))) (t := uv) (by omega), x01_s (s := eS T r (k + 1)) (t := dv) (by omega)]) (by unfold lB at *; omega) hlE (by omega) hP hD hS (lv_sub hl [5, 1, 2, 0] rfl)
                  · skip
                    refine lv_iconst (v := nI 1) hx hb d_M_findSigns_111 (by decide) ?_
                    refine lv_goto (tgt := 116) hx hb d_M_findSigns_112 (by decide) ?_
                    refine lv_lload_n hx hb d_M_findSigns_116 rfl (lv_at hl 3 rfl) ?_
                    refine lv_lconst (v := lI 0) hx hb d_M_findSigns_117 (by decide) ?_
                    refine xl_le (tgt := 126) hx hb hlu ⟨by decide, by decide⟩ d_M_findSigns_118 d_M_findSigns_119 (by decide) (fun c119_74 => ?_) (fun c119_74 => ?_)
                    · skip
                      refine lv_iconst (v := nI 0) hx hb d_M_findSigns_126 (by decide) ?_
                      refine xn_eq (tgt := 134) hx hb (by omega) (by omega) d_M_findSigns_127 (by decide) (fun c127_75 => absurd c127_75 (by decide)) (fun c127_75 => ?_)
                      refine lv_iconst (v := nI 1) hx hb d_M_findSigns_130 (by decide) ?_
                      refine lv_goto (tgt := 135) hx hb d_M_findSigns_131 (by decide) ?_
                      refine xn_add hx hb d_M_findSigns_135 ?_
                      refine va_put (D := D) (ci := 2) (v := .int (nI (av + 1))) (ty := .int) (C := R_M) (T := F_M) (N := 21) hx hb hts iw_M ft_M ft_M_ok n_M hown hK hP hD hS 0 rfl rfl 8 (by decide) (hts _ tw_395) (fun _ h9 => h9) rfl (by decide +kernel) rfl rfl (Nat.le_of_ble_eq_true rfl) d_M_findSigns_136 (fun H locs hP hD hS => ?_)
                      have hP : va_P D vwC [(g, .inr (2, [.int cd, .int (nI d), .ref mm, .int ik, .ref kf, .ref tb, .int (nI r), .ref wk, .int (nI (av + 1)), .int (nI (bv + 0)), .ref pl, .ref sp, .int a0, .int a1, .int b0, .int b1, .ref po, .ref to, .ref ba, .ref li, .int lm])), (tb, LA cJ 16 T), (wk, LA cJ 20 W9)] H := hP
                      have hD : va_D A [(g, .inr (2, [.int cd, .int (nI d), .ref mm, .int ik, .ref kf, .ref tb, .int (nI r), .ref wk, .int (nI (av + 1)), .int (nI (bv + 0)), .ref pl, .ref sp, .int a0, .int a1, .int b0, .int b1, .ref po, .ref to, .ref ba, .ref li, .int lm])), (tb, LA cJ 16 T), (wk, LA cJ 20 W9)] := hD
                      refine lv_lload hx hb d_M_findSigns_139 (lv_at hl 1 rfl) ?_
                      refine lv_lstore_n (lv' := [(3, .long (lI (eS T r (k + 1)))), (8, .long (lI (-(eS T r (k + 1))))), (6, .long (lI (eS T r (k + 1)))), (0, .ref g), (1, .long (lI uv)), (5, .int (nI (k + 1)))]) hx hb d_M_findSigns_141 rfl hl (by decide) rfl (fun ls hl => ?_)
                      refine lv_lload hx hb d_M_findSigns_142 (lv_at hl 1 rfl) ?_
                      refine lv_lstore_n (lv' := [(1, .long (lI (-(eS T r (k + 1))))), (3, .long (lI (eS T r (k + 1)))), (8, .long (lI (-(eS T r (k + 1))))), (6, .long (lI (eS T r (k + 1)))), (0, .ref g), (5, .int (nI (k + 1)))]) hx hb d_M_findSigns_144 rfl hl (by decide) rfl (fun ls hl => ?_)
                      refine lv_iinc (v := nI ((k + 1) + 1)) (lv' := [(5, .int (nI ((k + 1) + 1))), (1, .long (lI (-(eS T r (k + 1))))), (3, .long (lI (eS T r (k + 1)))), (8, .long (lI (-(eS T r (k + 1))))), (6, .long (lI (eS T r (k + 1)))), (0, .ref g)]) hx hb d_M_findSigns_145 hl (k := 5) rfl (nI_add _ _) (by decide) rfl (fun ls hl => ?_)
                      refine lv_goto (tgt := 17) hx hb d_M_findSigns_148 (by decide) ?_
                      exact ih_17 (k + 1) W9 (av + 1) (bv + 0) (-(eS T r (k + 1))) (eS T r (k + 1)) H locs ls (by omega) (by rw [fsx_n hf c56_41, tnE_o (show (k + 1) % 2 = 1 from by omega), x01_d (s := -(eS T r (k + 1))) (t := uv) (by omega), x01_s (s := eS T r (k + 1)) (t := dv) (by omega)]) (by unfold lB at *; omega) hlE (by omega) hP hD hS (lv_sub hl [5, 1, 2, 0] rfl)
                    · skip
                      refine lv_iconst (v := nI 1) hx hb d_M_findSigns_122 (by decide) ?_
                      refine lv_goto (tgt := 127) hx hb d_M_findSigns_123 (by decide) ?_
                      refine xn_eq (tgt := 134) hx hb (by omega) (by omega) d_M_findSigns_127 (by decide) (fun c127_76 => ?_) (fun c127_76 => absurd c127_76 (by decide))
                      refine lv_iconst (v := nI 0) hx hb d_M_findSigns_134 (by decide) ?_
                      refine xn_add hx hb d_M_findSigns_135 ?_
                      refine va_put (D := D) (ci := 2) (v := .int (nI (av + 0))) (ty := .int) (C := R_M) (T := F_M) (N := 21) hx hb hts iw_M ft_M ft_M_ok n_M hown hK hP hD hS 0 rfl rfl 8 (by decide) (hts _ tw_395) (fun _ h9 => h9) rfl (by decide +kernel) rfl rfl (Nat.le_of_ble_eq_true rfl) d_M_findSigns_136 (fun H locs hP hD hS => ?_)
                      have hP : va_P D vwC [(g, .inr (2, [.int cd, .int (nI d), .ref mm, .int ik, .ref kf, .ref tb, .int (nI r), .ref wk, .int (nI (av + 0)), .int (nI (bv + 0)), .ref pl, .ref sp, .int a0, .int a1, .int b0, .int b1, .ref po, .ref to, .ref ba, .ref li, .int lm])), (tb, LA cJ 16 T), (wk, LA cJ 20 W9)] H := hP
                      have hD : va_D A [(g, .inr (2, [.int cd, .int (nI d), .ref mm, .int ik, .ref kf, .ref tb, .int (nI r), .ref wk, .int (nI (av + 0)), .int (nI (bv + 0)), .ref pl, .ref sp, .int a0, .int a1, .int b0, .int b1, .ref po, .ref to, .ref ba, .ref li, .int lm])), (tb, LA cJ 16 T), (wk, LA cJ 20 W9)] := hD
                      refine lv_lload hx hb d_M_findSigns_139 (lv_at hl 1 rfl) ?_
                      refine lv_lstore_n (lv' := [(3, .long (lI (eS T r (k + 1)))), (8, .long (lI (-(eS T r (k + 1))))), (6, .long (lI (eS T r (k + 1)))), (0, .ref g), (1, .long (lI uv)), (5, .int (nI (k + 1)))]) hx hb d_M_findSigns_141 rfl hl (by decide) rfl (fun ls hl => ?_)
                      refine lv_lload hx hb d_M_findSigns_142 (lv_at hl 1 rfl) ?_
                      refine lv_lstore_n (lv' := [(1, .long (lI (-(eS T r (k + 1))))), (3, .long (lI (eS T r (k + 1)))), (8, .long (lI (-(eS T r (k + 1))))), (6, .long (lI (eS T r (k + 1)))), (0, .ref g), (5, .int (nI (k + 1)))]) hx hb d_M_findSigns_144 rfl hl (by decide) rfl (fun ls hl => ?_)
                      refine lv_iinc (v := nI ((k + 1) + 1)) (lv' := [(5, .int (nI ((k + 1) + 1))), (1, .long (lI (-(eS T r (k + 1))))), (3, .long (lI (eS T r (k + 1)))), (8, .long (lI (-(eS T r (k + 1))))), (6, .long (lI (eS T r (k + 1)))), (0, .ref g)]) hx hb d_M_findSigns_145 hl (k := 5) rfl (nI_add _ _) (by decide) rfl (fun ls hl => ?_)
                      refine lv_goto (tgt := 17) hx hb d_M_findSigns_148 (by decide) ?_
                      exact ih_17 (k + 1) W9 (av + 0) (bv + 0) (-(eS T r (k + 1))) (eS T r (k + 1)) H locs ls (by omega) (by rw [fsx_n hf c56_41, tnE_o (show (k + 1) % 2 = 1 from by omega), x01_s (s := -(eS T r (k + 1))) (t := uv) (by omega), x01_s (s := eS T r (k + 1)) (t := dv) (by omega)]) (by unfold lB at *; omega) hlE (by omega) hP hD hS (lv_sub hl [5, 1, 2, 0] rfl)
    exact lp_17 ((r - 0) + 1) 0 W0 0 0 1 1 H locs ls (Nat.zero_le _) rfl (⟨by decide, by decide⟩) (⟨by decide, by decide⟩) (by omega) hP hD hS (lv_sub hl [3, 2, 1, 0] rfl)
  rw [hH, hlc] at key; exact key
