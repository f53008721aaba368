/-! a case of the law (wip/gen_law.py) -/
set_option maxHeartbeats 4000000 in
set_option maxRecDepth 100000 in
/-- meets -/
theorem l_14 {p : Program} {l : Launch} {e : Env} {s : State} {m : MethodId} {below : List Frame} {meth : Method} {c : Code} {D : va_G} {cJ cI : ClassId} {A : Nat → Prop} {b L i cells slots : Nat} {xs : Nat → Int32} {Q : State → Prop} {h fo ke ht hc hf hp ho wo fi se g mm kf tb wk pl sp po to ba li ou : Nat} (hx : p.tables.exec = Jvm.exec) (hb : c.code = code) (hml : c.maxLocals = 8) (hown : s.vm.findClass R_L = some m.cls) (hts : ∀ w ∈ tW, w.before #[Value.ref b] s = true) (hX : va_X b L xs s s.heap) (hbl : b < s.heap.size) (hL : L ≤ 3584) (hi : i + 7 ≤ L) (hN : xN s) (hA : ∀ q, s.heap.size ≤ q → A q) (hbA : ¬ A b) (hK : va_K D vwC [(cJ, .long), (cI, .int)] s) (hcl : cells ≤ room_1.cells) (hsl : slots ≤ room_1.slots)
    (kk : ∀ (ws : va_W) (H : Heap) (locs : List Loc) (ls : Array Slot), lwS cJ cI h fo ke ht hc hf hp ho wo fi se g mm kf tb wk pl sp po to ba li ou ws → va_P D vwC ws H → va_D A ws → va_S A s.heap H locs → lv_has ls 8 [(0, .ref b), (1, .ref h), (2, .ref g), (3, .ref ou), (4, .int (nI i))] → W p l e room_1 s m #[Value.ref b] below meth c H locs cells slots Q (F0 m 831 ls []))
    (ws : va_W) (H : Heap) (locs : List Loc) (ls : Array Slot) (hw0 : lwS cJ cI h fo ke ht hc hf hp ho wo fi se g mm kf tb wk pl sp po to ba li ou ws) (hP : va_P D vwC ws H) (hD : va_D A ws) (hS : va_S A s.heap H locs) (hl : lv_has ls 8 [(0, .ref b), (1, .ref h), (2, .ref g), (3, .ref ou), (4, .int (nI i))]) : W p l e room_1 s m #[Value.ref b] below meth c H locs cells slots Q (F0 m 680 ls []) := by
  obtain ⟨d, kb, r0, cd, rw, ab, be, a0, a1, b0, b1, lm, Fm, Kp, C, F, P, O, Wk, A1, A2, T, W0, P0, Q0, Bs, L0, Oz, hok, hKb, rfl⟩ := hw0
  have hd2 := hok.1
  have hd3 := hok.2.1
  have hF := hok.2.2.1
  have hsy := hok.2.2.2
  have hK1 := hK.sub (tys' := [(cJ, .long)]) [0] rfl
  refine lv_aload_n hx hb d_law_680 rfl (lv_at hl 1 rfl) ?_
  refine lv_aload_n hx hb d_law_681 rfl (lv_at hl 0 rfl) ?_
  refine lv_iload hx hb d_law_682 (lv_at hl 4 rfl) ?_
  refine lv_iconst (v := nI 1) hx hb d_law_684 (by decide) ?_
  refine xn_add hx hb d_law_685 ?_
  refine x_sld hx hb hX hbl hbA hS (k := i + 1) (by omega) (by omega) d_law_686 ?_
  refine lv_aload_n hx hb d_law_687 rfl (lv_at hl 0 rfl) ?_
  refine lv_iload hx hb d_law_688 (lv_at hl 4 rfl) ?_
  refine lv_iconst (v := nI 2) hx hb d_law_690 (by decide) ?_
  refine xn_add hx hb d_law_691 ?_
  refine x_sld hx hb hX hbl hbA hS (k := i + 2) (by omega) (by omega) d_law_692 ?_
  refine lv_aload_n hx hb d_law_693 rfl (lv_at hl 0 rfl) ?_
  refine lv_iload hx hb d_law_694 (lv_at hl 4 rfl) ?_
  refine lv_iconst (v := nI 3) hx hb d_law_696 (by decide) ?_
  refine xn_add hx hb d_law_697 ?_
  refine x_sld hx hb hX hbl hbA hS (k := i + 3) (by omega) (by omega) d_law_698 ?_
  refine lv_aload_n hx hb d_law_699 rfl (lv_at hl 0 rfl) ?_
  refine lv_iload hx hb d_law_700 (lv_at hl 4 rfl) ?_
  refine lv_iconst (v := nI 4) hx hb d_law_702 (by decide) ?_
  refine xn_add hx hb d_law_703 ?_
  refine x_sld hx hb hX hbl hbA hS (k := i + 4) (by omega) (by omega) d_law_704 ?_
  refine lv_aload_n hx hb d_law_705 rfl (lv_at hl 0 rfl) ?_
  refine lv_iload hx hb d_law_706 (lv_at hl 4 rfl) ?_
  refine lv_iconst (v := nI 5) hx hb d_law_708 (by decide) ?_
  refine xn_add hx hb d_law_709 ?_
  refine x_sld hx hb hX hbl hbA hS (k := i + 5) (by omega) (by omega) d_law_710 ?_
  refine lv_aload_n hx hb d_law_711 rfl (lv_at hl 0 rfl) ?_
  refine lv_iload hx hb d_law_712 (lv_at hl 4 rfl) ?_
  refine lv_bipush (v := nI 6) hx hb d_law_714 (by decide) ?_
  refine xn_add hx hb d_law_716 ?_
  refine x_sld hx hb hX hbl hbA hS (k := i + 6) (by omega) (by omega) d_law_717 ?_
  refine xci (wc := [(h, .inr (1, [.int (nI d), .int kb, .ref fo, .ref ke, .ref ht, .ref wo, .ref fi, .ref se])), (fo, LA cJ 16 Fm), (fi, LA cJ 4 A1), (se, LA cJ 4 A2)]) (wr := [(ke, LA cJ 16 Kp), (ht, .inr (0, [.int r0, .ref hc, .ref hf, .ref hp, .ref ho])), (hc, LA cJ 16 C), (hf, LA cJ 16 F), (hp, LA cJ 16 P), (ho, LA cJ 5 O), (wo, LA cJ 16 Wk), (g, .inr (2, [.int cd, .int (nI d), .ref mm, .int kb, .ref kf, .ref tb, .int rw, .ref wk, .int ab, .int be, .ref pl, .ref sp, .int a0, .int a1, .int b0, .int b1, .ref po, .ref to, .ref ba, .ref li, .int lm])), (mm, IA cI 16 Fm), (kf, IA cI 16 Kp), (tb, LA cJ 16 T), (wk, LA cJ 20 W0), (pl, IA cI 24 plF), (sp, IA cI 40 spF), (po, LA cJ 4 P0), (to, LA cJ 4 Q0), (ba, LA cJ 12 Bs), (li, LA cJ 6 L0), (ou, LA cJ 1 Oz)]) hP hD hS hA [0, 1, 9, 10] [2, 3, 4, 5, 6, 7, 8, 11, 12, 13, 14, 15, 16, 17, 18, 19, 20, 21, 22] rfl rfl (by decide) (by decide) (va_runV (As := [.int (xs (i + 1)), .int (xs (i + 2)), .int (xs (i + 3)), .int (xs (i + 4)), .int (xs (i + 5)), .int (xs (i + 6))]) (rest := []) ⟨hx, hb, hml, hown, hts⟩ (k_meets l D cJ h d kb fo ke ht wo fi se Fm A1 A2 (xs (i + 1)) (xs (i + 2)) (xs (i + 3)) (xs (i + 4)) (xs (i + 5)) (xs (i + 6)) (by first | assumption | omega) (by first | assumption | omega) (by first | assumption | omega) H.size) (cwV 6 hts (gV tw_259 tw_260 tw_261 tw_1 tw_262) rfl rfl rfl ⟨rfl, hd_K_meets⟩ ⟨Nat.le_of_ble_eq_true rfl, Nat.le_of_ble_eq_true rfl⟩) (xPreV (C := R_K) (T := F_K) (N := 8) (q0 := 0) hN hK1 (hP.sub (ws' := [(h, .inr (1, [.int (nI d), .int kb, .ref fo, .ref ke, .ref ht, .ref wo, .ref fi, .ref se])), (fo, LA cJ 16 Fm), (fi, LA cJ 4 A1), (se, LA cJ 4 A2)]) [0, 1, 9, 10] rfl) (hD.sub (ws' := [(h, .inr (1, [.int (nI d), .int kb, .ref fo, .ref ke, .ref ht, .ref wo, .ref fi, .ref se])), (fo, LA cJ 16 Fm), (fi, LA cJ 4 A1), (se, LA cJ 4 A2)]) [0, 1, 9, 10] (by decide) rfl) rfl rfl) rfl rfl hl.1 rfl (lv_room (Nat.le_of_ble_eq_true rfl)) d_law_718 ⟨hcl, hsl⟩) (fun r_1 u_2 H locs hw_3 hP hD hS => ?_)
  obtain ⟨B1_4, B2_5⟩ := u_2
  try dsimp only at hw_3
  have hP : va_P D vwC [(h, .inr (1, [.int (nI d), .int kb, .ref fo, .ref ke, .ref ht, .ref wo, .ref fi, .ref se])), (fo, LA cJ 16 Fm), (ke, LA cJ 16 Kp), (ht, .inr (0, [.int r0, .ref hc, .ref hf, .ref hp, .ref ho])), (hc, LA cJ 16 C), (hf, LA cJ 16 F), (hp, LA cJ 16 P), (ho, LA cJ 5 O), (wo, LA cJ 16 Wk), (fi, LA cJ 4 B1_4), (se, LA cJ 4 B2_5), (g, .inr (2, [.int cd, .int (nI d), .ref mm, .int kb, .ref kf, .ref tb, .int rw, .ref wk, .int ab, .int be, .ref pl, .ref sp, .int a0, .int a1, .int b0, .int b1, .ref po, .ref to, .ref ba, .ref li, .int lm])), (mm, IA cI 16 Fm), (kf, IA cI 16 Kp), (tb, LA cJ 16 T), (wk, LA cJ 20 W0), (pl, IA cI 24 plF), (sp, IA cI 40 spF), (po, LA cJ 4 P0), (to, LA cJ 4 Q0), (ba, LA cJ 12 Bs), (li, LA cJ 6 L0), (ou, LA cJ 1 Oz)] H := hP.sub [19, 20, 0, 1, 2, 3, 4, 5, 6, 21, 22, 7, 8, 9, 10, 11, 12, 13, 14, 15, 16, 17, 18] rfl
  have hD : va_D A [(h, .inr (1, [.int (nI d), .int kb, .ref fo, .ref ke, .ref ht, .ref wo, .ref fi, .ref se])), (fo, LA cJ 16 Fm), (ke, LA cJ 16 Kp), (ht, .inr (0, [.int r0, .ref hc, .ref hf, .ref hp, .ref ho])), (hc, LA cJ 16 C), (hf, LA cJ 16 F), (hp, LA cJ 16 P), (ho, LA cJ 5 O), (wo, LA cJ 16 Wk), (fi, LA cJ 4 B1_4), (se, LA cJ 4 B2_5), (g, .inr (2, [.int cd, .int (nI d), .ref mm, .int kb, .ref kf, .ref tb, .int rw, .ref wk, .int ab, .int be, .ref pl, .ref sp, .int a0, .int a1, .int b0, .int b1, .ref po, .ref to, .ref ba, .ref li, .int lm])), (mm, IA cI 16 Fm), (kf, IA cI 16 Kp), (tb, LA cJ 16 T), (wk, LA cJ 20 W0), (pl, IA cI 24 plF), (sp, IA cI 40 spF), (po, LA cJ 4 P0), (to, LA cJ 4 Q0), (ba, LA cJ 12 Bs), (li, LA cJ 6 L0), (ou, LA cJ 1 Oz)] := hD.sub [19, 20, 0, 1, 2, 3, 4, 5, 6, 21, 22, 7, 8, 9, 10, 11, 12, 13, 14, 15, 16, 17, 18] (by decide) rfl
  subst hw_3
  refine lv_aload_n hx hb d_law_721 rfl (lv_at hl 2 rfl) ?_
  refine lv_aload_n hx hb d_law_722 rfl (lv_at hl 0 rfl) ?_
  refine lv_iload hx hb d_law_723 (lv_at hl 4 rfl) ?_
  refine lv_iconst (v := nI 1) hx hb d_law_725 (by decide) ?_
  refine xn_add hx hb d_law_726 ?_
  refine x_sld hx hb hX hbl hbA hS (k := i + 1) (by omega) (by omega) d_law_727 ?_
  refine lv_aload_n hx hb d_law_728 rfl (lv_at hl 0 rfl) ?_
  refine lv_iload hx hb d_law_729 (lv_at hl 4 rfl) ?_
  refine lv_iconst (v := nI 2) hx hb d_law_731 (by decide) ?_
  refine xn_add hx hb d_law_732 ?_
  refine x_sld hx hb hX hbl hbA hS (k := i + 2) (by omega) (by omega) d_law_733 ?_
  refine lv_aload_n hx hb d_law_734 rfl (lv_at hl 0 rfl) ?_
  refine lv_iload hx hb d_law_735 (lv_at hl 4 rfl) ?_
  refine lv_iconst (v := nI 3) hx hb d_law_737 (by decide) ?_
  refine xn_add hx hb d_law_738 ?_
  refine x_sld hx hb hX hbl hbA hS (k := i + 3) (by omega) (by omega) d_law_739 ?_
  refine lv_aload_n hx hb d_law_740 rfl (lv_at hl 0 rfl) ?_
  refine lv_iload hx hb d_law_741 (lv_at hl 4 rfl) ?_
  refine lv_iconst (v := nI 4) hx hb d_law_743 (by decide) ?_
  refine xn_add hx hb d_law_744 ?_
  refine x_sld hx hb hX hbl hbA hS (k := i + 4) (by omega) (by omega) d_law_745 ?_
  refine lv_aload_n hx hb d_law_746 rfl (lv_at hl 0 rfl) ?_
  refine lv_iload hx hb d_law_747 (lv_at hl 4 rfl) ?_
  refine lv_iconst (v := nI 5) hx hb d_law_749 (by decide) ?_
  refine xn_add hx hb d_law_750 ?_
  refine x_sld hx hb hX hbl hbA hS (k := i + 5) (by omega) (by omega) d_law_751 ?_
  refine lv_aload_n hx hb d_law_752 rfl (lv_at hl 0 rfl) ?_
  refine lv_iload hx hb d_law_753 (lv_at hl 4 rfl) ?_
  refine lv_bipush (v := nI 6) hx hb d_law_755 (by decide) ?_
  refine xn_add hx hb d_law_757 ?_
  refine x_sld hx hb hX hbl hbA hS (k := i + 6) (by omega) (by omega) d_law_758 ?_
  refine xci (wc := [(g, .inr (2, [.int cd, .int (nI d), .ref mm, .int kb, .ref kf, .ref tb, .int rw, .ref wk, .int ab, .int be, .ref pl, .ref sp, .int a0, .int a1, .int b0, .int b1, .ref po, .ref to, .ref ba, .ref li, .int lm])), (mm, IA cI 16 Fm), (ba, LA cJ 12 Bs)]) (wr := [(h, .inr (1, [.int (nI d), .int kb, .ref fo, .ref ke, .ref ht, .ref wo, .ref fi, .ref se])), (fo, LA cJ 16 Fm), (ke, LA cJ 16 Kp), (ht, .inr (0, [.int r0, .ref hc, .ref hf, .ref hp, .ref ho])), (hc, LA cJ 16 C), (hf, LA cJ 16 F), (hp, LA cJ 16 P), (ho, LA cJ 5 O), (wo, LA cJ 16 Wk), (fi, LA cJ 4 B1_4), (se, LA cJ 4 B2_5), (kf, IA cI 16 Kp), (tb, LA cJ 16 T), (wk, LA cJ 20 W0), (pl, IA cI 24 plF), (sp, IA cI 40 spF), (po, LA cJ 4 P0), (to, LA cJ 4 Q0), (li, LA cJ 6 L0), (ou, LA cJ 1 Oz)]) hP hD hS hA [11, 12, 20] [0, 1, 2, 3, 4, 5, 6, 7, 8, 9, 10, 13, 14, 15, 16, 17, 18, 19, 21, 22] rfl rfl (by decide) (by decide) (va_runV (As := [.int (xs (i + 1)), .int (xs (i + 2)), .int (xs (i + 3)), .int (xs (i + 4)), .int (xs (i + 5)), .int (xs (i + 6))]) (rest := [.int (s_meets Fm d (ptR d 1 (xs (i + 1)).toInt (xs (i + 2)).toInt (xs (i + 3)).toInt) (ptR d 0 (xs (i + 4)).toInt (xs (i + 5)).toInt (xs (i + 6)).toInt))]) ⟨hx, hb, hml, hown, hts⟩ (r_meets l D cJ cI g cd d kb rw ab be a0 a1 b0 b1 lm mm kf tb wk pl sp po to ba li Fm Bs (xs (i + 1)) (xs (i + 2)) (xs (i + 3)) (xs (i + 4)) (xs (i + 5)) (xs (i + 6)) (by first | assumption | omega) (by first | assumption | omega) (by first | assumption | omega) H.size) (cwV 6 hts (gV tw_593 tw_594 tw_595 tw_3 tw_596) rfl rfl rfl ⟨rfl, hd_M_meets⟩ ⟨Nat.le_of_ble_eq_true rfl, Nat.le_of_ble_eq_true rfl⟩) (xPreV (C := R_M) (T := F_M) (N := 21) (q0 := 0) hN hK (hP.sub (ws' := [(g, .inr (2, [.int cd, .int (nI d), .ref mm, .int kb, .ref kf, .ref tb, .int rw, .ref wk, .int ab, .int be, .ref pl, .ref sp, .int a0, .int a1, .int b0, .int b1, .ref po, .ref to, .ref ba, .ref li, .int lm])), (mm, IA cI 16 Fm), (ba, LA cJ 12 Bs)]) [11, 12, 20] rfl) (hD.sub (ws' := [(g, .inr (2, [.int cd, .int (nI d), .ref mm, .int kb, .ref kf, .ref tb, .int rw, .ref wk, .int ab, .int be, .ref pl, .ref sp, .int a0, .int a1, .int b0, .int b1, .ref po, .ref to, .ref ba, .ref li, .int lm])), (mm, IA cI 16 Fm), (ba, LA cJ 12 Bs)]) [11, 12, 20] (by decide) rfl) rfl rfl) rfl rfl hl.1 rfl (lv_room (Nat.le_of_ble_eq_true rfl)) d_law_759 ⟨hcl, hsl⟩) (fun r_6 u_7 H locs hw_8 hP hD hS => ?_)
  obtain ⟨B2_9, rfl⟩ : ∃ z, z = u_7 := ⟨_, rfl⟩
  try dsimp only at hw_8
  have hP : va_P D vwC [(h, .inr (1, [.int (nI d), .int kb, .ref fo, .ref ke, .ref ht, .ref wo, .ref fi, .ref se])), (fo, LA cJ 16 Fm), (ke, LA cJ 16 Kp), (ht, .inr (0, [.int r0, .ref hc, .ref hf, .ref hp, .ref ho])), (hc, LA cJ 16 C), (hf, LA cJ 16 F), (hp, LA cJ 16 P), (ho, LA cJ 5 O), (wo, LA cJ 16 Wk), (fi, LA cJ 4 B1_4), (se, LA cJ 4 B2_5), (g, .inr (2, [.int (nI 0), .int (nI d), .ref mm, .int kb, .ref kf, .ref tb, .int rw, .ref wk, .int ab, .int be, .ref pl, .ref sp, .int a0, .int a1, .int b0, .int b1, .ref po, .ref to, .ref ba, .ref li, .int lm])), (mm, IA cI 16 Fm), (kf, IA cI 16 Kp), (tb, LA cJ 16 T), (wk, LA cJ 20 W0), (pl, IA cI 24 plF), (sp, IA cI 40 spF), (po, LA cJ 4 P0), (to, LA cJ 4 Q0), (ba, LA cJ 12 B2_9), (li, LA cJ 6 L0), (ou, LA cJ 1 Oz)] H := hP.sub [0, 1, 2, 3, 4, 5, 6, 7, 8, 9, 10, 20, 21, 11, 12, 13, 14, 15, 16, 17, 22, 18, 19] rfl
  have hD : va_D A [(h, .inr (1, [.int (nI d), .int kb, .ref fo, .ref ke, .ref ht, .ref wo, .ref fi, .ref se])), (fo, LA cJ 16 Fm), (ke, LA cJ 16 Kp), (ht, .inr (0, [.int r0, .ref hc, .ref hf, .ref hp, .ref ho])), (hc, LA cJ 16 C), (hf, LA cJ 16 F), (hp, LA cJ 16 P), (ho, LA cJ 5 O), (wo, LA cJ 16 Wk), (fi, LA cJ 4 B1_4), (se, LA cJ 4 B2_5), (g, .inr (2, [.int (nI 0), .int (nI d), .ref mm, .int kb, .ref kf, .ref tb, .int rw, .ref wk, .int ab, .int be, .ref pl, .ref sp, .int a0, .int a1, .int b0, .int b1, .ref po, .ref to, .ref ba, .ref li, .int lm])), (mm, IA cI 16 Fm), (kf, IA cI 16 Kp), (tb, LA cJ 16 T), (wk, LA cJ 20 W0), (pl, IA cI 24 plF), (sp, IA cI 40 spF), (po, LA cJ 4 P0), (to, LA cJ 4 Q0), (ba, LA cJ 12 B2_9), (li, LA cJ 6 L0), (ou, LA cJ 1 Oz)] := hD.sub [0, 1, 2, 3, 4, 5, 6, 7, 8, 9, 10, 20, 21, 11, 12, 13, 14, 15, 16, 17, 22, 18, 19] (by decide) rfl
  subst hw_8
  refine x_isame (tgt := 831) hx hb d_law_762 (by decide) ?_
  exact kk _ H locs ls ⟨d, kb, r0, nI 0, rw, ab, be, a0, a1, b0, b1, lm, Fm, Kp, C, F, P, O, Wk, B1_4, B2_5, T, W0, P0, Q0, B2_9, L0, Oz, hok, hKb, rfl⟩ hP hD hS (lv_sub hl [0, 1, 2, 3, 4] rfl)
