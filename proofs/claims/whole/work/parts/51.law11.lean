/-! a case of the law (wip/gen_law.py) -/
set_option maxHeartbeats 4000000 in
set_option maxRecDepth 100000 in
/-- polar -/
theorem l_11 {p : Program} {l : Launch} {e : Env} {s : State} {m : MethodId} {below : List Frame} {meth : Method} {c : Code} {D : va_G} {cJ cI : ClassId} {A : Nat → Prop} {b L i cells slots : Nat} {xs : Nat → Int32} {Q : State → Prop} {h fo ke ht hc hf hp ho wo fi se g mm kf tb wk pl sp po to ba li ou : Nat} (hx : p.tables.exec = Jvm.exec) (hb : c.code = code) (hml : c.maxLocals = 8) (hown : s.vm.findClass R_L = some m.cls) (hts : ∀ w ∈ tW, w.before #[Value.ref b] s = true) (hX : va_X b L xs s s.heap) (hbl : b < s.heap.size) (hL : L ≤ 3584) (hi : i + 7 ≤ L) (hN : xN s) (hA : ∀ q, s.heap.size ≤ q → A q) (hbA : ¬ A b) (hK : va_K D vwC [(cJ, .long), (cI, .int)] s) (hcl : cells ≤ room_1.cells) (hsl : slots ≤ room_1.slots)
    (kk : ∀ (ws : va_W) (H : Heap) (locs : List Loc) (ls : Array Slot), lwS cJ cI h fo ke ht hc hf hp ho wo fi se g mm kf tb wk pl sp po to ba li ou ws → va_P D vwC ws H → va_D A ws → va_S A s.heap H locs → lv_has ls 8 [(0, .ref b), (1, .ref h), (2, .ref g), (3, .ref ou), (4, .int (nI i))] → W p l e room_1 s m #[Value.ref b] below meth c H locs cells slots Q (F0 m 831 ls []))
    (ws : va_W) (H : Heap) (locs : List Loc) (ls : Array Slot) (hw0 : lwS cJ cI h fo ke ht hc hf hp ho wo fi se g mm kf tb wk pl sp po to ba li ou ws) (hP : va_P D vwC ws H) (hD : va_D A ws) (hS : va_S A s.heap H locs) (hl : lv_has ls 8 [(0, .ref b), (1, .ref h), (2, .ref g), (3, .ref ou), (4, .int (nI i))]) : W p l e room_1 s m #[Value.ref b] below meth c H locs cells slots Q (F0 m 484 ls []) := by
  obtain ⟨d, kb, r0, cd, rw, ab, be, a0, a1, b0, b1, lm, Fm, Kp, C, F, P, O, Wk, A1, A2, T, W0, P0, Q0, Bs, L0, Oz, hok, hKb, rfl⟩ := hw0
  have hd2 := hok.1
  have hd3 := hok.2.1
  have hF := hok.2.2.1
  have hsy := hok.2.2.2
  have hK1 := hK.sub (tys' := [(cJ, .long)]) [0] rfl
  refine lv_aload_n hx hb d_law_484 rfl (lv_at hl 1 rfl) ?_
  refine lv_aload_n hx hb d_law_485 rfl (lv_at hl 0 rfl) ?_
  refine lv_iload hx hb d_law_486 (lv_at hl 4 rfl) ?_
  refine lv_iconst (v := nI 1) hx hb d_law_488 (by decide) ?_
  refine xn_add hx hb d_law_489 ?_
  refine x_sld hx hb hX hbl hbA hS (k := i + 1) (by omega) (by omega) d_law_490 ?_
  refine lv_aload_n hx hb d_law_491 rfl (lv_at hl 0 rfl) ?_
  refine lv_iload hx hb d_law_492 (lv_at hl 4 rfl) ?_
  refine lv_iconst (v := nI 2) hx hb d_law_494 (by decide) ?_
  refine xn_add hx hb d_law_495 ?_
  refine x_sld hx hb hX hbl hbA hS (k := i + 2) (by omega) (by omega) d_law_496 ?_
  refine lv_aload_n hx hb d_law_497 rfl (lv_at hl 0 rfl) ?_
  refine lv_iload hx hb d_law_498 (lv_at hl 4 rfl) ?_
  refine lv_iconst (v := nI 3) hx hb d_law_500 (by decide) ?_
  refine xn_add hx hb d_law_501 ?_
  refine x_sld hx hb hX hbl hbA hS (k := i + 3) (by omega) (by omega) d_law_502 ?_
  refine lv_aload_n hx hb d_law_503 rfl (lv_at hl 0 rfl) ?_
  refine lv_iload hx hb d_law_504 (lv_at hl 4 rfl) ?_
  refine lv_iconst (v := nI 4) hx hb d_law_506 (by decide) ?_
  refine xn_add hx hb d_law_507 ?_
  refine x_sld hx hb hX hbl hbA hS (k := i + 4) (by omega) (by omega) d_law_508 ?_
  refine lv_aload_n hx hb d_law_509 rfl (lv_at hl 0 rfl) ?_
  refine lv_iload hx hb d_law_510 (lv_at hl 4 rfl) ?_
  refine lv_iconst (v := nI 5) hx hb d_law_512 (by decide) ?_
  refine xn_add hx hb d_law_513 ?_
  refine x_sld hx hb hX hbl hbA hS (k := i + 5) (by omega) (by omega) d_law_514 ?_
  refine xcl (wc := [(h, .inr (1, [.int (nI d), .int kb, .ref fo, .ref ke, .ref ht, .ref wo, .ref fi, .ref se])), (fo, LA cJ 16 Fm), (fi, LA cJ 4 A1), (se, LA cJ 4 A2)]) (wr := [(ke, LA cJ 16 Kp), (ht, .inr (0, [.int r0, .ref hc, .ref hf, .ref hp, .ref ho])), (hc, LA cJ 16 C), (hf, LA cJ 16 F), (hp, LA cJ 16 P), (ho, LA cJ 5 O), (wo, LA cJ 16 Wk), (g, .inr (2, [.int cd, .int (nI d), .ref mm, .int kb, .ref kf, .ref tb, .int rw, .ref wk, .int ab, .int be, .ref pl, .ref sp, .int a0, .int a1, .int b0, .int b1, .ref po, .ref to, .ref ba, .ref li, .int lm])), (mm, IA cI 16 Fm), (kf, IA cI 16 Kp), (tb, LA cJ 16 T), (wk, LA cJ 20 W0), (pl, IA cI 24 plF), (sp, IA cI 40 spF), (po, LA cJ 4 P0), (to, LA cJ 4 Q0), (ba, LA cJ 12 Bs), (li, LA cJ 6 L0), (ou, LA cJ 1 Oz)]) hP hD hS hA [0, 1, 9, 10] [2, 3, 4, 5, 6, 7, 8, 11, 12, 13, 14, 15, 16, 17, 18, 19, 20, 21, 22] rfl rfl (by decide) (by decide) (va_runV (As := [.int (xs (i + 1)), .int (xs (i + 2)), .int (xs (i + 3)), .int (xs (i + 4)), .int (xs (i + 5))]) (rest := []) ⟨hx, hb, hml, hown, hts⟩ (k_polar l D cJ h d kb fo ke ht wo fi se Fm A1 A2 (xs (i + 1)) (xs (i + 2)) (xs (i + 3)) (xs (i + 4)) (xs (i + 5)) (by first | assumption | omega) (by first | assumption | omega) (by first | assumption | omega) H.size) (cwV 5 hts (gV tw_233 tw_234 tw_235 tw_1 tw_236) rfl rfl rfl ⟨rfl, hd_K_polar⟩ ⟨Nat.le_of_ble_eq_true rfl, Nat.le_of_ble_eq_true rfl⟩) (xPreV (C := R_K) (T := F_K) (N := 8) (q0 := 0) hN hK1 (hP.sub (ws' := [(h, .inr (1, [.int (nI d), .int kb, .ref fo, .ref ke, .ref ht, .ref wo, .ref fi, .ref se])), (fo, LA cJ 16 Fm), (fi, LA cJ 4 A1), (se, LA cJ 4 A2)]) [0, 1, 9, 10] rfl) (hD.sub (ws' := [(h, .inr (1, [.int (nI d), .int kb, .ref fo, .ref ke, .ref ht, .ref wo, .ref fi, .ref se])), (fo, LA cJ 16 Fm), (fi, LA cJ 4 A1), (se, LA cJ 4 A2)]) [0, 1, 9, 10] (by decide) rfl) rfl rfl) rfl rfl hl.1 rfl (lv_room (Nat.le_of_ble_eq_true rfl)) d_law_515 ⟨hcl, hsl⟩) (fun r_1 u_2 H locs hw_3 hP hD hS => ?_)
  obtain ⟨B1_4, B2_5⟩ := u_2
  try dsimp only at hw_3
  have hP : va_P D vwC [(h, .inr (1, [.int (nI d), .int kb, .ref fo, .ref ke, .ref ht, .ref wo, .ref fi, .ref se])), (fo, LA cJ 16 Fm), (ke, LA cJ 16 Kp), (ht, .inr (0, [.int r0, .ref hc, .ref hf, .ref hp, .ref ho])), (hc, LA cJ 16 C), (hf, LA cJ 16 F), (hp, LA cJ 16 P), (ho, LA cJ 5 O), (wo, LA cJ 16 Wk), (fi, LA cJ 4 B1_4), (se, LA cJ 4 B2_5), (g, .inr (2, [.int cd, .int (nI d), .ref mm, .int kb, .ref kf, .ref tb, .int rw, .ref wk, .int ab, .int be, .ref pl, .ref sp, .int a0, .int a1, .int b0, .int b1, .ref po, .ref to, .ref ba, .ref li, .int lm])), (mm, IA cI 16 Fm), (kf, IA cI 16 Kp), (tb, LA cJ 16 T), (wk, LA cJ 20 W0), (pl, IA cI 24 plF), (sp, IA cI 40 spF), (po, LA cJ 4 P0), (to, LA cJ 4 Q0), (ba, LA cJ 12 Bs), (li, LA cJ 6 L0), (ou, LA cJ 1 Oz)] H := hP.sub [19, 20, 0, 1, 2, 3, 4, 5, 6, 21, 22, 7, 8, 9, 10, 11, 12, 13, 14, 15, 16, 17, 18] rfl
  have hD : va_D A [(h, .inr (1, [.int (nI d), .int kb, .ref fo, .ref ke, .ref ht, .ref wo, .ref fi, .ref se])), (fo, LA cJ 16 Fm), (ke, LA cJ 16 Kp), (ht, .inr (0, [.int r0, .ref hc, .ref hf, .ref hp, .ref ho])), (hc, LA cJ 16 C), (hf, LA cJ 16 F), (hp, LA cJ 16 P), (ho, LA cJ 5 O), (wo, LA cJ 16 Wk), (fi, LA cJ 4 B1_4), (se, LA cJ 4 B2_5), (g, .inr (2, [.int cd, .int (nI d), .ref mm, .int kb, .ref kf, .ref tb, .int rw, .ref wk, .int ab, .int be, .ref pl, .ref sp, .int a0, .int a1, .int b0, .int b1, .ref po, .ref to, .ref ba, .ref li, .int lm])), (mm, IA cI 16 Fm), (kf, IA cI 16 Kp), (tb, LA cJ 16 T), (wk, LA cJ 20 W0), (pl, IA cI 24 plF), (sp, IA cI 40 spF), (po, LA cJ 4 P0), (to, LA cJ 4 Q0), (ba, LA cJ 12 Bs), (li, LA cJ 6 L0), (ou, LA cJ 1 Oz)] := hD.sub [19, 20, 0, 1, 2, 3, 4, 5, 6, 21, 22, 7, 8, 9, 10, 11, 12, 13, 14, 15, 16, 17, 18] (by decide) rfl
  subst hw_3
  refine lv_aload_n hx hb d_law_518 rfl (lv_at hl 2 rfl) ?_
  refine lv_aload_n hx hb d_law_519 rfl (lv_at hl 0 rfl) ?_
  refine lv_iload hx hb d_law_520 (lv_at hl 4 rfl) ?_
  refine lv_iconst (v := nI 1) hx hb d_law_522 (by decide) ?_
  refine xn_add hx hb d_law_523 ?_
  refine x_sld hx hb hX hbl hbA hS (k := i + 1) (by omega) (by omega) d_law_524 ?_
  refine lv_aload_n hx hb d_law_525 rfl (lv_at hl 0 rfl) ?_
  refine lv_iload hx hb d_law_526 (lv_at hl 4 rfl) ?_
  refine lv_iconst (v := nI 2) hx hb d_law_528 (by decide) ?_
  refine xn_add hx hb d_law_529 ?_
  refine x_sld hx hb hX hbl hbA hS (k := i + 2) (by omega) (by omega) d_law_530 ?_
  refine lv_aload_n hx hb d_law_531 rfl (lv_at hl 0 rfl) ?_
  refine lv_iload hx hb d_law_532 (lv_at hl 4 rfl) ?_
  refine lv_iconst (v := nI 3) hx hb d_law_534 (by decide) ?_
  refine xn_add hx hb d_law_535 ?_
  refine x_sld hx hb hX hbl hbA hS (k := i + 3) (by omega) (by omega) d_law_536 ?_
  refine lv_aload_n hx hb d_law_537 rfl (lv_at hl 0 rfl) ?_
  refine lv_iload hx hb d_law_538 (lv_at hl 4 rfl) ?_
  refine lv_iconst (v := nI 4) hx hb d_law_540 (by decide) ?_
  refine xn_add hx hb d_law_541 ?_
  refine x_sld hx hb hX hbl hbA hS (k := i + 4) (by omega) (by omega) d_law_542 ?_
  refine lv_aload_n hx hb d_law_543 rfl (lv_at hl 0 rfl) ?_
  refine lv_iload hx hb d_law_544 (lv_at hl 4 rfl) ?_
  refine lv_iconst (v := nI 5) hx hb d_law_546 (by decide) ?_
  refine xn_add hx hb d_law_547 ?_
  refine x_sld hx hb hX hbl hbA hS (k := i + 5) (by omega) (by omega) d_law_548 ?_
  refine xcl (wc := [(g, .inr (2, [.int cd, .int (nI d), .ref mm, .int kb, .ref kf, .ref tb, .int rw, .ref wk, .int ab, .int be, .ref pl, .ref sp, .int a0, .int a1, .int b0, .int b1, .ref po, .ref to, .ref ba, .ref li, .int lm])), (mm, IA cI 16 Fm), (po, LA cJ 4 P0), (to, LA cJ 4 Q0)]) (wr := [(h, .inr (1, [.int (nI d), .int kb, .ref fo, .ref ke, .ref ht, .ref wo, .ref fi, .ref se])), (fo, LA cJ 16 Fm), (ke, LA cJ 16 Kp), (ht, .inr (0, [.int r0, .ref hc, .ref hf, .ref hp, .ref ho])), (hc, LA cJ 16 C), (hf, LA cJ 16 F), (hp, LA cJ 16 P), (ho, LA cJ 5 O), (wo, LA cJ 16 Wk), (fi, LA cJ 4 B1_4), (se, LA cJ 4 B2_5), (kf, IA cI 16 Kp), (tb, LA cJ 16 T), (wk, LA cJ 20 W0), (pl, IA cI 24 plF), (sp, IA cI 40 spF), (ba, LA cJ 12 Bs), (li, LA cJ 6 L0), (ou, LA cJ 1 Oz)]) hP hD hS hA [11, 12, 18, 19] [0, 1, 2, 3, 4, 5, 6, 7, 8, 9, 10, 13, 14, 15, 16, 17, 20, 21, 22] rfl rfl (by decide) (by decide) (va_runV (As := [.int (xs (i + 1)), .int (xs (i + 2)), .int (xs (i + 3)), .int (xs (i + 4)), .int (xs (i + 5))]) (rest := [.long (lI (s_polar Fm d (xs (i + 1)).toInt (xs (i + 2)).toInt (xs (i + 3)).toInt (xs (i + 4)).toInt (xs (i + 5)).toInt))]) ⟨hx, hb, hml, hown, hts⟩ (r_polar l D cJ cI g cd d kb rw ab be a0 a1 b0 b1 lm mm kf tb wk pl sp po to ba li Fm P0 Q0 (xs (i + 1)) (xs (i + 2)) (xs (i + 3)) (xs (i + 4)) (xs (i + 5)) (by first | assumption | omega) (by first | assumption | omega) (by first | assumption | omega) H.size) (cwV 5 hts (gV tw_564 tw_565 tw_566 tw_3 tw_567) rfl rfl rfl ⟨rfl, hd_M_polar⟩ ⟨Nat.le_of_ble_eq_true rfl, Nat.le_of_ble_eq_true rfl⟩) (xPreV (C := R_M) (T := F_M) (N := 21) (q0 := 0) hN hK (hP.sub (ws' := [(g, .inr (2, [.int cd, .int (nI d), .ref mm, .int kb, .ref kf, .ref tb, .int rw, .ref wk, .int ab, .int be, .ref pl, .ref sp, .int a0, .int a1, .int b0, .int b1, .ref po, .ref to, .ref ba, .ref li, .int lm])), (mm, IA cI 16 Fm), (po, LA cJ 4 P0), (to, LA cJ 4 Q0)]) [11, 12, 18, 19] rfl) (hD.sub (ws' := [(g, .inr (2, [.int cd, .int (nI d), .ref mm, .int kb, .ref kf, .ref tb, .int rw, .ref wk, .int ab, .int be, .ref pl, .ref sp, .int a0, .int a1, .int b0, .int b1, .ref po, .ref to, .ref ba, .ref li, .int lm])), (mm, IA cI 16 Fm), (po, LA cJ 4 P0), (to, LA cJ 4 Q0)]) [11, 12, 18, 19] (by decide) rfl) rfl rfl) rfl rfl hl.1 rfl (lv_room (Nat.le_of_ble_eq_true rfl)) d_law_549 ⟨hcl, hsl⟩) (fun r_6 u_7 H locs hw_8 hP hD hS => ?_)
  obtain ⟨P1_9, Q1_10⟩ := u_7
  try dsimp only at hw_8
  have hP : va_P D vwC [(h, .inr (1, [.int (nI d), .int kb, .ref fo, .ref ke, .ref ht, .ref wo, .ref fi, .ref se])), (fo, LA cJ 16 Fm), (ke, LA cJ 16 Kp), (ht, .inr (0, [.int r0, .ref hc, .ref hf, .ref hp, .ref ho])), (hc, LA cJ 16 C), (hf, LA cJ 16 F), (hp, LA cJ 16 P), (ho, LA cJ 5 O), (wo, LA cJ 16 Wk), (fi, LA cJ 4 B1_4), (se, LA cJ 4 B2_5), (g, .inr (2, [.int (nI 0), .int (nI d), .ref mm, .int kb, .ref kf, .ref tb, .int rw, .ref wk, .int ab, .int be, .ref pl, .ref sp, .int a0, .int a1, .int b0, .int b1, .ref po, .ref to, .ref ba, .ref li, .int lm])), (mm, IA cI 16 Fm), (kf, IA cI 16 Kp), (tb, LA cJ 16 T), (wk, LA cJ 20 W0), (pl, IA cI 24 plF), (sp, IA cI 40 spF), (po, LA cJ 4 P1_9), (to, LA cJ 4 Q1_10), (ba, LA cJ 12 Bs), (li, LA cJ 6 L0), (ou, LA cJ 1 Oz)] H := hP.sub [0, 1, 2, 3, 4, 5, 6, 7, 8, 9, 10, 19, 20, 11, 12, 13, 14, 15, 21, 22, 16, 17, 18] rfl
  have hD : va_D A [(h, .inr (1, [.int (nI d), .int kb, .ref fo, .ref ke, .ref ht, .ref wo, .ref fi, .ref se])), (fo, LA cJ 16 Fm), (ke, LA cJ 16 Kp), (ht, .inr (0, [.int r0, .ref hc, .ref hf, .ref hp, .ref ho])), (hc, LA cJ 16 C), (hf, LA cJ 16 F), (hp, LA cJ 16 P), (ho, LA cJ 5 O), (wo, LA cJ 16 Wk), (fi, LA cJ 4 B1_4), (se, LA cJ 4 B2_5), (g, .inr (2, [.int (nI 0), .int (nI d), .ref mm, .int kb, .ref kf, .ref tb, .int rw, .ref wk, .int ab, .int be, .ref pl, .ref sp, .int a0, .int a1, .int b0, .int b1, .ref po, .ref to, .ref ba, .ref li, .int lm])), (mm, IA cI 16 Fm), (kf, IA cI 16 Kp), (tb, LA cJ 16 T), (wk, LA cJ 20 W0), (pl, IA cI 24 plF), (sp, IA cI 40 spF), (po, LA cJ 4 P1_9), (to, LA cJ 4 Q1_10), (ba, LA cJ 12 Bs), (li, LA cJ 6 L0), (ou, LA cJ 1 Oz)] := hD.sub [0, 1, 2, 3, 4, 5, 6, 7, 8, 9, 10, 19, 20, 11, 12, 13, 14, 15, 21, 22, 16, 17, 18] (by decide) rfl
  subst hw_8
  refine x_lsame (tgt := 831) hx hb d_law_552 d_law_553 (by decide) ?_
  exact kk _ H locs ls ⟨d, kb, r0, nI 0, rw, ab, be, a0, a1, b0, b1, lm, Fm, Kp, C, F, P, O, Wk, B1_4, B2_5, T, W0, P1_9, Q1_10, Bs, L0, Oz, hok, hKb, rfl⟩ hP hD hS (lv_sub hl [0, 1, 2, 3, 4] rfl)
