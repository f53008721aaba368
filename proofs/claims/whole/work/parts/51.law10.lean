/-! a case of the law (wip/gen_law.py) -/
set_option maxHeartbeats 4000000 in
set_option maxRecDepth 100000 in
/-- at -/
theorem l_10 {p : Program} {l : Launch} {e : Env} {s : State} {m : MethodId} {below : List Frame} {meth : Method} {c : Code} {D : va_G} {cJ cI : ClassId} {A : Nat → Prop} {b L i cells slots : Nat} {xs : Nat → Int32} {Q : State → Prop} {h fo ke ht hc hf hp ho wo fi se g mm kf tb wk pl sp po to ba li ou : Nat} (hx : p.tables.exec = Jvm.exec) (hb : c.code = code) (hml : c.maxLocals = 8) (hown : s.vm.findClass R_L = some m.cls) (hts : ∀ w ∈ tW, w.before #[Value.ref b] s = true) (hX : va_X b L xs s s.heap) (hbl : b < s.heap.size) (hL : L ≤ 3584) (hi : i + 7 ≤ L) (hN : xN s) (hA : ∀ q, s.heap.size ≤ q → A q) (hbA : ¬ A b) (hK : va_K D vwC [(cJ, .long), (cI, .int)] s) (hcl : cells ≤ room_1.cells) (hsl : slots ≤ room_1.slots)
    (kk : ∀ (ws : va_W) (H : Heap) (locs : List Loc) (ls : Array Slot), lwS cJ cI h fo ke ht hc hf hp ho wo fi se g mm kf tb wk pl sp po to ba li ou ws → va_P D vwC ws H → va_D A ws → va_S A s.heap H locs → lv_has ls 8 [(0, .ref b), (1, .ref h), (2, .ref g), (3, .ref ou), (4, .int (nI i))] → W p l e room_1 s m #[Value.ref b] below meth c H locs cells slots Q (F0 m 831 ls []))
    (ws : va_W) (H : Heap) (locs : List Loc) (ls : Array Slot) (hw0 : lwS cJ cI h fo ke ht hc hf hp ho wo fi se g mm kf tb wk pl sp po to ba li ou ws) (hP : va_P D vwC ws H) (hD : va_D A ws) (hS : va_S A s.heap H locs) (hl : lv_has ls 8 [(0, .ref b), (1, .ref h), (2, .ref g), (3, .ref ou), (4, .int (nI i))]) : W p l e room_1 s m #[Value.ref b] below meth c H locs cells slots Q (F0 m 423 ls []) := by
  obtain ⟨d, kb, r0, cd, rw, ab, be, a0, a1, b0, b1, lm, Fm, Kp, C, F, P, O, Wk, A1, A2, T, W0, P0, Q0, Bs, L0, Oz, hok, hKb, rfl⟩ := hw0
  have hd2 := hok.1
  have hd3 := hok.2.1
  have hF := hok.2.2.1
  have hsy := hok.2.2.2
  have hK1 := hK.sub (tys' := [(cJ, .long)]) [0] rfl
  refine lv_aload_n hx hb d_law_423 rfl (lv_at hl 1 rfl) ?_
  refine lv_aload_n hx hb d_law_424 rfl (lv_at hl 0 rfl) ?_
  refine lv_iload hx hb d_law_425 (lv_at hl 4 rfl) ?_
  refine lv_iconst (v := nI 1) hx hb d_law_427 (by decide) ?_
  refine xn_add hx hb d_law_428 ?_
  refine x_sld hx hb hX hbl hbA hS (k := i + 1) (by omega) (by omega) d_law_429 ?_
  refine lv_aload_n hx hb d_law_430 rfl (lv_at hl 0 rfl) ?_
  refine lv_iload hx hb d_law_431 (lv_at hl 4 rfl) ?_
  refine lv_iconst (v := nI 2) hx hb d_law_433 (by decide) ?_
  refine xn_add hx hb d_law_434 ?_
  refine x_sld hx hb hX hbl hbA hS (k := i + 2) (by omega) (by omega) d_law_435 ?_
  refine lv_aload_n hx hb d_law_436 rfl (lv_at hl 0 rfl) ?_
  refine lv_iload hx hb d_law_437 (lv_at hl 4 rfl) ?_
  refine lv_iconst (v := nI 3) hx hb d_law_439 (by decide) ?_
  refine xn_add hx hb d_law_440 ?_
  refine x_sld hx hb hX hbl hbA hS (k := i + 3) (by omega) (by omega) d_law_441 ?_
  refine lv_aload_n hx hb d_law_442 rfl (lv_at hl 0 rfl) ?_
  refine lv_iload hx hb d_law_443 (lv_at hl 4 rfl) ?_
  refine lv_iconst (v := nI 4) hx hb d_law_445 (by decide) ?_
  refine xn_add hx hb d_law_446 ?_
  refine x_sld hx hb hX hbl hbA hS (k := i + 4) (by omega) (by omega) d_law_447 ?_
  refine xci (wc := [(h, .inr (1, [.int (nI d), .int kb, .ref fo, .ref ke, .ref ht, .ref wo, .ref fi, .ref se])), (fo, LA cJ 16 Fm), (fi, LA cJ 4 A1)]) (wr := [(ke, LA cJ 16 Kp), (ht, .inr (0, [.int r0, .ref hc, .ref hf, .ref hp, .ref ho])), (hc, LA cJ 16 C), (hf, LA cJ 16 F), (hp, LA cJ 16 P), (ho, LA cJ 5 O), (wo, LA cJ 16 Wk), (se, LA cJ 4 A2), (g, .inr (2, [.int cd, .int (nI d), .ref mm, .int kb, .ref kf, .ref tb, .int rw, .ref wk, .int ab, .int be, .ref pl, .ref sp, .int a0, .int a1, .int b0, .int b1, .ref po, .ref to, .ref ba, .ref li, .int lm])), (mm, IA cI 16 Fm), (kf, IA cI 16 Kp), (tb, LA cJ 16 T), (wk, LA cJ 20 W0), (pl, IA cI 24 plF), (sp, IA cI 40 spF), (po, LA cJ 4 P0), (to, LA cJ 4 Q0), (ba, LA cJ 12 Bs), (li, LA cJ 6 L0), (ou, LA cJ 1 Oz)]) hP hD hS hA [0, 1, 9] [2, 3, 4, 5, 6, 7, 8, 10, 11, 12, 13, 14, 15, 16, 17, 18, 19, 20, 21, 22] rfl rfl (by decide) (by decide) (va_runV (As := [.int (xs (i + 1)), .int (xs (i + 2)), .int (xs (i + 3)), .int (xs (i + 4))]) (rest := []) ⟨hx, hb, hml, hown, hts⟩ (k_at l D cJ h d kb fo ke ht wo fi se Fm A1 (xs (i + 1)) (xs (i + 2)) (xs (i + 3)) (xs (i + 4)) (by first | assumption | omega) (by first | assumption | omega) (by first | assumption | omega) H.size) (cwV 4 hts (gV tw_207 tw_208 tw_209 tw_1 tw_210) rfl rfl rfl ⟨rfl, hd_K_at⟩ ⟨Nat.le_of_ble_eq_true rfl, Nat.le_of_ble_eq_true rfl⟩) (xPreV (C := R_K) (T := F_K) (N := 8) (q0 := 0) hN hK1 (hP.sub (ws' := [(h, .inr (1, [.int (nI d), .int kb, .ref fo, .ref ke, .ref ht, .ref wo, .ref fi, .ref se])), (fo, LA cJ 16 Fm), (fi, LA cJ 4 A1)]) [0, 1, 9] rfl) (hD.sub (ws' := [(h, .inr (1, [.int (nI d), .int kb, .ref fo, .ref ke, .ref ht, .ref wo, .ref fi, .ref se])), (fo, LA cJ 16 Fm), (fi, LA cJ 4 A1)]) [0, 1, 9] (by decide) rfl) rfl rfl) rfl rfl hl.1 rfl (lv_room (Nat.le_of_ble_eq_true rfl)) d_law_448 ⟨hcl, hsl⟩) (fun r_1 u_2 H locs hw_3 hP hD hS => ?_)
  obtain ⟨B1_4, rfl⟩ : ∃ z, z = u_2 := ⟨_, rfl⟩
  try dsimp only at hw_3
  have hP : va_P D vwC [(h, .inr (1, [.int (nI d), .int kb, .ref fo, .ref ke, .ref ht, .ref wo, .ref fi, .ref se])), (fo, LA cJ 16 Fm), (ke, LA cJ 16 Kp), (ht, .inr (0, [.int r0, .ref hc, .ref hf, .ref hp, .ref ho])), (hc, LA cJ 16 C), (hf, LA cJ 16 F), (hp, LA cJ 16 P), (ho, LA cJ 5 O), (wo, LA cJ 16 Wk), (fi, LA cJ 4 B1_4), (se, LA cJ 4 A2), (g, .inr (2, [.int cd, .int (nI d), .ref mm, .int kb, .ref kf, .ref tb, .int rw, .ref wk, .int ab, .int be, .ref pl, .ref sp, .int a0, .int a1, .int b0, .int b1, .ref po, .ref to, .ref ba, .ref li, .int lm])), (mm, IA cI 16 Fm), (kf, IA cI 16 Kp), (tb, LA cJ 16 T), (wk, LA cJ 20 W0), (pl, IA cI 24 plF), (sp, IA cI 40 spF), (po, LA cJ 4 P0), (to, LA cJ 4 Q0), (ba, LA cJ 12 Bs), (li, LA cJ 6 L0), (ou, LA cJ 1 Oz)] H := hP.sub [20, 21, 0, 1, 2, 3, 4, 5, 6, 22, 7, 8, 9, 10, 11, 12, 13, 14, 15, 16, 17, 18, 19] rfl
  have hD : va_D A [(h, .inr (1, [.int (nI d), .int kb, .ref fo, .ref ke, .ref ht, .ref wo, .ref fi, .ref se])), (fo, LA cJ 16 Fm), (ke, LA cJ 16 Kp), (ht, .inr (0, [.int r0, .ref hc, .ref hf, .ref hp, .ref ho])), (hc, LA cJ 16 C), (hf, LA cJ 16 F), (hp, LA cJ 16 P), (ho, LA cJ 5 O), (wo, LA cJ 16 Wk), (fi, LA cJ 4 B1_4), (se, LA cJ 4 A2), (g, .inr (2, [.int cd, .int (nI d), .ref mm, .int kb, .ref kf, .ref tb, .int rw, .ref wk, .int ab, .int be, .ref pl, .ref sp, .int a0, .int a1, .int b0, .int b1, .ref po, .ref to, .ref ba, .ref li, .int lm])), (mm, IA cI 16 Fm), (kf, IA cI 16 Kp), (tb, LA cJ 16 T), (wk, LA cJ 20 W0), (pl, IA cI 24 plF), (sp, IA cI 40 spF), (po, LA cJ 4 P0), (to, LA cJ 4 Q0), (ba, LA cJ 12 Bs), (li, LA cJ 6 L0), (ou, LA cJ 1 Oz)] := hD.sub [20, 21, 0, 1, 2, 3, 4, 5, 6, 22, 7, 8, 9, 10, 11, 12, 13, 14, 15, 16, 17, 18, 19] (by decide) rfl
  subst hw_3
  refine lv_aload_n hx hb d_law_451 rfl (lv_at hl 2 rfl) ?_
  refine lv_aload_n hx hb d_law_452 rfl (lv_at hl 0 rfl) ?_
  refine lv_iload hx hb d_law_453 (lv_at hl 4 rfl) ?_
  refine lv_iconst (v := nI 1) hx hb d_law_455 (by decide) ?_
  refine xn_add hx hb d_law_456 ?_
  refine x_sld hx hb hX hbl hbA hS (k := i + 1) (by omega) (by omega) d_law_457 ?_
  refine lv_aload_n hx hb d_law_458 rfl (lv_at hl 0 rfl) ?_
  refine lv_iload hx hb d_law_459 (lv_at hl 4 rfl) ?_
  refine lv_iconst (v := nI 2) hx hb d_law_461 (by decide) ?_
  refine xn_add hx hb d_law_462 ?_
  refine x_sld hx hb hX hbl hbA hS (k := i + 2) (by omega) (by omega) d_law_463 ?_
  refine lv_aload_n hx hb d_law_464 rfl (lv_at hl 0 rfl) ?_
  refine lv_iload hx hb d_law_465 (lv_at hl 4 rfl) ?_
  refine lv_iconst (v := nI 3) hx hb d_law_467 (by decide) ?_
  refine xn_add hx hb d_law_468 ?_
  refine x_sld hx hb hX hbl hbA hS (k := i + 3) (by omega) (by omega) d_law_469 ?_
  refine lv_aload_n hx hb d_law_470 rfl (lv_at hl 0 rfl) ?_
  refine lv_iload hx hb d_law_471 (lv_at hl 4 rfl) ?_
  refine lv_iconst (v := nI 4) hx hb d_law_473 (by decide) ?_
  refine xn_add hx hb d_law_474 ?_
  refine x_sld hx hb hX hbl hbA hS (k := i + 4) (by omega) (by omega) d_law_475 ?_
  refine xci (wc := [(g, .inr (2, [.int cd, .int (nI d), .ref mm, .int kb, .ref kf, .ref tb, .int rw, .ref wk, .int ab, .int be, .ref pl, .ref sp, .int a0, .int a1, .int b0, .int b1, .ref po, .ref to, .ref ba, .ref li, .int lm])), (mm, IA cI 16 Fm), (po, LA cJ 4 P0)]) (wr := [(h, .inr (1, [.int (nI d), .int kb, .ref fo, .ref ke, .ref ht, .ref wo, .ref fi, .ref se])), (fo, LA cJ 16 Fm), (ke, LA cJ 16 Kp), (ht, .inr (0, [.int r0, .ref hc, .ref hf, .ref hp, .ref ho])), (hc, LA cJ 16 C), (hf, LA cJ 16 F), (hp, LA cJ 16 P), (ho, LA cJ 5 O), (wo, LA cJ 16 Wk), (fi, LA cJ 4 B1_4), (se, LA cJ 4 A2), (kf, IA cI 16 Kp), (tb, LA cJ 16 T), (wk, LA cJ 20 W0), (pl, IA cI 24 plF), (sp, IA cI 40 spF), (to, LA cJ 4 Q0), (ba, LA cJ 12 Bs), (li, LA cJ 6 L0), (ou, LA cJ 1 Oz)]) hP hD hS hA [11, 12, 18] [0, 1, 2, 3, 4, 5, 6, 7, 8, 9, 10, 13, 14, 15, 16, 17, 19, 20, 21, 22] rfl rfl (by decide) (by decide) (va_runV (As := [.int (xs (i + 1)), .int (xs (i + 2)), .int (xs (i + 3)), .int (xs (i + 4))]) (rest := [.int (s_at Fm d (xs (i + 1)).toInt (xs (i + 2)).toInt (xs (i + 3)).toInt (xs (i + 4)).toInt)]) ⟨hx, hb, hml, hown, hts⟩ (r_at l D cJ cI g cd d kb rw ab be a0 a1 b0 b1 lm mm kf tb wk pl sp po to ba li Fm P0 (xs (i + 1)) (xs (i + 2)) (xs (i + 3)) (xs (i + 4)) (by first | assumption | omega) (by first | assumption | omega) (by first | assumption | omega) H.size) (cwV 4 hts (gV tw_552 tw_553 tw_554 tw_3 tw_555) rfl rfl rfl ⟨rfl, hd_M_at⟩ ⟨Nat.le_of_ble_eq_true rfl, Nat.le_of_ble_eq_true rfl⟩) (xPreV (C := R_M) (T := F_M) (N := 21) (q0 := 0) hN hK (hP.sub (ws' := [(g, .inr (2, [.int cd, .int (nI d), .ref mm, .int kb, .ref kf, .ref tb, .int rw, .ref wk, .int ab, .int be, .ref pl, .ref sp, .int a0, .int a1, .int b0, .int b1, .ref po, .ref to, .ref ba, .ref li, .int lm])), (mm, IA cI 16 Fm), (po, LA cJ 4 P0)]) [11, 12, 18] rfl) (hD.sub (ws' := [(g, .inr (2, [.int cd, .int (nI d), .ref mm, .int kb, .ref kf, .ref tb, .int rw, .ref wk, .int ab, .int be, .ref pl, .ref sp, .int a0, .int a1, .int b0, .int b1, .ref po, .ref to, .ref ba, .ref li, .int lm])), (mm, IA cI 16 Fm), (po, LA cJ 4 P0)]) [11, 12, 18] (by decide) rfl) rfl rfl) rfl rfl hl.1 rfl (lv_room (Nat.le_of_ble_eq_true rfl)) d_law_476 ⟨hcl, hsl⟩) (fun r_5 u_6 H locs hw_7 hP hD hS => ?_)
  obtain ⟨P1_8, rfl⟩ : ∃ z, z = u_6 := ⟨_, rfl⟩
  try dsimp only at hw_7
  have hP : va_P D vwC [(h, .inr (1, [.int (nI d), .int kb, .ref fo, .ref ke, .ref ht, .ref wo, .ref fi, .ref se])), (fo, LA cJ 16 Fm), (ke, LA cJ 16 Kp), (ht, .inr (0, [.int r0, .ref hc, .ref hf, .ref hp, .ref ho])), (hc, LA cJ 16 C), (hf, LA cJ 16 F), (hp, LA cJ 16 P), (ho, LA cJ 5 O), (wo, LA cJ 16 Wk), (fi, LA cJ 4 B1_4), (se, LA cJ 4 A2), (g, .inr (2, [.int (nI 0), .int (nI d), .ref mm, .int kb, .ref kf, .ref tb, .int rw, .ref wk, .int ab, .int be, .ref pl, .ref sp, .int a0, .int a1, .int b0, .int b1, .ref po, .ref to, .ref ba, .ref li, .int lm])), (mm, IA cI 16 Fm), (kf, IA cI 16 Kp), (tb, LA cJ 16 T), (wk, LA cJ 20 W0), (pl, IA cI 24 plF), (sp, IA cI 40 spF), (po, LA cJ 4 P1_8), (to, LA cJ 4 Q0), (ba, LA cJ 12 Bs), (li, LA cJ 6 L0), (ou, LA cJ 1 Oz)] H := hP.sub [0, 1, 2, 3, 4, 5, 6, 7, 8, 9, 10, 20, 21, 11, 12, 13, 14, 15, 22, 16, 17, 18, 19] rfl
  have hD : va_D A [(h, .inr (1, [.int (nI d), .int kb, .ref fo, .ref ke, .ref ht, .ref wo, .ref fi, .ref se])), (fo, LA cJ 16 Fm), (ke, LA cJ 16 Kp), (ht, .inr (0, [.int r0, .ref hc, .ref hf, .ref hp, .ref ho])), (hc, LA cJ 16 C), (hf, LA cJ 16 F), (hp, LA cJ 16 P), (ho, LA cJ 5 O), (wo, LA cJ 16 Wk), (fi, LA cJ 4 B1_4), (se, LA cJ 4 A2), (g, .inr (2, [.int (nI 0), .int (nI d), .ref mm, .int kb, .ref kf, .ref tb, .int rw, .ref wk, .int ab, .int be, .ref pl, .ref sp, .int a0, .int a1, .int b0, .int b1, .ref po, .ref to, .ref ba, .ref li, .int lm])), (mm, IA cI 16 Fm), (kf, IA cI 16 Kp), (tb, LA cJ 16 T), (wk, LA cJ 20 W0), (pl, IA cI 24 plF), (sp, IA cI 40 spF), (po, LA cJ 4 P1_8), (to, LA cJ 4 Q0), (ba, LA cJ 12 Bs), (li, LA cJ 6 L0), (ou, LA cJ 1 Oz)] := hD.sub [0, 1, 2, 3, 4, 5, 6, 7, 8, 9, 10, 20, 21, 11, 12, 13, 14, 15, 22, 16, 17, 18, 19] (by decide) rfl
  subst hw_7
  refine x_isame (tgt := 831) hx hb d_law_479 (by decide) ?_
  exact kk _ H locs ls ⟨d, kb, r0, nI 0, rw, ab, be, a0, a1, b0, b1, lm, Fm, Kp, C, F, P, O, Wk, B1_4, A2, T, W0, P1_8, Q0, Bs, L0, Oz, hok, hKb, rfl⟩ hP hD hS (lv_sub hl [0, 1, 2, 3, 4] rfl)
