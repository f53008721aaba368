/-! a case of the law (wip/gen_law.py) -/
set_option maxHeartbeats 4000000 in
set_option maxRecDepth 100000 in
/-- section -/
theorem l_13 {p : Program} {l : Launch} {e : Env} {s : State} {m : MethodId} {below : List Frame} {meth : Method} {c : Code} {D : va_G} {cJ cI : ClassId} {A : Nat → Prop} {b L i cells slots : Nat} {xs : Nat → Int32} {Q : State → Prop} {h fo ke ht hc hf hp ho wo fi se g mm kf tb wk pl sp po to ba li ou : Nat} (hx : p.tables.exec = Jvm.exec) (hb : c.code = code) (hml : c.maxLocals = 8) (hown : s.vm.findClass R_L = some m.cls) (hts : ∀ w ∈ tW, w.before #[Value.ref b] s = true) (hX : va_X b L xs s s.heap) (hbl : b < s.heap.size) (hL : L ≤ 3584) (hi : i + 7 ≤ L) (hN : xN s) (hA : ∀ q, s.heap.size ≤ q → A q) (hbA : ¬ A b) (hK : va_K D vwC [(cJ, .long), (cI, .int)] s) (hcl : cells ≤ room_1.cells) (hsl : slots ≤ room_1.slots)
    (kk : ∀ (ws : va_W) (H : Heap) (locs : List Loc) (ls : Array Slot), lwS cJ cI h fo ke ht hc hf hp ho wo fi se g mm kf tb wk pl sp po to ba li ou ws → va_P D vwC ws H → va_D A ws → va_S A s.heap H locs → lv_has ls 8 [(0, .ref b), (1, .ref h), (2, .ref g), (3, .ref ou), (4, .int (nI i))] → W p l e room_1 s m #[Value.ref b] below meth c H locs cells slots Q (F0 m 831 ls []))
    (ws : va_W) (H : Heap) (locs : List Loc) (ls : Array Slot) (hw0 : lwS cJ cI h fo ke ht hc hf hp ho wo fi se g mm kf tb wk pl sp po to ba li ou ws) (hP : va_P D vwC ws H) (hD : va_D A ws) (hS : va_S A s.heap H locs) (hl : lv_has ls 8 [(0, .ref b), (1, .ref h), (2, .ref g), (3, .ref ou), (4, .int (nI i))]) : W p l e room_1 s m #[Value.ref b] below meth c H locs cells slots Q (F0 m 619 ls []) := by
  obtain ⟨d, kb, r0, cd, rw, ab, be, a0, a1, b0, b1, lm, Fm, Kp, C, F, P, O, Wk, A1, A2, T, W0, P0, Q0, Bs, L0, Oz, hok, hKb, rfl⟩ := hw0
  have hd2 := hok.1
  have hd3 := hok.2.1
  have hF := hok.2.2.1
  have hsy := hok.2.2.2
  have hK1 := hK.sub (tys' := [(cJ, .long)]) [0] rfl
  refine lv_aload_n hx hb d_law_619 rfl (lv_at hl 1 rfl) ?_
  refine lv_aload_n hx hb d_law_620 rfl (lv_at hl 0 rfl) ?_
  refine lv_iload hx hb d_law_621 (lv_at hl 4 rfl) ?_
  refine lv_iconst (v := nI 1) hx hb d_law_623 (by decide) ?_
  refine xn_add hx hb d_law_624 ?_
  refine x_sld hx hb hX hbl hbA hS (k := i + 1) (by omega) (by omega) d_law_625 ?_
  refine lv_aload_n hx hb d_law_626 rfl (lv_at hl 0 rfl) ?_
  refine lv_iload hx hb d_law_627 (lv_at hl 4 rfl) ?_
  refine lv_iconst (v := nI 2) hx hb d_law_629 (by decide) ?_
  refine xn_add hx hb d_law_630 ?_
  refine x_sld hx hb hX hbl hbA hS (k := i + 2) (by omega) (by omega) d_law_631 ?_
  refine lv_aload_n hx hb d_law_632 rfl (lv_at hl 0 rfl) ?_
  refine lv_iload hx hb d_law_633 (lv_at hl 4 rfl) ?_
  refine lv_iconst (v := nI 3) hx hb d_law_635 (by decide) ?_
  refine xn_add hx hb d_law_636 ?_
  refine x_sld hx hb hX hbl hbA hS (k := i + 3) (by omega) (by omega) d_law_637 ?_
  refine lv_aload_n hx hb d_law_638 rfl (lv_at hl 0 rfl) ?_
  refine lv_iload hx hb d_law_639 (lv_at hl 4 rfl) ?_
  refine lv_iconst (v := nI 4) hx hb d_law_641 (by decide) ?_
  refine xn_add hx hb d_law_642 ?_
  refine x_sld hx hb hX hbl hbA hS (k := i + 4) (by omega) (by omega) d_law_643 ?_
  refine xci (wc := [(h, .inr (1, [.int (nI d), .int kb, .ref fo, .ref ke, .ref ht, .ref wo, .ref fi, .ref se])), (fo, LA cJ 16 Fm), (fi, LA cJ 4 A1), (wo, LA cJ 16 Wk), (ht, .inr (0, [.int r0, .ref hc, .ref hf, .ref hp, .ref ho])), (hc, LA cJ 16 C), (hf, LA cJ 16 F), (hp, LA cJ 16 P), (ho, LA cJ 5 O)]) (wr := [(ke, LA cJ 16 Kp), (se, LA cJ 4 A2), (g, .inr (2, [.int cd, .int (nI d), .ref mm, .int kb, .ref kf, .ref tb, .int rw, .ref wk, .int ab, .int be, .ref pl, .ref sp, .int a0, .int a1, .int b0, .int b1, .ref po, .ref to, .ref ba, .ref li, .int lm])), (mm, IA cI 16 Fm), (kf, IA cI 16 Kp), (tb, LA cJ 16 T), (wk, LA cJ 20 W0), (pl, IA cI 24 plF), (sp, IA cI 40 spF), (po, LA cJ 4 P0), (to, LA cJ 4 Q0), (ba, LA cJ 12 Bs), (li, LA cJ 6 L0), (ou, LA cJ 1 Oz)]) hP hD hS hA [0, 1, 9, 8, 3, 4, 5, 6, 7] [2, 10, 11, 12, 13, 14, 15, 16, 17, 18, 19, 20, 21, 22] rfl rfl (by decide) (by decide) (va_runV (As := [.int (xs (i + 1)), .int (xs (i + 2)), .int (xs (i + 3)), .int (xs (i + 4))]) (rest := []) ⟨hx, hb, hml, hown, hts⟩ (k_section l D cJ h d kb fo ke ht wo fi se Fm A1 Wk hc hf hp ho r0 C F P O (xs (i + 1)) (xs (i + 2)) (xs (i + 3)) (xs (i + 4)) (by first | assumption | omega) (by first | assumption | omega) (by first | assumption | omega) H.size) (cwV 4 hts (gV tw_247 tw_248 tw_249 tw_1 tw_250) rfl rfl rfl ⟨rfl, hd_K_section⟩ ⟨Nat.le_of_ble_eq_true rfl, Nat.le_of_ble_eq_true rfl⟩) (xPreV (C := R_K) (T := F_K) (N := 8) (q0 := 0) hN hK1 (hP.sub (ws' := [(h, .inr (1, [.int (nI d), .int kb, .ref fo, .ref ke, .ref ht, .ref wo, .ref fi, .ref se])), (fo, LA cJ 16 Fm), (fi, LA cJ 4 A1), (wo, LA cJ 16 Wk), (ht, .inr (0, [.int r0, .ref hc, .ref hf, .ref hp, .ref ho])), (hc, LA cJ 16 C), (hf, LA cJ 16 F), (hp, LA cJ 16 P), (ho, LA cJ 5 O)]) [0, 1, 9, 8, 3, 4, 5, 6, 7] rfl) (hD.sub (ws' := [(h, .inr (1, [.int (nI d), .int kb, .ref fo, .ref ke, .ref ht, .ref wo, .ref fi, .ref se])), (fo, LA cJ 16 Fm), (fi, LA cJ 4 A1), (wo, LA cJ 16 Wk), (ht, .inr (0, [.int r0, .ref hc, .ref hf, .ref hp, .ref ho])), (hc, LA cJ 16 C), (hf, LA cJ 16 F), (hp, LA cJ 16 P), (ho, LA cJ 5 O)]) [0, 1, 9, 8, 3, 4, 5, 6, 7] (by decide) rfl) rfl rfl) rfl rfl hl.1 rfl (lv_room (Nat.le_of_ble_eq_true rfl)) d_law_644 ⟨hcl, hsl⟩) (fun r_1 u_2 H locs hw_3 hP hD hS => ?_)
  obtain ⟨B1_4, W2_5, r2_6, C2_7, F2_8, P2_9, O2_10⟩ := u_2
  try dsimp only at hw_3
  have hP : va_P D vwC [(h, .inr (1, [.int (nI d), .int kb, .ref fo, .ref ke, .ref ht, .ref wo, .ref fi, .ref se])), (fo, LA cJ 16 Fm), (ke, LA cJ 16 Kp), (ht, .inr (0, [.int r2_6, .ref hc, .ref hf, .ref hp, .ref ho])), (hc, LA cJ 16 C2_7), (hf, LA cJ 16 F2_8), (hp, LA cJ 16 P2_9), (ho, LA cJ 5 O2_10), (wo, LA cJ 16 W2_5), (fi, LA cJ 4 B1_4), (se, LA cJ 4 A2), (g, .inr (2, [.int cd, .int (nI d), .ref mm, .int kb, .ref kf, .ref tb, .int rw, .ref wk, .int ab, .int be, .ref pl, .ref sp, .int a0, .int a1, .int b0, .int b1, .ref po, .ref to, .ref ba, .ref li, .int lm])), (mm, IA cI 16 Fm), (kf, IA cI 16 Kp), (tb, LA cJ 16 T), (wk, LA cJ 20 W0), (pl, IA cI 24 plF), (sp, IA cI 40 spF), (po, LA cJ 4 P0), (to, LA cJ 4 Q0), (ba, LA cJ 12 Bs), (li, LA cJ 6 L0), (ou, LA cJ 1 Oz)] H := hP.sub [14, 15, 0, 18, 19, 20, 21, 22, 17, 16, 1, 2, 3, 4, 5, 6, 7, 8, 9, 10, 11, 12, 13] rfl
  have hD : va_D A [(h, .inr (1, [.int (nI d), .int kb, .ref fo, .ref ke, .ref ht, .ref wo, .ref fi, .ref se])), (fo, LA cJ 16 Fm), (ke, LA cJ 16 Kp), (ht, .inr (0, [.int r2_6, .ref hc, .ref hf, .ref hp, .ref ho])), (hc, LA cJ 16 C2_7), (hf, LA cJ 16 F2_8), (hp, LA cJ 16 P2_9), (ho, LA cJ 5 O2_10), (wo, LA cJ 16 W2_5), (fi, LA cJ 4 B1_4), (se, LA cJ 4 A2), (g, .inr (2, [.int cd, .int (nI d), .ref mm, .int kb, .ref kf, .ref tb, .int rw, .ref wk, .int ab, .int be, .ref pl, .ref sp, .int a0, .int a1, .int b0, .int b1, .ref po, .ref to, .ref ba, .ref li, .int lm])), (mm, IA cI 16 Fm), (kf, IA cI 16 Kp), (tb, LA cJ 16 T), (wk, LA cJ 20 W0), (pl, IA cI 24 plF), (sp, IA cI 40 spF), (po, LA cJ 4 P0), (to, LA cJ 4 Q0), (ba, LA cJ 12 Bs), (li, LA cJ 6 L0), (ou, LA cJ 1 Oz)] := hD.sub [14, 15, 0, 18, 19, 20, 21, 22, 17, 16, 1, 2, 3, 4, 5, 6, 7, 8, 9, 10, 11, 12, 13] (by decide) rfl
  subst hw_3
  refine lv_aload_n hx hb d_law_647 rfl (lv_at hl 2 rfl) ?_
  refine lv_aload_n hx hb d_law_648 rfl (lv_at hl 0 rfl) ?_
  refine lv_iload hx hb d_law_649 (lv_at hl 4 rfl) ?_
  refine lv_iconst (v := nI 1) hx hb d_law_651 (by decide) ?_
  refine xn_add hx hb d_law_652 ?_
  refine x_sld hx hb hX hbl hbA hS (k := i + 1) (by omega) (by omega) d_law_653 ?_
  refine lv_aload_n hx hb d_law_654 rfl (lv_at hl 0 rfl) ?_
  refine lv_iload hx hb d_law_655 (lv_at hl 4 rfl) ?_
  refine lv_iconst (v := nI 2) hx hb d_law_657 (by decide) ?_
  refine xn_add hx hb d_law_658 ?_
  refine x_sld hx hb hX hbl hbA hS (k := i + 2) (by omega) (by omega) d_law_659 ?_
  refine lv_aload_n hx hb d_law_660 rfl (lv_at hl 0 rfl) ?_
  refine lv_iload hx hb d_law_661 (lv_at hl 4 rfl) ?_
  refine lv_iconst (v := nI 3) hx hb d_law_663 (by decide) ?_
  refine xn_add hx hb d_law_664 ?_
  refine x_sld hx hb hX hbl hbA hS (k := i + 3) (by omega) (by omega) d_law_665 ?_
  refine lv_aload_n hx hb d_law_666 rfl (lv_at hl 0 rfl) ?_
  refine lv_iload hx hb d_law_667 (lv_at hl 4 rfl) ?_
  refine lv_iconst (v := nI 4) hx hb d_law_669 (by decide) ?_
  refine xn_add hx hb d_law_670 ?_
  refine x_sld hx hb hX hbl hbA hS (k := i + 4) (by omega) (by omega) d_law_671 ?_
  refine xci (wc := [(g, .inr (2, [.int cd, .int (nI d), .ref mm, .int kb, .ref kf, .ref tb, .int rw, .ref wk, .int ab, .int be, .ref pl, .ref sp, .int a0, .int a1, .int b0, .int b1, .ref po, .ref to, .ref ba, .ref li, .int lm])), (mm, IA cI 16 Fm), (tb, LA cJ 16 T), (wk, LA cJ 20 W0), (pl, IA cI 24 plF), (sp, IA cI 40 spF), (ba, LA cJ 12 Bs)]) (wr := [(h, .inr (1, [.int (nI d), .int kb, .ref fo, .ref ke, .ref ht, .ref wo, .ref fi, .ref se])), (fo, LA cJ 16 Fm), (ke, LA cJ 16 Kp), (ht, .inr (0, [.int r2_6, .ref hc, .ref hf, .ref hp, .ref ho])), (hc, LA cJ 16 C2_7), (hf, LA cJ 16 F2_8), (hp, LA cJ 16 P2_9), (ho, LA cJ 5 O2_10), (wo, LA cJ 16 W2_5), (fi, LA cJ 4 B1_4), (se, LA cJ 4 A2), (kf, IA cI 16 Kp), (po, LA cJ 4 P0), (to, LA cJ 4 Q0), (li, LA cJ 6 L0), (ou, LA cJ 1 Oz)]) hP hD hS hA [11, 12, 14, 15, 16, 17, 20] [0, 1, 2, 3, 4, 5, 6, 7, 8, 9, 10, 13, 18, 19, 21, 22] rfl rfl (by decide) (by decide) (va_runV (As := [.int (xs (i + 1)), .int (xs (i + 2)), .int (xs (i + 3)), .int (xs (i + 4))]) (rest := [.int (s_sec Fm d (xs (i + 1)).toInt (xs (i + 2)).toInt (xs (i + 3)).toInt (xs (i + 4)).toInt)]) ⟨hx, hb, hml, hown, hts⟩ (r_section l D cJ cI g cd d kb rw ab be a0 a1 b0 b1 lm mm kf tb wk pl sp po to ba li Fm T W0 Bs (xs (i + 1)) (xs (i + 2)) (xs (i + 3)) (xs (i + 4)) (by first | assumption | omega) (by first | assumption | omega) (by first | assumption | omega) H.size) (cwV 4 hts (gV tw_577 tw_578 tw_579 tw_3 tw_580) rfl rfl rfl ⟨rfl, hd_M_section⟩ ⟨Nat.le_of_ble_eq_true rfl, Nat.le_of_ble_eq_true rfl⟩) (xPreV (C := R_M) (T := F_M) (N := 21) (q0 := 0) hN hK (hP.sub (ws' := [(g, .inr (2, [.int cd, .int (nI d), .ref mm, .int kb, .ref kf, .ref tb, .int rw, .ref wk, .int ab, .int be, .ref pl, .ref sp, .int a0, .int a1, .int b0, .int b1, .ref po, .ref to, .ref ba, .ref li, .int lm])), (mm, IA cI 16 Fm), (tb, LA cJ 16 T), (wk, LA cJ 20 W0), (pl, IA cI 24 plF), (sp, IA cI 40 spF), (ba, LA cJ 12 Bs)]) [11, 12, 14, 15, 16, 17, 20] rfl) (hD.sub (ws' := [(g, .inr (2, [.int cd, .int (nI d), .ref mm, .int kb, .ref kf, .ref tb, .int rw, .ref wk, .int ab, .int be, .ref pl, .ref sp, .int a0, .int a1, .int b0, .int b1, .ref po, .ref to, .ref ba, .ref li, .int lm])), (mm, IA cI 16 Fm), (tb, LA cJ 16 T), (wk, LA cJ 20 W0), (pl, IA cI 24 plF), (sp, IA cI 40 spF), (ba, LA cJ 12 Bs)]) [11, 12, 14, 15, 16, 17, 20] (by decide) rfl) rfl rfl) rfl rfl hl.1 rfl (lv_room (Nat.le_of_ble_eq_true rfl)) d_law_672 ⟨hcl, hsl⟩) (fun r_11 u_12 H locs hw_13 hP hD hS => ?_)
  obtain ⟨rw2_14, ab2_15, be2_16, x02_17, x12_18, y02_19, y12_20, T2_21, W2_22, B2_23⟩ := u_12
  try dsimp only at hw_13
  have hP : va_P D vwC [(h, .inr (1, [.int (nI d), .int kb, .ref fo, .ref ke, .ref ht, .ref wo, .ref fi, .ref se])), (fo, LA cJ 16 Fm), (ke, LA cJ 16 Kp), (ht, .inr (0, [.int r2_6, .ref hc, .ref hf, .ref hp, .ref ho])), (hc, LA cJ 16 C2_7), (hf, LA cJ 16 F2_8), (hp, LA cJ 16 P2_9), (ho, LA cJ 5 O2_10), (wo, LA cJ 16 W2_5), (fi, LA cJ 4 B1_4), (se, LA cJ 4 A2), (g, .inr (2, [.int (nI 0), .int (nI d), .ref mm, .int kb, .ref kf, .ref tb, .int rw2_14, .ref wk, .int ab2_15, .int be2_16, .ref pl, .ref sp, .int x02_17, .int x12_18, .int y02_19, .int y12_20, .ref po, .ref to, .ref ba, .ref li, .int lm])), (mm, IA cI 16 Fm), (kf, IA cI 16 Kp), (tb, LA cJ 16 T2_21), (wk, LA cJ 20 W2_22), (pl, IA cI 24 plF), (sp, IA cI 40 spF), (po, LA cJ 4 P0), (to, LA cJ 4 Q0), (ba, LA cJ 12 B2_23), (li, LA cJ 6 L0), (ou, LA cJ 1 Oz)] H := hP.sub [0, 1, 2, 3, 4, 5, 6, 7, 8, 9, 10, 16, 17, 11, 18, 19, 20, 21, 12, 13, 22, 14, 15] rfl
  have hD : va_D A [(h, .inr (1, [.int (nI d), .int kb, .ref fo, .ref ke, .ref ht, .ref wo, .ref fi, .ref se])), (fo, LA cJ 16 Fm), (ke, LA cJ 16 Kp), (ht, .inr (0, [.int r2_6, .ref hc, .ref hf, .ref hp, .ref ho])), (hc, LA cJ 16 C2_7), (hf, LA cJ 16 F2_8), (hp, LA cJ 16 P2_9), (ho, LA cJ 5 O2_10), (wo, LA cJ 16 W2_5), (fi, LA cJ 4 B1_4), (se, LA cJ 4 A2), (g, .inr (2, [.int (nI 0), .int (nI d), .ref mm, .int kb, .ref kf, .ref tb, .int rw2_14, .ref wk, .int ab2_15, .int be2_16, .ref pl, .ref sp, .int x02_17, .int x12_18, .int y02_19, .int y12_20, .ref po, .ref to, .ref ba, .ref li, .int lm])), (mm, IA cI 16 Fm), (kf, IA cI 16 Kp), (tb, LA cJ 16 T2_21), (wk, LA cJ 20 W2_22), (pl, IA cI 24 plF), (sp, IA cI 40 spF), (po, LA cJ 4 P0), (to, LA cJ 4 Q0), (ba, LA cJ 12 B2_23), (li, LA cJ 6 L0), (ou, LA cJ 1 Oz)] := hD.sub [0, 1, 2, 3, 4, 5, 6, 7, 8, 9, 10, 16, 17, 11, 18, 19, 20, 21, 12, 13, 22, 14, 15] (by decide) rfl
  subst hw_13
  rw [show (s_seM Fm d (xs (i + 1)).toInt (xs (i + 2)).toInt (xs (i + 3)).toInt (xs (i + 4)).toInt) = (s_sec Fm d (xs (i + 1)).toInt (xs (i + 2)).toInt (xs (i + 3)).toInt (xs (i + 4)).toInt) from (sec_eq il_ok hd2 hd3 hsy _ _ _ _)]
  refine x_isame (tgt := 831) hx hb d_law_675 (by decide) ?_
  exact kk _ H locs ls ⟨d, kb, r2_6, nI 0, rw2_14, ab2_15, be2_16, x02_17, x12_18, y02_19, y12_20, lm, Fm, Kp, C2_7, F2_8, P2_9, O2_10, W2_5, B1_4, A2, T2_21, W2_22, P0, Q0, B2_23, L0, Oz, hok, hKb, rfl⟩ hP hD hS (lv_sub hl [0, 1, 2, 3, 4] rfl)
