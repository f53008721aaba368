/-! a case of the law (wip/gen_law.py) -/
set_option maxHeartbeats 4000000 in
set_option maxRecDepth 100000 in
/-- put -/
theorem l_1 {p : Program} {l : Launch} {e : Env} {s : State} {m : MethodId} {below : List Frame} {meth : Method} {c : Code} {D : va_G} {cJ cI : ClassId} {A : Nat → Prop} {b L i cells slots : Nat} {xs : Nat → Int32} {Q : State → Prop} {h fo ke ht hc hf hp ho wo fi se g mm kf tb wk pl sp po to ba li ou : Nat} (hx : p.tables.exec = Jvm.exec) (hb : c.code = code) (hml : c.maxLocals = 8) (hown : s.vm.findClass R_L = some m.cls) (hts : ∀ w ∈ tW, w.before #[Value.ref b] s = true) (hX : va_X b L xs s s.heap) (hbl : b < s.heap.size) (hL : L ≤ 3584) (hi : i + 7 ≤ L) (hN : xN s) (hA : ∀ q, s.heap.size ≤ q → A q) (hbA : ¬ A b) (hK : va_K D vwC [(cJ, .long), (cI, .int)] s) (hcl : cells ≤ room_1.cells) (hsl : slots ≤ room_1.slots)
    (kk : ∀ (ws : va_W) (H : Heap) (locs : List Loc) (ls : Array Slot), lwS cJ cI h fo ke ht hc hf hp ho wo fi se g mm kf tb wk pl sp po to ba li ou ws → va_P D vwC ws H → va_D A ws → va_S A s.heap H locs → lv_has ls 8 [(0, .ref b), (1, .ref h), (2, .ref g), (3, .ref ou), (4, .int (nI i))] → W p l e room_1 s m #[Value.ref b] below meth c H locs cells slots Q (F0 m 831 ls []))
    (ws : va_W) (H : Heap) (locs : List Loc) (ls : Array Slot) (hw0 : lwS cJ cI h fo ke ht hc hf hp ho wo fi se g mm kf tb wk pl sp po to ba li ou ws) (hP : va_P D vwC ws H) (hD : va_D A ws) (hS : va_S A s.heap H locs) (hl : lv_has ls 8 [(0, .ref b), (1, .ref h), (2, .ref g), (3, .ref ou), (4, .int (nI i))]) : W p l e room_1 s m #[Value.ref b] below meth c H locs cells slots Q (F0 m 153 ls []) := by
  obtain ⟨d, kb, r0, cd, rw, ab, be, a0, a1, b0, b1, lm, Fm, Kp, C, F, P, O, Wk, A1, A2, T, W0, P0, Q0, Bs, L0, Oz, hok, hKb, rfl⟩ := hw0
  have hd2 := hok.1
  have hd3 := hok.2.1
  have hF := hok.2.2.1
  have hsy := hok.2.2.2
  have hK1 := hK.sub (tys' := [(cJ, .long)]) [0] rfl
  refine lv_aload_n hx hb d_law_153 rfl (lv_at hl 1 rfl) ?_
  refine lv_aload_n hx hb d_law_154 rfl (lv_at hl 0 rfl) ?_
  refine lv_iload hx hb d_law_155 (lv_at hl 4 rfl) ?_
  refine lv_iconst (v := nI 1) hx hb d_law_157 (by decide) ?_
  refine xn_add hx hb d_law_158 ?_
  refine x_sld hx hb hX hbl hbA hS (k := i + 1) (by omega) (by omega) d_law_159 ?_
  refine lv_aload_n hx hb d_law_160 rfl (lv_at hl 0 rfl) ?_
  refine lv_iload hx hb d_law_161 (lv_at hl 4 rfl) ?_
  refine lv_iconst (v := nI 2) hx hb d_law_163 (by decide) ?_
  refine xn_add hx hb d_law_164 ?_
  refine x_sld hx hb hX hbl hbA hS (k := i + 2) (by omega) (by omega) d_law_165 ?_
  refine lv_aload_n hx hb d_law_166 rfl (lv_at hl 0 rfl) ?_
  refine lv_iload hx hb d_law_167 (lv_at hl 4 rfl) ?_
  refine lv_iconst (v := nI 3) hx hb d_law_169 (by decide) ?_
  refine xn_add hx hb d_law_170 ?_
  refine x_sld hx hb hX hbl hbA hS (k := i + 3) (by omega) (by omega) d_law_171 ?_
  refine xcl (wc := [(h, .inr (1, [.int (nI d), .int kb, .ref fo, .ref ke, .ref ht, .ref wo, .ref fi, .ref se])), (fo, LA cJ 16 Fm)]) (wr := [(ke, LA cJ 16 Kp), (ht, .inr (0, [.int r0, .ref hc, .ref hf, .ref hp, .ref ho])), (hc, LA cJ 16 C), (hf, LA cJ 16 F), (hp, LA cJ 16 P), (ho, LA cJ 5 O), (wo, LA cJ 16 Wk), (fi, LA cJ 4 A1), (se, LA cJ 4 A2), (g, .inr (2, [.int cd, .int (nI d), .ref mm, .int kb, .ref kf, .ref tb, .int rw, .ref wk, .int ab, .int be, .ref pl, .ref sp, .int a0, .int a1, .int b0, .int b1, .ref po, .ref to, .ref ba, .ref li, .int lm])), (mm, IA cI 16 Fm), (kf, IA cI 16 Kp), (tb, LA cJ 16 T), (wk, LA cJ 20 W0), (pl, IA cI 24 plF), (sp, IA cI 40 spF), (po, LA cJ 4 P0), (to, LA cJ 4 Q0), (ba, LA cJ 12 Bs), (li, LA cJ 6 L0), (ou, LA cJ 1 Oz)]) hP hD hS hA [0, 1] [2, 3, 4, 5, 6, 7, 8, 9, 10, 11, 12, 13, 14, 15, 16, 17, 18, 19, 20, 21, 22] rfl rfl (by decide) (by decide) (va_runV (As := [.int (xs (i + 1)), .int (xs (i + 2)), .int (xs (i + 3))]) (rest := []) ⟨hx, hb, hml, hown, hts⟩ (k_put l D cJ h d kb fo ke ht wo fi se Fm (xs (i + 1)) (xs (i + 2)) (xs (i + 3)) (by first | assumption | omega) H.size) (cwV 3 hts (gV tw_74 tw_75 tw_76 tw_1 tw_77) rfl rfl rfl ⟨rfl, hd_K_put⟩ ⟨Nat.le_of_ble_eq_true rfl, Nat.le_of_ble_eq_true rfl⟩) (xPreV (C := R_K) (T := F_K) (N := 8) (q0 := 0) hN hK1 (hP.sub (ws' := [(h, .inr (1, [.int (nI d), .int kb, .ref fo, .ref ke, .ref ht, .ref wo, .ref fi, .ref se])), (fo, LA cJ 16 Fm)]) [0, 1] rfl) (hD.sub (ws' := [(h, .inr (1, [.int (nI d), .int kb, .ref fo, .ref ke, .ref ht, .ref wo, .ref fi, .ref se])), (fo, LA cJ 16 Fm)]) [0, 1] (by decide) rfl) rfl rfl) rfl rfl hl.1 rfl (lv_room (Nat.le_of_ble_eq_true rfl)) d_law_172 ⟨hcl, hsl⟩) (fun r_1 u_2 H locs hwc hP hD hS => ?_)
  obtain ⟨G2_3, rfl⟩ : ∃ z, z = u_2 := ⟨_, rfl⟩
  try dsimp only at hwc
  have hP : va_P D vwC [(h, .inr (1, [.int (nI d), .int kb, .ref fo, .ref ke, .ref ht, .ref wo, .ref fi, .ref se])), (fo, LA cJ 16 G2_3), (ke, LA cJ 16 Kp), (ht, .inr (0, [.int r0, .ref hc, .ref hf, .ref hp, .ref ho])), (hc, LA cJ 16 C), (hf, LA cJ 16 F), (hp, LA cJ 16 P), (ho, LA cJ 5 O), (wo, LA cJ 16 Wk), (fi, LA cJ 4 A1), (se, LA cJ 4 A2), (g, .inr (2, [.int cd, .int (nI d), .ref mm, .int kb, .ref kf, .ref tb, .int rw, .ref wk, .int ab, .int be, .ref pl, .ref sp, .int a0, .int a1, .int b0, .int b1, .ref po, .ref to, .ref ba, .ref li, .int lm])), (mm, IA cI 16 Fm), (kf, IA cI 16 Kp), (tb, LA cJ 16 T), (wk, LA cJ 20 W0), (pl, IA cI 24 plF), (sp, IA cI 40 spF), (po, LA cJ 4 P0), (to, LA cJ 4 Q0), (ba, LA cJ 12 Bs), (li, LA cJ 6 L0), (ou, LA cJ 1 Oz)] H := hP.sub [21, 22, 0, 1, 2, 3, 4, 5, 6, 7, 8, 9, 10, 11, 12, 13, 14, 15, 16, 17, 18, 19, 20] rfl
  have hD : va_D A [(h, .inr (1, [.int (nI d), .int kb, .ref fo, .ref ke, .ref ht, .ref wo, .ref fi, .ref se])), (fo, LA cJ 16 G2_3), (ke, LA cJ 16 Kp), (ht, .inr (0, [.int r0, .ref hc, .ref hf, .ref hp, .ref ho])), (hc, LA cJ 16 C), (hf, LA cJ 16 F), (hp, LA cJ 16 P), (ho, LA cJ 5 O), (wo, LA cJ 16 Wk), (fi, LA cJ 4 A1), (se, LA cJ 4 A2), (g, .inr (2, [.int cd, .int (nI d), .ref mm, .int kb, .ref kf, .ref tb, .int rw, .ref wk, .int ab, .int be, .ref pl, .ref sp, .int a0, .int a1, .int b0, .int b1, .ref po, .ref to, .ref ba, .ref li, .int lm])), (mm, IA cI 16 Fm), (kf, IA cI 16 Kp), (tb, LA cJ 16 T), (wk, LA cJ 20 W0), (pl, IA cI 24 plF), (sp, IA cI 40 spF), (po, LA cJ 4 P0), (to, LA cJ 4 Q0), (ba, LA cJ 12 Bs), (li, LA cJ 6 L0), (ou, LA cJ 1 Oz)] := hD.sub [21, 22, 0, 1, 2, 3, 4, 5, 6, 7, 8, 9, 10, 11, 12, 13, 14, 15, 16, 17, 18, 19, 20] (by decide) rfl
  obtain ⟨rfl, hwc⟩ := hwc
  refine lv_aload_n hx hb d_law_175 rfl (lv_at hl 2 rfl) ?_
  refine lv_aload_n hx hb d_law_176 rfl (lv_at hl 0 rfl) ?_
  refine lv_iload hx hb d_law_177 (lv_at hl 4 rfl) ?_
  refine lv_iconst (v := nI 1) hx hb d_law_179 (by decide) ?_
  refine xn_add hx hb d_law_180 ?_
  refine x_sld hx hb hX hbl hbA hS (k := i + 1) (by omega) (by omega) d_law_181 ?_
  refine lv_aload_n hx hb d_law_182 rfl (lv_at hl 0 rfl) ?_
  refine lv_iload hx hb d_law_183 (lv_at hl 4 rfl) ?_
  refine lv_iconst (v := nI 2) hx hb d_law_185 (by decide) ?_
  refine xn_add hx hb d_law_186 ?_
  refine x_sld hx hb hX hbl hbA hS (k := i + 2) (by omega) (by omega) d_law_187 ?_
  refine lv_aload_n hx hb d_law_188 rfl (lv_at hl 0 rfl) ?_
  refine lv_iload hx hb d_law_189 (lv_at hl 4 rfl) ?_
  refine lv_iconst (v := nI 3) hx hb d_law_191 (by decide) ?_
  refine xn_add hx hb d_law_192 ?_
  refine x_sld hx hb hX hbl hbA hS (k := i + 3) (by omega) (by omega) d_law_193 ?_
  refine xcl (wc := [(g, .inr (2, [.int cd, .int (nI d), .ref mm, .int kb, .ref kf, .ref tb, .int rw, .ref wk, .int ab, .int be, .ref pl, .ref sp, .int a0, .int a1, .int b0, .int b1, .ref po, .ref to, .ref ba, .ref li, .int lm])), (mm, IA cI 16 Fm)]) (wr := [(h, .inr (1, [.int (nI d), .int kb, .ref fo, .ref ke, .ref ht, .ref wo, .ref fi, .ref se])), (fo, LA cJ 16 G2_3), (ke, LA cJ 16 Kp), (ht, .inr (0, [.int r0, .ref hc, .ref hf, .ref hp, .ref ho])), (hc, LA cJ 16 C), (hf, LA cJ 16 F), (hp, LA cJ 16 P), (ho, LA cJ 5 O), (wo, LA cJ 16 Wk), (fi, LA cJ 4 A1), (se, LA cJ 4 A2), (kf, IA cI 16 Kp), (tb, LA cJ 16 T), (wk, LA cJ 20 W0), (pl, IA cI 24 plF), (sp, IA cI 40 spF), (po, LA cJ 4 P0), (to, LA cJ 4 Q0), (ba, LA cJ 12 Bs), (li, LA cJ 6 L0), (ou, LA cJ 1 Oz)]) hP hD hS hA [11, 12] [0, 1, 2, 3, 4, 5, 6, 7, 8, 9, 10, 13, 14, 15, 16, 17, 18, 19, 20, 21, 22] rfl rfl (by decide) (by decide) (va_runV (As := [.int (xs (i + 1)), .int (xs (i + 2)), .int (xs (i + 3))]) (rest := [.long (lI (s_put Fm d (xs (i + 1)).toInt (xs (i + 2)).toInt (xs (i + 3)).toInt))]) ⟨hx, hb, hml, hown, hts⟩ (r_put l D cJ cI g cd d kb rw ab be a0 a1 b0 b1 lm mm kf tb wk pl sp po to ba li Fm (xs (i + 1)) (xs (i + 2)) (xs (i + 3)) (by first | assumption | omega) (by first | assumption | omega) H.size) (cwV 3 hts (gV tw_460 tw_461 tw_462 tw_3 tw_463) rfl rfl rfl ⟨rfl, hd_M_put⟩ ⟨Nat.le_of_ble_eq_true rfl, Nat.le_of_ble_eq_true rfl⟩) (xPreV (C := R_M) (T := F_M) (N := 21) (q0 := 0) hN hK (hP.sub (ws' := [(g, .inr (2, [.int cd, .int (nI d), .ref mm, .int kb, .ref kf, .ref tb, .int rw, .ref wk, .int ab, .int be, .ref pl, .ref sp, .int a0, .int a1, .int b0, .int b1, .ref po, .ref to, .ref ba, .ref li, .int lm])), (mm, IA cI 16 Fm)]) [11, 12] rfl) (hD.sub (ws' := [(g, .inr (2, [.int cd, .int (nI d), .ref mm, .int kb, .ref kf, .ref tb, .int rw, .ref wk, .int ab, .int be, .ref pl, .ref sp, .int a0, .int a1, .int b0, .int b1, .ref po, .ref to, .ref ba, .ref li, .int lm])), (mm, IA cI 16 Fm)]) [11, 12] (by decide) rfl) rfl rfl) rfl rfl hl.1 rfl (lv_room (Nat.le_of_ble_eq_true rfl)) d_law_194 ⟨hcl, hsl⟩) (fun r_4 u_5 H locs hwm hP hD hS => ?_)
  obtain ⟨G2_6, rfl⟩ : ∃ z, z = u_5 := ⟨_, rfl⟩
  try dsimp only at hwm
  have hP : va_P D vwC [(h, .inr (1, [.int (nI d), .int kb, .ref fo, .ref ke, .ref ht, .ref wo, .ref fi, .ref se])), (fo, LA cJ 16 G2_3), (ke, LA cJ 16 Kp), (ht, .inr (0, [.int r0, .ref hc, .ref hf, .ref hp, .ref ho])), (hc, LA cJ 16 C), (hf, LA cJ 16 F), (hp, LA cJ 16 P), (ho, LA cJ 5 O), (wo, LA cJ 16 Wk), (fi, LA cJ 4 A1), (se, LA cJ 4 A2), (g, .inr (2, [.int (nI 0), .int (nI d), .ref mm, .int kb, .ref kf, .ref tb, .int rw, .ref wk, .int ab, .int be, .ref pl, .ref sp, .int a0, .int a1, .int b0, .int b1, .ref po, .ref to, .ref ba, .ref li, .int lm])), (mm, IA cI 16 G2_6), (kf, IA cI 16 Kp), (tb, LA cJ 16 T), (wk, LA cJ 20 W0), (pl, IA cI 24 plF), (sp, IA cI 40 spF), (po, LA cJ 4 P0), (to, LA cJ 4 Q0), (ba, LA cJ 12 Bs), (li, LA cJ 6 L0), (ou, LA cJ 1 Oz)] H := hP.sub [0, 1, 2, 3, 4, 5, 6, 7, 8, 9, 10, 21, 22, 11, 12, 13, 14, 15, 16, 17, 18, 19, 20] rfl
  have hD : va_D A [(h, .inr (1, [.int (nI d), .int kb, .ref fo, .ref ke, .ref ht, .ref wo, .ref fi, .ref se])), (fo, LA cJ 16 G2_3), (ke, LA cJ 16 Kp), (ht, .inr (0, [.int r0, .ref hc, .ref hf, .ref hp, .ref ho])), (hc, LA cJ 16 C), (hf, LA cJ 16 F), (hp, LA cJ 16 P), (ho, LA cJ 5 O), (wo, LA cJ 16 Wk), (fi, LA cJ 4 A1), (se, LA cJ 4 A2), (g, .inr (2, [.int (nI 0), .int (nI d), .ref mm, .int kb, .ref kf, .ref tb, .int rw, .ref wk, .int ab, .int be, .ref pl, .ref sp, .int a0, .int a1, .int b0, .int b1, .ref po, .ref to, .ref ba, .ref li, .int lm])), (mm, IA cI 16 G2_6), (kf, IA cI 16 Kp), (tb, LA cJ 16 T), (wk, LA cJ 20 W0), (pl, IA cI 24 plF), (sp, IA cI 40 spF), (po, LA cJ 4 P0), (to, LA cJ 4 Q0), (ba, LA cJ 12 Bs), (li, LA cJ 6 L0), (ou, LA cJ 1 Oz)] := hD.sub [0, 1, 2, 3, 4, 5, 6, 7, 8, 9, 10, 21, 22, 11, 12, 13, 14, 15, 16, 17, 18, 19, 20] (by decide) rfl
  obtain ⟨rfl, hwm⟩ := hwm
  refine x_lsame (tgt := 831) hx hb d_law_197 d_law_198 (by decide) ?_
  by_cases q : badP d (xs (i + 1)).toInt (xs (i + 2)).toInt (xs (i + 3)).toInt
  · rw [hwc.1 q] at hP hD
    rw [hwm.1 q] at hP hD
    exact kk _ H locs ls ⟨d, kb, r0, nI 0, rw, ab, be, a0, a1, b0, b1, lm, Fm, Kp, C, F, P, O, Wk, A1, A2, T, W0, P0, Q0, Bs, L0, Oz, hok, hKb, rfl⟩ hP hD hS (lv_sub hl [0, 1, 2, 3, 4] rfl)
  · rw [hwc.2 q] at hP hD
    rw [hwm.2 q] at hP hD
    exact kk _ H locs ls ⟨d, kb, r0, nI 0, rw, ab, be, a0, a1, b0, b1, lm, upZ (upZ Fm (4 * (xs (i + 1)).toInt.toNat + (xs (i + 2)).toInt.toNat) (xs (i + 3)).toInt) (4 * (xs (i + 2)).toInt.toNat + (xs (i + 1)).toInt.toNat) (xs (i + 3)).toInt, Kp, C, F, P, O, Wk, A1, A2, T, W0, P0, Q0, Bs, L0, Oz, (ok_put hok q), hKb, rfl⟩ hP hD hS (lv_sub hl [0, 1, 2, 3, 4] rfl)
