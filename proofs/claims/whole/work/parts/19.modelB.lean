/-! contracts of ConicKindsModel: determinantOf (wip/spec_model2.py, modelB) -/

def rm_r_det : Room := { frames := 1, cells := 0, slots := 0, locals := 25 }
set_option maxHeartbeats 4000000 in
set_option maxRecDepth 100000 in
/-- a determinant -/
theorem r_det (l : Launch) (D : va_G) (cJ cI : ClassId) (g : Nat) (cd : Int32) (d : Nat) (ik : Int32) (rw : Int32) (ab : Int32) (be : Int32) (a0 : Int32) (a1 : Int32) (b0 : Int32) (b1 : Int32) (lm : Int32) (mm : Nat) (kf : Nat) (tb : Nat) (wk : Nat) (pl : Nat) (sp : Nat) (po : Nat) (to : Nat) (ba : Nat) (li : Nat) (W0 : Nat → Int) (n : Nat) (hn : n ≤ 4) (hB : ∀ i j, i < n → j < n → inB (W0 (5 * i + j)) (tabB n)) (sz : Nat) : xMl l y_M_determinantOf (Cond.code y_M_determinantOf b_M_determinantOf 10 (some .long) :: tW) rm_r_det [.ref g, .int (nI n)] D vwC [(cJ, .long), (cI, .int)] sz [(g, .inr (2, [.int cd, .int (nI d), .ref mm, .int ik, .ref kf, .ref tb, .int rw, .ref wk, .int ab, .int be, .ref pl, .ref sp, .int a0, .int a1, .int b0, .int b1, .ref po, .ref to, .ref ba, .ref li, .int lm])), (wk, LA cJ 20 W0)] (fun (rv : Int64) (uo : (Nat → Int)) => rv = lI (dt n (mat5 W0))) (fun (uo : (Nat → Int)) => [(g, .inr (2, [.int cd, .int (nI d), .ref mm, .int ik, .ref kf, .ref tb, .int rw, .ref wk, .int ab, .int be, .ref pl, .ref sp, .int a0, .int a1, .int b0, .int b1, .ref po, .ref to, .ref ba, .ref li, .int lm])), (wk, LA cJ 20 uo)]) 0 0 := by
  refine xol (cc := b_M_determinantOf) (maxL := 10) (by decide) rfl (Nat.le_of_ble_eq_true rfl) ?_
  intro p e s m args below meth c Q A hx hb hml hts hown hN hA hS hP hK hD hret ls hl
  have hl : lv_has ls 10 [(0, .ref g), (1, .int (nI n))] := hl
  obtain ⟨H, hH⟩ : ∃ z, z = s.heap := ⟨_, rfl⟩
  obtain ⟨locs, hlc⟩ : ∃ z : List Loc, z = [] := ⟨_, rfl⟩
  rw [← hH] at hP
  have hS : va_S A s.heap H locs := by rw [hH, hlc]; exact hS
  have key : W p l e rm_r_det s m args below meth c H locs 0 0 Q (F0 m 0 ls []) := by
    refine lv_lconst (v := lI 1) hx hb d_M_determinantOf_0 (by decide) ?_
    refine lv_lstore_n (lv' := [(2, .long (lI 1)), (0, .ref g), (1, .int (nI n))]) hx hb d_M_determinantOf_1 rfl hl (by decide) rfl (fun ls hl => ?_)
    refine lv_lconst (v := lI 1) hx hb d_M_determinantOf_2 (by decide) ?_
    refine lv_lstore (lv' := [(4, .long (lI 1)), (2, .long (lI 1)), (0, .ref g), (1, .int (nI n))]) hx hb d_M_determinantOf_3 hl (by decide) rfl (fun ls hl => ?_)
    refine lv_iconst (v := nI 0) hx hb d_M_determinantOf_5 (by decide) ?_
    refine lv_istore (lv' := [(6, .int (nI 0)), (4, .long (lI 1)), (2, .long (lI 1)), (0, .ref g), (1, .int (nI n))]) hx hb d_M_determinantOf_6 hl (by decide) rfl (fun ls hl => ?_)
    have lp_8 : ∀ (n_8 : Nat) (k : Nat) (W3 : Nat → Int) (Bm : Nat → Int) (sg : Int) (H : Heap) (locs : List Loc) (ls : Array Slot), (k ≤ n) → (sg = 1 ∨ sg = -1) → (sg * dt n Bm = dt n (mat5 W0)) → (enB Bm n (tabB n)) → (∀ i j, k ≤ i → i < n → k ≤ j → j < n → W3 (5 * i + j) = mnr Bm k i j) → (dt k Bm ≠ 0) → (1 ≤ k → W3 (6 * (k - 1)) = dt k Bm) → (n - k) < n_8 → va_P D vwC [(g, .inr (2, [.int cd, .int (nI d), .ref mm, .int ik, .ref kf, .ref tb, .int rw, .ref wk, .int ab, .int be, .ref pl, .ref sp, .int a0, .int a1, .int b0, .int b1, .ref po, .ref to, .ref ba, .ref li, .int lm])), (wk, LA cJ 20 W3)] H → va_D A [(g, .inr (2, [.int cd, .int (nI d), .ref mm, .int ik, .ref kf, .ref tb, .int rw, .ref wk, .int ab, .int be, .ref pl, .ref sp, .int a0, .int a1, .int b0, .int b1, .ref po, .ref to, .ref ba, .ref li, .int lm])), (wk, LA cJ 20 W3)] → va_S A s.heap H locs → lv_has ls 10 [(0, .ref g), (1, .int (nI n)), (2, .long (lI sg)), (4, .long (lI (dt k Bm))), (6, .int (nI k))] → W p l e rm_r_det s m args below meth c H locs 0 0 Q (F0 m 8 ls []) := by
      intro n_8
      induction n_8 with
      | zero => intro k W3 Bm sg H locs ls hk hsg hdet hBm hW hnz hla hn_8; exact absurd hn_8 (Nat.not_lt_zero _)
      | succ n_8 ih_8 =>
        intro k W3 Bm sg H locs ls hk hsg hdet hBm hW hnz hla hn_8 hP hD hS hl
        refine lv_iload hx hb d_M_determinantOf_8 (lv_at hl 4 rfl) ?_
        refine lv_iload_n hx hb d_M_determinantOf_10 rfl (lv_at hl 1 rfl) ?_
        refine xn_ge (tgt := 195) hx hb (by omega) (by omega) d_M_determinantOf_11 (by decide) (fun c11_0 => ?_) (fun c11_0 => ?_)
        · skip
          refine lv_iload_n hx hb d_M_determinantOf_195 rfl (lv_at hl 1 rfl) ?_
          refine xz_ne (tgt := 203) (X := (n : Nat)) hx hb (nI_toInt (by omega)) d_M_determinantOf_196 (by decide) (fun c196_1 => ?_) (fun c196_1 => ?_)
          · skip
            refine lv_lload_n hx hb d_M_determinantOf_203 rfl (lv_at hl 2 rfl) ?_
            refine lv_aload_n hx hb d_M_determinantOf_204 rfl (lv_at hl 0 rfl) ?_
            refine va_get (D := D) (ci := 2) (v := .ref wk) (C := R_M) (T := F_M) (N := 21) hx hb hts iw_M hown hK hP 0 rfl rfl 7 (by decide) (hts _ tw_394) (fun _ h9 => h9) rfl d_M_determinantOf_205 ?_
            refine lv_bipush (v := nI 6) hx hb d_M_determinantOf_208 (by decide) ?_
            refine lv_iload_n hx hb d_M_determinantOf_210 rfl (lv_at hl 1 rfl) ?_
            refine lv_iconst (v := nI 1) hx hb d_M_determinantOf_211 (by decide) ?_
            refine xn_sub hx hb (by omega) d_M_determinantOf_212 ?_
            refine xn_mul hx hb d_M_determinantOf_213 ?_
            refine xl_ald hx hb hK hP 1 0 rfl rfl (k := 6 * (n - 1)) (by omega) (by first | decide | omega) d_M_determinantOf_214 ?_
            refine xl_mul hx hb d_M_determinantOf_215 ?_
            exact hret H locs _ ls (lI (sg * (W3 (6 * (n - 1))))) W3 d_M_determinantOf_216 (by rw [← hdet, show n - 1 = k - 1 from by omega, hla (by omega), show k = n from by omega]) hP hD hS
          · skip
            refine lv_lconst (v := lI 1) hx hb d_M_determinantOf_199 (by decide) ?_
            refine lv_goto (tgt := 216) hx hb d_M_determinantOf_200 (by decide) ?_
            exact hret H locs _ ls (lI 1) W3 d_M_determinantOf_216 (by rw [show n = 0 from by omega]; rfl) hP hD hS
        · skip
          refine lv_iload hx hb d_M_determinantOf_14 (lv_at hl 4 rfl) ?_
          refine lv_istore (lv' := [(7, .int (nI k)), (0, .ref g), (1, .int (nI n)), (2, .long (lI sg)), (4, .long (lI (dt k Bm))), (6, .int (nI k))]) hx hb d_M_determinantOf_16 hl (by decide) rfl (fun ls hl => ?_)
          have lp_18 : ∀ (n_18 : Nat) (pp : Nat) (H : Heap) (locs : List Loc) (ls : Array Slot), (k ≤ pp) → (pp ≤ n) → (∀ i, k ≤ i → i < pp → W3 (5 * i + k) = 0) → (n - pp) < n_18 → va_P D vwC [(g, .inr (2, [.int cd, .int (nI d), .ref mm, .int ik, .ref kf, .ref tb, .int rw, .ref wk, .int ab, .int be, .ref pl, .ref sp, .int a0, .int a1, .int b0, .int b1, .ref po, .ref to, .ref ba, .ref li, .int lm])), (wk, LA cJ 20 W3)] H → va_D A [(g, .inr (2, [.int cd, .int (nI d), .ref mm, .int ik, .ref kf, .ref tb, .int rw, .ref wk, .int ab, .int be, .ref pl, .ref sp, .int a0, .int a1, .int b0, .int b1, .ref po, .ref to, .ref ba, .ref li, .int lm])), (wk, LA cJ 20 W3)] → va_S A s.heap H locs → lv_has ls 10 [(0, .ref g), (1, .int (nI n)), (2, .long (lI sg)), (4, .long (lI (dt k Bm))), (6, .int (nI k)), (7, .int (nI pp))] → W p l e rm_r_det s m args below meth c H locs 0 0 Q (F0 m 18 ls []) := by
            intro n_18
            induction n_18 with
            | zero => intro pp H locs ls hp1 hp2 hz hn_18; exact absurd hn_18 (Nat.not_lt_zero _)
            | succ n_18 ih_18 =>
              intro pp H locs ls hp1 hp2 hz hn_18 hP hD hS hl
              refine lv_iload hx hb d_M_determinantOf_18 (lv_at hl 5 rfl) ?_
              refine lv_iload_n hx hb d_M_determinantOf_20 rfl (lv_at hl 1 rfl) ?_
              refine xn_ge (tgt := 47) hx hb (by omega) (by omega) d_M_determinantOf_21 (by decide) (fun c21_2 => ?_) (fun c21_2 => ?_)
              · skip
                refine lv_iload hx hb d_M_determinantOf_47 (lv_at hl 5 rfl) ?_
                refine lv_iload_n hx hb d_M_determinantOf_49 rfl (lv_at hl 1 rfl) ?_
                refine xn_ne (tgt := 55) hx hb (by omega) (by omega) d_M_determinantOf_50 (by decide) (fun c50_3 => absurd c50_3 (by omega)) (fun c50_3 => ?_)
                refine lv_lconst (v := lI 0) hx hb d_M_determinantOf_53 (by decide) ?_
                exact hret H locs _ ls (lI 0) W3 d_M_determinantOf_54 (by rw [← hdet, dtz hn (show k < n by omega) hnz (fun i a b => by rw [← hW i k a b (Nat.le_refl _) (by omega)]; exact hz i a (by omega)), Int.mul_zero]) hP hD hS
              · skip
                refine lv_aload_n hx hb d_M_determinantOf_24 rfl (lv_at hl 0 rfl) ?_
                refine va_get (D := D) (ci := 2) (v := .ref wk) (C := R_M) (T := F_M) (N := 21) hx hb hts iw_M hown hK hP 0 rfl rfl 7 (by decide) (hts _ tw_394) (fun _ h9 => h9) rfl d_M_determinantOf_25 ?_
                refine lv_iconst (v := nI 5) hx hb d_M_determinantOf_28 (by decide) ?_
                refine lv_iload hx hb d_M_determinantOf_29 (lv_at hl 5 rfl) ?_
                refine xn_mul hx hb d_M_determinantOf_31 ?_
                refine lv_iload hx hb d_M_determinantOf_32 (lv_at hl 4 rfl) ?_
                refine xn_add hx hb d_M_determinantOf_34 ?_
                refine xl_ald hx hb hK hP 1 0 rfl rfl (k := (5 * pp) + k) (by omega) (by first | decide | omega) d_M_determinantOf_35 ?_
                refine lv_lconst (v := lI 0) hx hb d_M_determinantOf_36 (by decide) ?_
                refine xl_ne (tgt := 47) hx hb (by rw [hW pp k hp1 (by omega) (Nat.le_refl _) (by omega)]; exact lB_of (mnr_B hn hBm (by omega) (by omega) (by omega) hp1 (Nat.le_refl _)) (by decide)) ⟨by decide, by decide⟩ d_M_determinantOf_37 d_M_determinantOf_38 (by decide) (fun c38_4 => ?_) (fun c38_4 => ?_)
                · skip
                  refine lv_iload hx hb d_M_determinantOf_47 (lv_at hl 5 rfl) ?_
                  refine lv_iload_n hx hb d_M_determinantOf_49 rfl (lv_at hl 1 rfl) ?_
                  refine xn_ne (tgt := 55) hx hb (by omega) (by omega) d_M_determinantOf_50 (by decide) (fun c50_5 => ?_) (fun c50_5 => absurd c50_5 (by omega))
                  refine lv_iload hx hb d_M_determinantOf_55 (lv_at hl 5 rfl) ?_
                  refine lv_iload hx hb d_M_determinantOf_57 (lv_at hl 4 rfl) ?_
                  refine xn_le (tgt := 73) hx hb (by omega) (by omega) d_M_determinantOf_59 (by decide) (fun c59_6 => ?_) (fun c59_6 => ?_)
                  · skip
                    have lp_73 : ∀ (W4 : Nat → Int) (B4 : Nat → Int) (s4 : Int) (H : Heap) (locs : List Loc) (ls : Array Slot), (s4 = 1 ∨ s4 = -1) → (s4 * dt n B4 = dt n (mat5 W0)) → (enB B4 n (tabB n)) → (∀ i j, k ≤ i → i < n → k ≤ j → j < n → W4 (5 * i + j) = mnr B4 k i j) → (dt k B4 ≠ 0) → (1 ≤ k → W4 (6 * (k - 1)) = dt k B4) → (W4 (5 * k + k) ≠ 0) → va_P D vwC [(g, .inr (2, [.int cd, .int (nI d), .ref mm, .int ik, .ref kf, .ref tb, .int rw, .ref wk, .int ab, .int be, .ref pl, .ref sp, .int a0, .int a1, .int b0, .int b1, .ref po, .ref to, .ref ba, .ref li, .int lm])), (wk, LA cJ 20 W4)] H → va_D A [(g, .inr (2, [.int cd, .int (nI d), .ref mm, .int ik, .ref kf, .ref tb, .int rw, .ref wk, .int ab, .int be, .ref pl, .ref sp, .int a0, .int a1, .int b0, .int b1, .ref po, .ref to, .ref ba, .ref li, .int lm])), (wk, LA cJ 20 W4)] → va_S A s.heap H locs → lv_has ls 10 [(0, .ref g), (1, .int (nI n)), (2, .long (lI s4)), (4, .long (lI (dt k B4))), (6, .int (nI k))] → W p l e rm_r_det s m args below meth c H locs 0 0 Q (F0 m 73 ls []) := by
                      intro W4 B4 s4 H locs ls hs4 hd4 hb4 hw4 hn4 hl4 hp4 hP hD hS hl
                      refine lv_iload hx hb d_M_determinantOf_73 (lv_at hl 4 rfl) ?_
                      refine lv_iconst (v := nI 1) hx hb d_M_determinantOf_75 (by decide) ?_
                      refine xn_add hx hb d_M_determinantOf_76 ?_
                      refine lv_istore (lv' := [(8, .int (nI (k + 1))), (0, .ref g), (1, .int (nI n)), (2, .long (lI s4)), (4, .long (lI (dt k B4))), (6, .int (nI k))]) hx hb d_M_determinantOf_77 hl (by decide) rfl (fun ls hl => ?_)
                      have lp_79 : ∀ (n_79 : Nat) (i : Nat) (W6 : Nat → Int) (H : Heap) (locs : List Loc) (ls : Array Slot), (k + 1 ≤ i) → (i ≤ n) → (∀ a b, i ≤ a → a < n → k ≤ b → b < n → W6 (5 * a + b) = mnr B4 k a b) → (∀ a b, k + 1 ≤ a → a < i → k + 1 ≤ b → b < n → W6 (5 * a + b) = mnr B4 (k + 1) a b) → (∀ b, k ≤ b → b < n → W6 (5 * k + b) = mnr B4 k k b) → (n - i) < n_79 → va_P D vwC [(g, .inr (2, [.int cd, .int (nI d), .ref mm, .int ik, .ref kf, .ref tb, .int rw, .ref wk, .int ab, .int be, .ref pl, .ref sp, .int a0, .int a1, .int b0, .int b1, .ref po, .ref to, .ref ba, .ref li, .int lm])), (wk, LA cJ 20 W6)] H → va_D A [(g, .inr (2, [.int cd, .int (nI d), .ref mm, .int ik, .ref kf, .ref tb, .int rw, .ref wk, .int ab, .int be, .ref pl, .ref sp, .int a0, .int a1, .int b0, .int b1, .ref po, .ref to, .ref ba, .ref li, .int lm])), (wk, LA cJ 20 W6)] → va_S A s.heap H locs → lv_has ls 10 [(0, .ref g), (1, .int (nI n)), (2, .long (lI s4)), (4, .long (lI (dt k B4))), (6, .int (nI k)), (8, .int (nI i))] → W p l e rm_r_det s m args below meth c H locs 0 0 Q (F0 m 79 ls []) := by
                        intro n_79
                        induction n_79 with
                        | zero => intro i W6 H locs ls hi1 hi2 hro hdo hkr hn_79; exact absurd hn_79 (Nat.not_lt_zero _)
                        | succ n_79 ih_79 =>
                          intro i W6 H locs ls hi1 hi2 hro hdo hkr hn_79 hP hD hS hl
                          refine lv_iload hx hb d_M_determinantOf_79 (lv_at hl 5 rfl) ?_
                          refine lv_iload_n hx hb d_M_determinantOf_81 rfl (lv_at hl 1 rfl) ?_
                          refine xn_ge (tgt := 175) hx hb (by omega) (by omega) d_M_determinantOf_82 (by decide) (fun c82_7 => ?_) (fun c82_7 => ?_)
                          · skip
                            refine lv_aload_n hx hb d_M_determinantOf_175 rfl (lv_at hl 0 rfl) ?_
                            refine va_get (D := D) (ci := 2) (v := .ref wk) (C := R_M) (T := F_M) (N := 21) hx hb hts iw_M hown hK hP 0 rfl rfl 7 (by decide) (hts _ tw_394) (fun _ h9 => h9) rfl d_M_determinantOf_176 ?_
                            refine lv_iconst (v := nI 5) hx hb d_M_determinantOf_179 (by decide) ?_
                            refine lv_iload hx hb d_M_determinantOf_180 (lv_at hl 4 rfl) ?_
                            refine xn_mul hx hb d_M_determinantOf_182 ?_
                            refine lv_iload hx hb d_M_determinantOf_183 (lv_at hl 4 rfl) ?_
                            refine xn_add hx hb d_M_determinantOf_185 ?_
                            refine xl_ald hx hb hK hP 1 0 rfl rfl (k := (5 * k) + k) (by omega) (by first | decide | omega) d_M_determinantOf_186 ?_
                            have hdk : W6 (5 * k + k) = dt (k + 1) B4 := (hkr k (Nat.le_refl _) (by omega)).trans (mnr_kk B4 (by omega))
                            have hpv6 : W6 (5 * k + k) ≠ 0 := by rw [hkr k (Nat.le_refl _) (by omega), ← hw4 k k (Nat.le_refl _) (by omega) (Nat.le_refl _) (by omega)]; exact hp4
                            rw [hdk]
                            refine lv_lstore (lv' := [(4, .long (lI (dt (k + 1) B4))), (0, .ref g), (1, .int (nI n)), (2, .long (lI s4)), (6, .int (nI k)), (8, .int (nI i))]) hx hb d_M_determinantOf_187 hl (by decide) rfl (fun ls hl => ?_)
                            refine lv_iinc (v := nI (k + 1)) (lv' := [(6, .int (nI (k + 1))), (4, .long (lI (dt (k + 1) B4))), (0, .ref g), (1, .int (nI n)), (2, .long (lI s4)), (8, .int (nI i))]) hx hb d_M_determinantOf_189 hl (k := 4) rfl (nI_add _ _) (by decide) rfl (fun ls hl => ?_)
                            refine lv_goto (tgt := 8) hx hb d_M_determinantOf_192 (by decide) ?_
                            exact ih_8 (k + 1) W6 B4 s4 H locs ls (by omega) hs4 hd4 hb4 (fun a b ha ha2 hb2 hb3 => hdo a b ha (by omega) hb2 hb3) (by rw [← hdk]; exact hpv6) (fun _ => by rw [show 6 * (k + 1 - 1) = 5 * k + k from by omega]; exact hdk) (by omega) hP hD hS (lv_sub hl [2, 3, 4, 1, 0] rfl)
                          · skip
                            refine lv_iload_n hx hb d_M_determinantOf_85 rfl (lv_at hl 1 rfl) ?_
                            refine lv_iconst (v := nI 1) hx hb d_M_determinantOf_86 (by decide) ?_
                            refine lv_isub hx hb d_M_determinantOf_87 ?_
                            show W _ _ _ _ _ _ _ _ _ _ _ _ _ _ _ (F0 m _ ls [.int (dI n)])
                            refine lv_istore (lv' := [(9, .int (dI n)), (0, .ref g), (1, .int (nI n)), (2, .long (lI s4)), (4, .long (lI (dt k B4))), (6, .int (nI k)), (8, .int (nI i))]) hx hb d_M_determinantOf_88 hl (by decide) rfl (fun ls hl => ?_)
                            have lp_90 : ∀ (n_90 : Nat) (jj : Nat) (W7 : Nat → Int) (H : Heap) (locs : List Loc) (ls : Array Slot), (jj ≤ n) → (∀ b, jj ≤ b → b < n → k + 1 ≤ b → W7 (5 * i + b) = mnr B4 (k + 1) i b) → (∀ b, k ≤ b → b < jj → W7 (5 * i + b) = mnr B4 k i b) → (∀ a b, a < n → a ≠ i → b < n → W7 (5 * a + b) = W6 (5 * a + b)) → jj < n_90 → va_P D vwC [(g, .inr (2, [.int cd, .int (nI d), .ref mm, .int ik, .ref kf, .ref tb, .int rw, .ref wk, .int ab, .int be, .ref pl, .ref sp, .int a0, .int a1, .int b0, .int b1, .ref po, .ref to, .ref ba, .ref li, .int lm])), (wk, LA cJ 20 W7)] H → va_D A [(g, .inr (2, [.int cd, .int (nI d), .ref mm, .int ik, .ref kf, .ref tb, .int rw, .ref wk, .int ab, .int be, .ref pl, .ref sp, .int a0, .int a1, .int b0, .int b1, .ref po, .ref to, .ref ba, .ref li, .int lm])), (wk, LA cJ 20 W7)] → va_S A s.heap H locs → lv_has ls 10 [(0, .ref g), (1, .int (nI n)), (2, .long (lI s4)), (4, .long (lI (dt k B4))), (6, .int (nI k)), (8, .int (nI i)), (9, .int (dI jj))] → W p l e rm_r_det s m args below meth c H locs 0 0 Q (F0 m 90 ls []) := by
                              intro n_90
                              induction n_90 with
                              | zero => intro jj W7 H locs ls hj2 hdn hun hot hn_90; exact absurd hn_90 (Nat.not_lt_zero _)
                              | succ n_90 ih_90 =>
                                intro jj W7 H locs ls hj2 hdn hun hot hn_90 hP hD hS hl
                                refine lv_iload hx hb d_M_determinantOf_90 (lv_at hl 6 rfl) ?_
                                refine lv_iload hx hb d_M_determinantOf_92 (lv_at hl 4 rfl) ?_
                                refine xi_lt (tgt := 169) (X := (jj : Int) - 1) (Y := ((k : Nat) : Int)) hx hb (dI_toInt (by omega)) (nI_toInt (by omega)) d_M_determinantOf_94 (by decide) (fun c94 => ?_) (fun c94 => ?_)
                                · skip
                                  refine lv_iinc (v := nI (i + 1)) (lv' := [(8, .int (nI (i + 1))), (0, .ref g), (1, .int (nI n)), (2, .long (lI s4)), (4, .long (lI (dt k B4))), (6, .int (nI k)), (9, .int (dI jj))]) hx hb d_M_determinantOf_169 hl (k := 5) rfl (nI_add _ _) (by decide) rfl (fun ls hl => ?_)
                                  refine lv_goto (tgt := 79) hx hb d_M_determinantOf_172 (by decide) ?_
                                  exact ih_79 (i + 1) W7 H locs ls (by omega) (by omega) (fun a b ha ha2 hb2 hb3 => (hot a b ha2 (by omega) (by omega)).trans (hro a b (by omega) ha2 hb2 hb3)) (fun a b ha ha2 hb2 hb3 => by by_cases q : a = i; rw [q]; exact hdn b (by omega) hb3 hb2; exact (hot a b (by omega) q (by omega)).trans (hdo a b ha (by omega) hb2 hb3)) (fun b hb2 hb3 => (hot k b (by omega) (by omega) (by omega)).trans (hkr b hb2 hb3)) (by omega) hP hD hS (lv_sub hl [1, 2, 3, 4, 5, 0] rfl)
                                · skip
                                  obtain ⟨j, rfl⟩ : ∃ j, jj = j + 1 := ⟨jj - 1, by omega⟩
                                  rw [dI_succ] at hl
                                  have q1 := hun j (by omega) (by omega)
                                  have q2 := hun k (Nat.le_refl _) (by omega)
                                  have q3 : W7 (5 * k + k) = mnr B4 k k k := (hot k k (by omega) (by omega) (by omega)).trans (hkr k (Nat.le_refl _) (by omega))
                                  have q4 : W7 (5 * k + j) = mnr B4 k k j := (hot k j (by omega) (by omega) (by omega)).trans (hkr j (by omega) (by omega))
                                  have qs : W7 (5 * i + j) * W7 (5 * k + k) - W7 (5 * i + k) * W7 (5 * k + j) = dt k B4 * mnr B4 (k + 1) i j := by rw [q1, q2, q3, q4]; exact syl B4 (by omega) i j
                                  have qb : lB (W7 (5 * i + j) * W7 (5 * k + k) - W7 (5 * i + k) * W7 (5 * k + j)) := by rw [q1, q2, q3, q4]; exact lB_of (subB (mulB (mnr_B2 hn hb4 (by omega) (by omega) (by omega)) (mnr_B2 hn hb4 (by omega) (by omega) (by omega))) (mulB (mnr_B2 hn hb4 (by omega) (by omega) (by omega)) (mnr_B2 hn hb4 (by omega) (by omega) (by omega)))) (by decide)
                                  have qn : W7 (5 * i + j) * W7 (5 * k + k) - W7 (5 * i + k) * W7 (5 * k + j) ≠ -9223372036854775808 := by rw [q1, q2, q3, q4]; have z := subB (mulB (mnr_B2 hn hb4 (k := k) (i := i) (j := j) (by omega) (by omega) (by omega)) (mnr_B2 hn hb4 (k := k) (i := k) (j := k) (by omega) (by omega) (by omega))) (mulB (mnr_B2 hn hb4 (k := k) (i := i) (j := k) (by omega) (by omega) (by omega)) (mnr_B2 hn hb4 (k := k) (i := k) (j := j) (by omega) (by omega) (by omega))); unfold inB at z; omega
                                  have qv : (W7 (5 * i + j) * W7 (5 * k + k) - W7 (5 * i + k) * W7 (5 * k + j)).tdiv (dt k B4) = mnr B4 (k + 1) i j := by rw [qs]; exact Int.mul_tdiv_cancel_left _ hn4
                                  refine lv_aload_n hx hb d_M_determinantOf_97 rfl (lv_at hl 0 rfl) ?_
                                  refine va_get (D := D) (ci := 2) (v := .ref wk) (C := R_M) (T := F_M) (N := 21) hx hb hts iw_M hown hK hP 0 rfl rfl 7 (by decide) (hts _ tw_394) (fun _ h9 => h9) rfl d_M_determinantOf_98 ?_
                                  refine lv_iconst (v := nI 5) hx hb d_M_determinantOf_101 (by decide) ?_
                                  refine lv_iload hx hb d_M_determinantOf_102 (lv_at hl 5 rfl) ?_
                                  refine xn_mul hx hb d_M_determinantOf_104 ?_
                                  refine lv_iload hx hb d_M_determinantOf_105 (lv_at hl 6 rfl) ?_
                                  refine xn_add hx hb d_M_determinantOf_107 ?_
                                  refine lv_aload_n hx hb d_M_determinantOf_108 rfl (lv_at hl 0 rfl) ?_
                                  refine va_get (D := D) (ci := 2) (v := .ref wk) (C := R_M) (T := F_M) (N := 21) hx hb hts iw_M hown hK hP 0 rfl rfl 7 (by decide) (hts _ tw_394) (fun _ h9 => h9) rfl d_M_determinantOf_109 ?_
                                  refine lv_iconst (v := nI 5) hx hb d_M_determinantOf_112 (by decide) ?_
                                  refine lv_iload hx hb d_M_determinantOf_113 (lv_at hl 5 rfl) ?_
                                  refine xn_mul hx hb d_M_determinantOf_115 ?_
                                  refine lv_iload hx hb d_M_determinantOf_116 (lv_at hl 6 rfl) ?_
                                  refine xn_add hx hb d_M_determinantOf_118 ?_
                                  refine xl_ald hx hb hK hP 1 0 rfl rfl (k := (5 * i) + j) (by omega) (by first | decide | omega) d_M_determinantOf_119 ?_
                                  refine lv_aload_n hx hb d_M_determinantOf_120 rfl (lv_at hl 0 rfl) ?_
                                  refine va_get (D := D) (ci := 2) (v := .ref wk) (C := R_M) (T := F_M) (N := 21) hx hb hts iw_M hown hK hP 0 rfl rfl 7 (by decide) (hts _ tw_394) (fun _ h9 => h9) rfl d_M_determinantOf_121 ?_
                                  refine lv_iconst (v := nI 5) hx hb d_M_determinantOf_124 (by decide) ?_
                                  refine lv_iload hx hb d_M_determinantOf_125 (lv_at hl 4 rfl) ?_
                                  refine xn_mul hx hb d_M_determinantOf_127 ?_
                                  refine lv_iload hx hb d_M_determinantOf_128 (lv_at hl 4 rfl) ?_
                                  refine xn_add hx hb d_M_determinantOf_130 ?_
                                  refine xl_ald hx hb hK hP 1 0 rfl rfl (k := (5 * k) + k) (by omega) (by first | decide | omega) d_M_determinantOf_131 ?_
                                  refine xl_mul hx hb d_M_determinantOf_132 ?_
                                  refine lv_aload_n hx hb d_M_determinantOf_133 rfl (lv_at hl 0 rfl) ?_
                                  refine va_get (D := D) (ci := 2) (v := .ref wk) (C := R_M) (T := F_M) (N := 21) hx hb hts iw_M hown hK hP 0 rfl rfl 7 (by decide) (hts _ tw_394) (fun _ h9 => h9) rfl d_M_determinantOf_134 ?_
                                  refine lv_iconst (v := nI 5) hx hb d_M_determinantOf_137 (by decide) ?_
                                  refine lv_iload hx hb d_M_determinantOf_138 (lv_at hl 5 rfl) ?_
                                  refine xn_mul hx hb d_M_determinantOf_140 ?_
                                  refine lv_iload hx hb d_M_determinantOf_141 (lv_at hl 4 rfl) ?_
                                  refine xn_add hx hb d_M_determinantOf_143 ?_
                                  refine xl_ald hx hb hK hP 1 0 rfl rfl (k := (5 * i) + k) (by omega) (by first | decide | omega) d_M_determinantOf_144 ?_
                                  refine lv_aload_n hx hb d_M_determinantOf_145 rfl (lv_at hl 0 rfl) ?_
                                  refine va_get (D := D) (ci := 2) (v := .ref wk) (C := R_M) (T := F_M) (N := 21) hx hb hts iw_M hown hK hP 0 rfl rfl 7 (by decide) (hts _ tw_394) (fun _ h9 => h9) rfl d_M_determinantOf_146 ?_
                                  refine lv_iconst (v := nI 5) hx hb d_M_determinantOf_149 (by decide) ?_
                                  refine lv_iload hx hb d_M_determinantOf_150 (lv_at hl 4 rfl) ?_
                                  refine xn_mul hx hb d_M_determinantOf_152 ?_
                                  refine lv_iload hx hb d_M_determinantOf_153 (lv_at hl 6 rfl) ?_
                                  refine xn_add hx hb d_M_determinantOf_155 ?_
                                  refine xl_ald hx hb hK hP 1 0 rfl rfl (k := (5 * k) + j) (by omega) (by first | decide | omega) d_M_determinantOf_156 ?_
                                  refine xl_mul hx hb d_M_determinantOf_157 ?_
                                  refine xl_sub hx hb d_M_determinantOf_158 ?_
                                  refine lv_lload hx hb d_M_determinantOf_159 (lv_at hl 3 rfl) ?_
                                  refine xl_div hx hb qb (lB_of (dt_B hn hb4 (by omega)) (by decide)) hn4 (fun q => qn q.1) d_M_determinantOf_161 ?_
                                  refine xl_ast hx hb hK hP hD hS 1 0 rfl rfl (k := (5 * i) + j) (by omega) (by first | decide | omega) d_M_determinantOf_162 (fun H locs hP hD hS => ?_)
                                  have hP : va_P D vwC [(g, .inr (2, [.int cd, .int (nI d), .ref mm, .int ik, .ref kf, .ref tb, .int rw, .ref wk, .int ab, .int be, .ref pl, .ref sp, .int a0, .int a1, .int b0, .int b1, .ref po, .ref to, .ref ba, .ref li, .int lm])), (wk, LA cJ 20 (upZ W7 ((5 * i) + j) ((((W7 ((5 * i) + j)) * (W7 ((5 * k) + k))) - ((W7 ((5 * i) + k)) * (W7 ((5 * k) + j)))).tdiv (dt k B4))))] H := hP
                                  have hD : va_D A [(g, .inr (2, [.int cd, .int (nI d), .ref mm, .int ik, .ref kf, .ref tb, .int rw, .ref wk, .int ab, .int be, .ref pl, .ref sp, .int a0, .int a1, .int b0, .int b1, .ref po, .ref to, .ref ba, .ref li, .int lm])), (wk, LA cJ 20 (upZ W7 ((5 * i) + j) ((((W7 ((5 * i) + j)) * (W7 ((5 * k) + k))) - ((W7 ((5 * i) + k)) * (W7 ((5 * k) + j)))).tdiv (dt k B4))))] := hD
                                  refine lv_iinc (v := dI j) (lv' := [(9, .int (dI j)), (0, .ref g), (1, .int (nI n)), (2, .long (lI s4)), (4, .long (lI (dt k B4))), (6, .int (nI k)), (8, .int (nI i))]) hx hb d_M_determinantOf_163 hl (k := 6) rfl (dI_of _) (by decide) rfl (fun ls hl => ?_)
                                  refine lv_goto (tgt := 90) hx hb d_M_determinantOf_166 (by decide) ?_
                                  exact ih_90 j (upZ W7 ((5 * i) + j) ((((W7 ((5 * i) + j)) * (W7 ((5 * k) + k))) - ((W7 ((5 * i) + k)) * (W7 ((5 * k) + j)))).tdiv (dt k B4))) H locs ls (by omega) (fun b a c9 e9 => by by_cases q : b = j; rw [q, upZ_at]; exact qv; rw [upZ_ne (k := 5 * i + j) (j := 5 * i + b) _ _ (by omega)]; exact hdn b (by omega) c9 e9) (fun b a c9 => by rw [upZ_ne (k := 5 * i + j) (j := 5 * i + b) _ _ (by omega)]; exact hun b a (by omega)) (fun a b ha hai hb2 => by rw [upZ_ne (k := 5 * i + j) (j := 5 * a + b) _ _ (by omega)]; exact hot a b ha hai hb2) (by omega) hP hD hS (lv_sub hl [1, 2, 3, 4, 5, 6, 0] rfl)
                            exact lp_90 (n + 1) n W6 H locs ls (Nat.le_refl _) (fun b a c9 => absurd a (by omega)) (fun b a c9 => hro i b (Nat.le_refl _) (by omega) a c9) (fun a b _ _ _ => rfl) (by omega) hP hD hS (lv_sub hl [1, 2, 3, 4, 5, 6, 0] rfl)
                      exact lp_79 ((n - (k + 1)) + 1) (k + 1) W4 H locs ls (Nat.le_refl _) (by omega) (fun a b ha ha2 hb2 hb3 => hw4 a b (by omega) ha2 hb2 hb3) (fun a b ha ha2 => absurd ha2 (by omega)) (fun b hb2 hb3 => hw4 k b (Nat.le_refl _) (by omega) hb2 hb3) (by omega) hP hD hS (lv_sub hl [1, 2, 3, 4, 5, 0] rfl)
                    exact lp_73 W3 Bm sg H locs ls hsg hdet hBm hW hnz hla (by rw [show pp = k from by omega] at c38_4; exact c38_4) hP hD hS (lv_sub hl [0, 1, 2, 3, 4] rfl)
                  · skip
                    refine lv_aload_n hx hb d_M_determinantOf_62 rfl (lv_at hl 0 rfl) ?_
                    refine lv_iload hx hb d_M_determinantOf_63 (lv_at hl 5 rfl) ?_
                    refine lv_iload hx hb d_M_determinantOf_65 (lv_at hl 4 rfl) ?_
                    refine xcv (wc := [(g, .inr (2, [.int cd, .int (nI d), .ref mm, .int ik, .ref kf, .ref tb, .int rw, .ref wk, .int ab, .int be, .ref pl, .ref sp, .int a0, .int a1, .int b0, .int b1, .ref po, .ref to, .ref ba, .ref li, .int lm])), (wk, LA cJ 20 W3)]) (wr := []) hP hD hS hA [0, 1] [] rfl rfl (by decide) (by decide) (va_runV (As := [.int (nI pp), .int (nI k)]) (rest := []) ⟨hx, hb, hml, hown, hts⟩ (r_swap l D cJ cI g cd d ik rw ab be a0 a1 b0 b1 lm mm kf tb wk pl sp po to ba li W3 pp k (by first | assumption | omega) (by first | assumption | omega) H.size) (cwV 2 hts (gV tw_503 tw_505 tws_24 tw_3 tw_506) rfl rfl rfl ⟨rfl, hd_M_swapRows⟩ ⟨Nat.le_of_ble_eq_true rfl, Nat.le_of_ble_eq_true rfl⟩) (xPreV (C := R_M) (T := F_M) (N := 21) (q0 := 0) hN hK (hP.sub (ws' := [(g, .inr (2, [.int cd, .int (nI d), .ref mm, .int ik, .ref kf, .ref tb, .int rw, .ref wk, .int ab, .int be, .ref pl, .ref sp, .int a0, .int a1, .int b0, .int b1, .ref po, .ref to, .ref ba, .ref li, .int lm])), (wk, LA cJ 20 W3)]) [0, 1] rfl) (hD.sub (ws' := [(g, .inr (2, [.int cd, .int (nI d), .ref mm, .int ik, .ref kf, .ref tb, .int rw, .ref wk, .int ab, .int be, .ref pl, .ref sp, .int a0, .int a1, .int b0, .int b1, .ref po, .ref to, .ref ba, .ref li, .int lm])), (wk, LA cJ 20 W3)]) [0, 1] (by decide) rfl) rfl rfl) rfl rfl hl.1 rfl (lv_room (Nat.le_of_ble_eq_true rfl)) d_M_determinantOf_67 ⟨Nat.le_of_ble_eq_true rfl, Nat.le_of_ble_eq_true rfl⟩) (fun u_10 H locs hsw hP hD hS => ?_)
                    obtain ⟨W5, rfl⟩ : ∃ z, z = u_10 := ⟨_, rfl⟩
                    try dsimp only at hsw
                    have hP : va_P D vwC [(g, .inr (2, [.int cd, .int (nI d), .ref mm, .int ik, .ref kf, .ref tb, .int rw, .ref wk, .int ab, .int be, .ref pl, .ref sp, .int a0, .int a1, .int b0, .int b1, .ref po, .ref to, .ref ba, .ref li, .int lm])), (wk, LA cJ 20 W5)] H := hP
                    have hD : va_D A [(g, .inr (2, [.int cd, .int (nI d), .ref mm, .int ik, .ref kf, .ref tb, .int rw, .ref wk, .int ab, .int be, .ref pl, .ref sp, .int a0, .int a1, .int b0, .int b1, .ref po, .ref to, .ref ba, .ref li, .int lm])), (wk, LA cJ 20 W5)] := hD
                    refine lv_lload_n hx hb d_M_determinantOf_70 rfl (lv_at hl 2 rfl) ?_
                    refine xl_neg hx hb d_M_determinantOf_71 ?_
                    refine lv_lstore_n (lv' := [(2, .long (lI (-sg))), (0, .ref g), (1, .int (nI n)), (4, .long (lI (dt k Bm))), (6, .int (nI k)), (7, .int (nI pp))]) hx hb d_M_determinantOf_72 rfl hl (by decide) rfl (fun ls hl => ?_)
                    have lp_73 : ∀ (W4 : Nat → Int) (B4 : Nat → Int) (s4 : Int) (H : Heap) (locs : List Loc) (ls : Array Slot), (s4 = 1 ∨ s4 = -1) → (s4 * dt n B4 = dt n (mat5 W0)) → (enB B4 n (tabB n)) → (∀ i j, k ≤ i → i < n → k ≤ j → j < n → W4 (5 * i + j) = mnr B4 k i j) → (dt k B4 ≠ 0) → (1 ≤ k → W4 (6 * (k - 1)) = dt k B4) → (W4 (5 * k + k) ≠ 0) → va_P D vwC [(g, .inr (2, [.int cd, .int (nI d), .ref mm, .int ik, .ref kf, .ref tb, .int rw, .ref wk, .int ab, .int be, .ref pl, .ref sp, .int a0, .int a1, .int b0, .int b1, .ref po, .ref to, .ref ba, .ref li, .int lm])), (wk, LA cJ 20 W4)] H → va_D A [(g, .inr (2, [.int cd, .int (nI d), .ref mm, .int ik, .ref kf, .ref tb, .int rw, .ref wk, .int ab, .int be, .ref pl, .ref sp, .int a0, .int a1, .int b0, .int b1, .ref po, .ref to, .ref ba, .ref li, .int lm])), (wk, LA cJ 20 W4)] → va_S A s.heap H locs → lv_has ls 10 [(0, .ref g), (1, .int (nI n)), (2, .long (lI s4)), (4, .long (lI (dt k B4))), (6, .int (nI k))] → W p l e rm_r_det s m args below meth c H locs 0 0 Q (F0 m 73 ls []) := by
                      intro W4 B4 s4 H locs ls hs4 hd4 hb4 hw4 hn4 hl4 hp4 hP hD hS hl
                      refine lv_iload hx hb d_M_determinantOf_73 (lv_at hl 4 rfl) ?_
                      refine lv_iconst (v := nI 1) hx hb d_M_determinantOf_75 (by decide) ?_
                      refine xn_add hx hb d_M_determinantOf_76 ?_
                      refine lv_istore (lv' := [(8, .int (nI (k + 1))), (0, .ref g), (1, .int (nI n)), (2, .long (lI s4)), (4, .long (lI (dt k B4))), (6, .int (nI k))]) hx hb d_M_determinantOf_77 hl (by decide) rfl (fun ls hl => ?_)
                      have lp_79 : ∀ (n_79 : Nat) (i : Nat) (W6 : Nat → Int) (H : Heap) (locs : List Loc) (ls : Array Slot), (k + 1 ≤ i) → (i ≤ n) → (∀ a b, i ≤ a → a < n → k ≤ b → b < n → W6 (5 * a + b) = mnr B4 k a b) → (∀ a b, k + 1 ≤ a → a < i → k + 1 ≤ b → b < n → W6 (5 * a + b) = mnr B4 (k + 1) a b) → (∀ b, k ≤ b → b < n → W6 (5 * k + b) = mnr B4 k k b) → (n - i) < n_79 → va_P D vwC [(g, .inr (2, [.int cd, .int (nI d), .ref mm, .int ik, .ref kf, .ref tb, .int rw, .ref wk, .int ab, .int be, .ref pl, .ref sp, .int a0, .int a1, .int b0, .int b1, .ref po, .ref to, .ref ba, .ref li, .int lm])), (wk, LA cJ 20 W6)] H → va_D A [(g, .inr (2, [.int cd, .int (nI d), .ref mm, .int ik, .ref kf, .ref tb, .int rw, .ref wk, .int ab, .int be, .ref pl, .ref sp, .int a0, .int a1, .int b0, .int b1, .ref po, .ref to, .ref ba, .ref li, .int lm])), (wk, LA cJ 20 W6)] → va_S A s.heap H locs → lv_has ls 10 [(0, .ref g), (1, .int (nI n)), (2, .long (lI s4)), (4, .long (lI (dt k B4))), (6, .int (nI k)), (8, .int (nI i))] → W p l e rm_r_det s m args below meth c H locs 0 0 Q (F0 m 79 ls []) := by
                        intro n_79
                        induction n_79 with
                        | zero => intro i W6 H locs ls hi1 hi2 hro hdo hkr hn_79; exact absurd hn_79 (Nat.not_lt_zero _)
                        | succ n_79 ih_79 =>
                          intro i W6 H locs ls hi1 hi2 hro hdo hkr hn_79 hP hD hS hl
                          refine lv_iload hx hb d_M_determinantOf_79 (lv_at hl 5 rfl) ?_
                          refine lv_iload_n hx hb d_M_determinantOf_81 rfl (lv_at hl 1 rfl) ?_
                          refine xn_ge (tgt := 175) hx hb (by omega) (by omega) d_M_determinantOf_82 (by decide) (fun c82_10 => ?_) (fun c82_10 => ?_)
                          · skip
                            refine lv_aload_n hx hb d_M_determinantOf_175 rfl (lv_at hl 0 rfl) ?_
                            refine va_get (D := D) (ci := 2) (v := .ref wk) (C := R_M) (T := F_M) (N := 21) hx hb hts iw_M hown hK hP 0 rfl rfl 7 (by decide) (hts _ tw_394) (fun _ h9 => h9) rfl d_M_determinantOf_176 ?_
                            refine lv_iconst (v := nI 5) hx hb d_M_determinantOf_179 (by decide) ?_
                            refine lv_iload hx hb d_M_determinantOf_180 (lv_at hl 4 rfl) ?_
                            refine xn_mul hx hb d_M_determinantOf_182 ?_
                            refine lv_iload hx hb d_M_determinantOf_183 (lv_at hl 4 rfl) ?_
                            refine xn_add hx hb d_M_determinantOf_185 ?_
                            refine xl_ald hx hb hK hP 1 0 rfl rfl (k := (5 * k) + k) (by omega) (by first | decide | omega) d_M_determinantOf_186 ?_
                            have hdk : W6 (5 * k + k) = dt (k + 1) B4 := (hkr k (Nat.le_refl _) (by omega)).trans (mnr_kk B4 (by omega))
                            have hpv6 : W6 (5 * k + k) ≠ 0 := by rw [hkr k (Nat.le_refl _) (by omega), ← hw4 k k (Nat.le_refl _) (by omega) (Nat.le_refl _) (by omega)]; exact hp4
                            rw [hdk]
                            refine lv_lstore (lv' := [(4, .long (lI (dt (k + 1) B4))), (0, .ref g), (1, .int (nI n)), (2, .long (lI s4)), (6, .int (nI k)), (8, .int (nI i))]) hx hb d_M_determinantOf_187 hl (by decide) rfl (fun ls hl => ?_)
                            refine lv_iinc (v := nI (k + 1)) (lv' := [(6, .int (nI (k + 1))), (4, .long (lI (dt (k + 1) B4))), (0, .ref g), (1, .int (nI n)), (2, .long (lI s4)), (8, .int (nI i))]) hx hb d_M_determinantOf_189 hl (k := 4) rfl (nI_add _ _) (by decide) rfl (fun ls hl => ?_)
                            refine lv_goto (tgt := 8) hx hb d_M_determinantOf_192 (by decide) ?_
                            exact ih_8 (k + 1) W6 B4 s4 H locs ls (by omega) hs4 hd4 hb4 (fun a b ha ha2 hb2 hb3 => hdo a b ha (by omega) hb2 hb3) (by rw [← hdk]; exact hpv6) (fun _ => by rw [show 6 * (k + 1 - 1) = 5 * k + k from by omega]; exact hdk) (by omega) hP hD hS (lv_sub hl [2, 3, 4, 1, 0] rfl)
                          · skip
                            refine lv_iload_n hx hb d_M_determinantOf_85 rfl (lv_at hl 1 rfl) ?_
                            refine lv_iconst (v := nI 1) hx hb d_M_determinantOf_86 (by decide) ?_
                            refine lv_isub hx hb d_M_determinantOf_87 ?_
                            show W _ _ _ _ _ _ _ _ _ _ _ _ _ _ _ (F0 m _ ls [.int (dI n)])
                            refine lv_istore (lv' := [(9, .int (dI n)), (0, .ref g), (1, .int (nI n)), (2, .long (lI s4)), (4, .long (lI (dt k B4))), (6, .int (nI k)), (8, .int (nI i))]) hx hb d_M_determinantOf_88 hl (by decide) rfl (fun ls hl => ?_)
                            have lp_90 : ∀ (n_90 : Nat) (jj : Nat) (W7 : Nat → Int) (H : Heap) (locs : List Loc) (ls : Array Slot), (jj ≤ n) → (∀ b, jj ≤ b → b < n → k + 1 ≤ b → W7 (5 * i + b) = mnr B4 (k + 1) i b) → (∀ b, k ≤ b → b < jj → W7 (5 * i + b) = mnr B4 k i b) → (∀ a b, a < n → a ≠ i → b < n → W7 (5 * a + b) = W6 (5 * a + b)) → jj < n_90 → va_P D vwC [(g, .inr (2, [.int cd, .int (nI d), .ref mm, .int ik, .ref kf, .ref tb, .int rw, .ref wk, .int ab, .int be, .ref pl, .ref sp, .int a0, .int a1, .int b0, .int b1, .ref po, .ref to, .ref ba, .ref li, .int lm])), (wk, LA cJ 20 W7)] H → va_D A [(g, .inr (2, [.int cd, .int (nI d), .ref mm, .int ik, .ref kf, .ref tb, .int rw, .ref wk, .int ab, .int be, .ref pl, .ref sp, .int a0, .int a1, .int b0, .int b1, .ref po, .ref to, .ref ba, .ref li, .int lm])), (wk, LA cJ 20 W7)] → va_S A s.heap H locs → lv_has ls 10 [(0, .ref g), (1, .int (nI n)), (2, .long (lI s4)), (4, .long (lI (dt k B4))), (6, .int (nI k)), (8, .int (nI i)), (9, .int (dI jj))] → W p l e rm_r_det s m args below meth c H locs 0 0 Q (F0 m 90 ls []) := by
                              intro n_90
                              induction n_90 with
                              | zero => intro jj W7 H locs ls hj2 hdn hun hot hn_90; exact absurd hn_90 (Nat.not_lt_zero _)
                              | succ n_90 ih_90 =>
                                intro jj W7 H locs ls hj2 hdn hun hot hn_90 hP hD hS hl
                                refine lv_iload hx hb d_M_determinantOf_90 (lv_at hl 6 rfl) ?_
                                refine lv_iload hx hb d_M_determinantOf_92 (lv_at hl 4 rfl) ?_
                                refine xi_lt (tgt := 169) (X := (jj : Int) - 1) (Y := ((k : Nat) : Int)) hx hb (dI_toInt (by omega)) (nI_toInt (by omega)) d_M_determinantOf_94 (by decide) (fun c94 => ?_) (fun c94 => ?_)
                                · skip
                                  refine lv_iinc (v := nI (i + 1)) (lv' := [(8, .int (nI (i + 1))), (0, .ref g), (1, .int (nI n)), (2, .long (lI s4)), (4, .long (lI (dt k B4))), (6, .int (nI k)), (9, .int (dI jj))]) hx hb d_M_determinantOf_169 hl (k := 5) rfl (nI_add _ _) (by decide) rfl (fun ls hl => ?_)
                                  refine lv_goto (tgt := 79) hx hb d_M_determinantOf_172 (by decide) ?_
                                  exact ih_79 (i + 1) W7 H locs ls (by omega) (by omega) (fun a b ha ha2 hb2 hb3 => (hot a b ha2 (by omega) (by omega)).trans (hro a b (by omega) ha2 hb2 hb3)) (fun a b ha ha2 hb2 hb3 => by by_cases q : a = i; rw [q]; exact hdn b (by omega) hb3 hb2; exact (hot a b (by omega) q (by omega)).trans (hdo a b ha (by omega) hb2 hb3)) (fun b hb2 hb3 => (hot k b (by omega) (by omega) (by omega)).trans (hkr b hb2 hb3)) (by omega) hP hD hS (lv_sub hl [1, 2, 3, 4, 5, 0] rfl)
                                · skip
                                  obtain ⟨j, rfl⟩ : ∃ j, jj = j + 1 := ⟨jj - 1, by omega⟩
                                  rw [dI_succ] at hl
                                  have q1 := hun j (by omega) (by omega)
                                  have q2 := hun k (Nat.le_refl _) (by omega)
                                  have q3 : W7 (5 * k + k) = mnr B4 k k k := (hot k k (by omega) (by omega) (by omega)).trans (hkr k (Nat.le_refl _) (by omega))
                                  have q4 : W7 (5 * k + j) = mnr B4 k k j := (hot k j (by omega) (by omega) (by omega)).trans (hkr j (by omega) (by omega))
                                  have qs : W7 (5 * i + j) * W7 (5 * k + k) - W7 (5 * i + k) * W7 (5 * k + j) = dt k B4 * mnr B4 (k + 1) i j := by rw [q1, q2, q3, q4]; exact syl B4 (by omega) i j
                                  have qb : lB (W7 (5 * i + j) * W7 (5 * k + k) - W7 (5 * i + k) * W7 (5 * k + j)) := by rw [q1, q2, q3, q4]; exact lB_of (subB (mulB (mnr_B2 hn hb4 (by omega) (by omega) (by omega)) (mnr_B2 hn hb4 (by omega) (by omega) (by omega))) (mulB (mnr_B2 hn hb4 (by omega) (by omega) (by omega)) (mnr_B2 hn hb4 (by omega) (by omega) (by omega)))) (by decide)
                                  have qn : W7 (5 * i + j) * W7 (5 * k + k) - W7 (5 * i + k) * W7 (5 * k + j) ≠ -9223372036854775808 := by rw [q1, q2, q3, q4]; have z := subB (mulB (mnr_B2 hn hb4 (k := k) (i := i) (j := j) (by omega) (by omega) (by omega)) (mnr_B2 hn hb4 (k := k) (i := k) (j := k) (by omega) (by omega) (by omega))) (mulB (mnr_B2 hn hb4 (k := k) (i := i) (j := k) (by omega) (by omega) (by omega)) (mnr_B2 hn hb4 (k := k) (i := k) (j := j) (by omega) (by omega) (by omega))); unfold inB at z; omega
                                  have qv : (W7 (5 * i + j) * W7 (5 * k + k) - W7 (5 * i + k) * W7 (5 * k + j)).tdiv (dt k B4) = mnr B4 (k + 1) i j := by rw [qs]; exact Int.mul_tdiv_cancel_left _ hn4
                                  refine lv_aload_n hx hb d_M_determinantOf_97 rfl (lv_at hl 0 rfl) ?_
                                  refine va_get (D := D) (ci := 2) (v := .ref wk) (C := R_M) (T := F_M) (N := 21) hx hb hts iw_M hown hK hP 0 rfl rfl 7 (by decide) (hts _ tw_394) (fun _ h9 => h9) rfl d_M_determinantOf_98 ?_
                                  refine lv_iconst (v := nI 5) hx hb d_M_determinantOf_101 (by decide) ?_
                                  refine lv_iload hx hb d_M_determinantOf_102 (lv_at hl 5 rfl) ?_
                                  refine xn_mul hx hb d_M_determinantOf_104 ?_
                                  refine lv_iload hx hb d_M_determinantOf_105 (lv_at hl 6 rfl) ?_
                                  refine xn_add hx hb d_M_determinantOf_107 ?_
                                  refine lv_aload_n hx hb d_M_determinantOf_108 rfl (lv_at hl 0 rfl) ?_
                                  refine va_get (D := D) (ci := 2) (v := .ref wk) (C := R_M) (T := F_M) (N := 21) hx hb hts iw_M hown hK hP 0 rfl rfl 7 (by decide) (hts _ tw_394) (fun _ h9 => h9) rfl d_M_determinantOf_109 ?_
                                  refine lv_iconst (v := nI 5) hx hb d_M_determinantOf_112 (by decide) ?_
                                  refine lv_iload hx hb d_M_determinantOf_113 (lv_at hl 5 rfl) ?_
                                  refine xn_mul hx hb d_M_determinantOf_115 ?_
                                  refine lv_iload hx hb d_M_determinantOf_116 (lv_at hl 6 rfl) ?_
                                  refine xn_add hx hb d_M_determinantOf_118 ?_
                                  refine xl_ald hx hb hK hP 1 0 rfl rfl (k := (5 * i) + j) (by omega) (by first | decide | omega) d_M_determinantOf_119 ?_
                                  refine lv_aload_n hx hb d_M_determinantOf_120 rfl (lv_at hl 0 rfl) ?_
                                  refine va_get (D := D) (ci := 2) (v := .ref wk) (C := R_M) (T := F_M) (N := 21) hx hb hts iw_M hown hK hP 0 rfl rfl 7 (by decide) (hts _ tw_394) (fun _ h9 => h9) rfl d_M_determinantOf_121 ?_
                                  refine lv_iconst (v := nI 5) hx hb d_M_determinantOf_124 (by decide) ?_
                                  refine lv_iload hx hb d_M_determinantOf_125 (lv_at hl 4 rfl) ?_
                                  refine xn_mul hx hb d_M_determinantOf_127 ?_
                                  refine lv_iload hx hb d_M_determinantOf_128 (lv_at hl 4 rfl) ?_
                                  refine xn_add hx hb d_M_determinantOf_130 ?_
                                  refine xl_ald hx hb hK hP 1 0 rfl rfl (k := (5 * k) + k) (by omega) (by first | decide | omega) d_M_determinantOf_131 ?_
                                  refine xl_mul hx hb d_M_determinantOf_132 ?_
                                  refine lv_aload_n hx hb d_M_determinantOf_133 rfl (lv_at hl 0 rfl) ?_
                                  refine va_get (D := D) (ci := 2) (v := .ref wk) (C := R_M) (T := F_M) (N := 21) hx hb hts iw_M hown hK hP 0 rfl rfl 7 (by decide) (hts _ tw_394) (fun _ h9 => h9) rfl d_M_determinantOf_134 ?_
                                  refine lv_iconst (v := nI 5) hx hb d_M_determinantOf_137 (by decide) ?_
                                  refine lv_iload hx hb d_M_determinantOf_138 (lv_at hl 5 rfl) ?_
                                  refine xn_mul hx hb d_M_determinantOf_140 ?_
                                  refine lv_iload hx hb d_M_determinantOf_141 (lv_at hl 4 rfl) ?_
                                  refine xn_add hx hb d_M_determinantOf_143 ?_
                                  refine xl_ald hx hb hK hP 1 0 rfl rfl (k := (5 * i) + k) (by omega) (by first | decide | omega) d_M_determinantOf_144 ?_
                                  refine lv_aload_n hx hb d_M_determinantOf_145 rfl (lv_at hl 0 rfl) ?_
                                  refine va_get (D := D) (ci := 2) (v := .ref wk) (C := R_M) (T := F_M) (N := 21) hx hb hts iw_M hown hK hP 0 rfl rfl 7 (by decide) (hts _ tw_394) (fun _ h9 => h9) rfl d_M_determinantOf_146 ?_
                                  refine lv_iconst (v := nI 5) hx hb d_M_determinantOf_149 (by decide) ?_
                                  refine lv_iload hx hb d_M_determinantOf_150 (lv_at hl 4 rfl) ?_
                                  refine xn_mul hx hb d_M_determinantOf_152 ?_
                                  refine lv_iload hx hb d_M_determinantOf_153 (lv_at hl 6 rfl) ?_
                                  refine xn_add hx hb d_M_determinantOf_155 ?_
                                  refine xl_ald hx hb hK hP 1 0 rfl rfl (k := (5 * k) + j) (by omega) (by first | decide | omega) d_M_determinantOf_156 ?_
                                  refine xl_mul hx hb d_M_determinantOf_157 ?_
                                  refine xl_sub hx hb d_M_determinantOf_158 ?_
                                  refine lv_lload hx hb d_M_determinantOf_159 (lv_at hl 3 rfl) ?_
                                  refine xl_div hx hb qb (lB_of (dt_B hn hb4 (by omega)) (by decide)) hn4 (fun q => qn q.1) d_M_determinantOf_161 ?_
                                  refine xl_ast hx hb hK hP hD hS 1 0 rfl rfl (k := (5 * i) + j) (by omega) (by first | decide | omega) d_M_determinantOf_162 (fun H locs hP hD hS => ?_)
                                  have hP : va_P D vwC [(g, .inr (2, [.int cd, .int (nI d), .ref mm, .int ik, .ref kf, .ref tb, .int rw, .ref wk, .int ab, .int be, .ref pl, .ref sp, .int a0, .int a1, .int b0, .int b1, .ref po, .ref to, .ref ba, .ref li, .int lm])), (wk, LA cJ 20 (upZ W7 ((5 * i) + j) ((((W7 ((5 * i) + j)) * (W7 ((5 * k) + k))) - ((W7 ((5 * i) + k)) * (W7 ((5 * k) + j)))).tdiv (dt k B4))))] H := hP
                                  have hD : va_D A [(g, .inr (2, [.int cd, .int (nI d), .ref mm, .int ik, .ref kf, .ref tb, .int rw, .ref wk, .int ab, .int be, .ref pl, .ref sp, .int a0, .int a1, .int b0, .int b1, .ref po, .ref to, .ref ba, .ref li, .int lm])), (wk, LA cJ 20 (upZ W7 ((5 * i) + j) ((((W7 ((5 * i) + j)) * (W7 ((5 * k) + k))) - ((W7 ((5 * i) + k)) * (W7 ((5 * k) + j)))).tdiv (dt k B4))))] := hD
                                  refine lv_iinc (v := dI j) (lv' := [(9, .int (dI j)), (0, .ref g), (1, .int (nI n)), (2, .long (lI s4)), (4, .long (lI (dt k B4))), (6, .int (nI k)), (8, .int (nI i))]) hx hb d_M_determinantOf_163 hl (k := 6) rfl (dI_of _) (by decide) rfl (fun ls hl => ?_)
                                  refine lv_goto (tgt := 90) hx hb d_M_determinantOf_166 (by decide) ?_
                                  exact ih_90 j (upZ W7 ((5 * i) + j) ((((W7 ((5 * i) + j)) * (W7 ((5 * k) + k))) - ((W7 ((5 * i) + k)) * (W7 ((5 * k) + j)))).tdiv (dt k B4))) H locs ls (by omega) (fun b a c9 e9 => by by_cases q : b = j; rw [q, upZ_at]; exact qv; rw [upZ_ne (k := 5 * i + j) (j := 5 * i + b) _ _ (by omega)]; exact hdn b (by omega) c9 e9) (fun b a c9 => by rw [upZ_ne (k := 5 * i + j) (j := 5 * i + b) _ _ (by omega)]; exact hun b a (by omega)) (fun a b ha hai hb2 => by rw [upZ_ne (k := 5 * i + j) (j := 5 * a + b) _ _ (by omega)]; exact hot a b ha hai hb2) (by omega) hP hD hS (lv_sub hl [1, 2, 3, 4, 5, 6, 0] rfl)
                            exact lp_90 (n + 1) n W6 H locs ls (Nat.le_refl _) (fun b a c9 => absurd a (by omega)) (fun b a c9 => hro i b (Nat.le_refl _) (by omega) a c9) (fun a b _ _ _ => rfl) (by omega) hP hD hS (lv_sub hl [1, 2, 3, 4, 5, 6, 0] rfl)
                      exact lp_79 ((n - (k + 1)) + 1) (k + 1) W4 H locs ls (Nat.le_refl _) (by omega) (fun a b ha ha2 hb2 hb3 => hw4 a b (by omega) ha2 hb2 hb3) (fun a b ha ha2 => absurd ha2 (by omega)) (fun b hb2 hb3 => hw4 k b (Nat.le_refl _) (by omega) hb2 hb3) (by omega) hP hD hS (lv_sub hl [1, 2, 3, 4, 5, 0] rfl)
                    rw [show dt k Bm = dt k (swM Bm pp k) from (dt_lo (by omega) (by omega)).symm] at hl
                    exact lp_73 W5 (swM Bm pp k) (-sg) H locs ls (by omega) (by rw [dt_sw hn (by omega) (by omega), Int.neg_mul_neg]; exact hdet) (sw_enB hn (by omega) (by omega) hBm) (fun i j a b c9 e9 => by rw [hsw i j (by omega) (by omega), hW _ j (swp_ge (by omega) a) (swp_b (by omega) (by omega) b) c9 e9, mnr_sw (by omega) (by omega) (by omega)]) (by rw [dt_lo (by omega) (by omega)]; exact hnz) (fun q => by rw [dt_lo (by omega) (by omega), ← hla q, show 6 * (k - 1) = 5 * (k - 1) + (k - 1) from by omega, hsw (k - 1) (k - 1) (by omega) (by omega), swp_lt (by omega) (by omega)]) (by rw [hsw k k (by omega) (by omega), show swp pp k k = pp from by unfold swp; rw [if_neg (by omega), if_pos rfl]]; exact c38_4) hP hD hS (lv_sub hl [1, 2, 0, 3, 4] rfl)
                · skip
                  refine lv_iinc (v := nI (pp + 1)) (lv' := [(7, .int (nI (pp + 1))), (0, .ref g), (1, .int (nI n)), (2, .long (lI sg)), (4, .long (lI (dt k Bm))), (6, .int (nI k))]) hx hb d_M_determinantOf_41 hl (k := 5) rfl (nI_add _ _) (by decide) rfl (fun ls hl => ?_)
                  refine lv_goto (tgt := 18) hx hb d_M_determinantOf_44 (by decide) ?_
                  exact ih_18 (pp + 1) H locs ls (by omega) (by omega) (fun i a b => by by_cases q : i = pp; rw [q]; exact c38_4; exact hz i a (by omega)) (by omega) hP hD hS (lv_sub hl [1, 2, 3, 4, 5, 0] rfl)
          exact lp_18 ((n - k) + 1) k H locs ls (Nat.le_refl _) (by omega) (fun i a b => absurd a (by omega)) (by omega) hP hD hS (lv_sub hl [1, 2, 3, 4, 5, 0] rfl)
    exact lp_8 ((n - 0) + 1) 0 W0 (mat5 W0) 1 H locs ls (Nat.zero_le _) (Or.inl rfl) (Int.one_mul _) (fun a b ha hb2 => by rw [mat5_at W0 a (by omega)]; exact hB a b ha hb2) (fun i j _ hi _ hj => (mat5_at W0 i (by omega)).symm) (show (1 : Int) ≠ 0 by decide) (fun h => absurd h (by decide)) (by omega) hP hD hS (lv_sub hl [3, 4, 2, 1, 0] rfl)
  rw [hH, hlc] at key; exact key
