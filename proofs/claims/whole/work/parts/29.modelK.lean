/-! contracts of ConicKindsModel: findLines, isSecondFirst, line (wip/spec_model11.py, modelK) -/
theorem l0_of {L : Nat → Int} {G : Nat → Int} (h : ∀ i, i < 3 → L (3 * 0 + i) = woN G 3 i) : ∀ i, i < 3 → L i = woN G 3 i := by
  intro i hi
  have a := h i hi
  rw [show 3 * 0 + i = i by omega] at a
  exact a
theorem row9_is {Fm : Nat → Int} {ii : Nat} (h : ii = if Fm 5 ≠ 0 then 1 else 2) : ∀ k, k < 3 → ptR 2 (Fm (4 * ii)) (Fm (4 * ii + 1)) (Fm (4 * ii + 2)) 0 k = row9 Fm k := by
  intro k hk
  unfold row9
  rw [← h]
  match k, hk with
  | 0, _ => rfl
  | 1, _ => rfl
  | 2, _ => rfl
def lexF (L : Nat → Int) : Prop := lexB (fun i => L (3 + i)) L
/-- what the reference's line answers -/
def s_lnM (Fm : Nat → Int) (d : Nat) (k i r : Int) : Prop := (¬ (d = 2 ∧ 0 ≤ i ∧ i ≤ 2) → r = NOZ) ∧ (d = 2 ∧ 0 ≤ i ∧ i ≤ 2 → ∃ (lm : Nat) (L : Nat → Int), flP Fm (kndM Fm d).toInt lm L ∧ (¬ (0 ≤ k ∧ k < lm) → r = NOZ) ∧ (0 ≤ k ∧ k < lm → (lm = 2 ∧ lexF L → r = L (3 * (1 - k.toNat) + i.toNat)) ∧ (¬ (lm = 2 ∧ lexF L) → r = L (3 * k.toNat + i.toNat))))
theorem lm_sub {lm : Nat} (h : lm ≤ 2) : (nI lm - nI 1).toInt = (lm : Int) - 1 := by
  match lm, h with
  | 0, _ => rfl
  | 1, _ => rfl
  | 2, _ => rfl
theorem f2_lm {Fm : Nat → Int} {cr lm : Nat} {L : Nat → Int} (h : f2P Fm cr lm L) : lm = 0 ∨ lm = 2 := by
  by_cases q : cr = 0
  · obtain ⟨w, _, h1, h2⟩ := h.1 q
    by_cases z : w < 0
    · exact Or.inl (h1 z)
    · exact Or.inr (h2 (by omega)).1
  · obtain ⟨w, _, h1, h2⟩ := h.2 q
    by_cases z : w < 0
    · exact Or.inl (h1 z)
    · exact Or.inr (h2 (by omega)).1

def rm_r_findLines : Room := { frames := 4, cells := 0, slots := 0, locals := 117 }
set_option maxHeartbeats 4000000 in
set_option maxRecDepth 100000 in
/-- all lines -/
theorem r_findLines (l : Launch) (D : va_G) (cJ cI : ClassId) (g : Nat) (cd : Int32) (d : Nat) (ik : Int32) (rw : Int32) (ab : Int32) (be : Int32) (a0 : Int32) (a1 : Int32) (b0 : Int32) (b1 : Int32) (lm : Int32) (mm : Nat) (kf : Nat) (tb : Nat) (wk : Nat) (pl : Nat) (sp : Nat) (po : Nat) (to : Nat) (ba : Nat) (li : Nat) (Fm : Nat → Int) (Q0 : Nat → Int) (L0 : Nat → Int) (kv : Int32) (hF : ∀ k, k < 16 → inB (Fm k) 20) (sz : Nat) : xMv l y_M_findLines (Cond.code y_M_findLines b_M_findLines 3 none :: tW) rm_r_findLines [.ref g, .int kv] D vwC [(cJ, .long), (cI, .int)] sz [(g, .inr (2, [.int cd, .int (nI d), .ref mm, .int ik, .ref kf, .ref tb, .int rw, .ref wk, .int ab, .int be, .ref pl, .ref sp, .int a0, .int a1, .int b0, .int b1, .ref po, .ref to, .ref ba, .ref li, .int lm])), (mm, IA cI 16 Fm), (to, LA cJ 4 Q0), (li, LA cJ 6 L0)] (fun (uo : Nat × (Nat → Int) × (Nat → Int)) => flP Fm kv.toInt uo.1 uo.2.2 ∧ uo.1 ≤ 2 ∧ (uo.1 = 2 → ∀ k, k < 6 → lB (uo.2.2 k))) (fun (uo : Nat × (Nat → Int) × (Nat → Int)) => [(g, .inr (2, [.int cd, .int (nI d), .ref mm, .int ik, .ref kf, .ref tb, .int rw, .ref wk, .int ab, .int be, .ref pl, .ref sp, .int a0, .int a1, .int b0, .int b1, .ref po, .ref to, .ref ba, .ref li, .int (nI uo.1)])), (mm, IA cI 16 Fm), (to, LA cJ 4 uo.2.1), (li, LA cJ 6 uo.2.2)]) 0 0 := by
  refine xov (cc := b_M_findLines) (maxL := 3) (by decide) rfl (Nat.le_of_ble_eq_true rfl) ?_
  intro p e s m args below meth c Q A hx hb hml hts hown hN hA hS hP hK hD hret ls hl
  have hl : lv_has ls 3 [(0, .ref g), (1, .int kv)] := hl
  obtain ⟨H, hH⟩ : ∃ z, z = s.heap := ⟨_, rfl⟩
  obtain ⟨locs, hlc⟩ : ∃ z : List Loc, z = [] := ⟨_, rfl⟩
  rw [← hH] at hP
  have hS : va_S A s.heap H locs := by rw [hH, hlc]; exact hS
  have key : W p l e rm_r_findLines s m args below meth c H locs 0 0 Q (F0 m 0 ls []) := by
    refine lv_aload_n hx hb d_M_findLines_0 rfl (lv_at hl 0 rfl) ?_
    refine lv_iconst (v := nI 0) hx hb d_M_findLines_1 (by decide) ?_
    refine va_put (D := D) (ci := 2) (v := .int (nI 0)) (ty := .int) (C := R_M) (T := F_M) (N := 21) hx hb hts iw_M ft_M ft_M_ok n_M hown hK hP hD hS 0 rfl rfl 20 (by decide) (hts _ tw_407) (fun _ h9 => h9) rfl (by decide +kernel) rfl rfl (Nat.le_of_ble_eq_true rfl) d_M_findLines_2 (fun H locs hP hD hS => ?_)
    have hP : va_P D vwC [(g, .inr (2, [.int cd, .int (nI d), .ref mm, .int ik, .ref kf, .ref tb, .int rw, .ref wk, .int ab, .int be, .ref pl, .ref sp, .int a0, .int a1, .int b0, .int b1, .ref po, .ref to, .ref ba, .ref li, .int (nI 0)])), (mm, IA cI 16 Fm), (to, LA cJ 4 Q0), (li, LA cJ 6 L0)] H := hP
    have hD : va_D A [(g, .inr (2, [.int cd, .int (nI d), .ref mm, .int ik, .ref kf, .ref tb, .int rw, .ref wk, .int ab, .int be, .ref pl, .ref sp, .int a0, .int a1, .int b0, .int b1, .ref po, .ref to, .ref ba, .ref li, .int (nI 0)])), (mm, IA cI 16 Fm), (to, LA cJ 4 Q0), (li, LA cJ 6 L0)] := hD
    refine lv_iload_n hx hb d_M_findLines_5 rfl (lv_at hl 1 rfl) ?_
    refine lv_bipush (v := nI 7) hx hb d_M_findLines_6 (by decide) ?_
    refine xi_ne (tgt := 53) (X := kv.toInt) (Y := (7 : Nat)) hx hb rfl (nI_toInt (by omega)) d_M_findLines_8 (by decide) (fun c8_0 => ?_) (fun c8_0 => ?_)
    · skip
      refine lv_iload_n hx hb d_M_findLines_53 rfl (lv_at hl 1 rfl) ?_
      refine lv_bipush (v := nI 9) hx hb d_M_findLines_54 (by decide) ?_
      refine xi_ne (tgt := 118) (X := kv.toInt) (Y := (9 : Nat)) hx hb rfl (nI_toInt (by omega)) d_M_findLines_56 (by decide) (fun c56_1 => ?_) (fun c56_1 => ?_)
      · skip
        refine lv_iload_n hx hb d_M_findLines_118 rfl (lv_at hl 1 rfl) ?_
        refine lv_iconst (v := nI 5) hx hb d_M_findLines_119 (by decide) ?_
        refine xi_eq (tgt := 129) (X := kv.toInt) (Y := (5 : Nat)) hx hb rfl (nI_toInt (by omega)) d_M_findLines_120 (by decide) (fun c120_2 => ?_) (fun c120_2 => ?_)
        · skip
          refine lv_aload_n hx hb d_M_findLines_129 rfl (lv_at hl 0 rfl) ?_
          refine lv_iload_n hx hb d_M_findLines_130 rfl (lv_at hl 1 rfl) ?_
          refine lv_iconst (v := nI 5) hx hb d_M_findLines_131 (by decide) ?_
          refine xi_ne (tgt := 139) (X := kv.toInt) (Y := (5 : Nat)) hx hb rfl (nI_toInt (by omega)) d_M_findLines_132 (by decide) (fun c132_3 => absurd c132_3 (by omega)) (fun c132_3 => ?_)
          refine lv_iconst (v := nI 1) hx hb d_M_findLines_135 (by decide) ?_
          refine lv_goto (tgt := 140) hx hb d_M_findLines_136 (by decide) ?_
          refine xcv (wc := [(g, .inr (2, [.int cd, .int (nI d), .ref mm, .int ik, .ref kf, .ref tb, .int rw, .ref wk, .int ab, .int be, .ref pl, .ref sp, .int a0, .int a1, .int b0, .int b1, .ref po, .ref to, .ref ba, .ref li, .int (nI 0)])), (mm, IA cI 16 Fm), (to, LA cJ 4 Q0), (li, LA cJ 6 L0)]) (wr := []) hP hD hS hA [0, 1, 2, 3] [] rfl rfl (by decide) (by decide) (va_runV (As := [.int (nI 1)]) (rest := []) ⟨hx, hb, hml, hown, hts⟩ (r_findTwo l D cJ cI g cd d ik rw ab be a0 a1 b0 b1 (nI 0) mm kf tb wk pl sp po to ba li Fm Q0 L0 1 (by first | assumption | omega) (by decide) H.size) (cwV 1 hts (gV tw_610 tw_612 tws_35 tw_3 tw_613) rfl rfl rfl ⟨rfl, hd_M_findTwo⟩ ⟨Nat.le_of_ble_eq_true rfl, Nat.le_of_ble_eq_true rfl⟩) (xPreV (C := R_M) (T := F_M) (N := 21) (q0 := 0) hN hK (hP.sub (ws' := [(g, .inr (2, [.int cd, .int (nI d), .ref mm, .int ik, .ref kf, .ref tb, .int rw, .ref wk, .int ab, .int be, .ref pl, .ref sp, .int a0, .int a1, .int b0, .int b1, .ref po, .ref to, .ref ba, .ref li, .int (nI 0)])), (mm, IA cI 16 Fm), (to, LA cJ 4 Q0), (li, LA cJ 6 L0)]) [0, 1, 2, 3] rfl) (hD.sub (ws' := [(g, .inr (2, [.int cd, .int (nI d), .ref mm, .int ik, .ref kf, .ref tb, .int rw, .ref wk, .int ab, .int be, .ref pl, .ref sp, .int a0, .int a1, .int b0, .int b1, .ref po, .ref to, .ref ba, .ref li, .int (nI 0)])), (mm, IA cI 16 Fm), (to, LA cJ 4 Q0), (li, LA cJ 6 L0)]) [0, 1, 2, 3] (by decide) rfl) rfl rfl) rfl rfl hl.1 rfl (lv_room (Nat.le_of_ble_eq_true rfl)) d_M_findLines_140 ⟨Nat.le_of_ble_eq_true rfl, Nat.le_of_ble_eq_true rfl⟩) (fun u_6 H locs hs1 hP hD hS => ?_)
          obtain ⟨lm2_7, Q2_8, L2_9⟩ := u_6
          try dsimp only at hs1
          have hP : va_P D vwC [(g, .inr (2, [.int cd, .int (nI d), .ref mm, .int ik, .ref kf, .ref tb, .int rw, .ref wk, .int ab, .int be, .ref pl, .ref sp, .int a0, .int a1, .int b0, .int b1, .ref po, .ref to, .ref ba, .ref li, .int (nI lm2_7)])), (mm, IA cI 16 Fm), (to, LA cJ 4 Q2_8), (li, LA cJ 6 L2_9)] H := hP
          have hD : va_D A [(g, .inr (2, [.int cd, .int (nI d), .ref mm, .int ik, .ref kf, .ref tb, .int rw, .ref wk, .int ab, .int be, .ref pl, .ref sp, .int a0, .int a1, .int b0, .int b1, .ref po, .ref to, .ref ba, .ref li, .int (nI lm2_7)])), (mm, IA cI 16 Fm), (to, LA cJ 4 Q2_8), (li, LA cJ 6 L2_9)] := hD
          exact hret H locs _ ls (lm2_7, Q2_8, L2_9) d_M_findLines_143 (by first | exact ⟨⟨fun q => absurd q (by omega), fun q => absurd q (by omega), fun _ => hs1.1, fun q => absurd q (by omega), fun q => absurd (show kv.toInt = 5 ∨ kv.toInt = 6 ∨ kv.toInt = 7 ∨ kv.toInt = 9 from by omega) q⟩, ⟨by have := f2_lm hs1.1; omega, hs1.2⟩⟩ | (dsimp only; exact ⟨⟨fun q => absurd q (by omega), fun q => absurd q (by omega), fun _ => hs1.1, fun q => absurd q (by omega), fun q => absurd (show kv.toInt = 5 ∨ kv.toInt = 6 ∨ kv.toInt = 7 ∨ kv.toInt = 9 from by omega) q⟩, ⟨by have := f2_lm hs1.1; omega, hs1.2⟩⟩)) hP hD hS
        · skip
          refine lv_iload_n hx hb d_M_findLines_123 rfl (lv_at hl 1 rfl) ?_
          refine lv_bipush (v := nI 6) hx hb d_M_findLines_124 (by decide) ?_
          refine xi_ne (tgt := 143) (X := kv.toInt) (Y := (6 : Nat)) hx hb rfl (nI_toInt (by omega)) d_M_findLines_126 (by decide) (fun c126_9 => ?_) (fun c126_9 => ?_)
          · skip
            exact hret H locs _ ls (0, Q0, L0) d_M_findLines_143 (by first | exact ⟨⟨fun q => absurd q (by omega), fun q => absurd q (by omega), fun q => absurd q (by omega), fun q => absurd q (by omega), fun _ => rfl⟩, ⟨by decide, fun q => absurd q (by decide)⟩⟩ | (dsimp only; exact ⟨⟨fun q => absurd q (by omega), fun q => absurd q (by omega), fun q => absurd q (by omega), fun q => absurd q (by omega), fun _ => rfl⟩, ⟨by decide, fun q => absurd q (by decide)⟩⟩)) hP hD hS
          · skip
            refine lv_aload_n hx hb d_M_findLines_129 rfl (lv_at hl 0 rfl) ?_
            refine lv_iload_n hx hb d_M_findLines_130 rfl (lv_at hl 1 rfl) ?_
            refine lv_iconst (v := nI 5) hx hb d_M_findLines_131 (by decide) ?_
            refine xi_ne (tgt := 139) (X := kv.toInt) (Y := (5 : Nat)) hx hb rfl (nI_toInt (by omega)) d_M_findLines_132 (by decide) (fun c132_10 => ?_) (fun c132_10 => absurd c132_10 (by omega))
            refine lv_iconst (v := nI 0) hx hb d_M_findLines_139 (by decide) ?_
            refine xcv (wc := [(g, .inr (2, [.int cd, .int (nI d), .ref mm, .int ik, .ref kf, .ref tb, .int rw, .ref wk, .int ab, .int be, .ref pl, .ref sp, .int a0, .int a1, .int b0, .int b1, .ref po, .ref to, .ref ba, .ref li, .int (nI 0)])), (mm, IA cI 16 Fm), (to, LA cJ 4 Q0), (li, LA cJ 6 L0)]) (wr := []) hP hD hS hA [0, 1, 2, 3] [] rfl rfl (by decide) (by decide) (va_runV (As := [.int (nI 0)]) (rest := []) ⟨hx, hb, hml, hown, hts⟩ (r_findTwo l D cJ cI g cd d ik rw ab be a0 a1 b0 b1 (nI 0) mm kf tb wk pl sp po to ba li Fm Q0 L0 0 (by first | assumption | omega) (by decide) H.size) (cwV 1 hts (gV tw_610 tw_612 tws_35 tw_3 tw_613) rfl rfl rfl ⟨rfl, hd_M_findTwo⟩ ⟨Nat.le_of_ble_eq_true rfl, Nat.le_of_ble_eq_true rfl⟩) (xPreV (C := R_M) (T := F_M) (N := 21) (q0 := 0) hN hK (hP.sub (ws' := [(g, .inr (2, [.int cd, .int (nI d), .ref mm, .int ik, .ref kf, .ref tb, .int rw, .ref wk, .int ab, .int be, .ref pl, .ref sp, .int a0, .int a1, .int b0, .int b1, .ref po, .ref to, .ref ba, .ref li, .int (nI 0)])), (mm, IA cI 16 Fm), (to, LA cJ 4 Q0), (li, LA cJ 6 L0)]) [0, 1, 2, 3] rfl) (hD.sub (ws' := [(g, .inr (2, [.int cd, .int (nI d), .ref mm, .int ik, .ref kf, .ref tb, .int rw, .ref wk, .int ab, .int be, .ref pl, .ref sp, .int a0, .int a1, .int b0, .int b1, .ref po, .ref to, .ref ba, .ref li, .int (nI 0)])), (mm, IA cI 16 Fm), (to, LA cJ 4 Q0), (li, LA cJ 6 L0)]) [0, 1, 2, 3] (by decide) rfl) rfl rfl) rfl rfl hl.1 rfl (lv_room (Nat.le_of_ble_eq_true rfl)) d_M_findLines_140 ⟨Nat.le_of_ble_eq_true rfl, Nat.le_of_ble_eq_true rfl⟩) (fun u_13 H locs hs1 hP hD hS => ?_)
            obtain ⟨lm2_14, Q2_15, L2_16⟩ := u_13
            try dsimp only at hs1
            have hP : va_P D vwC [(g, .inr (2, [.int cd, .int (nI d), .ref mm, .int ik, .ref kf, .ref tb, .int rw, .ref wk, .int ab, .int be, .ref pl, .ref sp, .int a0, .int a1, .int b0, .int b1, .ref po, .ref to, .ref ba, .ref li, .int (nI lm2_14)])), (mm, IA cI 16 Fm), (to, LA cJ 4 Q2_15), (li, LA cJ 6 L2_16)] H := hP
            have hD : va_D A [(g, .inr (2, [.int cd, .int (nI d), .ref mm, .int ik, .ref kf, .ref tb, .int rw, .ref wk, .int ab, .int be, .ref pl, .ref sp, .int a0, .int a1, .int b0, .int b1, .ref po, .ref to, .ref ba, .ref li, .int (nI lm2_14)])), (mm, IA cI 16 Fm), (to, LA cJ 4 Q2_15), (li, LA cJ 6 L2_16)] := hD
            exact hret H locs _ ls (lm2_14, Q2_15, L2_16) d_M_findLines_143 (by first | exact ⟨⟨fun q => absurd q (by omega), fun q => absurd q (by omega), fun q => absurd q (by omega), fun _ => hs1.1, fun q => absurd (show kv.toInt = 5 ∨ kv.toInt = 6 ∨ kv.toInt = 7 ∨ kv.toInt = 9 from by omega) q⟩, ⟨by have := f2_lm hs1.1; omega, hs1.2⟩⟩ | (dsimp only; exact ⟨⟨fun q => absurd q (by omega), fun q => absurd q (by omega), fun q => absurd q (by omega), fun _ => hs1.1, fun q => absurd (show kv.toInt = 5 ∨ kv.toInt = 6 ∨ kv.toInt = 7 ∨ kv.toInt = 9 from by omega) q⟩, ⟨by have := f2_lm hs1.1; omega, hs1.2⟩⟩)) hP hD hS
      · skip
        refine lv_aload_n hx hb d_M_findLines_59 rfl (lv_at hl 0 rfl) ?_
        refine va_get (D := D) (ci := 2) (v := .ref mm) (C := R_M) (T := F_M) (N := 21) hx hb hts iw_M hown hK hP 0 rfl rfl 2 (by decide) (hts _ tw_389) (fun _ h9 => h9) rfl d_M_findLines_60 ?_
        refine lv_iconst (v := nI 5) hx hb d_M_findLines_63 (by decide) ?_
        refine xi_ald hx hb hK hP 1 1 rfl rfl (k := 5) (by omega) (by first | decide | omega) d_M_findLines_64 ?_
        refine xz_eq (tgt := 72) (X := (Fm 5)) hx hb (iI_toInt (iB_of (hF _ (by omega)) (by decide))) d_M_findLines_65 (by decide) (fun c65_16 => ?_) (fun c65_16 => ?_)
        · skip
          refine lv_iconst (v := nI 2) hx hb d_M_findLines_72 (by decide) ?_
          refine lv_istore_n (lv' := [(2, .int (nI 2)), (0, .ref g), (1, .int kv)]) hx hb d_M_findLines_73 rfl hl (by decide) rfl (fun ls hl => ?_)
          refine lv_aload_n hx hb d_M_findLines_74 rfl (lv_at hl 1 rfl) ?_
          refine lv_iconst (v := nI 0) hx hb d_M_findLines_75 (by decide) ?_
          refine lv_aload_n hx hb d_M_findLines_76 rfl (lv_at hl 1 rfl) ?_
          refine va_get (D := D) (ci := 2) (v := .ref mm) (C := R_M) (T := F_M) (N := 21) hx hb hts iw_M hown hK hP 0 rfl rfl 2 (by decide) (hts _ tw_389) (fun _ h9 => h9) rfl d_M_findLines_77 ?_
          refine lv_iconst (v := nI 4) hx hb d_M_findLines_80 (by decide) ?_
          refine lv_iload_n hx hb d_M_findLines_81 rfl (lv_at hl 0 rfl) ?_
          refine xn_mul hx hb d_M_findLines_82 ?_
          refine xi_ald hx hb hK hP 1 1 rfl rfl (k := 4 * 2) (by omega) (by first | decide | omega) d_M_findLines_83 ?_
          refine lv_i2l (v := lI (Fm (4 * 2))) hx hb d_M_findLines_84 (iI_i2l (iB_of (hF _ (by omega)) (by decide))) ?_
          refine lv_aload_n hx hb d_M_findLines_85 rfl (lv_at hl 1 rfl) ?_
          refine va_get (D := D) (ci := 2) (v := .ref mm) (C := R_M) (T := F_M) (N := 21) hx hb hts iw_M hown hK hP 0 rfl rfl 2 (by decide) (hts _ tw_389) (fun _ h9 => h9) rfl d_M_findLines_86 ?_
          refine lv_iconst (v := nI 4) hx hb d_M_findLines_89 (by decide) ?_
          refine lv_iload_n hx hb d_M_findLines_90 rfl (lv_at hl 0 rfl) ?_
          refine xn_mul hx hb d_M_findLines_91 ?_
          refine lv_iconst (v := nI 1) hx hb d_M_findLines_92 (by decide) ?_
          refine xn_add hx hb d_M_findLines_93 ?_
          refine xi_ald hx hb hK hP 1 1 rfl rfl (k := (4 * 2) + 1) (by omega) (by first | decide | omega) d_M_findLines_94 ?_
          refine lv_i2l (v := lI (Fm ((4 * 2) + 1))) hx hb d_M_findLines_95 (iI_i2l (iB_of (hF _ (by omega)) (by decide))) ?_
          refine lv_aload_n hx hb d_M_findLines_96 rfl (lv_at hl 1 rfl) ?_
          refine va_get (D := D) (ci := 2) (v := .ref mm) (C := R_M) (T := F_M) (N := 21) hx hb hts iw_M hown hK hP 0 rfl rfl 2 (by decide) (hts _ tw_389) (fun _ h9 => h9) rfl d_M_findLines_97 ?_
          refine lv_iconst (v := nI 4) hx hb d_M_findLines_100 (by decide) ?_
          refine lv_iload_n hx hb d_M_findLines_101 rfl (lv_at hl 0 rfl) ?_
          refine xn_mul hx hb d_M_findLines_102 ?_
          refine lv_iconst (v := nI 2) hx hb d_M_findLines_103 (by decide) ?_
          refine xn_add hx hb d_M_findLines_104 ?_
          refine xi_ald hx hb hK hP 1 1 rfl rfl (k := (4 * 2) + 2) (by omega) (by first | decide | omega) d_M_findLines_105 ?_
          refine lv_i2l (v := lI (Fm ((4 * 2) + 2))) hx hb d_M_findLines_106 (iI_i2l (iB_of (hF _ (by omega)) (by decide))) ?_
          refine xcv (wc := [(g, .inr (2, [.int cd, .int (nI d), .ref mm, .int ik, .ref kf, .ref tb, .int rw, .ref wk, .int ab, .int be, .ref pl, .ref sp, .int a0, .int a1, .int b0, .int b1, .ref po, .ref to, .ref ba, .ref li, .int (nI 0)])), (to, LA cJ 4 Q0), (li, LA cJ 6 L0)]) (wr := [(mm, IA cI 16 Fm)]) hP hD hS hA [0, 2, 3] [1] rfl rfl (by decide) (by decide) (va_runV (As := [.int (nI 0), .long (lI (Fm (4 * 2))), .long (lI (Fm ((4 * 2) + 1))), .long (lI (Fm ((4 * 2) + 2)))]) (rest := []) ⟨hx, hb, hml, hown, hts⟩ (r_setLine l D cJ cI g cd d ik rw ab be a0 a1 b0 b1 (nI 0) mm kf tb wk pl sp po to ba li Q0 L0 0 (Fm (4 * 2)) (Fm ((4 * 2) + 1)) (Fm ((4 * 2) + 2)) (by decide) (leB (hF _ (by omega)) (by decide)) (leB (hF _ (by omega)) (by decide)) (leB (hF _ (by omega)) (by decide)) H.size) (cwV 4 hts (gV tw_606 tw_608 tws_34 tw_3 tw_609) rfl rfl rfl ⟨rfl, hd_M_setLine⟩ ⟨Nat.le_of_ble_eq_true rfl, Nat.le_of_ble_eq_true rfl⟩) (xPreV (C := R_M) (T := F_M) (N := 21) (q0 := 0) hN hK (hP.sub (ws' := [(g, .inr (2, [.int cd, .int (nI d), .ref mm, .int ik, .ref kf, .ref tb, .int rw, .ref wk, .int ab, .int be, .ref pl, .ref sp, .int a0, .int a1, .int b0, .int b1, .ref po, .ref to, .ref ba, .ref li, .int (nI 0)])), (to, LA cJ 4 Q0), (li, LA cJ 6 L0)]) [0, 2, 3] rfl) (hD.sub (ws' := [(g, .inr (2, [.int cd, .int (nI d), .ref mm, .int ik, .ref kf, .ref tb, .int rw, .ref wk, .int ab, .int be, .ref pl, .ref sp, .int a0, .int a1, .int b0, .int b1, .ref po, .ref to, .ref ba, .ref li, .int (nI 0)])), (to, LA cJ 4 Q0), (li, LA cJ 6 L0)]) [0, 2, 3] (by decide) rfl) rfl rfl) rfl rfl hl.1 rfl (lv_room (Nat.le_of_ble_eq_true rfl)) d_M_findLines_107 ⟨Nat.le_of_ble_eq_true rfl, Nat.le_of_ble_eq_true rfl⟩) (fun u_19 H locs hs1 hP hD hS => ?_)
          obtain ⟨Q2_20, L8⟩ := u_19
          try dsimp only at hs1
          have hP : va_P D vwC [(g, .inr (2, [.int cd, .int (nI d), .ref mm, .int ik, .ref kf, .ref tb, .int rw, .ref wk, .int ab, .int be, .ref pl, .ref sp, .int a0, .int a1, .int b0, .int b1, .ref po, .ref to, .ref ba, .ref li, .int (nI 0)])), (mm, IA cI 16 Fm), (to, LA cJ 4 Q2_20), (li, LA cJ 6 L8)] H := hP.sub [1, 0, 2, 3] rfl
          have hD : va_D A [(g, .inr (2, [.int cd, .int (nI d), .ref mm, .int ik, .ref kf, .ref tb, .int rw, .ref wk, .int ab, .int be, .ref pl, .ref sp, .int a0, .int a1, .int b0, .int b1, .ref po, .ref to, .ref ba, .ref li, .int (nI 0)])), (mm, IA cI 16 Fm), (to, LA cJ 4 Q2_20), (li, LA cJ 6 L8)] := hD.sub [1, 0, 2, 3] (by decide) rfl
          refine lv_aload_n hx hb d_M_findLines_110 rfl (lv_at hl 1 rfl) ?_
          refine lv_iconst (v := nI 1) hx hb d_M_findLines_111 (by decide) ?_
          refine va_put (D := D) (ci := 2) (v := .int (nI 1)) (ty := .int) (C := R_M) (T := F_M) (N := 21) hx hb hts iw_M ft_M ft_M_ok n_M hown hK hP hD hS 0 rfl rfl 20 (by decide) (hts _ tw_407) (fun _ h9 => h9) rfl (by decide +kernel) rfl rfl (Nat.le_of_ble_eq_true rfl) d_M_findLines_112 (fun H locs hP hD hS => ?_)
          have hP : va_P D vwC [(g, .inr (2, [.int cd, .int (nI d), .ref mm, .int ik, .ref kf, .ref tb, .int rw, .ref wk, .int ab, .int be, .ref pl, .ref sp, .int a0, .int a1, .int b0, .int b1, .ref po, .ref to, .ref ba, .ref li, .int (nI 1)])), (mm, IA cI 16 Fm), (to, LA cJ 4 Q2_20), (li, LA cJ 6 L8)] H := hP
          have hD : va_D A [(g, .inr (2, [.int cd, .int (nI d), .ref mm, .int ik, .ref kf, .ref tb, .int rw, .ref wk, .int ab, .int be, .ref pl, .ref sp, .int a0, .int a1, .int b0, .int b1, .ref po, .ref to, .ref ba, .ref li, .int (nI 1)])), (mm, IA cI 16 Fm), (to, LA cJ 4 Q2_20), (li, LA cJ 6 L8)] := hD
          refine lv_goto (tgt := 143) hx hb d_M_findLines_115 (by decide) ?_
          exact hret H locs _ ls (1, Q2_20, L8) d_M_findLines_143 (by first | exact ⟨⟨fun q => absurd q (by omega), fun _ => ⟨rfl, fun x hx2 => (l0_of hs1.1 x hx2).trans (woN_congr hx2 (row9_is (ii := 2) (if_neg (show ¬ Fm 5 ≠ 0 from fun q => q c65_16)).symm))⟩, fun q => absurd q (by omega), fun q => absurd q (by omega), fun q => absurd (show kv.toInt = 5 ∨ kv.toInt = 6 ∨ kv.toInt = 7 ∨ kv.toInt = 9 from by omega) q⟩, ⟨by decide, fun q => absurd q (by decide)⟩⟩ | (dsimp only; exact ⟨⟨fun q => absurd q (by omega), fun _ => ⟨rfl, fun x hx2 => (l0_of hs1.1 x hx2).trans (woN_congr hx2 (row9_is (ii := 2) (if_neg (show ¬ Fm 5 ≠ 0 from fun q => q c65_16)).symm))⟩, fun q => absurd q (by omega), fun q => absurd q (by omega), fun q => absurd (show kv.toInt = 5 ∨ kv.toInt = 6 ∨ kv.toInt = 7 ∨ kv.toInt = 9 from by omega) q⟩, ⟨by decide, fun q => absurd q (by decide)⟩⟩)) hP hD hS
        · skip
          refine lv_iconst (v := nI 1) hx hb d_M_findLines_68 (by decide) ?_
          refine lv_goto (tgt := 73) hx hb d_M_findLines_69 (by decide) ?_
          refine lv_istore_n (lv' := [(2, .int (nI 1)), (0, .ref g), (1, .int kv)]) hx hb d_M_findLines_73 rfl hl (by decide) rfl (fun ls hl => ?_)
          refine lv_aload_n hx hb d_M_findLines_74 rfl (lv_at hl 1 rfl) ?_
          refine lv_iconst (v := nI 0) hx hb d_M_findLines_75 (by decide) ?_
          refine lv_aload_n hx hb d_M_findLines_76 rfl (lv_at hl 1 rfl) ?_
          refine va_get (D := D) (ci := 2) (v := .ref mm) (C := R_M) (T := F_M) (N := 21) hx hb hts iw_M hown hK hP 0 rfl rfl 2 (by decide) (hts _ tw_389) (fun _ h9 => h9) rfl d_M_findLines_77 ?_
          refine lv_iconst (v := nI 4) hx hb d_M_findLines_80 (by decide) ?_
          refine lv_iload_n hx hb d_M_findLines_81 rfl (lv_at hl 0 rfl) ?_
          refine xn_mul hx hb d_M_findLines_82 ?_
          refine xi_ald hx hb hK hP 1 1 rfl rfl (k := 4 * 1) (by omega) (by first | decide | omega) d_M_findLines_83 ?_
          refine lv_i2l (v := lI (Fm (4 * 1))) hx hb d_M_findLines_84 (iI_i2l (iB_of (hF _ (by omega)) (by decide))) ?_
          refine lv_aload_n hx hb d_M_findLines_85 rfl (lv_at hl 1 rfl) ?_
          refine va_get (D := D) (ci := 2) (v := .ref mm) (C := R_M) (T := F_M) (N := 21) hx hb hts iw_M hown hK hP 0 rfl rfl 2 (by decide) (hts _ tw_389) (fun _ h9 => h9) rfl d_M_findLines_86 ?_
          refine lv_iconst (v := nI 4) hx hb d_M_findLines_89 (by decide) ?_
          refine lv_iload_n hx hb d_M_findLines_90 rfl (lv_at hl 0 rfl) ?_
          refine xn_mul hx hb d_M_findLines_91 ?_
          refine lv_iconst (v := nI 1) hx hb d_M_findLines_92 (by decide) ?_
          refine xn_add hx hb d_M_findLines_93 ?_
          refine xi_ald hx hb hK hP 1 1 rfl rfl (k := (4 * 1) + 1) (by omega) (by first | decide | omega) d_M_findLines_94 ?_
          refine lv_i2l (v := lI (Fm ((4 * 1) + 1))) hx hb d_M_findLines_95 (iI_i2l (iB_of (hF _ (by omega)) (by decide))) ?_
          refine lv_aload_n hx hb d_M_findLines_96 rfl (lv_at hl 1 rfl) ?_
          refine va_get (D := D) (ci := 2) (v := .ref mm) (C := R_M) (T := F_M) (N := 21) hx hb hts iw_M hown hK hP 0 rfl rfl 2 (by decide) (hts _ tw_389) (fun _ h9 => h9) rfl d_M_findLines_97 ?_
          refine lv_iconst (v := nI 4) hx hb d_M_findLines_100 (by decide) ?_
          refine lv_iload_n hx hb d_M_findLines_101 rfl (lv_at hl 0 rfl) ?_
          refine xn_mul hx hb d_M_findLines_102 ?_
          refine lv_iconst (v := nI 2) hx hb d_M_findLines_103 (by decide) ?_
          refine xn_add hx hb d_M_findLines_104 ?_
          refine xi_ald hx hb hK hP 1 1 rfl rfl (k := (4 * 1) + 2) (by omega) (by first | decide | omega) d_M_findLines_105 ?_
          refine lv_i2l (v := lI (Fm ((4 * 1) + 2))) hx hb d_M_findLines_106 (iI_i2l (iB_of (hF _ (by omega)) (by decide))) ?_
          refine xcv (wc := [(g, .inr (2, [.int cd, .int (nI d), .ref mm, .int ik, .ref kf, .ref tb, .int rw, .ref wk, .int ab, .int be, .ref pl, .ref sp, .int a0, .int a1, .int b0, .int b1, .ref po, .ref to, .ref ba, .ref li, .int (nI 0)])), (to, LA cJ 4 Q0), (li, LA cJ 6 L0)]) (wr := [(mm, IA cI 16 Fm)]) hP hD hS hA [0, 2, 3] [1] rfl rfl (by decide) (by decide) (va_runV (As := [.int (nI 0), .long (lI (Fm (4 * 1))), .long (lI (Fm ((4 * 1) + 1))), .long (lI (Fm ((4 * 1) + 2)))]) (rest := []) ⟨hx, hb, hml, hown, hts⟩ (r_setLine l D cJ cI g cd d ik rw ab be a0 a1 b0 b1 (nI 0) mm kf tb wk pl sp po to ba li Q0 L0 0 (Fm (4 * 1)) (Fm ((4 * 1) + 1)) (Fm ((4 * 1) + 2)) (by decide) (leB (hF _ (by omega)) (by decide)) (leB (hF _ (by omega)) (by decide)) (leB (hF _ (by omega)) (by decide)) H.size) (cwV 4 hts (gV tw_606 tw_608 tws_34 tw_3 tw_609) rfl rfl rfl ⟨rfl, hd_M_setLine⟩ ⟨Nat.le_of_ble_eq_true rfl, Nat.le_of_ble_eq_true rfl⟩) (xPreV (C := R_M) (T := F_M) (N := 21) (q0 := 0) hN hK (hP.sub (ws' := [(g, .inr (2, [.int cd, .int (nI d), .ref mm, .int ik, .ref kf, .ref tb, .int rw, .ref wk, .int ab, .int be, .ref pl, .ref sp, .int a0, .int a1, .int b0, .int b1, .ref po, .ref to, .ref ba, .ref li, .int (nI 0)])), (to, LA cJ 4 Q0), (li, LA cJ 6 L0)]) [0, 2, 3] rfl) (hD.sub (ws' := [(g, .inr (2, [.int cd, .int (nI d), .ref mm, .int ik, .ref kf, .ref tb, .int rw, .ref wk, .int ab, .int be, .ref pl, .ref sp, .int a0, .int a1, .int b0, .int b1, .ref po, .ref to, .ref ba, .ref li, .int (nI 0)])), (to, LA cJ 4 Q0), (li, LA cJ 6 L0)]) [0, 2, 3] (by decide) rfl) rfl rfl) rfl rfl hl.1 rfl (lv_room (Nat.le_of_ble_eq_true rfl)) d_M_findLines_107 ⟨Nat.le_of_ble_eq_true rfl, Nat.le_of_ble_eq_true rfl⟩) (fun u_22 H locs hs1 hP hD hS => ?_)
          obtain ⟨Q2_23, L8⟩ := u_22
          try dsimp only at hs1
          have hP : va_P D vwC [(g, .inr (2, [.int cd, .int (nI d), .ref mm, .int ik, .ref kf, .ref tb, .int rw, .ref wk, .int ab, .int be, .ref pl, .ref sp, .int a0, .int a1, .int b0, .int b1, .ref po, .ref to, .ref ba, .ref li, .int (nI 0)])), (mm, IA cI 16 Fm), (to, LA cJ 4 Q2_23), (li, LA cJ 6 L8)] H := hP.sub [1, 0, 2, 3] rfl
          have hD : va_D A [(g, .inr (2, [.int cd, .int (nI d), .ref mm, .int ik, .ref kf, .ref tb, .int rw, .ref wk, .int ab, .int be, .ref pl, .ref sp, .int a0, .int a1, .int b0, .int b1, .ref po, .ref to, .ref ba, .ref li, .int (nI 0)])), (mm, IA cI 16 Fm), (to, LA cJ 4 Q2_23), (li, LA cJ 6 L8)] := hD.sub [1, 0, 2, 3] (by decide) rfl
          refine lv_aload_n hx hb d_M_findLines_110 rfl (lv_at hl 1 rfl) ?_
          refine lv_iconst (v := nI 1) hx hb d_M_findLines_111 (by decide) ?_
          refine va_put (D := D) (ci := 2) (v := .int (nI 1)) (ty := .int) (C := R_M) (T := F_M) (N := 21) hx hb hts iw_M ft_M ft_M_ok n_M hown hK hP hD hS 0 rfl rfl 20 (by decide) (hts _ tw_407) (fun _ h9 => h9) rfl (by decide +kernel) rfl rfl (Nat.le_of_ble_eq_true rfl) d_M_findLines_112 (fun H locs hP hD hS => ?_)
          have hP : va_P D vwC [(g, .inr (2, [.int cd, .int (nI d), .ref mm, .int ik, .ref kf, .ref tb, .int rw, .ref wk, .int ab, .int be, .ref pl, .ref sp, .int a0, .int a1, .int b0, .int b1, .ref po, .ref to, .ref ba, .ref li, .int (nI 1)])), (mm, IA cI 16 Fm), (to, LA cJ 4 Q2_23), (li, LA cJ 6 L8)] H := hP
          have hD : va_D A [(g, .inr (2, [.int cd, .int (nI d), .ref mm, .int ik, .ref kf, .ref tb, .int rw, .ref wk, .int ab, .int be, .ref pl, .ref sp, .int a0, .int a1, .int b0, .int b1, .ref po, .ref to, .ref ba, .ref li, .int (nI 1)])), (mm, IA cI 16 Fm), (to, LA cJ 4 Q2_23), (li, LA cJ 6 L8)] := hD
          refine lv_goto (tgt := 143) hx hb d_M_findLines_115 (by decide) ?_
          exact hret H locs _ ls (1, Q2_23, L8) d_M_findLines_143 (by first | exact ⟨⟨fun q => absurd q (by omega), fun _ => ⟨rfl, fun x hx2 => (l0_of hs1.1 x hx2).trans (woN_congr hx2 (row9_is (ii := 1) (if_pos (show Fm 5 ≠ 0 from c65_16)).symm))⟩, fun q => absurd q (by omega), fun q => absurd q (by omega), fun q => absurd (show kv.toInt = 5 ∨ kv.toInt = 6 ∨ kv.toInt = 7 ∨ kv.toInt = 9 from by omega) q⟩, ⟨by decide, fun q => absurd q (by decide)⟩⟩ | (dsimp only; exact ⟨⟨fun q => absurd q (by omega), fun _ => ⟨rfl, fun x hx2 => (l0_of hs1.1 x hx2).trans (woN_congr hx2 (row9_is (ii := 1) (if_pos (show Fm 5 ≠ 0 from c65_16)).symm))⟩, fun q => absurd q (by omega), fun q => absurd q (by omega), fun q => absurd (show kv.toInt = 5 ∨ kv.toInt = 6 ∨ kv.toInt = 7 ∨ kv.toInt = 9 from by omega) q⟩, ⟨by decide, fun q => absurd q (by decide)⟩⟩)) hP hD hS
    · skip
      refine lv_aload_n hx hb d_M_findLines_11 rfl (lv_at hl 0 rfl) ?_
      refine lv_iconst (v := nI 0) hx hb d_M_findLines_12 (by decide) ?_
      refine lv_aload_n hx hb d_M_findLines_13 rfl (lv_at hl 0 rfl) ?_
      refine va_get (D := D) (ci := 2) (v := .ref mm) (C := R_M) (T := F_M) (N := 21) hx hb hts iw_M hown hK hP 0 rfl rfl 2 (by decide) (hts _ tw_389) (fun _ h9 => h9) rfl d_M_findLines_14 ?_
      refine lv_iconst (v := nI 0) hx hb d_M_findLines_17 (by decide) ?_
      refine xi_ald hx hb hK hP 1 1 rfl rfl (k := 0) (by omega) (by first | decide | omega) d_M_findLines_18 ?_
      refine lv_i2l (v := lI (Fm 0)) hx hb d_M_findLines_19 (iI_i2l (iB_of (hF _ (by omega)) (by decide))) ?_
      refine lv_ldc2 (v := lI (2)) hx hb hown (hts _ tw_605) d_M_findLines_20 ?_
      refine lv_aload_n hx hb d_M_findLines_23 rfl (lv_at hl 0 rfl) ?_
      refine va_get (D := D) (ci := 2) (v := .ref mm) (C := R_M) (T := F_M) (N := 21) hx hb hts iw_M hown hK hP 0 rfl rfl 2 (by decide) (hts _ tw_389) (fun _ h9 => h9) rfl d_M_findLines_24 ?_
      refine lv_iconst (v := nI 1) hx hb d_M_findLines_27 (by decide) ?_
      refine xi_ald hx hb hK hP 1 1 rfl rfl (k := 1) (by omega) (by first | decide | omega) d_M_findLines_28 ?_
      refine lv_i2l (v := lI (Fm 1)) hx hb d_M_findLines_29 (iI_i2l (iB_of (hF _ (by omega)) (by decide))) ?_
      refine xl_mul hx hb d_M_findLines_30 ?_
      refine lv_ldc2 (v := lI (2)) hx hb hown (hts _ tw_605) d_M_findLines_31 ?_
      refine lv_aload_n hx hb d_M_findLines_34 rfl (lv_at hl 0 rfl) ?_
      refine va_get (D := D) (ci := 2) (v := .ref mm) (C := R_M) (T := F_M) (N := 21) hx hb hts iw_M hown hK hP 0 rfl rfl 2 (by decide) (hts _ tw_389) (fun _ h9 => h9) rfl d_M_findLines_35 ?_
      refine lv_iconst (v := nI 2) hx hb d_M_findLines_38 (by decide) ?_
      refine xi_ald hx hb hK hP 1 1 rfl rfl (k := 2) (by omega) (by first | decide | omega) d_M_findLines_39 ?_
      refine lv_i2l (v := lI (Fm 2)) hx hb d_M_findLines_40 (iI_i2l (iB_of (hF _ (by omega)) (by decide))) ?_
      refine xl_mul hx hb d_M_findLines_41 ?_
      refine xcv (wc := [(g, .inr (2, [.int cd, .int (nI d), .ref mm, .int ik, .ref kf, .ref tb, .int rw, .ref wk, .int ab, .int be, .ref pl, .ref sp, .int a0, .int a1, .int b0, .int b1, .ref po, .ref to, .ref ba, .ref li, .int (nI 0)])), (to, LA cJ 4 Q0), (li, LA cJ 6 L0)]) (wr := [(mm, IA cI 16 Fm)]) hP hD hS hA [0, 2, 3] [1] rfl rfl (by decide) (by decide) (va_runV (As := [.int (nI 0), .long (lI (Fm 0)), .long (lI ((2) * (Fm 1))), .long (lI ((2) * (Fm 2)))]) (rest := []) ⟨hx, hb, hml, hown, hts⟩ (r_setLine l D cJ cI g cd d ik rw ab be a0 a1 b0 b1 (nI 0) mm kf tb wk pl sp po to ba li Q0 L0 0 (Fm 0) ((2) * (Fm 1)) ((2) * (Fm 2)) (by decide) (leB (hF 0 (by omega)) (by decide)) (leB (mulB (a := 2) (A := 2) ⟨by decide, by decide⟩ (hF 1 (by decide))) (by decide)) (leB (mulB (a := 2) (A := 2) ⟨by decide, by decide⟩ (hF 2 (by decide))) (by decide)) H.size) (cwV 4 hts (gV tw_606 tw_608 tws_34 tw_3 tw_609) rfl rfl rfl ⟨rfl, hd_M_setLine⟩ ⟨Nat.le_of_ble_eq_true rfl, Nat.le_of_ble_eq_true rfl⟩) (xPreV (C := R_M) (T := F_M) (N := 21) (q0 := 0) hN hK (hP.sub (ws' := [(g, .inr (2, [.int cd, .int (nI d), .ref mm, .int ik, .ref kf, .ref tb, .int rw, .ref wk, .int ab, .int be, .ref pl, .ref sp, .int a0, .int a1, .int b0, .int b1, .ref po, .ref to, .ref ba, .ref li, .int (nI 0)])), (to, LA cJ 4 Q0), (li, LA cJ 6 L0)]) [0, 2, 3] rfl) (hD.sub (ws' := [(g, .inr (2, [.int cd, .int (nI d), .ref mm, .int ik, .ref kf, .ref tb, .int rw, .ref wk, .int ab, .int be, .ref pl, .ref sp, .int a0, .int a1, .int b0, .int b1, .ref po, .ref to, .ref ba, .ref li, .int (nI 0)])), (to, LA cJ 4 Q0), (li, LA cJ 6 L0)]) [0, 2, 3] (by decide) rfl) rfl rfl) rfl rfl hl.1 rfl (lv_room (Nat.le_of_ble_eq_true rfl)) d_M_findLines_42 ⟨Nat.le_of_ble_eq_true rfl, Nat.le_of_ble_eq_true rfl⟩) (fun u_25 H locs hs1 hP hD hS => ?_)
      obtain ⟨Q2_26, L8⟩ := u_25
      try dsimp only at hs1
      have hP : va_P D vwC [(g, .inr (2, [.int cd, .int (nI d), .ref mm, .int ik, .ref kf, .ref tb, .int rw, .ref wk, .int ab, .int be, .ref pl, .ref sp, .int a0, .int a1, .int b0, .int b1, .ref po, .ref to, .ref ba, .ref li, .int (nI 0)])), (mm, IA cI 16 Fm), (to, LA cJ 4 Q2_26), (li, LA cJ 6 L8)] H := hP.sub [1, 0, 2, 3] rfl
      have hD : va_D A [(g, .inr (2, [.int cd, .int (nI d), .ref mm, .int ik, .ref kf, .ref tb, .int rw, .ref wk, .int ab, .int be, .ref pl, .ref sp, .int a0, .int a1, .int b0, .int b1, .ref po, .ref to, .ref ba, .ref li, .int (nI 0)])), (mm, IA cI 16 Fm), (to, LA cJ 4 Q2_26), (li, LA cJ 6 L8)] := hD.sub [1, 0, 2, 3] (by decide) rfl
      refine lv_aload_n hx hb d_M_findLines_45 rfl (lv_at hl 0 rfl) ?_
      refine lv_iconst (v := nI 1) hx hb d_M_findLines_46 (by decide) ?_
      refine va_put (D := D) (ci := 2) (v := .int (nI 1)) (ty := .int) (C := R_M) (T := F_M) (N := 21) hx hb hts iw_M ft_M ft_M_ok n_M hown hK hP hD hS 0 rfl rfl 20 (by decide) (hts _ tw_407) (fun _ h9 => h9) rfl (by decide +kernel) rfl rfl (Nat.le_of_ble_eq_true rfl) d_M_findLines_47 (fun H locs hP hD hS => ?_)
      have hP : va_P D vwC [(g, .inr (2, [.int cd, .int (nI d), .ref mm, .int ik, .ref kf, .ref tb, .int rw, .ref wk, .int ab, .int be, .ref pl, .ref sp, .int a0, .int a1, .int b0, .int b1, .ref po, .ref to, .ref ba, .ref li, .int (nI 1)])), (mm, IA cI 16 Fm), (to, LA cJ 4 Q2_26), (li, LA cJ 6 L8)] H := hP
      have hD : va_D A [(g, .inr (2, [.int cd, .int (nI d), .ref mm, .int ik, .ref kf, .ref tb, .int rw, .ref wk, .int ab, .int be, .ref pl, .ref sp, .int a0, .int a1, .int b0, .int b1, .ref po, .ref to, .ref ba, .ref li, .int (nI 1)])), (mm, IA cI 16 Fm), (to, LA cJ 4 Q2_26), (li, LA cJ 6 L8)] := hD
      refine lv_goto (tgt := 143) hx hb d_M_findLines_50 (by decide) ?_
      exact hret H locs _ ls (1, Q2_26, L8) d_M_findLines_143 (by first | exact ⟨⟨fun _ => ⟨rfl, l0_of hs1.1⟩, fun q => absurd q (by omega), fun q => absurd q (by omega), fun q => absurd q (by omega), fun q => absurd (show kv.toInt = 5 ∨ kv.toInt = 6 ∨ kv.toInt = 7 ∨ kv.toInt = 9 from by omega) q⟩, ⟨by decide, fun q => absurd q (by decide)⟩⟩ | (dsimp only; exact ⟨⟨fun _ => ⟨rfl, l0_of hs1.1⟩, fun q => absurd q (by omega), fun q => absurd q (by omega), fun q => absurd q (by omega), fun q => absurd (show kv.toInt = 5 ∨ kv.toInt = 6 ∨ kv.toInt = 7 ∨ kv.toInt = 9 from by omega) q⟩, ⟨by decide, fun q => absurd q (by decide)⟩⟩)) hP hD hS
  rw [hH, hlc] at key; exact key

def rm_r_isSecond : Room := { frames := 0, cells := 0, slots := 0, locals := 0 }
set_option maxHeartbeats 4000000 in
set_option maxRecDepth 100000 in
/-- the second is first -/
theorem r_isSecond (l : Launch) (D : va_G) (cJ cI : ClassId) (g : Nat) (cd : Int32) (d : Nat) (ik : Int32) (rw : Int32) (ab : Int32) (be : Int32) (a0 : Int32) (a1 : Int32) (b0 : Int32) (b1 : Int32) (lm : Int32) (mm : Nat) (kf : Nat) (tb : Nat) (wk : Nat) (pl : Nat) (sp : Nat) (po : Nat) (to : Nat) (ba : Nat) (li : Nat) (L : Nat → Int) (hL : ∀ k, k < 6 → lB (L k)) (sz : Nat) : xMz l y_M_isSecondFirst (Cond.code y_M_isSecondFirst b_M_isSecondFirst 2 (some .boolean) :: tW) rm_r_isSecond [.ref g] D vwC [(cJ, .long), (cI, .int)] sz [(g, .inr (2, [.int cd, .int (nI d), .ref mm, .int ik, .ref kf, .ref tb, .int rw, .ref wk, .int ab, .int be, .ref pl, .ref sp, .int a0, .int a1, .int b0, .int b1, .ref po, .ref to, .ref ba, .ref li, .int lm])), (li, LA cJ 6 L)] (fun (rv : Int32) (_ : Unit) => ((rv = nI 1 ∧ (lexF L)) ∨ (rv = nI 0 ∧ ¬ (lexF L)))) (fun (_ : Unit) => [(g, .inr (2, [.int cd, .int (nI d), .ref mm, .int ik, .ref kf, .ref tb, .int rw, .ref wk, .int ab, .int be, .ref pl, .ref sp, .int a0, .int a1, .int b0, .int b1, .ref po, .ref to, .ref ba, .ref li, .int lm])), (li, LA cJ 6 L)]) 0 0 := by
  refine xoz (cc := b_M_isSecondFirst) (maxL := 2) (by decide) rfl (Nat.le_of_ble_eq_true rfl) (fun r u h => by rcases h with h | h; exact Or.inr h.1; exact Or.inl h.1) ?_
  intro p e s m args below meth c Q A hx hb hml hts hown hN hA hS hP hK hD hret ls hl
  have hl : lv_has ls 2 [(0, .ref g)] := hl
  obtain ⟨H, hH⟩ : ∃ z, z = s.heap := ⟨_, rfl⟩
  obtain ⟨locs, hlc⟩ : ∃ z : List Loc, z = [] := ⟨_, rfl⟩
  rw [← hH] at hP
  have hS : va_S A s.heap H locs := by rw [hH, hlc]; exact hS
  have key : W p l e rm_r_isSecond s m args below meth c H locs 0 0 Q (F0 m 0 ls []) := by
    refine lv_iconst (v := nI 0) hx hb d_M_isSecondFirst_0 (by decide) ?_
    refine lv_istore_n (lv' := [(1, .int (nI 0)), (0, .ref g)]) hx hb d_M_isSecondFirst_1 rfl hl (by decide) rfl (fun ls hl => ?_)
    refine lv_iload_n hx hb d_M_isSecondFirst_2 rfl (lv_at hl 0 rfl) ?_
    refine lv_iconst (v := nI 3) hx hb d_M_isSecondFirst_3 (by decide) ?_
    refine xn_ge (tgt := 55) hx hb (by omega) (by omega) d_M_isSecondFirst_4 (by decide) (fun c4_0 => absurd c4_0 (by decide)) (fun c4_0 => ?_)
    refine lv_aload_n hx hb d_M_isSecondFirst_7 rfl (lv_at hl 1 rfl) ?_
    refine va_get (D := D) (ci := 2) (v := .ref li) (C := R_M) (T := F_M) (N := 21) hx hb hts iw_M hown hK hP 0 rfl rfl 19 (by decide) (hts _ tw_406) (fun _ h9 => h9) rfl d_M_isSecondFirst_8 ?_
    refine lv_iload_n hx hb d_M_isSecondFirst_11 rfl (lv_at hl 0 rfl) ?_
    refine xl_ald hx hb hK hP 1 0 rfl rfl (k := 0) (by omega) (by first | decide | omega) d_M_isSecondFirst_12 ?_
    refine lv_aload_n hx hb d_M_isSecondFirst_13 rfl (lv_at hl 1 rfl) ?_
    refine va_get (D := D) (ci := 2) (v := .ref li) (C := R_M) (T := F_M) (N := 21) hx hb hts iw_M hown hK hP 0 rfl rfl 19 (by decide) (hts _ tw_406) (fun _ h9 => h9) rfl d_M_isSecondFirst_14 ?_
    refine lv_iconst (v := nI 3) hx hb d_M_isSecondFirst_17 (by decide) ?_
    refine lv_iload_n hx hb d_M_isSecondFirst_18 rfl (lv_at hl 0 rfl) ?_
    refine xn_add hx hb d_M_isSecondFirst_19 ?_
    refine xl_ald hx hb hK hP 1 0 rfl rfl (k := 3 + 0) (by omega) (by first | decide | omega) d_M_isSecondFirst_20 ?_
    refine xl_eq (tgt := 49) hx hb (hL _ (by decide)) (hL _ (by decide)) d_M_isSecondFirst_21 d_M_isSecondFirst_22 (by decide) (fun c22_1 => ?_) (fun c22_1 => ?_)
    · skip
      refine lv_iinc (v := nI (1)) (lv' := [(1, .int (nI 1)), (0, .ref g)]) hx hb d_M_isSecondFirst_49 hl (k := 0) rfl (nI_add _ _) (by decide) rfl (fun ls hl => ?_)
      refine lv_goto (tgt := 2) hx hb d_M_isSecondFirst_52 (by decide) ?_
      refine lv_iload_n hx hb d_M_isSecondFirst_2 rfl (lv_at hl 0 rfl) ?_
      refine lv_iconst (v := nI 3) hx hb d_M_isSecondFirst_3 (by decide) ?_
      refine xn_ge (tgt := 55) hx hb (by omega) (by omega) d_M_isSecondFirst_4 (by decide) (fun c4_2 => absurd c4_2 (by decide)) (fun c4_2 => ?_)
      refine lv_aload_n hx hb d_M_isSecondFirst_7 rfl (lv_at hl 1 rfl) ?_
      refine va_get (D := D) (ci := 2) (v := .ref li) (C := R_M) (T := F_M) (N := 21) hx hb hts iw_M hown hK hP 0 rfl rfl 19 (by decide) (hts _ tw_406) (fun _ h9 => h9) rfl d_M_isSecondFirst_8 ?_
      refine lv_iload_n hx hb d_M_isSecondFirst_11 rfl (lv_at hl 0 rfl) ?_
      refine xl_ald hx hb hK hP 1 0 rfl rfl (k := 1) (by omega) (by first | decide | omega) d_M_isSecondFirst_12 ?_
      refine lv_aload_n hx hb d_M_isSecondFirst_13 rfl (lv_at hl 1 rfl) ?_
      refine va_get (D := D) (ci := 2) (v := .ref li) (C := R_M) (T := F_M) (N := 21) hx hb hts iw_M hown hK hP 0 rfl rfl 19 (by decide) (hts _ tw_406) (fun _ h9 => h9) rfl d_M_isSecondFirst_14 ?_
      refine lv_iconst (v := nI 3) hx hb d_M_isSecondFirst_17 (by decide) ?_
      refine lv_iload_n hx hb d_M_isSecondFirst_18 rfl (lv_at hl 0 rfl) ?_
      refine xn_add hx hb d_M_isSecondFirst_19 ?_
      refine xl_ald hx hb hK hP 1 0 rfl rfl (k := 3 + 1) (by omega) (by first | decide | omega) d_M_isSecondFirst_20 ?_
      refine xl_eq (tgt := 49) hx hb (hL _ (by decide)) (hL _ (by decide)) d_M_isSecondFirst_21 d_M_isSecondFirst_22 (by decide) (fun c22_3 => ?_) (fun c22_3 => ?_)
      · skip
        refine lv_iinc (v := nI (2)) (lv' := [(1, .int (nI 2)), (0, .ref g)]) hx hb d_M_isSecondFirst_49 hl (k := 0) rfl (nI_add _ _) (by decide) rfl (fun ls hl => ?_)
        refine lv_goto (tgt := 2) hx hb d_M_isSecondFirst_52 (by decide) ?_
        refine lv_iload_n hx hb d_M_isSecondFirst_2 rfl (lv_at hl 0 rfl) ?_
        refine lv_iconst (v := nI 3) hx hb d_M_isSecondFirst_3 (by decide) ?_
        refine xn_ge (tgt := 55) hx hb (by omega) (by omega) d_M_isSecondFirst_4 (by decide) (fun c4_4 => absurd c4_4 (by decide)) (fun c4_4 => ?_)
        refine lv_aload_n hx hb d_M_isSecondFirst_7 rfl (lv_at hl 1 rfl) ?_
        refine va_get (D := D) (ci := 2) (v := .ref li) (C := R_M) (T := F_M) (N := 21) hx hb hts iw_M hown hK hP 0 rfl rfl 19 (by decide) (hts _ tw_406) (fun _ h9 => h9) rfl d_M_isSecondFirst_8 ?_
        refine lv_iload_n hx hb d_M_isSecondFirst_11 rfl (lv_at hl 0 rfl) ?_
        refine xl_ald hx hb hK hP 1 0 rfl rfl (k := 2) (by omega) (by first | decide | omega) d_M_isSecondFirst_12 ?_
        refine lv_aload_n hx hb d_M_isSecondFirst_13 rfl (lv_at hl 1 rfl) ?_
        refine va_get (D := D) (ci := 2) (v := .ref li) (C := R_M) (T := F_M) (N := 21) hx hb hts iw_M hown hK hP 0 rfl rfl 19 (by decide) (hts _ tw_406) (fun _ h9 => h9) rfl d_M_isSecondFirst_14 ?_
        refine lv_iconst (v := nI 3) hx hb d_M_isSecondFirst_17 (by decide) ?_
        refine lv_iload_n hx hb d_M_isSecondFirst_18 rfl (lv_at hl 0 rfl) ?_
        refine xn_add hx hb d_M_isSecondFirst_19 ?_
        refine xl_ald hx hb hK hP 1 0 rfl rfl (k := 3 + 2) (by omega) (by first | decide | omega) d_M_isSecondFirst_20 ?_
        refine xl_eq (tgt := 49) hx hb (hL _ (by decide)) (hL _ (by decide)) d_M_isSecondFirst_21 d_M_isSecondFirst_22 (by decide) (fun c22_5 => ?_) (fun c22_5 => ?_)
        · skip
          refine lv_iinc (v := nI (3)) (lv' := [(1, .int (nI 3)), (0, .ref g)]) hx hb d_M_isSecondFirst_49 hl (k := 0) rfl (nI_add _ _) (by decide) rfl (fun ls hl => ?_)
          refine lv_goto (tgt := 2) hx hb d_M_isSecondFirst_52 (by decide) ?_
          refine lv_iload_n hx hb d_M_isSecondFirst_2 rfl (lv_at hl 0 rfl) ?_
          refine lv_iconst (v := nI 3) hx hb d_M_isSecondFirst_3 (by decide) ?_
          refine xn_ge (tgt := 55) hx hb (by omega) (by omega) d_M_isSecondFirst_4 (by decide) (fun c4_6 => ?_) (fun c4_6 => absurd c4_6 (by decide))
          refine lv_iconst (v := nI 0) hx hb d_M_isSecondFirst_55 (by decide) ?_
          exact hret H locs _ ls (nI 0) () d_M_isSecondFirst_56 (Or.inr ⟨rfl, (by have q0 := c22_1; have q1 := c22_3; have q2 := c22_5; unfold lexF lexB; dsimp only; omega)⟩) hP hD hS
        · skip
          refine lv_aload_n hx hb d_M_isSecondFirst_25 rfl (lv_at hl 1 rfl) ?_
          refine va_get (D := D) (ci := 2) (v := .ref li) (C := R_M) (T := F_M) (N := 21) hx hb hts iw_M hown hK hP 0 rfl rfl 19 (by decide) (hts _ tw_406) (fun _ h9 => h9) rfl d_M_isSecondFirst_26 ?_
          refine lv_iconst (v := nI 3) hx hb d_M_isSecondFirst_29 (by decide) ?_
          refine lv_iload_n hx hb d_M_isSecondFirst_30 rfl (lv_at hl 0 rfl) ?_
          refine xn_add hx hb d_M_isSecondFirst_31 ?_
          refine xl_ald hx hb hK hP 1 0 rfl rfl (k := 3 + 2) (by omega) (by first | decide | omega) d_M_isSecondFirst_32 ?_
          refine lv_aload_n hx hb d_M_isSecondFirst_33 rfl (lv_at hl 1 rfl) ?_
          refine va_get (D := D) (ci := 2) (v := .ref li) (C := R_M) (T := F_M) (N := 21) hx hb hts iw_M hown hK hP 0 rfl rfl 19 (by decide) (hts _ tw_406) (fun _ h9 => h9) rfl d_M_isSecondFirst_34 ?_
          refine lv_iload_n hx hb d_M_isSecondFirst_37 rfl (lv_at hl 0 rfl) ?_
          refine xl_ald hx hb hK hP 1 0 rfl rfl (k := 2) (by omega) (by first | decide | omega) d_M_isSecondFirst_38 ?_
          refine xl_ge (tgt := 47) hx hb (hL _ (by decide)) (hL _ (by decide)) d_M_isSecondFirst_39 d_M_isSecondFirst_40 (by decide) (fun c40_7 => ?_) (fun c40_7 => ?_)
          · skip
            refine lv_iconst (v := nI 0) hx hb d_M_isSecondFirst_47 (by decide) ?_
            exact hret H locs _ ls (nI 0) () d_M_isSecondFirst_48 (Or.inr ⟨rfl, (by have q0 := c22_1; have q1 := c22_3; have q2 := c22_5;have t0 := c40_7; unfold lexF lexB; dsimp only; omega)⟩) hP hD hS
          · skip
            refine lv_iconst (v := nI 1) hx hb d_M_isSecondFirst_43 (by decide) ?_
            refine lv_goto (tgt := 48) hx hb d_M_isSecondFirst_44 (by decide) ?_
            exact hret H locs _ ls (nI 1) () d_M_isSecondFirst_48 (Or.inl ⟨rfl, (by have q0 := c22_1; have q1 := c22_3; have q2 := c22_5;have t0 := c40_7; unfold lexF lexB; dsimp only; omega)⟩) hP hD hS
      · skip
        refine lv_aload_n hx hb d_M_isSecondFirst_25 rfl (lv_at hl 1 rfl) ?_
        refine va_get (D := D) (ci := 2) (v := .ref li) (C := R_M) (T := F_M) (N := 21) hx hb hts iw_M hown hK hP 0 rfl rfl 19 (by decide) (hts _ tw_406) (fun _ h9 => h9) rfl d_M_isSecondFirst_26 ?_
        refine lv_iconst (v := nI 3) hx hb d_M_isSecondFirst_29 (by decide) ?_
        refine lv_iload_n hx hb d_M_isSecondFirst_30 rfl (lv_at hl 0 rfl) ?_
        refine xn_add hx hb d_M_isSecondFirst_31 ?_
        refine xl_ald hx hb hK hP 1 0 rfl rfl (k := 3 + 1) (by omega) (by first | decide | omega) d_M_isSecondFirst_32 ?_
        refine lv_aload_n hx hb d_M_isSecondFirst_33 rfl (lv_at hl 1 rfl) ?_
        refine va_get (D := D) (ci := 2) (v := .ref li) (C := R_M) (T := F_M) (N := 21) hx hb hts iw_M hown hK hP 0 rfl rfl 19 (by decide) (hts _ tw_406) (fun _ h9 => h9) rfl d_M_isSecondFirst_34 ?_
        refine lv_iload_n hx hb d_M_isSecondFirst_37 rfl (lv_at hl 0 rfl) ?_
        refine xl_ald hx hb hK hP 1 0 rfl rfl (k := 1) (by omega) (by first | decide | omega) d_M_isSecondFirst_38 ?_
        refine xl_ge (tgt := 47) hx hb (hL _ (by decide)) (hL _ (by decide)) d_M_isSecondFirst_39 d_M_isSecondFirst_40 (by decide) (fun c40_8 => ?_) (fun c40_8 => ?_)
        · skip
          refine lv_iconst (v := nI 0) hx hb d_M_isSecondFirst_47 (by decide) ?_
          exact hret H locs _ ls (nI 0) () d_M_isSecondFirst_48 (Or.inr ⟨rfl, (by have q0 := c22_1; have q1 := c22_3;have t0 := c40_8; unfold lexF lexB; dsimp only; omega)⟩) hP hD hS
        · skip
          refine lv_iconst (v := nI 1) hx hb d_M_isSecondFirst_43 (by decide) ?_
          refine lv_goto (tgt := 48) hx hb d_M_isSecondFirst_44 (by decide) ?_
          exact hret H locs _ ls (nI 1) () d_M_isSecondFirst_48 (Or.inl ⟨rfl, (by have q0 := c22_1; have q1 := c22_3;have t0 := c40_8; unfold lexF lexB; dsimp only; omega)⟩) hP hD hS
    · skip
      refine lv_aload_n hx hb d_M_isSecondFirst_25 rfl (lv_at hl 1 rfl) ?_
      refine va_get (D := D) (ci := 2) (v := .ref li) (C := R_M) (T := F_M) (N := 21) hx hb hts iw_M hown hK hP 0 rfl rfl 19 (by decide) (hts _ tw_406) (fun _ h9 => h9) rfl d_M_isSecondFirst_26 ?_
      refine lv_iconst (v := nI 3) hx hb d_M_isSecondFirst_29 (by decide) ?_
      refine lv_iload_n hx hb d_M_isSecondFirst_30 rfl (lv_at hl 0 rfl) ?_
      refine xn_add hx hb d_M_isSecondFirst_31 ?_
      refine xl_ald hx hb hK hP 1 0 rfl rfl (k := 3 + 0) (by omega) (by first | decide | omega) d_M_isSecondFirst_32 ?_
      refine lv_aload_n hx hb d_M_isSecondFirst_33 rfl (lv_at hl 1 rfl) ?_
      refine va_get (D := D) (ci := 2) (v := .ref li) (C := R_M) (T := F_M) (N := 21) hx hb hts iw_M hown hK hP 0 rfl rfl 19 (by decide) (hts _ tw_406) (fun _ h9 => h9) rfl d_M_isSecondFirst_34 ?_
      refine lv_iload_n hx hb d_M_isSecondFirst_37 rfl (lv_at hl 0 rfl) ?_
      refine xl_ald hx hb hK hP 1 0 rfl rfl (k := 0) (by omega) (by first | decide | omega) d_M_isSecondFirst_38 ?_
      refine xl_ge (tgt := 47) hx hb (hL _ (by decide)) (hL _ (by decide)) d_M_isSecondFirst_39 d_M_isSecondFirst_40 (by decide) (fun c40_9 => ?_) (fun c40_9 => ?_)
      · skip
        refine lv_iconst (v := nI 0) hx hb d_M_isSecondFirst_47 (by decide) ?_
        exact hret H locs _ ls (nI 0) () d_M_isSecondFirst_48 (Or.inr ⟨rfl, (by have q0 := c22_1;have t0 := c40_9; unfold lexF lexB; dsimp only; omega)⟩) hP hD hS
      · skip
        refine lv_iconst (v := nI 1) hx hb d_M_isSecondFirst_43 (by decide) ?_
        refine lv_goto (tgt := 48) hx hb d_M_isSecondFirst_44 (by decide) ?_
        exact hret H locs _ ls (nI 1) () d_M_isSecondFirst_48 (Or.inl ⟨rfl, (by have q0 := c22_1;have t0 := c40_9; unfold lexF lexB; dsimp only; omega)⟩) hP hD hS
  rw [hH, hlc] at key; exact key

def rm_r_line : Room := { frames := 7, cells := 0, slots := 0, locals := 172 }
set_option maxHeartbeats 4000000 in
set_option maxRecDepth 100000 in
/-- line -/
theorem r_line (l : Launch) (D : va_G) (cJ cI : ClassId) (g : Nat) (cd : Int32) (d : Nat) (ik : Int32) (rw : Int32) (ab : Int32) (be : Int32) (a0 : Int32) (a1 : Int32) (b0 : Int32) (b1 : Int32) (lm : Int32) (mm : Nat) (kf : Nat) (tb : Nat) (wk : Nat) (pl : Nat) (sp : Nat) (po : Nat) (to : Nat) (ba : Nat) (li : Nat) (Fm : Nat → Int) (T : Nat → Int) (W0 : Nat → Int) (Q0 : Nat → Int) (L0 : Nat → Int) (vk : Int32) (vi : Int32) (hd2 : 2 ≤ d) (hd3 : d ≤ 3) (hF : ∀ k, k < 16 → inB (Fm k) 20) (sz : Nat) : xMl l y_M_line (Cond.code y_M_line b_M_line 4 (some .long) :: tW) rm_r_line [.ref g, .int vk, .int vi] D vwC [(cJ, .long), (cI, .int)] sz [(g, .inr (2, [.int cd, .int (nI d), .ref mm, .int ik, .ref kf, .ref tb, .int rw, .ref wk, .int ab, .int be, .ref pl, .ref sp, .int a0, .int a1, .int b0, .int b1, .ref po, .ref to, .ref ba, .ref li, .int lm])), (mm, IA cI 16 Fm), (tb, LA cJ 16 T), (wk, LA cJ 20 W0), (pl, IA cI 24 plF), (sp, IA cI 40 spF), (to, LA cJ 4 Q0), (li, LA cJ 6 L0)] (fun (rv : Int64) (uo : Int × Int32 × Int32 × Int32 × Int32 × Int32 × Int32 × Int32 × Int32 × (Nat → Int) × (Nat → Int) × (Nat → Int) × (Nat → Int)) => rv = lI uo.1 ∧ (s_lnM Fm d vk.toInt vi.toInt uo.1)) (fun (uo : Int × Int32 × Int32 × Int32 × Int32 × Int32 × Int32 × Int32 × Int32 × (Nat → Int) × (Nat → Int) × (Nat → Int) × (Nat → Int)) => [(g, .inr (2, [.int (nI 0), .int (nI d), .ref mm, .int ik, .ref kf, .ref tb, .int uo.2.1, .ref wk, .int uo.2.2.1, .int uo.2.2.2.1, .ref pl, .ref sp, .int uo.2.2.2.2.1, .int uo.2.2.2.2.2.1, .int uo.2.2.2.2.2.2.1, .int uo.2.2.2.2.2.2.2.1, .ref po, .ref to, .ref ba, .ref li, .int uo.2.2.2.2.2.2.2.2.1])), (mm, IA cI 16 Fm), (tb, LA cJ 16 uo.2.2.2.2.2.2.2.2.2.1), (wk, LA cJ 20 uo.2.2.2.2.2.2.2.2.2.2.1), (pl, IA cI 24 plF), (sp, IA cI 40 spF), (to, LA cJ 4 uo.2.2.2.2.2.2.2.2.2.2.2.1), (li, LA cJ 6 uo.2.2.2.2.2.2.2.2.2.2.2.2)]) 0 0 := by
  refine xol (cc := b_M_line) (maxL := 4) (by decide) rfl (Nat.le_of_ble_eq_true rfl) ?_
  intro p e s m args below meth c Q A hx hb hml hts hown hN hA hS hP hK hD hret ls hl
  have hl : lv_has ls 4 [(0, .ref g), (1, .int vk), (2, .int vi)] := hl
  obtain ⟨H, hH⟩ : ∃ z, z = s.heap := ⟨_, rfl⟩
  obtain ⟨locs, hlc⟩ : ∃ z : List Loc, z = [] := ⟨_, rfl⟩
  rw [← hH] at hP
  have hS : va_S A s.heap H locs := by rw [hH, hlc]; exact hS
  have key : W p l e rm_r_line s m args below meth c H locs 0 0 Q (F0 m 0 ls []) := by
    refine lv_aload_n hx hb d_M_line_0 rfl (lv_at hl 0 rfl) ?_
    refine lv_iconst (v := nI 0) hx hb d_M_line_1 (by decide) ?_
    refine va_put (D := D) (ci := 2) (v := .int (nI 0)) (ty := .int) (C := R_M) (T := F_M) (N := 21) hx hb hts iw_M ft_M ft_M_ok n_M hown hK hP hD hS 0 rfl rfl 0 (by decide) (hts _ tw_387) (fun _ h9 => h9) rfl (by decide +kernel) rfl rfl (Nat.le_of_ble_eq_true rfl) d_M_line_2 (fun H locs hP hD hS => ?_)
    have hP : va_P D vwC [(g, .inr (2, [.int (nI 0), .int (nI d), .ref mm, .int ik, .ref kf, .ref tb, .int rw, .ref wk, .int ab, .int be, .ref pl, .ref sp, .int a0, .int a1, .int b0, .int b1, .ref po, .ref to, .ref ba, .ref li, .int lm])), (mm, IA cI 16 Fm), (tb, LA cJ 16 T), (wk, LA cJ 20 W0), (pl, IA cI 24 plF), (sp, IA cI 40 spF), (to, LA cJ 4 Q0), (li, LA cJ 6 L0)] H := hP
    have hD : va_D A [(g, .inr (2, [.int (nI 0), .int (nI d), .ref mm, .int ik, .ref kf, .ref tb, .int rw, .ref wk, .int ab, .int be, .ref pl, .ref sp, .int a0, .int a1, .int b0, .int b1, .ref po, .ref to, .ref ba, .ref li, .int lm])), (mm, IA cI 16 Fm), (tb, LA cJ 16 T), (wk, LA cJ 20 W0), (pl, IA cI 24 plF), (sp, IA cI 40 spF), (to, LA cJ 4 Q0), (li, LA cJ 6 L0)] := hD
    refine lv_aload_n hx hb d_M_line_5 rfl (lv_at hl 0 rfl) ?_
    refine va_get (D := D) (ci := 2) (v := .int (nI d)) (C := R_M) (T := F_M) (N := 21) hx hb hts iw_M hown hK hP 0 rfl rfl 1 (by decide) (hts _ tw_388) (fun _ h9 => h9) rfl d_M_line_6 ?_
    refine lv_iconst (v := nI 3) hx hb d_M_line_9 (by decide) ?_
    refine xn_eq (tgt := 23) hx hb (by omega) (by omega) d_M_line_10 (by decide) (fun c10_0 => ?_) (fun c10_0 => ?_)
    · skip
      refine lv_ldc2 (v := lI (-1000000000000000000)) hx hb hown (hts _ tw_467) d_M_line_23 ?_
      exact hret H locs _ ls (lI (-1000000000000000000)) ((-1000000000000000000), rw, ab, be, a0, a1, b0, b1, lm, T, W0, Q0, L0) d_M_line_26 (by first | exact ⟨rfl, fun _ => rfl, fun q => absurd q (by have e00 : (nI 0).toInt = 0 := rfl; have e22 : (nI 2).toInt = 2 := rfl; omega)⟩ | (dsimp only; exact ⟨rfl, fun _ => rfl, fun q => absurd q (by have e00 : (nI 0).toInt = 0 := rfl; have e22 : (nI 2).toInt = 2 := rfl; omega)⟩)) hP hD hS
    · skip
      refine lv_iload_n hx hb d_M_line_13 rfl (lv_at hl 2 rfl) ?_
      refine lv_i2l (v := lI vi.toInt) hx hb d_M_line_14 rfl ?_
      refine lv_iconst (v := nI 0) hx hb d_M_line_15 (by decide) ?_
      refine lv_iconst (v := nI 2) hx hb d_M_line_16 (by decide) ?_
      refine xci (wc := []) (wr := [(g, .inr (2, [.int (nI 0), .int (nI d), .ref mm, .int ik, .ref kf, .ref tb, .int rw, .ref wk, .int ab, .int be, .ref pl, .ref sp, .int a0, .int a1, .int b0, .int b1, .ref po, .ref to, .ref ba, .ref li, .int lm])), (mm, IA cI 16 Fm), (tb, LA cJ 16 T), (wk, LA cJ 20 W0), (pl, IA cI 24 plF), (sp, IA cI 40 spF), (to, LA cJ 4 Q0), (li, LA cJ 6 L0)]) hP hD hS hA [] [0, 1, 2, 3, 4, 5, 6, 7] rfl rfl (by decide) (by decide) (va_runS (As := [.long (lI vi.toInt), .int (nI 0), .int (nI 2)]) (rest := []) ⟨hx, hb, hml, hown, hts⟩ (r_in l D cJ cI vi.toInt (nI 0) (nI 2) (lB_i _) H.size) (cwS 3 hts (gS tw_464 tw_465 tw_3 tw_466) rfl rfl rfl ⟨rfl, hd_M_in⟩ ⟨Nat.le_of_ble_eq_true rfl, Nat.le_of_ble_eq_true rfl⟩) (xPreS hN hK (hP.sub (ws' := []) [] rfl) (hD.sub (ws' := []) [] (by decide) rfl)) rfl rfl hl.1 rfl (lv_room (Nat.le_of_ble_eq_true rfl)) d_M_line_17 ⟨Nat.le_of_ble_eq_true rfl, Nat.le_of_ble_eq_true rfl⟩) (fun r_2 u_3 H locs hwi hP hD hS => ?_)
      try dsimp only at hwi
      have hP : va_P D vwC [(g, .inr (2, [.int (nI 0), .int (nI d), .ref mm, .int ik, .ref kf, .ref tb, .int rw, .ref wk, .int ab, .int be, .ref pl, .ref sp, .int a0, .int a1, .int b0, .int b1, .ref po, .ref to, .ref ba, .ref li, .int lm])), (mm, IA cI 16 Fm), (tb, LA cJ 16 T), (wk, LA cJ 20 W0), (pl, IA cI 24 plF), (sp, IA cI 40 spF), (to, LA cJ 4 Q0), (li, LA cJ 6 L0)] H := hP
      have hD : va_D A [(g, .inr (2, [.int (nI 0), .int (nI d), .ref mm, .int ik, .ref kf, .ref tb, .int rw, .ref wk, .int ab, .int be, .ref pl, .ref sp, .int a0, .int a1, .int b0, .int b1, .ref po, .ref to, .ref ba, .ref li, .int lm])), (mm, IA cI 16 Fm), (tb, LA cJ 16 T), (wk, LA cJ 20 W0), (pl, IA cI 24 plF), (sp, IA cI 40 spF), (to, LA cJ 4 Q0), (li, LA cJ 6 L0)] := hD
      rcases hwi with ⟨rfl, hwi⟩ | ⟨rfl, hwi⟩
      · skip
        refine xz_ne (tgt := 27) (X := (1 : Nat)) hx hb (nI_toInt (by omega)) d_M_line_20 (by decide) (fun c20_3 => ?_) (fun c20_3 => absurd c20_3 (by omega))
        have hd9 : d = 2 := by omega
        have e00 : (nI 0).toInt = 0 := rfl
        have e22 : (nI 2).toInt = 2 := rfl
        obtain ⟨i, hi, rfl⟩ := nI_range (v := vi) (d := 2) (by omega)
        have eii : (nI i).toInt = (i : Int) := nI_toInt (by omega)
        refine lv_aload_n hx hb d_M_line_27 rfl (lv_at hl 0 rfl) ?_
        refine lv_aload_n hx hb d_M_line_28 rfl (lv_at hl 0 rfl) ?_
        refine xci (wc := [(g, .inr (2, [.int (nI 0), .int (nI d), .ref mm, .int ik, .ref kf, .ref tb, .int rw, .ref wk, .int ab, .int be, .ref pl, .ref sp, .int a0, .int a1, .int b0, .int b1, .ref po, .ref to, .ref ba, .ref li, .int lm])), (mm, IA cI 16 Fm), (tb, LA cJ 16 T), (wk, LA cJ 20 W0), (pl, IA cI 24 plF), (sp, IA cI 40 spF)]) (wr := [(to, LA cJ 4 Q0), (li, LA cJ 6 L0)]) hP hD hS hA [0, 1, 2, 3, 4, 5] [6, 7] rfl rfl (by decide) (by decide) (va_runV (As := []) (rest := [.ref g]) ⟨hx, hb, hml, hown, hts⟩ (r_ownKind l D cJ cI g (nI 0) d ik rw ab be a0 a1 b0 b1 lm mm kf tb wk pl sp po to ba li Fm T W0 (by first | assumption | omega) (by first | assumption | omega) (by first | assumption | omega) H.size) (cwV 0 hts (gV tw_472 tw_474 tws_17 tw_3 tw_475) rfl rfl rfl ⟨rfl, hd_M_ownKind⟩ ⟨Nat.le_of_ble_eq_true rfl, Nat.le_of_ble_eq_true rfl⟩) (xPreV (C := R_M) (T := F_M) (N := 21) (q0 := 0) hN hK (hP.sub (ws' := [(g, .inr (2, [.int (nI 0), .int (nI d), .ref mm, .int ik, .ref kf, .ref tb, .int rw, .ref wk, .int ab, .int be, .ref pl, .ref sp, .int a0, .int a1, .int b0, .int b1, .ref po, .ref to, .ref ba, .ref li, .int lm])), (mm, IA cI 16 Fm), (tb, LA cJ 16 T), (wk, LA cJ 20 W0), (pl, IA cI 24 plF), (sp, IA cI 40 spF)]) [0, 1, 2, 3, 4, 5] rfl) (hD.sub (ws' := [(g, .inr (2, [.int (nI 0), .int (nI d), .ref mm, .int ik, .ref kf, .ref tb, .int rw, .ref wk, .int ab, .int be, .ref pl, .ref sp, .int a0, .int a1, .int b0, .int b1, .ref po, .ref to, .ref ba, .ref li, .int lm])), (mm, IA cI 16 Fm), (tb, LA cJ 16 T), (wk, LA cJ 20 W0), (pl, IA cI 24 plF), (sp, IA cI 40 spF)]) [0, 1, 2, 3, 4, 5] (by decide) rfl) rfl rfl) rfl rfl hl.1 rfl (lv_room (Nat.le_of_ble_eq_true rfl)) d_M_line_29 ⟨Nat.le_of_ble_eq_true rfl, Nat.le_of_ble_eq_true rfl⟩) (fun r_5 u_6 H locs hw_7 hP hD hS => ?_)
        obtain ⟨T2_8, W2_9⟩ := u_6
        try dsimp only at hw_7
        have hP : va_P D vwC [(g, .inr (2, [.int (nI 0), .int (nI d), .ref mm, .int ik, .ref kf, .ref tb, .int (nI (d + 1)), .ref wk, .int (nI (abN (prt Fm 0) (d + 1))), .int (nI (beN (prt Fm 0) (d + 1))), .ref pl, .ref sp, .int (nI (abN (prt Fm 1) d)), .int (nI (beN (prt Fm 1) d)), .int (nI (abN (prt Fm 0) (d + 1))), .int (nI (beN (prt Fm 0) (d + 1))), .ref po, .ref to, .ref ba, .ref li, .int lm])), (mm, IA cI 16 Fm), (tb, LA cJ 16 T2_8), (wk, LA cJ 20 W2_9), (pl, IA cI 24 plF), (sp, IA cI 40 spF), (to, LA cJ 4 Q0), (li, LA cJ 6 L0)] H := hP.sub [2, 3, 4, 5, 6, 7, 0, 1] rfl
        have hD : va_D A [(g, .inr (2, [.int (nI 0), .int (nI d), .ref mm, .int ik, .ref kf, .ref tb, .int (nI (d + 1)), .ref wk, .int (nI (abN (prt Fm 0) (d + 1))), .int (nI (beN (prt Fm 0) (d + 1))), .ref pl, .ref sp, .int (nI (abN (prt Fm 1) d)), .int (nI (beN (prt Fm 1) d)), .int (nI (abN (prt Fm 0) (d + 1))), .int (nI (beN (prt Fm 0) (d + 1))), .ref po, .ref to, .ref ba, .ref li, .int lm])), (mm, IA cI 16 Fm), (tb, LA cJ 16 T2_8), (wk, LA cJ 20 W2_9), (pl, IA cI 24 plF), (sp, IA cI 40 spF), (to, LA cJ 4 Q0), (li, LA cJ 6 L0)] := hD.sub [2, 3, 4, 5, 6, 7, 0, 1] (by decide) rfl
        subst hw_7
        refine xcv (wc := [(g, .inr (2, [.int (nI 0), .int (nI d), .ref mm, .int ik, .ref kf, .ref tb, .int (nI (d + 1)), .ref wk, .int (nI (abN (prt Fm 0) (d + 1))), .int (nI (beN (prt Fm 0) (d + 1))), .ref pl, .ref sp, .int (nI (abN (prt Fm 1) d)), .int (nI (beN (prt Fm 1) d)), .int (nI (abN (prt Fm 0) (d + 1))), .int (nI (beN (prt Fm 0) (d + 1))), .ref po, .ref to, .ref ba, .ref li, .int lm])), (mm, IA cI 16 Fm), (to, LA cJ 4 Q0), (li, LA cJ 6 L0)]) (wr := [(tb, LA cJ 16 T2_8), (wk, LA cJ 20 W2_9), (pl, IA cI 24 plF), (sp, IA cI 40 spF)]) hP hD hS hA [0, 1, 6, 7] [2, 3, 4, 5] rfl rfl (by decide) (by decide) (va_runV (As := [.int (kndM Fm d)]) (rest := []) ⟨hx, hb, hml, hown, hts⟩ (r_findLines l D cJ cI g (nI 0) d ik (nI (d + 1)) (nI (abN (prt Fm 0) (d + 1))) (nI (beN (prt Fm 0) (d + 1))) (nI (abN (prt Fm 1) d)) (nI (beN (prt Fm 1) d)) (nI (abN (prt Fm 0) (d + 1))) (nI (beN (prt Fm 0) (d + 1))) lm mm kf tb wk pl sp po to ba li Fm Q0 L0 (kndM Fm d) (by first | assumption | omega) H.size) (cwV 1 hts (gV tw_601 tw_603 tws_33 tw_3 tw_604) rfl rfl rfl ⟨rfl, hd_M_findLines⟩ ⟨Nat.le_of_ble_eq_true rfl, Nat.le_of_ble_eq_true rfl⟩) (xPreV (C := R_M) (T := F_M) (N := 21) (q0 := 0) hN hK (hP.sub (ws' := [(g, .inr (2, [.int (nI 0), .int (nI d), .ref mm, .int ik, .ref kf, .ref tb, .int (nI (d + 1)), .ref wk, .int (nI (abN (prt Fm 0) (d + 1))), .int (nI (beN (prt Fm 0) (d + 1))), .ref pl, .ref sp, .int (nI (abN (prt Fm 1) d)), .int (nI (beN (prt Fm 1) d)), .int (nI (abN (prt Fm 0) (d + 1))), .int (nI (beN (prt Fm 0) (d + 1))), .ref po, .ref to, .ref ba, .ref li, .int lm])), (mm, IA cI 16 Fm), (to, LA cJ 4 Q0), (li, LA cJ 6 L0)]) [0, 1, 6, 7] rfl) (hD.sub (ws' := [(g, .inr (2, [.int (nI 0), .int (nI d), .ref mm, .int ik, .ref kf, .ref tb, .int (nI (d + 1)), .ref wk, .int (nI (abN (prt Fm 0) (d + 1))), .int (nI (beN (prt Fm 0) (d + 1))), .ref pl, .ref sp, .int (nI (abN (prt Fm 1) d)), .int (nI (beN (prt Fm 1) d)), .int (nI (abN (prt Fm 0) (d + 1))), .int (nI (beN (prt Fm 0) (d + 1))), .ref po, .ref to, .ref ba, .ref li, .int lm])), (mm, IA cI 16 Fm), (to, LA cJ 4 Q0), (li, LA cJ 6 L0)]) [0, 1, 6, 7] (by decide) rfl) rfl rfl) rfl rfl hl.1 rfl (lv_room (Nat.le_of_ble_eq_true rfl)) d_M_line_32 ⟨Nat.le_of_ble_eq_true rfl, Nat.le_of_ble_eq_true rfl⟩) (fun u_11 H locs hfl hP hD hS => ?_)
        obtain ⟨lm9, Q2_12, L9⟩ := u_11
        try dsimp only at hfl
        have hP : va_P D vwC [(g, .inr (2, [.int (nI 0), .int (nI d), .ref mm, .int ik, .ref kf, .ref tb, .int (nI (d + 1)), .ref wk, .int (nI (abN (prt Fm 0) (d + 1))), .int (nI (beN (prt Fm 0) (d + 1))), .ref pl, .ref sp, .int (nI (abN (prt Fm 1) d)), .int (nI (beN (prt Fm 1) d)), .int (nI (abN (prt Fm 0) (d + 1))), .int (nI (beN (prt Fm 0) (d + 1))), .ref po, .ref to, .ref ba, .ref li, .int (nI lm9)])), (mm, IA cI 16 Fm), (tb, LA cJ 16 T2_8), (wk, LA cJ 20 W2_9), (pl, IA cI 24 plF), (sp, IA cI 40 spF), (to, LA cJ 4 Q2_12), (li, LA cJ 6 L9)] H := hP.sub [4, 5, 0, 1, 2, 3, 6, 7] rfl
        have hD : va_D A [(g, .inr (2, [.int (nI 0), .int (nI d), .ref mm, .int ik, .ref kf, .ref tb, .int (nI (d + 1)), .ref wk, .int (nI (abN (prt Fm 0) (d + 1))), .int (nI (beN (prt Fm 0) (d + 1))), .ref pl, .ref sp, .int (nI (abN (prt Fm 1) d)), .int (nI (beN (prt Fm 1) d)), .int (nI (abN (prt Fm 0) (d + 1))), .int (nI (beN (prt Fm 0) (d + 1))), .ref po, .ref to, .ref ba, .ref li, .int (nI lm9)])), (mm, IA cI 16 Fm), (tb, LA cJ 16 T2_8), (wk, LA cJ 20 W2_9), (pl, IA cI 24 plF), (sp, IA cI 40 spF), (to, LA cJ 4 Q2_12), (li, LA cJ 6 L9)] := hD.sub [4, 5, 0, 1, 2, 3, 6, 7] (by decide) rfl
        refine lv_iload_n hx hb d_M_line_35 rfl (lv_at hl 1 rfl) ?_
        refine lv_i2l (v := lI vk.toInt) hx hb d_M_line_36 rfl ?_
        refine lv_iconst (v := nI 0) hx hb d_M_line_37 (by decide) ?_
        refine lv_aload_n hx hb d_M_line_38 rfl (lv_at hl 0 rfl) ?_
        refine va_get (D := D) (ci := 2) (v := .int (nI lm9)) (C := R_M) (T := F_M) (N := 21) hx hb hts iw_M hown hK hP 0 rfl rfl 20 (by decide) (hts _ tw_407) (fun _ h9 => h9) rfl d_M_line_39 ?_
        refine lv_iconst (v := nI 1) hx hb d_M_line_42 (by decide) ?_
        refine lv_isub hx hb d_M_line_43 ?_
        refine xci (wc := []) (wr := [(g, .inr (2, [.int (nI 0), .int (nI d), .ref mm, .int ik, .ref kf, .ref tb, .int (nI (d + 1)), .ref wk, .int (nI (abN (prt Fm 0) (d + 1))), .int (nI (beN (prt Fm 0) (d + 1))), .ref pl, .ref sp, .int (nI (abN (prt Fm 1) d)), .int (nI (beN (prt Fm 1) d)), .int (nI (abN (prt Fm 0) (d + 1))), .int (nI (beN (prt Fm 0) (d + 1))), .ref po, .ref to, .ref ba, .ref li, .int (nI lm9)])), (mm, IA cI 16 Fm), (tb, LA cJ 16 T2_8), (wk, LA cJ 20 W2_9), (pl, IA cI 24 plF), (sp, IA cI 40 spF), (to, LA cJ 4 Q2_12), (li, LA cJ 6 L9)]) hP hD hS hA [] [0, 1, 2, 3, 4, 5, 6, 7] rfl rfl (by decide) (by decide) (va_runS (As := [.long (lI vk.toInt), .int (nI 0), .int (nI lm9 - nI 1)]) (rest := []) ⟨hx, hb, hml, hown, hts⟩ (r_in l D cJ cI vk.toInt (nI 0) (nI lm9 - nI 1) (lB_i _) H.size) (cwS 3 hts (gS tw_464 tw_465 tw_3 tw_466) rfl rfl rfl ⟨rfl, hd_M_in⟩ ⟨Nat.le_of_ble_eq_true rfl, Nat.le_of_ble_eq_true rfl⟩) (xPreS hN hK (hP.sub (ws' := []) [] rfl) (hD.sub (ws' := []) [] (by decide) rfl)) rfl rfl hl.1 rfl (lv_room (Nat.le_of_ble_eq_true rfl)) d_M_line_44 ⟨Nat.le_of_ble_eq_true rfl, Nat.le_of_ble_eq_true rfl⟩) (fun r_13 u_14 H locs hwk hP hD hS => ?_)
        try dsimp only at hwk
        have hP : va_P D vwC [(g, .inr (2, [.int (nI 0), .int (nI d), .ref mm, .int ik, .ref kf, .ref tb, .int (nI (d + 1)), .ref wk, .int (nI (abN (prt Fm 0) (d + 1))), .int (nI (beN (prt Fm 0) (d + 1))), .ref pl, .ref sp, .int (nI (abN (prt Fm 1) d)), .int (nI (beN (prt Fm 1) d)), .int (nI (abN (prt Fm 0) (d + 1))), .int (nI (beN (prt Fm 0) (d + 1))), .ref po, .ref to, .ref ba, .ref li, .int (nI lm9)])), (mm, IA cI 16 Fm), (tb, LA cJ 16 T2_8), (wk, LA cJ 20 W2_9), (pl, IA cI 24 plF), (sp, IA cI 40 spF), (to, LA cJ 4 Q2_12), (li, LA cJ 6 L9)] H := hP
        have hD : va_D A [(g, .inr (2, [.int (nI 0), .int (nI d), .ref mm, .int ik, .ref kf, .ref tb, .int (nI (d + 1)), .ref wk, .int (nI (abN (prt Fm 0) (d + 1))), .int (nI (beN (prt Fm 0) (d + 1))), .ref pl, .ref sp, .int (nI (abN (prt Fm 1) d)), .int (nI (beN (prt Fm 1) d)), .int (nI (abN (prt Fm 0) (d + 1))), .int (nI (beN (prt Fm 0) (d + 1))), .ref po, .ref to, .ref ba, .ref li, .int (nI lm9)])), (mm, IA cI 16 Fm), (tb, LA cJ 16 T2_8), (wk, LA cJ 20 W2_9), (pl, IA cI 24 plF), (sp, IA cI 40 spF), (to, LA cJ 4 Q2_12), (li, LA cJ 6 L9)] := hD
        rcases hwk with ⟨rfl, hwk⟩ | ⟨rfl, hwk⟩
        · skip
          refine xz_ne (tgt := 54) (X := (1 : Nat)) hx hb (nI_toInt (by omega)) d_M_line_47 (by decide) (fun c47_14 => ?_) (fun c47_14 => absurd c47_14 (by omega))
          rw [lm_sub hfl.2.1] at hwk
          have hlm2 := hfl.2.1
          obtain ⟨k, hk, rfl⟩ := nI_range (v := vk) (d := lm9 - 1) (by omega)
          have ekk : (nI k).toInt = (k : Int) := nI_toInt (by omega)
          have ekt : (nI k).toInt.toNat = k := by rw [ekk]; rfl
          have eit : (nI i).toInt.toNat = i := by rw [eii]; rfl
          refine lv_aload_n hx hb d_M_line_54 rfl (lv_at hl 0 rfl) ?_
          refine va_get (D := D) (ci := 2) (v := .int (nI lm9)) (C := R_M) (T := F_M) (N := 21) hx hb hts iw_M hown hK hP 0 rfl rfl 20 (by decide) (hts _ tw_407) (fun _ h9 => h9) rfl d_M_line_55 ?_
          refine lv_iconst (v := nI 2) hx hb d_M_line_58 (by decide) ?_
          refine xn_ne (tgt := 73) hx hb (by omega) (by omega) d_M_line_59 (by decide) (fun c59_15 => ?_) (fun c59_15 => ?_)
          · skip
            refine lv_iconst (v := nI 0) hx hb d_M_line_73 (by decide) ?_
            refine lv_istore_n (lv' := [(3, .int (nI 0)), (0, .ref g), (1, .int (nI k)), (2, .int (nI i))]) hx hb d_M_line_74 rfl hl (by decide) rfl (fun ls hl => ?_)
            refine lv_aload_n hx hb d_M_line_75 rfl (lv_at hl 1 rfl) ?_
            refine va_get (D := D) (ci := 2) (v := .ref li) (C := R_M) (T := F_M) (N := 21) hx hb hts iw_M hown hK hP 0 rfl rfl 19 (by decide) (hts _ tw_406) (fun _ h9 => h9) rfl d_M_line_76 ?_
            refine lv_iconst (v := nI 3) hx hb d_M_line_79 (by decide) ?_
            refine lv_iload_n hx hb d_M_line_80 rfl (lv_at hl 0 rfl) ?_
            refine xz_eq (tgt := 90) (X := (0 : Nat)) hx hb (nI_toInt (by omega)) d_M_line_81 (by decide) (fun c81_16 => ?_) (fun c81_16 => absurd c81_16 (by omega))
            refine lv_iload_n hx hb d_M_line_90 rfl (lv_at hl 2 rfl) ?_
            refine xn_mul hx hb d_M_line_91 ?_
            refine lv_iload_n hx hb d_M_line_92 rfl (lv_at hl 3 rfl) ?_
            refine xn_add hx hb d_M_line_93 ?_
            refine xl_ald hx hb hK hP 7 0 rfl rfl (k := (3 * k) + i) (by omega) (by first | decide | omega) d_M_line_94 ?_
            exact hret H locs _ ls (lI (L9 ((3 * k) + i))) (L9 ((3 * k) + i), nI (d + 1), nI (abN (prt Fm 0) (d + 1)), nI (beN (prt Fm 0) (d + 1)), nI (abN (prt Fm 1) d), nI (beN (prt Fm 1) d), nI (abN (prt Fm 0) (d + 1)), nI (beN (prt Fm 0) (d + 1)), nI lm9, T2_8, W2_9, Q2_12, L9) d_M_line_95 (by first | exact ⟨rfl, fun q => absurd (show d = 2 ∧ 0 ≤ (nI i).toInt ∧ (nI i).toInt ≤ 2 from by omega) q, fun _ => ⟨lm9, L9, hfl.1, fun q => absurd (show 0 ≤ (nI k).toInt ∧ (nI k).toInt < (lm9 : Int) from by omega) q, fun _ => ⟨fun q => absurd q.1 (by omega), fun _ => (by rw [ekt, eit])⟩⟩⟩ | (dsimp only; exact ⟨rfl, fun q => absurd (show d = 2 ∧ 0 ≤ (nI i).toInt ∧ (nI i).toInt ≤ 2 from by omega) q, fun _ => ⟨lm9, L9, hfl.1, fun q => absurd (show 0 ≤ (nI k).toInt ∧ (nI k).toInt < (lm9 : Int) from by omega) q, fun _ => ⟨fun q => absurd q.1 (by omega), fun _ => (by rw [ekt, eit])⟩⟩⟩)) hP hD hS
          · skip
            refine lv_aload_n hx hb d_M_line_62 rfl (lv_at hl 0 rfl) ?_
            refine xci (wc := [(g, .inr (2, [.int (nI 0), .int (nI d), .ref mm, .int ik, .ref kf, .ref tb, .int (nI (d + 1)), .ref wk, .int (nI (abN (prt Fm 0) (d + 1))), .int (nI (beN (prt Fm 0) (d + 1))), .ref pl, .ref sp, .int (nI (abN (prt Fm 1) d)), .int (nI (beN (prt Fm 1) d)), .int (nI (abN (prt Fm 0) (d + 1))), .int (nI (beN (prt Fm 0) (d + 1))), .ref po, .ref to, .ref ba, .ref li, .int (nI lm9)])), (li, LA cJ 6 L9)]) (wr := [(mm, IA cI 16 Fm), (tb, LA cJ 16 T2_8), (wk, LA cJ 20 W2_9), (pl, IA cI 24 plF), (sp, IA cI 40 spF), (to, LA cJ 4 Q2_12)]) hP hD hS hA [0, 7] [1, 2, 3, 4, 5, 6] rfl rfl (by decide) (by decide) (va_runV (As := []) (rest := []) ⟨hx, hb, hml, hown, hts⟩ (r_isSecond l D cJ cI g (nI 0) d ik (nI (d + 1)) (nI (abN (prt Fm 0) (d + 1))) (nI (beN (prt Fm 0) (d + 1))) (nI (abN (prt Fm 1) d)) (nI (beN (prt Fm 1) d)) (nI (abN (prt Fm 0) (d + 1))) (nI (beN (prt Fm 0) (d + 1))) (nI lm9) mm kf tb wk pl sp po to ba li L9 (hfl.2.2 (by omega)) H.size) (cwV 0 hts (gV tw_617 tw_619 tws_36 tw_3 tw_620) rfl rfl rfl ⟨rfl, hd_M_isSecondFirst⟩ ⟨Nat.le_of_ble_eq_true rfl, Nat.le_of_ble_eq_true rfl⟩) (xPreV (C := R_M) (T := F_M) (N := 21) (q0 := 0) hN hK (hP.sub (ws' := [(g, .inr (2, [.int (nI 0), .int (nI d), .ref mm, .int ik, .ref kf, .ref tb, .int (nI (d + 1)), .ref wk, .int (nI (abN (prt Fm 0) (d + 1))), .int (nI (beN (prt Fm 0) (d + 1))), .ref pl, .ref sp, .int (nI (abN (prt Fm 1) d)), .int (nI (beN (prt Fm 1) d)), .int (nI (abN (prt Fm 0) (d + 1))), .int (nI (beN (prt Fm 0) (d + 1))), .ref po, .ref to, .ref ba, .ref li, .int (nI lm9)])), (li, LA cJ 6 L9)]) [0, 7] rfl) (hD.sub (ws' := [(g, .inr (2, [.int (nI 0), .int (nI d), .ref mm, .int ik, .ref kf, .ref tb, .int (nI (d + 1)), .ref wk, .int (nI (abN (prt Fm 0) (d + 1))), .int (nI (beN (prt Fm 0) (d + 1))), .ref pl, .ref sp, .int (nI (abN (prt Fm 1) d)), .int (nI (beN (prt Fm 1) d)), .int (nI (abN (prt Fm 0) (d + 1))), .int (nI (beN (prt Fm 0) (d + 1))), .ref po, .ref to, .ref ba, .ref li, .int (nI lm9)])), (li, LA cJ 6 L9)]) [0, 7] (by decide) rfl) rfl rfl) rfl rfl hl.1 rfl (lv_room (Nat.le_of_ble_eq_true rfl)) d_M_line_63 ⟨Nat.le_of_ble_eq_true rfl, Nat.le_of_ble_eq_true rfl⟩) (fun r_18 u_19 H locs hls hP hD hS => ?_)
            try dsimp only at hls
            have hP : va_P D vwC [(g, .inr (2, [.int (nI 0), .int (nI d), .ref mm, .int ik, .ref kf, .ref tb, .int (nI (d + 1)), .ref wk, .int (nI (abN (prt Fm 0) (d + 1))), .int (nI (beN (prt Fm 0) (d + 1))), .ref pl, .ref sp, .int (nI (abN (prt Fm 1) d)), .int (nI (beN (prt Fm 1) d)), .int (nI (abN (prt Fm 0) (d + 1))), .int (nI (beN (prt Fm 0) (d + 1))), .ref po, .ref to, .ref ba, .ref li, .int (nI lm9)])), (mm, IA cI 16 Fm), (tb, LA cJ 16 T2_8), (wk, LA cJ 20 W2_9), (pl, IA cI 24 plF), (sp, IA cI 40 spF), (to, LA cJ 4 Q2_12), (li, LA cJ 6 L9)] H := hP.sub [6, 0, 1, 2, 3, 4, 5, 7] rfl
            have hD : va_D A [(g, .inr (2, [.int (nI 0), .int (nI d), .ref mm, .int ik, .ref kf, .ref tb, .int (nI (d + 1)), .ref wk, .int (nI (abN (prt Fm 0) (d + 1))), .int (nI (beN (prt Fm 0) (d + 1))), .ref pl, .ref sp, .int (nI (abN (prt Fm 1) d)), .int (nI (beN (prt Fm 1) d)), .int (nI (abN (prt Fm 0) (d + 1))), .int (nI (beN (prt Fm 0) (d + 1))), .ref po, .ref to, .ref ba, .ref li, .int (nI lm9)])), (mm, IA cI 16 Fm), (tb, LA cJ 16 T2_8), (wk, LA cJ 20 W2_9), (pl, IA cI 24 plF), (sp, IA cI 40 spF), (to, LA cJ 4 Q2_12), (li, LA cJ 6 L9)] := hD.sub [6, 0, 1, 2, 3, 4, 5, 7] (by decide) rfl
            rcases hls with ⟨rfl, hls⟩ | ⟨rfl, hls⟩
            · skip
              refine xz_eq (tgt := 73) (X := (1 : Nat)) hx hb (nI_toInt (by omega)) d_M_line_66 (by decide) (fun c66_19 => absurd c66_19 (by omega)) (fun c66_19 => ?_)
              refine lv_iconst (v := nI 1) hx hb d_M_line_69 (by decide) ?_
              refine lv_goto (tgt := 74) hx hb d_M_line_70 (by decide) ?_
              refine lv_istore_n (lv' := [(3, .int (nI 1)), (0, .ref g), (1, .int (nI k)), (2, .int (nI i))]) hx hb d_M_line_74 rfl hl (by decide) rfl (fun ls hl => ?_)
              refine lv_aload_n hx hb d_M_line_75 rfl (lv_at hl 1 rfl) ?_
              refine va_get (D := D) (ci := 2) (v := .ref li) (C := R_M) (T := F_M) (N := 21) hx hb hts iw_M hown hK hP 0 rfl rfl 19 (by decide) (hts _ tw_406) (fun _ h9 => h9) rfl d_M_line_76 ?_
              refine lv_iconst (v := nI 3) hx hb d_M_line_79 (by decide) ?_
              refine lv_iload_n hx hb d_M_line_80 rfl (lv_at hl 0 rfl) ?_
              refine xz_eq (tgt := 90) (X := (1 : Nat)) hx hb (nI_toInt (by omega)) d_M_line_81 (by decide) (fun c81_20 => absurd c81_20 (by omega)) (fun c81_20 => ?_)
              refine lv_iconst (v := nI 1) hx hb d_M_line_84 (by decide) ?_
              refine lv_iload_n hx hb d_M_line_85 rfl (lv_at hl 2 rfl) ?_
              refine xn_sub hx hb (by omega) d_M_line_86 ?_
              refine lv_goto (tgt := 91) hx hb d_M_line_87 (by decide) ?_
              refine xn_mul hx hb d_M_line_91 ?_
              refine lv_iload_n hx hb d_M_line_92 rfl (lv_at hl 3 rfl) ?_
              refine xn_add hx hb d_M_line_93 ?_
              refine xl_ald hx hb hK hP 7 0 rfl rfl (k := (3 * (1 - k)) + i) (by omega) (by first | decide | omega) d_M_line_94 ?_
              exact hret H locs _ ls (lI (L9 ((3 * (1 - k)) + i))) (L9 ((3 * (1 - k)) + i), nI (d + 1), nI (abN (prt Fm 0) (d + 1)), nI (beN (prt Fm 0) (d + 1)), nI (abN (prt Fm 1) d), nI (beN (prt Fm 1) d), nI (abN (prt Fm 0) (d + 1)), nI (beN (prt Fm 0) (d + 1)), nI lm9, T2_8, W2_9, Q2_12, L9) d_M_line_95 (by first | exact ⟨rfl, fun q => absurd (show d = 2 ∧ 0 ≤ (nI i).toInt ∧ (nI i).toInt ≤ 2 from by omega) q, fun _ => ⟨lm9, L9, hfl.1, fun q => absurd (show 0 ≤ (nI k).toInt ∧ (nI k).toInt < (lm9 : Int) from by omega) q, fun _ => ⟨fun _ => (by rw [ekt, eit]), fun q => absurd ⟨by omega, hls⟩ q⟩⟩⟩ | (dsimp only; exact ⟨rfl, fun q => absurd (show d = 2 ∧ 0 ≤ (nI i).toInt ∧ (nI i).toInt ≤ 2 from by omega) q, fun _ => ⟨lm9, L9, hfl.1, fun q => absurd (show 0 ≤ (nI k).toInt ∧ (nI k).toInt < (lm9 : Int) from by omega) q, fun _ => ⟨fun _ => (by rw [ekt, eit]), fun q => absurd ⟨by omega, hls⟩ q⟩⟩⟩)) hP hD hS
            · skip
              refine xz_eq (tgt := 73) (X := (0 : Nat)) hx hb (nI_toInt (by omega)) d_M_line_66 (by decide) (fun c66_21 => ?_) (fun c66_21 => absurd c66_21 (by omega))
              refine lv_iconst (v := nI 0) hx hb d_M_line_73 (by decide) ?_
              refine lv_istore_n (lv' := [(3, .int (nI 0)), (0, .ref g), (1, .int (nI k)), (2, .int (nI i))]) hx hb d_M_line_74 rfl hl (by decide) rfl (fun ls hl => ?_)
              refine lv_aload_n hx hb d_M_line_75 rfl (lv_at hl 1 rfl) ?_
              refine va_get (D := D) (ci := 2) (v := .ref li) (C := R_M) (T := F_M) (N := 21) hx hb hts iw_M hown hK hP 0 rfl rfl 19 (by decide) (hts _ tw_406) (fun _ h9 => h9) rfl d_M_line_76 ?_
              refine lv_iconst (v := nI 3) hx hb d_M_line_79 (by decide) ?_
              refine lv_iload_n hx hb d_M_line_80 rfl (lv_at hl 0 rfl) ?_
              refine xz_eq (tgt := 90) (X := (0 : Nat)) hx hb (nI_toInt (by omega)) d_M_line_81 (by decide) (fun c81_22 => ?_) (fun c81_22 => absurd c81_22 (by omega))
              refine lv_iload_n hx hb d_M_line_90 rfl (lv_at hl 2 rfl) ?_
              refine xn_mul hx hb d_M_line_91 ?_
              refine lv_iload_n hx hb d_M_line_92 rfl (lv_at hl 3 rfl) ?_
              refine xn_add hx hb d_M_line_93 ?_
              refine xl_ald hx hb hK hP 7 0 rfl rfl (k := (3 * k) + i) (by omega) (by first | decide | omega) d_M_line_94 ?_
              exact hret H locs _ ls (lI (L9 ((3 * k) + i))) (L9 ((3 * k) + i), nI (d + 1), nI (abN (prt Fm 0) (d + 1)), nI (beN (prt Fm 0) (d + 1)), nI (abN (prt Fm 1) d), nI (beN (prt Fm 1) d), nI (abN (prt Fm 0) (d + 1)), nI (beN (prt Fm 0) (d + 1)), nI lm9, T2_8, W2_9, Q2_12, L9) d_M_line_95 (by first | exact ⟨rfl, fun q => absurd (show d = 2 ∧ 0 ≤ (nI i).toInt ∧ (nI i).toInt ≤ 2 from by omega) q, fun _ => ⟨lm9, L9, hfl.1, fun q => absurd (show 0 ≤ (nI k).toInt ∧ (nI k).toInt < (lm9 : Int) from by omega) q, fun _ => ⟨fun q => absurd q.2 hls, fun _ => (by rw [ekt, eit])⟩⟩⟩ | (dsimp only; exact ⟨rfl, fun q => absurd (show d = 2 ∧ 0 ≤ (nI i).toInt ∧ (nI i).toInt ≤ 2 from by omega) q, fun _ => ⟨lm9, L9, hfl.1, fun q => absurd (show 0 ≤ (nI k).toInt ∧ (nI k).toInt < (lm9 : Int) from by omega) q, fun _ => ⟨fun q => absurd q.2 hls, fun _ => (by rw [ekt, eit])⟩⟩⟩)) hP hD hS
        · skip
          refine xz_ne (tgt := 54) (X := (0 : Nat)) hx hb (nI_toInt (by omega)) d_M_line_47 (by decide) (fun c47_23 => absurd c47_23 (by omega)) (fun c47_23 => ?_)
          refine lv_ldc2 (v := lI (-1000000000000000000)) hx hb hown (hts _ tw_467) d_M_line_50 ?_
          exact hret H locs _ ls (lI (-1000000000000000000)) ((-1000000000000000000), nI (d + 1), nI (abN (prt Fm 0) (d + 1)), nI (beN (prt Fm 0) (d + 1)), nI (abN (prt Fm 1) d), nI (beN (prt Fm 1) d), nI (abN (prt Fm 0) (d + 1)), nI (beN (prt Fm 0) (d + 1)), nI lm9, T2_8, W2_9, Q2_12, L9) d_M_line_53 (by first | exact ⟨rfl, fun q => absurd (show d = 2 ∧ 0 ≤ (nI i).toInt ∧ (nI i).toInt ≤ 2 from by omega) q, fun _ => ⟨lm9, L9, hfl.1, fun _ => rfl, fun q => absurd q (by rw [lm_sub hfl.2.1] at hwk; omega)⟩⟩ | (dsimp only; exact ⟨rfl, fun q => absurd (show d = 2 ∧ 0 ≤ (nI i).toInt ∧ (nI i).toInt ≤ 2 from by omega) q, fun _ => ⟨lm9, L9, hfl.1, fun _ => rfl, fun q => absurd q (by rw [lm_sub hfl.2.1] at hwk; omega)⟩⟩)) hP hD hS
      · skip
        refine xz_ne (tgt := 27) (X := (0 : Nat)) hx hb (nI_toInt (by omega)) d_M_line_20 (by decide) (fun c20_24 => absurd c20_24 (by omega)) (fun c20_24 => ?_)
        refine lv_ldc2 (v := lI (-1000000000000000000)) hx hb hown (hts _ tw_467) d_M_line_23 ?_
        exact hret H locs _ ls (lI (-1000000000000000000)) ((-1000000000000000000), rw, ab, be, a0, a1, b0, b1, lm, T, W0, Q0, L0) d_M_line_26 (by first | exact ⟨rfl, fun _ => rfl, fun q => absurd q (by have e00 : (nI 0).toInt = 0 := rfl; have e22 : (nI 2).toInt = 2 := rfl; omega)⟩ | (dsimp only; exact ⟨rfl, fun _ => rfl, fun q => absurd q (by have e00 : (nI 0).toInt = 0 := rfl; have e22 : (nI 2).toInt = 2 := rfl; omega)⟩)) hP hD hS
  rw [hH, hlc] at key; exact key
