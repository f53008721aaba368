/-! height thrown, and the law's helper (wip/gen_law.py) -/
def rm_kh_thr : Room := { frames := 6, cells := 1, slots := 6, locals := 107 }
set_option maxHeartbeats 4000000 in
set_option maxRecDepth 100000 in
/-- height, where it throws -/
theorem kh_thr (l : Launch) (hl0 : l.stackTraces = false) (D : va_G) (cJ : ClassId) (h : Nat) (d : Nat) (kb : Int32) (fo : Nat) (ke : Nat) (ht : Nat) (wo : Nat) (fi : Nat) (se : Nat) (Fm : Nat → Int) (hc : Nat) (hf : Nat) (hp : Nat) (ho : Nat) (r0 : Int32) (C : Nat → Int) (F : Nat → Int) (P : Nat → Int) (O : Nat → Int) (vp : Int32) (sa : Nat) (hd2 : 2 ≤ d) (hd3 : d ≤ 3) (hF : ∀ k, k < 16 → inB (Fm k) 20) (hpt : vp.toInt = 0 ∨ vp.toInt = 1) (hz : det (prt Fm 1) d = 0) (sz : Nat) : xMt l y_K_height (Cond.code y_K_height b_K_height 4 (some .long) :: tW) rm_kh_thr [.ref h, .int vp] D vwC [(cJ, .long)] sz [(h, .inr (1, [.int (nI d), .int kb, .ref fo, .ref ke, .ref ht, .ref wo, .ref fi, .ref se])), (fo, LA cJ 16 Fm), (ht, .inr (0, [.int r0, .ref hc, .ref hf, .ref hp, .ref ho])), (hc, LA cJ 16 C), (hf, LA cJ 16 F), (hp, LA cJ 16 P), (ho, LA cJ 5 O)] sa (fun (uo : Int32 × (Nat → Int) × (Nat → Int) × (Nat → Int) × (Nat → Int)) => [(h, .inr (1, [.int (nI d), .int kb, .ref fo, .ref ke, .ref ht, .ref wo, .ref fi, .ref se])), (fo, LA cJ 16 Fm), (ht, .inr (0, [.int uo.1, .ref hc, .ref hf, .ref hp, .ref ho])), (hc, LA cJ 16 uo.2.1), (hf, LA cJ 16 uo.2.2.1), (hp, LA cJ 16 uo.2.2.2.1), (ho, LA cJ 5 uo.2.2.2.2)]) := by
  refine xoT (cc := b_K_height) (maxL := 4) (ret := some .long) (by decide) rfl (Nat.le_of_ble_eq_true rfl) ?_
  intro p e s m args below meth c Q A hx hb hml hts hown hN hA hS hP hK hD hxh hnx hlocks hAe hthr ls hl
  have hl : lv_has ls 4 [(0, .ref h), (1, .int vp)] := hl
  have hP0 := hP
  obtain ⟨H, hH⟩ : ∃ z, z = s.heap := ⟨_, rfl⟩
  obtain ⟨locs, hlc⟩ : ∃ z : List Loc, z = [] := ⟨_, rfl⟩
  rw [← hH] at hP
  have hS : va_S A s.heap H locs := by rw [hH, hlc]; exact hS
  have key : W p l e rm_kh_thr s m args below meth c H locs 0 0 Q (F0 m 0 ls []) := by
    refine lv_iload_n hx hb d_K_height_0 rfl (lv_at hl 1 rfl) ?_
    refine xci (wc := []) (wr := [(h, .inr (1, [.int (nI d), .int kb, .ref fo, .ref ke, .ref ht, .ref wo, .ref fi, .ref se])), (fo, LA cJ 16 Fm), (ht, .inr (0, [.int r0, .ref hc, .ref hf, .ref hp, .ref ho])), (hc, LA cJ 16 C), (hf, LA cJ 16 F), (hp, LA cJ 16 P), (ho, LA cJ 5 O)]) hP hD hS hA [] [0, 1, 2, 3, 4, 5, 6] rfl rfl (by decide) (by decide) (va_runS (As := [.int vp]) (rest := []) ⟨hx, hb, hml, hown, hts⟩ (c_noPart l D cJ vp H.size) (cwS 1 hts (gS tw_169 tw_170 tw_1 tw_171) rfl rfl rfl ⟨rfl, hd_K_isNoPart⟩ ⟨Nat.le_of_ble_eq_true rfl, Nat.le_of_ble_eq_true rfl⟩) (xPreS hN hK (hP.sub (ws' := []) [] rfl) (hD.sub (ws' := []) [] (by decide) rfl)) rfl rfl hl.1 rfl (lv_room (Nat.le_of_ble_eq_true rfl)) d_K_height_1 ⟨Nat.le_of_ble_eq_true rfl, Nat.le_of_ble_eq_true rfl⟩) (fun r_1 u_2 H locs hwp hP hD hS => ?_)
    try dsimp only at hwp
    have hP : va_P D vwC [(h, .inr (1, [.int (nI d), .int kb, .ref fo, .ref ke, .ref ht, .ref wo, .ref fi, .ref se])), (fo, LA cJ 16 Fm), (ht, .inr (0, [.int r0, .ref hc, .ref hf, .ref hp, .ref ho])), (hc, LA cJ 16 C), (hf, LA cJ 16 F), (hp, LA cJ 16 P), (ho, LA cJ 5 O)] H := hP
    have hD : va_D A [(h, .inr (1, [.int (nI d), .int kb, .ref fo, .ref ke, .ref ht, .ref wo, .ref fi, .ref se])), (fo, LA cJ 16 Fm), (ht, .inr (0, [.int r0, .ref hc, .ref hf, .ref hp, .ref ho])), (hc, LA cJ 16 C), (hf, LA cJ 16 F), (hp, LA cJ 16 P), (ho, LA cJ 5 O)] := hD
    rcases hwp with ⟨rfl, hwp⟩ | ⟨rfl, hwp⟩
    · skip
      refine xz_eq (tgt := 11) (X := (1 : Nat)) hx hb (nI_toInt (by omega)) d_K_height_4 (by decide) (fun c4_2 => absurd c4_2 (by omega)) (fun c4_2 => ?_)
      exact absurd hpt (by omega)
    · skip
      refine xz_eq (tgt := 11) (X := (0 : Nat)) hx hb (nI_toInt (by omega)) d_K_height_4 (by decide) (fun c4_3 => ?_) (fun c4_3 => absurd c4_3 (by omega))
      refine lv_aload_n hx hb d_K_height_11 rfl (lv_at hl 0 rfl) ?_
      refine va_get (D := D) (ci := 1) (v := .ref ht) (C := R_K) (T := F_K) (N := 8) hx hb hts iw_K hown hK hP 0 rfl rfl 4 (by decide) (hts _ tw_46) (fun _ h9 => h9) rfl d_K_height_12 ?_
      refine lv_aload_n hx hb d_K_height_15 rfl (lv_at hl 0 rfl) ?_
      refine va_get (D := D) (ci := 1) (v := .ref fo) (C := R_K) (T := F_K) (N := 8) hx hb hts iw_K hown hK hP 0 rfl rfl 2 (by decide) (hts _ tw_44) (fun _ h9 => h9) rfl d_K_height_16 ?_
      refine lv_iconst (v := nI 1) hx hb d_K_height_19 (by decide) ?_
      refine lv_aload_n hx hb d_K_height_20 rfl (lv_at hl 0 rfl) ?_
      refine va_get (D := D) (ci := 1) (v := .int (nI d)) (C := R_K) (T := F_K) (N := 8) hx hb hts iw_K hown hK hP 0 rfl rfl 0 (by decide) (hts _ tw_42) (fun _ h9 => h9) rfl d_K_height_21 ?_
      refine xcv (wc := [(ht, .inr (0, [.int r0, .ref hc, .ref hf, .ref hp, .ref ho])), (hc, LA cJ 16 C), (hf, LA cJ 16 F), (hp, LA cJ 16 P), (ho, LA cJ 5 O), (fo, LA cJ 16 Fm)]) (wr := [(h, .inr (1, [.int (nI d), .int kb, .ref fo, .ref ke, .ref ht, .ref wo, .ref fi, .ref se]))]) hP hD hS hA [2, 3, 4, 5, 6, 1] [0] rfl rfl (by decide) (by decide) (va_runV (As := [.ref fo, .int (nI 1), .int (nI d)]) (rest := []) ⟨hx, hb, hml, hown, hts⟩ (c_load l D cJ ht hc hf hp ho fo 1 d d r0 C F P O Fm (by first | assumption | omega) (by first | assumption | omega) (by first | assumption | omega) (ld_q (by omega) (by omega) (enB_20 hF (by omega))) H.size) (cwV 3 hts (gV tw_97 tw_98 tw_99 tw_2 tw_100) rfl rfl rfl ⟨rfl, hd_T_load⟩ ⟨Nat.le_of_ble_eq_true rfl, Nat.le_of_ble_eq_true rfl⟩) (xPreV (C := R_T) (T := F_T) (N := 5) (q0 := 0) hN hK (hP.sub (ws' := [(ht, .inr (0, [.int r0, .ref hc, .ref hf, .ref hp, .ref ho])), (hc, LA cJ 16 C), (hf, LA cJ 16 F), (hp, LA cJ 16 P), (ho, LA cJ 5 O), (fo, LA cJ 16 Fm)]) [2, 3, 4, 5, 6, 1] rfl) (hD.sub (ws' := [(ht, .inr (0, [.int r0, .ref hc, .ref hf, .ref hp, .ref ho])), (hc, LA cJ 16 C), (hf, LA cJ 16 F), (hp, LA cJ 16 P), (ho, LA cJ 5 O), (fo, LA cJ 16 Fm)]) [2, 3, 4, 5, 6, 1] (by decide) rfl) rfl rfl) rfl rfl hl.1 rfl (lv_room (Nat.le_of_ble_eq_true rfl)) d_K_height_24 ⟨Nat.le_of_ble_eq_true rfl, Nat.le_of_ble_eq_true rfl⟩) (fun u_6 H locs hw1 hP hD hS => ?_)
      obtain ⟨Ca, Fa, Pa, Oa⟩ := u_6
      try dsimp only at hw1
      have hP : va_P D vwC [(h, .inr (1, [.int (nI d), .int kb, .ref fo, .ref ke, .ref ht, .ref wo, .ref fi, .ref se])), (fo, LA cJ 16 Fm), (ht, .inr (0, [.int (nI d), .ref hc, .ref hf, .ref hp, .ref ho])), (hc, LA cJ 16 Ca), (hf, LA cJ 16 Fa), (hp, LA cJ 16 Pa), (ho, LA cJ 5 Oa)] H := hP.sub [0, 6, 1, 2, 3, 4, 5] rfl
      have hD : va_D A [(h, .inr (1, [.int (nI d), .int kb, .ref fo, .ref ke, .ref ht, .ref wo, .ref fi, .ref se])), (fo, LA cJ 16 Fm), (ht, .inr (0, [.int (nI d), .ref hc, .ref hf, .ref hp, .ref ho])), (hc, LA cJ 16 Ca), (hf, LA cJ 16 Fa), (hp, LA cJ 16 Pa), (ho, LA cJ 5 Oa)] := hD.sub [0, 6, 1, 2, 3, 4, 5] (by decide) rfl
      have hT := ld_ok (f := 1) (r := d) (by omega) (by omega) hw1
      refine lv_aload_n hx hb d_K_height_27 rfl (lv_at hl 0 rfl) ?_
      refine va_get (D := D) (ci := 1) (v := .ref ht) (C := R_K) (T := F_K) (N := 8) hx hb hts iw_K hown hK hP 0 rfl rfl 4 (by decide) (hts _ tw_46) (fun _ h9 => h9) rfl d_K_height_28 ?_
      refine xcl (wc := [(ht, .inr (0, [.int (nI d), .ref hc, .ref hf, .ref hp, .ref ho])), (hc, LA cJ 16 Ca), (hf, LA cJ 16 Fa), (hp, LA cJ 16 Pa), (ho, LA cJ 5 Oa)]) (wr := [(h, .inr (1, [.int (nI d), .int kb, .ref fo, .ref ke, .ref ht, .ref wo, .ref fi, .ref se])), (fo, LA cJ 16 Fm)]) hP hD hS hA [2, 3, 4, 5, 6] [0, 1] rfl rfl (by decide) (by decide) (va_runV (As := []) (rest := []) ⟨hx, hb, hml, hown, hts⟩ (c_product l D cJ ht hc hf hp ho d Ca Fa Pa Oa (by first | assumption | omega) H.size) (cwV 0 hts (gV tw_156 tw_157 tw_158 tw_2 tw_159) rfl rfl rfl ⟨rfl, hd_T_productOfValues⟩ ⟨Nat.le_of_ble_eq_true rfl, Nat.le_of_ble_eq_true rfl⟩) (xPreV (C := R_T) (T := F_T) (N := 5) (q0 := 0) hN hK (hP.sub (ws' := [(ht, .inr (0, [.int (nI d), .ref hc, .ref hf, .ref hp, .ref ho])), (hc, LA cJ 16 Ca), (hf, LA cJ 16 Fa), (hp, LA cJ 16 Pa), (ho, LA cJ 5 Oa)]) [2, 3, 4, 5, 6] rfl) (hD.sub (ws' := [(ht, .inr (0, [.int (nI d), .ref hc, .ref hf, .ref hp, .ref ho])), (hc, LA cJ 16 Ca), (hf, LA cJ 16 Fa), (hp, LA cJ 16 Pa), (ho, LA cJ 5 Oa)]) [2, 3, 4, 5, 6] (by decide) rfl) rfl rfl) rfl rfl hl.1 rfl (lv_room (Nat.le_of_ble_eq_true rfl)) d_K_height_31 ⟨Nat.le_of_ble_eq_true rfl, Nat.le_of_ble_eq_true rfl⟩) (fun r_7 u_8 H locs hw_9 hP hD hS => ?_)
      try dsimp only at hw_9
      have hP : va_P D vwC [(h, .inr (1, [.int (nI d), .int kb, .ref fo, .ref ke, .ref ht, .ref wo, .ref fi, .ref se])), (fo, LA cJ 16 Fm), (ht, .inr (0, [.int (nI d), .ref hc, .ref hf, .ref hp, .ref ho])), (hc, LA cJ 16 Ca), (hf, LA cJ 16 Fa), (hp, LA cJ 16 Pa), (ho, LA cJ 5 Oa)] H := hP
      have hD : va_D A [(h, .inr (1, [.int (nI d), .int kb, .ref fo, .ref ke, .ref ht, .ref wo, .ref fi, .ref se])), (fo, LA cJ 16 Fm), (ht, .inr (0, [.int (nI d), .ref hc, .ref hf, .ref hp, .ref ho])), (hc, LA cJ 16 Ca), (hf, LA cJ 16 Fa), (hp, LA cJ 16 Pa), (ho, LA cJ 5 Oa)] := hD
      subst hw_9
      rw [ld_det hT]
      refine lv_lstore_n (lv' := [(2, .long (lI (det (prt Fm 1) d))), (0, .ref h), (1, .int vp)]) hx hb d_K_height_34 rfl hl (by decide) rfl (fun ls hl => ?_)
      refine lv_lload_n hx hb d_K_height_35 rfl (lv_at hl 0 rfl) ?_
      refine lv_lconst (v := lI 0) hx hb d_K_height_36 (by decide) ?_
      refine xl_ne (tgt := 51) hx hb (lB_of (e1_B20 hd2 hd3 (enB_f hF (by omega))).2.2 (by decide)) ⟨by decide, by decide⟩ d_K_height_37 d_K_height_38 (by decide) (fun c38_9 => absurd hz c38_9) (fun c38_9 => ?_)
      exact x_throw hx hb hl0 hown hts (fun U hW hU => hxh.move hW (by rw [hU]; exact xSt_of hP0 hAe hS)) (hl.1.trans hml.symm) d_K_height_41 d_K_height_44 d_K_height_45 d_K_height_47 d_K_height_50 (fun x hx9 => absurd hx9 (fun z => hnx x z)) (Nat.le_of_ble_eq_true rfl) (Nat.le_of_ble_eq_true rfl) (Nat.le_of_ble_eq_true rfl) (Nat.le_of_ble_eq_true rfl) hlocks (fun U ce h1 h2 h3 h4 h5 h6 h7 h8 h9 => hthr U _ ce locs (nI d, Ca, Fa, Pa, Oa) h1 h2 h3 h4 hS.2.2 h5 h6 h7 (hP.kept (fun k x hx9 => h9 x.1 ((hP k x hx9).lt))) hD ⟨Nat.le_trans hS.1 h8, fun q hq hz9 => (h9 q (Nat.lt_of_lt_of_le hq hS.1)).trans (hS.2.1 q hq hz9)⟩)
  rw [hH, hlc] at key; exact key
def rm_lh_ok : Room := { frames := 5, cells := 0, slots := 0, locals := 141 }
set_option maxHeartbeats 4000000 in
set_option maxRecDepth 100000 in
/-- the law's helper, where height returns -/
theorem lh_ok (l : Launch) (D : va_G) (cJ : ClassId) (h : Nat) (d : Nat) (kb : Int32) (fo : Nat) (ke : Nat) (ht : Nat) (wo : Nat) (fi : Nat) (se : Nat) (Fm : Nat → Int) (hc : Nat) (hf : Nat) (hp : Nat) (ho : Nat) (r0 : Int32) (C : Nat → Int) (F : Nat → Int) (P : Nat → Int) (O : Nat → Int) (ou : Nat) (Oz : Nat → Int) (vp : Int32) (hd2 : 2 ≤ d) (hd3 : d ≤ 3) (hF : ∀ k, k < 16 → inB (Fm k) 20) (hok : (vp.toInt ≠ 0 ∧ vp.toInt ≠ 1) ∨ det (prt Fm 1) d ≠ 0) (sz : Nat) : xMiZ l y_L_height (Cond.codeWith y_L_height b_L_height 4 (some .int) [(0, 8, 11, 13)] :: tW) rm_lh_ok [.ref h, .int vp, .ref ou] D vwC [(cJ, .long)] sz [(h, .inr (1, [.int (nI d), .int kb, .ref fo, .ref ke, .ref ht, .ref wo, .ref fi, .ref se])), (fo, LA cJ 16 Fm), (ht, .inr (0, [.int r0, .ref hc, .ref hf, .ref hp, .ref ho])), (hc, LA cJ 16 C), (hf, LA cJ 16 F), (hp, LA cJ 16 P), (ho, LA cJ 5 O), (ou, LA cJ 1 Oz)] (fun _ => True) (fun (rv : Int32) (uo : Int32 × (Nat → Int) × (Nat → Int) × (Nat → Int) × (Nat → Int)) => rv = nI 0) (fun (uo : Int32 × (Nat → Int) × (Nat → Int) × (Nat → Int) × (Nat → Int)) => [(h, .inr (1, [.int (nI d), .int kb, .ref fo, .ref ke, .ref ht, .ref wo, .ref fi, .ref se])), (fo, LA cJ 16 Fm), (ht, .inr (0, [.int uo.1, .ref hc, .ref hf, .ref hp, .ref ho])), (hc, LA cJ 16 uo.2.1), (hf, LA cJ 16 uo.2.2.1), (hp, LA cJ 16 uo.2.2.2.1), (ho, LA cJ 5 uo.2.2.2.2), (ou, LA cJ 1 (upZ Oz 0 (s_hgt Fm d vp.toInt)))]) 0 0 := by
  refine xoiW (cc := b_L_height) (maxL := 4) (by decide) rfl (Nat.le_of_ble_eq_true rfl) ?_
  intro p e s m args below meth c Q A hx hb hml hts hown hN hA hS hP hK hD hret ls hl hZ htab
  have hl : lv_has ls 4 [(0, .ref h), (1, .int vp), (2, .ref ou)] := hl
  obtain ⟨H, hH⟩ : ∃ z, z = s.heap := ⟨_, rfl⟩
  obtain ⟨locs, hlc⟩ : ∃ z : List Loc, z = [] := ⟨_, rfl⟩
  rw [← hH] at hP
  have hS : va_S A s.heap H locs := by rw [hH, hlc]; exact hS
  have key : W p l e rm_lh_ok s m args below meth c H locs 0 0 Q (F0 m 0 ls []) := by
    refine lv_aload_n hx hb d_L_height_0 rfl (lv_at hl 2 rfl) ?_
    refine lv_iconst (v := nI 0) hx hb d_L_height_1 (by decide) ?_
    refine lv_aload_n hx hb d_L_height_2 rfl (lv_at hl 0 rfl) ?_
    refine lv_iload_n hx hb d_L_height_3 rfl (lv_at hl 1 rfl) ?_
    refine xcl (wc := [(h, .inr (1, [.int (nI d), .int kb, .ref fo, .ref ke, .ref ht, .ref wo, .ref fi, .ref se])), (fo, LA cJ 16 Fm), (ht, .inr (0, [.int r0, .ref hc, .ref hf, .ref hp, .ref ho])), (hc, LA cJ 16 C), (hf, LA cJ 16 F), (hp, LA cJ 16 P), (ho, LA cJ 5 O)]) (wr := [(ou, LA cJ 1 Oz)]) hP hD hS hA [0, 1, 2, 3, 4, 5, 6] [7] rfl rfl (by decide) (by decide) (va_runV (As := [.int vp]) (rest := [.int (nI 0), .ref ou]) ⟨hx, hb, hml, hown, hts⟩ (k_hgt l D cJ h d kb fo ke ht wo fi se Fm hc hf hp ho r0 C F P O vp (by first | assumption | omega) (by first | assumption | omega) (by first | assumption | omega) (by first | assumption | omega) H.size) (cwV 1 hts (gV tw_311 tw_312 tw_313 tw_1 tw_314) rfl rfl rfl ⟨rfl, hd_K_height⟩ ⟨Nat.le_of_ble_eq_true rfl, Nat.le_of_ble_eq_true rfl⟩) (xPreV (C := R_K) (T := F_K) (N := 8) (q0 := 0) hN hK (hP.sub (ws' := [(h, .inr (1, [.int (nI d), .int kb, .ref fo, .ref ke, .ref ht, .ref wo, .ref fi, .ref se])), (fo, LA cJ 16 Fm), (ht, .inr (0, [.int r0, .ref hc, .ref hf, .ref hp, .ref ho])), (hc, LA cJ 16 C), (hf, LA cJ 16 F), (hp, LA cJ 16 P), (ho, LA cJ 5 O)]) [0, 1, 2, 3, 4, 5, 6] rfl) (hD.sub (ws' := [(h, .inr (1, [.int (nI d), .int kb, .ref fo, .ref ke, .ref ht, .ref wo, .ref fi, .ref se])), (fo, LA cJ 16 Fm), (ht, .inr (0, [.int r0, .ref hc, .ref hf, .ref hp, .ref ho])), (hc, LA cJ 16 C), (hf, LA cJ 16 F), (hp, LA cJ 16 P), (ho, LA cJ 5 O)]) [0, 1, 2, 3, 4, 5, 6] (by decide) rfl) rfl rfl) rfl rfl hl.1 rfl (lv_room (Nat.le_of_ble_eq_true rfl)) d_L_height_4 ⟨Nat.le_of_ble_eq_true rfl, Nat.le_of_ble_eq_true rfl⟩) (fun r_1 u_2 H locs hw_3 hP hD hS => ?_)
    obtain ⟨r2_4, C2_5, F2_6, P2_7, O2_8⟩ := u_2
    try dsimp only at hw_3
    have hP : va_P D vwC [(h, .inr (1, [.int (nI d), .int kb, .ref fo, .ref ke, .ref ht, .ref wo, .ref fi, .ref se])), (fo, LA cJ 16 Fm), (ht, .inr (0, [.int r2_4, .ref hc, .ref hf, .ref hp, .ref ho])), (hc, LA cJ 16 C2_5), (hf, LA cJ 16 F2_6), (hp, LA cJ 16 P2_7), (ho, LA cJ 5 O2_8), (ou, LA cJ 1 Oz)] H := hP.sub [1, 2, 3, 4, 5, 6, 7, 0] rfl
    have hD : va_D A [(h, .inr (1, [.int (nI d), .int kb, .ref fo, .ref ke, .ref ht, .ref wo, .ref fi, .ref se])), (fo, LA cJ 16 Fm), (ht, .inr (0, [.int r2_4, .ref hc, .ref hf, .ref hp, .ref ho])), (hc, LA cJ 16 C2_5), (hf, LA cJ 16 F2_6), (hp, LA cJ 16 P2_7), (ho, LA cJ 5 O2_8), (ou, LA cJ 1 Oz)] := hD.sub [1, 2, 3, 4, 5, 6, 7, 0] (by decide) rfl
    subst hw_3
    refine xl_ast hx hb hK hP hD hS 7 0 rfl rfl (k := 0) (by omega) (by first | decide | omega) d_L_height_7 (fun H locs hP hD hS => ?_)
    have hP : va_P D vwC [(h, .inr (1, [.int (nI d), .int kb, .ref fo, .ref ke, .ref ht, .ref wo, .ref fi, .ref se])), (fo, LA cJ 16 Fm), (ht, .inr (0, [.int r2_4, .ref hc, .ref hf, .ref hp, .ref ho])), (hc, LA cJ 16 C2_5), (hf, LA cJ 16 F2_6), (hp, LA cJ 16 P2_7), (ho, LA cJ 5 O2_8), (ou, LA cJ 1 (upZ Oz 0 (s_hgt Fm d vp.toInt)))] H := hP
    have hD : va_D A [(h, .inr (1, [.int (nI d), .int kb, .ref fo, .ref ke, .ref ht, .ref wo, .ref fi, .ref se])), (fo, LA cJ 16 Fm), (ht, .inr (0, [.int r2_4, .ref hc, .ref hf, .ref hp, .ref ho])), (hc, LA cJ 16 C2_5), (hf, LA cJ 16 F2_6), (hp, LA cJ 16 P2_7), (ho, LA cJ 5 O2_8), (ou, LA cJ 1 (upZ Oz 0 (s_hgt Fm d vp.toInt)))] := hD
    refine lv_goto (tgt := 14) hx hb d_L_height_8 (by decide) ?_
    refine lv_iconst (v := nI 0) hx hb d_L_height_14 (by decide) ?_
    exact hret H locs _ ls (nI 0) (r2_4, C2_5, F2_6, P2_7, O2_8) d_L_height_15 rfl hP hD hS
  rw [hH, hlc] at key; exact key
def rm_lh_thr : Room := { frames := 7, cells := 1, slots := 6, locals := 130 }
set_option maxHeartbeats 4000000 in
set_option maxRecDepth 100000 in
/-- the law's helper, where height throws -/
theorem lh_thr (l : Launch) (hl0 : l.stackTraces = false) (D : va_G) (cJ : ClassId) (h : Nat) (d : Nat) (kb : Int32) (fo : Nat) (ke : Nat) (ht : Nat) (wo : Nat) (fi : Nat) (se : Nat) (Fm : Nat → Int) (hc : Nat) (hf : Nat) (hp : Nat) (ho : Nat) (r0 : Int32) (C : Nat → Int) (F : Nat → Int) (P : Nat → Int) (O : Nat → Int) (ou : Nat) (Oz : Nat → Int) (vp : Int32) (sa : Nat) (hd2 : 2 ≤ d) (hd3 : d ≤ 3) (hF : ∀ k, k < 16 → inB (Fm k) 20) (hpt : vp.toInt = 0 ∨ vp.toInt = 1) (hz : det (prt Fm 1) d = 0) (sz : Nat) : xMiZ l y_L_height (Cond.codeWith y_L_height b_L_height 4 (some .int) [(0, 8, 11, 13)] :: tW) rm_lh_thr [.ref h, .int vp, .ref ou] D vwC [(cJ, .long)] sz [(h, .inr (1, [.int (nI d), .int kb, .ref fo, .ref ke, .ref ht, .ref wo, .ref fi, .ref se])), (fo, LA cJ 16 Fm), (ht, .inr (0, [.int r0, .ref hc, .ref hf, .ref hp, .ref ho])), (hc, LA cJ 16 C), (hf, LA cJ 16 F), (hp, LA cJ 16 P), (ho, LA cJ 5 O), (ou, LA cJ 1 Oz)] (xH sa) (fun (rv : Int32) (uo : Int32 × (Nat → Int) × (Nat → Int) × (Nat → Int) × (Nat → Int)) => rv = nI 1) (fun (uo : Int32 × (Nat → Int) × (Nat → Int) × (Nat → Int) × (Nat → Int)) => [(h, .inr (1, [.int (nI d), .int kb, .ref fo, .ref ke, .ref ht, .ref wo, .ref fi, .ref se])), (fo, LA cJ 16 Fm), (ht, .inr (0, [.int uo.1, .ref hc, .ref hf, .ref hp, .ref ho])), (hc, LA cJ 16 uo.2.1), (hf, LA cJ 16 uo.2.2.1), (hp, LA cJ 16 uo.2.2.2.1), (ho, LA cJ 5 uo.2.2.2.2), (ou, LA cJ 1 Oz)]) 1 6 := by
  refine xoiW (cc := b_L_height) (maxL := 4) (by decide) rfl (Nat.le_of_ble_eq_true rfl) ?_
  intro p e s m args below meth c Q A hx hb hml hts hown hN hA hS hP hK hD hret ls hl hZ htab
  have hl : lv_has ls 4 [(0, .ref h), (1, .int vp), (2, .ref ou)] := hl
  obtain ⟨H, hH⟩ : ∃ z, z = s.heap := ⟨_, rfl⟩
  obtain ⟨locs, hlc⟩ : ∃ z : List Loc, z = [] := ⟨_, rfl⟩
  rw [← hH] at hP
  have hS : va_S A s.heap H locs := by rw [hH, hlc]; exact hS
  have key : W p l e rm_lh_thr s m args below meth c H locs 0 0 Q (F0 m 0 ls []) := by
    refine lv_aload_n hx hb d_L_height_0 rfl (lv_at hl 2 rfl) ?_
    refine lv_iconst (v := nI 0) hx hb d_L_height_1 (by decide) ?_
    refine lv_aload_n hx hb d_L_height_2 rfl (lv_at hl 0 rfl) ?_
    refine lv_iload_n hx hb d_L_height_3 rfl (lv_at hl 1 rfl) ?_
    refine x_callT (y := y_K_height) (b := h) (As := [.int vp]) (rest := [.int (nI 0), .ref ou]) (C := R_K) (wc := [(h, .inr (1, [.int (nI d), .int kb, .ref fo, .ref ke, .ref ht, .ref wo, .ref fi, .ref se])), (fo, LA cJ 16 Fm), (ht, .inr (0, [.int r0, .ref hc, .ref hf, .ref hp, .ref ho])), (hc, LA cJ 16 C), (hf, LA cJ 16 F), (hp, LA cJ 16 P), (ho, LA cJ 5 O)]) (wr := [(ou, LA cJ 1 Oz)]) hx hb (hl.1.trans hml.symm) hown hts (kh_thr l hl0 D cJ h d kb fo ke ht wo fi se Fm hc hf hp ho r0 C F P O vp sa hd2 hd3 hF hpt hz H.size) tw_314 tw_311 tw_312 tw_313 tw_1 hd_K_height rfl ⟨Nat.le_of_ble_eq_true rfl, Nat.le_of_ble_eq_true rfl, rfl, rfl⟩ (Nat.le_of_ble_eq_true rfl) (Nat.le_of_ble_eq_true rfl) (Nat.le_of_ble_eq_true rfl) tw_aeC htab (by decide) (by decide) hN hK (fun U hW hU => hZ.move hW (fun q cell h1 _ => by rw [hU, hH]; exact h1)) hP hD hS hA [0, 1, 2, 3, 4, 5, 6] [7] rfl rfl (by decide) (by decide) (hP.sub [0, 1, 2, 3, 4, 5, 6] rfl) (hD.sub [0, 1, 2, 3, 4, 5, 6] (by decide) rfl) (va_recv (q := (R_K, F_K, 8)) (ci := 1) (q0 := 0) hK hP rfl rfl) d_L_height_4 (fun x u H locs hP hD hS => ?_)
    obtain ⟨r2, C2, F2, P2, O2⟩ := u
    dsimp only at hP hD
    have hP : va_P D vwC [(h, .inr (1, [.int (nI d), .int kb, .ref fo, .ref ke, .ref ht, .ref wo, .ref fi, .ref se])), (fo, LA cJ 16 Fm), (ht, .inr (0, [.int r2, .ref hc, .ref hf, .ref hp, .ref ho])), (hc, LA cJ 16 C2), (hf, LA cJ 16 F2), (hp, LA cJ 16 P2), (ho, LA cJ 5 O2), (ou, LA cJ 1 Oz)] H := hP.sub [1, 2, 3, 4, 5, 6, 7, 0] rfl
    have hD : va_D A [(h, .inr (1, [.int (nI d), .int kb, .ref fo, .ref ke, .ref ht, .ref wo, .ref fi, .ref se])), (fo, LA cJ 16 Fm), (ht, .inr (0, [.int r2, .ref hc, .ref hf, .ref hp, .ref ho])), (hc, LA cJ 16 C2), (hf, LA cJ 16 F2), (hp, LA cJ 16 P2), (ho, LA cJ 5 O2), (ou, LA cJ 1 Oz)] := hD.sub [1, 2, 3, 4, 5, 6, 7, 0] (by decide) rfl
    refine lv_astore_n (lv' := [(3, .ref x), (0, .ref h), (1, .int vp), (2, .ref ou)]) hx hb d_L_height_11 rfl hl (by decide) rfl (fun ls hl => ?_)
    refine lv_iconst (v := nI 1) hx hb d_L_height_12 (by decide) ?_
    exact hret H locs _ ls (nI 1) (r2, C2, F2, P2, O2) d_L_height_13 rfl hP hD hS
  rw [hH, hlc] at key; exact key
