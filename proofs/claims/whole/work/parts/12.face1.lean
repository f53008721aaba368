/-! contracts of ConicKinds: its face, first half (wip/spec_class3.py, specs3) -/
def s_dim (v : Int32) (d : Nat) : Int32 := if v.toInt = 2 ∨ v.toInt = 3 then nI d else -2
def badP (d : Nat) (i j v : Int) : Prop := (i < 0 ∨ (d : Int) < i) ∨ (j < 0 ∨ (d : Int) < j) ∨ (v < -20 ∨ 20 < v)
def s_put (Fm : Nat → Int) (d : Nat) (i j v : Int) : Int := if (i < 0 ∨ (d : Int) < i) ∨ (j < 0 ∨ (d : Int) < j) ∨ (v < -20 ∨ 20 < v) then NOZ else Fm (4 * i.toNat + j.toNat)
def s_signs (Fm : Nat → Int) (d : Nat) (w : Int) : Int32 := if w = 0 then nI (upN (prt Fm 1) d) else if w = 1 then nI (dwN (prt Fm 1) d) else if w = 2 then nI (upN (prt Fm 0) (d + 1)) else if w = 3 then nI (dwN (prt Fm 0) (d + 1)) else -2
def s_det (Fm : Nat → Int) (d : Nat) (w : Int) : Int := if w = 0 then det (prt Fm 1) d else if w = 1 then det (prt Fm 0) (d + 1) else if w = 2 then eS (prt Fm 1) d 1 else if w = 3 then eS (prt Fm 1) d 2 else NOZ
def s_mid (Fm : Nat → Int) (d : Nat) : Int32 := if rkN (prt Fm 0) (d + 1) = rkN (prt Fm 1) d + 2 then -3 else nI (d - rkN (prt Fm 1) d)
def s_middle (Fm : Nat → Int) (d : Nat) (ax pt : Int) : Int := if ax < 1 ∨ (d : Int) < ax ∨ (pt ≠ 0 ∧ pt ≠ 1) then NOZ else pfr (midN Fm d (ax.toNat - 1) d) (det (prt Fm 1) d) pt
theorem mid_ax {v : Int32} {d : Nat} (h1 : 1 ≤ v.toInt) (h2 : v.toInt ≤ d) : ∃ a, a + 1 ≤ d ∧ v = nI (a + 1) := by
  obtain ⟨k, hk, rfl⟩ := nI_range (v := v) (d := d) (by omega)
  have h3 := Int32.toInt_lt (nI k)
  refine ⟨k - 1, ?_, ?_⟩
  · rcases Nat.eq_zero_or_pos k with q | q
    · subst q; exact absurd h1 (by decide)
    · omega
  · rcases Nat.eq_zero_or_pos k with q | q
    · subst q; exact absurd h1 (by decide)
    · rw [show k - 1 + 1 = k from by omega]
def s_below (Fm : Nat → Int) (d : Nat) (up dn : Int) : Int32 := if (up < -2000 ∨ 2000 < up) ∨ dn < 1 ∨ 100 < dn then -2 else nI (dwN (prt (shZ Fm up dn) 1) d)
def s_unl (Fm : Nat → Int) (d : Nat) : Nat := unlZ d (eS (prt Fm 1) d 1) (eS (prt Fm 1) d 2) (-(cO (prt Fm 1) d 0))
theorem sh_B {Fm : Nat → Int} {d : Nat} {up dn : Int} (h3 : d ≤ 3) (hF : ∀ k, k < 16 → inB (Fm k) 20) (hu : inB up 2000) (hd : inB dn 100) : enB (prt (shZ Fm up dn) 1) d (tabB d) := by
  refine enB_prt (by omega) (fun a b ha hb => ?_)
  unfold shZ
  have e : inB (if (4 * (1 + a) + (1 + b)) / 4 = (4 * (1 + a) + (1 + b)) % 4 then up else 0) 2000 := by
    split
    · exact hu
    · exact ⟨by decide, by decide⟩
  refine leB (subB (mulB hd (hF (4 * (1 + a) + (1 + b)) (by omega))) e) ?_
  unfold tabB; rw [if_neg (by omega)]; decide

def rm_k_dimension : Room := { frames := 1, cells := 0, slots := 0, locals := 24 }
set_option maxHeartbeats 4000000 in
set_option maxRecDepth 100000 in
/-- dimension -/
theorem k_dimension (l : Launch) (D : va_G) (cJ : ClassId) (h : Nat) (d : Nat) (kb : Int32) (fo : Nat) (ke : Nat) (ht : Nat) (wo : Nat) (fi : Nat) (se : Nat) (Fm : Nat → Int) (v : Int32)  (sz : Nat) : xMi l y_K_dimension (Cond.code y_K_dimension b_K_dimension 3 (some .int) :: tW) rm_k_dimension [.ref h, .int v] D vwC [(cJ, .long)] sz [(h, .inr (1, [.int (nI d), .int kb, .ref fo, .ref ke, .ref ht, .ref wo, .ref fi, .ref se])), (fo, LA cJ 16 Fm)] (fun (rv : Int32) (uo : Nat × Int32 × (Nat → Int)) => rv = s_dim v d ∧ ((v.toInt = 2 ∨ v.toInt = 3 → uo.1 = v.toInt.toNat ∧ uo.2.1 = nI 0 ∧ ∀ k, k < 16 → uo.2.2 k = 0) ∧ (¬ (v.toInt = 2 ∨ v.toInt = 3) → uo.1 = d ∧ uo.2.1 = kb ∧ uo.2.2 = Fm))) (fun (uo : Nat × Int32 × (Nat → Int)) => [(h, .inr (1, [.int (nI uo.1), .int uo.2.1, .ref fo, .ref ke, .ref ht, .ref wo, .ref fi, .ref se])), (fo, LA cJ 16 uo.2.2)]) 0 0 := by
  refine xoi (cc := b_K_dimension) (maxL := 3) (by decide) rfl (Nat.le_of_ble_eq_true rfl) ?_
  intro p e s m args below meth c Q A hx hb hml hts hown hN hA hS hP hK hD hret ls hl
  have hl : lv_has ls 3 [(0, .ref h), (1, .int v)] := hl
  obtain ⟨H, hH⟩ : ∃ z, z = s.heap := ⟨_, rfl⟩
  obtain ⟨locs, hlc⟩ : ∃ z : List Loc, z = [] := ⟨_, rfl⟩
  rw [← hH] at hP
  have hS : va_S A s.heap H locs := by rw [hH, hlc]; exact hS
  have key : W p l e rm_k_dimension s m args below meth c H locs 0 0 Q (F0 m 0 ls []) := by
    refine lv_iload_n hx hb d_K_dimension_0 rfl (lv_at hl 1 rfl) ?_
    refine lv_iconst (v := nI 2) hx hb d_K_dimension_1 (by decide) ?_
    refine xi_eq (tgt := 13) (X := v.toInt) (Y := (2 : Nat)) hx hb rfl (nI_toInt (by omega)) d_K_dimension_2 (by decide) (fun c2_0 => ?_) (fun c2_0 => ?_)
    · skip
      obtain rfl : v = nI 2 := by rw [← Int32.toInt_inj, nI_toInt (by decide)]; exact c2_0
      refine lv_aload_n hx hb d_K_dimension_13 rfl (lv_at hl 0 rfl) ?_
      refine va_get (D := D) (ci := 1) (v := .int (nI d)) (C := R_K) (T := F_K) (N := 8) hx hb hts iw_K hown hK hP 0 rfl rfl 0 (by decide) (hts _ tw_42) (fun _ h9 => h9) rfl d_K_dimension_14 ?_
      refine lv_istore_n (lv' := [(2, .int (nI d)), (0, .ref h), (1, .int (nI 2))]) hx hb d_K_dimension_17 rfl hl (by decide) rfl (fun ls hl => ?_)
      refine lv_aload_n hx hb d_K_dimension_18 rfl (lv_at hl 1 rfl) ?_
      refine lv_iload_n hx hb d_K_dimension_19 rfl (lv_at hl 2 rfl) ?_
      refine va_put (D := D) (ci := 1) (v := .int (nI 2)) (ty := .int) (C := R_K) (T := F_K) (N := 8) hx hb hts iw_K ft_K ft_K_ok n_K hown hK hP hD hS 0 rfl rfl 0 (by decide) (hts _ tw_42) (fun _ h9 => h9) rfl (by decide +kernel) rfl rfl (Nat.le_of_ble_eq_true rfl) d_K_dimension_20 (fun H locs hP hD hS => ?_)
      have hP : va_P D vwC [(h, .inr (1, [.int (nI 2), .int kb, .ref fo, .ref ke, .ref ht, .ref wo, .ref fi, .ref se])), (fo, LA cJ 16 Fm)] H := hP
      have hD : va_D A [(h, .inr (1, [.int (nI 2), .int kb, .ref fo, .ref ke, .ref ht, .ref wo, .ref fi, .ref se])), (fo, LA cJ 16 Fm)] := hD
      refine lv_aload_n hx hb d_K_dimension_23 rfl (lv_at hl 1 rfl) ?_
      refine lv_iconst (v := nI 0) hx hb d_K_dimension_24 (by decide) ?_
      refine va_put (D := D) (ci := 1) (v := .int (nI 0)) (ty := .boolean) (C := R_K) (T := F_K) (N := 8) hx hb hts iw_K ft_K ft_K_ok n_K hown hK hP hD hS 0 rfl rfl 1 (by decide) (hts _ tw_43) (fun _ h9 => h9) rfl (by decide +kernel) rfl rfl (Nat.le_of_ble_eq_true rfl) d_K_dimension_25 (fun H locs hP hD hS => ?_)
      have hP : va_P D vwC [(h, .inr (1, [.int (nI 2), .int (nI 0), .ref fo, .ref ke, .ref ht, .ref wo, .ref fi, .ref se])), (fo, LA cJ 16 Fm)] H := hP
      have hD : va_D A [(h, .inr (1, [.int (nI 2), .int (nI 0), .ref fo, .ref ke, .ref ht, .ref wo, .ref fi, .ref se])), (fo, LA cJ 16 Fm)] := hD
      refine lv_aload_n hx hb d_K_dimension_28 rfl (lv_at hl 1 rfl) ?_
      refine va_get (D := D) (ci := 1) (v := .ref fo) (C := R_K) (T := F_K) (N := 8) hx hb hts iw_K hown hK hP 0 rfl rfl 2 (by decide) (hts _ tw_44) (fun _ h9 => h9) rfl d_K_dimension_29 ?_
      refine lv_lconst (v := lI 0) hx hb d_K_dimension_32 (by decide) ?_
      refine xcv (wc := [(fo, LA cJ 16 Fm)]) (wr := [(h, .inr (1, [.int (nI 2), .int (nI 0), .ref fo, .ref ke, .ref ht, .ref wo, .ref fi, .ref se]))]) hP hD hS hA [1] [0] rfl rfl (by decide) (by decide) (va_runS (As := [.ref fo, .long (lI 0)]) (rest := []) ⟨hx, hb, hml, hown, hts⟩ (c_fill l D cJ fo 16 Fm 0 (by first | assumption | omega) H.size) (va_cwS 2 hts (gSJ tw_71 tw_72 tw_4 tw_73) rfl rfl rfl hd_A_fill ⟨Nat.le_of_ble_eq_true rfl, Nat.le_of_ble_eq_true rfl⟩) (xPreS hN hK (hP.sub (ws' := [(fo, LA cJ 16 Fm)]) [1] rfl) (hD.sub (ws' := [(fo, LA cJ 16 Fm)]) [1] (by decide) rfl)) rfl rfl hl.1 rfl (lv_room (Nat.le_of_ble_eq_true rfl)) d_K_dimension_33 ⟨Nat.le_of_ble_eq_true rfl, Nat.le_of_ble_eq_true rfl⟩) (fun u_3 H locs hfill hP hD hS => ?_)
      obtain ⟨G2_4, rfl⟩ : ∃ z, z = u_3 := ⟨_, rfl⟩
      try dsimp only at hfill
      have hP : va_P D vwC [(h, .inr (1, [.int (nI 2), .int (nI 0), .ref fo, .ref ke, .ref ht, .ref wo, .ref fi, .ref se])), (fo, LA cJ 16 G2_4)] H := hP
      have hD : va_D A [(h, .inr (1, [.int (nI 2), .int (nI 0), .ref fo, .ref ke, .ref ht, .ref wo, .ref fi, .ref se])), (fo, LA cJ 16 G2_4)] := hD
      refine lv_iload_n hx hb d_K_dimension_36 rfl (lv_at hl 0 rfl) ?_
      exact hret H locs _ ls (nI d) (2, nI 0, G2_4) d_K_dimension_37 ⟨(by unfold s_dim; rw [nI_toInt (by decide)]; rfl), fun _ => ⟨(by rw [nI_toInt (by decide)]; rfl), rfl, hfill⟩, fun h => absurd (show (nI 2).toInt = 2 ∨ (nI 2).toInt = 3 by rw [nI_toInt (by decide)]; decide) h⟩ hP hD hS
    · skip
      refine lv_iload_n hx hb d_K_dimension_5 rfl (lv_at hl 1 rfl) ?_
      refine lv_iconst (v := nI 3) hx hb d_K_dimension_6 (by decide) ?_
      refine xi_eq (tgt := 13) (X := v.toInt) (Y := (3 : Nat)) hx hb rfl (nI_toInt (by omega)) d_K_dimension_7 (by decide) (fun c7_4 => ?_) (fun c7_4 => ?_)
      · skip
        obtain rfl : v = nI 3 := by rw [← Int32.toInt_inj, nI_toInt (by decide)]; exact c7_4
        refine lv_aload_n hx hb d_K_dimension_13 rfl (lv_at hl 0 rfl) ?_
        refine va_get (D := D) (ci := 1) (v := .int (nI d)) (C := R_K) (T := F_K) (N := 8) hx hb hts iw_K hown hK hP 0 rfl rfl 0 (by decide) (hts _ tw_42) (fun _ h9 => h9) rfl d_K_dimension_14 ?_
        refine lv_istore_n (lv' := [(2, .int (nI d)), (0, .ref h), (1, .int (nI 3))]) hx hb d_K_dimension_17 rfl hl (by decide) rfl (fun ls hl => ?_)
        refine lv_aload_n hx hb d_K_dimension_18 rfl (lv_at hl 1 rfl) ?_
        refine lv_iload_n hx hb d_K_dimension_19 rfl (lv_at hl 2 rfl) ?_
        refine va_put (D := D) (ci := 1) (v := .int (nI 3)) (ty := .int) (C := R_K) (T := F_K) (N := 8) hx hb hts iw_K ft_K ft_K_ok n_K hown hK hP hD hS 0 rfl rfl 0 (by decide) (hts _ tw_42) (fun _ h9 => h9) rfl (by decide +kernel) rfl rfl (Nat.le_of_ble_eq_true rfl) d_K_dimension_20 (fun H locs hP hD hS => ?_)
        have hP : va_P D vwC [(h, .inr (1, [.int (nI 3), .int kb, .ref fo, .ref ke, .ref ht, .ref wo, .ref fi, .ref se])), (fo, LA cJ 16 Fm)] H := hP
        have hD : va_D A [(h, .inr (1, [.int (nI 3), .int kb, .ref fo, .ref ke, .ref ht, .ref wo, .ref fi, .ref se])), (fo, LA cJ 16 Fm)] := hD
        refine lv_aload_n hx hb d_K_dimension_23 rfl (lv_at hl 1 rfl) ?_
        refine lv_iconst (v := nI 0) hx hb d_K_dimension_24 (by decide) ?_
        refine va_put (D := D) (ci := 1) (v := .int (nI 0)) (ty := .boolean) (C := R_K) (T := F_K) (N := 8) hx hb hts iw_K ft_K ft_K_ok n_K hown hK hP hD hS 0 rfl rfl 1 (by decide) (hts _ tw_43) (fun _ h9 => h9) rfl (by decide +kernel) rfl rfl (Nat.le_of_ble_eq_true rfl) d_K_dimension_25 (fun H locs hP hD hS => ?_)
        have hP : va_P D vwC [(h, .inr (1, [.int (nI 3), .int (nI 0), .ref fo, .ref ke, .ref ht, .ref wo, .ref fi, .ref se])), (fo, LA cJ 16 Fm)] H := hP
        have hD : va_D A [(h, .inr (1, [.int (nI 3), .int (nI 0), .ref fo, .ref ke, .ref ht, .ref wo, .ref fi, .ref se])), (fo, LA cJ 16 Fm)] := hD
        refine lv_aload_n hx hb d_K_dimension_28 rfl (lv_at hl 1 rfl) ?_
        refine va_get (D := D) (ci := 1) (v := .ref fo) (C := R_K) (T := F_K) (N := 8) hx hb hts iw_K hown hK hP 0 rfl rfl 2 (by decide) (hts _ tw_44) (fun _ h9 => h9) rfl d_K_dimension_29 ?_
        refine lv_lconst (v := lI 0) hx hb d_K_dimension_32 (by decide) ?_
        refine xcv (wc := [(fo, LA cJ 16 Fm)]) (wr := [(h, .inr (1, [.int (nI 3), .int (nI 0), .ref fo, .ref ke, .ref ht, .ref wo, .ref fi, .ref se]))]) hP hD hS hA [1] [0] rfl rfl (by decide) (by decide) (va_runS (As := [.ref fo, .long (lI 0)]) (rest := []) ⟨hx, hb, hml, hown, hts⟩ (c_fill l D cJ fo 16 Fm 0 (by first | assumption | omega) H.size) (va_cwS 2 hts (gSJ tw_71 tw_72 tw_4 tw_73) rfl rfl rfl hd_A_fill ⟨Nat.le_of_ble_eq_true rfl, Nat.le_of_ble_eq_true rfl⟩) (xPreS hN hK (hP.sub (ws' := [(fo, LA cJ 16 Fm)]) [1] rfl) (hD.sub (ws' := [(fo, LA cJ 16 Fm)]) [1] (by decide) rfl)) rfl rfl hl.1 rfl (lv_room (Nat.le_of_ble_eq_true rfl)) d_K_dimension_33 ⟨Nat.le_of_ble_eq_true rfl, Nat.le_of_ble_eq_true rfl⟩) (fun u_7 H locs hfill hP hD hS => ?_)
        obtain ⟨G2_8, rfl⟩ : ∃ z, z = u_7 := ⟨_, rfl⟩
        try dsimp only at hfill
        have hP : va_P D vwC [(h, .inr (1, [.int (nI 3), .int (nI 0), .ref fo, .ref ke, .ref ht, .ref wo, .ref fi, .ref se])), (fo, LA cJ 16 G2_8)] H := hP
        have hD : va_D A [(h, .inr (1, [.int (nI 3), .int (nI 0), .ref fo, .ref ke, .ref ht, .ref wo, .ref fi, .ref se])), (fo, LA cJ 16 G2_8)] := hD
        refine lv_iload_n hx hb d_K_dimension_36 rfl (lv_at hl 0 rfl) ?_
        exact hret H locs _ ls (nI d) (3, nI 0, G2_8) d_K_dimension_37 ⟨(by unfold s_dim; rw [nI_toInt (by decide)]; rfl), fun _ => ⟨(by rw [nI_toInt (by decide)]; rfl), rfl, hfill⟩, fun h => absurd (show (nI 3).toInt = 2 ∨ (nI 3).toInt = 3 by rw [nI_toInt (by decide)]; decide) h⟩ hP hD hS
      · skip
        refine lv_bipush (v := (-2)) hx hb d_K_dimension_10 (by decide) ?_
        exact hret H locs _ ls (-2) (d, kb, Fm) d_K_dimension_12 ⟨(by unfold s_dim; rw [if_neg (show ¬ (v.toInt = 2 ∨ v.toInt = 3) from by omega)]), fun h => absurd h (by omega), fun _ => ⟨rfl, rfl, rfl⟩⟩ hP hD hS
  rw [hH, hlc] at key; exact key

def rm_k_put : Room := { frames := 1, cells := 0, slots := 0, locals := 22 }
set_option maxHeartbeats 4000000 in
set_option maxRecDepth 100000 in
/-- put -/
theorem k_put (l : Launch) (D : va_G) (cJ : ClassId) (h : Nat) (d : Nat) (kb : Int32) (fo : Nat) (ke : Nat) (ht : Nat) (wo : Nat) (fi : Nat) (se : Nat) (Fm : Nat → Int) (vi : Int32) (vj : Int32) (vv : Int32) (hd3 : d ≤ 3) (sz : Nat) : xMl l y_K_put (Cond.code y_K_put b_K_put 6 (some .long) :: tW) rm_k_put [.ref h, .int vi, .int vj, .int vv] D vwC [(cJ, .long)] sz [(h, .inr (1, [.int (nI d), .int kb, .ref fo, .ref ke, .ref ht, .ref wo, .ref fi, .ref se])), (fo, LA cJ 16 Fm)] (fun (rv : Int64) (uo : (Nat → Int)) => rv = lI (s_put Fm d vi.toInt vj.toInt vv.toInt) ∧ ((badP d vi.toInt vj.toInt vv.toInt → uo = Fm) ∧ (¬ badP d vi.toInt vj.toInt vv.toInt → uo = upZ (upZ Fm (4 * vi.toInt.toNat + vj.toInt.toNat) vv.toInt) (4 * vj.toInt.toNat + vi.toInt.toNat) vv.toInt))) (fun (uo : (Nat → Int)) => [(h, .inr (1, [.int (nI d), .int kb, .ref fo, .ref ke, .ref ht, .ref wo, .ref fi, .ref se])), (fo, LA cJ 16 uo)]) 0 0 := by
  refine xol (cc := b_K_put) (maxL := 6) (by decide) rfl (Nat.le_of_ble_eq_true rfl) ?_
  intro p e s m args below meth c Q A hx hb hml hts hown hN hA hS hP hK hD hret ls hl
  have hl : lv_has ls 6 [(0, .ref h), (1, .int vi), (2, .int vj), (3, .int vv)] := hl
  obtain ⟨H, hH⟩ : ∃ z, z = s.heap := ⟨_, rfl⟩
  obtain ⟨locs, hlc⟩ : ∃ z : List Loc, z = [] := ⟨_, rfl⟩
  rw [← hH] at hP
  have hS : va_S A s.heap H locs := by rw [hH, hlc]; exact hS
  have key : W p l e rm_k_put s m args below meth c H locs 0 0 Q (F0 m 0 ls []) := by
    refine lv_aload_n hx hb d_K_put_0 rfl (lv_at hl 0 rfl) ?_
    refine lv_iload_n hx hb d_K_put_1 rfl (lv_at hl 1 rfl) ?_
    refine xci (wc := [(h, .inr (1, [.int (nI d), .int kb, .ref fo, .ref ke, .ref ht, .ref wo, .ref fi, .ref se]))]) (wr := [(fo, LA cJ 16 Fm)]) hP hD hS hA [0] [1] rfl rfl (by decide) (by decide) (va_runV (As := [.int vi]) (rest := []) ⟨hx, hb, hml, hown, hts⟩ (c_noPlace l D cJ h d kb fo ke ht wo fi se vi (by first | assumption | omega) H.size) (cwV 1 hts (gV tw_78 tw_80 tws_0 tw_1 tw_81) rfl rfl rfl ⟨rfl, hd_K_isNoPlace⟩ ⟨Nat.le_of_ble_eq_true rfl, Nat.le_of_ble_eq_true rfl⟩) (xPreV (C := R_K) (T := F_K) (N := 8) (q0 := 0) hN hK (hP.sub (ws' := [(h, .inr (1, [.int (nI d), .int kb, .ref fo, .ref ke, .ref ht, .ref wo, .ref fi, .ref se]))]) [0] rfl) (hD.sub (ws' := [(h, .inr (1, [.int (nI d), .int kb, .ref fo, .ref ke, .ref ht, .ref wo, .ref fi, .ref se]))]) [0] (by decide) rfl) rfl rfl) rfl rfl hl.1 rfl (lv_room (Nat.le_of_ble_eq_true rfl)) d_K_put_2 ⟨Nat.le_of_ble_eq_true rfl, Nat.le_of_ble_eq_true rfl⟩) (fun r_1 u_2 H locs hwi hP hD hS => ?_)
    try dsimp only at hwi
    have hP : va_P D vwC [(h, .inr (1, [.int (nI d), .int kb, .ref fo, .ref ke, .ref ht, .ref wo, .ref fi, .ref se])), (fo, LA cJ 16 Fm)] H := hP.sub [1, 0] rfl
    have hD : va_D A [(h, .inr (1, [.int (nI d), .int kb, .ref fo, .ref ke, .ref ht, .ref wo, .ref fi, .ref se])), (fo, LA cJ 16 Fm)] := hD.sub [1, 0] (by decide) rfl
    rcases hwi with ⟨rfl, hwi⟩ | ⟨rfl, hwi⟩
    · skip
      refine xz_ne (tgt := 26) (X := (1 : Nat)) hx hb (nI_toInt (by omega)) d_K_put_5 (by decide) (fun c5_2 => ?_) (fun c5_2 => absurd c5_2 (by omega))
      refine lv_ldc2 (v := lI (-1000000000000000000)) hx hb hown (hts _ tw_85) d_K_put_26 ?_
      exact hret H locs _ ls (lI (-1000000000000000000)) Fm d_K_put_29 ⟨(by unfold s_put; rw [if_pos (show (vi.toInt < 0 ∨ (d : Int) < vi.toInt) ∨ (vj.toInt < 0 ∨ (d : Int) < vj.toInt) ∨ (vv.toInt < -20 ∨ 20 < vv.toInt) from by omega)]; rfl), fun _ => rfl, fun h => absurd (show badP d vi.toInt vj.toInt vv.toInt by unfold badP; omega) h⟩ hP hD hS
    · skip
      refine xz_ne (tgt := 26) (X := (0 : Nat)) hx hb (nI_toInt (by omega)) d_K_put_5 (by decide) (fun c5_3 => absurd c5_3 (by omega)) (fun c5_3 => ?_)
      refine lv_aload_n hx hb d_K_put_8 rfl (lv_at hl 0 rfl) ?_
      refine lv_iload_n hx hb d_K_put_9 rfl (lv_at hl 2 rfl) ?_
      refine xci (wc := [(h, .inr (1, [.int (nI d), .int kb, .ref fo, .ref ke, .ref ht, .ref wo, .ref fi, .ref se]))]) (wr := [(fo, LA cJ 16 Fm)]) hP hD hS hA [0] [1] rfl rfl (by decide) (by decide) (va_runV (As := [.int vj]) (rest := []) ⟨hx, hb, hml, hown, hts⟩ (c_noPlace l D cJ h d kb fo ke ht wo fi se vj (by first | assumption | omega) H.size) (cwV 1 hts (gV tw_78 tw_80 tws_0 tw_1 tw_81) rfl rfl rfl ⟨rfl, hd_K_isNoPlace⟩ ⟨Nat.le_of_ble_eq_true rfl, Nat.le_of_ble_eq_true rfl⟩) (xPreV (C := R_K) (T := F_K) (N := 8) (q0 := 0) hN hK (hP.sub (ws' := [(h, .inr (1, [.int (nI d), .int kb, .ref fo, .ref ke, .ref ht, .ref wo, .ref fi, .ref se]))]) [0] rfl) (hD.sub (ws' := [(h, .inr (1, [.int (nI d), .int kb, .ref fo, .ref ke, .ref ht, .ref wo, .ref fi, .ref se]))]) [0] (by decide) rfl) rfl rfl) rfl rfl hl.1 rfl (lv_room (Nat.le_of_ble_eq_true rfl)) d_K_put_10 ⟨Nat.le_of_ble_eq_true rfl, Nat.le_of_ble_eq_true rfl⟩) (fun r_5 u_6 H locs hwj hP hD hS => ?_)
      try dsimp only at hwj
      have hP : va_P D vwC [(h, .inr (1, [.int (nI d), .int kb, .ref fo, .ref ke, .ref ht, .ref wo, .ref fi, .ref se])), (fo, LA cJ 16 Fm)] H := hP.sub [1, 0] rfl
      have hD : va_D A [(h, .inr (1, [.int (nI d), .int kb, .ref fo, .ref ke, .ref ht, .ref wo, .ref fi, .ref se])), (fo, LA cJ 16 Fm)] := hD.sub [1, 0] (by decide) rfl
      rcases hwj with ⟨rfl, hwj⟩ | ⟨rfl, hwj⟩
      · skip
        refine xz_ne (tgt := 26) (X := (1 : Nat)) hx hb (nI_toInt (by omega)) d_K_put_13 (by decide) (fun c13_6 => ?_) (fun c13_6 => absurd c13_6 (by omega))
        refine lv_ldc2 (v := lI (-1000000000000000000)) hx hb hown (hts _ tw_85) d_K_put_26 ?_
        exact hret H locs _ ls (lI (-1000000000000000000)) Fm d_K_put_29 ⟨(by unfold s_put; rw [if_pos (show (vi.toInt < 0 ∨ (d : Int) < vi.toInt) ∨ (vj.toInt < 0 ∨ (d : Int) < vj.toInt) ∨ (vv.toInt < -20 ∨ 20 < vv.toInt) from by omega)]; rfl), fun _ => rfl, fun h => absurd (show badP d vi.toInt vj.toInt vv.toInt by unfold badP; omega) h⟩ hP hD hS
      · skip
        refine xz_ne (tgt := 26) (X := (0 : Nat)) hx hb (nI_toInt (by omega)) d_K_put_13 (by decide) (fun c13_7 => absurd c13_7 (by omega)) (fun c13_7 => ?_)
        refine lv_iload_n hx hb d_K_put_16 rfl (lv_at hl 3 rfl) ?_
        refine lv_i2l (v := lI vv.toInt) hx hb d_K_put_17 rfl ?_
        refine lv_bipush (v := nI 20) hx hb d_K_put_18 (by decide) ?_
        refine xci (wc := []) (wr := [(h, .inr (1, [.int (nI d), .int kb, .ref fo, .ref ke, .ref ht, .ref wo, .ref fi, .ref se])), (fo, LA cJ 16 Fm)]) hP hD hS hA [] [0, 1] rfl rfl (by decide) (by decide) (va_runS (As := [.long (lI vv.toInt), .int (nI 20)]) (rest := []) ⟨hx, hb, hml, hown, hts⟩ (c_beyond l D cJ vv.toInt 20 (lB_i _) (by first | assumption | omega) H.size) (cwS 2 hts (gS tw_82 tw_83 tw_1 tw_84) rfl rfl rfl ⟨rfl, hd_K_isBeyond⟩ ⟨Nat.le_of_ble_eq_true rfl, Nat.le_of_ble_eq_true rfl⟩) (xPreS hN hK (hP.sub (ws' := []) [] rfl) (hD.sub (ws' := []) [] (by decide) rfl)) rfl rfl hl.1 rfl (lv_room (Nat.le_of_ble_eq_true rfl)) d_K_put_20 ⟨Nat.le_of_ble_eq_true rfl, Nat.le_of_ble_eq_true rfl⟩) (fun r_9 u_10 H locs hwv hP hD hS => ?_)
        try dsimp only at hwv
        have hP : va_P D vwC [(h, .inr (1, [.int (nI d), .int kb, .ref fo, .ref ke, .ref ht, .ref wo, .ref fi, .ref se])), (fo, LA cJ 16 Fm)] H := hP
        have hD : va_D A [(h, .inr (1, [.int (nI d), .int kb, .ref fo, .ref ke, .ref ht, .ref wo, .ref fi, .ref se])), (fo, LA cJ 16 Fm)] := hD
        rcases hwv with ⟨rfl, hwv⟩ | ⟨rfl, hwv⟩
        · skip
          refine xz_eq (tgt := 30) (X := (1 : Nat)) hx hb (nI_toInt (by omega)) d_K_put_23 (by decide) (fun c23_10 => absurd c23_10 (by omega)) (fun c23_10 => ?_)
          refine lv_ldc2 (v := lI (-1000000000000000000)) hx hb hown (hts _ tw_85) d_K_put_26 ?_
          exact hret H locs _ ls (lI (-1000000000000000000)) Fm d_K_put_29 ⟨(by unfold s_put; rw [if_pos (show (vi.toInt < 0 ∨ (d : Int) < vi.toInt) ∨ (vj.toInt < 0 ∨ (d : Int) < vj.toInt) ∨ (vv.toInt < -20 ∨ 20 < vv.toInt) from by omega)]; rfl), fun _ => rfl, fun h => absurd (show badP d vi.toInt vj.toInt vv.toInt by unfold badP; omega) h⟩ hP hD hS
        · skip
          refine xz_eq (tgt := 30) (X := (0 : Nat)) hx hb (nI_toInt (by omega)) d_K_put_23 (by decide) (fun c23_11 => ?_) (fun c23_11 => absurd c23_11 (by omega))
          obtain ⟨i, hi, rfl⟩ := nI_range hwi
          obtain ⟨j, hj, rfl⟩ := nI_range hwj
          refine lv_aload_n hx hb d_K_put_30 rfl (lv_at hl 0 rfl) ?_
          refine va_get (D := D) (ci := 1) (v := .ref fo) (C := R_K) (T := F_K) (N := 8) hx hb hts iw_K hown hK hP 0 rfl rfl 2 (by decide) (hts _ tw_44) (fun _ h9 => h9) rfl d_K_put_31 ?_
          refine lv_iload_n hx hb d_K_put_34 rfl (lv_at hl 1 rfl) ?_
          refine lv_iload_n hx hb d_K_put_35 rfl (lv_at hl 2 rfl) ?_
          refine xci (wc := []) (wr := [(h, .inr (1, [.int (nI d), .int kb, .ref fo, .ref ke, .ref ht, .ref wo, .ref fi, .ref se])), (fo, LA cJ 16 Fm)]) hP hD hS hA [] [0, 1] rfl rfl (by decide) (by decide) (va_runS (As := [.int (nI i), .int (nI j)]) (rest := [.ref fo]) ⟨hx, hb, hml, hown, hts⟩ (c_place l D cJ i j H.size) (cwS 2 hts (gS tw_86 tw_87 tw_1 tw_88) rfl rfl rfl ⟨rfl, hd_K_place⟩ ⟨Nat.le_of_ble_eq_true rfl, Nat.le_of_ble_eq_true rfl⟩) (xPreS hN hK (hP.sub (ws' := []) [] rfl) (hD.sub (ws' := []) [] (by decide) rfl)) rfl rfl hl.1 rfl (lv_room (Nat.le_of_ble_eq_true rfl)) d_K_put_36 ⟨Nat.le_of_ble_eq_true rfl, Nat.le_of_ble_eq_true rfl⟩) (fun r_13 u_14 H locs hw_15 hP hD hS => ?_)
          try dsimp only at hw_15
          have hP : va_P D vwC [(h, .inr (1, [.int (nI d), .int kb, .ref fo, .ref ke, .ref ht, .ref wo, .ref fi, .ref se])), (fo, LA cJ 16 Fm)] H := hP
          have hD : va_D A [(h, .inr (1, [.int (nI d), .int kb, .ref fo, .ref ke, .ref ht, .ref wo, .ref fi, .ref se])), (fo, LA cJ 16 Fm)] := hD
          subst hw_15
          refine xl_ald hx hb hK hP 1 0 rfl rfl (k := 4 * i + j) (by omega) (by first | decide | omega) d_K_put_39 ?_
          refine lv_lstore (lv' := [(4, .long (lI (Fm (4 * i + j)))), (0, .ref h), (1, .int (nI i)), (2, .int (nI j)), (3, .int vv)]) hx hb d_K_put_40 hl (by decide) rfl (fun ls hl => ?_)
          refine lv_aload_n hx hb d_K_put_42 rfl (lv_at hl 1 rfl) ?_
          refine va_get (D := D) (ci := 1) (v := .ref fo) (C := R_K) (T := F_K) (N := 8) hx hb hts iw_K hown hK hP 0 rfl rfl 2 (by decide) (hts _ tw_44) (fun _ h9 => h9) rfl d_K_put_43 ?_
          refine lv_iload_n hx hb d_K_put_46 rfl (lv_at hl 2 rfl) ?_
          refine lv_iload_n hx hb d_K_put_47 rfl (lv_at hl 3 rfl) ?_
          refine xci (wc := []) (wr := [(h, .inr (1, [.int (nI d), .int kb, .ref fo, .ref ke, .ref ht, .ref wo, .ref fi, .ref se])), (fo, LA cJ 16 Fm)]) hP hD hS hA [] [0, 1] rfl rfl (by decide) (by decide) (va_runS (As := [.int (nI i), .int (nI j)]) (rest := [.ref fo]) ⟨hx, hb, hml, hown, hts⟩ (c_place l D cJ i j H.size) (cwS 2 hts (gS tw_86 tw_87 tw_1 tw_88) rfl rfl rfl ⟨rfl, hd_K_place⟩ ⟨Nat.le_of_ble_eq_true rfl, Nat.le_of_ble_eq_true rfl⟩) (xPreS hN hK (hP.sub (ws' := []) [] rfl) (hD.sub (ws' := []) [] (by decide) rfl)) rfl rfl hl.1 rfl (lv_room (Nat.le_of_ble_eq_true rfl)) d_K_put_48 ⟨Nat.le_of_ble_eq_true rfl, Nat.le_of_ble_eq_true rfl⟩) (fun r_16 u_17 H locs hw_18 hP hD hS => ?_)
          try dsimp only at hw_18
          have hP : va_P D vwC [(h, .inr (1, [.int (nI d), .int kb, .ref fo, .ref ke, .ref ht, .ref wo, .ref fi, .ref se])), (fo, LA cJ 16 Fm)] H := hP
          have hD : va_D A [(h, .inr (1, [.int (nI d), .int kb, .ref fo, .ref ke, .ref ht, .ref wo, .ref fi, .ref se])), (fo, LA cJ 16 Fm)] := hD
          subst hw_18
          refine lv_iload_n hx hb d_K_put_51 rfl (lv_at hl 4 rfl) ?_
          refine lv_i2l (v := lI vv.toInt) hx hb d_K_put_52 rfl ?_
          refine xl_ast hx hb hK hP hD hS 1 0 rfl rfl (k := 4 * i + j) (by omega) (by first | decide | omega) d_K_put_53 (fun H locs hP hD hS => ?_)
          have hP : va_P D vwC [(h, .inr (1, [.int (nI d), .int kb, .ref fo, .ref ke, .ref ht, .ref wo, .ref fi, .ref se])), (fo, LA cJ 16 (upZ Fm (4 * i + j) vv.toInt))] H := hP
          have hD : va_D A [(h, .inr (1, [.int (nI d), .int kb, .ref fo, .ref ke, .ref ht, .ref wo, .ref fi, .ref se])), (fo, LA cJ 16 (upZ Fm (4 * i + j) vv.toInt))] := hD
          refine lv_aload_n hx hb d_K_put_54 rfl (lv_at hl 1 rfl) ?_
          refine va_get (D := D) (ci := 1) (v := .ref fo) (C := R_K) (T := F_K) (N := 8) hx hb hts iw_K hown hK hP 0 rfl rfl 2 (by decide) (hts _ tw_44) (fun _ h9 => h9) rfl d_K_put_55 ?_
          refine lv_iload_n hx hb d_K_put_58 rfl (lv_at hl 3 rfl) ?_
          refine lv_iload_n hx hb d_K_put_59 rfl (lv_at hl 2 rfl) ?_
          refine xci (wc := []) (wr := [(h, .inr (1, [.int (nI d), .int kb, .ref fo, .ref ke, .ref ht, .ref wo, .ref fi, .ref se])), (fo, LA cJ 16 (upZ Fm (4 * i + j) vv.toInt))]) hP hD hS hA [] [0, 1] rfl rfl (by decide) (by decide) (va_runS (As := [.int (nI j), .int (nI i)]) (rest := [.ref fo]) ⟨hx, hb, hml, hown, hts⟩ (c_place l D cJ j i H.size) (cwS 2 hts (gS tw_86 tw_87 tw_1 tw_88) rfl rfl rfl ⟨rfl, hd_K_place⟩ ⟨Nat.le_of_ble_eq_true rfl, Nat.le_of_ble_eq_true rfl⟩) (xPreS hN hK (hP.sub (ws' := []) [] rfl) (hD.sub (ws' := []) [] (by decide) rfl)) rfl rfl hl.1 rfl (lv_room (Nat.le_of_ble_eq_true rfl)) d_K_put_60 ⟨Nat.le_of_ble_eq_true rfl, Nat.le_of_ble_eq_true rfl⟩) (fun r_19 u_20 H locs hw_21 hP hD hS => ?_)
          try dsimp only at hw_21
          have hP : va_P D vwC [(h, .inr (1, [.int (nI d), .int kb, .ref fo, .ref ke, .ref ht, .ref wo, .ref fi, .ref se])), (fo, LA cJ 16 (upZ Fm (4 * i + j) vv.toInt))] H := hP
          have hD : va_D A [(h, .inr (1, [.int (nI d), .int kb, .ref fo, .ref ke, .ref ht, .ref wo, .ref fi, .ref se])), (fo, LA cJ 16 (upZ Fm (4 * i + j) vv.toInt))] := hD
          subst hw_21
          refine lv_iload_n hx hb d_K_put_63 rfl (lv_at hl 4 rfl) ?_
          refine lv_i2l (v := lI vv.toInt) hx hb d_K_put_64 rfl ?_
          refine xl_ast hx hb hK hP hD hS 1 0 rfl rfl (k := 4 * j + i) (by omega) (by first | decide | omega) d_K_put_65 (fun H locs hP hD hS => ?_)
          have hP : va_P D vwC [(h, .inr (1, [.int (nI d), .int kb, .ref fo, .ref ke, .ref ht, .ref wo, .ref fi, .ref se])), (fo, LA cJ 16 (upZ (upZ Fm (4 * i + j) vv.toInt) (4 * j + i) vv.toInt))] H := hP
          have hD : va_D A [(h, .inr (1, [.int (nI d), .int kb, .ref fo, .ref ke, .ref ht, .ref wo, .ref fi, .ref se])), (fo, LA cJ 16 (upZ (upZ Fm (4 * i + j) vv.toInt) (4 * j + i) vv.toInt))] := hD
          refine lv_lload hx hb d_K_put_66 (lv_at hl 0 rfl) ?_
          exact hret H locs _ ls (lI (Fm (4 * i + j))) (upZ (upZ Fm (4 * i + j) vv.toInt) (4 * j + i) vv.toInt) d_K_put_68 ⟨(by unfold s_put; rw [nI_toInt (by omega), nI_toInt (by omega)]; rw [nI_toInt (by omega)] at hwi hwj; rw [if_neg (show ¬ (((i : Int) < 0 ∨ (d : Int) < i) ∨ ((j : Int) < 0 ∨ (d : Int) < j) ∨ (vv.toInt < -20 ∨ 20 < vv.toInt)) from by omega)]; rfl), fun h => absurd h (by unfold badP; omega), fun _ => by rw [nI_toInt (by omega), nI_toInt (by omega)]; rfl⟩ hP hD hS
  rw [hH, hlc] at key; exact key

def rm_k_kind : Room := { frames := 5, cells := 0, slots := 0, locals := 135 }
set_option maxHeartbeats 4000000 in
set_option maxRecDepth 100000 in
/-- kind -/
theorem k_kind (l : Launch) (D : va_G) (cJ : ClassId) (h : Nat) (d : Nat) (kb : Int32) (fo : Nat) (ke : Nat) (ht : Nat) (wo : Nat) (fi : Nat) (se : Nat) (Fm : Nat → Int) (hc : Nat) (hf : Nat) (hp : Nat) (ho : Nat) (r0 : Int32) (C : Nat → Int) (F : Nat → Int) (P : Nat → Int) (O : Nat → Int) (hd2 : 2 ≤ d) (hd3 : d ≤ 3) (hF : ∀ k, k < 16 → inB (Fm k) 20) (sz : Nat) : xMi l y_K_kind (Cond.code y_K_kind b_K_kind 1 (some .int) :: tW) rm_k_kind [.ref h] D vwC [(cJ, .long)] sz [(h, .inr (1, [.int (nI d), .int kb, .ref fo, .ref ke, .ref ht, .ref wo, .ref fi, .ref se])), (fo, LA cJ 16 Fm), (ht, .inr (0, [.int r0, .ref hc, .ref hf, .ref hp, .ref ho])), (hc, LA cJ 16 C), (hf, LA cJ 16 F), (hp, LA cJ 16 P), (ho, LA cJ 5 O)] (fun (rv : Int32) (uo : Int32 × (Nat → Int) × (Nat → Int) × (Nat → Int) × (Nat → Int)) => rv = nI (kindN Fm d)) (fun (uo : Int32 × (Nat → Int) × (Nat → Int) × (Nat → Int) × (Nat → Int)) => [(h, .inr (1, [.int (nI d), .int kb, .ref fo, .ref ke, .ref ht, .ref wo, .ref fi, .ref se])), (fo, LA cJ 16 Fm), (ht, .inr (0, [.int uo.1, .ref hc, .ref hf, .ref hp, .ref ho])), (hc, LA cJ 16 uo.2.1), (hf, LA cJ 16 uo.2.2.1), (hp, LA cJ 16 uo.2.2.2.1), (ho, LA cJ 5 uo.2.2.2.2)]) 0 0 := by
  refine xoi (cc := b_K_kind) (maxL := 1) (by decide) rfl (Nat.le_of_ble_eq_true rfl) ?_
  intro p e s m args below meth c Q A hx hb hml hts hown hN hA hS hP hK hD hret ls hl
  have hl : lv_has ls 1 [(0, .ref h)] := hl
  obtain ⟨H, hH⟩ : ∃ z, z = s.heap := ⟨_, rfl⟩
  obtain ⟨locs, hlc⟩ : ∃ z : List Loc, z = [] := ⟨_, rfl⟩
  rw [← hH] at hP
  have hS : va_S A s.heap H locs := by rw [hH, hlc]; exact hS
  have key : W p l e rm_k_kind s m args below meth c H locs 0 0 Q (F0 m 0 ls []) := by
    refine lv_aload_n hx hb d_K_kind_0 rfl (lv_at hl 0 rfl) ?_
    refine lv_aload_n hx hb d_K_kind_1 rfl (lv_at hl 0 rfl) ?_
    refine va_get (D := D) (ci := 1) (v := .ref fo) (C := R_K) (T := F_K) (N := 8) hx hb hts iw_K hown hK hP 0 rfl rfl 2 (by decide) (hts _ tw_44) (fun _ h9 => h9) rfl d_K_kind_2 ?_
    refine lv_aload_n hx hb d_K_kind_5 rfl (lv_at hl 0 rfl) ?_
    refine va_get (D := D) (ci := 1) (v := .int (nI d)) (C := R_K) (T := F_K) (N := 8) hx hb hts iw_K hown hK hP 0 rfl rfl 0 (by decide) (hts _ tw_42) (fun _ h9 => h9) rfl d_K_kind_6 ?_
    refine xci (wc := [(h, .inr (1, [.int (nI d), .int kb, .ref fo, .ref ke, .ref ht, .ref wo, .ref fi, .ref se])), (fo, LA cJ 16 Fm), (ht, .inr (0, [.int r0, .ref hc, .ref hf, .ref hp, .ref ho])), (hc, LA cJ 16 C), (hf, LA cJ 16 F), (hp, LA cJ 16 P), (ho, LA cJ 5 O)]) (wr := []) hP hD hS hA [0, 1, 2, 3, 4, 5, 6] [] rfl rfl (by decide) (by decide) (va_runV (As := [.ref fo, .int (nI d)]) (rest := []) ⟨hx, hb, hml, hown, hts⟩ (c_kindOf l D cJ h d kb fo ke ht wo fi se hc hf hp ho r0 C F P O fo Fm d (by first | assumption | omega) (by first | assumption | omega) (enB_20 hF (by omega)) (enB_20 hF (by omega)) H.size) (cwV 2 hts (gV tw_93 tw_95 tws_1 tw_1 tw_96) rfl rfl rfl ⟨rfl, hd_K_kindOf⟩ ⟨Nat.le_of_ble_eq_true rfl, Nat.le_of_ble_eq_true rfl⟩) (xPreV (C := R_K) (T := F_K) (N := 8) (q0 := 0) hN hK (hP.sub (ws' := [(h, .inr (1, [.int (nI d), .int kb, .ref fo, .ref ke, .ref ht, .ref wo, .ref fi, .ref se])), (fo, LA cJ 16 Fm), (ht, .inr (0, [.int r0, .ref hc, .ref hf, .ref hp, .ref ho])), (hc, LA cJ 16 C), (hf, LA cJ 16 F), (hp, LA cJ 16 P), (ho, LA cJ 5 O)]) [0, 1, 2, 3, 4, 5, 6] rfl) (hD.sub (ws' := [(h, .inr (1, [.int (nI d), .int kb, .ref fo, .ref ke, .ref ht, .ref wo, .ref fi, .ref se])), (fo, LA cJ 16 Fm), (ht, .inr (0, [.int r0, .ref hc, .ref hf, .ref hp, .ref ho])), (hc, LA cJ 16 C), (hf, LA cJ 16 F), (hp, LA cJ 16 P), (ho, LA cJ 5 O)]) [0, 1, 2, 3, 4, 5, 6] (by decide) rfl) rfl rfl) rfl rfl hl.1 rfl (lv_room (Nat.le_of_ble_eq_true rfl)) d_K_kind_9 ⟨Nat.le_of_ble_eq_true rfl, Nat.le_of_ble_eq_true rfl⟩) (fun r_1 u_2 H locs hw_3 hP hD hS => ?_)
    obtain ⟨r2_4, C2_5, F2_6, P2_7, O2_8⟩ := u_2
    try dsimp only at hw_3
    have hP : va_P D vwC [(h, .inr (1, [.int (nI d), .int kb, .ref fo, .ref ke, .ref ht, .ref wo, .ref fi, .ref se])), (fo, LA cJ 16 Fm), (ht, .inr (0, [.int r2_4, .ref hc, .ref hf, .ref hp, .ref ho])), (hc, LA cJ 16 C2_5), (hf, LA cJ 16 F2_6), (hp, LA cJ 16 P2_7), (ho, LA cJ 5 O2_8)] H := hP
    have hD : va_D A [(h, .inr (1, [.int (nI d), .int kb, .ref fo, .ref ke, .ref ht, .ref wo, .ref fi, .ref se])), (fo, LA cJ 16 Fm), (ht, .inr (0, [.int r2_4, .ref hc, .ref hf, .ref hp, .ref ho])), (hc, LA cJ 16 C2_5), (hf, LA cJ 16 F2_6), (hp, LA cJ 16 P2_7), (ho, LA cJ 5 O2_8)] := hD
    obtain ⟨rfl, hw_3⟩ := hw_3
    exact hret H locs _ ls (nI (kindN Fm d)) (r2_4, C2_5, F2_6, P2_7, O2_8) d_K_kind_12 rfl hP hD hS
  rw [hH, hlc] at key; exact key

def rm_k_signs : Room := { frames := 4, cells := 0, slots := 0, locals := 107 }
set_option maxHeartbeats 4000000 in
set_option maxRecDepth 100000 in
/-- signs -/
theorem k_signs (l : Launch) (D : va_G) (cJ : ClassId) (h : Nat) (d : Nat) (kb : Int32) (fo : Nat) (ke : Nat) (ht : Nat) (wo : Nat) (fi : Nat) (se : Nat) (Fm : Nat → Int) (hc : Nat) (hf : Nat) (hp : Nat) (ho : Nat) (r0 : Int32) (C : Nat → Int) (F : Nat → Int) (P : Nat → Int) (O : Nat → Int) (v : Int32) (hd2 : 2 ≤ d) (hd3 : d ≤ 3) (hF : ∀ k, k < 16 → inB (Fm k) 20) (sz : Nat) : xMi l y_K_signs (Cond.code y_K_signs b_K_signs 2 (some .int) :: tW) rm_k_signs [.ref h, .int v] D vwC [(cJ, .long)] sz [(h, .inr (1, [.int (nI d), .int kb, .ref fo, .ref ke, .ref ht, .ref wo, .ref fi, .ref se])), (fo, LA cJ 16 Fm), (ht, .inr (0, [.int r0, .ref hc, .ref hf, .ref hp, .ref ho])), (hc, LA cJ 16 C), (hf, LA cJ 16 F), (hp, LA cJ 16 P), (ho, LA cJ 5 O)] (fun (rv : Int32) (uo : Int32 × (Nat → Int) × (Nat → Int) × (Nat → Int) × (Nat → Int)) => rv = s_signs Fm d v.toInt) (fun (uo : Int32 × (Nat → Int) × (Nat → Int) × (Nat → Int) × (Nat → Int)) => [(h, .inr (1, [.int (nI d), .int kb, .ref fo, .ref ke, .ref ht, .ref wo, .ref fi, .ref se])), (fo, LA cJ 16 Fm), (ht, .inr (0, [.int uo.1, .ref hc, .ref hf, .ref hp, .ref ho])), (hc, LA cJ 16 uo.2.1), (hf, LA cJ 16 uo.2.2.1), (hp, LA cJ 16 uo.2.2.2.1), (ho, LA cJ 5 uo.2.2.2.2)]) 0 0 := by
  refine xoi (cc := b_K_signs) (maxL := 2) (by decide) rfl (Nat.le_of_ble_eq_true rfl) ?_
  intro p e s m args below meth c Q A hx hb hml hts hown hN hA hS hP hK hD hret ls hl
  have hl : lv_has ls 2 [(0, .ref h), (1, .int v)] := hl
  obtain ⟨H, hH⟩ : ∃ z, z = s.heap := ⟨_, rfl⟩
  obtain ⟨locs, hlc⟩ : ∃ z : List Loc, z = [] := ⟨_, rfl⟩
  rw [← hH] at hP
  have hS : va_S A s.heap H locs := by rw [hH, hlc]; exact hS
  have key : W p l e rm_k_signs s m args below meth c H locs 0 0 Q (F0 m 0 ls []) := by
    refine lv_iload_n hx hb d_K_signs_0 rfl (lv_at hl 1 rfl) ?_
    refine xz_lt (tgt := 9) (X := v.toInt) hx hb rfl d_K_signs_1 (by decide) (fun c1_0 => ?_) (fun c1_0 => ?_)
    · skip
      refine lv_bipush (v := (-2)) hx hb d_K_signs_9 (by decide) ?_
      exact hret H locs _ ls (-2) (r0, C, F, P, O) d_K_signs_11 (by unfold s_signs; rw [if_neg (show ¬ v.toInt = 0 from by omega), if_neg (show ¬ v.toInt = 1 from by omega), if_neg (show ¬ v.toInt = 2 from by omega), if_neg (show ¬ v.toInt = 3 from by omega)]) hP hD hS
    · skip
      refine lv_iload_n hx hb d_K_signs_4 rfl (lv_at hl 1 rfl) ?_
      refine lv_iconst (v := nI 3) hx hb d_K_signs_5 (by decide) ?_
      refine xi_le (tgt := 12) (X := v.toInt) (Y := (3 : Nat)) hx hb rfl (nI_toInt (by omega)) d_K_signs_6 (by decide) (fun c6_1 => ?_) (fun c6_1 => ?_)
      · skip
        obtain ⟨k, hk, rfl⟩ := nI_range (v := v) (d := 3) (by omega)
        refine lv_aload_n hx hb d_K_signs_12 rfl (lv_at hl 0 rfl) ?_
        refine va_get (D := D) (ci := 1) (v := .ref ht) (C := R_K) (T := F_K) (N := 8) hx hb hts iw_K hown hK hP 0 rfl rfl 4 (by decide) (hts _ tw_46) (fun _ h9 => h9) rfl d_K_signs_13 ?_
        refine lv_aload_n hx hb d_K_signs_16 rfl (lv_at hl 0 rfl) ?_
        refine va_get (D := D) (ci := 1) (v := .ref fo) (C := R_K) (T := F_K) (N := 8) hx hb hts iw_K hown hK hP 0 rfl rfl 2 (by decide) (hts _ tw_44) (fun _ h9 => h9) rfl d_K_signs_17 ?_
        refine lv_iload_n hx hb d_K_signs_20 rfl (lv_at hl 1 rfl) ?_
        refine lv_iconst (v := nI 2) hx hb d_K_signs_21 (by decide) ?_
        refine xn_ge (tgt := 29) hx hb (by omega) (by omega) d_K_signs_22 (by decide) (fun c22_2 => ?_) (fun c22_2 => ?_)
        · skip
          refine lv_iconst (v := nI 0) hx hb d_K_signs_29 (by decide) ?_
          refine lv_aload_n hx hb d_K_signs_30 rfl (lv_at hl 0 rfl) ?_
          refine va_get (D := D) (ci := 1) (v := .int (nI d)) (C := R_K) (T := F_K) (N := 8) hx hb hts iw_K hown hK hP 0 rfl rfl 0 (by decide) (hts _ tw_42) (fun _ h9 => h9) rfl d_K_signs_31 ?_
          refine xcv (wc := [(ht, .inr (0, [.int r0, .ref hc, .ref hf, .ref hp, .ref ho])), (hc, LA cJ 16 C), (hf, LA cJ 16 F), (hp, LA cJ 16 P), (ho, LA cJ 5 O), (fo, LA cJ 16 Fm)]) (wr := [(h, .inr (1, [.int (nI d), .int kb, .ref fo, .ref ke, .ref ht, .ref wo, .ref fi, .ref se]))]) hP hD hS hA [2, 3, 4, 5, 6, 1] [0] rfl rfl (by decide) (by decide) (va_runV (As := [.ref fo, .int (nI 0), .int (nI d)]) (rest := []) ⟨hx, hb, hml, hown, hts⟩ (c_load l D cJ ht hc hf hp ho fo 0 d (d + 1) r0 C F P O Fm (by first | assumption | omega) (by first | assumption | omega) (by first | assumption | omega) (ld_q (by omega) (by omega) (enB_20 hF (by omega))) H.size) (cwV 3 hts (gV tw_97 tw_98 tw_99 tw_2 tw_100) rfl rfl rfl ⟨rfl, hd_T_load⟩ ⟨Nat.le_of_ble_eq_true rfl, Nat.le_of_ble_eq_true rfl⟩) (xPreV (C := R_T) (T := F_T) (N := 5) (q0 := 0) hN hK (hP.sub (ws' := [(ht, .inr (0, [.int r0, .ref hc, .ref hf, .ref hp, .ref ho])), (hc, LA cJ 16 C), (hf, LA cJ 16 F), (hp, LA cJ 16 P), (ho, LA cJ 5 O), (fo, LA cJ 16 Fm)]) [2, 3, 4, 5, 6, 1] rfl) (hD.sub (ws' := [(ht, .inr (0, [.int r0, .ref hc, .ref hf, .ref hp, .ref ho])), (hc, LA cJ 16 C), (hf, LA cJ 16 F), (hp, LA cJ 16 P), (ho, LA cJ 5 O), (fo, LA cJ 16 Fm)]) [2, 3, 4, 5, 6, 1] (by decide) rfl) rfl rfl) rfl rfl hl.1 rfl (lv_room (Nat.le_of_ble_eq_true rfl)) d_K_signs_34 ⟨Nat.le_of_ble_eq_true rfl, Nat.le_of_ble_eq_true rfl⟩) (fun u_5 H locs hwl hP hD hS => ?_)
          obtain ⟨Ca, Fa, Pa, Oa⟩ := u_5
          try dsimp only at hwl
          have hP : va_P D vwC [(h, .inr (1, [.int (nI d), .int kb, .ref fo, .ref ke, .ref ht, .ref wo, .ref fi, .ref se])), (fo, LA cJ 16 Fm), (ht, .inr (0, [.int (nI (d + 1)), .ref hc, .ref hf, .ref hp, .ref ho])), (hc, LA cJ 16 Ca), (hf, LA cJ 16 Fa), (hp, LA cJ 16 Pa), (ho, LA cJ 5 Oa)] H := hP.sub [0, 6, 1, 2, 3, 4, 5] rfl
          have hD : va_D A [(h, .inr (1, [.int (nI d), .int kb, .ref fo, .ref ke, .ref ht, .ref wo, .ref fi, .ref se])), (fo, LA cJ 16 Fm), (ht, .inr (0, [.int (nI (d + 1)), .ref hc, .ref hf, .ref hp, .ref ho])), (hc, LA cJ 16 Ca), (hf, LA cJ 16 Fa), (hp, LA cJ 16 Pa), (ho, LA cJ 5 Oa)] := hD.sub [0, 6, 1, 2, 3, 4, 5] (by decide) rfl
          have hT := ld_ok (f := 0) (r := d + 1) (by omega) (by omega) hwl
          refine lv_iload_n hx hb d_K_signs_37 rfl (lv_at hl 1 rfl) ?_
          refine lv_iconst (v := nI 2) hx hb d_K_signs_38 (by decide) ?_
          refine xn_rem hx hb (by omega) (by omega) (by omega) d_K_signs_39 ?_
          refine xz_ne (tgt := 53) (X := (k % 2 : Nat)) hx hb (nI_toInt (by omega)) d_K_signs_40 (by decide) (fun c40_5 => ?_) (fun c40_5 => ?_)
          · skip
            refine lv_aload_n hx hb d_K_signs_53 rfl (lv_at hl 0 rfl) ?_
            refine va_get (D := D) (ci := 1) (v := .ref ht) (C := R_K) (T := F_K) (N := 8) hx hb hts iw_K hown hK hP 0 rfl rfl 4 (by decide) (hts _ tw_46) (fun _ h9 => h9) rfl d_K_signs_54 ?_
            refine xci (wc := [(ht, .inr (0, [.int (nI (d + 1)), .ref hc, .ref hf, .ref hp, .ref ho])), (hc, LA cJ 16 Ca), (hf, LA cJ 16 Fa), (hp, LA cJ 16 Pa), (ho, LA cJ 5 Oa)]) (wr := [(h, .inr (1, [.int (nI d), .int kb, .ref fo, .ref ke, .ref ht, .ref wo, .ref fi, .ref se])), (fo, LA cJ 16 Fm)]) hP hD hS hA [2, 3, 4, 5, 6] [0, 1] rfl rfl (by decide) (by decide) (va_runV (As := []) (rest := []) ⟨hx, hb, hml, hown, hts⟩ (c_below l D cJ ht hc hf hp ho (d + 1) Ca Fa Pa Oa (by first | assumption | omega) (by first | assumption | omega) (ld_lB (by omega) (by omega) (enB_20 hF (by omega)) hT) H.size) (cwV 0 hts (gV tw_122 tw_123 tw_124 tw_2 tw_125) rfl rfl rfl ⟨rfl, hd_T_countBelow⟩ ⟨Nat.le_of_ble_eq_true rfl, Nat.le_of_ble_eq_true rfl⟩) (xPreV (C := R_T) (T := F_T) (N := 5) (q0 := 0) hN hK (hP.sub (ws' := [(ht, .inr (0, [.int (nI (d + 1)), .ref hc, .ref hf, .ref hp, .ref ho])), (hc, LA cJ 16 Ca), (hf, LA cJ 16 Fa), (hp, LA cJ 16 Pa), (ho, LA cJ 5 Oa)]) [2, 3, 4, 5, 6] rfl) (hD.sub (ws' := [(ht, .inr (0, [.int (nI (d + 1)), .ref hc, .ref hf, .ref hp, .ref ho])), (hc, LA cJ 16 Ca), (hf, LA cJ 16 Fa), (hp, LA cJ 16 Pa), (ho, LA cJ 5 Oa)]) [2, 3, 4, 5, 6] (by decide) rfl) rfl rfl) rfl rfl hl.1 rfl (lv_room (Nat.le_of_ble_eq_true rfl)) d_K_signs_57 ⟨Nat.le_of_ble_eq_true rfl, Nat.le_of_ble_eq_true rfl⟩) (fun r_7 u_8 H locs hw_9 hP hD hS => ?_)
            try dsimp only at hw_9
            have hP : va_P D vwC [(h, .inr (1, [.int (nI d), .int kb, .ref fo, .ref ke, .ref ht, .ref wo, .ref fi, .ref se])), (fo, LA cJ 16 Fm), (ht, .inr (0, [.int (nI (d + 1)), .ref hc, .ref hf, .ref hp, .ref ho])), (hc, LA cJ 16 Ca), (hf, LA cJ 16 Fa), (hp, LA cJ 16 Pa), (ho, LA cJ 5 Oa)] H := hP
            have hD : va_D A [(h, .inr (1, [.int (nI d), .int kb, .ref fo, .ref ke, .ref ht, .ref wo, .ref fi, .ref se])), (fo, LA cJ 16 Fm), (ht, .inr (0, [.int (nI (d + 1)), .ref hc, .ref hf, .ref hp, .ref ho])), (hc, LA cJ 16 Ca), (hf, LA cJ 16 Fa), (hp, LA cJ 16 Pa), (ho, LA cJ 5 Oa)] := hD
            subst hw_9
            rw [ld_dw hT]
            obtain rfl : k = 3 := by omega
            exact hret H locs _ ls (nI (dwN (prt Fm 0) (d + 1))) (nI (d + 1), Ca, Fa, Pa, Oa) d_K_signs_60 (by unfold s_signs; rw [nI_toInt (by decide)]; rfl) hP hD hS
          · skip
            refine lv_aload_n hx hb d_K_signs_43 rfl (lv_at hl 0 rfl) ?_
            refine va_get (D := D) (ci := 1) (v := .ref ht) (C := R_K) (T := F_K) (N := 8) hx hb hts iw_K hown hK hP 0 rfl rfl 4 (by decide) (hts _ tw_46) (fun _ h9 => h9) rfl d_K_signs_44 ?_
            refine xci (wc := [(ht, .inr (0, [.int (nI (d + 1)), .ref hc, .ref hf, .ref hp, .ref ho])), (hc, LA cJ 16 Ca), (hf, LA cJ 16 Fa), (hp, LA cJ 16 Pa), (ho, LA cJ 5 Oa)]) (wr := [(h, .inr (1, [.int (nI d), .int kb, .ref fo, .ref ke, .ref ht, .ref wo, .ref fi, .ref se])), (fo, LA cJ 16 Fm)]) hP hD hS hA [2, 3, 4, 5, 6] [0, 1] rfl rfl (by decide) (by decide) (va_runV (As := []) (rest := []) ⟨hx, hb, hml, hown, hts⟩ (c_above l D cJ ht hc hf hp ho (d + 1) Ca Fa Pa Oa (by first | assumption | omega) (by first | assumption | omega) (ld_lB (by omega) (by omega) (enB_20 hF (by omega)) hT) H.size) (cwV 0 hts (gV tw_118 tw_119 tw_120 tw_2 tw_121) rfl rfl rfl ⟨rfl, hd_T_countAbove⟩ ⟨Nat.le_of_ble_eq_true rfl, Nat.le_of_ble_eq_true rfl⟩) (xPreV (C := R_T) (T := F_T) (N := 5) (q0 := 0) hN hK (hP.sub (ws' := [(ht, .inr (0, [.int (nI (d + 1)), .ref hc, .ref hf, .ref hp, .ref ho])), (hc, LA cJ 16 Ca), (hf, LA cJ 16 Fa), (hp, LA cJ 16 Pa), (ho, LA cJ 5 Oa)]) [2, 3, 4, 5, 6] rfl) (hD.sub (ws' := [(ht, .inr (0, [.int (nI (d + 1)), .ref hc, .ref hf, .ref hp, .ref ho])), (hc, LA cJ 16 Ca), (hf, LA cJ 16 Fa), (hp, LA cJ 16 Pa), (ho, LA cJ 5 Oa)]) [2, 3, 4, 5, 6] (by decide) rfl) rfl rfl) rfl rfl hl.1 rfl (lv_room (Nat.le_of_ble_eq_true rfl)) d_K_signs_47 ⟨Nat.le_of_ble_eq_true rfl, Nat.le_of_ble_eq_true rfl⟩) (fun r_10 u_11 H locs hw_12 hP hD hS => ?_)
            try dsimp only at hw_12
            have hP : va_P D vwC [(h, .inr (1, [.int (nI d), .int kb, .ref fo, .ref ke, .ref ht, .ref wo, .ref fi, .ref se])), (fo, LA cJ 16 Fm), (ht, .inr (0, [.int (nI (d + 1)), .ref hc, .ref hf, .ref hp, .ref ho])), (hc, LA cJ 16 Ca), (hf, LA cJ 16 Fa), (hp, LA cJ 16 Pa), (ho, LA cJ 5 Oa)] H := hP
            have hD : va_D A [(h, .inr (1, [.int (nI d), .int kb, .ref fo, .ref ke, .ref ht, .ref wo, .ref fi, .ref se])), (fo, LA cJ 16 Fm), (ht, .inr (0, [.int (nI (d + 1)), .ref hc, .ref hf, .ref hp, .ref ho])), (hc, LA cJ 16 Ca), (hf, LA cJ 16 Fa), (hp, LA cJ 16 Pa), (ho, LA cJ 5 Oa)] := hD
            subst hw_12
            rw [ld_up hT]
            refine lv_goto (tgt := 60) hx hb d_K_signs_50 (by decide) ?_
            obtain rfl : k = 2 := by omega
            exact hret H locs _ ls (nI (upN (prt Fm 0) (d + 1))) (nI (d + 1), Ca, Fa, Pa, Oa) d_K_signs_60 (by unfold s_signs; rw [nI_toInt (by decide)]; rfl) hP hD hS
        · skip
          refine lv_iconst (v := nI 1) hx hb d_K_signs_25 (by decide) ?_
          refine lv_goto (tgt := 30) hx hb d_K_signs_26 (by decide) ?_
          refine lv_aload_n hx hb d_K_signs_30 rfl (lv_at hl 0 rfl) ?_
          refine va_get (D := D) (ci := 1) (v := .int (nI d)) (C := R_K) (T := F_K) (N := 8) hx hb hts iw_K hown hK hP 0 rfl rfl 0 (by decide) (hts _ tw_42) (fun _ h9 => h9) rfl d_K_signs_31 ?_
          refine xcv (wc := [(ht, .inr (0, [.int r0, .ref hc, .ref hf, .ref hp, .ref ho])), (hc, LA cJ 16 C), (hf, LA cJ 16 F), (hp, LA cJ 16 P), (ho, LA cJ 5 O), (fo, LA cJ 16 Fm)]) (wr := [(h, .inr (1, [.int (nI d), .int kb, .ref fo, .ref ke, .ref ht, .ref wo, .ref fi, .ref se]))]) hP hD hS hA [2, 3, 4, 5, 6, 1] [0] rfl rfl (by decide) (by decide) (va_runV (As := [.ref fo, .int (nI 1), .int (nI d)]) (rest := []) ⟨hx, hb, hml, hown, hts⟩ (c_load l D cJ ht hc hf hp ho fo 1 d d r0 C F P O Fm (by first | assumption | omega) (by first | assumption | omega) (by first | assumption | omega) (ld_q (by omega) (by omega) (enB_20 hF (by omega))) H.size) (cwV 3 hts (gV tw_97 tw_98 tw_99 tw_2 tw_100) rfl rfl rfl ⟨rfl, hd_T_load⟩ ⟨Nat.le_of_ble_eq_true rfl, Nat.le_of_ble_eq_true rfl⟩) (xPreV (C := R_T) (T := F_T) (N := 5) (q0 := 0) hN hK (hP.sub (ws' := [(ht, .inr (0, [.int r0, .ref hc, .ref hf, .ref hp, .ref ho])), (hc, LA cJ 16 C), (hf, LA cJ 16 F), (hp, LA cJ 16 P), (ho, LA cJ 5 O), (fo, LA cJ 16 Fm)]) [2, 3, 4, 5, 6, 1] rfl) (hD.sub (ws' := [(ht, .inr (0, [.int r0, .ref hc, .ref hf, .ref hp, .ref ho])), (hc, LA cJ 16 C), (hf, LA cJ 16 F), (hp, LA cJ 16 P), (ho, LA cJ 5 O), (fo, LA cJ 16 Fm)]) [2, 3, 4, 5, 6, 1] (by decide) rfl) rfl rfl) rfl rfl hl.1 rfl (lv_room (Nat.le_of_ble_eq_true rfl)) d_K_signs_34 ⟨Nat.le_of_ble_eq_true rfl, Nat.le_of_ble_eq_true rfl⟩) (fun u_14 H locs hwl hP hD hS => ?_)
          obtain ⟨Ca, Fa, Pa, Oa⟩ := u_14
          try dsimp only at hwl
          have hP : va_P D vwC [(h, .inr (1, [.int (nI d), .int kb, .ref fo, .ref ke, .ref ht, .ref wo, .ref fi, .ref se])), (fo, LA cJ 16 Fm), (ht, .inr (0, [.int (nI d), .ref hc, .ref hf, .ref hp, .ref ho])), (hc, LA cJ 16 Ca), (hf, LA cJ 16 Fa), (hp, LA cJ 16 Pa), (ho, LA cJ 5 Oa)] H := hP.sub [0, 6, 1, 2, 3, 4, 5] rfl
          have hD : va_D A [(h, .inr (1, [.int (nI d), .int kb, .ref fo, .ref ke, .ref ht, .ref wo, .ref fi, .ref se])), (fo, LA cJ 16 Fm), (ht, .inr (0, [.int (nI d), .ref hc, .ref hf, .ref hp, .ref ho])), (hc, LA cJ 16 Ca), (hf, LA cJ 16 Fa), (hp, LA cJ 16 Pa), (ho, LA cJ 5 Oa)] := hD.sub [0, 6, 1, 2, 3, 4, 5] (by decide) rfl
          have hT := ld_ok (f := 1) (r := d) (by omega) (by omega) hwl
          refine lv_iload_n hx hb d_K_signs_37 rfl (lv_at hl 1 rfl) ?_
          refine lv_iconst (v := nI 2) hx hb d_K_signs_38 (by decide) ?_
          refine xn_rem hx hb (by omega) (by omega) (by omega) d_K_signs_39 ?_
          refine xz_ne (tgt := 53) (X := (k % 2 : Nat)) hx hb (nI_toInt (by omega)) d_K_signs_40 (by decide) (fun c40_14 => ?_) (fun c40_14 => ?_)
          · skip
            refine lv_aload_n hx hb d_K_signs_53 rfl (lv_at hl 0 rfl) ?_
            refine va_get (D := D) (ci := 1) (v := .ref ht) (C := R_K) (T := F_K) (N := 8) hx hb hts iw_K hown hK hP 0 rfl rfl 4 (by decide) (hts _ tw_46) (fun _ h9 => h9) rfl d_K_signs_54 ?_
            refine xci (wc := [(ht, .inr (0, [.int (nI d), .ref hc, .ref hf, .ref hp, .ref ho])), (hc, LA cJ 16 Ca), (hf, LA cJ 16 Fa), (hp, LA cJ 16 Pa), (ho, LA cJ 5 Oa)]) (wr := [(h, .inr (1, [.int (nI d), .int kb, .ref fo, .ref ke, .ref ht, .ref wo, .ref fi, .ref se])), (fo, LA cJ 16 Fm)]) hP hD hS hA [2, 3, 4, 5, 6] [0, 1] rfl rfl (by decide) (by decide) (va_runV (As := []) (rest := []) ⟨hx, hb, hml, hown, hts⟩ (c_below l D cJ ht hc hf hp ho d Ca Fa Pa Oa (by first | assumption | omega) (by first | assumption | omega) (ld_lB (by omega) (by omega) (enB_20 hF (by omega)) hT) H.size) (cwV 0 hts (gV tw_122 tw_123 tw_124 tw_2 tw_125) rfl rfl rfl ⟨rfl, hd_T_countBelow⟩ ⟨Nat.le_of_ble_eq_true rfl, Nat.le_of_ble_eq_true rfl⟩) (xPreV (C := R_T) (T := F_T) (N := 5) (q0 := 0) hN hK (hP.sub (ws' := [(ht, .inr (0, [.int (nI d), .ref hc, .ref hf, .ref hp, .ref ho])), (hc, LA cJ 16 Ca), (hf, LA cJ 16 Fa), (hp, LA cJ 16 Pa), (ho, LA cJ 5 Oa)]) [2, 3, 4, 5, 6] rfl) (hD.sub (ws' := [(ht, .inr (0, [.int (nI d), .ref hc, .ref hf, .ref hp, .ref ho])), (hc, LA cJ 16 Ca), (hf, LA cJ 16 Fa), (hp, LA cJ 16 Pa), (ho, LA cJ 5 Oa)]) [2, 3, 4, 5, 6] (by decide) rfl) rfl rfl) rfl rfl hl.1 rfl (lv_room (Nat.le_of_ble_eq_true rfl)) d_K_signs_57 ⟨Nat.le_of_ble_eq_true rfl, Nat.le_of_ble_eq_true rfl⟩) (fun r_16 u_17 H locs hw_18 hP hD hS => ?_)
            try dsimp only at hw_18
            have hP : va_P D vwC [(h, .inr (1, [.int (nI d), .int kb, .ref fo, .ref ke, .ref ht, .ref wo, .ref fi, .ref se])), (fo, LA cJ 16 Fm), (ht, .inr (0, [.int (nI d), .ref hc, .ref hf, .ref hp, .ref ho])), (hc, LA cJ 16 Ca), (hf, LA cJ 16 Fa), (hp, LA cJ 16 Pa), (ho, LA cJ 5 Oa)] H := hP
            have hD : va_D A [(h, .inr (1, [.int (nI d), .int kb, .ref fo, .ref ke, .ref ht, .ref wo, .ref fi, .ref se])), (fo, LA cJ 16 Fm), (ht, .inr (0, [.int (nI d), .ref hc, .ref hf, .ref hp, .ref ho])), (hc, LA cJ 16 Ca), (hf, LA cJ 16 Fa), (hp, LA cJ 16 Pa), (ho, LA cJ 5 Oa)] := hD
            subst hw_18
            rw [ld_dw hT]
            obtain rfl : k = 1 := by omega
            exact hret H locs _ ls (nI (dwN (prt Fm 1) (d))) (nI d, Ca, Fa, Pa, Oa) d_K_signs_60 (by unfold s_signs; rw [nI_toInt (by decide)]; rfl) hP hD hS
          · skip
            refine lv_aload_n hx hb d_K_signs_43 rfl (lv_at hl 0 rfl) ?_
            refine va_get (D := D) (ci := 1) (v := .ref ht) (C := R_K) (T := F_K) (N := 8) hx hb hts iw_K hown hK hP 0 rfl rfl 4 (by decide) (hts _ tw_46) (fun _ h9 => h9) rfl d_K_signs_44 ?_
            refine xci (wc := [(ht, .inr (0, [.int (nI d), .ref hc, .ref hf, .ref hp, .ref ho])), (hc, LA cJ 16 Ca), (hf, LA cJ 16 Fa), (hp, LA cJ 16 Pa), (ho, LA cJ 5 Oa)]) (wr := [(h, .inr (1, [.int (nI d), .int kb, .ref fo, .ref ke, .ref ht, .ref wo, .ref fi, .ref se])), (fo, LA cJ 16 Fm)]) hP hD hS hA [2, 3, 4, 5, 6] [0, 1] rfl rfl (by decide) (by decide) (va_runV (As := []) (rest := []) ⟨hx, hb, hml, hown, hts⟩ (c_above l D cJ ht hc hf hp ho d Ca Fa Pa Oa (by first | assumption | omega) (by first | assumption | omega) (ld_lB (by omega) (by omega) (enB_20 hF (by omega)) hT) H.size) (cwV 0 hts (gV tw_118 tw_119 tw_120 tw_2 tw_121) rfl rfl rfl ⟨rfl, hd_T_countAbove⟩ ⟨Nat.le_of_ble_eq_true rfl, Nat.le_of_ble_eq_true rfl⟩) (xPreV (C := R_T) (T := F_T) (N := 5) (q0 := 0) hN hK (hP.sub (ws' := [(ht, .inr (0, [.int (nI d), .ref hc, .ref hf, .ref hp, .ref ho])), (hc, LA cJ 16 Ca), (hf, LA cJ 16 Fa), (hp, LA cJ 16 Pa), (ho, LA cJ 5 Oa)]) [2, 3, 4, 5, 6] rfl) (hD.sub (ws' := [(ht, .inr (0, [.int (nI d), .ref hc, .ref hf, .ref hp, .ref ho])), (hc, LA cJ 16 Ca), (hf, LA cJ 16 Fa), (hp, LA cJ 16 Pa), (ho, LA cJ 5 Oa)]) [2, 3, 4, 5, 6] (by decide) rfl) rfl rfl) rfl rfl hl.1 rfl (lv_room (Nat.le_of_ble_eq_true rfl)) d_K_signs_47 ⟨Nat.le_of_ble_eq_true rfl, Nat.le_of_ble_eq_true rfl⟩) (fun r_19 u_20 H locs hw_21 hP hD hS => ?_)
            try dsimp only at hw_21
            have hP : va_P D vwC [(h, .inr (1, [.int (nI d), .int kb, .ref fo, .ref ke, .ref ht, .ref wo, .ref fi, .ref se])), (fo, LA cJ 16 Fm), (ht, .inr (0, [.int (nI d), .ref hc, .ref hf, .ref hp, .ref ho])), (hc, LA cJ 16 Ca), (hf, LA cJ 16 Fa), (hp, LA cJ 16 Pa), (ho, LA cJ 5 Oa)] H := hP
            have hD : va_D A [(h, .inr (1, [.int (nI d), .int kb, .ref fo, .ref ke, .ref ht, .ref wo, .ref fi, .ref se])), (fo, LA cJ 16 Fm), (ht, .inr (0, [.int (nI d), .ref hc, .ref hf, .ref hp, .ref ho])), (hc, LA cJ 16 Ca), (hf, LA cJ 16 Fa), (hp, LA cJ 16 Pa), (ho, LA cJ 5 Oa)] := hD
            subst hw_21
            rw [ld_up hT]
            refine lv_goto (tgt := 60) hx hb d_K_signs_50 (by decide) ?_
            obtain rfl : k = 0 := by omega
            exact hret H locs _ ls (nI (upN (prt Fm 1) (d))) (nI d, Ca, Fa, Pa, Oa) d_K_signs_60 (by unfold s_signs; rw [nI_toInt (by decide)]; rfl) hP hD hS
      · skip
        refine lv_bipush (v := (-2)) hx hb d_K_signs_9 (by decide) ?_
        exact hret H locs _ ls (-2) (r0, C, F, P, O) d_K_signs_11 (by unfold s_signs; rw [if_neg (show ¬ v.toInt = 0 from by omega), if_neg (show ¬ v.toInt = 1 from by omega), if_neg (show ¬ v.toInt = 2 from by omega), if_neg (show ¬ v.toInt = 3 from by omega)]) hP hD hS
  rw [hH, hlc] at key; exact key

def rm_k_determinant : Room := { frames := 4, cells := 0, slots := 0, locals := 107 }
set_option maxHeartbeats 4000000 in
set_option maxRecDepth 100000 in
/-- determinant -/
theorem k_determinant (l : Launch) (D : va_G) (cJ : ClassId) (h : Nat) (d : Nat) (kb : Int32) (fo : Nat) (ke : Nat) (ht : Nat) (wo : Nat) (fi : Nat) (se : Nat) (Fm : Nat → Int) (hc : Nat) (hf : Nat) (hp : Nat) (ho : Nat) (r0 : Int32) (C : Nat → Int) (F : Nat → Int) (P : Nat → Int) (O : Nat → Int) (v : Int32) (hd2 : 2 ≤ d) (hd3 : d ≤ 3) (hF : ∀ k, k < 16 → inB (Fm k) 20) (sz : Nat) : xMl l y_K_determinant (Cond.code y_K_determinant b_K_determinant 2 (some .long) :: tW) rm_k_determinant [.ref h, .int v] D vwC [(cJ, .long)] sz [(h, .inr (1, [.int (nI d), .int kb, .ref fo, .ref ke, .ref ht, .ref wo, .ref fi, .ref se])), (fo, LA cJ 16 Fm), (ht, .inr (0, [.int r0, .ref hc, .ref hf, .ref hp, .ref ho])), (hc, LA cJ 16 C), (hf, LA cJ 16 F), (hp, LA cJ 16 P), (ho, LA cJ 5 O)] (fun (rv : Int64) (uo : Int32 × (Nat → Int) × (Nat → Int) × (Nat → Int) × (Nat → Int)) => rv = lI (s_det Fm d v.toInt)) (fun (uo : Int32 × (Nat → Int) × (Nat → Int) × (Nat → Int) × (Nat → Int)) => [(h, .inr (1, [.int (nI d), .int kb, .ref fo, .ref ke, .ref ht, .ref wo, .ref fi, .ref se])), (fo, LA cJ 16 Fm), (ht, .inr (0, [.int uo.1, .ref hc, .ref hf, .ref hp, .ref ho])), (hc, LA cJ 16 uo.2.1), (hf, LA cJ 16 uo.2.2.1), (hp, LA cJ 16 uo.2.2.2.1), (ho, LA cJ 5 uo.2.2.2.2)]) 0 0 := by
  refine xol (cc := b_K_determinant) (maxL := 2) (by decide) rfl (Nat.le_of_ble_eq_true rfl) ?_
  intro p e s m args below meth c Q A hx hb hml hts hown hN hA hS hP hK hD hret ls hl
  have hl : lv_has ls 2 [(0, .ref h), (1, .int v)] := hl
  obtain ⟨H, hH⟩ : ∃ z, z = s.heap := ⟨_, rfl⟩
  obtain ⟨locs, hlc⟩ : ∃ z : List Loc, z = [] := ⟨_, rfl⟩
  rw [← hH] at hP
  have hS : va_S A s.heap H locs := by rw [hH, hlc]; exact hS
  have key : W p l e rm_k_determinant s m args below meth c H locs 0 0 Q (F0 m 0 ls []) := by
    refine lv_iload_n hx hb d_K_determinant_0 rfl (lv_at hl 1 rfl) ?_
    refine xz_lt (tgt := 9) (X := v.toInt) hx hb rfl d_K_determinant_1 (by decide) (fun c1_0 => ?_) (fun c1_0 => ?_)
    · skip
      refine lv_ldc2 (v := lI (-1000000000000000000)) hx hb hown (hts _ tw_85) d_K_determinant_9 ?_
      exact hret H locs _ ls (lI (-1000000000000000000)) (r0, C, F, P, O) d_K_determinant_12 (by unfold s_det; rw [if_neg (show ¬ v.toInt = 0 from by omega), if_neg (show ¬ v.toInt = 1 from by omega), if_neg (show ¬ v.toInt = 2 from by omega), if_neg (show ¬ v.toInt = 3 from by omega)]; rfl) hP hD hS
    · skip
      refine lv_iload_n hx hb d_K_determinant_4 rfl (lv_at hl 1 rfl) ?_
      refine lv_iconst (v := nI 3) hx hb d_K_determinant_5 (by decide) ?_
      refine xi_le (tgt := 13) (X := v.toInt) (Y := (3 : Nat)) hx hb rfl (nI_toInt (by omega)) d_K_determinant_6 (by decide) (fun c6_1 => ?_) (fun c6_1 => ?_)
      · skip
        refine lv_aload_n hx hb d_K_determinant_13 rfl (lv_at hl 0 rfl) ?_
        refine va_get (D := D) (ci := 1) (v := .ref ht) (C := R_K) (T := F_K) (N := 8) hx hb hts iw_K hown hK hP 0 rfl rfl 4 (by decide) (hts _ tw_46) (fun _ h9 => h9) rfl d_K_determinant_14 ?_
        refine lv_aload_n hx hb d_K_determinant_17 rfl (lv_at hl 0 rfl) ?_
        refine va_get (D := D) (ci := 1) (v := .ref fo) (C := R_K) (T := F_K) (N := 8) hx hb hts iw_K hown hK hP 0 rfl rfl 2 (by decide) (hts _ tw_44) (fun _ h9 => h9) rfl d_K_determinant_18 ?_
        refine lv_iload_n hx hb d_K_determinant_21 rfl (lv_at hl 1 rfl) ?_
        refine lv_iconst (v := nI 1) hx hb d_K_determinant_22 (by decide) ?_
        refine xi_ne (tgt := 30) (X := v.toInt) (Y := (1 : Nat)) hx hb rfl (nI_toInt (by omega)) d_K_determinant_23 (by decide) (fun c23_2 => ?_) (fun c23_2 => ?_)
        · skip
          refine lv_iconst (v := nI 1) hx hb d_K_determinant_30 (by decide) ?_
          refine lv_aload_n hx hb d_K_determinant_31 rfl (lv_at hl 0 rfl) ?_
          refine va_get (D := D) (ci := 1) (v := .int (nI d)) (C := R_K) (T := F_K) (N := 8) hx hb hts iw_K hown hK hP 0 rfl rfl 0 (by decide) (hts _ tw_42) (fun _ h9 => h9) rfl d_K_determinant_32 ?_
          refine xcv (wc := [(ht, .inr (0, [.int r0, .ref hc, .ref hf, .ref hp, .ref ho])), (hc, LA cJ 16 C), (hf, LA cJ 16 F), (hp, LA cJ 16 P), (ho, LA cJ 5 O), (fo, LA cJ 16 Fm)]) (wr := [(h, .inr (1, [.int (nI d), .int kb, .ref fo, .ref ke, .ref ht, .ref wo, .ref fi, .ref se]))]) hP hD hS hA [2, 3, 4, 5, 6, 1] [0] rfl rfl (by decide) (by decide) (va_runV (As := [.ref fo, .int (nI 1), .int (nI d)]) (rest := []) ⟨hx, hb, hml, hown, hts⟩ (c_load l D cJ ht hc hf hp ho fo 1 d d r0 C F P O Fm (by first | assumption | omega) (by first | assumption | omega) (by first | assumption | omega) (ld_q (by omega) (by omega) (enB_20 hF (by omega))) H.size) (cwV 3 hts (gV tw_97 tw_98 tw_99 tw_2 tw_100) rfl rfl rfl ⟨rfl, hd_T_load⟩ ⟨Nat.le_of_ble_eq_true rfl, Nat.le_of_ble_eq_true rfl⟩) (xPreV (C := R_T) (T := F_T) (N := 5) (q0 := 0) hN hK (hP.sub (ws' := [(ht, .inr (0, [.int r0, .ref hc, .ref hf, .ref hp, .ref ho])), (hc, LA cJ 16 C), (hf, LA cJ 16 F), (hp, LA cJ 16 P), (ho, LA cJ 5 O), (fo, LA cJ 16 Fm)]) [2, 3, 4, 5, 6, 1] rfl) (hD.sub (ws' := [(ht, .inr (0, [.int r0, .ref hc, .ref hf, .ref hp, .ref ho])), (hc, LA cJ 16 C), (hf, LA cJ 16 F), (hp, LA cJ 16 P), (ho, LA cJ 5 O), (fo, LA cJ 16 Fm)]) [2, 3, 4, 5, 6, 1] (by decide) rfl) rfl rfl) rfl rfl hl.1 rfl (lv_room (Nat.le_of_ble_eq_true rfl)) d_K_determinant_35 ⟨Nat.le_of_ble_eq_true rfl, Nat.le_of_ble_eq_true rfl⟩) (fun u_5 H locs hwl hP hD hS => ?_)
          obtain ⟨Ca, Fa, Pa, Oa⟩ := u_5
          try dsimp only at hwl
          have hP : va_P D vwC [(h, .inr (1, [.int (nI d), .int kb, .ref fo, .ref ke, .ref ht, .ref wo, .ref fi, .ref se])), (fo, LA cJ 16 Fm), (ht, .inr (0, [.int (nI d), .ref hc, .ref hf, .ref hp, .ref ho])), (hc, LA cJ 16 Ca), (hf, LA cJ 16 Fa), (hp, LA cJ 16 Pa), (ho, LA cJ 5 Oa)] H := hP.sub [0, 6, 1, 2, 3, 4, 5] rfl
          have hD : va_D A [(h, .inr (1, [.int (nI d), .int kb, .ref fo, .ref ke, .ref ht, .ref wo, .ref fi, .ref se])), (fo, LA cJ 16 Fm), (ht, .inr (0, [.int (nI d), .ref hc, .ref hf, .ref hp, .ref ho])), (hc, LA cJ 16 Ca), (hf, LA cJ 16 Fa), (hp, LA cJ 16 Pa), (ho, LA cJ 5 Oa)] := hD.sub [0, 6, 1, 2, 3, 4, 5] (by decide) rfl
          have hT := ld_ok (f := 1) (r := d) (by omega) (by omega) hwl
          refine lv_iload_n hx hb d_K_determinant_38 rfl (lv_at hl 1 rfl) ?_
          refine lv_iconst (v := nI 2) hx hb d_K_determinant_39 (by decide) ?_
          refine xi_ne (tgt := 51) (X := v.toInt) (Y := (2 : Nat)) hx hb rfl (nI_toInt (by omega)) d_K_determinant_40 (by decide) (fun c40_5 => ?_) (fun c40_5 => ?_)
          · skip
            refine lv_iload_n hx hb d_K_determinant_51 rfl (lv_at hl 1 rfl) ?_
            refine lv_iconst (v := nI 3) hx hb d_K_determinant_52 (by decide) ?_
            refine xi_ne (tgt := 66) (X := v.toInt) (Y := (3 : Nat)) hx hb rfl (nI_toInt (by omega)) d_K_determinant_53 (by decide) (fun c53_6 => ?_) (fun c53_6 => ?_)
            · skip
              refine lv_aload_n hx hb d_K_determinant_66 rfl (lv_at hl 0 rfl) ?_
              refine va_get (D := D) (ci := 1) (v := .ref ht) (C := R_K) (T := F_K) (N := 8) hx hb hts iw_K hown hK hP 0 rfl rfl 4 (by decide) (hts _ tw_46) (fun _ h9 => h9) rfl d_K_determinant_67 ?_
              refine xcl (wc := [(ht, .inr (0, [.int (nI d), .ref hc, .ref hf, .ref hp, .ref ho])), (hc, LA cJ 16 Ca), (hf, LA cJ 16 Fa), (hp, LA cJ 16 Pa), (ho, LA cJ 5 Oa)]) (wr := [(h, .inr (1, [.int (nI d), .int kb, .ref fo, .ref ke, .ref ht, .ref wo, .ref fi, .ref se])), (fo, LA cJ 16 Fm)]) hP hD hS hA [2, 3, 4, 5, 6] [0, 1] rfl rfl (by decide) (by decide) (va_runV (As := []) (rest := []) ⟨hx, hb, hml, hown, hts⟩ (c_product l D cJ ht hc hf hp ho d Ca Fa Pa Oa (by first | assumption | omega) H.size) (cwV 0 hts (gV tw_156 tw_157 tw_158 tw_2 tw_159) rfl rfl rfl ⟨rfl, hd_T_productOfValues⟩ ⟨Nat.le_of_ble_eq_true rfl, Nat.le_of_ble_eq_true rfl⟩) (xPreV (C := R_T) (T := F_T) (N := 5) (q0 := 0) hN hK (hP.sub (ws' := [(ht, .inr (0, [.int (nI d), .ref hc, .ref hf, .ref hp, .ref ho])), (hc, LA cJ 16 Ca), (hf, LA cJ 16 Fa), (hp, LA cJ 16 Pa), (ho, LA cJ 5 Oa)]) [2, 3, 4, 5, 6] rfl) (hD.sub (ws' := [(ht, .inr (0, [.int (nI d), .ref hc, .ref hf, .ref hp, .ref ho])), (hc, LA cJ 16 Ca), (hf, LA cJ 16 Fa), (hp, LA cJ 16 Pa), (ho, LA cJ 5 Oa)]) [2, 3, 4, 5, 6] (by decide) rfl) rfl rfl) rfl rfl hl.1 rfl (lv_room (Nat.le_of_ble_eq_true rfl)) d_K_determinant_70 ⟨Nat.le_of_ble_eq_true rfl, Nat.le_of_ble_eq_true rfl⟩) (fun r_8 u_9 H locs hw_10 hP hD hS => ?_)
              try dsimp only at hw_10
              have hP : va_P D vwC [(h, .inr (1, [.int (nI d), .int kb, .ref fo, .ref ke, .ref ht, .ref wo, .ref fi, .ref se])), (fo, LA cJ 16 Fm), (ht, .inr (0, [.int (nI d), .ref hc, .ref hf, .ref hp, .ref ho])), (hc, LA cJ 16 Ca), (hf, LA cJ 16 Fa), (hp, LA cJ 16 Pa), (ho, LA cJ 5 Oa)] H := hP
              have hD : va_D A [(h, .inr (1, [.int (nI d), .int kb, .ref fo, .ref ke, .ref ht, .ref wo, .ref fi, .ref se])), (fo, LA cJ 16 Fm), (ht, .inr (0, [.int (nI d), .ref hc, .ref hf, .ref hp, .ref ho])), (hc, LA cJ 16 Ca), (hf, LA cJ 16 Fa), (hp, LA cJ 16 Pa), (ho, LA cJ 5 Oa)] := hD
              subst hw_10
              rw [ld_det hT]
              exact hret H locs _ ls (lI (det (prt Fm 1) (d))) (nI d, Ca, Fa, Pa, Oa) d_K_determinant_73 (by unfold s_det; rw [if_pos (show v.toInt = 0 from by omega)]) hP hD hS
            · skip
              refine lv_aload_n hx hb d_K_determinant_56 rfl (lv_at hl 0 rfl) ?_
              refine va_get (D := D) (ci := 1) (v := .ref ht) (C := R_K) (T := F_K) (N := 8) hx hb hts iw_K hown hK hP 0 rfl rfl 4 (by decide) (hts _ tw_46) (fun _ h9 => h9) rfl d_K_determinant_57 ?_
              refine xcl (wc := [(ht, .inr (0, [.int (nI d), .ref hc, .ref hf, .ref hp, .ref ho])), (hc, LA cJ 16 Ca), (hf, LA cJ 16 Fa), (hp, LA cJ 16 Pa), (ho, LA cJ 5 Oa)]) (wr := [(h, .inr (1, [.int (nI d), .int kb, .ref fo, .ref ke, .ref ht, .ref wo, .ref fi, .ref se])), (fo, LA cJ 16 Fm)]) hP hD hS hA [2, 3, 4, 5, 6] [0, 1] rfl rfl (by decide) (by decide) (va_runV (As := []) (rest := []) ⟨hx, hb, hml, hown, hts⟩ (c_pairs l D cJ ht hc hf hp ho d Ca Fa Pa Oa (by first | assumption | omega) (by first | assumption | omega) H.size) (cwV 0 hts (gV tw_152 tw_153 tw_154 tw_2 tw_155) rfl rfl rfl ⟨rfl, hd_T_sumOfPairs⟩ ⟨Nat.le_of_ble_eq_true rfl, Nat.le_of_ble_eq_true rfl⟩) (xPreV (C := R_T) (T := F_T) (N := 5) (q0 := 0) hN hK (hP.sub (ws' := [(ht, .inr (0, [.int (nI d), .ref hc, .ref hf, .ref hp, .ref ho])), (hc, LA cJ 16 Ca), (hf, LA cJ 16 Fa), (hp, LA cJ 16 Pa), (ho, LA cJ 5 Oa)]) [2, 3, 4, 5, 6] rfl) (hD.sub (ws' := [(ht, .inr (0, [.int (nI d), .ref hc, .ref hf, .ref hp, .ref ho])), (hc, LA cJ 16 Ca), (hf, LA cJ 16 Fa), (hp, LA cJ 16 Pa), (ho, LA cJ 5 Oa)]) [2, 3, 4, 5, 6] (by decide) rfl) rfl rfl) rfl rfl hl.1 rfl (lv_room (Nat.le_of_ble_eq_true rfl)) d_K_determinant_60 ⟨Nat.le_of_ble_eq_true rfl, Nat.le_of_ble_eq_true rfl⟩) (fun r_11 u_12 H locs hw_13 hP hD hS => ?_)
              try dsimp only at hw_13
              have hP : va_P D vwC [(h, .inr (1, [.int (nI d), .int kb, .ref fo, .ref ke, .ref ht, .ref wo, .ref fi, .ref se])), (fo, LA cJ 16 Fm), (ht, .inr (0, [.int (nI d), .ref hc, .ref hf, .ref hp, .ref ho])), (hc, LA cJ 16 Ca), (hf, LA cJ 16 Fa), (hp, LA cJ 16 Pa), (ho, LA cJ 5 Oa)] H := hP
              have hD : va_D A [(h, .inr (1, [.int (nI d), .int kb, .ref fo, .ref ke, .ref ht, .ref wo, .ref fi, .ref se])), (fo, LA cJ 16 Fm), (ht, .inr (0, [.int (nI d), .ref hc, .ref hf, .ref hp, .ref ho])), (hc, LA cJ 16 Ca), (hf, LA cJ 16 Fa), (hp, LA cJ 16 Pa), (ho, LA cJ 5 Oa)] := hD
              subst hw_13
              rw [ld_pa (by omega) hT]
              refine lv_goto (tgt := 73) hx hb d_K_determinant_63 (by decide) ?_
              exact hret H locs _ ls (lI (eS (prt Fm 1) d 2)) (nI d, Ca, Fa, Pa, Oa) d_K_determinant_73 (by unfold s_det; rw [if_neg (show ¬ v.toInt = 0 from by omega), if_neg (show ¬ v.toInt = 1 from by omega), if_neg (show ¬ v.toInt = 2 from by omega), if_pos (show v.toInt = 3 from by omega)]) hP hD hS
          · skip
            refine lv_aload_n hx hb d_K_determinant_43 rfl (lv_at hl 0 rfl) ?_
            refine va_get (D := D) (ci := 1) (v := .ref ht) (C := R_K) (T := F_K) (N := 8) hx hb hts iw_K hown hK hP 0 rfl rfl 4 (by decide) (hts _ tw_46) (fun _ h9 => h9) rfl d_K_determinant_44 ?_
            refine xcl (wc := [(ht, .inr (0, [.int (nI d), .ref hc, .ref hf, .ref hp, .ref ho])), (hc, LA cJ 16 Ca), (hf, LA cJ 16 Fa), (hp, LA cJ 16 Pa), (ho, LA cJ 5 Oa)]) (wr := [(h, .inr (1, [.int (nI d), .int kb, .ref fo, .ref ke, .ref ht, .ref wo, .ref fi, .ref se])), (fo, LA cJ 16 Fm)]) hP hD hS hA [2, 3, 4, 5, 6] [0, 1] rfl rfl (by decide) (by decide) (va_runV (As := []) (rest := []) ⟨hx, hb, hml, hown, hts⟩ (c_sum l D cJ ht hc hf hp ho d Ca Fa Pa Oa (by first | assumption | omega) (by first | assumption | omega) H.size) (cwV 0 hts (gV tw_148 tw_149 tw_150 tw_2 tw_151) rfl rfl rfl ⟨rfl, hd_T_sumOfValues⟩ ⟨Nat.le_of_ble_eq_true rfl, Nat.le_of_ble_eq_true rfl⟩) (xPreV (C := R_T) (T := F_T) (N := 5) (q0 := 0) hN hK (hP.sub (ws' := [(ht, .inr (0, [.int (nI d), .ref hc, .ref hf, .ref hp, .ref ho])), (hc, LA cJ 16 Ca), (hf, LA cJ 16 Fa), (hp, LA cJ 16 Pa), (ho, LA cJ 5 Oa)]) [2, 3, 4, 5, 6] rfl) (hD.sub (ws' := [(ht, .inr (0, [.int (nI d), .ref hc, .ref hf, .ref hp, .ref ho])), (hc, LA cJ 16 Ca), (hf, LA cJ 16 Fa), (hp, LA cJ 16 Pa), (ho, LA cJ 5 Oa)]) [2, 3, 4, 5, 6] (by decide) rfl) rfl rfl) rfl rfl hl.1 rfl (lv_room (Nat.le_of_ble_eq_true rfl)) d_K_determinant_47 ⟨Nat.le_of_ble_eq_true rfl, Nat.le_of_ble_eq_true rfl⟩) (fun r_14 u_15 H locs hw_16 hP hD hS => ?_)
            try dsimp only at hw_16
            have hP : va_P D vwC [(h, .inr (1, [.int (nI d), .int kb, .ref fo, .ref ke, .ref ht, .ref wo, .ref fi, .ref se])), (fo, LA cJ 16 Fm), (ht, .inr (0, [.int (nI d), .ref hc, .ref hf, .ref hp, .ref ho])), (hc, LA cJ 16 Ca), (hf, LA cJ 16 Fa), (hp, LA cJ 16 Pa), (ho, LA cJ 5 Oa)] H := hP
            have hD : va_D A [(h, .inr (1, [.int (nI d), .int kb, .ref fo, .ref ke, .ref ht, .ref wo, .ref fi, .ref se])), (fo, LA cJ 16 Fm), (ht, .inr (0, [.int (nI d), .ref hc, .ref hf, .ref hp, .ref ho])), (hc, LA cJ 16 Ca), (hf, LA cJ 16 Fa), (hp, LA cJ 16 Pa), (ho, LA cJ 5 Oa)] := hD
            subst hw_16
            rw [ld_tr (by omega) hT]
            exact hret H locs _ ls (lI (eS (prt Fm 1) d 1)) (nI d, Ca, Fa, Pa, Oa) d_K_determinant_50 (by unfold s_det; rw [if_neg (show ¬ v.toInt = 0 from by omega), if_neg (show ¬ v.toInt = 1 from by omega), if_pos (show v.toInt = 2 from by omega)]) hP hD hS
        · skip
          refine lv_iconst (v := nI 0) hx hb d_K_determinant_26 (by decide) ?_
          refine lv_goto (tgt := 31) hx hb d_K_determinant_27 (by decide) ?_
          refine lv_aload_n hx hb d_K_determinant_31 rfl (lv_at hl 0 rfl) ?_
          refine va_get (D := D) (ci := 1) (v := .int (nI d)) (C := R_K) (T := F_K) (N := 8) hx hb hts iw_K hown hK hP 0 rfl rfl 0 (by decide) (hts _ tw_42) (fun _ h9 => h9) rfl d_K_determinant_32 ?_
          refine xcv (wc := [(ht, .inr (0, [.int r0, .ref hc, .ref hf, .ref hp, .ref ho])), (hc, LA cJ 16 C), (hf, LA cJ 16 F), (hp, LA cJ 16 P), (ho, LA cJ 5 O), (fo, LA cJ 16 Fm)]) (wr := [(h, .inr (1, [.int (nI d), .int kb, .ref fo, .ref ke, .ref ht, .ref wo, .ref fi, .ref se]))]) hP hD hS hA [2, 3, 4, 5, 6, 1] [0] rfl rfl (by decide) (by decide) (va_runV (As := [.ref fo, .int (nI 0), .int (nI d)]) (rest := []) ⟨hx, hb, hml, hown, hts⟩ (c_load l D cJ ht hc hf hp ho fo 0 d (d + 1) r0 C F P O Fm (by first | assumption | omega) (by first | assumption | omega) (by first | assumption | omega) (ld_q (by omega) (by omega) (enB_20 hF (by omega))) H.size) (cwV 3 hts (gV tw_97 tw_98 tw_99 tw_2 tw_100) rfl rfl rfl ⟨rfl, hd_T_load⟩ ⟨Nat.le_of_ble_eq_true rfl, Nat.le_of_ble_eq_true rfl⟩) (xPreV (C := R_T) (T := F_T) (N := 5) (q0 := 0) hN hK (hP.sub (ws' := [(ht, .inr (0, [.int r0, .ref hc, .ref hf, .ref hp, .ref ho])), (hc, LA cJ 16 C), (hf, LA cJ 16 F), (hp, LA cJ 16 P), (ho, LA cJ 5 O), (fo, LA cJ 16 Fm)]) [2, 3, 4, 5, 6, 1] rfl) (hD.sub (ws' := [(ht, .inr (0, [.int r0, .ref hc, .ref hf, .ref hp, .ref ho])), (hc, LA cJ 16 C), (hf, LA cJ 16 F), (hp, LA cJ 16 P), (ho, LA cJ 5 O), (fo, LA cJ 16 Fm)]) [2, 3, 4, 5, 6, 1] (by decide) rfl) rfl rfl) rfl rfl hl.1 rfl (lv_room (Nat.le_of_ble_eq_true rfl)) d_K_determinant_35 ⟨Nat.le_of_ble_eq_true rfl, Nat.le_of_ble_eq_true rfl⟩) (fun u_18 H locs hwl hP hD hS => ?_)
          obtain ⟨Ca, Fa, Pa, Oa⟩ := u_18
          try dsimp only at hwl
          have hP : va_P D vwC [(h, .inr (1, [.int (nI d), .int kb, .ref fo, .ref ke, .ref ht, .ref wo, .ref fi, .ref se])), (fo, LA cJ 16 Fm), (ht, .inr (0, [.int (nI (d + 1)), .ref hc, .ref hf, .ref hp, .ref ho])), (hc, LA cJ 16 Ca), (hf, LA cJ 16 Fa), (hp, LA cJ 16 Pa), (ho, LA cJ 5 Oa)] H := hP.sub [0, 6, 1, 2, 3, 4, 5] rfl
          have hD : va_D A [(h, .inr (1, [.int (nI d), .int kb, .ref fo, .ref ke, .ref ht, .ref wo, .ref fi, .ref se])), (fo, LA cJ 16 Fm), (ht, .inr (0, [.int (nI (d + 1)), .ref hc, .ref hf, .ref hp, .ref ho])), (hc, LA cJ 16 Ca), (hf, LA cJ 16 Fa), (hp, LA cJ 16 Pa), (ho, LA cJ 5 Oa)] := hD.sub [0, 6, 1, 2, 3, 4, 5] (by decide) rfl
          have hT := ld_ok (f := 0) (r := d + 1) (by omega) (by omega) hwl
          refine lv_iload_n hx hb d_K_determinant_38 rfl (lv_at hl 1 rfl) ?_
          refine lv_iconst (v := nI 2) hx hb d_K_determinant_39 (by decide) ?_
          refine xi_ne (tgt := 51) (X := v.toInt) (Y := (2 : Nat)) hx hb rfl (nI_toInt (by omega)) d_K_determinant_40 (by decide) (fun c40_18 => ?_) (fun c40_18 => absurd c40_18 (by omega))
          refine lv_iload_n hx hb d_K_determinant_51 rfl (lv_at hl 1 rfl) ?_
          refine lv_iconst (v := nI 3) hx hb d_K_determinant_52 (by decide) ?_
          refine xi_ne (tgt := 66) (X := v.toInt) (Y := (3 : Nat)) hx hb rfl (nI_toInt (by omega)) d_K_determinant_53 (by decide) (fun c53_19 => ?_) (fun c53_19 => absurd c53_19 (by omega))
          refine lv_aload_n hx hb d_K_determinant_66 rfl (lv_at hl 0 rfl) ?_
          refine va_get (D := D) (ci := 1) (v := .ref ht) (C := R_K) (T := F_K) (N := 8) hx hb hts iw_K hown hK hP 0 rfl rfl 4 (by decide) (hts _ tw_46) (fun _ h9 => h9) rfl d_K_determinant_67 ?_
          refine xcl (wc := [(ht, .inr (0, [.int (nI (d + 1)), .ref hc, .ref hf, .ref hp, .ref ho])), (hc, LA cJ 16 Ca), (hf, LA cJ 16 Fa), (hp, LA cJ 16 Pa), (ho, LA cJ 5 Oa)]) (wr := [(h, .inr (1, [.int (nI d), .int kb, .ref fo, .ref ke, .ref ht, .ref wo, .ref fi, .ref se])), (fo, LA cJ 16 Fm)]) hP hD hS hA [2, 3, 4, 5, 6] [0, 1] rfl rfl (by decide) (by decide) (va_runV (As := []) (rest := []) ⟨hx, hb, hml, hown, hts⟩ (c_product l D cJ ht hc hf hp ho (d + 1) Ca Fa Pa Oa (by first | assumption | omega) H.size) (cwV 0 hts (gV tw_156 tw_157 tw_158 tw_2 tw_159) rfl rfl rfl ⟨rfl, hd_T_productOfValues⟩ ⟨Nat.le_of_ble_eq_true rfl, Nat.le_of_ble_eq_true rfl⟩) (xPreV (C := R_T) (T := F_T) (N := 5) (q0 := 0) hN hK (hP.sub (ws' := [(ht, .inr (0, [.int (nI (d + 1)), .ref hc, .ref hf, .ref hp, .ref ho])), (hc, LA cJ 16 Ca), (hf, LA cJ 16 Fa), (hp, LA cJ 16 Pa), (ho, LA cJ 5 Oa)]) [2, 3, 4, 5, 6] rfl) (hD.sub (ws' := [(ht, .inr (0, [.int (nI (d + 1)), .ref hc, .ref hf, .ref hp, .ref ho])), (hc, LA cJ 16 Ca), (hf, LA cJ 16 Fa), (hp, LA cJ 16 Pa), (ho, LA cJ 5 Oa)]) [2, 3, 4, 5, 6] (by decide) rfl) rfl rfl) rfl rfl hl.1 rfl (lv_room (Nat.le_of_ble_eq_true rfl)) d_K_determinant_70 ⟨Nat.le_of_ble_eq_true rfl, Nat.le_of_ble_eq_true rfl⟩) (fun r_21 u_22 H locs hw_23 hP hD hS => ?_)
          try dsimp only at hw_23
          have hP : va_P D vwC [(h, .inr (1, [.int (nI d), .int kb, .ref fo, .ref ke, .ref ht, .ref wo, .ref fi, .ref se])), (fo, LA cJ 16 Fm), (ht, .inr (0, [.int (nI (d + 1)), .ref hc, .ref hf, .ref hp, .ref ho])), (hc, LA cJ 16 Ca), (hf, LA cJ 16 Fa), (hp, LA cJ 16 Pa), (ho, LA cJ 5 Oa)] H := hP
          have hD : va_D A [(h, .inr (1, [.int (nI d), .int kb, .ref fo, .ref ke, .ref ht, .ref wo, .ref fi, .ref se])), (fo, LA cJ 16 Fm), (ht, .inr (0, [.int (nI (d + 1)), .ref hc, .ref hf, .ref hp, .ref ho])), (hc, LA cJ 16 Ca), (hf, LA cJ 16 Fa), (hp, LA cJ 16 Pa), (ho, LA cJ 5 Oa)] := hD
          subst hw_23
          rw [ld_det hT]
          exact hret H locs _ ls (lI (det (prt Fm 0) (d + 1))) (nI (d + 1), Ca, Fa, Pa, Oa) d_K_determinant_73 (by unfold s_det; rw [if_neg (show ¬ v.toInt = 0 from by omega), if_pos (show v.toInt = 1 from by omega)]) hP hD hS
      · skip
        refine lv_ldc2 (v := lI (-1000000000000000000)) hx hb hown (hts _ tw_85) d_K_determinant_9 ?_
        exact hret H locs _ ls (lI (-1000000000000000000)) (r0, C, F, P, O) d_K_determinant_12 (by unfold s_det; rw [if_neg (show ¬ v.toInt = 0 from by omega), if_neg (show ¬ v.toInt = 1 from by omega), if_neg (show ¬ v.toInt = 2 from by omega), if_neg (show ¬ v.toInt = 3 from by omega)]; rfl) hP hD hS
  rw [hH, hlc] at key; exact key

def rm_k_middles : Room := { frames := 4, cells := 0, slots := 0, locals := 107 }
set_option maxHeartbeats 4000000 in
set_option maxRecDepth 100000 in
/-- middles -/
theorem k_middles (l : Launch) (D : va_G) (cJ : ClassId) (h : Nat) (d : Nat) (kb : Int32) (fo : Nat) (ke : Nat) (ht : Nat) (wo : Nat) (fi : Nat) (se : Nat) (Fm : Nat → Int) (hc : Nat) (hf : Nat) (hp : Nat) (ho : Nat) (r0 : Int32) (C : Nat → Int) (F : Nat → Int) (P : Nat → Int) (O : Nat → Int) (hd2 : 2 ≤ d) (hd3 : d ≤ 3) (hF : ∀ k, k < 16 → inB (Fm k) 20) (sz : Nat) : xMi l y_K_middles (Cond.code y_K_middles b_K_middles 2 (some .int) :: tW) rm_k_middles [.ref h] D vwC [(cJ, .long)] sz [(h, .inr (1, [.int (nI d), .int kb, .ref fo, .ref ke, .ref ht, .ref wo, .ref fi, .ref se])), (fo, LA cJ 16 Fm), (ht, .inr (0, [.int r0, .ref hc, .ref hf, .ref hp, .ref ho])), (hc, LA cJ 16 C), (hf, LA cJ 16 F), (hp, LA cJ 16 P), (ho, LA cJ 5 O)] (fun (rv : Int32) (uo : Int32 × (Nat → Int) × (Nat → Int) × (Nat → Int) × (Nat → Int)) => rv = s_mid Fm d) (fun (uo : Int32 × (Nat → Int) × (Nat → Int) × (Nat → Int) × (Nat → Int)) => [(h, .inr (1, [.int (nI d), .int kb, .ref fo, .ref ke, .ref ht, .ref wo, .ref fi, .ref se])), (fo, LA cJ 16 Fm), (ht, .inr (0, [.int uo.1, .ref hc, .ref hf, .ref hp, .ref ho])), (hc, LA cJ 16 uo.2.1), (hf, LA cJ 16 uo.2.2.1), (hp, LA cJ 16 uo.2.2.2.1), (ho, LA cJ 5 uo.2.2.2.2)]) 0 0 := by
  refine xoi (cc := b_K_middles) (maxL := 2) (by decide) rfl (Nat.le_of_ble_eq_true rfl) ?_
  intro p e s m args below meth c Q A hx hb hml hts hown hN hA hS hP hK hD hret ls hl
  have hl : lv_has ls 2 [(0, .ref h)] := hl
  obtain ⟨H, hH⟩ : ∃ z, z = s.heap := ⟨_, rfl⟩
  obtain ⟨locs, hlc⟩ : ∃ z : List Loc, z = [] := ⟨_, rfl⟩
  rw [← hH] at hP
  have hS : va_S A s.heap H locs := by rw [hH, hlc]; exact hS
  have key : W p l e rm_k_middles s m args below meth c H locs 0 0 Q (F0 m 0 ls []) := by
    refine lv_aload_n hx hb d_K_middles_0 rfl (lv_at hl 0 rfl) ?_
    refine va_get (D := D) (ci := 1) (v := .ref ht) (C := R_K) (T := F_K) (N := 8) hx hb hts iw_K hown hK hP 0 rfl rfl 4 (by decide) (hts _ tw_46) (fun _ h9 => h9) rfl d_K_middles_1 ?_
    refine lv_aload_n hx hb d_K_middles_4 rfl (lv_at hl 0 rfl) ?_
    refine va_get (D := D) (ci := 1) (v := .ref fo) (C := R_K) (T := F_K) (N := 8) hx hb hts iw_K hown hK hP 0 rfl rfl 2 (by decide) (hts _ tw_44) (fun _ h9 => h9) rfl d_K_middles_5 ?_
    refine lv_iconst (v := nI 1) hx hb d_K_middles_8 (by decide) ?_
    refine lv_aload_n hx hb d_K_middles_9 rfl (lv_at hl 0 rfl) ?_
    refine va_get (D := D) (ci := 1) (v := .int (nI d)) (C := R_K) (T := F_K) (N := 8) hx hb hts iw_K hown hK hP 0 rfl rfl 0 (by decide) (hts _ tw_42) (fun _ h9 => h9) rfl d_K_middles_10 ?_
    refine xcv (wc := [(ht, .inr (0, [.int r0, .ref hc, .ref hf, .ref hp, .ref ho])), (hc, LA cJ 16 C), (hf, LA cJ 16 F), (hp, LA cJ 16 P), (ho, LA cJ 5 O), (fo, LA cJ 16 Fm)]) (wr := [(h, .inr (1, [.int (nI d), .int kb, .ref fo, .ref ke, .ref ht, .ref wo, .ref fi, .ref se]))]) hP hD hS hA [2, 3, 4, 5, 6, 1] [0] rfl rfl (by decide) (by decide) (va_runV (As := [.ref fo, .int (nI 1), .int (nI d)]) (rest := []) ⟨hx, hb, hml, hown, hts⟩ (c_load l D cJ ht hc hf hp ho fo 1 d d r0 C F P O Fm (by first | assumption | omega) (by first | assumption | omega) (by first | assumption | omega) (ld_q (by omega) (by omega) (enB_20 hF (by omega))) H.size) (cwV 3 hts (gV tw_97 tw_98 tw_99 tw_2 tw_100) rfl rfl rfl ⟨rfl, hd_T_load⟩ ⟨Nat.le_of_ble_eq_true rfl, Nat.le_of_ble_eq_true rfl⟩) (xPreV (C := R_T) (T := F_T) (N := 5) (q0 := 0) hN hK (hP.sub (ws' := [(ht, .inr (0, [.int r0, .ref hc, .ref hf, .ref hp, .ref ho])), (hc, LA cJ 16 C), (hf, LA cJ 16 F), (hp, LA cJ 16 P), (ho, LA cJ 5 O), (fo, LA cJ 16 Fm)]) [2, 3, 4, 5, 6, 1] rfl) (hD.sub (ws' := [(ht, .inr (0, [.int r0, .ref hc, .ref hf, .ref hp, .ref ho])), (hc, LA cJ 16 C), (hf, LA cJ 16 F), (hp, LA cJ 16 P), (ho, LA cJ 5 O), (fo, LA cJ 16 Fm)]) [2, 3, 4, 5, 6, 1] (by decide) rfl) rfl rfl) rfl rfl hl.1 rfl (lv_room (Nat.le_of_ble_eq_true rfl)) d_K_middles_13 ⟨Nat.le_of_ble_eq_true rfl, Nat.le_of_ble_eq_true rfl⟩) (fun u_2 H locs hw1 hP hD hS => ?_)
    obtain ⟨Ca, Fa, Pa, Oa⟩ := u_2
    try dsimp only at hw1
    have hP : va_P D vwC [(h, .inr (1, [.int (nI d), .int kb, .ref fo, .ref ke, .ref ht, .ref wo, .ref fi, .ref se])), (fo, LA cJ 16 Fm), (ht, .inr (0, [.int (nI d), .ref hc, .ref hf, .ref hp, .ref ho])), (hc, LA cJ 16 Ca), (hf, LA cJ 16 Fa), (hp, LA cJ 16 Pa), (ho, LA cJ 5 Oa)] H := hP.sub [0, 6, 1, 2, 3, 4, 5] rfl
    have hD : va_D A [(h, .inr (1, [.int (nI d), .int kb, .ref fo, .ref ke, .ref ht, .ref wo, .ref fi, .ref se])), (fo, LA cJ 16 Fm), (ht, .inr (0, [.int (nI d), .ref hc, .ref hf, .ref hp, .ref ho])), (hc, LA cJ 16 Ca), (hf, LA cJ 16 Fa), (hp, LA cJ 16 Pa), (ho, LA cJ 5 Oa)] := hD.sub [0, 6, 1, 2, 3, 4, 5] (by decide) rfl
    have hT := ld_ok (f := 1) (r := d) (by omega) (by omega) hw1
    refine lv_aload_n hx hb d_K_middles_16 rfl (lv_at hl 0 rfl) ?_
    refine va_get (D := D) (ci := 1) (v := .ref ht) (C := R_K) (T := F_K) (N := 8) hx hb hts iw_K hown hK hP 0 rfl rfl 4 (by decide) (hts _ tw_46) (fun _ h9 => h9) rfl d_K_middles_17 ?_
    refine xci (wc := [(ht, .inr (0, [.int (nI d), .ref hc, .ref hf, .ref hp, .ref ho])), (hc, LA cJ 16 Ca), (hf, LA cJ 16 Fa), (hp, LA cJ 16 Pa), (ho, LA cJ 5 Oa)]) (wr := [(h, .inr (1, [.int (nI d), .int kb, .ref fo, .ref ke, .ref ht, .ref wo, .ref fi, .ref se])), (fo, LA cJ 16 Fm)]) hP hD hS hA [2, 3, 4, 5, 6] [0, 1] rfl rfl (by decide) (by decide) (va_runV (As := []) (rest := []) ⟨hx, hb, hml, hown, hts⟩ (c_rank l D cJ ht hc hf hp ho d Ca Fa Pa Oa (by first | assumption | omega) (ld_lB (by omega) (by omega) (enB_20 hF (by omega)) hT) H.size) (cwV 0 hts (gV tw_164 tw_127 tw_128 tw_2 tw_129) rfl rfl rfl ⟨rfl, hd_T_rank⟩ ⟨Nat.le_of_ble_eq_true rfl, Nat.le_of_ble_eq_true rfl⟩) (xPreV (C := R_T) (T := F_T) (N := 5) (q0 := 0) hN hK (hP.sub (ws' := [(ht, .inr (0, [.int (nI d), .ref hc, .ref hf, .ref hp, .ref ho])), (hc, LA cJ 16 Ca), (hf, LA cJ 16 Fa), (hp, LA cJ 16 Pa), (ho, LA cJ 5 Oa)]) [2, 3, 4, 5, 6] rfl) (hD.sub (ws' := [(ht, .inr (0, [.int (nI d), .ref hc, .ref hf, .ref hp, .ref ho])), (hc, LA cJ 16 Ca), (hf, LA cJ 16 Fa), (hp, LA cJ 16 Pa), (ho, LA cJ 5 Oa)]) [2, 3, 4, 5, 6] (by decide) rfl) rfl rfl) rfl rfl hl.1 rfl (lv_room (Nat.le_of_ble_eq_true rfl)) d_K_middles_20 ⟨Nat.le_of_ble_eq_true rfl, Nat.le_of_ble_eq_true rfl⟩) (fun r_3 u_4 H locs hw_5 hP hD hS => ?_)
    try dsimp only at hw_5
    have hP : va_P D vwC [(h, .inr (1, [.int (nI d), .int kb, .ref fo, .ref ke, .ref ht, .ref wo, .ref fi, .ref se])), (fo, LA cJ 16 Fm), (ht, .inr (0, [.int (nI d), .ref hc, .ref hf, .ref hp, .ref ho])), (hc, LA cJ 16 Ca), (hf, LA cJ 16 Fa), (hp, LA cJ 16 Pa), (ho, LA cJ 5 Oa)] H := hP
    have hD : va_D A [(h, .inr (1, [.int (nI d), .int kb, .ref fo, .ref ke, .ref ht, .ref wo, .ref fi, .ref se])), (fo, LA cJ 16 Fm), (ht, .inr (0, [.int (nI d), .ref hc, .ref hf, .ref hp, .ref ho])), (hc, LA cJ 16 Ca), (hf, LA cJ 16 Fa), (hp, LA cJ 16 Pa), (ho, LA cJ 5 Oa)] := hD
    subst hw_5
    rw [ld_rk hT]
    have hr1 := rkN_le (prt Fm 1) d
    refine lv_istore_n (lv' := [(1, .int (nI (rkN (prt Fm 1) d))), (0, .ref h)]) hx hb d_K_middles_23 rfl hl (by decide) rfl (fun ls hl => ?_)
    refine lv_aload_n hx hb d_K_middles_24 rfl (lv_at hl 1 rfl) ?_
    refine va_get (D := D) (ci := 1) (v := .ref ht) (C := R_K) (T := F_K) (N := 8) hx hb hts iw_K hown hK hP 0 rfl rfl 4 (by decide) (hts _ tw_46) (fun _ h9 => h9) rfl d_K_middles_25 ?_
    refine lv_aload_n hx hb d_K_middles_28 rfl (lv_at hl 1 rfl) ?_
    refine va_get (D := D) (ci := 1) (v := .ref fo) (C := R_K) (T := F_K) (N := 8) hx hb hts iw_K hown hK hP 0 rfl rfl 2 (by decide) (hts _ tw_44) (fun _ h9 => h9) rfl d_K_middles_29 ?_
    refine lv_iconst (v := nI 0) hx hb d_K_middles_32 (by decide) ?_
    refine lv_aload_n hx hb d_K_middles_33 rfl (lv_at hl 1 rfl) ?_
    refine va_get (D := D) (ci := 1) (v := .int (nI d)) (C := R_K) (T := F_K) (N := 8) hx hb hts iw_K hown hK hP 0 rfl rfl 0 (by decide) (hts _ tw_42) (fun _ h9 => h9) rfl d_K_middles_34 ?_
    refine xcv (wc := [(ht, .inr (0, [.int (nI d), .ref hc, .ref hf, .ref hp, .ref ho])), (hc, LA cJ 16 Ca), (hf, LA cJ 16 Fa), (hp, LA cJ 16 Pa), (ho, LA cJ 5 Oa), (fo, LA cJ 16 Fm)]) (wr := [(h, .inr (1, [.int (nI d), .int kb, .ref fo, .ref ke, .ref ht, .ref wo, .ref fi, .ref se]))]) hP hD hS hA [2, 3, 4, 5, 6, 1] [0] rfl rfl (by decide) (by decide) (va_runV (As := [.ref fo, .int (nI 0), .int (nI d)]) (rest := []) ⟨hx, hb, hml, hown, hts⟩ (c_load l D cJ ht hc hf hp ho fo 0 d (d + 1) (nI d) Ca Fa Pa Oa Fm (by first | assumption | omega) (by first | assumption | omega) (by first | assumption | omega) (ld_q (by omega) (by omega) (enB_20 hF (by omega))) H.size) (cwV 3 hts (gV tw_97 tw_98 tw_99 tw_2 tw_100) rfl rfl rfl ⟨rfl, hd_T_load⟩ ⟨Nat.le_of_ble_eq_true rfl, Nat.le_of_ble_eq_true rfl⟩) (xPreV (C := R_T) (T := F_T) (N := 5) (q0 := 0) hN hK (hP.sub (ws' := [(ht, .inr (0, [.int (nI d), .ref hc, .ref hf, .ref hp, .ref ho])), (hc, LA cJ 16 Ca), (hf, LA cJ 16 Fa), (hp, LA cJ 16 Pa), (ho, LA cJ 5 Oa), (fo, LA cJ 16 Fm)]) [2, 3, 4, 5, 6, 1] rfl) (hD.sub (ws' := [(ht, .inr (0, [.int (nI d), .ref hc, .ref hf, .ref hp, .ref ho])), (hc, LA cJ 16 Ca), (hf, LA cJ 16 Fa), (hp, LA cJ 16 Pa), (ho, LA cJ 5 Oa), (fo, LA cJ 16 Fm)]) [2, 3, 4, 5, 6, 1] (by decide) rfl) rfl rfl) rfl rfl hl.1 rfl (lv_room (Nat.le_of_ble_eq_true rfl)) d_K_middles_37 ⟨Nat.le_of_ble_eq_true rfl, Nat.le_of_ble_eq_true rfl⟩) (fun u_7 H locs hw2 hP hD hS => ?_)
    obtain ⟨Cb, Fb, Pb, Ob⟩ := u_7
    try dsimp only at hw2
    have hP : va_P D vwC [(h, .inr (1, [.int (nI d), .int kb, .ref fo, .ref ke, .ref ht, .ref wo, .ref fi, .ref se])), (fo, LA cJ 16 Fm), (ht, .inr (0, [.int (nI (d + 1)), .ref hc, .ref hf, .ref hp, .ref ho])), (hc, LA cJ 16 Cb), (hf, LA cJ 16 Fb), (hp, LA cJ 16 Pb), (ho, LA cJ 5 Ob)] H := hP.sub [0, 6, 1, 2, 3, 4, 5] rfl
    have hD : va_D A [(h, .inr (1, [.int (nI d), .int kb, .ref fo, .ref ke, .ref ht, .ref wo, .ref fi, .ref se])), (fo, LA cJ 16 Fm), (ht, .inr (0, [.int (nI (d + 1)), .ref hc, .ref hf, .ref hp, .ref ho])), (hc, LA cJ 16 Cb), (hf, LA cJ 16 Fb), (hp, LA cJ 16 Pb), (ho, LA cJ 5 Ob)] := hD.sub [0, 6, 1, 2, 3, 4, 5] (by decide) rfl
    have hU := ld_ok (f := 0) (r := d + 1) (by omega) (by omega) hw2
    refine lv_aload_n hx hb d_K_middles_40 rfl (lv_at hl 1 rfl) ?_
    refine va_get (D := D) (ci := 1) (v := .ref ht) (C := R_K) (T := F_K) (N := 8) hx hb hts iw_K hown hK hP 0 rfl rfl 4 (by decide) (hts _ tw_46) (fun _ h9 => h9) rfl d_K_middles_41 ?_
    refine xci (wc := [(ht, .inr (0, [.int (nI (d + 1)), .ref hc, .ref hf, .ref hp, .ref ho])), (hc, LA cJ 16 Cb), (hf, LA cJ 16 Fb), (hp, LA cJ 16 Pb), (ho, LA cJ 5 Ob)]) (wr := [(h, .inr (1, [.int (nI d), .int kb, .ref fo, .ref ke, .ref ht, .ref wo, .ref fi, .ref se])), (fo, LA cJ 16 Fm)]) hP hD hS hA [2, 3, 4, 5, 6] [0, 1] rfl rfl (by decide) (by decide) (va_runV (As := []) (rest := []) ⟨hx, hb, hml, hown, hts⟩ (c_rank l D cJ ht hc hf hp ho (d + 1) Cb Fb Pb Ob (by first | assumption | omega) (ld_lB (by omega) (by omega) (enB_20 hF (by omega)) hU) H.size) (cwV 0 hts (gV tw_164 tw_127 tw_128 tw_2 tw_129) rfl rfl rfl ⟨rfl, hd_T_rank⟩ ⟨Nat.le_of_ble_eq_true rfl, Nat.le_of_ble_eq_true rfl⟩) (xPreV (C := R_T) (T := F_T) (N := 5) (q0 := 0) hN hK (hP.sub (ws' := [(ht, .inr (0, [.int (nI (d + 1)), .ref hc, .ref hf, .ref hp, .ref ho])), (hc, LA cJ 16 Cb), (hf, LA cJ 16 Fb), (hp, LA cJ 16 Pb), (ho, LA cJ 5 Ob)]) [2, 3, 4, 5, 6] rfl) (hD.sub (ws' := [(ht, .inr (0, [.int (nI (d + 1)), .ref hc, .ref hf, .ref hp, .ref ho])), (hc, LA cJ 16 Cb), (hf, LA cJ 16 Fb), (hp, LA cJ 16 Pb), (ho, LA cJ 5 Ob)]) [2, 3, 4, 5, 6] (by decide) rfl) rfl rfl) rfl rfl hl.1 rfl (lv_room (Nat.le_of_ble_eq_true rfl)) d_K_middles_44 ⟨Nat.le_of_ble_eq_true rfl, Nat.le_of_ble_eq_true rfl⟩) (fun r_8 u_9 H locs hw_10 hP hD hS => ?_)
    try dsimp only at hw_10
    have hP : va_P D vwC [(h, .inr (1, [.int (nI d), .int kb, .ref fo, .ref ke, .ref ht, .ref wo, .ref fi, .ref se])), (fo, LA cJ 16 Fm), (ht, .inr (0, [.int (nI (d + 1)), .ref hc, .ref hf, .ref hp, .ref ho])), (hc, LA cJ 16 Cb), (hf, LA cJ 16 Fb), (hp, LA cJ 16 Pb), (ho, LA cJ 5 Ob)] H := hP
    have hD : va_D A [(h, .inr (1, [.int (nI d), .int kb, .ref fo, .ref ke, .ref ht, .ref wo, .ref fi, .ref se])), (fo, LA cJ 16 Fm), (ht, .inr (0, [.int (nI (d + 1)), .ref hc, .ref hf, .ref hp, .ref ho])), (hc, LA cJ 16 Cb), (hf, LA cJ 16 Fb), (hp, LA cJ 16 Pb), (ho, LA cJ 5 Ob)] := hD
    subst hw_10
    rw [ld_rk hU]
    have hr0 := rkN_le (prt Fm 0) (d + 1)
    refine lv_iload_n hx hb d_K_middles_47 rfl (lv_at hl 0 rfl) ?_
    refine lv_iconst (v := nI 2) hx hb d_K_middles_48 (by decide) ?_
    refine xn_add hx hb d_K_middles_49 ?_
    refine xn_ne (tgt := 58) hx hb (by omega) (by omega) d_K_middles_50 (by decide) (fun c50_10 => ?_) (fun c50_10 => ?_)
    · skip
      refine lv_aload_n hx hb d_K_middles_58 rfl (lv_at hl 1 rfl) ?_
      refine va_get (D := D) (ci := 1) (v := .int (nI d)) (C := R_K) (T := F_K) (N := 8) hx hb hts iw_K hown hK hP 0 rfl rfl 0 (by decide) (hts _ tw_42) (fun _ h9 => h9) rfl d_K_middles_59 ?_
      refine lv_iload_n hx hb d_K_middles_62 rfl (lv_at hl 0 rfl) ?_
      refine xn_sub hx hb (by omega) d_K_middles_63 ?_
      exact hret H locs _ ls (nI (d - (rkN (prt Fm 1) d))) (nI (d + 1), Cb, Fb, Pb, Ob) d_K_middles_64 (by unfold s_mid; rw [if_neg c50_10]) hP hD hS
    · skip
      refine lv_bipush (v := (-3)) hx hb d_K_middles_53 (by decide) ?_
      refine lv_goto (tgt := 64) hx hb d_K_middles_55 (by decide) ?_
      exact hret H locs _ ls (-3) (nI (d + 1), Cb, Fb, Pb, Ob) d_K_middles_64 (by unfold s_mid; rw [if_pos c50_10]) hP hD hS
  rw [hH, hlc] at key; exact key

def rm_k_middle : Room := { frames := 4, cells := 0, slots := 0, locals := 118 }
set_option maxHeartbeats 4000000 in
set_option maxRecDepth 100000 in
/-- middle -/
theorem k_middle (l : Launch) (D : va_G) (cJ : ClassId) (h : Nat) (d : Nat) (kb : Int32) (fo : Nat) (ke : Nat) (ht : Nat) (wo : Nat) (fi : Nat) (se : Nat) (Fm : Nat → Int) (hc : Nat) (hf : Nat) (hp : Nat) (ho : Nat) (r0 : Int32) (C : Nat → Int) (F : Nat → Int) (P : Nat → Int) (O : Nat → Int) (va : Int32) (vp : Int32) (hd2 : 2 ≤ d) (hd3 : d ≤ 3) (hF : ∀ k, k < 16 → inB (Fm k) 20) (sz : Nat) : xMl l y_K_middle (Cond.code y_K_middle b_K_middle 6 (some .long) :: tW) rm_k_middle [.ref h, .int va, .int vp] D vwC [(cJ, .long)] sz [(h, .inr (1, [.int (nI d), .int kb, .ref fo, .ref ke, .ref ht, .ref wo, .ref fi, .ref se])), (fo, LA cJ 16 Fm), (ht, .inr (0, [.int r0, .ref hc, .ref hf, .ref hp, .ref ho])), (hc, LA cJ 16 C), (hf, LA cJ 16 F), (hp, LA cJ 16 P), (ho, LA cJ 5 O)] (fun (rv : Int64) (uo : Int32 × (Nat → Int) × (Nat → Int) × (Nat → Int) × (Nat → Int)) => rv = lI (s_middle Fm d va.toInt vp.toInt)) (fun (uo : Int32 × (Nat → Int) × (Nat → Int) × (Nat → Int) × (Nat → Int)) => [(h, .inr (1, [.int (nI d), .int kb, .ref fo, .ref ke, .ref ht, .ref wo, .ref fi, .ref se])), (fo, LA cJ 16 Fm), (ht, .inr (0, [.int uo.1, .ref hc, .ref hf, .ref hp, .ref ho])), (hc, LA cJ 16 uo.2.1), (hf, LA cJ 16 uo.2.2.1), (hp, LA cJ 16 uo.2.2.2.1), (ho, LA cJ 5 uo.2.2.2.2)]) 0 0 := by
  refine xol (cc := b_K_middle) (maxL := 6) (by decide) rfl (Nat.le_of_ble_eq_true rfl) ?_
  intro p e s m args below meth c Q A hx hb hml hts hown hN hA hS hP hK hD hret ls hl
  have hl : lv_has ls 6 [(0, .ref h), (1, .int va), (2, .int vp)] := hl
  obtain ⟨H, hH⟩ : ∃ z, z = s.heap := ⟨_, rfl⟩
  obtain ⟨locs, hlc⟩ : ∃ z : List Loc, z = [] := ⟨_, rfl⟩
  rw [← hH] at hP
  have hS : va_S A s.heap H locs := by rw [hH, hlc]; exact hS
  have key : W p l e rm_k_middle s m args below meth c H locs 0 0 Q (F0 m 0 ls []) := by
    refine lv_iload_n hx hb d_K_middle_0 rfl (lv_at hl 1 rfl) ?_
    refine lv_iconst (v := nI 1) hx hb d_K_middle_1 (by decide) ?_
    refine xi_lt (tgt := 20) (X := va.toInt) (Y := (1 : Nat)) hx hb rfl (nI_toInt (by omega)) d_K_middle_2 (by decide) (fun c2_0 => ?_) (fun c2_0 => ?_)
    · skip
      refine lv_ldc2 (v := lI (-1000000000000000000)) hx hb hown (hts _ tw_85) d_K_middle_20 ?_
      exact hret H locs _ ls (lI (-1000000000000000000)) (r0, C, F, P, O) d_K_middle_23 (by unfold s_middle; rw [if_pos (show va.toInt < 1 ∨ (d : Int) < va.toInt ∨ (vp.toInt ≠ 0 ∧ vp.toInt ≠ 1) from by omega)]; rfl) hP hD hS
    · skip
      refine lv_iload_n hx hb d_K_middle_5 rfl (lv_at hl 1 rfl) ?_
      refine lv_aload_n hx hb d_K_middle_6 rfl (lv_at hl 0 rfl) ?_
      refine va_get (D := D) (ci := 1) (v := .int (nI d)) (C := R_K) (T := F_K) (N := 8) hx hb hts iw_K hown hK hP 0 rfl rfl 0 (by decide) (hts _ tw_42) (fun _ h9 => h9) rfl d_K_middle_7 ?_
      refine xi_gt (tgt := 20) (X := va.toInt) (Y := (d : Nat)) hx hb rfl (nI_toInt (by omega)) d_K_middle_10 (by decide) (fun c10_1 => ?_) (fun c10_1 => ?_)
      · skip
        refine lv_ldc2 (v := lI (-1000000000000000000)) hx hb hown (hts _ tw_85) d_K_middle_20 ?_
        exact hret H locs _ ls (lI (-1000000000000000000)) (r0, C, F, P, O) d_K_middle_23 (by unfold s_middle; rw [if_pos (show va.toInt < 1 ∨ (d : Int) < va.toInt ∨ (vp.toInt ≠ 0 ∧ vp.toInt ≠ 1) from by omega)]; rfl) hP hD hS
      · skip
        refine lv_iload_n hx hb d_K_middle_13 rfl (lv_at hl 2 rfl) ?_
        refine xci (wc := []) (wr := [(h, .inr (1, [.int (nI d), .int kb, .ref fo, .ref ke, .ref ht, .ref wo, .ref fi, .ref se])), (fo, LA cJ 16 Fm), (ht, .inr (0, [.int r0, .ref hc, .ref hf, .ref hp, .ref ho])), (hc, LA cJ 16 C), (hf, LA cJ 16 F), (hp, LA cJ 16 P), (ho, LA cJ 5 O)]) hP hD hS hA [] [0, 1, 2, 3, 4, 5, 6] rfl rfl (by decide) (by decide) (va_runS (As := [.int vp]) (rest := []) ⟨hx, hb, hml, hown, hts⟩ (c_noPart l D cJ vp H.size) (cwS 1 hts (gS tw_169 tw_170 tw_1 tw_171) rfl rfl rfl ⟨rfl, hd_K_isNoPart⟩ ⟨Nat.le_of_ble_eq_true rfl, Nat.le_of_ble_eq_true rfl⟩) (xPreS hN hK (hP.sub (ws' := []) [] rfl) (hD.sub (ws' := []) [] (by decide) rfl)) rfl rfl hl.1 rfl (lv_room (Nat.le_of_ble_eq_true rfl)) d_K_middle_14 ⟨Nat.le_of_ble_eq_true rfl, Nat.le_of_ble_eq_true rfl⟩) (fun r_3 u_4 H locs hwp hP hD hS => ?_)
        try dsimp only at hwp
        have hP : va_P D vwC [(h, .inr (1, [.int (nI d), .int kb, .ref fo, .ref ke, .ref ht, .ref wo, .ref fi, .ref se])), (fo, LA cJ 16 Fm), (ht, .inr (0, [.int r0, .ref hc, .ref hf, .ref hp, .ref ho])), (hc, LA cJ 16 C), (hf, LA cJ 16 F), (hp, LA cJ 16 P), (ho, LA cJ 5 O)] H := hP
        have hD : va_D A [(h, .inr (1, [.int (nI d), .int kb, .ref fo, .ref ke, .ref ht, .ref wo, .ref fi, .ref se])), (fo, LA cJ 16 Fm), (ht, .inr (0, [.int r0, .ref hc, .ref hf, .ref hp, .ref ho])), (hc, LA cJ 16 C), (hf, LA cJ 16 F), (hp, LA cJ 16 P), (ho, LA cJ 5 O)] := hD
        rcases hwp with ⟨rfl, hwp⟩ | ⟨rfl, hwp⟩
        · skip
          refine xz_eq (tgt := 24) (X := (1 : Nat)) hx hb (nI_toInt (by omega)) d_K_middle_17 (by decide) (fun c17_4 => absurd c17_4 (by omega)) (fun c17_4 => ?_)
          refine lv_ldc2 (v := lI (-1000000000000000000)) hx hb hown (hts _ tw_85) d_K_middle_20 ?_
          exact hret H locs _ ls (lI (-1000000000000000000)) (r0, C, F, P, O) d_K_middle_23 (by unfold s_middle; rw [if_pos (show va.toInt < 1 ∨ (d : Int) < va.toInt ∨ (vp.toInt ≠ 0 ∧ vp.toInt ≠ 1) from by omega)]; rfl) hP hD hS
        · skip
          refine xz_eq (tgt := 24) (X := (0 : Nat)) hx hb (nI_toInt (by omega)) d_K_middle_17 (by decide) (fun c17_5 => ?_) (fun c17_5 => absurd c17_5 (by omega))
          obtain ⟨a, ha, rfl⟩ := mid_ax (v := va) (d := d) (by omega) (by omega)
          refine lv_aload_n hx hb d_K_middle_24 rfl (lv_at hl 0 rfl) ?_
          refine va_get (D := D) (ci := 1) (v := .ref ht) (C := R_K) (T := F_K) (N := 8) hx hb hts iw_K hown hK hP 0 rfl rfl 4 (by decide) (hts _ tw_46) (fun _ h9 => h9) rfl d_K_middle_25 ?_
          refine lv_aload_n hx hb d_K_middle_28 rfl (lv_at hl 0 rfl) ?_
          refine va_get (D := D) (ci := 1) (v := .ref fo) (C := R_K) (T := F_K) (N := 8) hx hb hts iw_K hown hK hP 0 rfl rfl 2 (by decide) (hts _ tw_44) (fun _ h9 => h9) rfl d_K_middle_29 ?_
          refine lv_iconst (v := nI 1) hx hb d_K_middle_32 (by decide) ?_
          refine lv_aload_n hx hb d_K_middle_33 rfl (lv_at hl 0 rfl) ?_
          refine va_get (D := D) (ci := 1) (v := .int (nI d)) (C := R_K) (T := F_K) (N := 8) hx hb hts iw_K hown hK hP 0 rfl rfl 0 (by decide) (hts _ tw_42) (fun _ h9 => h9) rfl d_K_middle_34 ?_
          refine xcv (wc := [(ht, .inr (0, [.int r0, .ref hc, .ref hf, .ref hp, .ref ho])), (hc, LA cJ 16 C), (hf, LA cJ 16 F), (hp, LA cJ 16 P), (ho, LA cJ 5 O), (fo, LA cJ 16 Fm)]) (wr := [(h, .inr (1, [.int (nI d), .int kb, .ref fo, .ref ke, .ref ht, .ref wo, .ref fi, .ref se]))]) hP hD hS hA [2, 3, 4, 5, 6, 1] [0] rfl rfl (by decide) (by decide) (va_runV (As := [.ref fo, .int (nI 1), .int (nI d)]) (rest := []) ⟨hx, hb, hml, hown, hts⟩ (c_load l D cJ ht hc hf hp ho fo 1 d d r0 C F P O Fm (by first | assumption | omega) (by first | assumption | omega) (by first | assumption | omega) (ld_q (by omega) (by omega) (enB_20 hF (by omega))) H.size) (cwV 3 hts (gV tw_97 tw_98 tw_99 tw_2 tw_100) rfl rfl rfl ⟨rfl, hd_T_load⟩ ⟨Nat.le_of_ble_eq_true rfl, Nat.le_of_ble_eq_true rfl⟩) (xPreV (C := R_T) (T := F_T) (N := 5) (q0 := 0) hN hK (hP.sub (ws' := [(ht, .inr (0, [.int r0, .ref hc, .ref hf, .ref hp, .ref ho])), (hc, LA cJ 16 C), (hf, LA cJ 16 F), (hp, LA cJ 16 P), (ho, LA cJ 5 O), (fo, LA cJ 16 Fm)]) [2, 3, 4, 5, 6, 1] rfl) (hD.sub (ws' := [(ht, .inr (0, [.int r0, .ref hc, .ref hf, .ref hp, .ref ho])), (hc, LA cJ 16 C), (hf, LA cJ 16 F), (hp, LA cJ 16 P), (ho, LA cJ 5 O), (fo, LA cJ 16 Fm)]) [2, 3, 4, 5, 6, 1] (by decide) rfl) rfl rfl) rfl rfl hl.1 rfl (lv_room (Nat.le_of_ble_eq_true rfl)) d_K_middle_37 ⟨Nat.le_of_ble_eq_true rfl, Nat.le_of_ble_eq_true rfl⟩) (fun u_8 H locs hw1 hP hD hS => ?_)
          obtain ⟨Ca, Fa, Pa, Oa⟩ := u_8
          try dsimp only at hw1
          have hP : va_P D vwC [(h, .inr (1, [.int (nI d), .int kb, .ref fo, .ref ke, .ref ht, .ref wo, .ref fi, .ref se])), (fo, LA cJ 16 Fm), (ht, .inr (0, [.int (nI d), .ref hc, .ref hf, .ref hp, .ref ho])), (hc, LA cJ 16 Ca), (hf, LA cJ 16 Fa), (hp, LA cJ 16 Pa), (ho, LA cJ 5 Oa)] H := hP.sub [0, 6, 1, 2, 3, 4, 5] rfl
          have hD : va_D A [(h, .inr (1, [.int (nI d), .int kb, .ref fo, .ref ke, .ref ht, .ref wo, .ref fi, .ref se])), (fo, LA cJ 16 Fm), (ht, .inr (0, [.int (nI d), .ref hc, .ref hf, .ref hp, .ref ho])), (hc, LA cJ 16 Ca), (hf, LA cJ 16 Fa), (hp, LA cJ 16 Pa), (ho, LA cJ 5 Oa)] := hD.sub [0, 6, 1, 2, 3, 4, 5] (by decide) rfl
          have hT := ld_ok (f := 1) (r := d) (by omega) (by omega) hw1
          refine lv_lconst (v := lI 0) hx hb d_K_middle_40 (by decide) ?_
          refine lv_lstore_n (lv' := [(3, .long (lI 0)), (0, .ref h), (1, .int (nI (a + 1))), (2, .int vp)]) hx hb d_K_middle_41 rfl hl (by decide) rfl (fun ls hl => ?_)
          refine lv_iconst (v := nI 1) hx hb d_K_middle_42 (by decide) ?_
          refine lv_istore (lv' := [(5, .int (nI 1)), (3, .long (lI 0)), (0, .ref h), (1, .int (nI (a + 1))), (2, .int vp)]) hx hb d_K_middle_43 hl (by decide) rfl (fun ls hl => ?_)
          have lp_45 : ∀ (n_45 : Nat) (j : Nat) (H : Heap) (locs : List Loc) (ls : Array Slot), (j ≤ d) → (d - j) < n_45 → va_P D vwC [(h, .inr (1, [.int (nI d), .int kb, .ref fo, .ref ke, .ref ht, .ref wo, .ref fi, .ref se])), (fo, LA cJ 16 Fm), (ht, .inr (0, [.int (nI d), .ref hc, .ref hf, .ref hp, .ref ho])), (hc, LA cJ 16 Ca), (hf, LA cJ 16 Fa), (hp, LA cJ 16 Pa), (ho, LA cJ 5 Oa)] H → va_D A [(h, .inr (1, [.int (nI d), .int kb, .ref fo, .ref ke, .ref ht, .ref wo, .ref fi, .ref se])), (fo, LA cJ 16 Fm), (ht, .inr (0, [.int (nI d), .ref hc, .ref hf, .ref hp, .ref ho])), (hc, LA cJ 16 Ca), (hf, LA cJ 16 Fa), (hp, LA cJ 16 Pa), (ho, LA cJ 5 Oa)] → va_S A s.heap H locs → lv_has ls 6 [(0, .ref h), (1, .int (nI (a + 1))), (2, .int vp), (3, .long (lI (midN Fm d a j))), (5, .int (nI (j + 1)))] → W p l e rm_k_middle s m args below meth c H locs 0 0 Q (F0 m 45 ls []) := by
            intro n_45
            induction n_45 with
            | zero => intro j H locs ls hj hn_45; exact absurd hn_45 (Nat.not_lt_zero _)
            | succ n_45 ih_45 =>
              intro j H locs ls hj hn_45 hP hD hS hl
              refine lv_iload hx hb d_K_middle_45 (lv_at hl 4 rfl) ?_
              refine lv_aload_n hx hb d_K_middle_47 rfl (lv_at hl 0 rfl) ?_
              refine va_get (D := D) (ci := 1) (v := .int (nI d)) (C := R_K) (T := F_K) (N := 8) hx hb hts iw_K hown hK hP 0 rfl rfl 0 (by decide) (hts _ tw_42) (fun _ h9 => h9) rfl d_K_middle_48 ?_
              refine xn_gt (tgt := 89) hx hb (by omega) (by omega) d_K_middle_51 (by decide) (fun c51_8 => ?_) (fun c51_8 => ?_)
              · skip
                refine lv_lload_n hx hb d_K_middle_89 rfl (lv_at hl 3 rfl) ?_
                refine lv_aload_n hx hb d_K_middle_90 rfl (lv_at hl 0 rfl) ?_
                refine va_get (D := D) (ci := 1) (v := .ref ht) (C := R_K) (T := F_K) (N := 8) hx hb hts iw_K hown hK hP 0 rfl rfl 4 (by decide) (hts _ tw_46) (fun _ h9 => h9) rfl d_K_middle_91 ?_
                refine xcl (wc := [(ht, .inr (0, [.int (nI d), .ref hc, .ref hf, .ref hp, .ref ho])), (hc, LA cJ 16 Ca), (hf, LA cJ 16 Fa), (hp, LA cJ 16 Pa), (ho, LA cJ 5 Oa)]) (wr := [(h, .inr (1, [.int (nI d), .int kb, .ref fo, .ref ke, .ref ht, .ref wo, .ref fi, .ref se])), (fo, LA cJ 16 Fm)]) hP hD hS hA [2, 3, 4, 5, 6] [0, 1] rfl rfl (by decide) (by decide) (va_runV (As := []) (rest := [.long (lI (midN Fm d a j))]) ⟨hx, hb, hml, hown, hts⟩ (c_product l D cJ ht hc hf hp ho d Ca Fa Pa Oa (by first | assumption | omega) H.size) (cwV 0 hts (gV tw_156 tw_157 tw_158 tw_2 tw_159) rfl rfl rfl ⟨rfl, hd_T_productOfValues⟩ ⟨Nat.le_of_ble_eq_true rfl, Nat.le_of_ble_eq_true rfl⟩) (xPreV (C := R_T) (T := F_T) (N := 5) (q0 := 0) hN hK (hP.sub (ws' := [(ht, .inr (0, [.int (nI d), .ref hc, .ref hf, .ref hp, .ref ho])), (hc, LA cJ 16 Ca), (hf, LA cJ 16 Fa), (hp, LA cJ 16 Pa), (ho, LA cJ 5 Oa)]) [2, 3, 4, 5, 6] rfl) (hD.sub (ws' := [(ht, .inr (0, [.int (nI d), .ref hc, .ref hf, .ref hp, .ref ho])), (hc, LA cJ 16 Ca), (hf, LA cJ 16 Fa), (hp, LA cJ 16 Pa), (ho, LA cJ 5 Oa)]) [2, 3, 4, 5, 6] (by decide) rfl) rfl rfl) rfl rfl hl.1 rfl (lv_room (Nat.le_of_ble_eq_true rfl)) d_K_middle_94 ⟨Nat.le_of_ble_eq_true rfl, Nat.le_of_ble_eq_true rfl⟩) (fun r_10 u_11 H locs hw_12 hP hD hS => ?_)
                try dsimp only at hw_12
                have hP : va_P D vwC [(h, .inr (1, [.int (nI d), .int kb, .ref fo, .ref ke, .ref ht, .ref wo, .ref fi, .ref se])), (fo, LA cJ 16 Fm), (ht, .inr (0, [.int (nI d), .ref hc, .ref hf, .ref hp, .ref ho])), (hc, LA cJ 16 Ca), (hf, LA cJ 16 Fa), (hp, LA cJ 16 Pa), (ho, LA cJ 5 Oa)] H := hP
                have hD : va_D A [(h, .inr (1, [.int (nI d), .int kb, .ref fo, .ref ke, .ref ht, .ref wo, .ref fi, .ref se])), (fo, LA cJ 16 Fm), (ht, .inr (0, [.int (nI d), .ref hc, .ref hf, .ref hp, .ref ho])), (hc, LA cJ 16 Ca), (hf, LA cJ 16 Fa), (hp, LA cJ 16 Pa), (ho, LA cJ 5 Oa)] := hD
                subst hw_12
                rw [ld_det hT]
                refine lv_iload_n hx hb d_K_middle_97 rfl (lv_at hl 2 rfl) ?_
                refine xcl (wc := []) (wr := [(h, .inr (1, [.int (nI d), .int kb, .ref fo, .ref ke, .ref ht, .ref wo, .ref fi, .ref se])), (fo, LA cJ 16 Fm), (ht, .inr (0, [.int (nI d), .ref hc, .ref hf, .ref hp, .ref ho])), (hc, LA cJ 16 Ca), (hf, LA cJ 16 Fa), (hp, LA cJ 16 Pa), (ho, LA cJ 5 Oa)]) hP hD hS hA [] [0, 1, 2, 3, 4, 5, 6] rfl rfl (by decide) (by decide) (va_runS (As := [.long (lI (midN Fm d a j)), .long (lI (det (prt Fm 1) d)), .int vp]) (rest := []) ⟨hx, hb, hml, hown, hts⟩ (c_part l D cJ (midN Fm d a j) (det (prt Fm 1) d) vp (nB_of (leB (midN_B hd2 hd3 (show a < d by omega) hF (j := j) (by omega)) (show _ ≤ (3000000 : Int) by omega)) (by decide)) (nB_of (e1_B20 hd2 hd3 (enB_f hF (by omega))).2.2 (by decide)) H.size) (cwS 3 hts (gS tw_176 tw_177 tw_1 tw_178) rfl rfl rfl ⟨rfl, hd_K_partOfFraction⟩ ⟨Nat.le_of_ble_eq_true rfl, Nat.le_of_ble_eq_true rfl⟩) (xPreS hN hK (hP.sub (ws' := []) [] rfl) (hD.sub (ws' := []) [] (by decide) rfl)) rfl rfl hl.1 rfl (lv_room (Nat.le_of_ble_eq_true rfl)) d_K_middle_98 ⟨Nat.le_of_ble_eq_true rfl, Nat.le_of_ble_eq_true rfl⟩) (fun r_13 u_14 H locs hw_15 hP hD hS => ?_)
                try dsimp only at hw_15
                have hP : va_P D vwC [(h, .inr (1, [.int (nI d), .int kb, .ref fo, .ref ke, .ref ht, .ref wo, .ref fi, .ref se])), (fo, LA cJ 16 Fm), (ht, .inr (0, [.int (nI d), .ref hc, .ref hf, .ref hp, .ref ho])), (hc, LA cJ 16 Ca), (hf, LA cJ 16 Fa), (hp, LA cJ 16 Pa), (ho, LA cJ 5 Oa)] H := hP
                have hD : va_D A [(h, .inr (1, [.int (nI d), .int kb, .ref fo, .ref ke, .ref ht, .ref wo, .ref fi, .ref se])), (fo, LA cJ 16 Fm), (ht, .inr (0, [.int (nI d), .ref hc, .ref hf, .ref hp, .ref ho])), (hc, LA cJ 16 Ca), (hf, LA cJ 16 Fa), (hp, LA cJ 16 Pa), (ho, LA cJ 5 Oa)] := hD
                subst hw_15
                exact hret H locs _ ls (lI (pfr (midN Fm d a j) (det (prt Fm 1) d) vp.toInt)) (nI d, Ca, Fa, Pa, Oa) d_K_middle_101 (by unfold s_middle; rw [nI_toInt (by omega), if_neg (show ¬ (((a + 1 : Nat) : Int) < 1 ∨ (d : Int) < ((a + 1 : Nat) : Int) ∨ (vp.toInt ≠ 0 ∧ vp.toInt ≠ 1)) from by omega), show j = d from by omega]; rfl) hP hD hS
              · skip
                refine lv_lload_n hx hb d_K_middle_54 rfl (lv_at hl 3 rfl) ?_
                refine lv_aload_n hx hb d_K_middle_55 rfl (lv_at hl 0 rfl) ?_
                refine va_get (D := D) (ci := 1) (v := .ref ht) (C := R_K) (T := F_K) (N := 8) hx hb hts iw_K hown hK hP 0 rfl rfl 4 (by decide) (hts _ tw_46) (fun _ h9 => h9) rfl d_K_middle_56 ?_
                refine lv_iload_n hx hb d_K_middle_59 rfl (lv_at hl 1 rfl) ?_
                refine lv_iconst (v := nI 1) hx hb d_K_middle_60 (by decide) ?_
                refine xn_sub hx hb (by omega) d_K_middle_61 ?_
                rw [show a + 1 - 1 = a from rfl]
                refine lv_iload hx hb d_K_middle_62 (lv_at hl 4 rfl) ?_
                refine lv_iconst (v := nI 1) hx hb d_K_middle_64 (by decide) ?_
                refine xn_sub hx hb (by omega) d_K_middle_65 ?_
                rw [show j + 1 - 1 = j from rfl]
                refine xcl (wc := [(ht, .inr (0, [.int (nI d), .ref hc, .ref hf, .ref hp, .ref ho])), (hc, LA cJ 16 Ca), (hf, LA cJ 16 Fa), (hp, LA cJ 16 Pa), (ho, LA cJ 5 Oa)]) (wr := [(h, .inr (1, [.int (nI d), .int kb, .ref fo, .ref ke, .ref ht, .ref wo, .ref fi, .ref se])), (fo, LA cJ 16 Fm)]) hP hD hS hA [2, 3, 4, 5, 6] [0, 1] rfl rfl (by decide) (by decide) (va_runV (As := [.int (nI a), .int (nI j)]) (rest := [.long (lI (midN Fm d a j))]) ⟨hx, hb, hml, hown, hts⟩ (c_adjugate l D cJ ht hc hf hp ho d Ca Fa Pa Oa a j (by first | assumption | omega) (by first | assumption | omega) (by first | assumption | omega) H.size) (cwV 2 hts (gV tw_172 tw_173 tw_174 tw_2 tw_175) rfl rfl rfl ⟨rfl, hd_T_adjugate⟩ ⟨Nat.le_of_ble_eq_true rfl, Nat.le_of_ble_eq_true rfl⟩) (xPreV (C := R_T) (T := F_T) (N := 5) (q0 := 0) hN hK (hP.sub (ws' := [(ht, .inr (0, [.int (nI d), .ref hc, .ref hf, .ref hp, .ref ho])), (hc, LA cJ 16 Ca), (hf, LA cJ 16 Fa), (hp, LA cJ 16 Pa), (ho, LA cJ 5 Oa)]) [2, 3, 4, 5, 6] rfl) (hD.sub (ws' := [(ht, .inr (0, [.int (nI d), .ref hc, .ref hf, .ref hp, .ref ho])), (hc, LA cJ 16 Ca), (hf, LA cJ 16 Fa), (hp, LA cJ 16 Pa), (ho, LA cJ 5 Oa)]) [2, 3, 4, 5, 6] (by decide) rfl) rfl rfl) rfl rfl hl.1 rfl (lv_room (Nat.le_of_ble_eq_true rfl)) d_K_middle_66 ⟨Nat.le_of_ble_eq_true rfl, Nat.le_of_ble_eq_true rfl⟩) (fun r_16 u_17 H locs hw_18 hP hD hS => ?_)
                try dsimp only at hw_18
                have hP : va_P D vwC [(h, .inr (1, [.int (nI d), .int kb, .ref fo, .ref ke, .ref ht, .ref wo, .ref fi, .ref se])), (fo, LA cJ 16 Fm), (ht, .inr (0, [.int (nI d), .ref hc, .ref hf, .ref hp, .ref ho])), (hc, LA cJ 16 Ca), (hf, LA cJ 16 Fa), (hp, LA cJ 16 Pa), (ho, LA cJ 5 Oa)] H := hP
                have hD : va_D A [(h, .inr (1, [.int (nI d), .int kb, .ref fo, .ref ke, .ref ht, .ref wo, .ref fi, .ref se])), (fo, LA cJ 16 Fm), (ht, .inr (0, [.int (nI d), .ref hc, .ref hf, .ref hp, .ref ho])), (hc, LA cJ 16 Ca), (hf, LA cJ 16 Fa), (hp, LA cJ 16 Pa), (ho, LA cJ 5 Oa)] := hD
                subst hw_18
                rw [ld_adj (i := a) (j := j) hT (by omega) (by omega)]
                refine lv_aload_n hx hb d_K_middle_69 rfl (lv_at hl 0 rfl) ?_
                refine va_get (D := D) (ci := 1) (v := .ref fo) (C := R_K) (T := F_K) (N := 8) hx hb hts iw_K hown hK hP 0 rfl rfl 2 (by decide) (hts _ tw_44) (fun _ h9 => h9) rfl d_K_middle_70 ?_
                refine lv_iload hx hb d_K_middle_73 (lv_at hl 4 rfl) ?_
                refine lv_iconst (v := nI 0) hx hb d_K_middle_75 (by decide) ?_
                refine xci (wc := []) (wr := [(h, .inr (1, [.int (nI d), .int kb, .ref fo, .ref ke, .ref ht, .ref wo, .ref fi, .ref se])), (fo, LA cJ 16 Fm), (ht, .inr (0, [.int (nI d), .ref hc, .ref hf, .ref hp, .ref ho])), (hc, LA cJ 16 Ca), (hf, LA cJ 16 Fa), (hp, LA cJ 16 Pa), (ho, LA cJ 5 Oa)]) hP hD hS hA [] [0, 1, 2, 3, 4, 5, 6] rfl rfl (by decide) (by decide) (va_runS (As := [.int (nI (j + 1)), .int (nI 0)]) (rest := [.ref fo, .long (lI (adjM (prt Fm 1) d a j)), .long (lI (midN Fm d a j))]) ⟨hx, hb, hml, hown, hts⟩ (c_place l D cJ (j + 1) 0 H.size) (cwS 2 hts (gS tw_86 tw_87 tw_1 tw_88) rfl rfl rfl ⟨rfl, hd_K_place⟩ ⟨Nat.le_of_ble_eq_true rfl, Nat.le_of_ble_eq_true rfl⟩) (xPreS hN hK (hP.sub (ws' := []) [] rfl) (hD.sub (ws' := []) [] (by decide) rfl)) rfl rfl hl.1 rfl (lv_room (Nat.le_of_ble_eq_true rfl)) d_K_middle_76 ⟨Nat.le_of_ble_eq_true rfl, Nat.le_of_ble_eq_true rfl⟩) (fun r_19 u_20 H locs hw_21 hP hD hS => ?_)
                try dsimp only at hw_21
                have hP : va_P D vwC [(h, .inr (1, [.int (nI d), .int kb, .ref fo, .ref ke, .ref ht, .ref wo, .ref fi, .ref se])), (fo, LA cJ 16 Fm), (ht, .inr (0, [.int (nI d), .ref hc, .ref hf, .ref hp, .ref ho])), (hc, LA cJ 16 Ca), (hf, LA cJ 16 Fa), (hp, LA cJ 16 Pa), (ho, LA cJ 5 Oa)] H := hP
                have hD : va_D A [(h, .inr (1, [.int (nI d), .int kb, .ref fo, .ref ke, .ref ht, .ref wo, .ref fi, .ref se])), (fo, LA cJ 16 Fm), (ht, .inr (0, [.int (nI d), .ref hc, .ref hf, .ref hp, .ref ho])), (hc, LA cJ 16 Ca), (hf, LA cJ 16 Fa), (hp, LA cJ 16 Pa), (ho, LA cJ 5 Oa)] := hD
                subst hw_21
                refine xl_ald hx hb hK hP 1 0 rfl rfl (k := 4 * (j + 1) + 0) (by omega) (by first | decide | omega) d_K_middle_79 ?_
                refine xl_mul hx hb d_K_middle_80 ?_
                refine xl_sub hx hb d_K_middle_81 ?_
                refine lv_lstore_n (lv' := [(3, .long (lI ((midN Fm d a j) - ((adjM (prt Fm 1) d a j) * (Fm (4 * (j + 1) + 0)))))), (0, .ref h), (1, .int (nI (a + 1))), (2, .int vp), (5, .int (nI (j + 1)))]) hx hb d_K_middle_82 rfl hl (by decide) rfl (fun ls hl => ?_)
                refine lv_iinc (v := nI ((j + 1) + 1)) (lv' := [(5, .int (nI ((j + 1) + 1))), (3, .long (lI ((midN Fm d a j) - ((adjM (prt Fm 1) d a j) * (Fm (4 * (j + 1) + 0)))))), (0, .ref h), (1, .int (nI (a + 1))), (2, .int vp)]) hx hb d_K_middle_83 hl (k := 4) rfl (nI_add _ _) (by decide) rfl (fun ls hl => ?_)
                refine lv_goto (tgt := 45) hx hb d_K_middle_86 (by decide) ?_
                exact ih_45 (j + 1) H locs ls (by omega) (by omega) hP hD hS (lv_sub hl [2, 3, 4, 1, 0] rfl)
          exact lp_45 ((d - 0) + 1) 0 H locs ls (Nat.zero_le _) (by omega) hP hD hS (lv_sub hl [2, 3, 4, 1, 0] rfl)
  rw [hH, hlc] at key; exact key

def rm_k_below : Room := { frames := 4, cells := 0, slots := 0, locals := 107 }
set_option maxHeartbeats 4000000 in
set_option maxRecDepth 100000 in
/-- below -/
theorem k_below (l : Launch) (D : va_G) (cJ : ClassId) (h : Nat) (d : Nat) (kb : Int32) (fo : Nat) (ke : Nat) (ht : Nat) (wo : Nat) (fi : Nat) (se : Nat) (Fm : Nat → Int) (Wk : Nat → Int) (hc : Nat) (hf : Nat) (hp : Nat) (ho : Nat) (r0 : Int32) (C : Nat → Int) (F : Nat → Int) (P : Nat → Int) (O : Nat → Int) (vu : Int32) (vd : Int32) (hd2 : 2 ≤ d) (hd3 : d ≤ 3) (hF : ∀ k, k < 16 → inB (Fm k) 20) (sz : Nat) : xMi l y_K_below (Cond.code y_K_below b_K_below 5 (some .int) :: tW) rm_k_below [.ref h, .int vu, .int vd] D vwC [(cJ, .long)] sz [(h, .inr (1, [.int (nI d), .int kb, .ref fo, .ref ke, .ref ht, .ref wo, .ref fi, .ref se])), (fo, LA cJ 16 Fm), (wo, LA cJ 16 Wk), (ht, .inr (0, [.int r0, .ref hc, .ref hf, .ref hp, .ref ho])), (hc, LA cJ 16 C), (hf, LA cJ 16 F), (hp, LA cJ 16 P), (ho, LA cJ 5 O)] (fun (rv : Int32) (uo : (Nat → Int) × Int32 × (Nat → Int) × (Nat → Int) × (Nat → Int) × (Nat → Int)) => rv = s_below Fm d vu.toInt vd.toInt) (fun (uo : (Nat → Int) × Int32 × (Nat → Int) × (Nat → Int) × (Nat → Int) × (Nat → Int)) => [(h, .inr (1, [.int (nI d), .int kb, .ref fo, .ref ke, .ref ht, .ref wo, .ref fi, .ref se])), (fo, LA cJ 16 Fm), (wo, LA cJ 16 uo.1), (ht, .inr (0, [.int uo.2.1, .ref hc, .ref hf, .ref hp, .ref ho])), (hc, LA cJ 16 uo.2.2.1), (hf, LA cJ 16 uo.2.2.2.1), (hp, LA cJ 16 uo.2.2.2.2.1), (ho, LA cJ 5 uo.2.2.2.2.2)]) 0 0 := by
  refine xoi (cc := b_K_below) (maxL := 5) (by decide) rfl (Nat.le_of_ble_eq_true rfl) ?_
  intro p e s m args below meth c Q A hx hb hml hts hown hN hA hS hP hK hD hret ls hl
  have hl : lv_has ls 5 [(0, .ref h), (1, .int vu), (2, .int vd)] := hl
  obtain ⟨H, hH⟩ : ∃ z, z = s.heap := ⟨_, rfl⟩
  obtain ⟨locs, hlc⟩ : ∃ z : List Loc, z = [] := ⟨_, rfl⟩
  rw [← hH] at hP
  have hS : va_S A s.heap H locs := by rw [hH, hlc]; exact hS
  have key : W p l e rm_k_below s m args below meth c H locs 0 0 Q (F0 m 0 ls []) := by
    refine lv_iload_n hx hb d_K_below_0 rfl (lv_at hl 1 rfl) ?_
    refine lv_i2l (v := lI vu.toInt) hx hb d_K_below_1 rfl ?_
    refine lv_sipush (v := nI 2000) hx hb d_K_below_2 (by decide) ?_
    refine xci (wc := []) (wr := [(h, .inr (1, [.int (nI d), .int kb, .ref fo, .ref ke, .ref ht, .ref wo, .ref fi, .ref se])), (fo, LA cJ 16 Fm), (wo, LA cJ 16 Wk), (ht, .inr (0, [.int r0, .ref hc, .ref hf, .ref hp, .ref ho])), (hc, LA cJ 16 C), (hf, LA cJ 16 F), (hp, LA cJ 16 P), (ho, LA cJ 5 O)]) hP hD hS hA [] [0, 1, 2, 3, 4, 5, 6, 7] rfl rfl (by decide) (by decide) (va_runS (As := [.long (lI vu.toInt), .int (nI 2000)]) (rest := []) ⟨hx, hb, hml, hown, hts⟩ (c_beyond l D cJ vu.toInt 2000 (lB_i _) (by first | assumption | omega) H.size) (cwS 2 hts (gS tw_82 tw_83 tw_1 tw_84) rfl rfl rfl ⟨rfl, hd_K_isBeyond⟩ ⟨Nat.le_of_ble_eq_true rfl, Nat.le_of_ble_eq_true rfl⟩) (xPreS hN hK (hP.sub (ws' := []) [] rfl) (hD.sub (ws' := []) [] (by decide) rfl)) rfl rfl hl.1 rfl (lv_room (Nat.le_of_ble_eq_true rfl)) d_K_below_5 ⟨Nat.le_of_ble_eq_true rfl, Nat.le_of_ble_eq_true rfl⟩) (fun r_1 u_2 H locs hwb hP hD hS => ?_)
    try dsimp only at hwb
    have hP : va_P D vwC [(h, .inr (1, [.int (nI d), .int kb, .ref fo, .ref ke, .ref ht, .ref wo, .ref fi, .ref se])), (fo, LA cJ 16 Fm), (wo, LA cJ 16 Wk), (ht, .inr (0, [.int r0, .ref hc, .ref hf, .ref hp, .ref ho])), (hc, LA cJ 16 C), (hf, LA cJ 16 F), (hp, LA cJ 16 P), (ho, LA cJ 5 O)] H := hP
    have hD : va_D A [(h, .inr (1, [.int (nI d), .int kb, .ref fo, .ref ke, .ref ht, .ref wo, .ref fi, .ref se])), (fo, LA cJ 16 Fm), (wo, LA cJ 16 Wk), (ht, .inr (0, [.int r0, .ref hc, .ref hf, .ref hp, .ref ho])), (hc, LA cJ 16 C), (hf, LA cJ 16 F), (hp, LA cJ 16 P), (ho, LA cJ 5 O)] := hD
    rcases hwb with ⟨rfl, hwb⟩ | ⟨rfl, hwb⟩
    · skip
      refine xz_ne (tgt := 22) (X := (1 : Nat)) hx hb (nI_toInt (by omega)) d_K_below_8 (by decide) (fun c8_2 => ?_) (fun c8_2 => absurd c8_2 (by omega))
      refine lv_bipush (v := (-2)) hx hb d_K_below_22 (by decide) ?_
      exact hret H locs _ ls (-2) (Wk, r0, C, F, P, O) d_K_below_24 (by unfold s_below; rw [if_pos (show (vu.toInt < -2000 ∨ 2000 < vu.toInt) ∨ vd.toInt < 1 ∨ 100 < vd.toInt from by omega)]) hP hD hS
    · skip
      refine xz_ne (tgt := 22) (X := (0 : Nat)) hx hb (nI_toInt (by omega)) d_K_below_8 (by decide) (fun c8_3 => absurd c8_3 (by omega)) (fun c8_3 => ?_)
      refine lv_iload_n hx hb d_K_below_11 rfl (lv_at hl 2 rfl) ?_
      refine lv_iconst (v := nI 1) hx hb d_K_below_12 (by decide) ?_
      refine xi_lt (tgt := 22) (X := vd.toInt) (Y := (1 : Nat)) hx hb rfl (nI_toInt (by omega)) d_K_below_13 (by decide) (fun c13_4 => ?_) (fun c13_4 => ?_)
      · skip
        refine lv_bipush (v := (-2)) hx hb d_K_below_22 (by decide) ?_
        exact hret H locs _ ls (-2) (Wk, r0, C, F, P, O) d_K_below_24 (by unfold s_below; rw [if_pos (show (vu.toInt < -2000 ∨ 2000 < vu.toInt) ∨ vd.toInt < 1 ∨ 100 < vd.toInt from by omega)]) hP hD hS
      · skip
        refine lv_iload_n hx hb d_K_below_16 rfl (lv_at hl 2 rfl) ?_
        refine lv_bipush (v := nI 100) hx hb d_K_below_17 (by decide) ?_
        refine xi_le (tgt := 25) (X := vd.toInt) (Y := (100 : Nat)) hx hb rfl (nI_toInt (by omega)) d_K_below_19 (by decide) (fun c19_5 => ?_) (fun c19_5 => ?_)
        · skip
          refine lv_iconst (v := nI 1) hx hb d_K_below_25 (by decide) ?_
          refine lv_istore_n (lv' := [(3, .int (nI 1)), (0, .ref h), (1, .int vu), (2, .int vd)]) hx hb d_K_below_26 rfl hl (by decide) rfl (fun ls hl => ?_)
          have lp_27 : ∀ (n_27 : Nat) (i : Nat) (W3 : Nat → Int) (H : Heap) (locs : List Loc) (ls : Array Slot), (i ≤ d) → (∀ a b, a < i → b < d → W3 (4 * (a + 1) + (b + 1)) = vd.toInt * Fm (4 * (a + 1) + (b + 1)) - (if a = b then vu.toInt else 0)) → (d - i) < n_27 → va_P D vwC [(h, .inr (1, [.int (nI d), .int kb, .ref fo, .ref ke, .ref ht, .ref wo, .ref fi, .ref se])), (fo, LA cJ 16 Fm), (wo, LA cJ 16 W3), (ht, .inr (0, [.int r0, .ref hc, .ref hf, .ref hp, .ref ho])), (hc, LA cJ 16 C), (hf, LA cJ 16 F), (hp, LA cJ 16 P), (ho, LA cJ 5 O)] H → va_D A [(h, .inr (1, [.int (nI d), .int kb, .ref fo, .ref ke, .ref ht, .ref wo, .ref fi, .ref se])), (fo, LA cJ 16 Fm), (wo, LA cJ 16 W3), (ht, .inr (0, [.int r0, .ref hc, .ref hf, .ref hp, .ref ho])), (hc, LA cJ 16 C), (hf, LA cJ 16 F), (hp, LA cJ 16 P), (ho, LA cJ 5 O)] → va_S A s.heap H locs → lv_has ls 5 [(0, .ref h), (1, .int vu), (2, .int vd), (3, .int (nI (i + 1)))] → W p l e rm_k_below s m args below meth c H locs 0 0 Q (F0 m 27 ls []) := by
            intro n_27
            induction n_27 with
            | zero => intro i W3 H locs ls hi h1 hn_27; exact absurd hn_27 (Nat.not_lt_zero _)
            | succ n_27 ih_27 =>
              intro i W3 H locs ls hi h1 hn_27 hP hD hS hl
              refine lv_iload_n hx hb d_K_below_27 rfl (lv_at hl 3 rfl) ?_
              refine lv_aload_n hx hb d_K_below_28 rfl (lv_at hl 0 rfl) ?_
              refine va_get (D := D) (ci := 1) (v := .int (nI d)) (C := R_K) (T := F_K) (N := 8) hx hb hts iw_K hown hK hP 0 rfl rfl 0 (by decide) (hts _ tw_42) (fun _ h9 => h9) rfl d_K_below_29 ?_
              refine xn_gt (tgt := 97) hx hb (by omega) (by omega) d_K_below_32 (by decide) (fun c32_6 => ?_) (fun c32_6 => ?_)
              · skip
                have hsh : ∀ a b, a < d → b < d → W3 (4 * (1 + a) + (1 + b)) = shZ Fm vu.toInt vd.toInt (4 * (1 + a) + (1 + b)) := by
                  intro a b ha hb
                  rw [show 1 + a = a + 1 from by omega, show 1 + b = b + 1 from by omega, h1 a b (by omega) hb]
                  unfold shZ
                  rw [q4d (a + 1) (show b + 1 < 4 by omega), q4m (a + 1) (show b + 1 < 4 by omega)]
                  by_cases q : a = b
                  · rw [if_pos q, if_pos (by omega)]
                  · rw [if_neg q, if_neg (by omega)]
                have hBW : enB (prt W3 1) d (tabB d) := enB_congr (prt_congr (by omega) hsh) (sh_B hd3 hF ⟨by omega, by omega⟩ ⟨by omega, by omega⟩)
                refine lv_aload_n hx hb d_K_below_97 rfl (lv_at hl 0 rfl) ?_
                refine va_get (D := D) (ci := 1) (v := .ref ht) (C := R_K) (T := F_K) (N := 8) hx hb hts iw_K hown hK hP 0 rfl rfl 4 (by decide) (hts _ tw_46) (fun _ h9 => h9) rfl d_K_below_98 ?_
                refine lv_aload_n hx hb d_K_below_101 rfl (lv_at hl 0 rfl) ?_
                refine va_get (D := D) (ci := 1) (v := .ref wo) (C := R_K) (T := F_K) (N := 8) hx hb hts iw_K hown hK hP 0 rfl rfl 5 (by decide) (hts _ tw_47) (fun _ h9 => h9) rfl d_K_below_102 ?_
                refine lv_iconst (v := nI 1) hx hb d_K_below_105 (by decide) ?_
                refine lv_aload_n hx hb d_K_below_106 rfl (lv_at hl 0 rfl) ?_
                refine va_get (D := D) (ci := 1) (v := .int (nI d)) (C := R_K) (T := F_K) (N := 8) hx hb hts iw_K hown hK hP 0 rfl rfl 0 (by decide) (hts _ tw_42) (fun _ h9 => h9) rfl d_K_below_107 ?_
                refine xcv (wc := [(ht, .inr (0, [.int r0, .ref hc, .ref hf, .ref hp, .ref ho])), (hc, LA cJ 16 C), (hf, LA cJ 16 F), (hp, LA cJ 16 P), (ho, LA cJ 5 O), (wo, LA cJ 16 W3)]) (wr := [(h, .inr (1, [.int (nI d), .int kb, .ref fo, .ref ke, .ref ht, .ref wo, .ref fi, .ref se])), (fo, LA cJ 16 Fm)]) hP hD hS hA [3, 4, 5, 6, 7, 2] [0, 1] rfl rfl (by decide) (by decide) (va_runV (As := [.ref wo, .int (nI 1), .int (nI d)]) (rest := []) ⟨hx, hb, hml, hown, hts⟩ (c_load l D cJ ht hc hf hp ho wo 1 d d r0 C F P O W3 (by first | assumption | omega) (by first | assumption | omega) (by first | assumption | omega) (ld_q hd2 (by omega) hBW) H.size) (cwV 3 hts (gV tw_97 tw_98 tw_99 tw_2 tw_100) rfl rfl rfl ⟨rfl, hd_T_load⟩ ⟨Nat.le_of_ble_eq_true rfl, Nat.le_of_ble_eq_true rfl⟩) (xPreV (C := R_T) (T := F_T) (N := 5) (q0 := 0) hN hK (hP.sub (ws' := [(ht, .inr (0, [.int r0, .ref hc, .ref hf, .ref hp, .ref ho])), (hc, LA cJ 16 C), (hf, LA cJ 16 F), (hp, LA cJ 16 P), (ho, LA cJ 5 O), (wo, LA cJ 16 W3)]) [3, 4, 5, 6, 7, 2] rfl) (hD.sub (ws' := [(ht, .inr (0, [.int r0, .ref hc, .ref hf, .ref hp, .ref ho])), (hc, LA cJ 16 C), (hf, LA cJ 16 F), (hp, LA cJ 16 P), (ho, LA cJ 5 O), (wo, LA cJ 16 W3)]) [3, 4, 5, 6, 7, 2] (by decide) rfl) rfl rfl) rfl rfl hl.1 rfl (lv_room (Nat.le_of_ble_eq_true rfl)) d_K_below_110 ⟨Nat.le_of_ble_eq_true rfl, Nat.le_of_ble_eq_true rfl⟩) (fun u_9 H locs hw1 hP hD hS => ?_)
                obtain ⟨Ca, Fa, Pa, Oa⟩ := u_9
                try dsimp only at hw1
                have hP : va_P D vwC [(h, .inr (1, [.int (nI d), .int kb, .ref fo, .ref ke, .ref ht, .ref wo, .ref fi, .ref se])), (fo, LA cJ 16 Fm), (wo, LA cJ 16 W3), (ht, .inr (0, [.int (nI d), .ref hc, .ref hf, .ref hp, .ref ho])), (hc, LA cJ 16 Ca), (hf, LA cJ 16 Fa), (hp, LA cJ 16 Pa), (ho, LA cJ 5 Oa)] H := hP.sub [0, 1, 7, 2, 3, 4, 5, 6] rfl
                have hD : va_D A [(h, .inr (1, [.int (nI d), .int kb, .ref fo, .ref ke, .ref ht, .ref wo, .ref fi, .ref se])), (fo, LA cJ 16 Fm), (wo, LA cJ 16 W3), (ht, .inr (0, [.int (nI d), .ref hc, .ref hf, .ref hp, .ref ho])), (hc, LA cJ 16 Ca), (hf, LA cJ 16 Fa), (hp, LA cJ 16 Pa), (ho, LA cJ 5 Oa)] := hD.sub [0, 1, 7, 2, 3, 4, 5, 6] (by decide) rfl
                have hT := ld_ok (f := 1) (r := d) hd2 (by omega) hw1
                refine lv_aload_n hx hb d_K_below_113 rfl (lv_at hl 0 rfl) ?_
                refine va_get (D := D) (ci := 1) (v := .ref ht) (C := R_K) (T := F_K) (N := 8) hx hb hts iw_K hown hK hP 0 rfl rfl 4 (by decide) (hts _ tw_46) (fun _ h9 => h9) rfl d_K_below_114 ?_
                refine xci (wc := [(ht, .inr (0, [.int (nI d), .ref hc, .ref hf, .ref hp, .ref ho])), (hc, LA cJ 16 Ca), (hf, LA cJ 16 Fa), (hp, LA cJ 16 Pa), (ho, LA cJ 5 Oa)]) (wr := [(h, .inr (1, [.int (nI d), .int kb, .ref fo, .ref ke, .ref ht, .ref wo, .ref fi, .ref se])), (fo, LA cJ 16 Fm), (wo, LA cJ 16 W3)]) hP hD hS hA [3, 4, 5, 6, 7] [0, 1, 2] rfl rfl (by decide) (by decide) (va_runV (As := []) (rest := []) ⟨hx, hb, hml, hown, hts⟩ (c_below l D cJ ht hc hf hp ho d Ca Fa Pa Oa (by first | assumption | omega) (by first | assumption | omega) (ld_lB hd2 (by omega) hBW hT) H.size) (cwV 0 hts (gV tw_122 tw_123 tw_124 tw_2 tw_125) rfl rfl rfl ⟨rfl, hd_T_countBelow⟩ ⟨Nat.le_of_ble_eq_true rfl, Nat.le_of_ble_eq_true rfl⟩) (xPreV (C := R_T) (T := F_T) (N := 5) (q0 := 0) hN hK (hP.sub (ws' := [(ht, .inr (0, [.int (nI d), .ref hc, .ref hf, .ref hp, .ref ho])), (hc, LA cJ 16 Ca), (hf, LA cJ 16 Fa), (hp, LA cJ 16 Pa), (ho, LA cJ 5 Oa)]) [3, 4, 5, 6, 7] rfl) (hD.sub (ws' := [(ht, .inr (0, [.int (nI d), .ref hc, .ref hf, .ref hp, .ref ho])), (hc, LA cJ 16 Ca), (hf, LA cJ 16 Fa), (hp, LA cJ 16 Pa), (ho, LA cJ 5 Oa)]) [3, 4, 5, 6, 7] (by decide) rfl) rfl rfl) rfl rfl hl.1 rfl (lv_room (Nat.le_of_ble_eq_true rfl)) d_K_below_117 ⟨Nat.le_of_ble_eq_true rfl, Nat.le_of_ble_eq_true rfl⟩) (fun r_10 u_11 H locs hw_12 hP hD hS => ?_)
                try dsimp only at hw_12
                have hP : va_P D vwC [(h, .inr (1, [.int (nI d), .int kb, .ref fo, .ref ke, .ref ht, .ref wo, .ref fi, .ref se])), (fo, LA cJ 16 Fm), (wo, LA cJ 16 W3), (ht, .inr (0, [.int (nI d), .ref hc, .ref hf, .ref hp, .ref ho])), (hc, LA cJ 16 Ca), (hf, LA cJ 16 Fa), (hp, LA cJ 16 Pa), (ho, LA cJ 5 Oa)] H := hP
                have hD : va_D A [(h, .inr (1, [.int (nI d), .int kb, .ref fo, .ref ke, .ref ht, .ref wo, .ref fi, .ref se])), (fo, LA cJ 16 Fm), (wo, LA cJ 16 W3), (ht, .inr (0, [.int (nI d), .ref hc, .ref hf, .ref hp, .ref ho])), (hc, LA cJ 16 Ca), (hf, LA cJ 16 Fa), (hp, LA cJ 16 Pa), (ho, LA cJ 5 Oa)] := hD
                subst hw_12
                exact hret H locs _ ls (nI (d - zerN Oa d d - chgA Oa d 1)) (W3, nI d, Ca, Fa, Pa, Oa) d_K_below_120 (by unfold s_below; rw [if_neg (show ¬ ((vu.toInt < -2000 ∨ 2000 < vu.toInt) ∨ vd.toInt < 1 ∨ 100 < vd.toInt) from by omega), ld_dw hT, dwN_congr hd2 (by omega) (prt_congr (by omega) hsh)]) hP hD hS
              · skip
                refine lv_iconst (v := nI 1) hx hb d_K_below_35 (by decide) ?_
                refine lv_istore (lv' := [(4, .int (nI 1)), (0, .ref h), (1, .int vu), (2, .int vd), (3, .int (nI (i + 1)))]) hx hb d_K_below_36 hl (by decide) rfl (fun ls hl => ?_)
                have lp_38 : ∀ (n_38 : Nat) (j : Nat) (W4 : Nat → Int) (H : Heap) (locs : List Loc) (ls : Array Slot), (j ≤ d) → (∀ a b, (a < i ∧ b < d) ∨ (a = i ∧ b < j) → W4 (4 * (a + 1) + (b + 1)) = vd.toInt * Fm (4 * (a + 1) + (b + 1)) - (if a = b then vu.toInt else 0)) → (d - j) < n_38 → va_P D vwC [(h, .inr (1, [.int (nI d), .int kb, .ref fo, .ref ke, .ref ht, .ref wo, .ref fi, .ref se])), (fo, LA cJ 16 Fm), (wo, LA cJ 16 W4), (ht, .inr (0, [.int r0, .ref hc, .ref hf, .ref hp, .ref ho])), (hc, LA cJ 16 C), (hf, LA cJ 16 F), (hp, LA cJ 16 P), (ho, LA cJ 5 O)] H → va_D A [(h, .inr (1, [.int (nI d), .int kb, .ref fo, .ref ke, .ref ht, .ref wo, .ref fi, .ref se])), (fo, LA cJ 16 Fm), (wo, LA cJ 16 W4), (ht, .inr (0, [.int r0, .ref hc, .ref hf, .ref hp, .ref ho])), (hc, LA cJ 16 C), (hf, LA cJ 16 F), (hp, LA cJ 16 P), (ho, LA cJ 5 O)] → va_S A s.heap H locs → lv_has ls 5 [(0, .ref h), (1, .int vu), (2, .int vd), (3, .int (nI (i + 1))), (4, .int (nI (j + 1)))] → W p l e rm_k_below s m args below meth c H locs 0 0 Q (F0 m 38 ls []) := by
                  intro n_38
                  induction n_38 with
                  | zero => intro j W4 H locs ls hj h2 hn_38; exact absurd hn_38 (Nat.not_lt_zero _)
                  | succ n_38 ih_38 =>
                    intro j W4 H locs ls hj h2 hn_38 hP hD hS hl
                    refine lv_iload hx hb d_K_below_38 (lv_at hl 4 rfl) ?_
                    refine lv_aload_n hx hb d_K_below_40 rfl (lv_at hl 0 rfl) ?_
                    refine va_get (D := D) (ci := 1) (v := .int (nI d)) (C := R_K) (T := F_K) (N := 8) hx hb hts iw_K hown hK hP 0 rfl rfl 0 (by decide) (hts _ tw_42) (fun _ h9 => h9) rfl d_K_below_41 ?_
                    refine xn_gt (tgt := 91) hx hb (by omega) (by omega) d_K_below_44 (by decide) (fun c44_12 => ?_) (fun c44_12 => ?_)
                    · skip
                      refine lv_iinc (v := nI ((i + 1) + 1)) (lv' := [(3, .int (nI ((i + 1) + 1))), (0, .ref h), (1, .int vu), (2, .int vd), (4, .int (nI (j + 1)))]) hx hb d_K_below_91 hl (k := 3) rfl (nI_add _ _) (by decide) rfl (fun ls hl => ?_)
                      refine lv_goto (tgt := 27) hx hb d_K_below_94 (by decide) ?_
                      exact ih_27 (i + 1) W4 H locs ls (by omega) (fun a b ha hb => h2 a b (by omega)) (by omega) hP hD hS (lv_sub hl [1, 2, 3, 0] rfl)
                    · skip
                      refine lv_aload_n hx hb d_K_below_47 rfl (lv_at hl 0 rfl) ?_
                      refine va_get (D := D) (ci := 1) (v := .ref wo) (C := R_K) (T := F_K) (N := 8) hx hb hts iw_K hown hK hP 0 rfl rfl 5 (by decide) (hts _ tw_47) (fun _ h9 => h9) rfl d_K_below_48 ?_
                      refine lv_iload_n hx hb d_K_below_51 rfl (lv_at hl 3 rfl) ?_
                      refine lv_iload hx hb d_K_below_52 (lv_at hl 4 rfl) ?_
                      refine xci (wc := []) (wr := [(h, .inr (1, [.int (nI d), .int kb, .ref fo, .ref ke, .ref ht, .ref wo, .ref fi, .ref se])), (fo, LA cJ 16 Fm), (wo, LA cJ 16 W4), (ht, .inr (0, [.int r0, .ref hc, .ref hf, .ref hp, .ref ho])), (hc, LA cJ 16 C), (hf, LA cJ 16 F), (hp, LA cJ 16 P), (ho, LA cJ 5 O)]) hP hD hS hA [] [0, 1, 2, 3, 4, 5, 6, 7] rfl rfl (by decide) (by decide) (va_runS (As := [.int (nI (i + 1)), .int (nI (j + 1))]) (rest := [.ref wo]) ⟨hx, hb, hml, hown, hts⟩ (c_place l D cJ (i + 1) (j + 1) H.size) (cwS 2 hts (gS tw_86 tw_87 tw_1 tw_88) rfl rfl rfl ⟨rfl, hd_K_place⟩ ⟨Nat.le_of_ble_eq_true rfl, Nat.le_of_ble_eq_true rfl⟩) (xPreS hN hK (hP.sub (ws' := []) [] rfl) (hD.sub (ws' := []) [] (by decide) rfl)) rfl rfl hl.1 rfl (lv_room (Nat.le_of_ble_eq_true rfl)) d_K_below_54 ⟨Nat.le_of_ble_eq_true rfl, Nat.le_of_ble_eq_true rfl⟩) (fun r_14 u_15 H locs hw_16 hP hD hS => ?_)
                      try dsimp only at hw_16
                      have hP : va_P D vwC [(h, .inr (1, [.int (nI d), .int kb, .ref fo, .ref ke, .ref ht, .ref wo, .ref fi, .ref se])), (fo, LA cJ 16 Fm), (wo, LA cJ 16 W4), (ht, .inr (0, [.int r0, .ref hc, .ref hf, .ref hp, .ref ho])), (hc, LA cJ 16 C), (hf, LA cJ 16 F), (hp, LA cJ 16 P), (ho, LA cJ 5 O)] H := hP
                      have hD : va_D A [(h, .inr (1, [.int (nI d), .int kb, .ref fo, .ref ke, .ref ht, .ref wo, .ref fi, .ref se])), (fo, LA cJ 16 Fm), (wo, LA cJ 16 W4), (ht, .inr (0, [.int r0, .ref hc, .ref hf, .ref hp, .ref ho])), (hc, LA cJ 16 C), (hf, LA cJ 16 F), (hp, LA cJ 16 P), (ho, LA cJ 5 O)] := hD
                      subst hw_16
                      refine lv_iload_n hx hb d_K_below_57 rfl (lv_at hl 2 rfl) ?_
                      refine lv_i2l (v := lI vd.toInt) hx hb d_K_below_58 rfl ?_
                      refine lv_aload_n hx hb d_K_below_59 rfl (lv_at hl 0 rfl) ?_
                      refine va_get (D := D) (ci := 1) (v := .ref fo) (C := R_K) (T := F_K) (N := 8) hx hb hts iw_K hown hK hP 0 rfl rfl 2 (by decide) (hts _ tw_44) (fun _ h9 => h9) rfl d_K_below_60 ?_
                      refine lv_iload_n hx hb d_K_below_63 rfl (lv_at hl 3 rfl) ?_
                      refine lv_iload hx hb d_K_below_64 (lv_at hl 4 rfl) ?_
                      refine xci (wc := []) (wr := [(h, .inr (1, [.int (nI d), .int kb, .ref fo, .ref ke, .ref ht, .ref wo, .ref fi, .ref se])), (fo, LA cJ 16 Fm), (wo, LA cJ 16 W4), (ht, .inr (0, [.int r0, .ref hc, .ref hf, .ref hp, .ref ho])), (hc, LA cJ 16 C), (hf, LA cJ 16 F), (hp, LA cJ 16 P), (ho, LA cJ 5 O)]) hP hD hS hA [] [0, 1, 2, 3, 4, 5, 6, 7] rfl rfl (by decide) (by decide) (va_runS (As := [.int (nI (i + 1)), .int (nI (j + 1))]) (rest := [.ref fo, .long (lI vd.toInt), .int (nI (4 * (i + 1) + (j + 1))), .ref wo]) ⟨hx, hb, hml, hown, hts⟩ (c_place l D cJ (i + 1) (j + 1) H.size) (cwS 2 hts (gS tw_86 tw_87 tw_1 tw_88) rfl rfl rfl ⟨rfl, hd_K_place⟩ ⟨Nat.le_of_ble_eq_true rfl, Nat.le_of_ble_eq_true rfl⟩) (xPreS hN hK (hP.sub (ws' := []) [] rfl) (hD.sub (ws' := []) [] (by decide) rfl)) rfl rfl hl.1 rfl (lv_room (Nat.le_of_ble_eq_true rfl)) d_K_below_66 ⟨Nat.le_of_ble_eq_true rfl, Nat.le_of_ble_eq_true rfl⟩) (fun r_17 u_18 H locs hw_19 hP hD hS => ?_)
                      try dsimp only at hw_19
                      have hP : va_P D vwC [(h, .inr (1, [.int (nI d), .int kb, .ref fo, .ref ke, .ref ht, .ref wo, .ref fi, .ref se])), (fo, LA cJ 16 Fm), (wo, LA cJ 16 W4), (ht, .inr (0, [.int r0, .ref hc, .ref hf, .ref hp, .ref ho])), (hc, LA cJ 16 C), (hf, LA cJ 16 F), (hp, LA cJ 16 P), (ho, LA cJ 5 O)] H := hP
                      have hD : va_D A [(h, .inr (1, [.int (nI d), .int kb, .ref fo, .ref ke, .ref ht, .ref wo, .ref fi, .ref se])), (fo, LA cJ 16 Fm), (wo, LA cJ 16 W4), (ht, .inr (0, [.int r0, .ref hc, .ref hf, .ref hp, .ref ho])), (hc, LA cJ 16 C), (hf, LA cJ 16 F), (hp, LA cJ 16 P), (ho, LA cJ 5 O)] := hD
                      subst hw_19
                      refine xl_ald hx hb hK hP 1 0 rfl rfl (k := 4 * (i + 1) + (j + 1)) (by omega) (by first | decide | omega) d_K_below_69 ?_
                      refine xl_mul hx hb d_K_below_70 ?_
                      refine lv_iload_n hx hb d_K_below_71 rfl (lv_at hl 3 rfl) ?_
                      refine lv_iload hx hb d_K_below_72 (lv_at hl 4 rfl) ?_
                      refine xn_ne (tgt := 81) hx hb (by omega) (by omega) d_K_below_74 (by decide) (fun c74_19 => ?_) (fun c74_19 => ?_)
                      · skip
                        refine lv_iconst (v := nI 0) hx hb d_K_below_81 (by decide) ?_
                        refine xn_i2l hx hb (by omega) d_K_below_82 ?_
                        refine xl_sub hx hb d_K_below_83 ?_
                        refine xl_ast hx hb hK hP hD hS 2 0 rfl rfl (k := 4 * (i + 1) + (j + 1)) (by omega) (by first | decide | omega) d_K_below_84 (fun H locs hP hD hS => ?_)
                        have hP : va_P D vwC [(h, .inr (1, [.int (nI d), .int kb, .ref fo, .ref ke, .ref ht, .ref wo, .ref fi, .ref se])), (fo, LA cJ 16 Fm), (wo, LA cJ 16 (upZ W4 (4 * (i + 1) + (j + 1)) ((vd.toInt * (Fm (4 * (i + 1) + (j + 1)))) - ((0 : Nat) : Int)))), (ht, .inr (0, [.int r0, .ref hc, .ref hf, .ref hp, .ref ho])), (hc, LA cJ 16 C), (hf, LA cJ 16 F), (hp, LA cJ 16 P), (ho, LA cJ 5 O)] H := hP
                        have hD : va_D A [(h, .inr (1, [.int (nI d), .int kb, .ref fo, .ref ke, .ref ht, .ref wo, .ref fi, .ref se])), (fo, LA cJ 16 Fm), (wo, LA cJ 16 (upZ W4 (4 * (i + 1) + (j + 1)) ((vd.toInt * (Fm (4 * (i + 1) + (j + 1)))) - ((0 : Nat) : Int)))), (ht, .inr (0, [.int r0, .ref hc, .ref hf, .ref hp, .ref ho])), (hc, LA cJ 16 C), (hf, LA cJ 16 F), (hp, LA cJ 16 P), (ho, LA cJ 5 O)] := hD
                        refine lv_iinc (v := nI ((j + 1) + 1)) (lv' := [(4, .int (nI ((j + 1) + 1))), (0, .ref h), (1, .int vu), (2, .int vd), (3, .int (nI (i + 1)))]) hx hb d_K_below_85 hl (k := 4) rfl (nI_add _ _) (by decide) rfl (fun ls hl => ?_)
                        refine lv_goto (tgt := 38) hx hb d_K_below_88 (by decide) ?_
                        exact ih_38 (j + 1) (upZ W4 (4 * (i + 1) + (j + 1)) ((vd.toInt * (Fm (4 * (i + 1) + (j + 1)))) - ((0 : Nat) : Int))) H locs ls (by omega) (fun a b h => by by_cases q : a = i ∧ b = j; obtain ⟨rfl, rfl⟩ := q; rw [upZ_at, if_neg (show ¬ a = b from by omega)]; rfl; rw [upZ_ne (k := 4 * (i + 1) + (j + 1)) (j := 4 * (a + 1) + (b + 1)) _ _ (by omega)]; exact h2 a b (by omega)) (by omega) hP hD hS (lv_sub hl [1, 2, 3, 4, 0] rfl)
                      · skip
                        refine lv_iload_n hx hb d_K_below_77 rfl (lv_at hl 1 rfl) ?_
                        refine lv_goto (tgt := 82) hx hb d_K_below_78 (by decide) ?_
                        refine lv_i2l (v := lI vu.toInt) hx hb d_K_below_82 rfl ?_
                        refine xl_sub hx hb d_K_below_83 ?_
                        refine xl_ast hx hb hK hP hD hS 2 0 rfl rfl (k := 4 * (i + 1) + (j + 1)) (by omega) (by first | decide | omega) d_K_below_84 (fun H locs hP hD hS => ?_)
                        have hP : va_P D vwC [(h, .inr (1, [.int (nI d), .int kb, .ref fo, .ref ke, .ref ht, .ref wo, .ref fi, .ref se])), (fo, LA cJ 16 Fm), (wo, LA cJ 16 (upZ W4 (4 * (i + 1) + (j + 1)) ((vd.toInt * (Fm (4 * (i + 1) + (j + 1)))) - vu.toInt))), (ht, .inr (0, [.int r0, .ref hc, .ref hf, .ref hp, .ref ho])), (hc, LA cJ 16 C), (hf, LA cJ 16 F), (hp, LA cJ 16 P), (ho, LA cJ 5 O)] H := hP
                        have hD : va_D A [(h, .inr (1, [.int (nI d), .int kb, .ref fo, .ref ke, .ref ht, .ref wo, .ref fi, .ref se])), (fo, LA cJ 16 Fm), (wo, LA cJ 16 (upZ W4 (4 * (i + 1) + (j + 1)) ((vd.toInt * (Fm (4 * (i + 1) + (j + 1)))) - vu.toInt))), (ht, .inr (0, [.int r0, .ref hc, .ref hf, .ref hp, .ref ho])), (hc, LA cJ 16 C), (hf, LA cJ 16 F), (hp, LA cJ 16 P), (ho, LA cJ 5 O)] := hD
                        refine lv_iinc (v := nI ((j + 1) + 1)) (lv' := [(4, .int (nI ((j + 1) + 1))), (0, .ref h), (1, .int vu), (2, .int vd), (3, .int (nI (i + 1)))]) hx hb d_K_below_85 hl (k := 4) rfl (nI_add _ _) (by decide) rfl (fun ls hl => ?_)
                        refine lv_goto (tgt := 38) hx hb d_K_below_88 (by decide) ?_
                        exact ih_38 (j + 1) (upZ W4 (4 * (i + 1) + (j + 1)) ((vd.toInt * (Fm (4 * (i + 1) + (j + 1)))) - vu.toInt)) H locs ls (by omega) (fun a b h => by by_cases q : a = i ∧ b = j; obtain ⟨rfl, rfl⟩ := q; rw [upZ_at, if_pos (show a = b from by omega)]; rw [upZ_ne (k := 4 * (i + 1) + (j + 1)) (j := 4 * (a + 1) + (b + 1)) _ _ (by omega)]; exact h2 a b (by omega)) (by omega) hP hD hS (lv_sub hl [1, 2, 3, 4, 0] rfl)
                exact lp_38 ((d - 0) + 1) 0 W3 H locs ls (Nat.zero_le _) (fun a b h => h1 a b (by omega) (by omega)) (by omega) hP hD hS (lv_sub hl [1, 2, 3, 4, 0] rfl)
          exact lp_27 ((d - 0) + 1) 0 Wk H locs ls (Nat.zero_le _) (fun a b h => absurd h (Nat.not_lt_zero _)) (by omega) hP hD hS (lv_sub hl [1, 2, 3, 0] rfl)
        · skip
          refine lv_bipush (v := (-2)) hx hb d_K_below_22 (by decide) ?_
          exact hret H locs _ ls (-2) (Wk, r0, C, F, P, O) d_K_below_24 (by unfold s_below; rw [if_pos (show (vu.toInt < -2000 ∨ 2000 < vu.toInt) ∨ vd.toInt < 1 ∨ 100 < vd.toInt from by omega)]) hP hD hS
  rw [hH, hlc] at key; exact key

def rm_k_unlike : Room := { frames := 4, cells := 0, slots := 0, locals := 107 }
set_option maxHeartbeats 4000000 in
set_option maxRecDepth 100000 in
/-- unlike -/
theorem k_unlike (l : Launch) (D : va_G) (cJ : ClassId) (h : Nat) (d : Nat) (kb : Int32) (fo : Nat) (ke : Nat) (ht : Nat) (wo : Nat) (fi : Nat) (se : Nat) (Fm : Nat → Int) (hc : Nat) (hf : Nat) (hp : Nat) (ho : Nat) (r0 : Int32) (C : Nat → Int) (F : Nat → Int) (P : Nat → Int) (O : Nat → Int) (hd2 : 2 ≤ d) (hd3 : d ≤ 3) (hF : ∀ k, k < 16 → inB (Fm k) 20) (sz : Nat) : xMi l y_K_unlike (Cond.code y_K_unlike b_K_unlike 1 (some .int) :: tW) rm_k_unlike [.ref h] D vwC [(cJ, .long)] sz [(h, .inr (1, [.int (nI d), .int kb, .ref fo, .ref ke, .ref ht, .ref wo, .ref fi, .ref se])), (fo, LA cJ 16 Fm), (ht, .inr (0, [.int r0, .ref hc, .ref hf, .ref hp, .ref ho])), (hc, LA cJ 16 C), (hf, LA cJ 16 F), (hp, LA cJ 16 P), (ho, LA cJ 5 O)] (fun (rv : Int32) (uo : Int32 × (Nat → Int) × (Nat → Int) × (Nat → Int) × (Nat → Int)) => rv = nI (s_unl Fm d)) (fun (uo : Int32 × (Nat → Int) × (Nat → Int) × (Nat → Int) × (Nat → Int)) => [(h, .inr (1, [.int (nI d), .int kb, .ref fo, .ref ke, .ref ht, .ref wo, .ref fi, .ref se])), (fo, LA cJ 16 Fm), (ht, .inr (0, [.int uo.1, .ref hc, .ref hf, .ref hp, .ref ho])), (hc, LA cJ 16 uo.2.1), (hf, LA cJ 16 uo.2.2.1), (hp, LA cJ 16 uo.2.2.2.1), (ho, LA cJ 5 uo.2.2.2.2)]) 0 0 := by
  refine xoi (cc := b_K_unlike) (maxL := 1) (by decide) rfl (Nat.le_of_ble_eq_true rfl) ?_
  intro p e s m args below meth c Q A hx hb hml hts hown hN hA hS hP hK hD hret ls hl
  have hl : lv_has ls 1 [(0, .ref h)] := hl
  obtain ⟨H, hH⟩ : ∃ z, z = s.heap := ⟨_, rfl⟩
  obtain ⟨locs, hlc⟩ : ∃ z : List Loc, z = [] := ⟨_, rfl⟩
  rw [← hH] at hP
  have hS : va_S A s.heap H locs := by rw [hH, hlc]; exact hS
  have key : W p l e rm_k_unlike s m args below meth c H locs 0 0 Q (F0 m 0 ls []) := by
    refine lv_aload_n hx hb d_K_unlike_0 rfl (lv_at hl 0 rfl) ?_
    refine va_get (D := D) (ci := 1) (v := .ref ht) (C := R_K) (T := F_K) (N := 8) hx hb hts iw_K hown hK hP 0 rfl rfl 4 (by decide) (hts _ tw_46) (fun _ h9 => h9) rfl d_K_unlike_1 ?_
    refine lv_aload_n hx hb d_K_unlike_4 rfl (lv_at hl 0 rfl) ?_
    refine va_get (D := D) (ci := 1) (v := .ref fo) (C := R_K) (T := F_K) (N := 8) hx hb hts iw_K hown hK hP 0 rfl rfl 2 (by decide) (hts _ tw_44) (fun _ h9 => h9) rfl d_K_unlike_5 ?_
    refine lv_iconst (v := nI 1) hx hb d_K_unlike_8 (by decide) ?_
    refine lv_aload_n hx hb d_K_unlike_9 rfl (lv_at hl 0 rfl) ?_
    refine va_get (D := D) (ci := 1) (v := .int (nI d)) (C := R_K) (T := F_K) (N := 8) hx hb hts iw_K hown hK hP 0 rfl rfl 0 (by decide) (hts _ tw_42) (fun _ h9 => h9) rfl d_K_unlike_10 ?_
    refine xcv (wc := [(ht, .inr (0, [.int r0, .ref hc, .ref hf, .ref hp, .ref ho])), (hc, LA cJ 16 C), (hf, LA cJ 16 F), (hp, LA cJ 16 P), (ho, LA cJ 5 O), (fo, LA cJ 16 Fm)]) (wr := [(h, .inr (1, [.int (nI d), .int kb, .ref fo, .ref ke, .ref ht, .ref wo, .ref fi, .ref se]))]) hP hD hS hA [2, 3, 4, 5, 6, 1] [0] rfl rfl (by decide) (by decide) (va_runV (As := [.ref fo, .int (nI 1), .int (nI d)]) (rest := []) ⟨hx, hb, hml, hown, hts⟩ (c_load l D cJ ht hc hf hp ho fo 1 d d r0 C F P O Fm (by first | assumption | omega) (by first | assumption | omega) (by first | assumption | omega) (ld_q (by omega) (by omega) (enB_20 hF (by omega))) H.size) (cwV 3 hts (gV tw_97 tw_98 tw_99 tw_2 tw_100) rfl rfl rfl ⟨rfl, hd_T_load⟩ ⟨Nat.le_of_ble_eq_true rfl, Nat.le_of_ble_eq_true rfl⟩) (xPreV (C := R_T) (T := F_T) (N := 5) (q0 := 0) hN hK (hP.sub (ws' := [(ht, .inr (0, [.int r0, .ref hc, .ref hf, .ref hp, .ref ho])), (hc, LA cJ 16 C), (hf, LA cJ 16 F), (hp, LA cJ 16 P), (ho, LA cJ 5 O), (fo, LA cJ 16 Fm)]) [2, 3, 4, 5, 6, 1] rfl) (hD.sub (ws' := [(ht, .inr (0, [.int r0, .ref hc, .ref hf, .ref hp, .ref ho])), (hc, LA cJ 16 C), (hf, LA cJ 16 F), (hp, LA cJ 16 P), (ho, LA cJ 5 O), (fo, LA cJ 16 Fm)]) [2, 3, 4, 5, 6, 1] (by decide) rfl) rfl rfl) rfl rfl hl.1 rfl (lv_room (Nat.le_of_ble_eq_true rfl)) d_K_unlike_13 ⟨Nat.le_of_ble_eq_true rfl, Nat.le_of_ble_eq_true rfl⟩) (fun u_2 H locs hw1 hP hD hS => ?_)
    obtain ⟨Ca, Fa, Pa, Oa⟩ := u_2
    try dsimp only at hw1
    have hP : va_P D vwC [(h, .inr (1, [.int (nI d), .int kb, .ref fo, .ref ke, .ref ht, .ref wo, .ref fi, .ref se])), (fo, LA cJ 16 Fm), (ht, .inr (0, [.int (nI d), .ref hc, .ref hf, .ref hp, .ref ho])), (hc, LA cJ 16 Ca), (hf, LA cJ 16 Fa), (hp, LA cJ 16 Pa), (ho, LA cJ 5 Oa)] H := hP.sub [0, 6, 1, 2, 3, 4, 5] rfl
    have hD : va_D A [(h, .inr (1, [.int (nI d), .int kb, .ref fo, .ref ke, .ref ht, .ref wo, .ref fi, .ref se])), (fo, LA cJ 16 Fm), (ht, .inr (0, [.int (nI d), .ref hc, .ref hf, .ref hp, .ref ho])), (hc, LA cJ 16 Ca), (hf, LA cJ 16 Fa), (hp, LA cJ 16 Pa), (ho, LA cJ 5 Oa)] := hD.sub [0, 6, 1, 2, 3, 4, 5] (by decide) rfl
    have hT := ld_ok (f := 1) (r := d) hd2 (by omega) hw1
    obtain ⟨hb1, hb2, hb3⟩ := e1_B20 hd2 hd3 (enB_f hF (f := 1) (r := d) (by omega))
    have ht1 := ld_tr (by omega) hT
    have ht2 := ld_pa hd2 hT
    have hb3n : inB (-(Oa 0)) 48000 := by rw [hT.1 0 (Nat.zero_le _), cO_0]; unfold eT; split; exact negB hb3; exact negB (negB hb3)
    refine lv_aload_n hx hb d_K_unlike_16 rfl (lv_at hl 0 rfl) ?_
    refine va_get (D := D) (ci := 1) (v := .ref ht) (C := R_K) (T := F_K) (N := 8) hx hb hts iw_K hown hK hP 0 rfl rfl 4 (by decide) (hts _ tw_46) (fun _ h9 => h9) rfl d_K_unlike_17 ?_
    refine xci (wc := [(ht, .inr (0, [.int (nI d), .ref hc, .ref hf, .ref hp, .ref ho])), (hc, LA cJ 16 Ca), (hf, LA cJ 16 Fa), (hp, LA cJ 16 Pa), (ho, LA cJ 5 Oa)]) (wr := [(h, .inr (1, [.int (nI d), .int kb, .ref fo, .ref ke, .ref ht, .ref wo, .ref fi, .ref se])), (fo, LA cJ 16 Fm)]) hP hD hS hA [2, 3, 4, 5, 6] [0, 1] rfl rfl (by decide) (by decide) (va_runV (As := []) (rest := []) ⟨hx, hb, hml, hown, hts⟩ (c_unlike l D cJ ht hc hf hp ho d Ca Fa Pa Oa (by first | assumption | omega) (by first | assumption | omega) (by rw [ht1]; exact lB_of (mulB hb1 hb1) (by decide)) (by rw [ht2]; exact lB_of (mulB (a := 4) (A := 4) ⟨by decide, by decide⟩ hb2) (by decide)) (by rw [ht2]; exact lB_of (mulB (a := 3) (A := 3) ⟨by decide, by decide⟩ hb2) (by decide)) (by rw [ht1, ht2]; exact disc_B hb1 hb2 hb3n) H.size) (cwV 0 hts (gV tw_193 tw_194 tw_195 tw_2 tw_196) rfl rfl rfl ⟨rfl, hd_T_countUnlike⟩ ⟨Nat.le_of_ble_eq_true rfl, Nat.le_of_ble_eq_true rfl⟩) (xPreV (C := R_T) (T := F_T) (N := 5) (q0 := 0) hN hK (hP.sub (ws' := [(ht, .inr (0, [.int (nI d), .ref hc, .ref hf, .ref hp, .ref ho])), (hc, LA cJ 16 Ca), (hf, LA cJ 16 Fa), (hp, LA cJ 16 Pa), (ho, LA cJ 5 Oa)]) [2, 3, 4, 5, 6] rfl) (hD.sub (ws' := [(ht, .inr (0, [.int (nI d), .ref hc, .ref hf, .ref hp, .ref ho])), (hc, LA cJ 16 Ca), (hf, LA cJ 16 Fa), (hp, LA cJ 16 Pa), (ho, LA cJ 5 Oa)]) [2, 3, 4, 5, 6] (by decide) rfl) rfl rfl) rfl rfl hl.1 rfl (lv_room (Nat.le_of_ble_eq_true rfl)) d_K_unlike_20 ⟨Nat.le_of_ble_eq_true rfl, Nat.le_of_ble_eq_true rfl⟩) (fun r_3 u_4 H locs hw_5 hP hD hS => ?_)
    try dsimp only at hw_5
    have hP : va_P D vwC [(h, .inr (1, [.int (nI d), .int kb, .ref fo, .ref ke, .ref ht, .ref wo, .ref fi, .ref se])), (fo, LA cJ 16 Fm), (ht, .inr (0, [.int (nI d), .ref hc, .ref hf, .ref hp, .ref ho])), (hc, LA cJ 16 Ca), (hf, LA cJ 16 Fa), (hp, LA cJ 16 Pa), (ho, LA cJ 5 Oa)] H := hP
    have hD : va_D A [(h, .inr (1, [.int (nI d), .int kb, .ref fo, .ref ke, .ref ht, .ref wo, .ref fi, .ref se])), (fo, LA cJ 16 Fm), (ht, .inr (0, [.int (nI d), .ref hc, .ref hf, .ref hp, .ref ho])), (hc, LA cJ 16 Ca), (hf, LA cJ 16 Fa), (hp, LA cJ 16 Pa), (ho, LA cJ 5 Oa)] := hD
    subst hw_5
    exact hret H locs _ ls (nI (unlZ d (-(Oa (d - 1))) (Oa (d - 2)) (-(Oa 0)))) (nI d, Ca, Fa, Pa, Oa) d_K_unlike_23 (by unfold s_unl; rw [ht1, ht2, hT.1 0 (Nat.zero_le _)]) hP hD hS
  rw [hH, hlc] at key; exact key
