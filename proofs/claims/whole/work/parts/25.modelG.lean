/-! contracts of ConicKindsModel: keep, alike (wip/spec_model7.py, modelG) -/
def upto (Fm Kp : Nat → Int) (i : Nat) : Prop := ∀ a b, b < a → a < i → Fm a * Kp b = Fm b * Kp a
theorem alk_full {Fm Kp : Nat → Int} (h : upto Fm Kp 16) (e : (∃ k, k < 16 ∧ Fm k ≠ 0) ↔ ∃ k, k < 16 ∧ Kp k ≠ 0) : alkP Fm Kp := by
  refine ⟨fun i j hi hj => ?_, e⟩
  rcases Nat.lt_trichotomy i j with q | q | q
  · have := h j i q hj; rw [Int.mul_comm (Kp i), this]
  · subst q; exact Int.mul_comm _ _
  · have := h i j q hi; rw [this, Int.mul_comm]
theorem alk_upto {Fm Kp : Nat → Int} (h : alkP Fm Kp) : upto Fm Kp 16 := fun a b hb ha => by
  rw [h.1 a b ha (by omega), Int.mul_comm]
/-- the values of A are all alike as the reference sees it -/
def sameP (Fm : Nat → Int) (d : Nat) : Prop := ∀ i j, 1 ≤ i → i ≤ d → 1 ≤ j → j ≤ d → Fm (4 * i + j) = if i = j then Fm 5 else 0
noncomputable def s_unM (Fm : Nat → Int) (d : Nat) : Nat := @ite Nat (sameP Fm d) (Classical.propDecidable _) 1 (if d = 2 then 2 else if discZ (eS (prt Fm 1) d 1) (eS (prt Fm 1) d 2) (eS (prt Fm 1) d 3) = 0 then 2 else 3)
theorem s_unM_t {Fm : Nat → Int} {d : Nat} (h : sameP Fm d) : s_unM Fm d = 1 := @if_pos _ (Classical.propDecidable _) h _ _ _
theorem s_unM_f {Fm : Nat → Int} {d : Nat} (h : ¬ sameP Fm d) : s_unM Fm d = (if d = 2 then 2 else if discZ (eS (prt Fm 1) d 1) (eS (prt Fm 1) d 2) (eS (prt Fm 1) d 3) = 0 then 2 else 3) := @if_neg _ (Classical.propDecidable _) h _ _ _
theorem disc_eq (a b c : Int) : 18 * -a * b * -c - 4 * -a * -a * -a * -c + -a * -a * b * b - 4 * b * b * b - 27 * -c * -c = discZ a b c := by
  unfold discZ; grind

def rm_r_keep : Room := { frames := 7, cells := 0, slots := 0, locals := 172 }
set_option maxHeartbeats 4000000 in
set_option maxRecDepth 100000 in
/-- keep -/
theorem r_keep (l : Launch) (D : va_G) (cJ cI : ClassId) (g : Nat) (cd : Int32) (d : Nat) (ik : Int32) (rw : Int32) (ab : Int32) (be : Int32) (a0 : Int32) (a1 : Int32) (b0 : Int32) (b1 : Int32) (lm : Int32) (mm : Nat) (kf : Nat) (tb : Nat) (wk : Nat) (pl : Nat) (sp : Nat) (po : Nat) (to : Nat) (ba : Nat) (li : Nat) (Fm : Nat → Int) (Kp : Nat → Int) (T : Nat → Int) (W0 : Nat → Int) (hd2 : 2 ≤ d) (hd3 : d ≤ 3) (hF : ∀ k, k < 16 → inB (Fm k) 20) (sz : Nat) : xMi l y_M_keep (Cond.code y_M_keep b_M_keep 2 (some .int) :: tW) rm_r_keep [.ref g] D vwC [(cJ, .long), (cI, .int)] sz [(g, .inr (2, [.int cd, .int (nI d), .ref mm, .int ik, .ref kf, .ref tb, .int rw, .ref wk, .int ab, .int be, .ref pl, .ref sp, .int a0, .int a1, .int b0, .int b1, .ref po, .ref to, .ref ba, .ref li, .int lm])), (mm, IA cI 16 Fm), (kf, IA cI 16 Kp), (tb, LA cJ 16 T), (wk, LA cJ 20 W0), (pl, IA cI 24 plF), (sp, IA cI 40 spF)] (fun (rv : Int32) (uo : (Nat → Int) × (Nat → Int) × (Nat → Int)) => rv = kndM Fm d ∧ (∀ k, k < 16 → uo.1 k = Fm k)) (fun (uo : (Nat → Int) × (Nat → Int) × (Nat → Int)) => [(g, .inr (2, [.int (nI 0), .int (nI d), .ref mm, .int (nI 1), .ref kf, .ref tb, .int (nI (d + 1)), .ref wk, .int (nI (abN (prt Fm 0) (d + 1))), .int (nI (beN (prt Fm 0) (d + 1))), .ref pl, .ref sp, .int (nI (abN (prt Fm 1) d)), .int (nI (beN (prt Fm 1) d)), .int (nI (abN (prt Fm 0) (d + 1))), .int (nI (beN (prt Fm 0) (d + 1))), .ref po, .ref to, .ref ba, .ref li, .int lm])), (mm, IA cI 16 Fm), (kf, IA cI 16 uo.1), (tb, LA cJ 16 uo.2.1), (wk, LA cJ 20 uo.2.2), (pl, IA cI 24 plF), (sp, IA cI 40 spF)]) 0 0 := by
  refine xoi (cc := b_M_keep) (maxL := 2) (by decide) rfl (Nat.le_of_ble_eq_true rfl) ?_
  intro p e s m args below meth c Q A hx hb hml hts hown hN hA hS hP hK hD hret ls hl
  have hl : lv_has ls 2 [(0, .ref g)] := hl
  obtain ⟨H, hH⟩ : ∃ z, z = s.heap := ⟨_, rfl⟩
  obtain ⟨locs, hlc⟩ : ∃ z : List Loc, z = [] := ⟨_, rfl⟩
  rw [← hH] at hP
  have hS : va_S A s.heap H locs := by rw [hH, hlc]; exact hS
  have key : W p l e rm_r_keep s m args below meth c H locs 0 0 Q (F0 m 0 ls []) := by
    refine lv_aload_n hx hb d_M_keep_0 rfl (lv_at hl 0 rfl) ?_
    refine lv_iconst (v := nI 0) hx hb d_M_keep_1 (by decide) ?_
    refine va_put (D := D) (ci := 2) (v := .int (nI 0)) (ty := .int) (C := R_M) (T := F_M) (N := 21) hx hb hts iw_M ft_M ft_M_ok n_M hown hK hP hD hS 0 rfl rfl 0 (by decide) (hts _ tw_387) (fun _ h9 => h9) rfl (by decide +kernel) rfl rfl (Nat.le_of_ble_eq_true rfl) d_M_keep_2 (fun H locs hP hD hS => ?_)
    have hP : va_P D vwC [(g, .inr (2, [.int (nI 0), .int (nI d), .ref mm, .int ik, .ref kf, .ref tb, .int rw, .ref wk, .int ab, .int be, .ref pl, .ref sp, .int a0, .int a1, .int b0, .int b1, .ref po, .ref to, .ref ba, .ref li, .int lm])), (mm, IA cI 16 Fm), (kf, IA cI 16 Kp), (tb, LA cJ 16 T), (wk, LA cJ 20 W0), (pl, IA cI 24 plF), (sp, IA cI 40 spF)] H := hP
    have hD : va_D A [(g, .inr (2, [.int (nI 0), .int (nI d), .ref mm, .int ik, .ref kf, .ref tb, .int rw, .ref wk, .int ab, .int be, .ref pl, .ref sp, .int a0, .int a1, .int b0, .int b1, .ref po, .ref to, .ref ba, .ref li, .int lm])), (mm, IA cI 16 Fm), (kf, IA cI 16 Kp), (tb, LA cJ 16 T), (wk, LA cJ 20 W0), (pl, IA cI 24 plF), (sp, IA cI 40 spF)] := hD
    refine lv_iconst (v := nI 0) hx hb d_M_keep_5 (by decide) ?_
    refine lv_istore_n (lv' := [(1, .int (nI 0)), (0, .ref g)]) hx hb d_M_keep_6 rfl hl (by decide) rfl (fun ls hl => ?_)
    have lp_7 : ∀ (n_7 : Nat) (t : Nat) (K3 : Nat → Int) (H : Heap) (locs : List Loc) (ls : Array Slot), (t ≤ 16) → (∀ k, k < t → K3 k = Fm k) → (16 - t) < n_7 → va_P D vwC [(g, .inr (2, [.int (nI 0), .int (nI d), .ref mm, .int ik, .ref kf, .ref tb, .int rw, .ref wk, .int ab, .int be, .ref pl, .ref sp, .int a0, .int a1, .int b0, .int b1, .ref po, .ref to, .ref ba, .ref li, .int lm])), (mm, IA cI 16 Fm), (kf, IA cI 16 K3), (tb, LA cJ 16 T), (wk, LA cJ 20 W0), (pl, IA cI 24 plF), (sp, IA cI 40 spF)] H → va_D A [(g, .inr (2, [.int (nI 0), .int (nI d), .ref mm, .int ik, .ref kf, .ref tb, .int rw, .ref wk, .int ab, .int be, .ref pl, .ref sp, .int a0, .int a1, .int b0, .int b1, .ref po, .ref to, .ref ba, .ref li, .int lm])), (mm, IA cI 16 Fm), (kf, IA cI 16 K3), (tb, LA cJ 16 T), (wk, LA cJ 20 W0), (pl, IA cI 24 plF), (sp, IA cI 40 spF)] → va_S A s.heap H locs → lv_has ls 2 [(0, .ref g), (1, .int (nI t))] → W p l e rm_r_keep s m args below meth c H locs 0 0 Q (F0 m 7 ls []) := by
      intro n_7
      induction n_7 with
      | zero => intro t K3 H locs ls ht h1 hn_7; exact absurd hn_7 (Nat.not_lt_zero _)
      | succ n_7 ih_7 =>
        intro t K3 H locs ls ht h1 hn_7 hP hD hS hl
        refine lv_iload_n hx hb d_M_keep_7 rfl (lv_at hl 1 rfl) ?_
        refine lv_bipush (v := nI 16) hx hb d_M_keep_8 (by decide) ?_
        refine xn_ge (tgt := 31) hx hb (by omega) (by omega) d_M_keep_10 (by decide) (fun c10_0 => ?_) (fun c10_0 => ?_)
        · skip
          refine lv_aload_n hx hb d_M_keep_31 rfl (lv_at hl 0 rfl) ?_
          refine lv_iconst (v := nI 1) hx hb d_M_keep_32 (by decide) ?_
          refine va_put (D := D) (ci := 2) (v := .int (nI 1)) (ty := .boolean) (C := R_M) (T := F_M) (N := 21) hx hb hts iw_M ft_M ft_M_ok n_M hown hK hP hD hS 0 rfl rfl 3 (by decide) (hts _ tw_390) (fun _ h9 => h9) rfl (by decide +kernel) rfl rfl (Nat.le_of_ble_eq_true rfl) d_M_keep_33 (fun H locs hP hD hS => ?_)
          have hP : va_P D vwC [(g, .inr (2, [.int (nI 0), .int (nI d), .ref mm, .int (nI 1), .ref kf, .ref tb, .int rw, .ref wk, .int ab, .int be, .ref pl, .ref sp, .int a0, .int a1, .int b0, .int b1, .ref po, .ref to, .ref ba, .ref li, .int lm])), (mm, IA cI 16 Fm), (kf, IA cI 16 K3), (tb, LA cJ 16 T), (wk, LA cJ 20 W0), (pl, IA cI 24 plF), (sp, IA cI 40 spF)] H := hP
          have hD : va_D A [(g, .inr (2, [.int (nI 0), .int (nI d), .ref mm, .int (nI 1), .ref kf, .ref tb, .int rw, .ref wk, .int ab, .int be, .ref pl, .ref sp, .int a0, .int a1, .int b0, .int b1, .ref po, .ref to, .ref ba, .ref li, .int lm])), (mm, IA cI 16 Fm), (kf, IA cI 16 K3), (tb, LA cJ 16 T), (wk, LA cJ 20 W0), (pl, IA cI 24 plF), (sp, IA cI 40 spF)] := hD
          refine lv_aload_n hx hb d_M_keep_36 rfl (lv_at hl 0 rfl) ?_
          refine xci (wc := [(g, .inr (2, [.int (nI 0), .int (nI d), .ref mm, .int (nI 1), .ref kf, .ref tb, .int rw, .ref wk, .int ab, .int be, .ref pl, .ref sp, .int a0, .int a1, .int b0, .int b1, .ref po, .ref to, .ref ba, .ref li, .int lm])), (mm, IA cI 16 Fm), (tb, LA cJ 16 T), (wk, LA cJ 20 W0), (pl, IA cI 24 plF), (sp, IA cI 40 spF)]) (wr := [(kf, IA cI 16 K3)]) hP hD hS hA [0, 1, 3, 4, 5, 6] [2] rfl rfl (by decide) (by decide) (va_runV (As := []) (rest := []) ⟨hx, hb, hml, hown, hts⟩ (r_ownKind l D cJ cI g (nI 0) d (nI 1) rw ab be a0 a1 b0 b1 lm mm kf tb wk pl sp po to ba li Fm T W0 (by first | assumption | omega) (by first | assumption | omega) (by first | assumption | omega) H.size) (cwV 0 hts (gV tw_472 tw_474 tws_17 tw_3 tw_475) rfl rfl rfl ⟨rfl, hd_M_ownKind⟩ ⟨Nat.le_of_ble_eq_true rfl, Nat.le_of_ble_eq_true rfl⟩) (xPreV (C := R_M) (T := F_M) (N := 21) (q0 := 0) hN hK (hP.sub (ws' := [(g, .inr (2, [.int (nI 0), .int (nI d), .ref mm, .int (nI 1), .ref kf, .ref tb, .int rw, .ref wk, .int ab, .int be, .ref pl, .ref sp, .int a0, .int a1, .int b0, .int b1, .ref po, .ref to, .ref ba, .ref li, .int lm])), (mm, IA cI 16 Fm), (tb, LA cJ 16 T), (wk, LA cJ 20 W0), (pl, IA cI 24 plF), (sp, IA cI 40 spF)]) [0, 1, 3, 4, 5, 6] rfl) (hD.sub (ws' := [(g, .inr (2, [.int (nI 0), .int (nI d), .ref mm, .int (nI 1), .ref kf, .ref tb, .int rw, .ref wk, .int ab, .int be, .ref pl, .ref sp, .int a0, .int a1, .int b0, .int b1, .ref po, .ref to, .ref ba, .ref li, .int lm])), (mm, IA cI 16 Fm), (tb, LA cJ 16 T), (wk, LA cJ 20 W0), (pl, IA cI 24 plF), (sp, IA cI 40 spF)]) [0, 1, 3, 4, 5, 6] (by decide) rfl) rfl rfl) rfl rfl hl.1 rfl (lv_room (Nat.le_of_ble_eq_true rfl)) d_M_keep_37 ⟨Nat.le_of_ble_eq_true rfl, Nat.le_of_ble_eq_true rfl⟩) (fun r_2 u_3 H locs hw_4 hP hD hS => ?_)
          obtain ⟨T2_5, W2_6⟩ := u_3
          try dsimp only at hw_4
          have hP : va_P D vwC [(g, .inr (2, [.int (nI 0), .int (nI d), .ref mm, .int (nI 1), .ref kf, .ref tb, .int (nI (d + 1)), .ref wk, .int (nI (abN (prt Fm 0) (d + 1))), .int (nI (beN (prt Fm 0) (d + 1))), .ref pl, .ref sp, .int (nI (abN (prt Fm 1) d)), .int (nI (beN (prt Fm 1) d)), .int (nI (abN (prt Fm 0) (d + 1))), .int (nI (beN (prt Fm 0) (d + 1))), .ref po, .ref to, .ref ba, .ref li, .int lm])), (mm, IA cI 16 Fm), (kf, IA cI 16 K3), (tb, LA cJ 16 T2_5), (wk, LA cJ 20 W2_6), (pl, IA cI 24 plF), (sp, IA cI 40 spF)] H := hP.sub [1, 2, 0, 3, 4, 5, 6] rfl
          have hD : va_D A [(g, .inr (2, [.int (nI 0), .int (nI d), .ref mm, .int (nI 1), .ref kf, .ref tb, .int (nI (d + 1)), .ref wk, .int (nI (abN (prt Fm 0) (d + 1))), .int (nI (beN (prt Fm 0) (d + 1))), .ref pl, .ref sp, .int (nI (abN (prt Fm 1) d)), .int (nI (beN (prt Fm 1) d)), .int (nI (abN (prt Fm 0) (d + 1))), .int (nI (beN (prt Fm 0) (d + 1))), .ref po, .ref to, .ref ba, .ref li, .int lm])), (mm, IA cI 16 Fm), (kf, IA cI 16 K3), (tb, LA cJ 16 T2_5), (wk, LA cJ 20 W2_6), (pl, IA cI 24 plF), (sp, IA cI 40 spF)] := hD.sub [1, 2, 0, 3, 4, 5, 6] (by decide) rfl
          subst hw_4
          exact hret H locs _ ls (kndM Fm d) (K3, T2_5, W2_6) d_M_keep_40 (by first | exact ⟨rfl, fun k hk => h1 k (by omega)⟩ | (dsimp only; exact ⟨rfl, fun k hk => h1 k (by omega)⟩)) hP hD hS
        · skip
          refine lv_aload_n hx hb d_M_keep_13 rfl (lv_at hl 0 rfl) ?_
          refine va_get (D := D) (ci := 2) (v := .ref kf) (C := R_M) (T := F_M) (N := 21) hx hb hts iw_M hown hK hP 0 rfl rfl 4 (by decide) (hts _ tw_391) (fun _ h9 => h9) rfl d_M_keep_14 ?_
          refine lv_iload_n hx hb d_M_keep_17 rfl (lv_at hl 1 rfl) ?_
          refine lv_aload_n hx hb d_M_keep_18 rfl (lv_at hl 0 rfl) ?_
          refine va_get (D := D) (ci := 2) (v := .ref mm) (C := R_M) (T := F_M) (N := 21) hx hb hts iw_M hown hK hP 0 rfl rfl 2 (by decide) (hts _ tw_389) (fun _ h9 => h9) rfl d_M_keep_19 ?_
          refine lv_iload_n hx hb d_M_keep_22 rfl (lv_at hl 1 rfl) ?_
          refine xi_ald hx hb hK hP 1 1 rfl rfl (k := t) (by omega) (by first | decide | omega) d_M_keep_23 ?_
          refine xi_ast hx hb hK hP hD hS 2 1 rfl rfl (k := t) (x := Fm t) rfl (by omega) (by first | decide | omega) d_M_keep_24 (fun H locs hP hD hS => ?_)
          have hP : va_P D vwC [(g, .inr (2, [.int (nI 0), .int (nI d), .ref mm, .int ik, .ref kf, .ref tb, .int rw, .ref wk, .int ab, .int be, .ref pl, .ref sp, .int a0, .int a1, .int b0, .int b1, .ref po, .ref to, .ref ba, .ref li, .int lm])), (mm, IA cI 16 Fm), (kf, IA cI 16 (upZ K3 t (Fm t))), (tb, LA cJ 16 T), (wk, LA cJ 20 W0), (pl, IA cI 24 plF), (sp, IA cI 40 spF)] H := hP
          have hD : va_D A [(g, .inr (2, [.int (nI 0), .int (nI d), .ref mm, .int ik, .ref kf, .ref tb, .int rw, .ref wk, .int ab, .int be, .ref pl, .ref sp, .int a0, .int a1, .int b0, .int b1, .ref po, .ref to, .ref ba, .ref li, .int lm])), (mm, IA cI 16 Fm), (kf, IA cI 16 (upZ K3 t (Fm t))), (tb, LA cJ 16 T), (wk, LA cJ 20 W0), (pl, IA cI 24 plF), (sp, IA cI 40 spF)] := hD
          refine lv_iinc (v := nI (t + 1)) (lv' := [(1, .int (nI (t + 1))), (0, .ref g)]) hx hb d_M_keep_25 hl (k := 1) rfl (nI_add _ _) (by decide) rfl (fun ls hl => ?_)
          refine lv_goto (tgt := 7) hx hb d_M_keep_28 (by decide) ?_
          exact ih_7 (t + 1) (upZ K3 t (Fm t)) H locs ls (by omega) (fun k hk => by by_cases q : k = t; rw [q, upZ_at]; rw [upZ_ne (k := t) (j := k) _ _ q]; exact h1 k (by omega)) (by omega) hP hD hS (lv_sub hl [1, 0] rfl)
    exact lp_7 ((16 - 0) + 1) 0 Kp H locs ls (Nat.zero_le _) (fun k h => absurd h (Nat.not_lt_zero _)) (by omega) hP hD hS (lv_sub hl [1, 0] rfl)
  rw [hH, hlc] at key; exact key

def rm_r_alike : Room := { frames := 0, cells := 0, slots := 0, locals := 0 }
set_option maxHeartbeats 4000000 in
set_option maxRecDepth 100000 in
/-- alike -/
theorem r_alike (l : Launch) (D : va_G) (cJ cI : ClassId) (g : Nat) (cd : Int32) (d : Nat) (ik : Int32) (rw : Int32) (ab : Int32) (be : Int32) (a0 : Int32) (a1 : Int32) (b0 : Int32) (b1 : Int32) (lm : Int32) (mm : Nat) (kf : Nat) (tb : Nat) (wk : Nat) (pl : Nat) (sp : Nat) (po : Nat) (to : Nat) (ba : Nat) (li : Nat) (Fm : Nat → Int) (Kp : Nat → Int) (hF : ∀ k, k < 16 → inB (Fm k) 20) (hKb : ∀ k, k < 16 → inB (Kp k) 20) (sz : Nat) : xMi l y_M_alike (Cond.code y_M_alike b_M_alike 6 (some .int) :: tW) rm_r_alike [.ref g] D vwC [(cJ, .long), (cI, .int)] sz [(g, .inr (2, [.int cd, .int (nI d), .ref mm, .int ik, .ref kf, .ref tb, .int rw, .ref wk, .int ab, .int be, .ref pl, .ref sp, .int a0, .int a1, .int b0, .int b1, .ref po, .ref to, .ref ba, .ref li, .int lm])), (mm, IA cI 16 Fm), (kf, IA cI 16 Kp)] (fun (rv : Int32) (_ : Unit) => rv = s_alk ik Fm Kp) (fun (_ : Unit) => [(g, .inr (2, [.int (nI 0), .int (nI d), .ref mm, .int ik, .ref kf, .ref tb, .int rw, .ref wk, .int ab, .int be, .ref pl, .ref sp, .int a0, .int a1, .int b0, .int b1, .ref po, .ref to, .ref ba, .ref li, .int lm])), (mm, IA cI 16 Fm), (kf, IA cI 16 Kp)]) 0 0 := by
  refine xoi (cc := b_M_alike) (maxL := 6) (by decide) rfl (Nat.le_of_ble_eq_true rfl) ?_
  intro p e s m args below meth c Q A hx hb hml hts hown hN hA hS hP hK hD hret ls hl
  have hl : lv_has ls 6 [(0, .ref g)] := hl
  obtain ⟨H, hH⟩ : ∃ z, z = s.heap := ⟨_, rfl⟩
  obtain ⟨locs, hlc⟩ : ∃ z : List Loc, z = [] := ⟨_, rfl⟩
  rw [← hH] at hP
  have hS : va_S A s.heap H locs := by rw [hH, hlc]; exact hS
  have key : W p l e rm_r_alike s m args below meth c H locs 0 0 Q (F0 m 0 ls []) := by
    refine lv_aload_n hx hb d_M_alike_0 rfl (lv_at hl 0 rfl) ?_
    refine lv_iconst (v := nI 0) hx hb d_M_alike_1 (by decide) ?_
    refine va_put (D := D) (ci := 2) (v := .int (nI 0)) (ty := .int) (C := R_M) (T := F_M) (N := 21) hx hb hts iw_M ft_M ft_M_ok n_M hown hK hP hD hS 0 rfl rfl 0 (by decide) (hts _ tw_387) (fun _ h9 => h9) rfl (by decide +kernel) rfl rfl (Nat.le_of_ble_eq_true rfl) d_M_alike_2 (fun H locs hP hD hS => ?_)
    have hP : va_P D vwC [(g, .inr (2, [.int (nI 0), .int (nI d), .ref mm, .int ik, .ref kf, .ref tb, .int rw, .ref wk, .int ab, .int be, .ref pl, .ref sp, .int a0, .int a1, .int b0, .int b1, .ref po, .ref to, .ref ba, .ref li, .int lm])), (mm, IA cI 16 Fm), (kf, IA cI 16 Kp)] H := hP
    have hD : va_D A [(g, .inr (2, [.int (nI 0), .int (nI d), .ref mm, .int ik, .ref kf, .ref tb, .int rw, .ref wk, .int ab, .int be, .ref pl, .ref sp, .int a0, .int a1, .int b0, .int b1, .ref po, .ref to, .ref ba, .ref li, .int lm])), (mm, IA cI 16 Fm), (kf, IA cI 16 Kp)] := hD
    refine lv_aload_n hx hb d_M_alike_5 rfl (lv_at hl 0 rfl) ?_
    refine va_get (D := D) (ci := 2) (v := .int ik) (C := R_M) (T := F_M) (N := 21) hx hb hts iw_M hown hK hP 0 rfl rfl 3 (by decide) (hts _ tw_390) (fun _ h9 => h9) rfl d_M_alike_6 ?_
    refine xz_ne (tgt := 15) (X := ik.toInt) hx hb rfl d_M_alike_9 (by decide) (fun c9_0 => ?_) (fun c9_0 => ?_)
    · skip
      refine lv_iconst (v := nI 0) hx hb d_M_alike_15 (by decide) ?_
      refine lv_istore_n (lv' := [(1, .int (nI 0)), (0, .ref g)]) hx hb d_M_alike_16 rfl hl (by decide) rfl (fun ls hl => ?_)
      refine lv_iconst (v := nI 0) hx hb d_M_alike_17 (by decide) ?_
      refine lv_istore_n (lv' := [(2, .int (nI 0)), (1, .int (nI 0)), (0, .ref g)]) hx hb d_M_alike_18 rfl hl (by decide) rfl (fun ls hl => ?_)
      refine lv_iconst (v := nI 1) hx hb d_M_alike_19 (by decide) ?_
      refine lv_istore_n (lv' := [(3, .int (nI 1)), (2, .int (nI 0)), (1, .int (nI 0)), (0, .ref g)]) hx hb d_M_alike_20 rfl hl (by decide) rfl (fun ls hl => ?_)
      refine lv_iconst (v := nI 0) hx hb d_M_alike_21 (by decide) ?_
      refine lv_istore (lv' := [(4, .int (nI 0)), (3, .int (nI 1)), (2, .int (nI 0)), (1, .int (nI 0)), (0, .ref g)]) hx hb d_M_alike_22 hl (by decide) rfl (fun ls hl => ?_)
      have lp_24 : ∀ (n_24 : Nat) (i : Nat) (so : Nat) (ot : Nat) (is9 : Nat) (H : Heap) (locs : List Loc) (ls : Array Slot), (i ≤ 16) → (so ≤ 1) → (ot ≤ 1) → (is9 ≤ 1) → (so = 1 ↔ ∃ k, k < i ∧ Fm k ≠ 0) → (ot = 1 ↔ ∃ k, k < i ∧ Kp k ≠ 0) → (is9 = 1 ↔ upto Fm Kp i) → (16 - i) < n_24 → va_P D vwC [(g, .inr (2, [.int (nI 0), .int (nI d), .ref mm, .int ik, .ref kf, .ref tb, .int rw, .ref wk, .int ab, .int be, .ref pl, .ref sp, .int a0, .int a1, .int b0, .int b1, .ref po, .ref to, .ref ba, .ref li, .int lm])), (mm, IA cI 16 Fm), (kf, IA cI 16 Kp)] H → va_D A [(g, .inr (2, [.int (nI 0), .int (nI d), .ref mm, .int ik, .ref kf, .ref tb, .int rw, .ref wk, .int ab, .int be, .ref pl, .ref sp, .int a0, .int a1, .int b0, .int b1, .ref po, .ref to, .ref ba, .ref li, .int lm])), (mm, IA cI 16 Fm), (kf, IA cI 16 Kp)] → va_S A s.heap H locs → lv_has ls 6 [(0, .ref g), (1, .int (nI so)), (2, .int (nI ot)), (3, .int (nI is9)), (4, .int (nI i))] → W p l e rm_r_alike s m args below meth c H locs 0 0 Q (F0 m 24 ls []) := by
        intro n_24
        induction n_24 with
        | zero => intro i so ot is9 H locs ls hi hs1 ho1 hi9 hso hot his hn_24; exact absurd hn_24 (Nat.not_lt_zero _)
        | succ n_24 ih_24 =>
          intro i so ot is9 H locs ls hi hs1 ho1 hi9 hso hot his hn_24 hP hD hS hl
          refine lv_iload hx hb d_M_alike_24 (lv_at hl 4 rfl) ?_
          refine lv_bipush (v := nI 16) hx hb d_M_alike_26 (by decide) ?_
          refine xn_ge (tgt := 136) hx hb (by omega) (by omega) d_M_alike_28 (by decide) (fun c28_1 => ?_) (fun c28_1 => ?_)
          · skip
            refine lv_iload_n hx hb d_M_alike_136 rfl (lv_at hl 3 rfl) ?_
            refine xz_eq (tgt := 149) (X := (is9 : Nat)) hx hb (nI_toInt (by omega)) d_M_alike_137 (by decide) (fun c137_2 => ?_) (fun c137_2 => ?_)
            · skip
              refine lv_iconst (v := nI 0) hx hb d_M_alike_149 (by decide) ?_
              have hi16 : i = 16 := by omega
              subst hi16
              exact hret H locs _ ls (nI 0) () d_M_alike_150 (by unfold s_alk; rw [if_neg (show ¬ ik.toInt = 0 from c9_0),  bz_f (fun q => absurd (his.mpr (alk_upto q)) (by omega))]) hP hD hS
            · skip
              refine lv_iload_n hx hb d_M_alike_140 rfl (lv_at hl 1 rfl) ?_
              refine lv_iload_n hx hb d_M_alike_141 rfl (lv_at hl 2 rfl) ?_
              refine xn_ne (tgt := 149) hx hb (by omega) (by omega) d_M_alike_142 (by decide) (fun c142_3 => ?_) (fun c142_3 => ?_)
              · skip
                refine lv_iconst (v := nI 0) hx hb d_M_alike_149 (by decide) ?_
                have hi16 : i = 16 := by omega
                subst hi16
                exact hret H locs _ ls (nI 0) () d_M_alike_150 (by unfold s_alk; rw [if_neg (show ¬ ik.toInt = 0 from c9_0),  bz_f (fun q => c142_3 (by rcases (show so = 0 ∨ so = 1 by omega) with z | z; rcases (show ot = 0 ∨ ot = 1 by omega) with y | y; omega; exact absurd (hso.mpr (q.2.mpr (hot.mp y))) (by omega); rw [z, hot.mpr (q.2.mp (hso.mp z))]))]) hP hD hS
              · skip
                refine lv_iconst (v := nI 1) hx hb d_M_alike_145 (by decide) ?_
                refine lv_goto (tgt := 150) hx hb d_M_alike_146 (by decide) ?_
                have hi16 : i = 16 := by omega
                subst hi16
                have his1 : is9 = 1 := by clear hso hot his; omega
                exact hret H locs _ ls (nI 1) () d_M_alike_150 (by unfold s_alk; rw [if_neg (show ¬ ik.toInt = 0 from c9_0),  bz_t (alk_full (his.mp his1) ⟨fun q => hot.mp (by rw [← c142_3]; exact hso.mpr q), fun q => hso.mp (by rw [c142_3]; exact hot.mpr q)⟩)]) hP hD hS
          · skip
            refine lv_iload_n hx hb d_M_alike_31 rfl (lv_at hl 1 rfl) ?_
            refine xz_ne (tgt := 45) (X := (so : Nat)) hx hb (nI_toInt (by omega)) d_M_alike_32 (by decide) (fun c32_4 => ?_) (fun c32_4 => ?_)
            · skip
              refine lv_iconst (v := nI 1) hx hb d_M_alike_45 (by decide) ?_
              refine lv_goto (tgt := 50) hx hb d_M_alike_46 (by decide) ?_
              refine lv_istore_n (lv' := [(1, .int (nI 1)), (0, .ref g), (2, .int (nI ot)), (3, .int (nI is9)), (4, .int (nI i))]) hx hb d_M_alike_50 rfl hl (by decide) rfl (fun ls hl => ?_)
              refine lv_iload_n hx hb d_M_alike_51 rfl (lv_at hl 2 rfl) ?_
              refine xz_ne (tgt := 65) (X := (ot : Nat)) hx hb (nI_toInt (by omega)) d_M_alike_52 (by decide) (fun c52_5 => ?_) (fun c52_5 => ?_)
              · skip
                refine lv_iconst (v := nI 1) hx hb d_M_alike_65 (by decide) ?_
                refine lv_goto (tgt := 70) hx hb d_M_alike_66 (by decide) ?_
                refine lv_istore_n (lv' := [(2, .int (nI 1)), (1, .int (nI 1)), (0, .ref g), (3, .int (nI is9)), (4, .int (nI i))]) hx hb d_M_alike_70 rfl hl (by decide) rfl (fun ls hl => ?_)
                refine lv_iconst (v := nI 0) hx hb d_M_alike_71 (by decide) ?_
                refine lv_istore (lv' := [(5, .int (nI 0)), (2, .int (nI 1)), (1, .int (nI 1)), (0, .ref g), (3, .int (nI is9)), (4, .int (nI i))]) hx hb d_M_alike_72 hl (by decide) rfl (fun ls hl => ?_)
                have lp_74 : ∀ (n_74 : Nat) (j : Nat) (ii : Nat) (H : Heap) (locs : List Loc) (ls : Array Slot), (j ≤ i) → (ii ≤ 1) → (ii = 1 ↔ (upto Fm Kp i ∧ ∀ b, b < j → Fm i * Kp b = Fm b * Kp i)) → (i - j) < n_74 → va_P D vwC [(g, .inr (2, [.int (nI 0), .int (nI d), .ref mm, .int ik, .ref kf, .ref tb, .int rw, .ref wk, .int ab, .int be, .ref pl, .ref sp, .int a0, .int a1, .int b0, .int b1, .ref po, .ref to, .ref ba, .ref li, .int lm])), (mm, IA cI 16 Fm), (kf, IA cI 16 Kp)] H → va_D A [(g, .inr (2, [.int (nI 0), .int (nI d), .ref mm, .int ik, .ref kf, .ref tb, .int rw, .ref wk, .int ab, .int be, .ref pl, .ref sp, .int a0, .int a1, .int b0, .int b1, .ref po, .ref to, .ref ba, .ref li, .int lm])), (mm, IA cI 16 Fm), (kf, IA cI 16 Kp)] → va_S A s.heap H locs → lv_has ls 6 [(0, .ref g), (1, .int (nI 1)), (2, .int (nI 1)), (3, .int (nI ii)), (4, .int (nI i)), (5, .int (nI j))] → W p l e rm_r_alike s m args below meth c H locs 0 0 Q (F0 m 74 ls []) := by
                  intro n_74
                  induction n_74 with
                  | zero => intro j ii H locs ls hj hi1 hii hn_74; exact absurd hn_74 (Nat.not_lt_zero _)
                  | succ n_74 ih_74 =>
                    intro j ii H locs ls hj hi1 hii hn_74 hP hD hS hl
                    refine lv_iload hx hb d_M_alike_74 (lv_at hl 5 rfl) ?_
                    refine lv_iload hx hb d_M_alike_76 (lv_at hl 4 rfl) ?_
                    refine xn_ge (tgt := 130) hx hb (by omega) (by omega) d_M_alike_78 (by decide) (fun c78_6 => ?_) (fun c78_6 => ?_)
                    · skip
                      refine lv_iinc (v := nI (i + 1)) (lv' := [(4, .int (nI (i + 1))), (0, .ref g), (1, .int (nI 1)), (2, .int (nI 1)), (3, .int (nI ii)), (5, .int (nI j))]) hx hb d_M_alike_130 hl (k := 4) rfl (nI_add _ _) (by decide) rfl (fun ls hl => ?_)
                      refine lv_goto (tgt := 24) hx hb d_M_alike_133 (by decide) ?_
                      exact ih_24 (i + 1) 1 1 ii H locs ls (by omega) (by decide) (by decide) hi1 (⟨fun _ => (let ⟨k, q1, q2⟩ := hso.mp (by omega); ⟨k, by omega, q2⟩), fun _ => rfl⟩) (⟨fun _ => (let ⟨k, q1, q2⟩ := hot.mp (by omega); ⟨k, by omega, q2⟩), fun _ => rfl⟩) (⟨fun q a b hb2 ha2 => by by_cases z : a = i; subst z; exact (hii.mp q).2 b (by omega); exact (hii.mp q).1 a b hb2 (by omega), fun q => hii.mpr ⟨fun a b hb2 ha2 => q a b hb2 (by omega), fun b hb2 => q i b (by omega) (by omega)⟩⟩) (by omega) hP hD hS (lv_sub hl [1, 2, 3, 4, 0] rfl)
                    · skip
                      refine lv_iload_n hx hb d_M_alike_81 rfl (lv_at hl 3 rfl) ?_
                      refine xz_eq (tgt := 122) (X := (ii : Nat)) hx hb (nI_toInt (by omega)) d_M_alike_82 (by decide) (fun c82_7 => ?_) (fun c82_7 => ?_)
                      · skip
                        refine lv_iconst (v := nI 0) hx hb d_M_alike_122 (by decide) ?_
                        refine lv_istore_n (lv' := [(3, .int (nI 0)), (0, .ref g), (1, .int (nI 1)), (2, .int (nI 1)), (4, .int (nI i)), (5, .int (nI j))]) hx hb d_M_alike_123 rfl hl (by decide) rfl (fun ls hl => ?_)
                        refine lv_iinc (v := nI (j + 1)) (lv' := [(5, .int (nI (j + 1))), (3, .int (nI 0)), (0, .ref g), (1, .int (nI 1)), (2, .int (nI 1)), (4, .int (nI i))]) hx hb d_M_alike_124 hl (k := 5) rfl (nI_add _ _) (by decide) rfl (fun ls hl => ?_)
                        refine lv_goto (tgt := 74) hx hb d_M_alike_127 (by decide) ?_
                        exact ih_74 (j + 1) 0 H locs ls (by omega) (by decide) (⟨fun q => absurd q (by decide), fun q => absurd (hii.mpr ⟨q.1, fun b hb2 => q.2 b (by omega)⟩) (by omega)⟩) (by omega) hP hD hS (lv_sub hl [2, 3, 4, 1, 5, 0] rfl)
                      · skip
                        refine lv_aload_n hx hb d_M_alike_85 rfl (lv_at hl 0 rfl) ?_
                        refine va_get (D := D) (ci := 2) (v := .ref mm) (C := R_M) (T := F_M) (N := 21) hx hb hts iw_M hown hK hP 0 rfl rfl 2 (by decide) (hts _ tw_389) (fun _ h9 => h9) rfl d_M_alike_86 ?_
                        refine lv_iload hx hb d_M_alike_89 (lv_at hl 4 rfl) ?_
                        refine xi_ald hx hb hK hP 1 1 rfl rfl (k := i) (by omega) (by first | decide | omega) d_M_alike_91 ?_
                        refine lv_aload_n hx hb d_M_alike_92 rfl (lv_at hl 0 rfl) ?_
                        refine va_get (D := D) (ci := 2) (v := .ref kf) (C := R_M) (T := F_M) (N := 21) hx hb hts iw_M hown hK hP 0 rfl rfl 4 (by decide) (hts _ tw_391) (fun _ h9 => h9) rfl d_M_alike_93 ?_
                        refine lv_iload hx hb d_M_alike_96 (lv_at hl 5 rfl) ?_
                        refine xi_ald hx hb hK hP 2 1 rfl rfl (k := j) (by omega) (by first | decide | omega) d_M_alike_98 ?_
                        refine xq_mul hx hb d_M_alike_99 ?_
                        refine lv_aload_n hx hb d_M_alike_100 rfl (lv_at hl 0 rfl) ?_
                        refine va_get (D := D) (ci := 2) (v := .ref mm) (C := R_M) (T := F_M) (N := 21) hx hb hts iw_M hown hK hP 0 rfl rfl 2 (by decide) (hts _ tw_389) (fun _ h9 => h9) rfl d_M_alike_101 ?_
                        refine lv_iload hx hb d_M_alike_104 (lv_at hl 5 rfl) ?_
                        refine xi_ald hx hb hK hP 1 1 rfl rfl (k := j) (by omega) (by first | decide | omega) d_M_alike_106 ?_
                        refine lv_aload_n hx hb d_M_alike_107 rfl (lv_at hl 0 rfl) ?_
                        refine va_get (D := D) (ci := 2) (v := .ref kf) (C := R_M) (T := F_M) (N := 21) hx hb hts iw_M hown hK hP 0 rfl rfl 4 (by decide) (hts _ tw_391) (fun _ h9 => h9) rfl d_M_alike_108 ?_
                        refine lv_iload hx hb d_M_alike_111 (lv_at hl 4 rfl) ?_
                        refine xi_ald hx hb hK hP 2 1 rfl rfl (k := i) (by omega) (by first | decide | omega) d_M_alike_113 ?_
                        refine xq_mul hx hb d_M_alike_114 ?_
                        refine xi_ne (tgt := 122) (X := ((Fm i) * (Kp j))) (Y := ((Fm j) * (Kp i))) hx hb (iI_toInt (iB_of (mulB (hF _ (by omega)) (hKb _ (by omega))) (by decide))) (iI_toInt (iB_of (mulB (hF _ (by omega)) (hKb _ (by omega))) (by decide))) d_M_alike_115 (by decide) (fun c115_8 => ?_) (fun c115_8 => ?_)
                        · skip
                          refine lv_iconst (v := nI 0) hx hb d_M_alike_122 (by decide) ?_
                          refine lv_istore_n (lv' := [(3, .int (nI 0)), (0, .ref g), (1, .int (nI 1)), (2, .int (nI 1)), (4, .int (nI i)), (5, .int (nI j))]) hx hb d_M_alike_123 rfl hl (by decide) rfl (fun ls hl => ?_)
                          refine lv_iinc (v := nI (j + 1)) (lv' := [(5, .int (nI (j + 1))), (3, .int (nI 0)), (0, .ref g), (1, .int (nI 1)), (2, .int (nI 1)), (4, .int (nI i))]) hx hb d_M_alike_124 hl (k := 5) rfl (nI_add _ _) (by decide) rfl (fun ls hl => ?_)
                          refine lv_goto (tgt := 74) hx hb d_M_alike_127 (by decide) ?_
                          exact ih_74 (j + 1) 0 H locs ls (by omega) (by decide) (⟨fun q => absurd q (by decide), fun q => absurd (q.2 j (by omega)) c115_8⟩) (by omega) hP hD hS (lv_sub hl [2, 3, 4, 1, 5, 0] rfl)
                        · skip
                          refine lv_iconst (v := nI 1) hx hb d_M_alike_118 (by decide) ?_
                          refine lv_goto (tgt := 123) hx hb d_M_alike_119 (by decide) ?_
                          refine lv_istore_n (lv' := [(3, .int (nI 1)), (0, .ref g), (1, .int (nI 1)), (2, .int (nI 1)), (4, .int (nI i)), (5, .int (nI j))]) hx hb d_M_alike_123 rfl hl (by decide) rfl (fun ls hl => ?_)
                          refine lv_iinc (v := nI (j + 1)) (lv' := [(5, .int (nI (j + 1))), (3, .int (nI 1)), (0, .ref g), (1, .int (nI 1)), (2, .int (nI 1)), (4, .int (nI i))]) hx hb d_M_alike_124 hl (k := 5) rfl (nI_add _ _) (by decide) rfl (fun ls hl => ?_)
                          refine lv_goto (tgt := 74) hx hb d_M_alike_127 (by decide) ?_
                          exact ih_74 (j + 1) 1 H locs ls (by omega) (by decide) (⟨fun _ => ⟨(hii.mp (by omega)).1, fun b hb2 => by by_cases z : b = j; rw [z]; exact c115_8; exact (hii.mp (by omega)).2 b (by omega)⟩, fun _ => rfl⟩) (by omega) hP hD hS (lv_sub hl [2, 3, 4, 1, 5, 0] rfl)
                exact lp_74 ((i - 0) + 1) 0 is9 H locs ls (Nat.zero_le _) hi9 (⟨fun q => ⟨his.mp q, fun b z => absurd z (Nat.not_lt_zero _)⟩, fun q => his.mpr q.1⟩) (by omega) hP hD hS (lv_sub hl [3, 2, 1, 4, 5, 0] rfl)
              · skip
                refine lv_aload_n hx hb d_M_alike_55 rfl (lv_at hl 1 rfl) ?_
                refine va_get (D := D) (ci := 2) (v := .ref kf) (C := R_M) (T := F_M) (N := 21) hx hb hts iw_M hown hK hP 0 rfl rfl 4 (by decide) (hts _ tw_391) (fun _ h9 => h9) rfl d_M_alike_56 ?_
                refine lv_iload hx hb d_M_alike_59 (lv_at hl 4 rfl) ?_
                refine xi_ald hx hb hK hP 2 1 rfl rfl (k := i) (by omega) (by first | decide | omega) d_M_alike_61 ?_
                refine xz_eq (tgt := 69) (X := (Kp i)) hx hb (iI_toInt (iB_of (hKb _ (by omega)) (by decide))) d_M_alike_62 (by decide) (fun c62_9 => ?_) (fun c62_9 => ?_)
                · skip
                  refine lv_iconst (v := nI 0) hx hb d_M_alike_69 (by decide) ?_
                  refine lv_istore_n (lv' := [(2, .int (nI 0)), (1, .int (nI 1)), (0, .ref g), (3, .int (nI is9)), (4, .int (nI i))]) hx hb d_M_alike_70 rfl hl (by decide) rfl (fun ls hl => ?_)
                  refine lv_iconst (v := nI 0) hx hb d_M_alike_71 (by decide) ?_
                  refine lv_istore (lv' := [(5, .int (nI 0)), (2, .int (nI 0)), (1, .int (nI 1)), (0, .ref g), (3, .int (nI is9)), (4, .int (nI i))]) hx hb d_M_alike_72 hl (by decide) rfl (fun ls hl => ?_)
                  have lp_74 : ∀ (n_74 : Nat) (j : Nat) (ii : Nat) (H : Heap) (locs : List Loc) (ls : Array Slot), (j ≤ i) → (ii ≤ 1) → (ii = 1 ↔ (upto Fm Kp i ∧ ∀ b, b < j → Fm i * Kp b = Fm b * Kp i)) → (i - j) < n_74 → va_P D vwC [(g, .inr (2, [.int (nI 0), .int (nI d), .ref mm, .int ik, .ref kf, .ref tb, .int rw, .ref wk, .int ab, .int be, .ref pl, .ref sp, .int a0, .int a1, .int b0, .int b1, .ref po, .ref to, .ref ba, .ref li, .int lm])), (mm, IA cI 16 Fm), (kf, IA cI 16 Kp)] H → va_D A [(g, .inr (2, [.int (nI 0), .int (nI d), .ref mm, .int ik, .ref kf, .ref tb, .int rw, .ref wk, .int ab, .int be, .ref pl, .ref sp, .int a0, .int a1, .int b0, .int b1, .ref po, .ref to, .ref ba, .ref li, .int lm])), (mm, IA cI 16 Fm), (kf, IA cI 16 Kp)] → va_S A s.heap H locs → lv_has ls 6 [(0, .ref g), (1, .int (nI 1)), (2, .int (nI 0)), (3, .int (nI ii)), (4, .int (nI i)), (5, .int (nI j))] → W p l e rm_r_alike s m args below meth c H locs 0 0 Q (F0 m 74 ls []) := by
                    intro n_74
                    induction n_74 with
                    | zero => intro j ii H locs ls hj hi1 hii hn_74; exact absurd hn_74 (Nat.not_lt_zero _)
                    | succ n_74 ih_74 =>
                      intro j ii H locs ls hj hi1 hii hn_74 hP hD hS hl
                      refine lv_iload hx hb d_M_alike_74 (lv_at hl 5 rfl) ?_
                      refine lv_iload hx hb d_M_alike_76 (lv_at hl 4 rfl) ?_
                      refine xn_ge (tgt := 130) hx hb (by omega) (by omega) d_M_alike_78 (by decide) (fun c78_10 => ?_) (fun c78_10 => ?_)
                      · skip
                        refine lv_iinc (v := nI (i + 1)) (lv' := [(4, .int (nI (i + 1))), (0, .ref g), (1, .int (nI 1)), (2, .int (nI 0)), (3, .int (nI ii)), (5, .int (nI j))]) hx hb d_M_alike_130 hl (k := 4) rfl (nI_add _ _) (by decide) rfl (fun ls hl => ?_)
                        refine lv_goto (tgt := 24) hx hb d_M_alike_133 (by decide) ?_
                        exact ih_24 (i + 1) 1 0 ii H locs ls (by omega) (by decide) (by decide) hi1 (⟨fun _ => (let ⟨k, q1, q2⟩ := hso.mp (by omega); ⟨k, by omega, q2⟩), fun _ => rfl⟩) (⟨fun q => absurd q (by decide), fun ⟨k, q1, q2⟩ => by by_cases z : k = i; rw [z] at q2; exact absurd c62_9 q2; exact absurd (hot.mpr ⟨k, by omega, q2⟩) (by omega)⟩) (⟨fun q a b hb2 ha2 => by by_cases z : a = i; subst z; exact (hii.mp q).2 b (by omega); exact (hii.mp q).1 a b hb2 (by omega), fun q => hii.mpr ⟨fun a b hb2 ha2 => q a b hb2 (by omega), fun b hb2 => q i b (by omega) (by omega)⟩⟩) (by omega) hP hD hS (lv_sub hl [1, 2, 3, 4, 0] rfl)
                      · skip
                        refine lv_iload_n hx hb d_M_alike_81 rfl (lv_at hl 3 rfl) ?_
                        refine xz_eq (tgt := 122) (X := (ii : Nat)) hx hb (nI_toInt (by omega)) d_M_alike_82 (by decide) (fun c82_11 => ?_) (fun c82_11 => ?_)
                        · skip
                          refine lv_iconst (v := nI 0) hx hb d_M_alike_122 (by decide) ?_
                          refine lv_istore_n (lv' := [(3, .int (nI 0)), (0, .ref g), (1, .int (nI 1)), (2, .int (nI 0)), (4, .int (nI i)), (5, .int (nI j))]) hx hb d_M_alike_123 rfl hl (by decide) rfl (fun ls hl => ?_)
                          refine lv_iinc (v := nI (j + 1)) (lv' := [(5, .int (nI (j + 1))), (3, .int (nI 0)), (0, .ref g), (1, .int (nI 1)), (2, .int (nI 0)), (4, .int (nI i))]) hx hb d_M_alike_124 hl (k := 5) rfl (nI_add _ _) (by decide) rfl (fun ls hl => ?_)
                          refine lv_goto (tgt := 74) hx hb d_M_alike_127 (by decide) ?_
                          exact ih_74 (j + 1) 0 H locs ls (by omega) (by decide) (⟨fun q => absurd q (by decide), fun q => absurd (hii.mpr ⟨q.1, fun b hb2 => q.2 b (by omega)⟩) (by omega)⟩) (by omega) hP hD hS (lv_sub hl [2, 3, 4, 1, 5, 0] rfl)
                        · skip
                          refine lv_aload_n hx hb d_M_alike_85 rfl (lv_at hl 0 rfl) ?_
                          refine va_get (D := D) (ci := 2) (v := .ref mm) (C := R_M) (T := F_M) (N := 21) hx hb hts iw_M hown hK hP 0 rfl rfl 2 (by decide) (hts _ tw_389) (fun _ h9 => h9) rfl d_M_alike_86 ?_
                          refine lv_iload hx hb d_M_alike_89 (lv_at hl 4 rfl) ?_
                          refine xi_ald hx hb hK hP 1 1 rfl rfl (k := i) (by omega) (by first | decide | omega) d_M_alike_91 ?_
                          refine lv_aload_n hx hb d_M_alike_92 rfl (lv_at hl 0 rfl) ?_
                          refine va_get (D := D) (ci := 2) (v := .ref kf) (C := R_M) (T := F_M) (N := 21) hx hb hts iw_M hown hK hP 0 rfl rfl 4 (by decide) (hts _ tw_391) (fun _ h9 => h9) rfl d_M_alike_93 ?_
                          refine lv_iload hx hb d_M_alike_96 (lv_at hl 5 rfl) ?_
                          refine xi_ald hx hb hK hP 2 1 rfl rfl (k := j) (by omega) (by first | decide | omega) d_M_alike_98 ?_
                          refine xq_mul hx hb d_M_alike_99 ?_
                          refine lv_aload_n hx hb d_M_alike_100 rfl (lv_at hl 0 rfl) ?_
                          refine va_get (D := D) (ci := 2) (v := .ref mm) (C := R_M) (T := F_M) (N := 21) hx hb hts iw_M hown hK hP 0 rfl rfl 2 (by decide) (hts _ tw_389) (fun _ h9 => h9) rfl d_M_alike_101 ?_
                          refine lv_iload hx hb d_M_alike_104 (lv_at hl 5 rfl) ?_
                          refine xi_ald hx hb hK hP 1 1 rfl rfl (k := j) (by omega) (by first | decide | omega) d_M_alike_106 ?_
                          refine lv_aload_n hx hb d_M_alike_107 rfl (lv_at hl 0 rfl) ?_
                          refine va_get (D := D) (ci := 2) (v := .ref kf) (C := R_M) (T := F_M) (N := 21) hx hb hts iw_M hown hK hP 0 rfl rfl 4 (by decide) (hts _ tw_391) (fun _ h9 => h9) rfl d_M_alike_108 ?_
                          refine lv_iload hx hb d_M_alike_111 (lv_at hl 4 rfl) ?_
                          refine xi_ald hx hb hK hP 2 1 rfl rfl (k := i) (by omega) (by first | decide | omega) d_M_alike_113 ?_
                          refine xq_mul hx hb d_M_alike_114 ?_
                          refine xi_ne (tgt := 122) (X := ((Fm i) * (Kp j))) (Y := ((Fm j) * (Kp i))) hx hb (iI_toInt (iB_of (mulB (hF _ (by omega)) (hKb _ (by omega))) (by decide))) (iI_toInt (iB_of (mulB (hF _ (by omega)) (hKb _ (by omega))) (by decide))) d_M_alike_115 (by decide) (fun c115_12 => ?_) (fun c115_12 => ?_)
                          · skip
                            refine lv_iconst (v := nI 0) hx hb d_M_alike_122 (by decide) ?_
                            refine lv_istore_n (lv' := [(3, .int (nI 0)), (0, .ref g), (1, .int (nI 1)), (2, .int (nI 0)), (4, .int (nI i)), (5, .int (nI j))]) hx hb d_M_alike_123 rfl hl (by decide) rfl (fun ls hl => ?_)
                            refine lv_iinc (v := nI (j + 1)) (lv' := [(5, .int (nI (j + 1))), (3, .int (nI 0)), (0, .ref g), (1, .int (nI 1)), (2, .int (nI 0)), (4, .int (nI i))]) hx hb d_M_alike_124 hl (k := 5) rfl (nI_add _ _) (by decide) rfl (fun ls hl => ?_)
                            refine lv_goto (tgt := 74) hx hb d_M_alike_127 (by decide) ?_
                            exact ih_74 (j + 1) 0 H locs ls (by omega) (by decide) (⟨fun q => absurd q (by decide), fun q => absurd (q.2 j (by omega)) c115_12⟩) (by omega) hP hD hS (lv_sub hl [2, 3, 4, 1, 5, 0] rfl)
                          · skip
                            refine lv_iconst (v := nI 1) hx hb d_M_alike_118 (by decide) ?_
                            refine lv_goto (tgt := 123) hx hb d_M_alike_119 (by decide) ?_
                            refine lv_istore_n (lv' := [(3, .int (nI 1)), (0, .ref g), (1, .int (nI 1)), (2, .int (nI 0)), (4, .int (nI i)), (5, .int (nI j))]) hx hb d_M_alike_123 rfl hl (by decide) rfl (fun ls hl => ?_)
                            refine lv_iinc (v := nI (j + 1)) (lv' := [(5, .int (nI (j + 1))), (3, .int (nI 1)), (0, .ref g), (1, .int (nI 1)), (2, .int (nI 0)), (4, .int (nI i))]) hx hb d_M_alike_124 hl (k := 5) rfl (nI_add _ _) (by decide) rfl (fun ls hl => ?_)
                            refine lv_goto (tgt := 74) hx hb d_M_alike_127 (by decide) ?_
                            exact ih_74 (j + 1) 1 H locs ls (by omega) (by decide) (⟨fun _ => ⟨(hii.mp (by omega)).1, fun b hb2 => by by_cases z : b = j; rw [z]; exact c115_12; exact (hii.mp (by omega)).2 b (by omega)⟩, fun _ => rfl⟩) (by omega) hP hD hS (lv_sub hl [2, 3, 4, 1, 5, 0] rfl)
                  exact lp_74 ((i - 0) + 1) 0 is9 H locs ls (Nat.zero_le _) hi9 (⟨fun q => ⟨his.mp q, fun b z => absurd z (Nat.not_lt_zero _)⟩, fun q => his.mpr q.1⟩) (by omega) hP hD hS (lv_sub hl [3, 2, 1, 4, 5, 0] rfl)
                · skip
                  refine lv_iconst (v := nI 1) hx hb d_M_alike_65 (by decide) ?_
                  refine lv_goto (tgt := 70) hx hb d_M_alike_66 (by decide) ?_
                  refine lv_istore_n (lv' := [(2, .int (nI 1)), (1, .int (nI 1)), (0, .ref g), (3, .int (nI is9)), (4, .int (nI i))]) hx hb d_M_alike_70 rfl hl (by decide) rfl (fun ls hl => ?_)
                  refine lv_iconst (v := nI 0) hx hb d_M_alike_71 (by decide) ?_
                  refine lv_istore (lv' := [(5, .int (nI 0)), (2, .int (nI 1)), (1, .int (nI 1)), (0, .ref g), (3, .int (nI is9)), (4, .int (nI i))]) hx hb d_M_alike_72 hl (by decide) rfl (fun ls hl => ?_)
                  have lp_74 : ∀ (n_74 : Nat) (j : Nat) (ii : Nat) (H : Heap) (locs : List Loc) (ls : Array Slot), (j ≤ i) → (ii ≤ 1) → (ii = 1 ↔ (upto Fm Kp i ∧ ∀ b, b < j → Fm i * Kp b = Fm b * Kp i)) → (i - j) < n_74 → va_P D vwC [(g, .inr (2, [.int (nI 0), .int (nI d), .ref mm, .int ik, .ref kf, .ref tb, .int rw, .ref wk, .int ab, .int be, .ref pl, .ref sp, .int a0, .int a1, .int b0, .int b1, .ref po, .ref to, .ref ba, .ref li, .int lm])), (mm, IA cI 16 Fm), (kf, IA cI 16 Kp)] H → va_D A [(g, .inr (2, [.int (nI 0), .int (nI d), .ref mm, .int ik, .ref kf, .ref tb, .int rw, .ref wk, .int ab, .int be, .ref pl, .ref sp, .int a0, .int a1, .int b0, .int b1, .ref po, .ref to, .ref ba, .ref li, .int lm])), (mm, IA cI 16 Fm), (kf, IA cI 16 Kp)] → va_S A s.heap H locs → lv_has ls 6 [(0, .ref g), (1, .int (nI 1)), (2, .int (nI 1)), (3, .int (nI ii)), (4, .int (nI i)), (5, .int (nI j))] → W p l e rm_r_alike s m args below meth c H locs 0 0 Q (F0 m 74 ls []) := by
                    intro n_74
                    induction n_74 with
                    | zero => intro j ii H locs ls hj hi1 hii hn_74; exact absurd hn_74 (Nat.not_lt_zero _)
                    | succ n_74 ih_74 =>
                      intro j ii H locs ls hj hi1 hii hn_74 hP hD hS hl
                      refine lv_iload hx hb d_M_alike_74 (lv_at hl 5 rfl) ?_
                      refine lv_iload hx hb d_M_alike_76 (lv_at hl 4 rfl) ?_
                      refine xn_ge (tgt := 130) hx hb (by omega) (by omega) d_M_alike_78 (by decide) (fun c78_13 => ?_) (fun c78_13 => ?_)
                      · skip
                        refine lv_iinc (v := nI (i + 1)) (lv' := [(4, .int (nI (i + 1))), (0, .ref g), (1, .int (nI 1)), (2, .int (nI 1)), (3, .int (nI ii)), (5, .int (nI j))]) hx hb d_M_alike_130 hl (k := 4) rfl (nI_add _ _) (by decide) rfl (fun ls hl => ?_)
                        refine lv_goto (tgt := 24) hx hb d_M_alike_133 (by decide) ?_
                        exact ih_24 (i + 1) 1 1 ii H locs ls (by omega) (by decide) (by decide) hi1 (⟨fun _ => (let ⟨k, q1, q2⟩ := hso.mp (by omega); ⟨k, by omega, q2⟩), fun _ => rfl⟩) (⟨fun _ => ⟨i, by omega, c62_9⟩, fun _ => rfl⟩) (⟨fun q a b hb2 ha2 => by by_cases z : a = i; subst z; exact (hii.mp q).2 b (by omega); exact (hii.mp q).1 a b hb2 (by omega), fun q => hii.mpr ⟨fun a b hb2 ha2 => q a b hb2 (by omega), fun b hb2 => q i b (by omega) (by omega)⟩⟩) (by omega) hP hD hS (lv_sub hl [1, 2, 3, 4, 0] rfl)
                      · skip
                        refine lv_iload_n hx hb d_M_alike_81 rfl (lv_at hl 3 rfl) ?_
                        refine xz_eq (tgt := 122) (X := (ii : Nat)) hx hb (nI_toInt (by omega)) d_M_alike_82 (by decide) (fun c82_14 => ?_) (fun c82_14 => ?_)
                        · skip
                          refine lv_iconst (v := nI 0) hx hb d_M_alike_122 (by decide) ?_
                          refine lv_istore_n (lv' := [(3, .int (nI 0)), (0, .ref g), (1, .int (nI 1)), (2, .int (nI 1)), (4, .int (nI i)), (5, .int (nI j))]) hx hb d_M_alike_123 rfl hl (by decide) rfl (fun ls hl => ?_)
                          refine lv_iinc (v := nI (j + 1)) (lv' := [(5, .int (nI (j + 1))), (3, .int (nI 0)), (0, .ref g), (1, .int (nI 1)), (2, .int (nI 1)), (4, .int (nI i))]) hx hb d_M_alike_124 hl (k := 5) rfl (nI_add _ _) (by decide) rfl (fun ls hl => ?_)
                          refine lv_goto (tgt := 74) hx hb d_M_alike_127 (by decide) ?_
                          exact ih_74 (j + 1) 0 H locs ls (by omega) (by decide) (⟨fun q => absurd q (by decide), fun q => absurd (hii.mpr ⟨q.1, fun b hb2 => q.2 b (by omega)⟩) (by omega)⟩) (by omega) hP hD hS (lv_sub hl [2, 3, 4, 1, 5, 0] rfl)
                        · skip
                          refine lv_aload_n hx hb d_M_alike_85 rfl (lv_at hl 0 rfl) ?_
                          refine va_get (D := D) (ci := 2) (v := .ref mm) (C := R_M) (T := F_M) (N := 21) hx hb hts iw_M hown hK hP 0 rfl rfl 2 (by decide) (hts _ tw_389) (fun _ h9 => h9) rfl d_M_alike_86 ?_
                          refine lv_iload hx hb d_M_alike_89 (lv_at hl 4 rfl) ?_
                          refine xi_ald hx hb hK hP 1 1 rfl rfl (k := i) (by omega) (by first | decide | omega) d_M_alike_91 ?_
                          refine lv_aload_n hx hb d_M_alike_92 rfl (lv_at hl 0 rfl) ?_
                          refine va_get (D := D) (ci := 2) (v := .ref kf) (C := R_M) (T := F_M) (N := 21) hx hb hts iw_M hown hK hP 0 rfl rfl 4 (by decide) (hts _ tw_391) (fun _ h9 => h9) rfl d_M_alike_93 ?_
                          refine lv_iload hx hb d_M_alike_96 (lv_at hl 5 rfl) ?_
                          refine xi_ald hx hb hK hP 2 1 rfl rfl (k := j) (by omega) (by first | decide | omega) d_M_alike_98 ?_
                          refine xq_mul hx hb d_M_alike_99 ?_
                          refine lv_aload_n hx hb d_M_alike_100 rfl (lv_at hl 0 rfl) ?_
                          refine va_get (D := D) (ci := 2) (v := .ref mm) (C := R_M) (T := F_M) (N := 21) hx hb hts iw_M hown hK hP 0 rfl rfl 2 (by decide) (hts _ tw_389) (fun _ h9 => h9) rfl d_M_alike_101 ?_
                          refine lv_iload hx hb d_M_alike_104 (lv_at hl 5 rfl) ?_
                          refine xi_ald hx hb hK hP 1 1 rfl rfl (k := j) (by omega) (by first | decide | omega) d_M_alike_106 ?_
                          refine lv_aload_n hx hb d_M_alike_107 rfl (lv_at hl 0 rfl) ?_
                          refine va_get (D := D) (ci := 2) (v := .ref kf) (C := R_M) (T := F_M) (N := 21) hx hb hts iw_M hown hK hP 0 rfl rfl 4 (by decide) (hts _ tw_391) (fun _ h9 => h9) rfl d_M_alike_108 ?_
                          refine lv_iload hx hb d_M_alike_111 (lv_at hl 4 rfl) ?_
                          refine xi_ald hx hb hK hP 2 1 rfl rfl (k := i) (by omega) (by first | decide | omega) d_M_alike_113 ?_
                          refine xq_mul hx hb d_M_alike_114 ?_
                          refine xi_ne (tgt := 122) (X := ((Fm i) * (Kp j))) (Y := ((Fm j) * (Kp i))) hx hb (iI_toInt (iB_of (mulB (hF _ (by omega)) (hKb _ (by omega))) (by decide))) (iI_toInt (iB_of (mulB (hF _ (by omega)) (hKb _ (by omega))) (by decide))) d_M_alike_115 (by decide) (fun c115_15 => ?_) (fun c115_15 => ?_)
                          · skip
                            refine lv_iconst (v := nI 0) hx hb d_M_alike_122 (by decide) ?_
                            refine lv_istore_n (lv' := [(3, .int (nI 0)), (0, .ref g), (1, .int (nI 1)), (2, .int (nI 1)), (4, .int (nI i)), (5, .int (nI j))]) hx hb d_M_alike_123 rfl hl (by decide) rfl (fun ls hl => ?_)
                            refine lv_iinc (v := nI (j + 1)) (lv' := [(5, .int (nI (j + 1))), (3, .int (nI 0)), (0, .ref g), (1, .int (nI 1)), (2, .int (nI 1)), (4, .int (nI i))]) hx hb d_M_alike_124 hl (k := 5) rfl (nI_add _ _) (by decide) rfl (fun ls hl => ?_)
                            refine lv_goto (tgt := 74) hx hb d_M_alike_127 (by decide) ?_
                            exact ih_74 (j + 1) 0 H locs ls (by omega) (by decide) (⟨fun q => absurd q (by decide), fun q => absurd (q.2 j (by omega)) c115_15⟩) (by omega) hP hD hS (lv_sub hl [2, 3, 4, 1, 5, 0] rfl)
                          · skip
                            refine lv_iconst (v := nI 1) hx hb d_M_alike_118 (by decide) ?_
                            refine lv_goto (tgt := 123) hx hb d_M_alike_119 (by decide) ?_
                            refine lv_istore_n (lv' := [(3, .int (nI 1)), (0, .ref g), (1, .int (nI 1)), (2, .int (nI 1)), (4, .int (nI i)), (5, .int (nI j))]) hx hb d_M_alike_123 rfl hl (by decide) rfl (fun ls hl => ?_)
                            refine lv_iinc (v := nI (j + 1)) (lv' := [(5, .int (nI (j + 1))), (3, .int (nI 1)), (0, .ref g), (1, .int (nI 1)), (2, .int (nI 1)), (4, .int (nI i))]) hx hb d_M_alike_124 hl (k := 5) rfl (nI_add _ _) (by decide) rfl (fun ls hl => ?_)
                            refine lv_goto (tgt := 74) hx hb d_M_alike_127 (by decide) ?_
                            exact ih_74 (j + 1) 1 H locs ls (by omega) (by decide) (⟨fun _ => ⟨(hii.mp (by omega)).1, fun b hb2 => by by_cases z : b = j; rw [z]; exact c115_15; exact (hii.mp (by omega)).2 b (by omega)⟩, fun _ => rfl⟩) (by omega) hP hD hS (lv_sub hl [2, 3, 4, 1, 5, 0] rfl)
                  exact lp_74 ((i - 0) + 1) 0 is9 H locs ls (Nat.zero_le _) hi9 (⟨fun q => ⟨his.mp q, fun b z => absurd z (Nat.not_lt_zero _)⟩, fun q => his.mpr q.1⟩) (by omega) hP hD hS (lv_sub hl [3, 2, 1, 4, 5, 0] rfl)
            · skip
              refine lv_aload_n hx hb d_M_alike_35 rfl (lv_at hl 0 rfl) ?_
              refine va_get (D := D) (ci := 2) (v := .ref mm) (C := R_M) (T := F_M) (N := 21) hx hb hts iw_M hown hK hP 0 rfl rfl 2 (by decide) (hts _ tw_389) (fun _ h9 => h9) rfl d_M_alike_36 ?_
              refine lv_iload hx hb d_M_alike_39 (lv_at hl 4 rfl) ?_
              refine xi_ald hx hb hK hP 1 1 rfl rfl (k := i) (by omega) (by first | decide | omega) d_M_alike_41 ?_
              refine xz_eq (tgt := 49) (X := (Fm i)) hx hb (iI_toInt (iB_of (hF _ (by omega)) (by decide))) d_M_alike_42 (by decide) (fun c42_16 => ?_) (fun c42_16 => ?_)
              · skip
                refine lv_iconst (v := nI 0) hx hb d_M_alike_49 (by decide) ?_
                refine lv_istore_n (lv' := [(1, .int (nI 0)), (0, .ref g), (2, .int (nI ot)), (3, .int (nI is9)), (4, .int (nI i))]) hx hb d_M_alike_50 rfl hl (by decide) rfl (fun ls hl => ?_)
                refine lv_iload_n hx hb d_M_alike_51 rfl (lv_at hl 2 rfl) ?_
                refine xz_ne (tgt := 65) (X := (ot : Nat)) hx hb (nI_toInt (by omega)) d_M_alike_52 (by decide) (fun c52_17 => ?_) (fun c52_17 => ?_)
                · skip
                  refine lv_iconst (v := nI 1) hx hb d_M_alike_65 (by decide) ?_
                  refine lv_goto (tgt := 70) hx hb d_M_alike_66 (by decide) ?_
                  refine lv_istore_n (lv' := [(2, .int (nI 1)), (1, .int (nI 0)), (0, .ref g), (3, .int (nI is9)), (4, .int (nI i))]) hx hb d_M_alike_70 rfl hl (by decide) rfl (fun ls hl => ?_)
                  refine lv_iconst (v := nI 0) hx hb d_M_alike_71 (by decide) ?_
                  refine lv_istore (lv' := [(5, .int (nI 0)), (2, .int (nI 1)), (1, .int (nI 0)), (0, .ref g), (3, .int (nI is9)), (4, .int (nI i))]) hx hb d_M_alike_72 hl (by decide) rfl (fun ls hl => ?_)
                  have lp_74 : ∀ (n_74 : Nat) (j : Nat) (ii : Nat) (H : Heap) (locs : List Loc) (ls : Array Slot), (j ≤ i) → (ii ≤ 1) → (ii = 1 ↔ (upto Fm Kp i ∧ ∀ b, b < j → Fm i * Kp b = Fm b * Kp i)) → (i - j) < n_74 → va_P D vwC [(g, .inr (2, [.int (nI 0), .int (nI d), .ref mm, .int ik, .ref kf, .ref tb, .int rw, .ref wk, .int ab, .int be, .ref pl, .ref sp, .int a0, .int a1, .int b0, .int b1, .ref po, .ref to, .ref ba, .ref li, .int lm])), (mm, IA cI 16 Fm), (kf, IA cI 16 Kp)] H → va_D A [(g, .inr (2, [.int (nI 0), .int (nI d), .ref mm, .int ik, .ref kf, .ref tb, .int rw, .ref wk, .int ab, .int be, .ref pl, .ref sp, .int a0, .int a1, .int b0, .int b1, .ref po, .ref to, .ref ba, .ref li, .int lm])), (mm, IA cI 16 Fm), (kf, IA cI 16 Kp)] → va_S A s.heap H locs → lv_has ls 6 [(0, .ref g), (1, .int (nI 0)), (2, .int (nI 1)), (3, .int (nI ii)), (4, .int (nI i)), (5, .int (nI j))] → W p l e rm_r_alike s m args below meth c H locs 0 0 Q (F0 m 74 ls []) := by
                    intro n_74
                    induction n_74 with
                    | zero => intro j ii H locs ls hj hi1 hii hn_74; exact absurd hn_74 (Nat.not_lt_zero _)
                    | succ n_74 ih_74 =>
                      intro j ii H locs ls hj hi1 hii hn_74 hP hD hS hl
                      refine lv_iload hx hb d_M_alike_74 (lv_at hl 5 rfl) ?_
                      refine lv_iload hx hb d_M_alike_76 (lv_at hl 4 rfl) ?_
                      refine xn_ge (tgt := 130) hx hb (by omega) (by omega) d_M_alike_78 (by decide) (fun c78_18 => ?_) (fun c78_18 => ?_)
                      · skip
                        refine lv_iinc (v := nI (i + 1)) (lv' := [(4, .int (nI (i + 1))), (0, .ref g), (1, .int (nI 0)), (2, .int (nI 1)), (3, .int (nI ii)), (5, .int (nI j))]) hx hb d_M_alike_130 hl (k := 4) rfl (nI_add _ _) (by decide) rfl (fun ls hl => ?_)
                        refine lv_goto (tgt := 24) hx hb d_M_alike_133 (by decide) ?_
                        exact ih_24 (i + 1) 0 1 ii H locs ls (by omega) (by decide) (by decide) hi1 (⟨fun q => absurd q (by decide), fun ⟨k, q1, q2⟩ => by by_cases z : k = i; rw [z] at q2; exact absurd c42_16 q2; exact absurd (hso.mpr ⟨k, by omega, q2⟩) (by omega)⟩) (⟨fun _ => (let ⟨k, q1, q2⟩ := hot.mp (by omega); ⟨k, by omega, q2⟩), fun _ => rfl⟩) (⟨fun q a b hb2 ha2 => by by_cases z : a = i; subst z; exact (hii.mp q).2 b (by omega); exact (hii.mp q).1 a b hb2 (by omega), fun q => hii.mpr ⟨fun a b hb2 ha2 => q a b hb2 (by omega), fun b hb2 => q i b (by omega) (by omega)⟩⟩) (by omega) hP hD hS (lv_sub hl [1, 2, 3, 4, 0] rfl)
                      · skip
                        refine lv_iload_n hx hb d_M_alike_81 rfl (lv_at hl 3 rfl) ?_
                        refine xz_eq (tgt := 122) (X := (ii : Nat)) hx hb (nI_toInt (by omega)) d_M_alike_82 (by decide) (fun c82_19 => ?_) (fun c82_19 => ?_)
                        · skip
                          refine lv_iconst (v := nI 0) hx hb d_M_alike_122 (by decide) ?_
                          refine lv_istore_n (lv' := [(3, .int (nI 0)), (0, .ref g), (1, .int (nI 0)), (2, .int (nI 1)), (4, .int (nI i)), (5, .int (nI j))]) hx hb d_M_alike_123 rfl hl (by decide) rfl (fun ls hl => ?_)
                          refine lv_iinc (v := nI (j + 1)) (lv' := [(5, .int (nI (j + 1))), (3, .int (nI 0)), (0, .ref g), (1, .int (nI 0)), (2, .int (nI 1)), (4, .int (nI i))]) hx hb d_M_alike_124 hl (k := 5) rfl (nI_add _ _) (by decide) rfl (fun ls hl => ?_)
                          refine lv_goto (tgt := 74) hx hb d_M_alike_127 (by decide) ?_
                          exact ih_74 (j + 1) 0 H locs ls (by omega) (by decide) (⟨fun q => absurd q (by decide), fun q => absurd (hii.mpr ⟨q.1, fun b hb2 => q.2 b (by omega)⟩) (by omega)⟩) (by omega) hP hD hS (lv_sub hl [2, 3, 4, 1, 5, 0] rfl)
                        · skip
                          refine lv_aload_n hx hb d_M_alike_85 rfl (lv_at hl 0 rfl) ?_
                          refine va_get (D := D) (ci := 2) (v := .ref mm) (C := R_M) (T := F_M) (N := 21) hx hb hts iw_M hown hK hP 0 rfl rfl 2 (by decide) (hts _ tw_389) (fun _ h9 => h9) rfl d_M_alike_86 ?_
                          refine lv_iload hx hb d_M_alike_89 (lv_at hl 4 rfl) ?_
                          refine xi_ald hx hb hK hP 1 1 rfl rfl (k := i) (by omega) (by first | decide | omega) d_M_alike_91 ?_
                          refine lv_aload_n hx hb d_M_alike_92 rfl (lv_at hl 0 rfl) ?_
                          refine va_get (D := D) (ci := 2) (v := .ref kf) (C := R_M) (T := F_M) (N := 21) hx hb hts iw_M hown hK hP 0 rfl rfl 4 (by decide) (hts _ tw_391) (fun _ h9 => h9) rfl d_M_alike_93 ?_
                          refine lv_iload hx hb d_M_alike_96 (lv_at hl 5 rfl) ?_
                          refine xi_ald hx hb hK hP 2 1 rfl rfl (k := j) (by omega) (by first | decide | omega) d_M_alike_98 ?_
                          refine xq_mul hx hb d_M_alike_99 ?_
                          refine lv_aload_n hx hb d_M_alike_100 rfl (lv_at hl 0 rfl) ?_
                          refine va_get (D := D) (ci := 2) (v := .ref mm) (C := R_M) (T := F_M) (N := 21) hx hb hts iw_M hown hK hP 0 rfl rfl 2 (by decide) (hts _ tw_389) (fun _ h9 => h9) rfl d_M_alike_101 ?_
                          refine lv_iload hx hb d_M_alike_104 (lv_at hl 5 rfl) ?_
                          refine xi_ald hx hb hK hP 1 1 rfl rfl (k := j) (by omega) (by first | decide | omega) d_M_alike_106 ?_
                          refine lv_aload_n hx hb d_M_alike_107 rfl (lv_at hl 0 rfl) ?_
                          refine va_get (D := D) (ci := 2) (v := .ref kf) (C := R_M) (T := F_M) (N := 21) hx hb hts iw_M hown hK hP 0 rfl rfl 4 (by decide) (hts _ tw_391) (fun _ h9 => h9) rfl d_M_alike_108 ?_
                          refine lv_iload hx hb d_M_alike_111 (lv_at hl 4 rfl) ?_
                          refine xi_ald hx hb hK hP 2 1 rfl rfl (k := i) (by omega) (by first | decide | omega) d_M_alike_113 ?_
                          refine xq_mul hx hb d_M_alike_114 ?_
                          refine xi_ne (tgt := 122) (X := ((Fm i) * (Kp j))) (Y := ((Fm j) * (Kp i))) hx hb (iI_toInt (iB_of (mulB (hF _ (by omega)) (hKb _ (by omega))) (by decide))) (iI_toInt (iB_of (mulB (hF _ (by omega)) (hKb _ (by omega))) (by decide))) d_M_alike_115 (by decide) (fun c115_20 => ?_) (fun c115_20 => ?_)
                          · skip
                            refine lv_iconst (v := nI 0) hx hb d_M_alike_122 (by decide) ?_
                            refine lv_istore_n (lv' := [(3, .int (nI 0)), (0, .ref g), (1, .int (nI 0)), (2, .int (nI 1)), (4, .int (nI i)), (5, .int (nI j))]) hx hb d_M_alike_123 rfl hl (by decide) rfl (fun ls hl => ?_)
                            refine lv_iinc (v := nI (j + 1)) (lv' := [(5, .int (nI (j + 1))), (3, .int (nI 0)), (0, .ref g), (1, .int (nI 0)), (2, .int (nI 1)), (4, .int (nI i))]) hx hb d_M_alike_124 hl (k := 5) rfl (nI_add _ _) (by decide) rfl (fun ls hl => ?_)
                            refine lv_goto (tgt := 74) hx hb d_M_alike_127 (by decide) ?_
                            exact ih_74 (j + 1) 0 H locs ls (by omega) (by decide) (⟨fun q => absurd q (by decide), fun q => absurd (q.2 j (by omega)) c115_20⟩) (by omega) hP hD hS (lv_sub hl [2, 3, 4, 1, 5, 0] rfl)
                          · skip
                            refine lv_iconst (v := nI 1) hx hb d_M_alike_118 (by decide) ?_
                            refine lv_goto (tgt := 123) hx hb d_M_alike_119 (by decide) ?_
                            refine lv_istore_n (lv' := [(3, .int (nI 1)), (0, .ref g), (1, .int (nI 0)), (2, .int (nI 1)), (4, .int (nI i)), (5, .int (nI j))]) hx hb d_M_alike_123 rfl hl (by decide) rfl (fun ls hl => ?_)
                            refine lv_iinc (v := nI (j + 1)) (lv' := [(5, .int (nI (j + 1))), (3, .int (nI 1)), (0, .ref g), (1, .int (nI 0)), (2, .int (nI 1)), (4, .int (nI i))]) hx hb d_M_alike_124 hl (k := 5) rfl (nI_add _ _) (by decide) rfl (fun ls hl => ?_)
                            refine lv_goto (tgt := 74) hx hb d_M_alike_127 (by decide) ?_
                            exact ih_74 (j + 1) 1 H locs ls (by omega) (by decide) (⟨fun _ => ⟨(hii.mp (by omega)).1, fun b hb2 => by by_cases z : b = j; rw [z]; exact c115_20; exact (hii.mp (by omega)).2 b (by omega)⟩, fun _ => rfl⟩) (by omega) hP hD hS (lv_sub hl [2, 3, 4, 1, 5, 0] rfl)
                  exact lp_74 ((i - 0) + 1) 0 is9 H locs ls (Nat.zero_le _) hi9 (⟨fun q => ⟨his.mp q, fun b z => absurd z (Nat.not_lt_zero _)⟩, fun q => his.mpr q.1⟩) (by omega) hP hD hS (lv_sub hl [3, 2, 1, 4, 5, 0] rfl)
                · skip
                  refine lv_aload_n hx hb d_M_alike_55 rfl (lv_at hl 1 rfl) ?_
                  refine va_get (D := D) (ci := 2) (v := .ref kf) (C := R_M) (T := F_M) (N := 21) hx hb hts iw_M hown hK hP 0 rfl rfl 4 (by decide) (hts _ tw_391) (fun _ h9 => h9) rfl d_M_alike_56 ?_
                  refine lv_iload hx hb d_M_alike_59 (lv_at hl 4 rfl) ?_
                  refine xi_ald hx hb hK hP 2 1 rfl rfl (k := i) (by omega) (by first | decide | omega) d_M_alike_61 ?_
                  refine xz_eq (tgt := 69) (X := (Kp i)) hx hb (iI_toInt (iB_of (hKb _ (by omega)) (by decide))) d_M_alike_62 (by decide) (fun c62_21 => ?_) (fun c62_21 => ?_)
                  · skip
                    refine lv_iconst (v := nI 0) hx hb d_M_alike_69 (by decide) ?_
                    refine lv_istore_n (lv' := [(2, .int (nI 0)), (1, .int (nI 0)), (0, .ref g), (3, .int (nI is9)), (4, .int (nI i))]) hx hb d_M_alike_70 rfl hl (by decide) rfl (fun ls hl => ?_)
                    refine lv_iconst (v := nI 0) hx hb d_M_alike_71 (by decide) ?_
                    refine lv_istore (lv' := [(5, .int (nI 0)), (2, .int (nI 0)), (1, .int (nI 0)), (0, .ref g), (3, .int (nI is9)), (4, .int (nI i))]) hx hb d_M_alike_72 hl (by decide) rfl (fun ls hl => ?_)
                    have lp_74 : ∀ (n_74 : Nat) (j : Nat) (ii : Nat) (H : Heap) (locs : List Loc) (ls : Array Slot), (j ≤ i) → (ii ≤ 1) → (ii = 1 ↔ (upto Fm Kp i ∧ ∀ b, b < j → Fm i * Kp b = Fm b * Kp i)) → (i - j) < n_74 → va_P D vwC [(g, .inr (2, [.int (nI 0), .int (nI d), .ref mm, .int ik, .ref kf, .ref tb, .int rw, .ref wk, .int ab, .int be, .ref pl, .ref sp, .int a0, .int a1, .int b0, .int b1, .ref po, .ref to, .ref ba, .ref li, .int lm])), (mm, IA cI 16 Fm), (kf, IA cI 16 Kp)] H → va_D A [(g, .inr (2, [.int (nI 0), .int (nI d), .ref mm, .int ik, .ref kf, .ref tb, .int rw, .ref wk, .int ab, .int be, .ref pl, .ref sp, .int a0, .int a1, .int b0, .int b1, .ref po, .ref to, .ref ba, .ref li, .int lm])), (mm, IA cI 16 Fm), (kf, IA cI 16 Kp)] → va_S A s.heap H locs → lv_has ls 6 [(0, .ref g), (1, .int (nI 0)), (2, .int (nI 0)), (3, .int (nI ii)), (4, .int (nI i)), (5, .int (nI j))] → W p l e rm_r_alike s m args below meth c H locs 0 0 Q (F0 m 74 ls []) := by
                      intro n_74
                      induction n_74 with
                      | zero => intro j ii H locs ls hj hi1 hii hn_74; exact absurd hn_74 (Nat.not_lt_zero _)
                      | succ n_74 ih_74 =>
                        intro j ii H locs ls hj hi1 hii hn_74 hP hD hS hl
                        refine lv_iload hx hb d_M_alike_74 (lv_at hl 5 rfl) ?_
                        refine lv_iload hx hb d_M_alike_76 (lv_at hl 4 rfl) ?_
                        refine xn_ge (tgt := 130) hx hb (by omega) (by omega) d_M_alike_78 (by decide) (fun c78_22 => ?_) (fun c78_22 => ?_)
                        · skip
                          refine lv_iinc (v := nI (i + 1)) (lv' := [(4, .int (nI (i + 1))), (0, .ref g), (1, .int (nI 0)), (2, .int (nI 0)), (3, .int (nI ii)), (5, .int (nI j))]) hx hb d_M_alike_130 hl (k := 4) rfl (nI_add _ _) (by decide) rfl (fun ls hl => ?_)
                          refine lv_goto (tgt := 24) hx hb d_M_alike_133 (by decide) ?_
                          exact ih_24 (i + 1) 0 0 ii H locs ls (by omega) (by decide) (by decide) hi1 (⟨fun q => absurd q (by decide), fun ⟨k, q1, q2⟩ => by by_cases z : k = i; rw [z] at q2; exact absurd c42_16 q2; exact absurd (hso.mpr ⟨k, by omega, q2⟩) (by omega)⟩) (⟨fun q => absurd q (by decide), fun ⟨k, q1, q2⟩ => by by_cases z : k = i; rw [z] at q2; exact absurd c62_21 q2; exact absurd (hot.mpr ⟨k, by omega, q2⟩) (by omega)⟩) (⟨fun q a b hb2 ha2 => by by_cases z : a = i; subst z; exact (hii.mp q).2 b (by omega); exact (hii.mp q).1 a b hb2 (by omega), fun q => hii.mpr ⟨fun a b hb2 ha2 => q a b hb2 (by omega), fun b hb2 => q i b (by omega) (by omega)⟩⟩) (by omega) hP hD hS (lv_sub hl [1, 2, 3, 4, 0] rfl)
                        · skip
                          refine lv_iload_n hx hb d_M_alike_81 rfl (lv_at hl 3 rfl) ?_
                          refine xz_eq (tgt := 122) (X := (ii : Nat)) hx hb (nI_toInt (by omega)) d_M_alike_82 (by decide) (fun c82_23 => ?_) (fun c82_23 => ?_)
                          · skip
                            refine lv_iconst (v := nI 0) hx hb d_M_alike_122 (by decide) ?_
                            refine lv_istore_n (lv' := [(3, .int (nI 0)), (0, .ref g), (1, .int (nI 0)), (2, .int (nI 0)), (4, .int (nI i)), (5, .int (nI j))]) hx hb d_M_alike_123 rfl hl (by decide) rfl (fun ls hl => ?_)
                            refine lv_iinc (v := nI (j + 1)) (lv' := [(5, .int (nI (j + 1))), (3, .int (nI 0)), (0, .ref g), (1, .int (nI 0)), (2, .int (nI 0)), (4, .int (nI i))]) hx hb d_M_alike_124 hl (k := 5) rfl (nI_add _ _) (by decide) rfl (fun ls hl => ?_)
                            refine lv_goto (tgt := 74) hx hb d_M_alike_127 (by decide) ?_
                            exact ih_74 (j + 1) 0 H locs ls (by omega) (by decide) (⟨fun q => absurd q (by decide), fun q => absurd (hii.mpr ⟨q.1, fun b hb2 => q.2 b (by omega)⟩) (by omega)⟩) (by omega) hP hD hS (lv_sub hl [2, 3, 4, 1, 5, 0] rfl)
                          · skip
                            refine lv_aload_n hx hb d_M_alike_85 rfl (lv_at hl 0 rfl) ?_
                            refine va_get (D := D) (ci := 2) (v := .ref mm) (C := R_M) (T := F_M) (N := 21) hx hb hts iw_M hown hK hP 0 rfl rfl 2 (by decide) (hts _ tw_389) (fun _ h9 => h9) rfl d_M_alike_86 ?_
                            refine lv_iload hx hb d_M_alike_89 (lv_at hl 4 rfl) ?_
                            refine xi_ald hx hb hK hP 1 1 rfl rfl (k := i) (by omega) (by first | decide | omega) d_M_alike_91 ?_
                            refine lv_aload_n hx hb d_M_alike_92 rfl (lv_at hl 0 rfl) ?_
                            refine va_get (D := D) (ci := 2) (v := .ref kf) (C := R_M) (T := F_M) (N := 21) hx hb hts iw_M hown hK hP 0 rfl rfl 4 (by decide) (hts _ tw_391) (fun _ h9 => h9) rfl d_M_alike_93 ?_
                            refine lv_iload hx hb d_M_alike_96 (lv_at hl 5 rfl) ?_
                            refine xi_ald hx hb hK hP 2 1 rfl rfl (k := j) (by omega) (by first | decide | omega) d_M_alike_98 ?_
                            refine xq_mul hx hb d_M_alike_99 ?_
                            refine lv_aload_n hx hb d_M_alike_100 rfl (lv_at hl 0 rfl) ?_
                            refine va_get (D := D) (ci := 2) (v := .ref mm) (C := R_M) (T := F_M) (N := 21) hx hb hts iw_M hown hK hP 0 rfl rfl 2 (by decide) (hts _ tw_389) (fun _ h9 => h9) rfl d_M_alike_101 ?_
                            refine lv_iload hx hb d_M_alike_104 (lv_at hl 5 rfl) ?_
                            refine xi_ald hx hb hK hP 1 1 rfl rfl (k := j) (by omega) (by first | decide | omega) d_M_alike_106 ?_
                            refine lv_aload_n hx hb d_M_alike_107 rfl (lv_at hl 0 rfl) ?_
                            refine va_get (D := D) (ci := 2) (v := .ref kf) (C := R_M) (T := F_M) (N := 21) hx hb hts iw_M hown hK hP 0 rfl rfl 4 (by decide) (hts _ tw_391) (fun _ h9 => h9) rfl d_M_alike_108 ?_
                            refine lv_iload hx hb d_M_alike_111 (lv_at hl 4 rfl) ?_
                            refine xi_ald hx hb hK hP 2 1 rfl rfl (k := i) (by omega) (by first | decide | omega) d_M_alike_113 ?_
                            refine xq_mul hx hb d_M_alike_114 ?_
                            refine xi_ne (tgt := 122) (X := ((Fm i) * (Kp j))) (Y := ((Fm j) * (Kp i))) hx hb (iI_toInt (iB_of (mulB (hF _ (by omega)) (hKb _ (by omega))) (by decide))) (iI_toInt (iB_of (mulB (hF _ (by omega)) (hKb _ (by omega))) (by decide))) d_M_alike_115 (by decide) (fun c115_24 => ?_) (fun c115_24 => ?_)
                            · skip
                              refine lv_iconst (v := nI 0) hx hb d_M_alike_122 (by decide) ?_
                              refine lv_istore_n (lv' := [(3, .int (nI 0)), (0, .ref g), (1, .int (nI 0)), (2, .int (nI 0)), (4, .int (nI i)), (5, .int (nI j))]) hx hb d_M_alike_123 rfl hl (by decide) rfl (fun ls hl => ?_)
                              refine lv_iinc (v := nI (j + 1)) (lv' := [(5, .int (nI (j + 1))), (3, .int (nI 0)), (0, .ref g), (1, .int (nI 0)), (2, .int (nI 0)), (4, .int (nI i))]) hx hb d_M_alike_124 hl (k := 5) rfl (nI_add _ _) (by decide) rfl (fun ls hl => ?_)
                              refine lv_goto (tgt := 74) hx hb d_M_alike_127 (by decide) ?_
                              exact ih_74 (j + 1) 0 H locs ls (by omega) (by decide) (⟨fun q => absurd q (by decide), fun q => absurd (q.2 j (by omega)) c115_24⟩) (by omega) hP hD hS (lv_sub hl [2, 3, 4, 1, 5, 0] rfl)
                            · skip
                              refine lv_iconst (v := nI 1) hx hb d_M_alike_118 (by decide) ?_
                              refine lv_goto (tgt := 123) hx hb d_M_alike_119 (by decide) ?_
                              refine lv_istore_n (lv' := [(3, .int (nI 1)), (0, .ref g), (1, .int (nI 0)), (2, .int (nI 0)), (4, .int (nI i)), (5, .int (nI j))]) hx hb d_M_alike_123 rfl hl (by decide) rfl (fun ls hl => ?_)
                              refine lv_iinc (v := nI (j + 1)) (lv' := [(5, .int (nI (j + 1))), (3, .int (nI 1)), (0, .ref g), (1, .int (nI 0)), (2, .int (nI 0)), (4, .int (nI i))]) hx hb d_M_alike_124 hl (k := 5) rfl (nI_add _ _) (by decide) rfl (fun ls hl => ?_)
                              refine lv_goto (tgt := 74) hx hb d_M_alike_127 (by decide) ?_
                              exact ih_74 (j + 1) 1 H locs ls (by omega) (by decide) (⟨fun _ => ⟨(hii.mp (by omega)).1, fun b hb2 => by by_cases z : b = j; rw [z]; exact c115_24; exact (hii.mp (by omega)).2 b (by omega)⟩, fun _ => rfl⟩) (by omega) hP hD hS (lv_sub hl [2, 3, 4, 1, 5, 0] rfl)
                    exact lp_74 ((i - 0) + 1) 0 is9 H locs ls (Nat.zero_le _) hi9 (⟨fun q => ⟨his.mp q, fun b z => absurd z (Nat.not_lt_zero _)⟩, fun q => his.mpr q.1⟩) (by omega) hP hD hS (lv_sub hl [3, 2, 1, 4, 5, 0] rfl)
                  · skip
                    refine lv_iconst (v := nI 1) hx hb d_M_alike_65 (by decide) ?_
                    refine lv_goto (tgt := 70) hx hb d_M_alike_66 (by decide) ?_
                    refine lv_istore_n (lv' := [(2, .int (nI 1)), (1, .int (nI 0)), (0, .ref g), (3, .int (nI is9)), (4, .int (nI i))]) hx hb d_M_alike_70 rfl hl (by decide) rfl (fun ls hl => ?_)
                    refine lv_iconst (v := nI 0) hx hb d_M_alike_71 (by decide) ?_
                    refine lv_istore (lv' := [(5, .int (nI 0)), (2, .int (nI 1)), (1, .int (nI 0)), (0, .ref g), (3, .int (nI is9)), (4, .int (nI i))]) hx hb d_M_alike_72 hl (by decide) rfl (fun ls hl => ?_)
                    have lp_74 : ∀ (n_74 : Nat) (j : Nat) (ii : Nat) (H : Heap) (locs : List Loc) (ls : Array Slot), (j ≤ i) → (ii ≤ 1) → (ii = 1 ↔ (upto Fm Kp i ∧ ∀ b, b < j → Fm i * Kp b = Fm b * Kp i)) → (i - j) < n_74 → va_P D vwC [(g, .inr (2, [.int (nI 0), .int (nI d), .ref mm, .int ik, .ref kf, .ref tb, .int rw, .ref wk, .int ab, .int be, .ref pl, .ref sp, .int a0, .int a1, .int b0, .int b1, .ref po, .ref to, .ref ba, .ref li, .int lm])), (mm, IA cI 16 Fm), (kf, IA cI 16 Kp)] H → va_D A [(g, .inr (2, [.int (nI 0), .int (nI d), .ref mm, .int ik, .ref kf, .ref tb, .int rw, .ref wk, .int ab, .int be, .ref pl, .ref sp, .int a0, .int a1, .int b0, .int b1, .ref po, .ref to, .ref ba, .ref li, .int lm])), (mm, IA cI 16 Fm), (kf, IA cI 16 Kp)] → va_S A s.heap H locs → lv_has ls 6 [(0, .ref g), (1, .int (nI 0)), (2, .int (nI 1)), (3, .int (nI ii)), (4, .int (nI i)), (5, .int (nI j))] → W p l e rm_r_alike s m args below meth c H locs 0 0 Q (F0 m 74 ls []) := by
                      intro n_74
                      induction n_74 with
                      | zero => intro j ii H locs ls hj hi1 hii hn_74; exact absurd hn_74 (Nat.not_lt_zero _)
                      | succ n_74 ih_74 =>
                        intro j ii H locs ls hj hi1 hii hn_74 hP hD hS hl
                        refine lv_iload hx hb d_M_alike_74 (lv_at hl 5 rfl) ?_
                        refine lv_iload hx hb d_M_alike_76 (lv_at hl 4 rfl) ?_
                        refine xn_ge (tgt := 130) hx hb (by omega) (by omega) d_M_alike_78 (by decide) (fun c78_25 => ?_) (fun c78_25 => ?_)
                        · skip
                          refine lv_iinc (v := nI (i + 1)) (lv' := [(4, .int (nI (i + 1))), (0, .ref g), (1, .int (nI 0)), (2, .int (nI 1)), (3, .int (nI ii)), (5, .int (nI j))]) hx hb d_M_alike_130 hl (k := 4) rfl (nI_add _ _) (by decide) rfl (fun ls hl => ?_)
                          refine lv_goto (tgt := 24) hx hb d_M_alike_133 (by decide) ?_
                          exact ih_24 (i + 1) 0 1 ii H locs ls (by omega) (by decide) (by decide) hi1 (⟨fun q => absurd q (by decide), fun ⟨k, q1, q2⟩ => by by_cases z : k = i; rw [z] at q2; exact absurd c42_16 q2; exact absurd (hso.mpr ⟨k, by omega, q2⟩) (by omega)⟩) (⟨fun _ => ⟨i, by omega, c62_21⟩, fun _ => rfl⟩) (⟨fun q a b hb2 ha2 => by by_cases z : a = i; subst z; exact (hii.mp q).2 b (by omega); exact (hii.mp q).1 a b hb2 (by omega), fun q => hii.mpr ⟨fun a b hb2 ha2 => q a b hb2 (by omega), fun b hb2 => q i b (by omega) (by omega)⟩⟩) (by omega) hP hD hS (lv_sub hl [1, 2, 3, 4, 0] rfl)
                        · skip
                          refine lv_iload_n hx hb d_M_alike_81 rfl (lv_at hl 3 rfl) ?_
                          refine xz_eq (tgt := 122) (X := (ii : Nat)) hx hb (nI_toInt (by omega)) d_M_alike_82 (by decide) (fun c82_26 => ?_) (fun c82_26 => ?_)
                          · skip
                            refine lv_iconst (v := nI 0) hx hb d_M_alike_122 (by decide) ?_
                            refine lv_istore_n (lv' := [(3, .int (nI 0)), (0, .ref g), (1, .int (nI 0)), (2, .int (nI 1)), (4, .int (nI i)), (5, .int (nI j))]) hx hb d_M_alike_123 rfl hl (by decide) rfl (fun ls hl => ?_)
                            refine lv_iinc (v := nI (j + 1)) (lv' := [(5, .int (nI (j + 1))), (3, .int (nI 0)), (0, .ref g), (1, .int (nI 0)), (2, .int (nI 1)), (4, .int (nI i))]) hx hb d_M_alike_124 hl (k := 5) rfl (nI_add _ _) (by decide) rfl (fun ls hl => ?_)
                            refine lv_goto (tgt := 74) hx hb d_M_alike_127 (by decide) ?_
                            exact ih_74 (j + 1) 0 H locs ls (by omega) (by decide) (⟨fun q => absurd q (by decide), fun q => absurd (hii.mpr ⟨q.1, fun b hb2 => q.2 b (by omega)⟩) (by omega)⟩) (by omega) hP hD hS (lv_sub hl [2, 3, 4, 1, 5, 0] rfl)
                          · skip
                            refine lv_aload_n hx hb d_M_alike_85 rfl (lv_at hl 0 rfl) ?_
                            refine va_get (D := D) (ci := 2) (v := .ref mm) (C := R_M) (T := F_M) (N := 21) hx hb hts iw_M hown hK hP 0 rfl rfl 2 (by decide) (hts _ tw_389) (fun _ h9 => h9) rfl d_M_alike_86 ?_
                            refine lv_iload hx hb d_M_alike_89 (lv_at hl 4 rfl) ?_
                            refine xi_ald hx hb hK hP 1 1 rfl rfl (k := i) (by omega) (by first | decide | omega) d_M_alike_91 ?_
                            refine lv_aload_n hx hb d_M_alike_92 rfl (lv_at hl 0 rfl) ?_
                            refine va_get (D := D) (ci := 2) (v := .ref kf) (C := R_M) (T := F_M) (N := 21) hx hb hts iw_M hown hK hP 0 rfl rfl 4 (by decide) (hts _ tw_391) (fun _ h9 => h9) rfl d_M_alike_93 ?_
                            refine lv_iload hx hb d_M_alike_96 (lv_at hl 5 rfl) ?_
                            refine xi_ald hx hb hK hP 2 1 rfl rfl (k := j) (by omega) (by first | decide | omega) d_M_alike_98 ?_
                            refine xq_mul hx hb d_M_alike_99 ?_
                            refine lv_aload_n hx hb d_M_alike_100 rfl (lv_at hl 0 rfl) ?_
                            refine va_get (D := D) (ci := 2) (v := .ref mm) (C := R_M) (T := F_M) (N := 21) hx hb hts iw_M hown hK hP 0 rfl rfl 2 (by decide) (hts _ tw_389) (fun _ h9 => h9) rfl d_M_alike_101 ?_
                            refine lv_iload hx hb d_M_alike_104 (lv_at hl 5 rfl) ?_
                            refine xi_ald hx hb hK hP 1 1 rfl rfl (k := j) (by omega) (by first | decide | omega) d_M_alike_106 ?_
                            refine lv_aload_n hx hb d_M_alike_107 rfl (lv_at hl 0 rfl) ?_
                            refine va_get (D := D) (ci := 2) (v := .ref kf) (C := R_M) (T := F_M) (N := 21) hx hb hts iw_M hown hK hP 0 rfl rfl 4 (by decide) (hts _ tw_391) (fun _ h9 => h9) rfl d_M_alike_108 ?_
                            refine lv_iload hx hb d_M_alike_111 (lv_at hl 4 rfl) ?_
                            refine xi_ald hx hb hK hP 2 1 rfl rfl (k := i) (by omega) (by first | decide | omega) d_M_alike_113 ?_
                            refine xq_mul hx hb d_M_alike_114 ?_
                            refine xi_ne (tgt := 122) (X := ((Fm i) * (Kp j))) (Y := ((Fm j) * (Kp i))) hx hb (iI_toInt (iB_of (mulB (hF _ (by omega)) (hKb _ (by omega))) (by decide))) (iI_toInt (iB_of (mulB (hF _ (by omega)) (hKb _ (by omega))) (by decide))) d_M_alike_115 (by decide) (fun c115_27 => ?_) (fun c115_27 => ?_)
                            · skip
                              refine lv_iconst (v := nI 0) hx hb d_M_alike_122 (by decide) ?_
                              refine lv_istore_n (lv' := [(3, .int (nI 0)), (0, .ref g), (1, .int (nI 0)), (2, .int (nI 1)), (4, .int (nI i)), (5, .int (nI j))]) hx hb d_M_alike_123 rfl hl (by decide) rfl (fun ls hl => ?_)
                              refine lv_iinc (v := nI (j + 1)) (lv' := [(5, .int (nI (j + 1))), (3, .int (nI 0)), (0, .ref g), (1, .int (nI 0)), (2, .int (nI 1)), (4, .int (nI i))]) hx hb d_M_alike_124 hl (k := 5) rfl (nI_add _ _) (by decide) rfl (fun ls hl => ?_)
                              refine lv_goto (tgt := 74) hx hb d_M_alike_127 (by decide) ?_
                              exact ih_74 (j + 1) 0 H locs ls (by omega) (by decide) (⟨fun q => absurd q (by decide), fun q => absurd (q.2 j (by omega)) c115_27⟩) (by omega) hP hD hS (lv_sub hl [2, 3, 4, 1, 5, 0] rfl)
                            · skip
                              refine lv_iconst (v := nI 1) hx hb d_M_alike_118 (by decide) ?_
                              refine lv_goto (tgt := 123) hx hb d_M_alike_119 (by decide) ?_
                              refine lv_istore_n (lv' := [(3, .int (nI 1)), (0, .ref g), (1, .int (nI 0)), (2, .int (nI 1)), (4, .int (nI i)), (5, .int (nI j))]) hx hb d_M_alike_123 rfl hl (by decide) rfl (fun ls hl => ?_)
                              refine lv_iinc (v := nI (j + 1)) (lv' := [(5, .int (nI (j + 1))), (3, .int (nI 1)), (0, .ref g), (1, .int (nI 0)), (2, .int (nI 1)), (4, .int (nI i))]) hx hb d_M_alike_124 hl (k := 5) rfl (nI_add _ _) (by decide) rfl (fun ls hl => ?_)
                              refine lv_goto (tgt := 74) hx hb d_M_alike_127 (by decide) ?_
                              exact ih_74 (j + 1) 1 H locs ls (by omega) (by decide) (⟨fun _ => ⟨(hii.mp (by omega)).1, fun b hb2 => by by_cases z : b = j; rw [z]; exact c115_27; exact (hii.mp (by omega)).2 b (by omega)⟩, fun _ => rfl⟩) (by omega) hP hD hS (lv_sub hl [2, 3, 4, 1, 5, 0] rfl)
                    exact lp_74 ((i - 0) + 1) 0 is9 H locs ls (Nat.zero_le _) hi9 (⟨fun q => ⟨his.mp q, fun b z => absurd z (Nat.not_lt_zero _)⟩, fun q => his.mpr q.1⟩) (by omega) hP hD hS (lv_sub hl [3, 2, 1, 4, 5, 0] rfl)
              · skip
                refine lv_iconst (v := nI 1) hx hb d_M_alike_45 (by decide) ?_
                refine lv_goto (tgt := 50) hx hb d_M_alike_46 (by decide) ?_
                refine lv_istore_n (lv' := [(1, .int (nI 1)), (0, .ref g), (2, .int (nI ot)), (3, .int (nI is9)), (4, .int (nI i))]) hx hb d_M_alike_50 rfl hl (by decide) rfl (fun ls hl => ?_)
                refine lv_iload_n hx hb d_M_alike_51 rfl (lv_at hl 2 rfl) ?_
                refine xz_ne (tgt := 65) (X := (ot : Nat)) hx hb (nI_toInt (by omega)) d_M_alike_52 (by decide) (fun c52_28 => ?_) (fun c52_28 => ?_)
                · skip
                  refine lv_iconst (v := nI 1) hx hb d_M_alike_65 (by decide) ?_
                  refine lv_goto (tgt := 70) hx hb d_M_alike_66 (by decide) ?_
                  refine lv_istore_n (lv' := [(2, .int (nI 1)), (1, .int (nI 1)), (0, .ref g), (3, .int (nI is9)), (4, .int (nI i))]) hx hb d_M_alike_70 rfl hl (by decide) rfl (fun ls hl => ?_)
                  refine lv_iconst (v := nI 0) hx hb d_M_alike_71 (by decide) ?_
                  refine lv_istore (lv' := [(5, .int (nI 0)), (2, .int (nI 1)), (1, .int (nI 1)), (0, .ref g), (3, .int (nI is9)), (4, .int (nI i))]) hx hb d_M_alike_72 hl (by decide) rfl (fun ls hl => ?_)
                  have lp_74 : ∀ (n_74 : Nat) (j : Nat) (ii : Nat) (H : Heap) (locs : List Loc) (ls : Array Slot), (j ≤ i) → (ii ≤ 1) → (ii = 1 ↔ (upto Fm Kp i ∧ ∀ b, b < j → Fm i * Kp b = Fm b * Kp i)) → (i - j) < n_74 → va_P D vwC [(g, .inr (2, [.int (nI 0), .int (nI d), .ref mm, .int ik, .ref kf, .ref tb, .int rw, .ref wk, .int ab, .int be, .ref pl, .ref sp, .int a0, .int a1, .int b0, .int b1, .ref po, .ref to, .ref ba, .ref li, .int lm])), (mm, IA cI 16 Fm), (kf, IA cI 16 Kp)] H → va_D A [(g, .inr (2, [.int (nI 0), .int (nI d), .ref mm, .int ik, .ref kf, .ref tb, .int rw, .ref wk, .int ab, .int be, .ref pl, .ref sp, .int a0, .int a1, .int b0, .int b1, .ref po, .ref to, .ref ba, .ref li, .int lm])), (mm, IA cI 16 Fm), (kf, IA cI 16 Kp)] → va_S A s.heap H locs → lv_has ls 6 [(0, .ref g), (1, .int (nI 1)), (2, .int (nI 1)), (3, .int (nI ii)), (4, .int (nI i)), (5, .int (nI j))] → W p l e rm_r_alike s m args below meth c H locs 0 0 Q (F0 m 74 ls []) := by
                    intro n_74
                    induction n_74 with
                    | zero => intro j ii H locs ls hj hi1 hii hn_74; exact absurd hn_74 (Nat.not_lt_zero _)
                    | succ n_74 ih_74 =>
                      intro j ii H locs ls hj hi1 hii hn_74 hP hD hS hl
                      refine lv_iload hx hb d_M_alike_74 (lv_at hl 5 rfl) ?_
                      refine lv_iload hx hb d_M_alike_76 (lv_at hl 4 rfl) ?_
                      refine xn_ge (tgt := 130) hx hb (by omega) (by omega) d_M_alike_78 (by decide) (fun c78_29 => ?_) (fun c78_29 => ?_)
                      · skip
                        refine lv_iinc (v := nI (i + 1)) (lv' := [(4, .int (nI (i + 1))), (0, .ref g), (1, .int (nI 1)), (2, .int (nI 1)), (3, .int (nI ii)), (5, .int (nI j))]) hx hb d_M_alike_130 hl (k := 4) rfl (nI_add _ _) (by decide) rfl (fun ls hl => ?_)
                        refine lv_goto (tgt := 24) hx hb d_M_alike_133 (by decide) ?_
                        exact ih_24 (i + 1) 1 1 ii H locs ls (by omega) (by decide) (by decide) hi1 (⟨fun _ => ⟨i, by omega, c42_16⟩, fun _ => rfl⟩) (⟨fun _ => (let ⟨k, q1, q2⟩ := hot.mp (by omega); ⟨k, by omega, q2⟩), fun _ => rfl⟩) (⟨fun q a b hb2 ha2 => by by_cases z : a = i; subst z; exact (hii.mp q).2 b (by omega); exact (hii.mp q).1 a b hb2 (by omega), fun q => hii.mpr ⟨fun a b hb2 ha2 => q a b hb2 (by omega), fun b hb2 => q i b (by omega) (by omega)⟩⟩) (by omega) hP hD hS (lv_sub hl [1, 2, 3, 4, 0] rfl)
                      · skip
                        refine lv_iload_n hx hb d_M_alike_81 rfl (lv_at hl 3 rfl) ?_
                        refine xz_eq (tgt := 122) (X := (ii : Nat)) hx hb (nI_toInt (by omega)) d_M_alike_82 (by decide) (fun c82_30 => ?_) (fun c82_30 => ?_)
                        · skip
                          refine lv_iconst (v := nI 0) hx hb d_M_alike_122 (by decide) ?_
                          refine lv_istore_n (lv' := [(3, .int (nI 0)), (0, .ref g), (1, .int (nI 1)), (2, .int (nI 1)), (4, .int (nI i)), (5, .int (nI j))]) hx hb d_M_alike_123 rfl hl (by decide) rfl (fun ls hl => ?_)
                          refine lv_iinc (v := nI (j + 1)) (lv' := [(5, .int (nI (j + 1))), (3, .int (nI 0)), (0, .ref g), (1, .int (nI 1)), (2, .int (nI 1)), (4, .int (nI i))]) hx hb d_M_alike_124 hl (k := 5) rfl (nI_add _ _) (by decide) rfl (fun ls hl => ?_)
                          refine lv_goto (tgt := 74) hx hb d_M_alike_127 (by decide) ?_
                          exact ih_74 (j + 1) 0 H locs ls (by omega) (by decide) (⟨fun q => absurd q (by decide), fun q => absurd (hii.mpr ⟨q.1, fun b hb2 => q.2 b (by omega)⟩) (by omega)⟩) (by omega) hP hD hS (lv_sub hl [2, 3, 4, 1, 5, 0] rfl)
                        · skip
                          refine lv_aload_n hx hb d_M_alike_85 rfl (lv_at hl 0 rfl) ?_
                          refine va_get (D := D) (ci := 2) (v := .ref mm) (C := R_M) (T := F_M) (N := 21) hx hb hts iw_M hown hK hP 0 rfl rfl 2 (by decide) (hts _ tw_389) (fun _ h9 => h9) rfl d_M_alike_86 ?_
                          refine lv_iload hx hb d_M_alike_89 (lv_at hl 4 rfl) ?_
                          refine xi_ald hx hb hK hP 1 1 rfl rfl (k := i) (by omega) (by first | decide | omega) d_M_alike_91 ?_
                          refine lv_aload_n hx hb d_M_alike_92 rfl (lv_at hl 0 rfl) ?_
                          refine va_get (D := D) (ci := 2) (v := .ref kf) (C := R_M) (T := F_M) (N := 21) hx hb hts iw_M hown hK hP 0 rfl rfl 4 (by decide) (hts _ tw_391) (fun _ h9 => h9) rfl d_M_alike_93 ?_
                          refine lv_iload hx hb d_M_alike_96 (lv_at hl 5 rfl) ?_
                          refine xi_ald hx hb hK hP 2 1 rfl rfl (k := j) (by omega) (by first | decide | omega) d_M_alike_98 ?_
                          refine xq_mul hx hb d_M_alike_99 ?_
                          refine lv_aload_n hx hb d_M_alike_100 rfl (lv_at hl 0 rfl) ?_
                          refine va_get (D := D) (ci := 2) (v := .ref mm) (C := R_M) (T := F_M) (N := 21) hx hb hts iw_M hown hK hP 0 rfl rfl 2 (by decide) (hts _ tw_389) (fun _ h9 => h9) rfl d_M_alike_101 ?_
                          refine lv_iload hx hb d_M_alike_104 (lv_at hl 5 rfl) ?_
                          refine xi_ald hx hb hK hP 1 1 rfl rfl (k := j) (by omega) (by first | decide | omega) d_M_alike_106 ?_
                          refine lv_aload_n hx hb d_M_alike_107 rfl (lv_at hl 0 rfl) ?_
                          refine va_get (D := D) (ci := 2) (v := .ref kf) (C := R_M) (T := F_M) (N := 21) hx hb hts iw_M hown hK hP 0 rfl rfl 4 (by decide) (hts _ tw_391) (fun _ h9 => h9) rfl d_M_alike_108 ?_
                          refine lv_iload hx hb d_M_alike_111 (lv_at hl 4 rfl) ?_
                          refine xi_ald hx hb hK hP 2 1 rfl rfl (k := i) (by omega) (by first | decide | omega) d_M_alike_113 ?_
                          refine xq_mul hx hb d_M_alike_114 ?_
                          refine xi_ne (tgt := 122) (X := ((Fm i) * (Kp j))) (Y := ((Fm j) * (Kp i))) hx hb (iI_toInt (iB_of (mulB (hF _ (by omega)) (hKb _ (by omega))) (by decide))) (iI_toInt (iB_of (mulB (hF _ (by omega)) (hKb _ (by omega))) (by decide))) d_M_alike_115 (by decide) (fun c115_31 => ?_) (fun c115_31 => ?_)
                          · skip
                            refine lv_iconst (v := nI 0) hx hb d_M_alike_122 (by decide) ?_
                            refine lv_istore_n (lv' := [(3, .int (nI 0)), (0, .ref g), (1, .int (nI 1)), (2, .int (nI 1)), (4, .int (nI i)), (5, .int (nI j))]) hx hb d_M_alike_123 rfl hl (by decide) rfl (fun ls hl => ?_)
                            refine lv_iinc (v := nI (j + 1)) (lv' := [(5, .int (nI (j + 1))), (3, .int (nI 0)), (0, .ref g), (1, .int (nI 1)), (2, .int (nI 1)), (4, .int (nI i))]) hx hb d_M_alike_124 hl (k := 5) rfl (nI_add _ _) (by decide) rfl (fun ls hl => ?_)
                            refine lv_goto (tgt := 74) hx hb d_M_alike_127 (by decide) ?_
                            exact ih_74 (j + 1) 0 H locs ls (by omega) (by decide) (⟨fun q => absurd q (by decide), fun q => absurd (q.2 j (by omega)) c115_31⟩) (by omega) hP hD hS (lv_sub hl [2, 3, 4, 1, 5, 0] rfl)
                          · skip
                            refine lv_iconst (v := nI 1) hx hb d_M_alike_118 (by decide) ?_
                            refine lv_goto (tgt := 123) hx hb d_M_alike_119 (by decide) ?_
                            refine lv_istore_n (lv' := [(3, .int (nI 1)), (0, .ref g), (1, .int (nI 1)), (2, .int (nI 1)), (4, .int (nI i)), (5, .int (nI j))]) hx hb d_M_alike_123 rfl hl (by decide) rfl (fun ls hl => ?_)
                            refine lv_iinc (v := nI (j + 1)) (lv' := [(5, .int (nI (j + 1))), (3, .int (nI 1)), (0, .ref g), (1, .int (nI 1)), (2, .int (nI 1)), (4, .int (nI i))]) hx hb d_M_alike_124 hl (k := 5) rfl (nI_add _ _) (by decide) rfl (fun ls hl => ?_)
                            refine lv_goto (tgt := 74) hx hb d_M_alike_127 (by decide) ?_
                            exact ih_74 (j + 1) 1 H locs ls (by omega) (by decide) (⟨fun _ => ⟨(hii.mp (by omega)).1, fun b hb2 => by by_cases z : b = j; rw [z]; exact c115_31; exact (hii.mp (by omega)).2 b (by omega)⟩, fun _ => rfl⟩) (by omega) hP hD hS (lv_sub hl [2, 3, 4, 1, 5, 0] rfl)
                  exact lp_74 ((i - 0) + 1) 0 is9 H locs ls (Nat.zero_le _) hi9 (⟨fun q => ⟨his.mp q, fun b z => absurd z (Nat.not_lt_zero _)⟩, fun q => his.mpr q.1⟩) (by omega) hP hD hS (lv_sub hl [3, 2, 1, 4, 5, 0] rfl)
                · skip
                  refine lv_aload_n hx hb d_M_alike_55 rfl (lv_at hl 1 rfl) ?_
                  refine va_get (D := D) (ci := 2) (v := .ref kf) (C := R_M) (T := F_M) (N := 21) hx hb hts iw_M hown hK hP 0 rfl rfl 4 (by decide) (hts _ tw_391) (fun _ h9 => h9) rfl d_M_alike_56 ?_
                  refine lv_iload hx hb d_M_alike_59 (lv_at hl 4 rfl) ?_
                  refine xi_ald hx hb hK hP 2 1 rfl rfl (k := i) (by omega) (by first | decide | omega) d_M_alike_61 ?_
                  refine xz_eq (tgt := 69) (X := (Kp i)) hx hb (iI_toInt (iB_of (hKb _ (by omega)) (by decide))) d_M_alike_62 (by decide) (fun c62_32 => ?_) (fun c62_32 => ?_)
                  · skip
                    refine lv_iconst (v := nI 0) hx hb d_M_alike_69 (by decide) ?_
                    refine lv_istore_n (lv' := [(2, .int (nI 0)), (1, .int (nI 1)), (0, .ref g), (3, .int (nI is9)), (4, .int (nI i))]) hx hb d_M_alike_70 rfl hl (by decide) rfl (fun ls hl => ?_)
                    refine lv_iconst (v := nI 0) hx hb d_M_alike_71 (by decide) ?_
                    refine lv_istore (lv' := [(5, .int (nI 0)), (2, .int (nI 0)), (1, .int (nI 1)), (0, .ref g), (3, .int (nI is9)), (4, .int (nI i))]) hx hb d_M_alike_72 hl (by decide) rfl (fun ls hl => ?_)
                    have lp_74 : ∀ (n_74 : Nat) (j : Nat) (ii : Nat) (H : Heap) (locs : List Loc) (ls : Array Slot), (j ≤ i) → (ii ≤ 1) → (ii = 1 ↔ (upto Fm Kp i ∧ ∀ b, b < j → Fm i * Kp b = Fm b * Kp i)) → (i - j) < n_74 → va_P D vwC [(g, .inr (2, [.int (nI 0), .int (nI d), .ref mm, .int ik, .ref kf, .ref tb, .int rw, .ref wk, .int ab, .int be, .ref pl, .ref sp, .int a0, .int a1, .int b0, .int b1, .ref po, .ref to, .ref ba, .ref li, .int lm])), (mm, IA cI 16 Fm), (kf, IA cI 16 Kp)] H → va_D A [(g, .inr (2, [.int (nI 0), .int (nI d), .ref mm, .int ik, .ref kf, .ref tb, .int rw, .ref wk, .int ab, .int be, .ref pl, .ref sp, .int a0, .int a1, .int b0, .int b1, .ref po, .ref to, .ref ba, .ref li, .int lm])), (mm, IA cI 16 Fm), (kf, IA cI 16 Kp)] → va_S A s.heap H locs → lv_has ls 6 [(0, .ref g), (1, .int (nI 1)), (2, .int (nI 0)), (3, .int (nI ii)), (4, .int (nI i)), (5, .int (nI j))] → W p l e rm_r_alike s m args below meth c H locs 0 0 Q (F0 m 74 ls []) := by
                      intro n_74
                      induction n_74 with
                      | zero => intro j ii H locs ls hj hi1 hii hn_74; exact absurd hn_74 (Nat.not_lt_zero _)
                      | succ n_74 ih_74 =>
                        intro j ii H locs ls hj hi1 hii hn_74 hP hD hS hl
                        refine lv_iload hx hb d_M_alike_74 (lv_at hl 5 rfl) ?_
                        refine lv_iload hx hb d_M_alike_76 (lv_at hl 4 rfl) ?_
                        refine xn_ge (tgt := 130) hx hb (by omega) (by omega) d_M_alike_78 (by decide) (fun c78_33 => ?_) (fun c78_33 => ?_)
                        · skip
                          refine lv_iinc (v := nI (i + 1)) (lv' := [(4, .int (nI (i + 1))), (0, .ref g), (1, .int (nI 1)), (2, .int (nI 0)), (3, .int (nI ii)), (5, .int (nI j))]) hx hb d_M_alike_130 hl (k := 4) rfl (nI_add _ _) (by decide) rfl (fun ls hl => ?_)
                          refine lv_goto (tgt := 24) hx hb d_M_alike_133 (by decide) ?_
                          exact ih_24 (i + 1) 1 0 ii H locs ls (by omega) (by decide) (by decide) hi1 (⟨fun _ => ⟨i, by omega, c42_16⟩, fun _ => rfl⟩) (⟨fun q => absurd q (by decide), fun ⟨k, q1, q2⟩ => by by_cases z : k = i; rw [z] at q2; exact absurd c62_32 q2; exact absurd (hot.mpr ⟨k, by omega, q2⟩) (by omega)⟩) (⟨fun q a b hb2 ha2 => by by_cases z : a = i; subst z; exact (hii.mp q).2 b (by omega); exact (hii.mp q).1 a b hb2 (by omega), fun q => hii.mpr ⟨fun a b hb2 ha2 => q a b hb2 (by omega), fun b hb2 => q i b (by omega) (by omega)⟩⟩) (by omega) hP hD hS (lv_sub hl [1, 2, 3, 4, 0] rfl)
                        · skip
                          refine lv_iload_n hx hb d_M_alike_81 rfl (lv_at hl 3 rfl) ?_
                          refine xz_eq (tgt := 122) (X := (ii : Nat)) hx hb (nI_toInt (by omega)) d_M_alike_82 (by decide) (fun c82_34 => ?_) (fun c82_34 => ?_)
                          · skip
                            refine lv_iconst (v := nI 0) hx hb d_M_alike_122 (by decide) ?_
                            refine lv_istore_n (lv' := [(3, .int (nI 0)), (0, .ref g), (1, .int (nI 1)), (2, .int (nI 0)), (4, .int (nI i)), (5, .int (nI j))]) hx hb d_M_alike_123 rfl hl (by decide) rfl (fun ls hl => ?_)
                            refine lv_iinc (v := nI (j + 1)) (lv' := [(5, .int (nI (j + 1))), (3, .int (nI 0)), (0, .ref g), (1, .int (nI 1)), (2, .int (nI 0)), (4, .int (nI i))]) hx hb d_M_alike_124 hl (k := 5) rfl (nI_add _ _) (by decide) rfl (fun ls hl => ?_)
                            refine lv_goto (tgt := 74) hx hb d_M_alike_127 (by decide) ?_
                            exact ih_74 (j + 1) 0 H locs ls (by omega) (by decide) (⟨fun q => absurd q (by decide), fun q => absurd (hii.mpr ⟨q.1, fun b hb2 => q.2 b (by omega)⟩) (by omega)⟩) (by omega) hP hD hS (lv_sub hl [2, 3, 4, 1, 5, 0] rfl)
                          · skip
                            refine lv_aload_n hx hb d_M_alike_85 rfl (lv_at hl 0 rfl) ?_
                            refine va_get (D := D) (ci := 2) (v := .ref mm) (C := R_M) (T := F_M) (N := 21) hx hb hts iw_M hown hK hP 0 rfl rfl 2 (by decide) (hts _ tw_389) (fun _ h9 => h9) rfl d_M_alike_86 ?_
                            refine lv_iload hx hb d_M_alike_89 (lv_at hl 4 rfl) ?_
                            refine xi_ald hx hb hK hP 1 1 rfl rfl (k := i) (by omega) (by first | decide | omega) d_M_alike_91 ?_
                            refine lv_aload_n hx hb d_M_alike_92 rfl (lv_at hl 0 rfl) ?_
                            refine va_get (D := D) (ci := 2) (v := .ref kf) (C := R_M) (T := F_M) (N := 21) hx hb hts iw_M hown hK hP 0 rfl rfl 4 (by decide) (hts _ tw_391) (fun _ h9 => h9) rfl d_M_alike_93 ?_
                            refine lv_iload hx hb d_M_alike_96 (lv_at hl 5 rfl) ?_
                            refine xi_ald hx hb hK hP 2 1 rfl rfl (k := j) (by omega) (by first | decide | omega) d_M_alike_98 ?_
                            refine xq_mul hx hb d_M_alike_99 ?_
                            refine lv_aload_n hx hb d_M_alike_100 rfl (lv_at hl 0 rfl) ?_
                            refine va_get (D := D) (ci := 2) (v := .ref mm) (C := R_M) (T := F_M) (N := 21) hx hb hts iw_M hown hK hP 0 rfl rfl 2 (by decide) (hts _ tw_389) (fun _ h9 => h9) rfl d_M_alike_101 ?_
                            refine lv_iload hx hb d_M_alike_104 (lv_at hl 5 rfl) ?_
                            refine xi_ald hx hb hK hP 1 1 rfl rfl (k := j) (by omega) (by first | decide | omega) d_M_alike_106 ?_
                            refine lv_aload_n hx hb d_M_alike_107 rfl (lv_at hl 0 rfl) ?_
                            refine va_get (D := D) (ci := 2) (v := .ref kf) (C := R_M) (T := F_M) (N := 21) hx hb hts iw_M hown hK hP 0 rfl rfl 4 (by decide) (hts _ tw_391) (fun _ h9 => h9) rfl d_M_alike_108 ?_
                            refine lv_iload hx hb d_M_alike_111 (lv_at hl 4 rfl) ?_
                            refine xi_ald hx hb hK hP 2 1 rfl rfl (k := i) (by omega) (by first | decide | omega) d_M_alike_113 ?_
                            refine xq_mul hx hb d_M_alike_114 ?_
                            refine xi_ne (tgt := 122) (X := ((Fm i) * (Kp j))) (Y := ((Fm j) * (Kp i))) hx hb (iI_toInt (iB_of (mulB (hF _ (by omega)) (hKb _ (by omega))) (by decide))) (iI_toInt (iB_of (mulB (hF _ (by omega)) (hKb _ (by omega))) (by decide))) d_M_alike_115 (by decide) (fun c115_35 => ?_) (fun c115_35 => ?_)
                            · skip
                              refine lv_iconst (v := nI 0) hx hb d_M_alike_122 (by decide) ?_
                              refine lv_istore_n (lv' := [(3, .int (nI 0)), (0, .ref g), (1, .int (nI 1)), (2, .int (nI 0)), (4, .int (nI i)), (5, .int (nI j))]) hx hb d_M_alike_123 rfl hl (by decide) rfl (fun ls hl => ?_)
                              refine lv_iinc (v := nI (j + 1)) (lv' := [(5, .int (nI (j + 1))), (3, .int (nI 0)), (0, .ref g), (1, .int (nI 1)), (2, .int (nI 0)), (4, .int (nI i))]) hx hb d_M_alike_124 hl (k := 5) rfl (nI_add _ _) (by decide) rfl (fun ls hl => ?_)
                              refine lv_goto (tgt := 74) hx hb d_M_alike_127 (by decide) ?_
                              exact ih_74 (j + 1) 0 H locs ls (by omega) (by decide) (⟨fun q => absurd q (by decide), fun q => absurd (q.2 j (by omega)) c115_35⟩) (by omega) hP hD hS (lv_sub hl [2, 3, 4, 1, 5, 0] rfl)
                            · skip
                              refine lv_iconst (v := nI 1) hx hb d_M_alike_118 (by decide) ?_
                              refine lv_goto (tgt := 123) hx hb d_M_alike_119 (by decide) ?_
                              refine lv_istore_n (lv' := [(3, .int (nI 1)), (0, .ref g), (1, .int (nI 1)), (2, .int (nI 0)), (4, .int (nI i)), (5, .int (nI j))]) hx hb d_M_alike_123 rfl hl (by decide) rfl (fun ls hl => ?_)
                              refine lv_iinc (v := nI (j + 1)) (lv' := [(5, .int (nI (j + 1))), (3, .int (nI 1)), (0, .ref g), (1, .int (nI 1)), (2, .int (nI 0)), (4, .int (nI i))]) hx hb d_M_alike_124 hl (k := 5) rfl (nI_add _ _) (by decide) rfl (fun ls hl => ?_)
                              refine lv_goto (tgt := 74) hx hb d_M_alike_127 (by decide) ?_
                              exact ih_74 (j + 1) 1 H locs ls (by omega) (by decide) (⟨fun _ => ⟨(hii.mp (by omega)).1, fun b hb2 => by by_cases z : b = j; rw [z]; exact c115_35; exact (hii.mp (by omega)).2 b (by omega)⟩, fun _ => rfl⟩) (by omega) hP hD hS (lv_sub hl [2, 3, 4, 1, 5, 0] rfl)
                    exact lp_74 ((i - 0) + 1) 0 is9 H locs ls (Nat.zero_le _) hi9 (⟨fun q => ⟨his.mp q, fun b z => absurd z (Nat.not_lt_zero _)⟩, fun q => his.mpr q.1⟩) (by omega) hP hD hS (lv_sub hl [3, 2, 1, 4, 5, 0] rfl)
                  · skip
                    refine lv_iconst (v := nI 1) hx hb d_M_alike_65 (by decide) ?_
                    refine lv_goto (tgt := 70) hx hb d_M_alike_66 (by decide) ?_
                    refine lv_istore_n (lv' := [(2, .int (nI 1)), (1, .int (nI 1)), (0, .ref g), (3, .int (nI is9)), (4, .int (nI i))]) hx hb d_M_alike_70 rfl hl (by decide) rfl (fun ls hl => ?_)
                    refine lv_iconst (v := nI 0) hx hb d_M_alike_71 (by decide) ?_
                    refine lv_istore (lv' := [(5, .int (nI 0)), (2, .int (nI 1)), (1, .int (nI 1)), (0, .ref g), (3, .int (nI is9)), (4, .int (nI i))]) hx hb d_M_alike_72 hl (by decide) rfl (fun ls hl => ?_)
                    have lp_74 : ∀ (n_74 : Nat) (j : Nat) (ii : Nat) (H : Heap) (locs : List Loc) (ls : Array Slot), (j ≤ i) → (ii ≤ 1) → (ii = 1 ↔ (upto Fm Kp i ∧ ∀ b, b < j → Fm i * Kp b = Fm b * Kp i)) → (i - j) < n_74 → va_P D vwC [(g, .inr (2, [.int (nI 0), .int (nI d), .ref mm, .int ik, .ref kf, .ref tb, .int rw, .ref wk, .int ab, .int be, .ref pl, .ref sp, .int a0, .int a1, .int b0, .int b1, .ref po, .ref to, .ref ba, .ref li, .int lm])), (mm, IA cI 16 Fm), (kf, IA cI 16 Kp)] H → va_D A [(g, .inr (2, [.int (nI 0), .int (nI d), .ref mm, .int ik, .ref kf, .ref tb, .int rw, .ref wk, .int ab, .int be, .ref pl, .ref sp, .int a0, .int a1, .int b0, .int b1, .ref po, .ref to, .ref ba, .ref li, .int lm])), (mm, IA cI 16 Fm), (kf, IA cI 16 Kp)] → va_S A s.heap H locs → lv_has ls 6 [(0, .ref g), (1, .int (nI 1)), (2, .int (nI 1)), (3, .int (nI ii)), (4, .int (nI i)), (5, .int (nI j))] → W p l e rm_r_alike s m args below meth c H locs 0 0 Q (F0 m 74 ls []) := by
                      intro n_74
                      induction n_74 with
                      | zero => intro j ii H locs ls hj hi1 hii hn_74; exact absurd hn_74 (Nat.not_lt_zero _)
                      | succ n_74 ih_74 =>
                        intro j ii H locs ls hj hi1 hii hn_74 hP hD hS hl
                        refine lv_iload hx hb d_M_alike_74 (lv_at hl 5 rfl) ?_
                        refine lv_iload hx hb d_M_alike_76 (lv_at hl 4 rfl) ?_
                        refine xn_ge (tgt := 130) hx hb (by omega) (by omega) d_M_alike_78 (by decide) (fun c78_36 => ?_) (fun c78_36 => ?_)
                        · skip
                          refine lv_iinc (v := nI (i + 1)) (lv' := [(4, .int (nI (i + 1))), (0, .ref g), (1, .int (nI 1)), (2, .int (nI 1)), (3, .int (nI ii)), (5, .int (nI j))]) hx hb d_M_alike_130 hl (k := 4) rfl (nI_add _ _) (by decide) rfl (fun ls hl => ?_)
                          refine lv_goto (tgt := 24) hx hb d_M_alike_133 (by decide) ?_
                          exact ih_24 (i + 1) 1 1 ii H locs ls (by omega) (by decide) (by decide) hi1 (⟨fun _ => ⟨i, by omega, c42_16⟩, fun _ => rfl⟩) (⟨fun _ => ⟨i, by omega, c62_32⟩, fun _ => rfl⟩) (⟨fun q a b hb2 ha2 => by by_cases z : a = i; subst z; exact (hii.mp q).2 b (by omega); exact (hii.mp q).1 a b hb2 (by omega), fun q => hii.mpr ⟨fun a b hb2 ha2 => q a b hb2 (by omega), fun b hb2 => q i b (by omega) (by omega)⟩⟩) (by omega) hP hD hS (lv_sub hl [1, 2, 3, 4, 0] rfl)
                        · skip
                          refine lv_iload_n hx hb d_M_alike_81 rfl (lv_at hl 3 rfl) ?_
                          refine xz_eq (tgt := 122) (X := (ii : Nat)) hx hb (nI_toInt (by omega)) d_M_alike_82 (by decide) (fun c82_37 => ?_) (fun c82_37 => ?_)
                          · skip
                            refine lv_iconst (v := nI 0) hx hb d_M_alike_122 (by decide) ?_
                            refine lv_istore_n (lv' := [(3, .int (nI 0)), (0, .ref g), (1, .int (nI 1)), (2, .int (nI 1)), (4, .int (nI i)), (5, .int (nI j))]) hx hb d_M_alike_123 rfl hl (by decide) rfl (fun ls hl => ?_)
                            refine lv_iinc (v := nI (j + 1)) (lv' := [(5, .int (nI (j + 1))), (3, .int (nI 0)), (0, .ref g), (1, .int (nI 1)), (2, .int (nI 1)), (4, .int (nI i))]) hx hb d_M_alike_124 hl (k := 5) rfl (nI_add _ _) (by decide) rfl (fun ls hl => ?_)
                            refine lv_goto (tgt := 74) hx hb d_M_alike_127 (by decide) ?_
                            exact ih_74 (j + 1) 0 H locs ls (by omega) (by decide) (⟨fun q => absurd q (by decide), fun q => absurd (hii.mpr ⟨q.1, fun b hb2 => q.2 b (by omega)⟩) (by omega)⟩) (by omega) hP hD hS (lv_sub hl [2, 3, 4, 1, 5, 0] rfl)
                          · skip
                            refine lv_aload_n hx hb d_M_alike_85 rfl (lv_at hl 0 rfl) ?_
                            refine va_get (D := D) (ci := 2) (v := .ref mm) (C := R_M) (T := F_M) (N := 21) hx hb hts iw_M hown hK hP 0 rfl rfl 2 (by decide) (hts _ tw_389) (fun _ h9 => h9) rfl d_M_alike_86 ?_
                            refine lv_iload hx hb d_M_alike_89 (lv_at hl 4 rfl) ?_
                            refine xi_ald hx hb hK hP 1 1 rfl rfl (k := i) (by omega) (by first | decide | omega) d_M_alike_91 ?_
                            refine lv_aload_n hx hb d_M_alike_92 rfl (lv_at hl 0 rfl) ?_
                            refine va_get (D := D) (ci := 2) (v := .ref kf) (C := R_M) (T := F_M) (N := 21) hx hb hts iw_M hown hK hP 0 rfl rfl 4 (by decide) (hts _ tw_391) (fun _ h9 => h9) rfl d_M_alike_93 ?_
                            refine lv_iload hx hb d_M_alike_96 (lv_at hl 5 rfl) ?_
                            refine xi_ald hx hb hK hP 2 1 rfl rfl (k := j) (by omega) (by first | decide | omega) d_M_alike_98 ?_
                            refine xq_mul hx hb d_M_alike_99 ?_
                            refine lv_aload_n hx hb d_M_alike_100 rfl (lv_at hl 0 rfl) ?_
                            refine va_get (D := D) (ci := 2) (v := .ref mm) (C := R_M) (T := F_M) (N := 21) hx hb hts iw_M hown hK hP 0 rfl rfl 2 (by decide) (hts _ tw_389) (fun _ h9 => h9) rfl d_M_alike_101 ?_
                            refine lv_iload hx hb d_M_alike_104 (lv_at hl 5 rfl) ?_
                            refine xi_ald hx hb hK hP 1 1 rfl rfl (k := j) (by omega) (by first | decide | omega) d_M_alike_106 ?_
                            refine lv_aload_n hx hb d_M_alike_107 rfl (lv_at hl 0 rfl) ?_
                            refine va_get (D := D) (ci := 2) (v := .ref kf) (C := R_M) (T := F_M) (N := 21) hx hb hts iw_M hown hK hP 0 rfl rfl 4 (by decide) (hts _ tw_391) (fun _ h9 => h9) rfl d_M_alike_108 ?_
                            refine lv_iload hx hb d_M_alike_111 (lv_at hl 4 rfl) ?_
                            refine xi_ald hx hb hK hP 2 1 rfl rfl (k := i) (by omega) (by first | decide | omega) d_M_alike_113 ?_
                            refine xq_mul hx hb d_M_alike_114 ?_
                            refine xi_ne (tgt := 122) (X := ((Fm i) * (Kp j))) (Y := ((Fm j) * (Kp i))) hx hb (iI_toInt (iB_of (mulB (hF _ (by omega)) (hKb _ (by omega))) (by decide))) (iI_toInt (iB_of (mulB (hF _ (by omega)) (hKb _ (by omega))) (by decide))) d_M_alike_115 (by decide) (fun c115_38 => ?_) (fun c115_38 => ?_)
                            · skip
                              refine lv_iconst (v := nI 0) hx hb d_M_alike_122 (by decide) ?_
                              refine lv_istore_n (lv' := [(3, .int (nI 0)), (0, .ref g), (1, .int (nI 1)), (2, .int (nI 1)), (4, .int (nI i)), (5, .int (nI j))]) hx hb d_M_alike_123 rfl hl (by decide) rfl (fun ls hl => ?_)
                              refine lv_iinc (v := nI (j + 1)) (lv' := [(5, .int (nI (j + 1))), (3, .int (nI 0)), (0, .ref g), (1, .int (nI 1)), (2, .int (nI 1)), (4, .int (nI i))]) hx hb d_M_alike_124 hl (k := 5) rfl (nI_add _ _) (by decide) rfl (fun ls hl => ?_)
                              refine lv_goto (tgt := 74) hx hb d_M_alike_127 (by decide) ?_
                              exact ih_74 (j + 1) 0 H locs ls (by omega) (by decide) (⟨fun q => absurd q (by decide), fun q => absurd (q.2 j (by omega)) c115_38⟩) (by omega) hP hD hS (lv_sub hl [2, 3, 4, 1, 5, 0] rfl)
                            · skip
                              refine lv_iconst (v := nI 1) hx hb d_M_alike_118 (by decide) ?_
                              refine lv_goto (tgt := 123) hx hb d_M_alike_119 (by decide) ?_
                              refine lv_istore_n (lv' := [(3, .int (nI 1)), (0, .ref g), (1, .int (nI 1)), (2, .int (nI 1)), (4, .int (nI i)), (5, .int (nI j))]) hx hb d_M_alike_123 rfl hl (by decide) rfl (fun ls hl => ?_)
                              refine lv_iinc (v := nI (j + 1)) (lv' := [(5, .int (nI (j + 1))), (3, .int (nI 1)), (0, .ref g), (1, .int (nI 1)), (2, .int (nI 1)), (4, .int (nI i))]) hx hb d_M_alike_124 hl (k := 5) rfl (nI_add _ _) (by decide) rfl (fun ls hl => ?_)
                              refine lv_goto (tgt := 74) hx hb d_M_alike_127 (by decide) ?_
                              exact ih_74 (j + 1) 1 H locs ls (by omega) (by decide) (⟨fun _ => ⟨(hii.mp (by omega)).1, fun b hb2 => by by_cases z : b = j; rw [z]; exact c115_38; exact (hii.mp (by omega)).2 b (by omega)⟩, fun _ => rfl⟩) (by omega) hP hD hS (lv_sub hl [2, 3, 4, 1, 5, 0] rfl)
                    exact lp_74 ((i - 0) + 1) 0 is9 H locs ls (Nat.zero_le _) hi9 (⟨fun q => ⟨his.mp q, fun b z => absurd z (Nat.not_lt_zero _)⟩, fun q => his.mpr q.1⟩) (by omega) hP hD hS (lv_sub hl [3, 2, 1, 4, 5, 0] rfl)
      exact lp_24 ((16 - 0) + 1) 0 0 0 1 H locs ls (Nat.zero_le _) (by decide) (by decide) (by decide) (⟨fun q => absurd q (by decide), fun ⟨k, q, _⟩ => absurd q (Nat.not_lt_zero _)⟩) (⟨fun q => absurd q (by decide), fun ⟨k, q, _⟩ => absurd q (Nat.not_lt_zero _)⟩) (⟨fun _ a b _ q => absurd q (Nat.not_lt_zero _), fun _ => rfl⟩) (by omega) hP hD hS (lv_sub hl [4, 3, 2, 1, 0] rfl)
    · skip
      refine lv_bipush (v := (-3)) hx hb d_M_alike_12 (by decide) ?_
      exact hret H locs _ ls (-3) () d_M_alike_14 (by unfold s_alk; rw [if_pos c9_0]) hP hD hS
  rw [hH, hlc] at key; exact key
