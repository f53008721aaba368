/-! contracts of ConicKindsModel: kinds, signs, determinant (wip/spec_model4.py, modelD) -/
def kndM (Fm : Nat → Int) (d : Nat) : Int32 := if d = 2 then iI (fndN plF (keyN (abN (prt Fm 1) d) (beN (prt Fm 1) d) (abN (prt Fm 0) (d + 1)) (beN (prt Fm 0) (d + 1)) : Nat) 12) else iI (fndN spF (keyN (abN (prt Fm 1) d) (beN (prt Fm 1) d) (abN (prt Fm 0) (d + 1)) (beN (prt Fm 0) (d + 1)) : Nat) 20)
def sgM (Fm : Nat → Int) (d : Nat) (w : Int) : Int32 := if w = 0 then nI (abN (prt Fm 1) d) else if w = 1 then nI (beN (prt Fm 1) d) else if w = 2 then nI (abN (prt Fm 0) (d + 1)) else if w = 3 then nI (beN (prt Fm 0) (d + 1)) else -2
theorem abN_le (U : Nat → Int) (r : Nat) : abN U r ≤ r := (fsx_le _ r).1
theorem beN_le (U : Nat → Int) (r : Nat) : beN U r ≤ r := (fsx_le _ r).2
theorem fnd_t {L : Nat → Int} {key fv : Int} {t : Nat} (hf : fv = fndN L key t) (h : L (2 * t) = key) : L (2 * t + 1) = fndN L key (t + 1) := (if_pos h).symm
theorem fnd_f {L : Nat → Int} {key fv : Int} {t : Nat} (hf : fv = fndN L key t) (h : ¬ L (2 * t) = key) : fv = fndN L key (t + 1) := hf.trans (if_neg h).symm
theorem keyN_B {a b c e : Nat} (h1 : a ≤ 4) (h2 : b ≤ 4) (h3 : c ≤ 4) (h4 : e ≤ 4) : keyN a b c e ≤ 5000 := by
  unfold keyN; split <;> omega
def colZ (Fm : Nat → Int) (a : Nat) : Nat → Int := fun q => if q % 4 = a then -(Fm (4 * (q / 4 + 1))) else prt Fm 1 q
def s_mdl (Fm : Nat → Int) (d : Nat) (ax pt : Int) : Int := if ax < 1 ∨ (d : Int) < ax ∨ (pt ≠ 0 ∧ pt ≠ 1) then NOZ else if det (prt Fm 1) d = 0 then NOZ else pfr (eS (colZ Fm (ax.toNat - 1)) d d) (det (prt Fm 1) d) pt
def s_hgt (Fm : Nat → Int) (d : Nat) (pt : Int) : Int := if pt ≠ 0 ∧ pt ≠ 1 then NOZ else if det (prt Fm 1) d = 0 then 0 else pfr (det (prt Fm 0) (d + 1)) (det (prt Fm 1) d) pt
def s_hcd (Fm : Nat → Int) (d : Nat) (pt : Int) : Nat := if pt ≠ 0 ∧ pt ≠ 1 then 0 else if det (prt Fm 1) d = 0 then 1 else 0
def s_blw (Fm : Nat → Int) (d : Nat) (up dn : Int) : Int32 := if (up < -2000 ∨ 2000 < up) ∨ dn < 1 ∨ 100 < dn then -2 else nI (beN (prt (shZ Fm up dn) 1) d)
theorem part_of {up dn pt : Int} (h : ¬ dn = 0) : pfr up dn pt = (if pt = 0 then up else dn).tdiv (if dn < 0 then -((Nat.gcd up.natAbs dn.natAbs : Nat) : Int) else ((Nat.gcd up.natAbs dn.natAbs : Nat) : Int)) := if_neg h
theorem eS_20 {U : Nat → Int} {r : Nat} (h2 : 2 ≤ r) (h4 : r ≤ 4) (h : enB U r 20) : (eS U r r).natAbs < 2 ^ 40 := by
  match r, h2, h4, h with
  | 2, _, _, h => exact nB_of (m2_B h (by decide) (by decide) (by decide) (by decide)) (by decide)
  | 3, _, _, h => exact nB_of (m3_B h (by decide) (by decide) (by decide) (by decide) (by decide) (by decide)) (by decide)
  | 4, _, _, h => exact nB_of (show inB (m4 U) _ from m4_B h) (by decide)
  | 0, h2, _, _ => exact absurd h2 (by decide)
  | 1, h2, _, _ => exact absurd h2 (by decide)
  | n + 5, _, h4, _ => exact absurd h4 (by omega)
theorem tab_20 {U : Nat → Int} {r : Nat} (h : enB U r 20) : enB U r (tabB r) := fun a b ha hb => leB (h a b ha hb) (by unfold tabB; split <;> decide)

def rm_r_kindP : Room := { frames := 0, cells := 0, slots := 0, locals := 0 }
set_option maxHeartbeats 4000000 in
set_option maxRecDepth 100000 in
/-- the kind by its table -/
theorem r_kindP (l : Launch) (D : va_G) (cJ cI : ClassId) (g : Nat) (cd : Int32) (d : Nat) (ik : Int32) (rw : Int32) (ab : Int32) (be : Int32) (lm : Int32) (mm : Nat) (kf : Nat) (tb : Nat) (wk : Nat) (pl : Nat) (sp : Nat) (po : Nat) (to : Nat) (ba : Nat) (li : Nat) (x0 : Nat) (x1 : Nat) (y0 : Nat) (y1 : Nat) (hx0 : x0 ≤ 4) (hx1 : x1 ≤ 4) (hy0 : y0 ≤ 4) (hy1 : y1 ≤ 4) (sz : Nat) : xMi l y_M_kindOf (Cond.code y_M_kindOf b_M_kindOf 7 (some .int) :: tW) rm_r_kindP [.ref g, .int (nI 1)] D vwC [(cJ, .long), (cI, .int)] sz [(g, .inr (2, [.int cd, .int (nI d), .ref mm, .int ik, .ref kf, .ref tb, .int rw, .ref wk, .int ab, .int be, .ref pl, .ref sp, .int (nI x0), .int (nI x1), .int (nI y0), .int (nI y1), .ref po, .ref to, .ref ba, .ref li, .int lm])), (pl, IA cI 24 plF), (sp, IA cI 40 spF)] (fun (rv : Int32) (_ : Unit) => rv = iI (fndN plF (keyN x0 x1 y0 y1 : Nat) 12)) (fun (_ : Unit) => [(g, .inr (2, [.int cd, .int (nI d), .ref mm, .int ik, .ref kf, .ref tb, .int rw, .ref wk, .int ab, .int be, .ref pl, .ref sp, .int (nI x0), .int (nI x1), .int (nI y0), .int (nI y1), .ref po, .ref to, .ref ba, .ref li, .int lm])), (pl, IA cI 24 plF), (sp, IA cI 40 spF)]) 0 0 := by
  refine xoi (cc := b_M_kindOf) (maxL := 7) (by decide) rfl (Nat.le_of_ble_eq_true rfl) ?_
  intro p e s m args below meth c Q A hx hb hml hts hown hN hA hS hP hK hD hret ls hl
  have hl : lv_has ls 7 [(0, .ref g), (1, .int (nI 1))] := hl
  obtain ⟨H, hH⟩ : ∃ z, z = s.heap := ⟨_, rfl⟩
  obtain ⟨locs, hlc⟩ : ∃ z : List Loc, z = [] := ⟨_, rfl⟩
  rw [← hH] at hP
  have hS : va_S A s.heap H locs := by rw [hH, hlc]; exact hS
  have key : W p l e rm_r_kindP s m args below meth c H locs 0 0 Q (F0 m 0 ls []) := by
    refine lv_aload_n hx hb d_M_kindOf_0 rfl (lv_at hl 0 rfl) ?_
    refine va_get (D := D) (ci := 2) (v := .int (nI x1)) (C := R_M) (T := F_M) (N := 21) hx hb hts iw_M hown hK hP 0 rfl rfl 13 (by decide) (hts _ tw_400) (fun _ h9 => h9) rfl d_M_kindOf_1 ?_
    refine lv_aload_n hx hb d_M_kindOf_4 rfl (lv_at hl 0 rfl) ?_
    refine va_get (D := D) (ci := 2) (v := .int (nI x0)) (C := R_M) (T := F_M) (N := 21) hx hb hts iw_M hown hK hP 0 rfl rfl 12 (by decide) (hts _ tw_399) (fun _ h9 => h9) rfl d_M_kindOf_5 ?_
    refine xn_gt (tgt := 33) hx hb (by omega) (by omega) d_M_kindOf_8 (by decide) (fun c8_0 => ?_) (fun c8_0 => ?_)
    · skip
      refine lv_iconst (v := nI 1) hx hb d_M_kindOf_33 (by decide) ?_
      refine lv_goto (tgt := 38) hx hb d_M_kindOf_34 (by decide) ?_
      refine lv_istore_n (lv' := [(2, .int (nI 1)), (0, .ref g), (1, .int (nI 1))]) hx hb d_M_kindOf_38 rfl hl (by decide) rfl (fun ls hl => ?_)
      refine lv_iload_n hx hb d_M_kindOf_39 rfl (lv_at hl 0 rfl) ?_
      refine xz_eq (tgt := 75) (X := (1 : Nat)) hx hb (nI_toInt (by omega)) d_M_kindOf_40 (by decide) (fun c40_1 => absurd c40_1 (by omega)) (fun c40_1 => ?_)
      refine lv_sipush (v := nI 1000) hx hb d_M_kindOf_43 (by decide) ?_
      refine lv_aload_n hx hb d_M_kindOf_46 rfl (lv_at hl 1 rfl) ?_
      refine va_get (D := D) (ci := 2) (v := .int (nI x1)) (C := R_M) (T := F_M) (N := 21) hx hb hts iw_M hown hK hP 0 rfl rfl 13 (by decide) (hts _ tw_400) (fun _ h9 => h9) rfl d_M_kindOf_47 ?_
      refine xn_mul hx hb d_M_kindOf_50 ?_
      refine lv_bipush (v := nI 100) hx hb d_M_kindOf_51 (by decide) ?_
      refine lv_aload_n hx hb d_M_kindOf_53 rfl (lv_at hl 1 rfl) ?_
      refine va_get (D := D) (ci := 2) (v := .int (nI x0)) (C := R_M) (T := F_M) (N := 21) hx hb hts iw_M hown hK hP 0 rfl rfl 12 (by decide) (hts _ tw_399) (fun _ h9 => h9) rfl d_M_kindOf_54 ?_
      refine xn_mul hx hb d_M_kindOf_57 ?_
      refine xn_add hx hb d_M_kindOf_58 ?_
      refine lv_bipush (v := nI 10) hx hb d_M_kindOf_59 (by decide) ?_
      refine lv_aload_n hx hb d_M_kindOf_61 rfl (lv_at hl 1 rfl) ?_
      refine va_get (D := D) (ci := 2) (v := .int (nI y1)) (C := R_M) (T := F_M) (N := 21) hx hb hts iw_M hown hK hP 0 rfl rfl 15 (by decide) (hts _ tw_402) (fun _ h9 => h9) rfl d_M_kindOf_62 ?_
      refine xn_mul hx hb d_M_kindOf_65 ?_
      refine xn_add hx hb d_M_kindOf_66 ?_
      refine lv_aload_n hx hb d_M_kindOf_67 rfl (lv_at hl 1 rfl) ?_
      refine va_get (D := D) (ci := 2) (v := .int (nI y0)) (C := R_M) (T := F_M) (N := 21) hx hb hts iw_M hown hK hP 0 rfl rfl 14 (by decide) (hts _ tw_401) (fun _ h9 => h9) rfl d_M_kindOf_68 ?_
      refine xn_add hx hb d_M_kindOf_71 ?_
      refine lv_goto (tgt := 104) hx hb d_M_kindOf_72 (by decide) ?_
      refine lv_istore_n (lv' := [(3, .int (nI ((((1000 * x1) + (100 * x0)) + (10 * y1)) + y0))), (2, .int (nI 1)), (0, .ref g), (1, .int (nI 1))]) hx hb d_M_kindOf_104 rfl hl (by decide) rfl (fun ls hl => ?_)
      have hkb := keyN_B hx0 hx1 hy0 hy1
      refine lv_iconst (v := (-1)) hx hb d_M_kindOf_105 (by decide) ?_
      refine lv_istore (lv' := [(4, .int (-1)), (3, .int (nI ((((1000 * x1) + (100 * x0)) + (10 * y1)) + y0))), (2, .int (nI 1)), (0, .ref g), (1, .int (nI 1))]) hx hb d_M_kindOf_106 hl (by decide) rfl (fun ls hl => ?_)
      refine lv_iconst (v := nI 0) hx hb d_M_kindOf_108 (by decide) ?_
      refine lv_istore (lv' := [(5, .int (nI 0)), (4, .int (-1)), (3, .int (nI ((((1000 * x1) + (100 * x0)) + (10 * y1)) + y0))), (2, .int (nI 1)), (0, .ref g), (1, .int (nI 1))]) hx hb d_M_kindOf_109 hl (by decide) rfl (fun ls hl => ?_)
      have lp_111 : ∀ (n_111 : Nat) (t : Nat) (fv : Int) (key : Nat) (H : Heap) (locs : List Loc) (ls : Array Slot), (t ≤ 12) → (key = keyN x0 x1 y0 y1) → (fv = fndN plF (key : Nat) t) → (12 - t) < n_111 → va_P D vwC [(g, .inr (2, [.int cd, .int (nI d), .ref mm, .int ik, .ref kf, .ref tb, .int rw, .ref wk, .int ab, .int be, .ref pl, .ref sp, .int (nI x0), .int (nI x1), .int (nI y0), .int (nI y1), .ref po, .ref to, .ref ba, .ref li, .int lm])), (pl, IA cI 24 plF), (sp, IA cI 40 spF)] H → va_D A [(g, .inr (2, [.int cd, .int (nI d), .ref mm, .int ik, .ref kf, .ref tb, .int rw, .ref wk, .int ab, .int be, .ref pl, .ref sp, .int (nI x0), .int (nI x1), .int (nI y0), .int (nI y1), .ref po, .ref to, .ref ba, .ref li, .int lm])), (pl, IA cI 24 plF), (sp, IA cI 40 spF)] → va_S A s.heap H locs → lv_has ls 7 [(0, .ref g), (1, .int (nI 1)), (3, .int (nI key)), (4, .int (iI fv)), (5, .int (nI (2 * t)))] → W p l e rm_r_kindP s m args below meth c H locs 0 0 Q (F0 m 111 ls []) := by
        intro n_111
        induction n_111 with
        | zero => intro t fv key H locs ls ht hkey hfv hn_111; exact absurd hn_111 (Nat.not_lt_zero _)
        | succ n_111 ih_111 =>
          intro t fv key H locs ls ht hkey hfv hn_111 hP hD hS hl
          refine lv_iload hx hb d_M_kindOf_111 (lv_at hl 4 rfl) ?_
          refine lv_iload_n hx hb d_M_kindOf_113 rfl (lv_at hl 1 rfl) ?_
          refine xz_eq (tgt := 125) (X := (1 : Nat)) hx hb (nI_toInt (by omega)) d_M_kindOf_114 (by decide) (fun c114_2 => absurd c114_2 (by omega)) (fun c114_2 => ?_)
          refine lv_aload_n hx hb d_M_kindOf_117 rfl (lv_at hl 0 rfl) ?_
          refine va_get (D := D) (ci := 2) (v := .ref pl) (C := R_M) (T := F_M) (N := 21) hx hb hts iw_M hown hK hP 0 rfl rfl 10 (by decide) (hts _ tw_397) (fun _ h9 => h9) rfl d_M_kindOf_118 ?_
          refine va_alen (v := nI 24) hx hb hK hP 1 1 rfl rfl rfl d_M_kindOf_121 ?_
          refine lv_goto (tgt := 130) hx hb d_M_kindOf_122 (by decide) ?_
          refine xn_ge (tgt := 195) hx hb (by omega) (by omega) d_M_kindOf_130 (by decide) (fun c130_3 => ?_) (fun c130_3 => ?_)
          · skip
            refine lv_iload hx hb d_M_kindOf_195 (lv_at hl 3 rfl) ?_
            exact hret H locs _ ls (iI fv) () d_M_kindOf_197 (by rw [hfv, hkey, show t = 12 from by omega]) hP hD hS
          · skip
            refine lv_iload_n hx hb d_M_kindOf_133 rfl (lv_at hl 1 rfl) ?_
            refine xz_eq (tgt := 147) (X := (1 : Nat)) hx hb (nI_toInt (by omega)) d_M_kindOf_134 (by decide) (fun c134_4 => absurd c134_4 (by omega)) (fun c134_4 => ?_)
            refine lv_aload_n hx hb d_M_kindOf_137 rfl (lv_at hl 0 rfl) ?_
            refine va_get (D := D) (ci := 2) (v := .ref pl) (C := R_M) (T := F_M) (N := 21) hx hb hts iw_M hown hK hP 0 rfl rfl 10 (by decide) (hts _ tw_397) (fun _ h9 => h9) rfl d_M_kindOf_138 ?_
            refine lv_iload hx hb d_M_kindOf_141 (lv_at hl 4 rfl) ?_
            refine xi_ald hx hb hK hP 1 1 rfl rfl (k := 2 * t) (by omega) (by first | decide | omega) d_M_kindOf_143 ?_
            refine lv_goto (tgt := 154) hx hb d_M_kindOf_144 (by decide) ?_
            refine lv_istore (lv' := [(6, .int (iI (plF (2 * t)))), (0, .ref g), (1, .int (nI 1)), (3, .int (nI key)), (4, .int (iI fv)), (5, .int (nI (2 * t)))]) hx hb d_M_kindOf_154 hl (by decide) rfl (fun ls hl => ?_)
            refine lv_iload hx hb d_M_kindOf_156 (lv_at hl 0 rfl) ?_
            refine lv_iload_n hx hb d_M_kindOf_158 rfl (lv_at hl 3 rfl) ?_
            refine xi_ne (tgt := 189) (X := (plF (2 * t))) (Y := ((key : Nat) : Int)) hx hb (iI_toInt (by have z := plF_B (2 * t) (by omega); unfold iB; omega)) (nI_toInt (by omega)) d_M_kindOf_159 (by decide) (fun c159_5 => ?_) (fun c159_5 => ?_)
            · skip
              refine lv_iinc (v := nI ((2 * t) + 2)) (lv' := [(5, .int (nI ((2 * t) + 2))), (6, .int (iI (plF (2 * t)))), (0, .ref g), (1, .int (nI 1)), (3, .int (nI key)), (4, .int (iI fv))]) hx hb d_M_kindOf_189 hl (k := 5) rfl (nI_add _ _) (by decide) rfl (fun ls hl => ?_)
              refine lv_goto (tgt := 111) hx hb d_M_kindOf_192 (by decide) ?_
              exact ih_111 (t + 1) fv key H locs ls (by omega) hkey (fnd_f hfv c159_5) (by omega) hP hD hS (lv_sub hl [2, 3, 4, 5, 0] rfl)
            · skip
              refine lv_iload_n hx hb d_M_kindOf_162 rfl (lv_at hl 2 rfl) ?_
              refine xz_eq (tgt := 178) (X := (1 : Nat)) hx hb (nI_toInt (by omega)) d_M_kindOf_163 (by decide) (fun c163_6 => absurd c163_6 (by omega)) (fun c163_6 => ?_)
              refine lv_aload_n hx hb d_M_kindOf_166 rfl (lv_at hl 1 rfl) ?_
              refine va_get (D := D) (ci := 2) (v := .ref pl) (C := R_M) (T := F_M) (N := 21) hx hb hts iw_M hown hK hP 0 rfl rfl 10 (by decide) (hts _ tw_397) (fun _ h9 => h9) rfl d_M_kindOf_167 ?_
              refine lv_iload hx hb d_M_kindOf_170 (lv_at hl 5 rfl) ?_
              refine lv_iconst (v := nI 1) hx hb d_M_kindOf_172 (by decide) ?_
              refine xn_add hx hb d_M_kindOf_173 ?_
              refine xi_ald hx hb hK hP 1 1 rfl rfl (k := (2 * t) + 1) (by omega) (by first | decide | omega) d_M_kindOf_174 ?_
              refine lv_goto (tgt := 187) hx hb d_M_kindOf_175 (by decide) ?_
              refine lv_istore (lv' := [(4, .int (iI (plF ((2 * t) + 1)))), (6, .int (iI (plF (2 * t)))), (0, .ref g), (1, .int (nI 1)), (3, .int (nI key)), (5, .int (nI (2 * t)))]) hx hb d_M_kindOf_187 hl (by decide) rfl (fun ls hl => ?_)
              refine lv_iinc (v := nI ((2 * t) + 2)) (lv' := [(5, .int (nI ((2 * t) + 2))), (4, .int (iI (plF ((2 * t) + 1)))), (6, .int (iI (plF (2 * t)))), (0, .ref g), (1, .int (nI 1)), (3, .int (nI key))]) hx hb d_M_kindOf_189 hl (k := 5) rfl (nI_add _ _) (by decide) rfl (fun ls hl => ?_)
              refine lv_goto (tgt := 111) hx hb d_M_kindOf_192 (by decide) ?_
              exact ih_111 (t + 1) (plF (2 * t + 1)) key H locs ls (by omega) hkey (fnd_t hfv c159_5) (by omega) hP hD hS (lv_sub hl [3, 4, 5, 1, 0] rfl)
      exact lp_111 ((12 - 0) + 1) 0 (-1) ((((1000 * x1) + (100 * x0)) + (10 * y1)) + y0) H locs ls (Nat.zero_le _) ((keyN_t (a0 := x0) (a1 := x1) (b0 := y0) (b1 := y1) (by omega)).symm) rfl (by omega) hP hD hS (lv_sub hl [4, 5, 2, 1, 0] rfl)
    · skip
      refine lv_aload_n hx hb d_M_kindOf_11 rfl (lv_at hl 0 rfl) ?_
      refine va_get (D := D) (ci := 2) (v := .int (nI x1)) (C := R_M) (T := F_M) (N := 21) hx hb hts iw_M hown hK hP 0 rfl rfl 13 (by decide) (hts _ tw_400) (fun _ h9 => h9) rfl d_M_kindOf_12 ?_
      refine lv_aload_n hx hb d_M_kindOf_15 rfl (lv_at hl 0 rfl) ?_
      refine va_get (D := D) (ci := 2) (v := .int (nI x0)) (C := R_M) (T := F_M) (N := 21) hx hb hts iw_M hown hK hP 0 rfl rfl 12 (by decide) (hts _ tw_399) (fun _ h9 => h9) rfl d_M_kindOf_16 ?_
      refine xn_ne (tgt := 37) hx hb (by omega) (by omega) d_M_kindOf_19 (by decide) (fun c19_7 => ?_) (fun c19_7 => ?_)
      · skip
        refine lv_iconst (v := nI 0) hx hb d_M_kindOf_37 (by decide) ?_
        refine lv_istore_n (lv' := [(2, .int (nI 0)), (0, .ref g), (1, .int (nI 1))]) hx hb d_M_kindOf_38 rfl hl (by decide) rfl (fun ls hl => ?_)
        refine lv_iload_n hx hb d_M_kindOf_39 rfl (lv_at hl 0 rfl) ?_
        refine xz_eq (tgt := 75) (X := (0 : Nat)) hx hb (nI_toInt (by omega)) d_M_kindOf_40 (by decide) (fun c40_8 => ?_) (fun c40_8 => absurd c40_8 (by omega))
        refine lv_sipush (v := nI 1000) hx hb d_M_kindOf_75 (by decide) ?_
        refine lv_aload_n hx hb d_M_kindOf_78 rfl (lv_at hl 1 rfl) ?_
        refine va_get (D := D) (ci := 2) (v := .int (nI x0)) (C := R_M) (T := F_M) (N := 21) hx hb hts iw_M hown hK hP 0 rfl rfl 12 (by decide) (hts _ tw_399) (fun _ h9 => h9) rfl d_M_kindOf_79 ?_
        refine xn_mul hx hb d_M_kindOf_82 ?_
        refine lv_bipush (v := nI 100) hx hb d_M_kindOf_83 (by decide) ?_
        refine lv_aload_n hx hb d_M_kindOf_85 rfl (lv_at hl 1 rfl) ?_
        refine va_get (D := D) (ci := 2) (v := .int (nI x1)) (C := R_M) (T := F_M) (N := 21) hx hb hts iw_M hown hK hP 0 rfl rfl 13 (by decide) (hts _ tw_400) (fun _ h9 => h9) rfl d_M_kindOf_86 ?_
        refine xn_mul hx hb d_M_kindOf_89 ?_
        refine xn_add hx hb d_M_kindOf_90 ?_
        refine lv_bipush (v := nI 10) hx hb d_M_kindOf_91 (by decide) ?_
        refine lv_aload_n hx hb d_M_kindOf_93 rfl (lv_at hl 1 rfl) ?_
        refine va_get (D := D) (ci := 2) (v := .int (nI y0)) (C := R_M) (T := F_M) (N := 21) hx hb hts iw_M hown hK hP 0 rfl rfl 14 (by decide) (hts _ tw_401) (fun _ h9 => h9) rfl d_M_kindOf_94 ?_
        refine xn_mul hx hb d_M_kindOf_97 ?_
        refine xn_add hx hb d_M_kindOf_98 ?_
        refine lv_aload_n hx hb d_M_kindOf_99 rfl (lv_at hl 1 rfl) ?_
        refine va_get (D := D) (ci := 2) (v := .int (nI y1)) (C := R_M) (T := F_M) (N := 21) hx hb hts iw_M hown hK hP 0 rfl rfl 15 (by decide) (hts _ tw_402) (fun _ h9 => h9) rfl d_M_kindOf_100 ?_
        refine xn_add hx hb d_M_kindOf_103 ?_
        refine lv_istore_n (lv' := [(3, .int (nI ((((1000 * x0) + (100 * x1)) + (10 * y0)) + y1))), (2, .int (nI 0)), (0, .ref g), (1, .int (nI 1))]) hx hb d_M_kindOf_104 rfl hl (by decide) rfl (fun ls hl => ?_)
        have hkb := keyN_B hx0 hx1 hy0 hy1
        refine lv_iconst (v := (-1)) hx hb d_M_kindOf_105 (by decide) ?_
        refine lv_istore (lv' := [(4, .int (-1)), (3, .int (nI ((((1000 * x0) + (100 * x1)) + (10 * y0)) + y1))), (2, .int (nI 0)), (0, .ref g), (1, .int (nI 1))]) hx hb d_M_kindOf_106 hl (by decide) rfl (fun ls hl => ?_)
        refine lv_iconst (v := nI 0) hx hb d_M_kindOf_108 (by decide) ?_
        refine lv_istore (lv' := [(5, .int (nI 0)), (4, .int (-1)), (3, .int (nI ((((1000 * x0) + (100 * x1)) + (10 * y0)) + y1))), (2, .int (nI 0)), (0, .ref g), (1, .int (nI 1))]) hx hb d_M_kindOf_109 hl (by decide) rfl (fun ls hl => ?_)
        have lp_111 : ∀ (n_111 : Nat) (t : Nat) (fv : Int) (key : Nat) (H : Heap) (locs : List Loc) (ls : Array Slot), (t ≤ 12) → (key = keyN x0 x1 y0 y1) → (fv = fndN plF (key : Nat) t) → (12 - t) < n_111 → va_P D vwC [(g, .inr (2, [.int cd, .int (nI d), .ref mm, .int ik, .ref kf, .ref tb, .int rw, .ref wk, .int ab, .int be, .ref pl, .ref sp, .int (nI x0), .int (nI x1), .int (nI y0), .int (nI y1), .ref po, .ref to, .ref ba, .ref li, .int lm])), (pl, IA cI 24 plF), (sp, IA cI 40 spF)] H → va_D A [(g, .inr (2, [.int cd, .int (nI d), .ref mm, .int ik, .ref kf, .ref tb, .int rw, .ref wk, .int ab, .int be, .ref pl, .ref sp, .int (nI x0), .int (nI x1), .int (nI y0), .int (nI y1), .ref po, .ref to, .ref ba, .ref li, .int lm])), (pl, IA cI 24 plF), (sp, IA cI 40 spF)] → va_S A s.heap H locs → lv_has ls 7 [(0, .ref g), (1, .int (nI 1)), (3, .int (nI key)), (4, .int (iI fv)), (5, .int (nI (2 * t)))] → W p l e rm_r_kindP s m args below meth c H locs 0 0 Q (F0 m 111 ls []) := by
          intro n_111
          induction n_111 with
          | zero => intro t fv key H locs ls ht hkey hfv hn_111; exact absurd hn_111 (Nat.not_lt_zero _)
          | succ n_111 ih_111 =>
            intro t fv key H locs ls ht hkey hfv hn_111 hP hD hS hl
            refine lv_iload hx hb d_M_kindOf_111 (lv_at hl 4 rfl) ?_
            refine lv_iload_n hx hb d_M_kindOf_113 rfl (lv_at hl 1 rfl) ?_
            refine xz_eq (tgt := 125) (X := (1 : Nat)) hx hb (nI_toInt (by omega)) d_M_kindOf_114 (by decide) (fun c114_9 => absurd c114_9 (by omega)) (fun c114_9 => ?_)
            refine lv_aload_n hx hb d_M_kindOf_117 rfl (lv_at hl 0 rfl) ?_
            refine va_get (D := D) (ci := 2) (v := .ref pl) (C := R_M) (T := F_M) (N := 21) hx hb hts iw_M hown hK hP 0 rfl rfl 10 (by decide) (hts _ tw_397) (fun _ h9 => h9) rfl d_M_kindOf_118 ?_
            refine va_alen (v := nI 24) hx hb hK hP 1 1 rfl rfl rfl d_M_kindOf_121 ?_
            refine lv_goto (tgt := 130) hx hb d_M_kindOf_122 (by decide) ?_
            refine xn_ge (tgt := 195) hx hb (by omega) (by omega) d_M_kindOf_130 (by decide) (fun c130_10 => ?_) (fun c130_10 => ?_)
            · skip
              refine lv_iload hx hb d_M_kindOf_195 (lv_at hl 3 rfl) ?_
              exact hret H locs _ ls (iI fv) () d_M_kindOf_197 (by rw [hfv, hkey, show t = 12 from by omega]) hP hD hS
            · skip
              refine lv_iload_n hx hb d_M_kindOf_133 rfl (lv_at hl 1 rfl) ?_
              refine xz_eq (tgt := 147) (X := (1 : Nat)) hx hb (nI_toInt (by omega)) d_M_kindOf_134 (by decide) (fun c134_11 => absurd c134_11 (by omega)) (fun c134_11 => ?_)
              refine lv_aload_n hx hb d_M_kindOf_137 rfl (lv_at hl 0 rfl) ?_
              refine va_get (D := D) (ci := 2) (v := .ref pl) (C := R_M) (T := F_M) (N := 21) hx hb hts iw_M hown hK hP 0 rfl rfl 10 (by decide) (hts _ tw_397) (fun _ h9 => h9) rfl d_M_kindOf_138 ?_
              refine lv_iload hx hb d_M_kindOf_141 (lv_at hl 4 rfl) ?_
              refine xi_ald hx hb hK hP 1 1 rfl rfl (k := 2 * t) (by omega) (by first | decide | omega) d_M_kindOf_143 ?_
              refine lv_goto (tgt := 154) hx hb d_M_kindOf_144 (by decide) ?_
              refine lv_istore (lv' := [(6, .int (iI (plF (2 * t)))), (0, .ref g), (1, .int (nI 1)), (3, .int (nI key)), (4, .int (iI fv)), (5, .int (nI (2 * t)))]) hx hb d_M_kindOf_154 hl (by decide) rfl (fun ls hl => ?_)
              refine lv_iload hx hb d_M_kindOf_156 (lv_at hl 0 rfl) ?_
              refine lv_iload_n hx hb d_M_kindOf_158 rfl (lv_at hl 3 rfl) ?_
              refine xi_ne (tgt := 189) (X := (plF (2 * t))) (Y := ((key : Nat) : Int)) hx hb (iI_toInt (by have z := plF_B (2 * t) (by omega); unfold iB; omega)) (nI_toInt (by omega)) d_M_kindOf_159 (by decide) (fun c159_12 => ?_) (fun c159_12 => ?_)
              · skip
                refine lv_iinc (v := nI ((2 * t) + 2)) (lv' := [(5, .int (nI ((2 * t) + 2))), (6, .int (iI (plF (2 * t)))), (0, .ref g), (1, .int (nI 1)), (3, .int (nI key)), (4, .int (iI fv))]) hx hb d_M_kindOf_189 hl (k := 5) rfl (nI_add _ _) (by decide) rfl (fun ls hl => ?_)
                refine lv_goto (tgt := 111) hx hb d_M_kindOf_192 (by decide) ?_
                exact ih_111 (t + 1) fv key H locs ls (by omega) hkey (fnd_f hfv c159_12) (by omega) hP hD hS (lv_sub hl [2, 3, 4, 5, 0] rfl)
              · skip
                refine lv_iload_n hx hb d_M_kindOf_162 rfl (lv_at hl 2 rfl) ?_
                refine xz_eq (tgt := 178) (X := (1 : Nat)) hx hb (nI_toInt (by omega)) d_M_kindOf_163 (by decide) (fun c163_13 => absurd c163_13 (by omega)) (fun c163_13 => ?_)
                refine lv_aload_n hx hb d_M_kindOf_166 rfl (lv_at hl 1 rfl) ?_
                refine va_get (D := D) (ci := 2) (v := .ref pl) (C := R_M) (T := F_M) (N := 21) hx hb hts iw_M hown hK hP 0 rfl rfl 10 (by decide) (hts _ tw_397) (fun _ h9 => h9) rfl d_M_kindOf_167 ?_
                refine lv_iload hx hb d_M_kindOf_170 (lv_at hl 5 rfl) ?_
                refine lv_iconst (v := nI 1) hx hb d_M_kindOf_172 (by decide) ?_
                refine xn_add hx hb d_M_kindOf_173 ?_
                refine xi_ald hx hb hK hP 1 1 rfl rfl (k := (2 * t) + 1) (by omega) (by first | decide | omega) d_M_kindOf_174 ?_
                refine lv_goto (tgt := 187) hx hb d_M_kindOf_175 (by decide) ?_
                refine lv_istore (lv' := [(4, .int (iI (plF ((2 * t) + 1)))), (6, .int (iI (plF (2 * t)))), (0, .ref g), (1, .int (nI 1)), (3, .int (nI key)), (5, .int (nI (2 * t)))]) hx hb d_M_kindOf_187 hl (by decide) rfl (fun ls hl => ?_)
                refine lv_iinc (v := nI ((2 * t) + 2)) (lv' := [(5, .int (nI ((2 * t) + 2))), (4, .int (iI (plF ((2 * t) + 1)))), (6, .int (iI (plF (2 * t)))), (0, .ref g), (1, .int (nI 1)), (3, .int (nI key))]) hx hb d_M_kindOf_189 hl (k := 5) rfl (nI_add _ _) (by decide) rfl (fun ls hl => ?_)
                refine lv_goto (tgt := 111) hx hb d_M_kindOf_192 (by decide) ?_
                exact ih_111 (t + 1) (plF (2 * t + 1)) key H locs ls (by omega) hkey (fnd_t hfv c159_12) (by omega) hP hD hS (lv_sub hl [3, 4, 5, 1, 0] rfl)
        exact lp_111 ((12 - 0) + 1) 0 (-1) ((((1000 * x0) + (100 * x1)) + (10 * y0)) + y1) H locs ls (Nat.zero_le _) ((keyN_f (a0 := x0) (a1 := x1) (b0 := y0) (b1 := y1) (by omega)).symm) rfl (by omega) hP hD hS (lv_sub hl [4, 5, 2, 1, 0] rfl)
      · skip
        refine lv_aload_n hx hb d_M_kindOf_22 rfl (lv_at hl 0 rfl) ?_
        refine va_get (D := D) (ci := 2) (v := .int (nI y1)) (C := R_M) (T := F_M) (N := 21) hx hb hts iw_M hown hK hP 0 rfl rfl 15 (by decide) (hts _ tw_402) (fun _ h9 => h9) rfl d_M_kindOf_23 ?_
        refine lv_aload_n hx hb d_M_kindOf_26 rfl (lv_at hl 0 rfl) ?_
        refine va_get (D := D) (ci := 2) (v := .int (nI y0)) (C := R_M) (T := F_M) (N := 21) hx hb hts iw_M hown hK hP 0 rfl rfl 14 (by decide) (hts _ tw_401) (fun _ h9 => h9) rfl d_M_kindOf_27 ?_
        refine xn_le (tgt := 37) hx hb (by omega) (by omega) d_M_kindOf_30 (by decide) (fun c30_14 => ?_) (fun c30_14 => ?_)
        · skip
          refine lv_iconst (v := nI 0) hx hb d_M_kindOf_37 (by decide) ?_
          refine lv_istore_n (lv' := [(2, .int (nI 0)), (0, .ref g), (1, .int (nI 1))]) hx hb d_M_kindOf_38 rfl hl (by decide) rfl (fun ls hl => ?_)
          refine lv_iload_n hx hb d_M_kindOf_39 rfl (lv_at hl 0 rfl) ?_
          refine xz_eq (tgt := 75) (X := (0 : Nat)) hx hb (nI_toInt (by omega)) d_M_kindOf_40 (by decide) (fun c40_15 => ?_) (fun c40_15 => absurd c40_15 (by omega))
          refine lv_sipush (v := nI 1000) hx hb d_M_kindOf_75 (by decide) ?_
          refine lv_aload_n hx hb d_M_kindOf_78 rfl (lv_at hl 1 rfl) ?_
          refine va_get (D := D) (ci := 2) (v := .int (nI x0)) (C := R_M) (T := F_M) (N := 21) hx hb hts iw_M hown hK hP 0 rfl rfl 12 (by decide) (hts _ tw_399) (fun _ h9 => h9) rfl d_M_kindOf_79 ?_
          refine xn_mul hx hb d_M_kindOf_82 ?_
          refine lv_bipush (v := nI 100) hx hb d_M_kindOf_83 (by decide) ?_
          refine lv_aload_n hx hb d_M_kindOf_85 rfl (lv_at hl 1 rfl) ?_
          refine va_get (D := D) (ci := 2) (v := .int (nI x1)) (C := R_M) (T := F_M) (N := 21) hx hb hts iw_M hown hK hP 0 rfl rfl 13 (by decide) (hts _ tw_400) (fun _ h9 => h9) rfl d_M_kindOf_86 ?_
          refine xn_mul hx hb d_M_kindOf_89 ?_
          refine xn_add hx hb d_M_kindOf_90 ?_
          refine lv_bipush (v := nI 10) hx hb d_M_kindOf_91 (by decide) ?_
          refine lv_aload_n hx hb d_M_kindOf_93 rfl (lv_at hl 1 rfl) ?_
          refine va_get (D := D) (ci := 2) (v := .int (nI y0)) (C := R_M) (T := F_M) (N := 21) hx hb hts iw_M hown hK hP 0 rfl rfl 14 (by decide) (hts _ tw_401) (fun _ h9 => h9) rfl d_M_kindOf_94 ?_
          refine xn_mul hx hb d_M_kindOf_97 ?_
          refine xn_add hx hb d_M_kindOf_98 ?_
          refine lv_aload_n hx hb d_M_kindOf_99 rfl (lv_at hl 1 rfl) ?_
          refine va_get (D := D) (ci := 2) (v := .int (nI y1)) (C := R_M) (T := F_M) (N := 21) hx hb hts iw_M hown hK hP 0 rfl rfl 15 (by decide) (hts _ tw_402) (fun _ h9 => h9) rfl d_M_kindOf_100 ?_
          refine xn_add hx hb d_M_kindOf_103 ?_
          refine lv_istore_n (lv' := [(3, .int (nI ((((1000 * x0) + (100 * x1)) + (10 * y0)) + y1))), (2, .int (nI 0)), (0, .ref g), (1, .int (nI 1))]) hx hb d_M_kindOf_104 rfl hl (by decide) rfl (fun ls hl => ?_)
          have hkb := keyN_B hx0 hx1 hy0 hy1
          refine lv_iconst (v := (-1)) hx hb d_M_kindOf_105 (by decide) ?_
          refine lv_istore (lv' := [(4, .int (-1)), (3, .int (nI ((((1000 * x0) + (100 * x1)) + (10 * y0)) + y1))), (2, .int (nI 0)), (0, .ref g), (1, .int (nI 1))]) hx hb d_M_kindOf_106 hl (by decide) rfl (fun ls hl => ?_)
          refine lv_iconst (v := nI 0) hx hb d_M_kindOf_108 (by decide) ?_
          refine lv_istore (lv' := [(5, .int (nI 0)), (4, .int (-1)), (3, .int (nI ((((1000 * x0) + (100 * x1)) + (10 * y0)) + y1))), (2, .int (nI 0)), (0, .ref g), (1, .int (nI 1))]) hx hb d_M_kindOf_109 hl (by decide) rfl (fun ls hl => ?_)
          have lp_111 : ∀ (n_111 : Nat) (t : Nat) (fv : Int) (key : Nat) (H : Heap) (locs : List Loc) (ls : Array Slot), (t ≤ 12) → (key = keyN x0 x1 y0 y1) → (fv = fndN plF (key : Nat) t) → (12 - t) < n_111 → va_P D vwC [(g, .inr (2, [.int cd, .int (nI d), .ref mm, .int ik, .ref kf, .ref tb, .int rw, .ref wk, .int ab, .int be, .ref pl, .ref sp, .int (nI x0), .int (nI x1), .int (nI y0), .int (nI y1), .ref po, .ref to, .ref ba, .ref li, .int lm])), (pl, IA cI 24 plF), (sp, IA cI 40 spF)] H → va_D A [(g, .inr (2, [.int cd, .int (nI d), .ref mm, .int ik, .ref kf, .ref tb, .int rw, .ref wk, .int ab, .int be, .ref pl, .ref sp, .int (nI x0), .int (nI x1), .int (nI y0), .int (nI y1), .ref po, .ref to, .ref ba, .ref li, .int lm])), (pl, IA cI 24 plF), (sp, IA cI 40 spF)] → va_S A s.heap H locs → lv_has ls 7 [(0, .ref g), (1, .int (nI 1)), (3, .int (nI key)), (4, .int (iI fv)), (5, .int (nI (2 * t)))] → W p l e rm_r_kindP s m args below meth c H locs 0 0 Q (F0 m 111 ls []) := by
            intro n_111
            induction n_111 with
            | zero => intro t fv key H locs ls ht hkey hfv hn_111; exact absurd hn_111 (Nat.not_lt_zero _)
            | succ n_111 ih_111 =>
              intro t fv key H locs ls ht hkey hfv hn_111 hP hD hS hl
              refine lv_iload hx hb d_M_kindOf_111 (lv_at hl 4 rfl) ?_
              refine lv_iload_n hx hb d_M_kindOf_113 rfl (lv_at hl 1 rfl) ?_
              refine xz_eq (tgt := 125) (X := (1 : Nat)) hx hb (nI_toInt (by omega)) d_M_kindOf_114 (by decide) (fun c114_16 => absurd c114_16 (by omega)) (fun c114_16 => ?_)
              refine lv_aload_n hx hb d_M_kindOf_117 rfl (lv_at hl 0 rfl) ?_
              refine va_get (D := D) (ci := 2) (v := .ref pl) (C := R_M) (T := F_M) (N := 21) hx hb hts iw_M hown hK hP 0 rfl rfl 10 (by decide) (hts _ tw_397) (fun _ h9 => h9) rfl d_M_kindOf_118 ?_
              refine va_alen (v := nI 24) hx hb hK hP 1 1 rfl rfl rfl d_M_kindOf_121 ?_
              refine lv_goto (tgt := 130) hx hb d_M_kindOf_122 (by decide) ?_
              refine xn_ge (tgt := 195) hx hb (by omega) (by omega) d_M_kindOf_130 (by decide) (fun c130_17 => ?_) (fun c130_17 => ?_)
              · skip
                refine lv_iload hx hb d_M_kindOf_195 (lv_at hl 3 rfl) ?_
                exact hret H locs _ ls (iI fv) () d_M_kindOf_197 (by rw [hfv, hkey, show t = 12 from by omega]) hP hD hS
              · skip
                refine lv_iload_n hx hb d_M_kindOf_133 rfl (lv_at hl 1 rfl) ?_
                refine xz_eq (tgt := 147) (X := (1 : Nat)) hx hb (nI_toInt (by omega)) d_M_kindOf_134 (by decide) (fun c134_18 => absurd c134_18 (by omega)) (fun c134_18 => ?_)
                refine lv_aload_n hx hb d_M_kindOf_137 rfl (lv_at hl 0 rfl) ?_
                refine va_get (D := D) (ci := 2) (v := .ref pl) (C := R_M) (T := F_M) (N := 21) hx hb hts iw_M hown hK hP 0 rfl rfl 10 (by decide) (hts _ tw_397) (fun _ h9 => h9) rfl d_M_kindOf_138 ?_
                refine lv_iload hx hb d_M_kindOf_141 (lv_at hl 4 rfl) ?_
                refine xi_ald hx hb hK hP 1 1 rfl rfl (k := 2 * t) (by omega) (by first | decide | omega) d_M_kindOf_143 ?_
                refine lv_goto (tgt := 154) hx hb d_M_kindOf_144 (by decide) ?_
                refine lv_istore (lv' := [(6, .int (iI (plF (2 * t)))), (0, .ref g), (1, .int (nI 1)), (3, .int (nI key)), (4, .int (iI fv)), (5, .int (nI (2 * t)))]) hx hb d_M_kindOf_154 hl (by decide) rfl (fun ls hl => ?_)
                refine lv_iload hx hb d_M_kindOf_156 (lv_at hl 0 rfl) ?_
                refine lv_iload_n hx hb d_M_kindOf_158 rfl (lv_at hl 3 rfl) ?_
                refine xi_ne (tgt := 189) (X := (plF (2 * t))) (Y := ((key : Nat) : Int)) hx hb (iI_toInt (by have z := plF_B (2 * t) (by omega); unfold iB; omega)) (nI_toInt (by omega)) d_M_kindOf_159 (by decide) (fun c159_19 => ?_) (fun c159_19 => ?_)
                · skip
                  refine lv_iinc (v := nI ((2 * t) + 2)) (lv' := [(5, .int (nI ((2 * t) + 2))), (6, .int (iI (plF (2 * t)))), (0, .ref g), (1, .int (nI 1)), (3, .int (nI key)), (4, .int (iI fv))]) hx hb d_M_kindOf_189 hl (k := 5) rfl (nI_add _ _) (by decide) rfl (fun ls hl => ?_)
                  refine lv_goto (tgt := 111) hx hb d_M_kindOf_192 (by decide) ?_
                  exact ih_111 (t + 1) fv key H locs ls (by omega) hkey (fnd_f hfv c159_19) (by omega) hP hD hS (lv_sub hl [2, 3, 4, 5, 0] rfl)
                · skip
                  refine lv_iload_n hx hb d_M_kindOf_162 rfl (lv_at hl 2 rfl) ?_
                  refine xz_eq (tgt := 178) (X := (1 : Nat)) hx hb (nI_toInt (by omega)) d_M_kindOf_163 (by decide) (fun c163_20 => absurd c163_20 (by omega)) (fun c163_20 => ?_)
                  refine lv_aload_n hx hb d_M_kindOf_166 rfl (lv_at hl 1 rfl) ?_
                  refine va_get (D := D) (ci := 2) (v := .ref pl) (C := R_M) (T := F_M) (N := 21) hx hb hts iw_M hown hK hP 0 rfl rfl 10 (by decide) (hts _ tw_397) (fun _ h9 => h9) rfl d_M_kindOf_167 ?_
                  refine lv_iload hx hb d_M_kindOf_170 (lv_at hl 5 rfl) ?_
                  refine lv_iconst (v := nI 1) hx hb d_M_kindOf_172 (by decide) ?_
                  refine xn_add hx hb d_M_kindOf_173 ?_
                  refine xi_ald hx hb hK hP 1 1 rfl rfl (k := (2 * t) + 1) (by omega) (by first | decide | omega) d_M_kindOf_174 ?_
                  refine lv_goto (tgt := 187) hx hb d_M_kindOf_175 (by decide) ?_
                  refine lv_istore (lv' := [(4, .int (iI (plF ((2 * t) + 1)))), (6, .int (iI (plF (2 * t)))), (0, .ref g), (1, .int (nI 1)), (3, .int (nI key)), (5, .int (nI (2 * t)))]) hx hb d_M_kindOf_187 hl (by decide) rfl (fun ls hl => ?_)
                  refine lv_iinc (v := nI ((2 * t) + 2)) (lv' := [(5, .int (nI ((2 * t) + 2))), (4, .int (iI (plF ((2 * t) + 1)))), (6, .int (iI (plF (2 * t)))), (0, .ref g), (1, .int (nI 1)), (3, .int (nI key))]) hx hb d_M_kindOf_189 hl (k := 5) rfl (nI_add _ _) (by decide) rfl (fun ls hl => ?_)
                  refine lv_goto (tgt := 111) hx hb d_M_kindOf_192 (by decide) ?_
                  exact ih_111 (t + 1) (plF (2 * t + 1)) key H locs ls (by omega) hkey (fnd_t hfv c159_19) (by omega) hP hD hS (lv_sub hl [3, 4, 5, 1, 0] rfl)
          exact lp_111 ((12 - 0) + 1) 0 (-1) ((((1000 * x0) + (100 * x1)) + (10 * y0)) + y1) H locs ls (Nat.zero_le _) ((keyN_f (a0 := x0) (a1 := x1) (b0 := y0) (b1 := y1) (by omega)).symm) rfl (by omega) hP hD hS (lv_sub hl [4, 5, 2, 1, 0] rfl)
        · skip
          refine lv_iconst (v := nI 1) hx hb d_M_kindOf_33 (by decide) ?_
          refine lv_goto (tgt := 38) hx hb d_M_kindOf_34 (by decide) ?_
          refine lv_istore_n (lv' := [(2, .int (nI 1)), (0, .ref g), (1, .int (nI 1))]) hx hb d_M_kindOf_38 rfl hl (by decide) rfl (fun ls hl => ?_)
          refine lv_iload_n hx hb d_M_kindOf_39 rfl (lv_at hl 0 rfl) ?_
          refine xz_eq (tgt := 75) (X := (1 : Nat)) hx hb (nI_toInt (by omega)) d_M_kindOf_40 (by decide) (fun c40_21 => absurd c40_21 (by omega)) (fun c40_21 => ?_)
          refine lv_sipush (v := nI 1000) hx hb d_M_kindOf_43 (by decide) ?_
          refine lv_aload_n hx hb d_M_kindOf_46 rfl (lv_at hl 1 rfl) ?_
          refine va_get (D := D) (ci := 2) (v := .int (nI x1)) (C := R_M) (T := F_M) (N := 21) hx hb hts iw_M hown hK hP 0 rfl rfl 13 (by decide) (hts _ tw_400) (fun _ h9 => h9) rfl d_M_kindOf_47 ?_
          refine xn_mul hx hb d_M_kindOf_50 ?_
          refine lv_bipush (v := nI 100) hx hb d_M_kindOf_51 (by decide) ?_
          refine lv_aload_n hx hb d_M_kindOf_53 rfl (lv_at hl 1 rfl) ?_
          refine va_get (D := D) (ci := 2) (v := .int (nI x0)) (C := R_M) (T := F_M) (N := 21) hx hb hts iw_M hown hK hP 0 rfl rfl 12 (by decide) (hts _ tw_399) (fun _ h9 => h9) rfl d_M_kindOf_54 ?_
          refine xn_mul hx hb d_M_kindOf_57 ?_
          refine xn_add hx hb d_M_kindOf_58 ?_
          refine lv_bipush (v := nI 10) hx hb d_M_kindOf_59 (by decide) ?_
          refine lv_aload_n hx hb d_M_kindOf_61 rfl (lv_at hl 1 rfl) ?_
          refine va_get (D := D) (ci := 2) (v := .int (nI y1)) (C := R_M) (T := F_M) (N := 21) hx hb hts iw_M hown hK hP 0 rfl rfl 15 (by decide) (hts _ tw_402) (fun _ h9 => h9) rfl d_M_kindOf_62 ?_
          refine xn_mul hx hb d_M_kindOf_65 ?_
          refine xn_add hx hb d_M_kindOf_66 ?_
          refine lv_aload_n hx hb d_M_kindOf_67 rfl (lv_at hl 1 rfl) ?_
          refine va_get (D := D) (ci := 2) (v := .int (nI y0)) (C := R_M) (T := F_M) (N := 21) hx hb hts iw_M hown hK hP 0 rfl rfl 14 (by decide) (hts _ tw_401) (fun _ h9 => h9) rfl d_M_kindOf_68 ?_
          refine xn_add hx hb d_M_kindOf_71 ?_
          refine lv_goto (tgt := 104) hx hb d_M_kindOf_72 (by decide) ?_
          refine lv_istore_n (lv' := [(3, .int (nI ((((1000 * x1) + (100 * x0)) + (10 * y1)) + y0))), (2, .int (nI 1)), (0, .ref g), (1, .int (nI 1))]) hx hb d_M_kindOf_104 rfl hl (by decide) rfl (fun ls hl => ?_)
          have hkb := keyN_B hx0 hx1 hy0 hy1
          refine lv_iconst (v := (-1)) hx hb d_M_kindOf_105 (by decide) ?_
          refine lv_istore (lv' := [(4, .int (-1)), (3, .int (nI ((((1000 * x1) + (100 * x0)) + (10 * y1)) + y0))), (2, .int (nI 1)), (0, .ref g), (1, .int (nI 1))]) hx hb d_M_kindOf_106 hl (by decide) rfl (fun ls hl => ?_)
          refine lv_iconst (v := nI 0) hx hb d_M_kindOf_108 (by decide) ?_
          refine lv_istore (lv' := [(5, .int (nI 0)), (4, .int (-1)), (3, .int (nI ((((1000 * x1) + (100 * x0)) + (10 * y1)) + y0))), (2, .int (nI 1)), (0, .ref g), (1, .int (nI 1))]) hx hb d_M_kindOf_109 hl (by decide) rfl (fun ls hl => ?_)
          have lp_111 : ∀ (n_111 : Nat) (t : Nat) (fv : Int) (key : Nat) (H : Heap) (locs : List Loc) (ls : Array Slot), (t ≤ 12) → (key = keyN x0 x1 y0 y1) → (fv = fndN plF (key : Nat) t) → (12 - t) < n_111 → va_P D vwC [(g, .inr (2, [.int cd, .int (nI d), .ref mm, .int ik, .ref kf, .ref tb, .int rw, .ref wk, .int ab, .int be, .ref pl, .ref sp, .int (nI x0), .int (nI x1), .int (nI y0), .int (nI y1), .ref po, .ref to, .ref ba, .ref li, .int lm])), (pl, IA cI 24 plF), (sp, IA cI 40 spF)] H → va_D A [(g, .inr (2, [.int cd, .int (nI d), .ref mm, .int ik, .ref kf, .ref tb, .int rw, .ref wk, .int ab, .int be, .ref pl, .ref sp, .int (nI x0), .int (nI x1), .int (nI y0), .int (nI y1), .ref po, .ref to, .ref ba, .ref li, .int lm])), (pl, IA cI 24 plF), (sp, IA cI 40 spF)] → va_S A s.heap H locs → lv_has ls 7 [(0, .ref g), (1, .int (nI 1)), (3, .int (nI key)), (4, .int (iI fv)), (5, .int (nI (2 * t)))] → W p l e rm_r_kindP s m args below meth c H locs 0 0 Q (F0 m 111 ls []) := by
            intro n_111
            induction n_111 with
            | zero => intro t fv key H locs ls ht hkey hfv hn_111; exact absurd hn_111 (Nat.not_lt_zero _)
            | succ n_111 ih_111 =>
              intro t fv key H locs ls ht hkey hfv hn_111 hP hD hS hl
              refine lv_iload hx hb d_M_kindOf_111 (lv_at hl 4 rfl) ?_
              refine lv_iload_n hx hb d_M_kindOf_113 rfl (lv_at hl 1 rfl) ?_
              refine xz_eq (tgt := 125) (X := (1 : Nat)) hx hb (nI_toInt (by omega)) d_M_kindOf_114 (by decide) (fun c114_22 => absurd c114_22 (by omega)) (fun c114_22 => ?_)
              refine lv_aload_n hx hb d_M_kindOf_117 rfl (lv_at hl 0 rfl) ?_
              refine va_get (D := D) (ci := 2) (v := .ref pl) (C := R_M) (T := F_M) (N := 21) hx hb hts iw_M hown hK hP 0 rfl rfl 10 (by decide) (hts _ tw_397) (fun _ h9 => h9) rfl d_M_kindOf_118 ?_
              refine va_alen (v := nI 24) hx hb hK hP 1 1 rfl rfl rfl d_M_kindOf_121 ?_
              refine lv_goto (tgt := 130) hx hb d_M_kindOf_122 (by decide) ?_
              refine xn_ge (tgt := 195) hx hb (by omega) (by omega) d_M_kindOf_130 (by decide) (fun c130_23 => ?_) (fun c130_23 => ?_)
              · skip
                refine lv_iload hx hb d_M_kindOf_195 (lv_at hl 3 rfl) ?_
                exact hret H locs _ ls (iI fv) () d_M_kindOf_197 (by rw [hfv, hkey, show t = 12 from by omega]) hP hD hS
              · skip
                refine lv_iload_n hx hb d_M_kindOf_133 rfl (lv_at hl 1 rfl) ?_
                refine xz_eq (tgt := 147) (X := (1 : Nat)) hx hb (nI_toInt (by omega)) d_M_kindOf_134 (by decide) (fun c134_24 => absurd c134_24 (by omega)) (fun c134_24 => ?_)
                refine lv_aload_n hx hb d_M_kindOf_137 rfl (lv_at hl 0 rfl) ?_
                refine va_get (D := D) (ci := 2) (v := .ref pl) (C := R_M) (T := F_M) (N := 21) hx hb hts iw_M hown hK hP 0 rfl rfl 10 (by decide) (hts _ tw_397) (fun _ h9 => h9) rfl d_M_kindOf_138 ?_
                refine lv_iload hx hb d_M_kindOf_141 (lv_at hl 4 rfl) ?_
                refine xi_ald hx hb hK hP 1 1 rfl rfl (k := 2 * t) (by omega) (by first | decide | omega) d_M_kindOf_143 ?_
                refine lv_goto (tgt := 154) hx hb d_M_kindOf_144 (by decide) ?_
                refine lv_istore (lv' := [(6, .int (iI (plF (2 * t)))), (0, .ref g), (1, .int (nI 1)), (3, .int (nI key)), (4, .int (iI fv)), (5, .int (nI (2 * t)))]) hx hb d_M_kindOf_154 hl (by decide) rfl (fun ls hl => ?_)
                refine lv_iload hx hb d_M_kindOf_156 (lv_at hl 0 rfl) ?_
                refine lv_iload_n hx hb d_M_kindOf_158 rfl (lv_at hl 3 rfl) ?_
                refine xi_ne (tgt := 189) (X := (plF (2 * t))) (Y := ((key : Nat) : Int)) hx hb (iI_toInt (by have z := plF_B (2 * t) (by omega); unfold iB; omega)) (nI_toInt (by omega)) d_M_kindOf_159 (by decide) (fun c159_25 => ?_) (fun c159_25 => ?_)
                · skip
                  refine lv_iinc (v := nI ((2 * t) + 2)) (lv' := [(5, .int (nI ((2 * t) + 2))), (6, .int (iI (plF (2 * t)))), (0, .ref g), (1, .int (nI 1)), (3, .int (nI key)), (4, .int (iI fv))]) hx hb d_M_kindOf_189 hl (k := 5) rfl (nI_add _ _) (by decide) rfl (fun ls hl => ?_)
                  refine lv_goto (tgt := 111) hx hb d_M_kindOf_192 (by decide) ?_
                  exact ih_111 (t + 1) fv key H locs ls (by omega) hkey (fnd_f hfv c159_25) (by omega) hP hD hS (lv_sub hl [2, 3, 4, 5, 0] rfl)
                · skip
                  refine lv_iload_n hx hb d_M_kindOf_162 rfl (lv_at hl 2 rfl) ?_
                  refine xz_eq (tgt := 178) (X := (1 : Nat)) hx hb (nI_toInt (by omega)) d_M_kindOf_163 (by decide) (fun c163_26 => absurd c163_26 (by omega)) (fun c163_26 => ?_)
                  refine lv_aload_n hx hb d_M_kindOf_166 rfl (lv_at hl 1 rfl) ?_
                  refine va_get (D := D) (ci := 2) (v := .ref pl) (C := R_M) (T := F_M) (N := 21) hx hb hts iw_M hown hK hP 0 rfl rfl 10 (by decide) (hts _ tw_397) (fun _ h9 => h9) rfl d_M_kindOf_167 ?_
                  refine lv_iload hx hb d_M_kindOf_170 (lv_at hl 5 rfl) ?_
                  refine lv_iconst (v := nI 1) hx hb d_M_kindOf_172 (by decide) ?_
                  refine xn_add hx hb d_M_kindOf_173 ?_
                  refine xi_ald hx hb hK hP 1 1 rfl rfl (k := (2 * t) + 1) (by omega) (by first | decide | omega) d_M_kindOf_174 ?_
                  refine lv_goto (tgt := 187) hx hb d_M_kindOf_175 (by decide) ?_
                  refine lv_istore (lv' := [(4, .int (iI (plF ((2 * t) + 1)))), (6, .int (iI (plF (2 * t)))), (0, .ref g), (1, .int (nI 1)), (3, .int (nI key)), (5, .int (nI (2 * t)))]) hx hb d_M_kindOf_187 hl (by decide) rfl (fun ls hl => ?_)
                  refine lv_iinc (v := nI ((2 * t) + 2)) (lv' := [(5, .int (nI ((2 * t) + 2))), (4, .int (iI (plF ((2 * t) + 1)))), (6, .int (iI (plF (2 * t)))), (0, .ref g), (1, .int (nI 1)), (3, .int (nI key))]) hx hb d_M_kindOf_189 hl (k := 5) rfl (nI_add _ _) (by decide) rfl (fun ls hl => ?_)
                  refine lv_goto (tgt := 111) hx hb d_M_kindOf_192 (by decide) ?_
                  exact ih_111 (t + 1) (plF (2 * t + 1)) key H locs ls (by omega) hkey (fnd_t hfv c159_25) (by omega) hP hD hS (lv_sub hl [3, 4, 5, 1, 0] rfl)
          exact lp_111 ((12 - 0) + 1) 0 (-1) ((((1000 * x1) + (100 * x0)) + (10 * y1)) + y0) H locs ls (Nat.zero_le _) ((keyN_t (a0 := x0) (a1 := x1) (b0 := y0) (b1 := y1) (by omega)).symm) rfl (by omega) hP hD hS (lv_sub hl [4, 5, 2, 1, 0] rfl)
  rw [hH, hlc] at key; exact key

def rm_r_kindS : Room := { frames := 0, cells := 0, slots := 0, locals := 0 }
set_option maxHeartbeats 4000000 in
set_option maxRecDepth 100000 in
/-- the kind by its table -/
theorem r_kindS (l : Launch) (D : va_G) (cJ cI : ClassId) (g : Nat) (cd : Int32) (d : Nat) (ik : Int32) (rw : Int32) (ab : Int32) (be : Int32) (lm : Int32) (mm : Nat) (kf : Nat) (tb : Nat) (wk : Nat) (pl : Nat) (sp : Nat) (po : Nat) (to : Nat) (ba : Nat) (li : Nat) (x0 : Nat) (x1 : Nat) (y0 : Nat) (y1 : Nat) (hx0 : x0 ≤ 4) (hx1 : x1 ≤ 4) (hy0 : y0 ≤ 4) (hy1 : y1 ≤ 4) (sz : Nat) : xMi l y_M_kindOf (Cond.code y_M_kindOf b_M_kindOf 7 (some .int) :: tW) rm_r_kindS [.ref g, .int (nI 0)] D vwC [(cJ, .long), (cI, .int)] sz [(g, .inr (2, [.int cd, .int (nI d), .ref mm, .int ik, .ref kf, .ref tb, .int rw, .ref wk, .int ab, .int be, .ref pl, .ref sp, .int (nI x0), .int (nI x1), .int (nI y0), .int (nI y1), .ref po, .ref to, .ref ba, .ref li, .int lm])), (pl, IA cI 24 plF), (sp, IA cI 40 spF)] (fun (rv : Int32) (_ : Unit) => rv = iI (fndN spF (keyN x0 x1 y0 y1 : Nat) 20)) (fun (_ : Unit) => [(g, .inr (2, [.int cd, .int (nI d), .ref mm, .int ik, .ref kf, .ref tb, .int rw, .ref wk, .int ab, .int be, .ref pl, .ref sp, .int (nI x0), .int (nI x1), .int (nI y0), .int (nI y1), .ref po, .ref to, .ref ba, .ref li, .int lm])), (pl, IA cI 24 plF), (sp, IA cI 40 spF)]) 0 0 := by
  refine xoi (cc := b_M_kindOf) (maxL := 7) (by decide) rfl (Nat.le_of_ble_eq_true rfl) ?_
  intro p e s m args below meth c Q A hx hb hml hts hown hN hA hS hP hK hD hret ls hl
  have hl : lv_has ls 7 [(0, .ref g), (1, .int (nI 0))] := hl
  obtain ⟨H, hH⟩ : ∃ z, z = s.heap := ⟨_, rfl⟩
  obtain ⟨locs, hlc⟩ : ∃ z : List Loc, z = [] := ⟨_, rfl⟩
  rw [← hH] at hP
  have hS : va_S A s.heap H locs := by rw [hH, hlc]; exact hS
  have key : W p l e rm_r_kindS s m args below meth c H locs 0 0 Q (F0 m 0 ls []) := by
    refine lv_aload_n hx hb d_M_kindOf_0 rfl (lv_at hl 0 rfl) ?_
    refine va_get (D := D) (ci := 2) (v := .int (nI x1)) (C := R_M) (T := F_M) (N := 21) hx hb hts iw_M hown hK hP 0 rfl rfl 13 (by decide) (hts _ tw_400) (fun _ h9 => h9) rfl d_M_kindOf_1 ?_
    refine lv_aload_n hx hb d_M_kindOf_4 rfl (lv_at hl 0 rfl) ?_
    refine va_get (D := D) (ci := 2) (v := .int (nI x0)) (C := R_M) (T := F_M) (N := 21) hx hb hts iw_M hown hK hP 0 rfl rfl 12 (by decide) (hts _ tw_399) (fun _ h9 => h9) rfl d_M_kindOf_5 ?_
    refine xn_gt (tgt := 33) hx hb (by omega) (by omega) d_M_kindOf_8 (by decide) (fun c8_0 => ?_) (fun c8_0 => ?_)
    · skip
      refine lv_iconst (v := nI 1) hx hb d_M_kindOf_33 (by decide) ?_
      refine lv_goto (tgt := 38) hx hb d_M_kindOf_34 (by decide) ?_
      refine lv_istore_n (lv' := [(2, .int (nI 1)), (0, .ref g), (1, .int (nI 0))]) hx hb d_M_kindOf_38 rfl hl (by decide) rfl (fun ls hl => ?_)
      refine lv_iload_n hx hb d_M_kindOf_39 rfl (lv_at hl 0 rfl) ?_
      refine xz_eq (tgt := 75) (X := (1 : Nat)) hx hb (nI_toInt (by omega)) d_M_kindOf_40 (by decide) (fun c40_1 => absurd c40_1 (by omega)) (fun c40_1 => ?_)
      refine lv_sipush (v := nI 1000) hx hb d_M_kindOf_43 (by decide) ?_
      refine lv_aload_n hx hb d_M_kindOf_46 rfl (lv_at hl 1 rfl) ?_
      refine va_get (D := D) (ci := 2) (v := .int (nI x1)) (C := R_M) (T := F_M) (N := 21) hx hb hts iw_M hown hK hP 0 rfl rfl 13 (by decide) (hts _ tw_400) (fun _ h9 => h9) rfl d_M_kindOf_47 ?_
      refine xn_mul hx hb d_M_kindOf_50 ?_
      refine lv_bipush (v := nI 100) hx hb d_M_kindOf_51 (by decide) ?_
      refine lv_aload_n hx hb d_M_kindOf_53 rfl (lv_at hl 1 rfl) ?_
      refine va_get (D := D) (ci := 2) (v := .int (nI x0)) (C := R_M) (T := F_M) (N := 21) hx hb hts iw_M hown hK hP 0 rfl rfl 12 (by decide) (hts _ tw_399) (fun _ h9 => h9) rfl d_M_kindOf_54 ?_
      refine xn_mul hx hb d_M_kindOf_57 ?_
      refine xn_add hx hb d_M_kindOf_58 ?_
      refine lv_bipush (v := nI 10) hx hb d_M_kindOf_59 (by decide) ?_
      refine lv_aload_n hx hb d_M_kindOf_61 rfl (lv_at hl 1 rfl) ?_
      refine va_get (D := D) (ci := 2) (v := .int (nI y1)) (C := R_M) (T := F_M) (N := 21) hx hb hts iw_M hown hK hP 0 rfl rfl 15 (by decide) (hts _ tw_402) (fun _ h9 => h9) rfl d_M_kindOf_62 ?_
      refine xn_mul hx hb d_M_kindOf_65 ?_
      refine xn_add hx hb d_M_kindOf_66 ?_
      refine lv_aload_n hx hb d_M_kindOf_67 rfl (lv_at hl 1 rfl) ?_
      refine va_get (D := D) (ci := 2) (v := .int (nI y0)) (C := R_M) (T := F_M) (N := 21) hx hb hts iw_M hown hK hP 0 rfl rfl 14 (by decide) (hts _ tw_401) (fun _ h9 => h9) rfl d_M_kindOf_68 ?_
      refine xn_add hx hb d_M_kindOf_71 ?_
      refine lv_goto (tgt := 104) hx hb d_M_kindOf_72 (by decide) ?_
      refine lv_istore_n (lv' := [(3, .int (nI ((((1000 * x1) + (100 * x0)) + (10 * y1)) + y0))), (2, .int (nI 1)), (0, .ref g), (1, .int (nI 0))]) hx hb d_M_kindOf_104 rfl hl (by decide) rfl (fun ls hl => ?_)
      have hkb := keyN_B hx0 hx1 hy0 hy1
      refine lv_iconst (v := (-1)) hx hb d_M_kindOf_105 (by decide) ?_
      refine lv_istore (lv' := [(4, .int (-1)), (3, .int (nI ((((1000 * x1) + (100 * x0)) + (10 * y1)) + y0))), (2, .int (nI 1)), (0, .ref g), (1, .int (nI 0))]) hx hb d_M_kindOf_106 hl (by decide) rfl (fun ls hl => ?_)
      refine lv_iconst (v := nI 0) hx hb d_M_kindOf_108 (by decide) ?_
      refine lv_istore (lv' := [(5, .int (nI 0)), (4, .int (-1)), (3, .int (nI ((((1000 * x1) + (100 * x0)) + (10 * y1)) + y0))), (2, .int (nI 1)), (0, .ref g), (1, .int (nI 0))]) hx hb d_M_kindOf_109 hl (by decide) rfl (fun ls hl => ?_)
      have lp_111 : ∀ (n_111 : Nat) (t : Nat) (fv : Int) (key : Nat) (H : Heap) (locs : List Loc) (ls : Array Slot), (t ≤ 20) → (key = keyN x0 x1 y0 y1) → (fv = fndN spF (key : Nat) t) → (20 - t) < n_111 → va_P D vwC [(g, .inr (2, [.int cd, .int (nI d), .ref mm, .int ik, .ref kf, .ref tb, .int rw, .ref wk, .int ab, .int be, .ref pl, .ref sp, .int (nI x0), .int (nI x1), .int (nI y0), .int (nI y1), .ref po, .ref to, .ref ba, .ref li, .int lm])), (pl, IA cI 24 plF), (sp, IA cI 40 spF)] H → va_D A [(g, .inr (2, [.int cd, .int (nI d), .ref mm, .int ik, .ref kf, .ref tb, .int rw, .ref wk, .int ab, .int be, .ref pl, .ref sp, .int (nI x0), .int (nI x1), .int (nI y0), .int (nI y1), .ref po, .ref to, .ref ba, .ref li, .int lm])), (pl, IA cI 24 plF), (sp, IA cI 40 spF)] → va_S A s.heap H locs → lv_has ls 7 [(0, .ref g), (1, .int (nI 0)), (3, .int (nI key)), (4, .int (iI fv)), (5, .int (nI (2 * t)))] → W p l e rm_r_kindS s m args below meth c H locs 0 0 Q (F0 m 111 ls []) := by
        intro n_111
        induction n_111 with
        | zero => intro t fv key H locs ls ht hkey hfv hn_111; exact absurd hn_111 (Nat.not_lt_zero _)
        | succ n_111 ih_111 =>
          intro t fv key H locs ls ht hkey hfv hn_111 hP hD hS hl
          refine lv_iload hx hb d_M_kindOf_111 (lv_at hl 4 rfl) ?_
          refine lv_iload_n hx hb d_M_kindOf_113 rfl (lv_at hl 1 rfl) ?_
          refine xz_eq (tgt := 125) (X := (0 : Nat)) hx hb (nI_toInt (by omega)) d_M_kindOf_114 (by decide) (fun c114_2 => ?_) (fun c114_2 => absurd c114_2 (by omega))
          refine lv_aload_n hx hb d_M_kindOf_125 rfl (lv_at hl 0 rfl) ?_
          refine va_get (D := D) (ci := 2) (v := .ref sp) (C := R_M) (T := F_M) (N := 21) hx hb hts iw_M hown hK hP 0 rfl rfl 11 (by decide) (hts _ tw_398) (fun _ h9 => h9) rfl d_M_kindOf_126 ?_
          refine va_alen (v := nI 40) hx hb hK hP 2 1 rfl rfl rfl d_M_kindOf_129 ?_
          refine xn_ge (tgt := 195) hx hb (by omega) (by omega) d_M_kindOf_130 (by decide) (fun c130_3 => ?_) (fun c130_3 => ?_)
          · skip
            refine lv_iload hx hb d_M_kindOf_195 (lv_at hl 3 rfl) ?_
            exact hret H locs _ ls (iI fv) () d_M_kindOf_197 (by rw [hfv, hkey, show t = 20 from by omega]) hP hD hS
          · skip
            refine lv_iload_n hx hb d_M_kindOf_133 rfl (lv_at hl 1 rfl) ?_
            refine xz_eq (tgt := 147) (X := (0 : Nat)) hx hb (nI_toInt (by omega)) d_M_kindOf_134 (by decide) (fun c134_4 => ?_) (fun c134_4 => absurd c134_4 (by omega))
            refine lv_aload_n hx hb d_M_kindOf_147 rfl (lv_at hl 0 rfl) ?_
            refine va_get (D := D) (ci := 2) (v := .ref sp) (C := R_M) (T := F_M) (N := 21) hx hb hts iw_M hown hK hP 0 rfl rfl 11 (by decide) (hts _ tw_398) (fun _ h9 => h9) rfl d_M_kindOf_148 ?_
            refine lv_iload hx hb d_M_kindOf_151 (lv_at hl 4 rfl) ?_
            refine xi_ald hx hb hK hP 2 1 rfl rfl (k := 2 * t) (by omega) (by first | decide | omega) d_M_kindOf_153 ?_
            refine lv_istore (lv' := [(6, .int (iI (spF (2 * t)))), (0, .ref g), (1, .int (nI 0)), (3, .int (nI key)), (4, .int (iI fv)), (5, .int (nI (2 * t)))]) hx hb d_M_kindOf_154 hl (by decide) rfl (fun ls hl => ?_)
            refine lv_iload hx hb d_M_kindOf_156 (lv_at hl 0 rfl) ?_
            refine lv_iload_n hx hb d_M_kindOf_158 rfl (lv_at hl 3 rfl) ?_
            refine xi_ne (tgt := 189) (X := (spF (2 * t))) (Y := ((key : Nat) : Int)) hx hb (iI_toInt (by have z := spF_B (2 * t) (by omega); unfold iB; omega)) (nI_toInt (by omega)) d_M_kindOf_159 (by decide) (fun c159_5 => ?_) (fun c159_5 => ?_)
            · skip
              refine lv_iinc (v := nI ((2 * t) + 2)) (lv' := [(5, .int (nI ((2 * t) + 2))), (6, .int (iI (spF (2 * t)))), (0, .ref g), (1, .int (nI 0)), (3, .int (nI key)), (4, .int (iI fv))]) hx hb d_M_kindOf_189 hl (k := 5) rfl (nI_add _ _) (by decide) rfl (fun ls hl => ?_)
              refine lv_goto (tgt := 111) hx hb d_M_kindOf_192 (by decide) ?_
              exact ih_111 (t + 1) fv key H locs ls (by omega) hkey (fnd_f hfv c159_5) (by omega) hP hD hS (lv_sub hl [2, 3, 4, 5, 0] rfl)
            · skip
              refine lv_iload_n hx hb d_M_kindOf_162 rfl (lv_at hl 2 rfl) ?_
              refine xz_eq (tgt := 178) (X := (0 : Nat)) hx hb (nI_toInt (by omega)) d_M_kindOf_163 (by decide) (fun c163_6 => ?_) (fun c163_6 => absurd c163_6 (by omega))
              refine lv_aload_n hx hb d_M_kindOf_178 rfl (lv_at hl 1 rfl) ?_
              refine va_get (D := D) (ci := 2) (v := .ref sp) (C := R_M) (T := F_M) (N := 21) hx hb hts iw_M hown hK hP 0 rfl rfl 11 (by decide) (hts _ tw_398) (fun _ h9 => h9) rfl d_M_kindOf_179 ?_
              refine lv_iload hx hb d_M_kindOf_182 (lv_at hl 5 rfl) ?_
              refine lv_iconst (v := nI 1) hx hb d_M_kindOf_184 (by decide) ?_
              refine xn_add hx hb d_M_kindOf_185 ?_
              refine xi_ald hx hb hK hP 2 1 rfl rfl (k := (2 * t) + 1) (by omega) (by first | decide | omega) d_M_kindOf_186 ?_
              refine lv_istore (lv' := [(4, .int (iI (spF ((2 * t) + 1)))), (6, .int (iI (spF (2 * t)))), (0, .ref g), (1, .int (nI 0)), (3, .int (nI key)), (5, .int (nI (2 * t)))]) hx hb d_M_kindOf_187 hl (by decide) rfl (fun ls hl => ?_)
              refine lv_iinc (v := nI ((2 * t) + 2)) (lv' := [(5, .int (nI ((2 * t) + 2))), (4, .int (iI (spF ((2 * t) + 1)))), (6, .int (iI (spF (2 * t)))), (0, .ref g), (1, .int (nI 0)), (3, .int (nI key))]) hx hb d_M_kindOf_189 hl (k := 5) rfl (nI_add _ _) (by decide) rfl (fun ls hl => ?_)
              refine lv_goto (tgt := 111) hx hb d_M_kindOf_192 (by decide) ?_
              exact ih_111 (t + 1) (spF (2 * t + 1)) key H locs ls (by omega) hkey (fnd_t hfv c159_5) (by omega) hP hD hS (lv_sub hl [3, 4, 5, 1, 0] rfl)
      exact lp_111 ((20 - 0) + 1) 0 (-1) ((((1000 * x1) + (100 * x0)) + (10 * y1)) + y0) H locs ls (Nat.zero_le _) ((keyN_t (a0 := x0) (a1 := x1) (b0 := y0) (b1 := y1) (by omega)).symm) rfl (by omega) hP hD hS (lv_sub hl [4, 5, 2, 1, 0] rfl)
    · skip
      refine lv_aload_n hx hb d_M_kindOf_11 rfl (lv_at hl 0 rfl) ?_
      refine va_get (D := D) (ci := 2) (v := .int (nI x1)) (C := R_M) (T := F_M) (N := 21) hx hb hts iw_M hown hK hP 0 rfl rfl 13 (by decide) (hts _ tw_400) (fun _ h9 => h9) rfl d_M_kindOf_12 ?_
      refine lv_aload_n hx hb d_M_kindOf_15 rfl (lv_at hl 0 rfl) ?_
      refine va_get (D := D) (ci := 2) (v := .int (nI x0)) (C := R_M) (T := F_M) (N := 21) hx hb hts iw_M hown hK hP 0 rfl rfl 12 (by decide) (hts _ tw_399) (fun _ h9 => h9) rfl d_M_kindOf_16 ?_
      refine xn_ne (tgt := 37) hx hb (by omega) (by omega) d_M_kindOf_19 (by decide) (fun c19_7 => ?_) (fun c19_7 => ?_)
      · skip
        refine lv_iconst (v := nI 0) hx hb d_M_kindOf_37 (by decide) ?_
        refine lv_istore_n (lv' := [(2, .int (nI 0)), (0, .ref g), (1, .int (nI 0))]) hx hb d_M_kindOf_38 rfl hl (by decide) rfl (fun ls hl => ?_)
        refine lv_iload_n hx hb d_M_kindOf_39 rfl (lv_at hl 0 rfl) ?_
        refine xz_eq (tgt := 75) (X := (0 : Nat)) hx hb (nI_toInt (by omega)) d_M_kindOf_40 (by decide) (fun c40_8 => ?_) (fun c40_8 => absurd c40_8 (by omega))
        refine lv_sipush (v := nI 1000) hx hb d_M_kindOf_75 (by decide) ?_
        refine lv_aload_n hx hb d_M_kindOf_78 rfl (lv_at hl 1 rfl) ?_
        refine va_get (D := D) (ci := 2) (v := .int (nI x0)) (C := R_M) (T := F_M) (N := 21) hx hb hts iw_M hown hK hP 0 rfl rfl 12 (by decide) (hts _ tw_399) (fun _ h9 => h9) rfl d_M_kindOf_79 ?_
        refine xn_mul hx hb d_M_kindOf_82 ?_
        refine lv_bipush (v := nI 100) hx hb d_M_kindOf_83 (by decide) ?_
        refine lv_aload_n hx hb d_M_kindOf_85 rfl (lv_at hl 1 rfl) ?_
        refine va_get (D := D) (ci := 2) (v := .int (nI x1)) (C := R_M) (T := F_M) (N := 21) hx hb hts iw_M hown hK hP 0 rfl rfl 13 (by decide) (hts _ tw_400) (fun _ h9 => h9) rfl d_M_kindOf_86 ?_
        refine xn_mul hx hb d_M_kindOf_89 ?_
        refine xn_add hx hb d_M_kindOf_90 ?_
        refine lv_bipush (v := nI 10) hx hb d_M_kindOf_91 (by decide) ?_
        refine lv_aload_n hx hb d_M_kindOf_93 rfl (lv_at hl 1 rfl) ?_
        refine va_get (D := D) (ci := 2) (v := .int (nI y0)) (C := R_M) (T := F_M) (N := 21) hx hb hts iw_M hown hK hP 0 rfl rfl 14 (by decide) (hts _ tw_401) (fun _ h9 => h9) rfl d_M_kindOf_94 ?_
        refine xn_mul hx hb d_M_kindOf_97 ?_
        refine xn_add hx hb d_M_kindOf_98 ?_
        refine lv_aload_n hx hb d_M_kindOf_99 rfl (lv_at hl 1 rfl) ?_
        refine va_get (D := D) (ci := 2) (v := .int (nI y1)) (C := R_M) (T := F_M) (N := 21) hx hb hts iw_M hown hK hP 0 rfl rfl 15 (by decide) (hts _ tw_402) (fun _ h9 => h9) rfl d_M_kindOf_100 ?_
        refine xn_add hx hb d_M_kindOf_103 ?_
        refine lv_istore_n (lv' := [(3, .int (nI ((((1000 * x0) + (100 * x1)) + (10 * y0)) + y1))), (2, .int (nI 0)), (0, .ref g), (1, .int (nI 0))]) hx hb d_M_kindOf_104 rfl hl (by decide) rfl (fun ls hl => ?_)
        have hkb := keyN_B hx0 hx1 hy0 hy1
        refine lv_iconst (v := (-1)) hx hb d_M_kindOf_105 (by decide) ?_
        refine lv_istore (lv' := [(4, .int (-1)), (3, .int (nI ((((1000 * x0) + (100 * x1)) + (10 * y0)) + y1))), (2, .int (nI 0)), (0, .ref g), (1, .int (nI 0))]) hx hb d_M_kindOf_106 hl (by decide) rfl (fun ls hl => ?_)
        refine lv_iconst (v := nI 0) hx hb d_M_kindOf_108 (by decide) ?_
        refine lv_istore (lv' := [(5, .int (nI 0)), (4, .int (-1)), (3, .int (nI ((((1000 * x0) + (100 * x1)) + (10 * y0)) + y1))), (2, .int (nI 0)), (0, .ref g), (1, .int (nI 0))]) hx hb d_M_kindOf_109 hl (by decide) rfl (fun ls hl => ?_)
        have lp_111 : ∀ (n_111 : Nat) (t : Nat) (fv : Int) (key : Nat) (H : Heap) (locs : List Loc) (ls : Array Slot), (t ≤ 20) → (key = keyN x0 x1 y0 y1) → (fv = fndN spF (key : Nat) t) → (20 - t) < n_111 → va_P D vwC [(g, .inr (2, [.int cd, .int (nI d), .ref mm, .int ik, .ref kf, .ref tb, .int rw, .ref wk, .int ab, .int be, .ref pl, .ref sp, .int (nI x0), .int (nI x1), .int (nI y0), .int (nI y1), .ref po, .ref to, .ref ba, .ref li, .int lm])), (pl, IA cI 24 plF), (sp, IA cI 40 spF)] H → va_D A [(g, .inr (2, [.int cd, .int (nI d), .ref mm, .int ik, .ref kf, .ref tb, .int rw, .ref wk, .int ab, .int be, .ref pl, .ref sp, .int (nI x0), .int (nI x1), .int (nI y0), .int (nI y1), .ref po, .ref to, .ref ba, .ref li, .int lm])), (pl, IA cI 24 plF), (sp, IA cI 40 spF)] → va_S A s.heap H locs → lv_has ls 7 [(0, .ref g), (1, .int (nI 0)), (3, .int (nI key)), (4, .int (iI fv)), (5, .int (nI (2 * t)))] → W p l e rm_r_kindS s m args below meth c H locs 0 0 Q (F0 m 111 ls []) := by
          intro n_111
          induction n_111 with
          | zero => intro t fv key H locs ls ht hkey hfv hn_111; exact absurd hn_111 (Nat.not_lt_zero _)
          | succ n_111 ih_111 =>
            intro t fv key H locs ls ht hkey hfv hn_111 hP hD hS hl
            refine lv_iload hx hb d_M_kindOf_111 (lv_at hl 4 rfl) ?_
            refine lv_iload_n hx hb d_M_kindOf_113 rfl (lv_at hl 1 rfl) ?_
            refine xz_eq (tgt := 125) (X := (0 : Nat)) hx hb (nI_toInt (by omega)) d_M_kindOf_114 (by decide) (fun c114_9 => ?_) (fun c114_9 => absurd c114_9 (by omega))
            refine lv_aload_n hx hb d_M_kindOf_125 rfl (lv_at hl 0 rfl) ?_
            refine va_get (D := D) (ci := 2) (v := .ref sp) (C := R_M) (T := F_M) (N := 21) hx hb hts iw_M hown hK hP 0 rfl rfl 11 (by decide) (hts _ tw_398) (fun _ h9 => h9) rfl d_M_kindOf_126 ?_
            refine va_alen (v := nI 40) hx hb hK hP 2 1 rfl rfl rfl d_M_kindOf_129 ?_
            refine xn_ge (tgt := 195) hx hb (by omega) (by omega) d_M_kindOf_130 (by decide) (fun c130_10 => ?_) (fun c130_10 => ?_)
            · skip
              refine lv_iload hx hb d_M_kindOf_195 (lv_at hl 3 rfl) ?_
              exact hret H locs _ ls (iI fv) () d_M_kindOf_197 (by rw [hfv, hkey, show t = 20 from by omega]) hP hD hS
            · skip
              refine lv_iload_n hx hb d_M_kindOf_133 rfl (lv_at hl 1 rfl) ?_
              refine xz_eq (tgt := 147) (X := (0 : Nat)) hx hb (nI_toInt (by omega)) d_M_kindOf_134 (by decide) (fun c134_11 => ?_) (fun c134_11 => absurd c134_11 (by omega))
              refine lv_aload_n hx hb d_M_kindOf_147 rfl (lv_at hl 0 rfl) ?_
              refine va_get (D := D) (ci := 2) (v := .ref sp) (C := R_M) (T := F_M) (N := 21) hx hb hts iw_M hown hK hP 0 rfl rfl 11 (by decide) (hts _ tw_398) (fun _ h9 => h9) rfl d_M_kindOf_148 ?_
              refine lv_iload hx hb d_M_kindOf_151 (lv_at hl 4 rfl) ?_
              refine xi_ald hx hb hK hP 2 1 rfl rfl (k := 2 * t) (by omega) (by first | decide | omega) d_M_kindOf_153 ?_
              refine lv_istore (lv' := [(6, .int (iI (spF (2 * t)))), (0, .ref g), (1, .int (nI 0)), (3, .int (nI key)), (4, .int (iI fv)), (5, .int (nI (2 * t)))]) hx hb d_M_kindOf_154 hl (by decide) rfl (fun ls hl => ?_)
              refine lv_iload hx hb d_M_kindOf_156 (lv_at hl 0 rfl) ?_
              refine lv_iload_n hx hb d_M_kindOf_158 rfl (lv_at hl 3 rfl) ?_
              refine xi_ne (tgt := 189) (X := (spF (2 * t))) (Y := ((key : Nat) : Int)) hx hb (iI_toInt (by have z := spF_B (2 * t) (by omega); unfold iB; omega)) (nI_toInt (by omega)) d_M_kindOf_159 (by decide) (fun c159_12 => ?_) (fun c159_12 => ?_)
              · skip
                refine lv_iinc (v := nI ((2 * t) + 2)) (lv' := [(5, .int (nI ((2 * t) + 2))), (6, .int (iI (spF (2 * t)))), (0, .ref g), (1, .int (nI 0)), (3, .int (nI key)), (4, .int (iI fv))]) hx hb d_M_kindOf_189 hl (k := 5) rfl (nI_add _ _) (by decide) rfl (fun ls hl => ?_)
                refine lv_goto (tgt := 111) hx hb d_M_kindOf_192 (by decide) ?_
                exact ih_111 (t + 1) fv key H locs ls (by omega) hkey (fnd_f hfv c159_12) (by omega) hP hD hS (lv_sub hl [2, 3, 4, 5, 0] rfl)
              · skip
                refine lv_iload_n hx hb d_M_kindOf_162 rfl (lv_at hl 2 rfl) ?_
                refine xz_eq (tgt := 178) (X := (0 : Nat)) hx hb (nI_toInt (by omega)) d_M_kindOf_163 (by decide) (fun c163_13 => ?_) (fun c163_13 => absurd c163_13 (by omega))
                refine lv_aload_n hx hb d_M_kindOf_178 rfl (lv_at hl 1 rfl) ?_
                refine va_get (D := D) (ci := 2) (v := .ref sp) (C := R_M) (T := F_M) (N := 21) hx hb hts iw_M hown hK hP 0 rfl rfl 11 (by decide) (hts _ tw_398) (fun _ h9 => h9) rfl d_M_kindOf_179 ?_
                refine lv_iload hx hb d_M_kindOf_182 (lv_at hl 5 rfl) ?_
                refine lv_iconst (v := nI 1) hx hb d_M_kindOf_184 (by decide) ?_
                refine xn_add hx hb d_M_kindOf_185 ?_
                refine xi_ald hx hb hK hP 2 1 rfl rfl (k := (2 * t) + 1) (by omega) (by first | decide | omega) d_M_kindOf_186 ?_
                refine lv_istore (lv' := [(4, .int (iI (spF ((2 * t) + 1)))), (6, .int (iI (spF (2 * t)))), (0, .ref g), (1, .int (nI 0)), (3, .int (nI key)), (5, .int (nI (2 * t)))]) hx hb d_M_kindOf_187 hl (by decide) rfl (fun ls hl => ?_)
                refine lv_iinc (v := nI ((2 * t) + 2)) (lv' := [(5, .int (nI ((2 * t) + 2))), (4, .int (iI (spF ((2 * t) + 1)))), (6, .int (iI (spF (2 * t)))), (0, .ref g), (1, .int (nI 0)), (3, .int (nI key))]) hx hb d_M_kindOf_189 hl (k := 5) rfl (nI_add _ _) (by decide) rfl (fun ls hl => ?_)
                refine lv_goto (tgt := 111) hx hb d_M_kindOf_192 (by decide) ?_
                exact ih_111 (t + 1) (spF (2 * t + 1)) key H locs ls (by omega) hkey (fnd_t hfv c159_12) (by omega) hP hD hS (lv_sub hl [3, 4, 5, 1, 0] rfl)
        exact lp_111 ((20 - 0) + 1) 0 (-1) ((((1000 * x0) + (100 * x1)) + (10 * y0)) + y1) H locs ls (Nat.zero_le _) ((keyN_f (a0 := x0) (a1 := x1) (b0 := y0) (b1 := y1) (by omega)).symm) rfl (by omega) hP hD hS (lv_sub hl [4, 5, 2, 1, 0] rfl)
      · skip
        refine lv_aload_n hx hb d_M_kindOf_22 rfl (lv_at hl 0 rfl) ?_
        refine va_get (D := D) (ci := 2) (v := .int (nI y1)) (C := R_M) (T := F_M) (N := 21) hx hb hts iw_M hown hK hP 0 rfl rfl 15 (by decide) (hts _ tw_402) (fun _ h9 => h9) rfl d_M_kindOf_23 ?_
        refine lv_aload_n hx hb d_M_kindOf_26 rfl (lv_at hl 0 rfl) ?_
        refine va_get (D := D) (ci := 2) (v := .int (nI y0)) (C := R_M) (T := F_M) (N := 21) hx hb hts iw_M hown hK hP 0 rfl rfl 14 (by decide) (hts _ tw_401) (fun _ h9 => h9) rfl d_M_kindOf_27 ?_
        refine xn_le (tgt := 37) hx hb (by omega) (by omega) d_M_kindOf_30 (by decide) (fun c30_14 => ?_) (fun c30_14 => ?_)
        · skip
          refine lv_iconst (v := nI 0) hx hb d_M_kindOf_37 (by decide) ?_
          refine lv_istore_n (lv' := [(2, .int (nI 0)), (0, .ref g), (1, .int (nI 0))]) hx hb d_M_kindOf_38 rfl hl (by decide) rfl (fun ls hl => ?_)
          refine lv_iload_n hx hb d_M_kindOf_39 rfl (lv_at hl 0 rfl) ?_
          refine xz_eq (tgt := 75) (X := (0 : Nat)) hx hb (nI_toInt (by omega)) d_M_kindOf_40 (by decide) (fun c40_15 => ?_) (fun c40_15 => absurd c40_15 (by omega))
          refine lv_sipush (v := nI 1000) hx hb d_M_kindOf_75 (by decide) ?_
          refine lv_aload_n hx hb d_M_kindOf_78 rfl (lv_at hl 1 rfl) ?_
          refine va_get (D := D) (ci := 2) (v := .int (nI x0)) (C := R_M) (T := F_M) (N := 21) hx hb hts iw_M hown hK hP 0 rfl rfl 12 (by decide) (hts _ tw_399) (fun _ h9 => h9) rfl d_M_kindOf_79 ?_
          refine xn_mul hx hb d_M_kindOf_82 ?_
          refine lv_bipush (v := nI 100) hx hb d_M_kindOf_83 (by decide) ?_
          refine lv_aload_n hx hb d_M_kindOf_85 rfl (lv_at hl 1 rfl) ?_
          refine va_get (D := D) (ci := 2) (v := .int (nI x1)) (C := R_M) (T := F_M) (N := 21) hx hb hts iw_M hown hK hP 0 rfl rfl 13 (by decide) (hts _ tw_400) (fun _ h9 => h9) rfl d_M_kindOf_86 ?_
          refine xn_mul hx hb d_M_kindOf_89 ?_
          refine xn_add hx hb d_M_kindOf_90 ?_
          refine lv_bipush (v := nI 10) hx hb d_M_kindOf_91 (by decide) ?_
          refine lv_aload_n hx hb d_M_kindOf_93 rfl (lv_at hl 1 rfl) ?_
          refine va_get (D := D) (ci := 2) (v := .int (nI y0)) (C := R_M) (T := F_M) (N := 21) hx hb hts iw_M hown hK hP 0 rfl rfl 14 (by decide) (hts _ tw_401) (fun _ h9 => h9) rfl d_M_kindOf_94 ?_
          refine xn_mul hx hb d_M_kindOf_97 ?_
          refine xn_add hx hb d_M_kindOf_98 ?_
          refine lv_aload_n hx hb d_M_kindOf_99 rfl (lv_at hl 1 rfl) ?_
          refine va_get (D := D) (ci := 2) (v := .int (nI y1)) (C := R_M) (T := F_M) (N := 21) hx hb hts iw_M hown hK hP 0 rfl rfl 15 (by decide) (hts _ tw_402) (fun _ h9 => h9) rfl d_M_kindOf_100 ?_
          refine xn_add hx hb d_M_kindOf_103 ?_
          refine lv_istore_n (lv' := [(3, .int (nI ((((1000 * x0) + (100 * x1)) + (10 * y0)) + y1))), (2, .int (nI 0)), (0, .ref g), (1, .int (nI 0))]) hx hb d_M_kindOf_104 rfl hl (by decide) rfl (fun ls hl => ?_)
          have hkb := keyN_B hx0 hx1 hy0 hy1
          refine lv_iconst (v := (-1)) hx hb d_M_kindOf_105 (by decide) ?_
          refine lv_istore (lv' := [(4, .int (-1)), (3, .int (nI ((((1000 * x0) + (100 * x1)) + (10 * y0)) + y1))), (2, .int (nI 0)), (0, .ref g), (1, .int (nI 0))]) hx hb d_M_kindOf_106 hl (by decide) rfl (fun ls hl => ?_)
          refine lv_iconst (v := nI 0) hx hb d_M_kindOf_108 (by decide) ?_
          refine lv_istore (lv' := [(5, .int (nI 0)), (4, .int (-1)), (3, .int (nI ((((1000 * x0) + (100 * x1)) + (10 * y0)) + y1))), (2, .int (nI 0)), (0, .ref g), (1, .int (nI 0))]) hx hb d_M_kindOf_109 hl (by decide) rfl (fun ls hl => ?_)
          have lp_111 : ∀ (n_111 : Nat) (t : Nat) (fv : Int) (key : Nat) (H : Heap) (locs : List Loc) (ls : Array Slot), (t ≤ 20) → (key = keyN x0 x1 y0 y1) → (fv = fndN spF (key : Nat) t) → (20 - t) < n_111 → va_P D vwC [(g, .inr (2, [.int cd, .int (nI d), .ref mm, .int ik, .ref kf, .ref tb, .int rw, .ref wk, .int ab, .int be, .ref pl, .ref sp, .int (nI x0), .int (nI x1), .int (nI y0), .int (nI y1), .ref po, .ref to, .ref ba, .ref li, .int lm])), (pl, IA cI 24 plF), (sp, IA cI 40 spF)] H → va_D A [(g, .inr (2, [.int cd, .int (nI d), .ref mm, .int ik, .ref kf, .ref tb, .int rw, .ref wk, .int ab, .int be, .ref pl, .ref sp, .int (nI x0), .int (nI x1), .int (nI y0), .int (nI y1), .ref po, .ref to, .ref ba, .ref li, .int lm])), (pl, IA cI 24 plF), (sp, IA cI 40 spF)] → va_S A s.heap H locs → lv_has ls 7 [(0, .ref g), (1, .int (nI 0)), (3, .int (nI key)), (4, .int (iI fv)), (5, .int (nI (2 * t)))] → W p l e rm_r_kindS s m args below meth c H locs 0 0 Q (F0 m 111 ls []) := by
            intro n_111
            induction n_111 with
            | zero => intro t fv key H locs ls ht hkey hfv hn_111; exact absurd hn_111 (Nat.not_lt_zero _)
            | succ n_111 ih_111 =>
              intro t fv key H locs ls ht hkey hfv hn_111 hP hD hS hl
              refine lv_iload hx hb d_M_kindOf_111 (lv_at hl 4 rfl) ?_
              refine lv_iload_n hx hb d_M_kindOf_113 rfl (lv_at hl 1 rfl) ?_
              refine xz_eq (tgt := 125) (X := (0 : Nat)) hx hb (nI_toInt (by omega)) d_M_kindOf_114 (by decide) (fun c114_16 => ?_) (fun c114_16 => absurd c114_16 (by omega))
              refine lv_aload_n hx hb d_M_kindOf_125 rfl (lv_at hl 0 rfl) ?_
              refine va_get (D := D) (ci := 2) (v := .ref sp) (C := R_M) (T := F_M) (N := 21) hx hb hts iw_M hown hK hP 0 rfl rfl 11 (by decide) (hts _ tw_398) (fun _ h9 => h9) rfl d_M_kindOf_126 ?_
              refine va_alen (v := nI 40) hx hb hK hP 2 1 rfl rfl rfl d_M_kindOf_129 ?_
              refine xn_ge (tgt := 195) hx hb (by omega) (by omega) d_M_kindOf_130 (by decide) (fun c130_17 => ?_) (fun c130_17 => ?_)
              · skip
                refine lv_iload hx hb d_M_kindOf_195 (lv_at hl 3 rfl) ?_
                exact hret H locs _ ls (iI fv) () d_M_kindOf_197 (by rw [hfv, hkey, show t = 20 from by omega]) hP hD hS
              · skip
                refine lv_iload_n hx hb d_M_kindOf_133 rfl (lv_at hl 1 rfl) ?_
                refine xz_eq (tgt := 147) (X := (0 : Nat)) hx hb (nI_toInt (by omega)) d_M_kindOf_134 (by decide) (fun c134_18 => ?_) (fun c134_18 => absurd c134_18 (by omega))
                refine lv_aload_n hx hb d_M_kindOf_147 rfl (lv_at hl 0 rfl) ?_
                refine va_get (D := D) (ci := 2) (v := .ref sp) (C := R_M) (T := F_M) (N := 21) hx hb hts iw_M hown hK hP 0 rfl rfl 11 (by decide) (hts _ tw_398) (fun _ h9 => h9) rfl d_M_kindOf_148 ?_
                refine lv_iload hx hb d_M_kindOf_151 (lv_at hl 4 rfl) ?_
                refine xi_ald hx hb hK hP 2 1 rfl rfl (k := 2 * t) (by omega) (by first | decide | omega) d_M_kindOf_153 ?_
                refine lv_istore (lv' := [(6, .int (iI (spF (2 * t)))), (0, .ref g), (1, .int (nI 0)), (3, .int (nI key)), (4, .int (iI fv)), (5, .int (nI (2 * t)))]) hx hb d_M_kindOf_154 hl (by decide) rfl (fun ls hl => ?_)
                refine lv_iload hx hb d_M_kindOf_156 (lv_at hl 0 rfl) ?_
                refine lv_iload_n hx hb d_M_kindOf_158 rfl (lv_at hl 3 rfl) ?_
                refine xi_ne (tgt := 189) (X := (spF (2 * t))) (Y := ((key : Nat) : Int)) hx hb (iI_toInt (by have z := spF_B (2 * t) (by omega); unfold iB; omega)) (nI_toInt (by omega)) d_M_kindOf_159 (by decide) (fun c159_19 => ?_) (fun c159_19 => ?_)
                · skip
                  refine lv_iinc (v := nI ((2 * t) + 2)) (lv' := [(5, .int (nI ((2 * t) + 2))), (6, .int (iI (spF (2 * t)))), (0, .ref g), (1, .int (nI 0)), (3, .int (nI key)), (4, .int (iI fv))]) hx hb d_M_kindOf_189 hl (k := 5) rfl (nI_add _ _) (by decide) rfl (fun ls hl => ?_)
                  refine lv_goto (tgt := 111) hx hb d_M_kindOf_192 (by decide) ?_
                  exact ih_111 (t + 1) fv key H locs ls (by omega) hkey (fnd_f hfv c159_19) (by omega) hP hD hS (lv_sub hl [2, 3, 4, 5, 0] rfl)
                · skip
                  refine lv_iload_n hx hb d_M_kindOf_162 rfl (lv_at hl 2 rfl) ?_
                  refine xz_eq (tgt := 178) (X := (0 : Nat)) hx hb (nI_toInt (by omega)) d_M_kindOf_163 (by decide) (fun c163_20 => ?_) (fun c163_20 => absurd c163_20 (by omega))
                  refine lv_aload_n hx hb d_M_kindOf_178 rfl (lv_at hl 1 rfl) ?_
                  refine va_get (D := D) (ci := 2) (v := .ref sp) (C := R_M) (T := F_M) (N := 21) hx hb hts iw_M hown hK hP 0 rfl rfl 11 (by decide) (hts _ tw_398) (fun _ h9 => h9) rfl d_M_kindOf_179 ?_
                  refine lv_iload hx hb d_M_kindOf_182 (lv_at hl 5 rfl) ?_
                  refine lv_iconst (v := nI 1) hx hb d_M_kindOf_184 (by decide) ?_
                  refine xn_add hx hb d_M_kindOf_185 ?_
                  refine xi_ald hx hb hK hP 2 1 rfl rfl (k := (2 * t) + 1) (by omega) (by first | decide | omega) d_M_kindOf_186 ?_
                  refine lv_istore (lv' := [(4, .int (iI (spF ((2 * t) + 1)))), (6, .int (iI (spF (2 * t)))), (0, .ref g), (1, .int (nI 0)), (3, .int (nI key)), (5, .int (nI (2 * t)))]) hx hb d_M_kindOf_187 hl (by decide) rfl (fun ls hl => ?_)
                  refine lv_iinc (v := nI ((2 * t) + 2)) (lv' := [(5, .int (nI ((2 * t) + 2))), (4, .int (iI (spF ((2 * t) + 1)))), (6, .int (iI (spF (2 * t)))), (0, .ref g), (1, .int (nI 0)), (3, .int (nI key))]) hx hb d_M_kindOf_189 hl (k := 5) rfl (nI_add _ _) (by decide) rfl (fun ls hl => ?_)
                  refine lv_goto (tgt := 111) hx hb d_M_kindOf_192 (by decide) ?_
                  exact ih_111 (t + 1) (spF (2 * t + 1)) key H locs ls (by omega) hkey (fnd_t hfv c159_19) (by omega) hP hD hS (lv_sub hl [3, 4, 5, 1, 0] rfl)
          exact lp_111 ((20 - 0) + 1) 0 (-1) ((((1000 * x0) + (100 * x1)) + (10 * y0)) + y1) H locs ls (Nat.zero_le _) ((keyN_f (a0 := x0) (a1 := x1) (b0 := y0) (b1 := y1) (by omega)).symm) rfl (by omega) hP hD hS (lv_sub hl [4, 5, 2, 1, 0] rfl)
        · skip
          refine lv_iconst (v := nI 1) hx hb d_M_kindOf_33 (by decide) ?_
          refine lv_goto (tgt := 38) hx hb d_M_kindOf_34 (by decide) ?_
          refine lv_istore_n (lv' := [(2, .int (nI 1)), (0, .ref g), (1, .int (nI 0))]) hx hb d_M_kindOf_38 rfl hl (by decide) rfl (fun ls hl => ?_)
          refine lv_iload_n hx hb d_M_kindOf_39 rfl (lv_at hl 0 rfl) ?_
          refine xz_eq (tgt := 75) (X := (1 : Nat)) hx hb (nI_toInt (by omega)) d_M_kindOf_40 (by decide) (fun c40_21 => absurd c40_21 (by omega)) (fun c40_21 => ?_)
          refine lv_sipush (v := nI 1000) hx hb d_M_kindOf_43 (by decide) ?_
          refine lv_aload_n hx hb d_M_kindOf_46 rfl (lv_at hl 1 rfl) ?_
          refine va_get (D := D) (ci := 2) (v := .int (nI x1)) (C := R_M) (T := F_M) (N := 21) hx hb hts iw_M hown hK hP 0 rfl rfl 13 (by decide) (hts _ tw_400) (fun _ h9 => h9) rfl d_M_kindOf_47 ?_
          refine xn_mul hx hb d_M_kindOf_50 ?_
          refine lv_bipush (v := nI 100) hx hb d_M_kindOf_51 (by decide) ?_
          refine lv_aload_n hx hb d_M_kindOf_53 rfl (lv_at hl 1 rfl) ?_
          refine va_get (D := D) (ci := 2) (v := .int (nI x0)) (C := R_M) (T := F_M) (N := 21) hx hb hts iw_M hown hK hP 0 rfl rfl 12 (by decide) (hts _ tw_399) (fun _ h9 => h9) rfl d_M_kindOf_54 ?_
          refine xn_mul hx hb d_M_kindOf_57 ?_
          refine xn_add hx hb d_M_kindOf_58 ?_
          refine lv_bipush (v := nI 10) hx hb d_M_kindOf_59 (by decide) ?_
          refine lv_aload_n hx hb d_M_kindOf_61 rfl (lv_at hl 1 rfl) ?_
          refine va_get (D := D) (ci := 2) (v := .int (nI y1)) (C := R_M) (T := F_M) (N := 21) hx hb hts iw_M hown hK hP 0 rfl rfl 15 (by decide) (hts _ tw_402) (fun _ h9 => h9) rfl d_M_kindOf_62 ?_
          refine xn_mul hx hb d_M_kindOf_65 ?_
          refine xn_add hx hb d_M_kindOf_66 ?_
          refine lv_aload_n hx hb d_M_kindOf_67 rfl (lv_at hl 1 rfl) ?_
          refine va_get (D := D) (ci := 2) (v := .int (nI y0)) (C := R_M) (T := F_M) (N := 21) hx hb hts iw_M hown hK hP 0 rfl rfl 14 (by decide) (hts _ tw_401) (fun _ h9 => h9) rfl d_M_kindOf_68 ?_
          refine xn_add hx hb d_M_kindOf_71 ?_
          refine lv_goto (tgt := 104) hx hb d_M_kindOf_72 (by decide) ?_
          refine lv_istore_n (lv' := [(3, .int (nI ((((1000 * x1) + (100 * x0)) + (10 * y1)) + y0))), (2, .int (nI 1)), (0, .ref g), (1, .int (nI 0))]) hx hb d_M_kindOf_104 rfl hl (by decide) rfl (fun ls hl => ?_)
          have hkb := keyN_B hx0 hx1 hy0 hy1
          refine lv_iconst (v := (-1)) hx hb d_M_kindOf_105 (by decide) ?_
          refine lv_istore (lv' := [(4, .int (-1)), (3, .int (nI ((((1000 * x1) + (100 * x0)) + (10 * y1)) + y0))), (2, .int (nI 1)), (0, .ref g), (1, .int (nI 0))]) hx hb d_M_kindOf_106 hl (by decide) rfl (fun ls hl => ?_)
          refine lv_iconst (v := nI 0) hx hb d_M_kindOf_108 (by decide) ?_
          refine lv_istore (lv' := [(5, .int (nI 0)), (4, .int (-1)), (3, .int (nI ((((1000 * x1) + (100 * x0)) + (10 * y1)) + y0))), (2, .int (nI 1)), (0, .ref g), (1, .int (nI 0))]) hx hb d_M_kindOf_109 hl (by decide) rfl (fun ls hl => ?_)
          have lp_111 : ∀ (n_111 : Nat) (t : Nat) (fv : Int) (key : Nat) (H : Heap) (locs : List Loc) (ls : Array Slot), (t ≤ 20) → (key = keyN x0 x1 y0 y1) → (fv = fndN spF (key : Nat) t) → (20 - t) < n_111 → va_P D vwC [(g, .inr (2, [.int cd, .int (nI d), .ref mm, .int ik, .ref kf, .ref tb, .int rw, .ref wk, .int ab, .int be, .ref pl, .ref sp, .int (nI x0), .int (nI x1), .int (nI y0), .int (nI y1), .ref po, .ref to, .ref ba, .ref li, .int lm])), (pl, IA cI 24 plF), (sp, IA cI 40 spF)] H → va_D A [(g, .inr (2, [.int cd, .int (nI d), .ref mm, .int ik, .ref kf, .ref tb, .int rw, .ref wk, .int ab, .int be, .ref pl, .ref sp, .int (nI x0), .int (nI x1), .int (nI y0), .int (nI y1), .ref po, .ref to, .ref ba, .ref li, .int lm])), (pl, IA cI 24 plF), (sp, IA cI 40 spF)] → va_S A s.heap H locs → lv_has ls 7 [(0, .ref g), (1, .int (nI 0)), (3, .int (nI key)), (4, .int (iI fv)), (5, .int (nI (2 * t)))] → W p l e rm_r_kindS s m args below meth c H locs 0 0 Q (F0 m 111 ls []) := by
            intro n_111
            induction n_111 with
            | zero => intro t fv key H locs ls ht hkey hfv hn_111; exact absurd hn_111 (Nat.not_lt_zero _)
            | succ n_111 ih_111 =>
              intro t fv key H locs ls ht hkey hfv hn_111 hP hD hS hl
              refine lv_iload hx hb d_M_kindOf_111 (lv_at hl 4 rfl) ?_
              refine lv_iload_n hx hb d_M_kindOf_113 rfl (lv_at hl 1 rfl) ?_
              refine xz_eq (tgt := 125) (X := (0 : Nat)) hx hb (nI_toInt (by omega)) d_M_kindOf_114 (by decide) (fun c114_22 => ?_) (fun c114_22 => absurd c114_22 (by omega))
              refine lv_aload_n hx hb d_M_kindOf_125 rfl (lv_at hl 0 rfl) ?_
              refine va_get (D := D) (ci := 2) (v := .ref sp) (C := R_M) (T := F_M) (N := 21) hx hb hts iw_M hown hK hP 0 rfl rfl 11 (by decide) (hts _ tw_398) (fun _ h9 => h9) rfl d_M_kindOf_126 ?_
              refine va_alen (v := nI 40) hx hb hK hP 2 1 rfl rfl rfl d_M_kindOf_129 ?_
              refine xn_ge (tgt := 195) hx hb (by omega) (by omega) d_M_kindOf_130 (by decide) (fun c130_23 => ?_) (fun c130_23 => ?_)
              · skip
                refine lv_iload hx hb d_M_kindOf_195 (lv_at hl 3 rfl) ?_
                exact hret H locs _ ls (iI fv) () d_M_kindOf_197 (by rw [hfv, hkey, show t = 20 from by omega]) hP hD hS
              · skip
                refine lv_iload_n hx hb d_M_kindOf_133 rfl (lv_at hl 1 rfl) ?_
                refine xz_eq (tgt := 147) (X := (0 : Nat)) hx hb (nI_toInt (by omega)) d_M_kindOf_134 (by decide) (fun c134_24 => ?_) (fun c134_24 => absurd c134_24 (by omega))
                refine lv_aload_n hx hb d_M_kindOf_147 rfl (lv_at hl 0 rfl) ?_
                refine va_get (D := D) (ci := 2) (v := .ref sp) (C := R_M) (T := F_M) (N := 21) hx hb hts iw_M hown hK hP 0 rfl rfl 11 (by decide) (hts _ tw_398) (fun _ h9 => h9) rfl d_M_kindOf_148 ?_
                refine lv_iload hx hb d_M_kindOf_151 (lv_at hl 4 rfl) ?_
                refine xi_ald hx hb hK hP 2 1 rfl rfl (k := 2 * t) (by omega) (by first | decide | omega) d_M_kindOf_153 ?_
                refine lv_istore (lv' := [(6, .int (iI (spF (2 * t)))), (0, .ref g), (1, .int (nI 0)), (3, .int (nI key)), (4, .int (iI fv)), (5, .int (nI (2 * t)))]) hx hb d_M_kindOf_154 hl (by decide) rfl (fun ls hl => ?_)
                refine lv_iload hx hb d_M_kindOf_156 (lv_at hl 0 rfl) ?_
                refine lv_iload_n hx hb d_M_kindOf_158 rfl (lv_at hl 3 rfl) ?_
                refine xi_ne (tgt := 189) (X := (spF (2 * t))) (Y := ((key : Nat) : Int)) hx hb (iI_toInt (by have z := spF_B (2 * t) (by omega); unfold iB; omega)) (nI_toInt (by omega)) d_M_kindOf_159 (by decide) (fun c159_25 => ?_) (fun c159_25 => ?_)
                · skip
                  refine lv_iinc (v := nI ((2 * t) + 2)) (lv' := [(5, .int (nI ((2 * t) + 2))), (6, .int (iI (spF (2 * t)))), (0, .ref g), (1, .int (nI 0)), (3, .int (nI key)), (4, .int (iI fv))]) hx hb d_M_kindOf_189 hl (k := 5) rfl (nI_add _ _) (by decide) rfl (fun ls hl => ?_)
                  refine lv_goto (tgt := 111) hx hb d_M_kindOf_192 (by decide) ?_
                  exact ih_111 (t + 1) fv key H locs ls (by omega) hkey (fnd_f hfv c159_25) (by omega) hP hD hS (lv_sub hl [2, 3, 4, 5, 0] rfl)
                · skip
                  refine lv_iload_n hx hb d_M_kindOf_162 rfl (lv_at hl 2 rfl) ?_
                  refine xz_eq (tgt := 178) (X := (0 : Nat)) hx hb (nI_toInt (by omega)) d_M_kindOf_163 (by decide) (fun c163_26 => ?_) (fun c163_26 => absurd c163_26 (by omega))
                  refine lv_aload_n hx hb d_M_kindOf_178 rfl (lv_at hl 1 rfl) ?_
                  refine va_get (D := D) (ci := 2) (v := .ref sp) (C := R_M) (T := F_M) (N := 21) hx hb hts iw_M hown hK hP 0 rfl rfl 11 (by decide) (hts _ tw_398) (fun _ h9 => h9) rfl d_M_kindOf_179 ?_
                  refine lv_iload hx hb d_M_kindOf_182 (lv_at hl 5 rfl) ?_
                  refine lv_iconst (v := nI 1) hx hb d_M_kindOf_184 (by decide) ?_
                  refine xn_add hx hb d_M_kindOf_185 ?_
                  refine xi_ald hx hb hK hP 2 1 rfl rfl (k := (2 * t) + 1) (by omega) (by first | decide | omega) d_M_kindOf_186 ?_
                  refine lv_istore (lv' := [(4, .int (iI (spF ((2 * t) + 1)))), (6, .int (iI (spF (2 * t)))), (0, .ref g), (1, .int (nI 0)), (3, .int (nI key)), (5, .int (nI (2 * t)))]) hx hb d_M_kindOf_187 hl (by decide) rfl (fun ls hl => ?_)
                  refine lv_iinc (v := nI ((2 * t) + 2)) (lv' := [(5, .int (nI ((2 * t) + 2))), (4, .int (iI (spF ((2 * t) + 1)))), (6, .int (iI (spF (2 * t)))), (0, .ref g), (1, .int (nI 0)), (3, .int (nI key))]) hx hb d_M_kindOf_189 hl (k := 5) rfl (nI_add _ _) (by decide) rfl (fun ls hl => ?_)
                  refine lv_goto (tgt := 111) hx hb d_M_kindOf_192 (by decide) ?_
                  exact ih_111 (t + 1) (spF (2 * t + 1)) key H locs ls (by omega) hkey (fnd_t hfv c159_25) (by omega) hP hD hS (lv_sub hl [3, 4, 5, 1, 0] rfl)
          exact lp_111 ((20 - 0) + 1) 0 (-1) ((((1000 * x1) + (100 * x0)) + (10 * y1)) + y0) H locs ls (Nat.zero_le _) ((keyN_t (a0 := x0) (a1 := x1) (b0 := y0) (b1 := y1) (by omega)).symm) rfl (by omega) hP hD hS (lv_sub hl [4, 5, 2, 1, 0] rfl)
  rw [hH, hlc] at key; exact key

def rm_r_findAll : Room := { frames := 5, cells := 0, slots := 0, locals := 132 }
set_option maxHeartbeats 4000000 in
set_option maxRecDepth 100000 in
/-- all signs -/
theorem r_findAll (l : Launch) (D : va_G) (cJ cI : ClassId) (g : Nat) (cd : Int32) (d : Nat) (ik : Int32) (rw : Int32) (ab : Int32) (be : Int32) (a0 : Int32) (a1 : Int32) (b0 : Int32) (b1 : Int32) (lm : Int32) (mm : Nat) (kf : Nat) (tb : Nat) (wk : Nat) (pl : Nat) (sp : Nat) (po : Nat) (to : Nat) (ba : Nat) (li : Nat) (Fm : Nat → Int) (T : Nat → Int) (W0 : Nat → Int) (hd2 : 2 ≤ d) (hd3 : d ≤ 3) (hF : ∀ k, k < 16 → inB (Fm k) 20) (sz : Nat) : xMv l y_M_findAll (Cond.code y_M_findAll b_M_findAll 1 none :: tW) rm_r_findAll [.ref g] D vwC [(cJ, .long), (cI, .int)] sz [(g, .inr (2, [.int cd, .int (nI d), .ref mm, .int ik, .ref kf, .ref tb, .int rw, .ref wk, .int ab, .int be, .ref pl, .ref sp, .int a0, .int a1, .int b0, .int b1, .ref po, .ref to, .ref ba, .ref li, .int lm])), (mm, IA cI 16 Fm), (tb, LA cJ 16 T), (wk, LA cJ 20 W0)] (fun (uo : (Nat → Int) × (Nat → Int)) => True) (fun (uo : (Nat → Int) × (Nat → Int)) => [(g, .inr (2, [.int cd, .int (nI d), .ref mm, .int ik, .ref kf, .ref tb, .int (nI (d + 1)), .ref wk, .int (nI (abN (prt Fm 0) (d + 1))), .int (nI (beN (prt Fm 0) (d + 1))), .ref pl, .ref sp, .int (nI (abN (prt Fm 1) d)), .int (nI (beN (prt Fm 1) d)), .int (nI (abN (prt Fm 0) (d + 1))), .int (nI (beN (prt Fm 0) (d + 1))), .ref po, .ref to, .ref ba, .ref li, .int lm])), (mm, IA cI 16 Fm), (tb, LA cJ 16 uo.1), (wk, LA cJ 20 uo.2)]) 0 0 := by
  refine xov (cc := b_M_findAll) (maxL := 1) (by decide) rfl (Nat.le_of_ble_eq_true rfl) ?_
  intro p e s m args below meth c Q A hx hb hml hts hown hN hA hS hP hK hD hret ls hl
  have hl : lv_has ls 1 [(0, .ref g)] := hl
  obtain ⟨H, hH⟩ : ∃ z, z = s.heap := ⟨_, rfl⟩
  obtain ⟨locs, hlc⟩ : ∃ z : List Loc, z = [] := ⟨_, rfl⟩
  rw [← hH] at hP
  have hS : va_S A s.heap H locs := by rw [hH, hlc]; exact hS
  have key : W p l e rm_r_findAll s m args below meth c H locs 0 0 Q (F0 m 0 ls []) := by
    refine lv_aload_n hx hb d_M_findAll_0 rfl (lv_at hl 0 rfl) ?_
    refine lv_iconst (v := nI 0) hx hb d_M_findAll_1 (by decide) ?_
    refine xcv (wc := [(g, .inr (2, [.int cd, .int (nI d), .ref mm, .int ik, .ref kf, .ref tb, .int rw, .ref wk, .int ab, .int be, .ref pl, .ref sp, .int a0, .int a1, .int b0, .int b1, .ref po, .ref to, .ref ba, .ref li, .int lm])), (mm, IA cI 16 Fm), (tb, LA cJ 16 T)]) (wr := [(wk, LA cJ 20 W0)]) hP hD hS hA [0, 1, 2] [3] rfl rfl (by decide) (by decide) (va_runV (As := [.int (nI 0)]) (rest := []) ⟨hx, hb, hml, hown, hts⟩ (r_take0 l D cJ cI g cd d ik rw ab be a0 a1 b0 b1 lm mm kf tb wk pl sp po to ba li Fm T (by first | assumption | omega) (by first | assumption | omega) H.size) (cwV 1 hts (gV tw_480 tw_482 tws_19 tw_3 tw_483) rfl rfl rfl ⟨rfl, hd_M_take⟩ ⟨Nat.le_of_ble_eq_true rfl, Nat.le_of_ble_eq_true rfl⟩) (xPreV (C := R_M) (T := F_M) (N := 21) (q0 := 0) hN hK (hP.sub (ws' := [(g, .inr (2, [.int cd, .int (nI d), .ref mm, .int ik, .ref kf, .ref tb, .int rw, .ref wk, .int ab, .int be, .ref pl, .ref sp, .int a0, .int a1, .int b0, .int b1, .ref po, .ref to, .ref ba, .ref li, .int lm])), (mm, IA cI 16 Fm), (tb, LA cJ 16 T)]) [0, 1, 2] rfl) (hD.sub (ws' := [(g, .inr (2, [.int cd, .int (nI d), .ref mm, .int ik, .ref kf, .ref tb, .int rw, .ref wk, .int ab, .int be, .ref pl, .ref sp, .int a0, .int a1, .int b0, .int b1, .ref po, .ref to, .ref ba, .ref li, .int lm])), (mm, IA cI 16 Fm), (tb, LA cJ 16 T)]) [0, 1, 2] (by decide) rfl) rfl rfl) rfl rfl hl.1 rfl (lv_room (Nat.le_of_ble_eq_true rfl)) d_M_findAll_2 ⟨Nat.le_of_ble_eq_true rfl, Nat.le_of_ble_eq_true rfl⟩) (fun u_2 H locs ht1 hP hD hS => ?_)
    obtain ⟨T5, rfl⟩ : ∃ z, z = u_2 := ⟨_, rfl⟩
    try dsimp only at ht1
    have hP : va_P D vwC [(g, .inr (2, [.int cd, .int (nI d), .ref mm, .int ik, .ref kf, .ref tb, .int (nI d), .ref wk, .int ab, .int be, .ref pl, .ref sp, .int a0, .int a1, .int b0, .int b1, .ref po, .ref to, .ref ba, .ref li, .int lm])), (mm, IA cI 16 Fm), (tb, LA cJ 16 T5), (wk, LA cJ 20 W0)] H := hP.sub [1, 2, 3, 0] rfl
    have hD : va_D A [(g, .inr (2, [.int cd, .int (nI d), .ref mm, .int ik, .ref kf, .ref tb, .int (nI d), .ref wk, .int ab, .int be, .ref pl, .ref sp, .int a0, .int a1, .int b0, .int b1, .ref po, .ref to, .ref ba, .ref li, .int lm])), (mm, IA cI 16 Fm), (tb, LA cJ 16 T5), (wk, LA cJ 20 W0)] := hD.sub [1, 2, 3, 0] (by decide) rfl
    refine lv_aload_n hx hb d_M_findAll_5 rfl (lv_at hl 0 rfl) ?_
    refine xcv (wc := [(g, .inr (2, [.int cd, .int (nI d), .ref mm, .int ik, .ref kf, .ref tb, .int (nI d), .ref wk, .int ab, .int be, .ref pl, .ref sp, .int a0, .int a1, .int b0, .int b1, .ref po, .ref to, .ref ba, .ref li, .int lm])), (tb, LA cJ 16 T5), (wk, LA cJ 20 W0)]) (wr := [(mm, IA cI 16 Fm)]) hP hD hS hA [0, 2, 3] [1] rfl rfl (by decide) (by decide) (va_runV (As := []) (rest := []) ⟨hx, hb, hml, hown, hts⟩ (r_findSigns l D cJ cI g cd d ik a0 a1 b0 b1 lm mm kf tb wk pl sp po to ba li d ab be T5 W0 (by first | assumption | omega) (by first | assumption | omega) (enB_congr (prt_eq (by omega) ht1) (enB_20 hF (f := 1) (r := d) (by omega))) H.size) (cwV 0 hts (gV tw_484 tw_486 tws_20 tw_3 tw_487) rfl rfl rfl ⟨rfl, hd_M_findSigns⟩ ⟨Nat.le_of_ble_eq_true rfl, Nat.le_of_ble_eq_true rfl⟩) (xPreV (C := R_M) (T := F_M) (N := 21) (q0 := 0) hN hK (hP.sub (ws' := [(g, .inr (2, [.int cd, .int (nI d), .ref mm, .int ik, .ref kf, .ref tb, .int (nI d), .ref wk, .int ab, .int be, .ref pl, .ref sp, .int a0, .int a1, .int b0, .int b1, .ref po, .ref to, .ref ba, .ref li, .int lm])), (tb, LA cJ 16 T5), (wk, LA cJ 20 W0)]) [0, 2, 3] rfl) (hD.sub (ws' := [(g, .inr (2, [.int cd, .int (nI d), .ref mm, .int ik, .ref kf, .ref tb, .int (nI d), .ref wk, .int ab, .int be, .ref pl, .ref sp, .int a0, .int a1, .int b0, .int b1, .ref po, .ref to, .ref ba, .ref li, .int lm])), (tb, LA cJ 16 T5), (wk, LA cJ 20 W0)]) [0, 2, 3] (by decide) rfl) rfl rfl) rfl rfl hl.1 rfl (lv_room (Nat.le_of_ble_eq_true rfl)) d_M_findAll_6 ⟨Nat.le_of_ble_eq_true rfl, Nat.le_of_ble_eq_true rfl⟩) (fun u_4 H locs hw_5 hP hD hS => ?_)
    obtain ⟨W2_6, rfl⟩ : ∃ z, z = u_4 := ⟨_, rfl⟩
    try dsimp only at hw_5
    have hP : va_P D vwC [(g, .inr (2, [.int cd, .int (nI d), .ref mm, .int ik, .ref kf, .ref tb, .int (nI d), .ref wk, .int (nI (abN T5 d)), .int (nI (beN T5 d)), .ref pl, .ref sp, .int a0, .int a1, .int b0, .int b1, .ref po, .ref to, .ref ba, .ref li, .int lm])), (mm, IA cI 16 Fm), (tb, LA cJ 16 T5), (wk, LA cJ 20 W2_6)] H := hP.sub [1, 0, 2, 3] rfl
    have hD : va_D A [(g, .inr (2, [.int cd, .int (nI d), .ref mm, .int ik, .ref kf, .ref tb, .int (nI d), .ref wk, .int (nI (abN T5 d)), .int (nI (beN T5 d)), .ref pl, .ref sp, .int a0, .int a1, .int b0, .int b1, .ref po, .ref to, .ref ba, .ref li, .int lm])), (mm, IA cI 16 Fm), (tb, LA cJ 16 T5), (wk, LA cJ 20 W2_6)] := hD.sub [1, 0, 2, 3] (by decide) rfl
    have exa : abN T5 (d) = abN (prt Fm 1) (d) := abN_congr (by omega) (by omega) (prt_eq (by omega) ht1)
    have exb : beN T5 (d) = beN (prt Fm 1) (d) := beN_congr (by omega) (by omega) (prt_eq (by omega) ht1)
    rw [exa, exb] at hP hD
    have hP : va_P D vwC [(g, .inr (2, [.int cd, .int (nI d), .ref mm, .int ik, .ref kf, .ref tb, .int (nI d), .ref wk, .int (nI (abN (prt Fm 1) (d))), .int (nI (beN (prt Fm 1) (d))), .ref pl, .ref sp, .int a0, .int a1, .int b0, .int b1, .ref po, .ref to, .ref ba, .ref li, .int lm])), (mm, IA cI 16 Fm), (tb, LA cJ 16 T5), (wk, LA cJ 20 W2_6)] H := hP
    have hD : va_D A [(g, .inr (2, [.int cd, .int (nI d), .ref mm, .int ik, .ref kf, .ref tb, .int (nI d), .ref wk, .int (nI (abN (prt Fm 1) (d))), .int (nI (beN (prt Fm 1) (d))), .ref pl, .ref sp, .int a0, .int a1, .int b0, .int b1, .ref po, .ref to, .ref ba, .ref li, .int lm])), (mm, IA cI 16 Fm), (tb, LA cJ 16 T5), (wk, LA cJ 20 W2_6)] := hD
    refine lv_aload_n hx hb d_M_findAll_9 rfl (lv_at hl 0 rfl) ?_
    refine lv_aload_n hx hb d_M_findAll_10 rfl (lv_at hl 0 rfl) ?_
    refine va_get (D := D) (ci := 2) (v := .int (nI (abN (prt Fm 1) (d)))) (C := R_M) (T := F_M) (N := 21) hx hb hts iw_M hown hK hP 0 rfl rfl 8 (by decide) (hts _ tw_395) (fun _ h9 => h9) rfl d_M_findAll_11 ?_
    refine va_put (D := D) (ci := 2) (v := .int (nI (abN (prt Fm 1) (d)))) (ty := .int) (C := R_M) (T := F_M) (N := 21) hx hb hts iw_M ft_M ft_M_ok n_M hown hK hP hD hS 0 rfl rfl 12 (by decide) (hts _ tw_399) (fun _ h9 => h9) rfl (by decide +kernel) rfl rfl (Nat.le_of_ble_eq_true rfl) d_M_findAll_14 (fun H locs hP hD hS => ?_)
    have hP : va_P D vwC [(g, .inr (2, [.int cd, .int (nI d), .ref mm, .int ik, .ref kf, .ref tb, .int (nI d), .ref wk, .int (nI (abN (prt Fm 1) (d))), .int (nI (beN (prt Fm 1) (d))), .ref pl, .ref sp, .int (nI (abN (prt Fm 1) (d))), .int a1, .int b0, .int b1, .ref po, .ref to, .ref ba, .ref li, .int lm])), (mm, IA cI 16 Fm), (tb, LA cJ 16 T5), (wk, LA cJ 20 W2_6)] H := hP
    have hD : va_D A [(g, .inr (2, [.int cd, .int (nI d), .ref mm, .int ik, .ref kf, .ref tb, .int (nI d), .ref wk, .int (nI (abN (prt Fm 1) (d))), .int (nI (beN (prt Fm 1) (d))), .ref pl, .ref sp, .int (nI (abN (prt Fm 1) (d))), .int a1, .int b0, .int b1, .ref po, .ref to, .ref ba, .ref li, .int lm])), (mm, IA cI 16 Fm), (tb, LA cJ 16 T5), (wk, LA cJ 20 W2_6)] := hD
    refine lv_aload_n hx hb d_M_findAll_17 rfl (lv_at hl 0 rfl) ?_
    refine lv_aload_n hx hb d_M_findAll_18 rfl (lv_at hl 0 rfl) ?_
    refine va_get (D := D) (ci := 2) (v := .int (nI (beN (prt Fm 1) (d)))) (C := R_M) (T := F_M) (N := 21) hx hb hts iw_M hown hK hP 0 rfl rfl 9 (by decide) (hts _ tw_396) (fun _ h9 => h9) rfl d_M_findAll_19 ?_
    refine va_put (D := D) (ci := 2) (v := .int (nI (beN (prt Fm 1) (d)))) (ty := .int) (C := R_M) (T := F_M) (N := 21) hx hb hts iw_M ft_M ft_M_ok n_M hown hK hP hD hS 0 rfl rfl 13 (by decide) (hts _ tw_400) (fun _ h9 => h9) rfl (by decide +kernel) rfl rfl (Nat.le_of_ble_eq_true rfl) d_M_findAll_22 (fun H locs hP hD hS => ?_)
    have hP : va_P D vwC [(g, .inr (2, [.int cd, .int (nI d), .ref mm, .int ik, .ref kf, .ref tb, .int (nI d), .ref wk, .int (nI (abN (prt Fm 1) (d))), .int (nI (beN (prt Fm 1) (d))), .ref pl, .ref sp, .int (nI (abN (prt Fm 1) (d))), .int (nI (beN (prt Fm 1) (d))), .int b0, .int b1, .ref po, .ref to, .ref ba, .ref li, .int lm])), (mm, IA cI 16 Fm), (tb, LA cJ 16 T5), (wk, LA cJ 20 W2_6)] H := hP
    have hD : va_D A [(g, .inr (2, [.int cd, .int (nI d), .ref mm, .int ik, .ref kf, .ref tb, .int (nI d), .ref wk, .int (nI (abN (prt Fm 1) (d))), .int (nI (beN (prt Fm 1) (d))), .ref pl, .ref sp, .int (nI (abN (prt Fm 1) (d))), .int (nI (beN (prt Fm 1) (d))), .int b0, .int b1, .ref po, .ref to, .ref ba, .ref li, .int lm])), (mm, IA cI 16 Fm), (tb, LA cJ 16 T5), (wk, LA cJ 20 W2_6)] := hD
    refine lv_aload_n hx hb d_M_findAll_25 rfl (lv_at hl 0 rfl) ?_
    refine lv_iconst (v := nI 1) hx hb d_M_findAll_26 (by decide) ?_
    refine xcv (wc := [(g, .inr (2, [.int cd, .int (nI d), .ref mm, .int ik, .ref kf, .ref tb, .int (nI d), .ref wk, .int (nI (abN (prt Fm 1) (d))), .int (nI (beN (prt Fm 1) (d))), .ref pl, .ref sp, .int (nI (abN (prt Fm 1) (d))), .int (nI (beN (prt Fm 1) (d))), .int b0, .int b1, .ref po, .ref to, .ref ba, .ref li, .int lm])), (mm, IA cI 16 Fm), (tb, LA cJ 16 T5)]) (wr := [(wk, LA cJ 20 W2_6)]) hP hD hS hA [0, 1, 2] [3] rfl rfl (by decide) (by decide) (va_runV (As := [.int (nI 1)]) (rest := []) ⟨hx, hb, hml, hown, hts⟩ (r_take1 l D cJ cI g cd d ik (nI d) (nI (abN (prt Fm 1) (d))) (nI (beN (prt Fm 1) (d))) (nI (abN (prt Fm 1) (d))) (nI (beN (prt Fm 1) (d))) b0 b1 lm mm kf tb wk pl sp po to ba li Fm T5 (by first | assumption | omega) (by first | assumption | omega) H.size) (cwV 1 hts (gV tw_480 tw_482 tws_19 tw_3 tw_483) rfl rfl rfl ⟨rfl, hd_M_take⟩ ⟨Nat.le_of_ble_eq_true rfl, Nat.le_of_ble_eq_true rfl⟩) (xPreV (C := R_M) (T := F_M) (N := 21) (q0 := 0) hN hK (hP.sub (ws' := [(g, .inr (2, [.int cd, .int (nI d), .ref mm, .int ik, .ref kf, .ref tb, .int (nI d), .ref wk, .int (nI (abN (prt Fm 1) (d))), .int (nI (beN (prt Fm 1) (d))), .ref pl, .ref sp, .int (nI (abN (prt Fm 1) (d))), .int (nI (beN (prt Fm 1) (d))), .int b0, .int b1, .ref po, .ref to, .ref ba, .ref li, .int lm])), (mm, IA cI 16 Fm), (tb, LA cJ 16 T5)]) [0, 1, 2] rfl) (hD.sub (ws' := [(g, .inr (2, [.int cd, .int (nI d), .ref mm, .int ik, .ref kf, .ref tb, .int (nI d), .ref wk, .int (nI (abN (prt Fm 1) (d))), .int (nI (beN (prt Fm 1) (d))), .ref pl, .ref sp, .int (nI (abN (prt Fm 1) (d))), .int (nI (beN (prt Fm 1) (d))), .int b0, .int b1, .ref po, .ref to, .ref ba, .ref li, .int lm])), (mm, IA cI 16 Fm), (tb, LA cJ 16 T5)]) [0, 1, 2] (by decide) rfl) rfl rfl) rfl rfl hl.1 rfl (lv_room (Nat.le_of_ble_eq_true rfl)) d_M_findAll_27 ⟨Nat.le_of_ble_eq_true rfl, Nat.le_of_ble_eq_true rfl⟩) (fun u_8 H locs ht2 hP hD hS => ?_)
    obtain ⟨T6, rfl⟩ : ∃ z, z = u_8 := ⟨_, rfl⟩
    try dsimp only at ht2
    have hP : va_P D vwC [(g, .inr (2, [.int cd, .int (nI d), .ref mm, .int ik, .ref kf, .ref tb, .int (nI (d + 1)), .ref wk, .int (nI (abN (prt Fm 1) (d))), .int (nI (beN (prt Fm 1) (d))), .ref pl, .ref sp, .int (nI (abN (prt Fm 1) (d))), .int (nI (beN (prt Fm 1) (d))), .int b0, .int b1, .ref po, .ref to, .ref ba, .ref li, .int lm])), (mm, IA cI 16 Fm), (tb, LA cJ 16 T6), (wk, LA cJ 20 W2_6)] H := hP.sub [1, 2, 3, 0] rfl
    have hD : va_D A [(g, .inr (2, [.int cd, .int (nI d), .ref mm, .int ik, .ref kf, .ref tb, .int (nI (d + 1)), .ref wk, .int (nI (abN (prt Fm 1) (d))), .int (nI (beN (prt Fm 1) (d))), .ref pl, .ref sp, .int (nI (abN (prt Fm 1) (d))), .int (nI (beN (prt Fm 1) (d))), .int b0, .int b1, .ref po, .ref to, .ref ba, .ref li, .int lm])), (mm, IA cI 16 Fm), (tb, LA cJ 16 T6), (wk, LA cJ 20 W2_6)] := hD.sub [1, 2, 3, 0] (by decide) rfl
    refine lv_aload_n hx hb d_M_findAll_30 rfl (lv_at hl 0 rfl) ?_
    refine xcv (wc := [(g, .inr (2, [.int cd, .int (nI d), .ref mm, .int ik, .ref kf, .ref tb, .int (nI (d + 1)), .ref wk, .int (nI (abN (prt Fm 1) (d))), .int (nI (beN (prt Fm 1) (d))), .ref pl, .ref sp, .int (nI (abN (prt Fm 1) (d))), .int (nI (beN (prt Fm 1) (d))), .int b0, .int b1, .ref po, .ref to, .ref ba, .ref li, .int lm])), (tb, LA cJ 16 T6), (wk, LA cJ 20 W2_6)]) (wr := [(mm, IA cI 16 Fm)]) hP hD hS hA [0, 2, 3] [1] rfl rfl (by decide) (by decide) (va_runV (As := []) (rest := []) ⟨hx, hb, hml, hown, hts⟩ (r_findSigns l D cJ cI g cd d ik (nI (abN (prt Fm 1) (d))) (nI (beN (prt Fm 1) (d))) b0 b1 lm mm kf tb wk pl sp po to ba li (d + 1) (nI (abN (prt Fm 1) (d))) (nI (beN (prt Fm 1) (d))) T6 W2_6 (by first | assumption | omega) (by first | assumption | omega) (enB_congr (prt_eq (by omega) ht2) (enB_20 hF (f := 0) (r := d + 1) (by omega))) H.size) (cwV 0 hts (gV tw_484 tw_486 tws_20 tw_3 tw_487) rfl rfl rfl ⟨rfl, hd_M_findSigns⟩ ⟨Nat.le_of_ble_eq_true rfl, Nat.le_of_ble_eq_true rfl⟩) (xPreV (C := R_M) (T := F_M) (N := 21) (q0 := 0) hN hK (hP.sub (ws' := [(g, .inr (2, [.int cd, .int (nI d), .ref mm, .int ik, .ref kf, .ref tb, .int (nI (d + 1)), .ref wk, .int (nI (abN (prt Fm 1) (d))), .int (nI (beN (prt Fm 1) (d))), .ref pl, .ref sp, .int (nI (abN (prt Fm 1) (d))), .int (nI (beN (prt Fm 1) (d))), .int b0, .int b1, .ref po, .ref to, .ref ba, .ref li, .int lm])), (tb, LA cJ 16 T6), (wk, LA cJ 20 W2_6)]) [0, 2, 3] rfl) (hD.sub (ws' := [(g, .inr (2, [.int cd, .int (nI d), .ref mm, .int ik, .ref kf, .ref tb, .int (nI (d + 1)), .ref wk, .int (nI (abN (prt Fm 1) (d))), .int (nI (beN (prt Fm 1) (d))), .ref pl, .ref sp, .int (nI (abN (prt Fm 1) (d))), .int (nI (beN (prt Fm 1) (d))), .int b0, .int b1, .ref po, .ref to, .ref ba, .ref li, .int lm])), (tb, LA cJ 16 T6), (wk, LA cJ 20 W2_6)]) [0, 2, 3] (by decide) rfl) rfl rfl) rfl rfl hl.1 rfl (lv_room (Nat.le_of_ble_eq_true rfl)) d_M_findAll_31 ⟨Nat.le_of_ble_eq_true rfl, Nat.le_of_ble_eq_true rfl⟩) (fun u_10 H locs hw_11 hP hD hS => ?_)
    obtain ⟨W2_12, rfl⟩ : ∃ z, z = u_10 := ⟨_, rfl⟩
    try dsimp only at hw_11
    have hP : va_P D vwC [(g, .inr (2, [.int cd, .int (nI d), .ref mm, .int ik, .ref kf, .ref tb, .int (nI (d + 1)), .ref wk, .int (nI (abN T6 (d + 1))), .int (nI (beN T6 (d + 1))), .ref pl, .ref sp, .int (nI (abN (prt Fm 1) (d))), .int (nI (beN (prt Fm 1) (d))), .int b0, .int b1, .ref po, .ref to, .ref ba, .ref li, .int lm])), (mm, IA cI 16 Fm), (tb, LA cJ 16 T6), (wk, LA cJ 20 W2_12)] H := hP.sub [1, 0, 2, 3] rfl
    have hD : va_D A [(g, .inr (2, [.int cd, .int (nI d), .ref mm, .int ik, .ref kf, .ref tb, .int (nI (d + 1)), .ref wk, .int (nI (abN T6 (d + 1))), .int (nI (beN T6 (d + 1))), .ref pl, .ref sp, .int (nI (abN (prt Fm 1) (d))), .int (nI (beN (prt Fm 1) (d))), .int b0, .int b1, .ref po, .ref to, .ref ba, .ref li, .int lm])), (mm, IA cI 16 Fm), (tb, LA cJ 16 T6), (wk, LA cJ 20 W2_12)] := hD.sub [1, 0, 2, 3] (by decide) rfl
    have eya : abN T6 (d + 1) = abN (prt Fm 0) (d + 1) := abN_congr (by omega) (by omega) (prt_eq (by omega) ht2)
    have eyb : beN T6 (d + 1) = beN (prt Fm 0) (d + 1) := beN_congr (by omega) (by omega) (prt_eq (by omega) ht2)
    rw [eya, eyb] at hP hD
    have hP : va_P D vwC [(g, .inr (2, [.int cd, .int (nI d), .ref mm, .int ik, .ref kf, .ref tb, .int (nI (d + 1)), .ref wk, .int (nI (abN (prt Fm 0) (d + 1))), .int (nI (beN (prt Fm 0) (d + 1))), .ref pl, .ref sp, .int (nI (abN (prt Fm 1) (d))), .int (nI (beN (prt Fm 1) (d))), .int b0, .int b1, .ref po, .ref to, .ref ba, .ref li, .int lm])), (mm, IA cI 16 Fm), (tb, LA cJ 16 T6), (wk, LA cJ 20 W2_12)] H := hP
    have hD : va_D A [(g, .inr (2, [.int cd, .int (nI d), .ref mm, .int ik, .ref kf, .ref tb, .int (nI (d + 1)), .ref wk, .int (nI (abN (prt Fm 0) (d + 1))), .int (nI (beN (prt Fm 0) (d + 1))), .ref pl, .ref sp, .int (nI (abN (prt Fm 1) (d))), .int (nI (beN (prt Fm 1) (d))), .int b0, .int b1, .ref po, .ref to, .ref ba, .ref li, .int lm])), (mm, IA cI 16 Fm), (tb, LA cJ 16 T6), (wk, LA cJ 20 W2_12)] := hD
    refine lv_aload_n hx hb d_M_findAll_34 rfl (lv_at hl 0 rfl) ?_
    refine lv_aload_n hx hb d_M_findAll_35 rfl (lv_at hl 0 rfl) ?_
    refine va_get (D := D) (ci := 2) (v := .int (nI (abN (prt Fm 0) (d + 1)))) (C := R_M) (T := F_M) (N := 21) hx hb hts iw_M hown hK hP 0 rfl rfl 8 (by decide) (hts _ tw_395) (fun _ h9 => h9) rfl d_M_findAll_36 ?_
    refine va_put (D := D) (ci := 2) (v := .int (nI (abN (prt Fm 0) (d + 1)))) (ty := .int) (C := R_M) (T := F_M) (N := 21) hx hb hts iw_M ft_M ft_M_ok n_M hown hK hP hD hS 0 rfl rfl 14 (by decide) (hts _ tw_401) (fun _ h9 => h9) rfl (by decide +kernel) rfl rfl (Nat.le_of_ble_eq_true rfl) d_M_findAll_39 (fun H locs hP hD hS => ?_)
    have hP : va_P D vwC [(g, .inr (2, [.int cd, .int (nI d), .ref mm, .int ik, .ref kf, .ref tb, .int (nI (d + 1)), .ref wk, .int (nI (abN (prt Fm 0) (d + 1))), .int (nI (beN (prt Fm 0) (d + 1))), .ref pl, .ref sp, .int (nI (abN (prt Fm 1) (d))), .int (nI (beN (prt Fm 1) (d))), .int (nI (abN (prt Fm 0) (d + 1))), .int b1, .ref po, .ref to, .ref ba, .ref li, .int lm])), (mm, IA cI 16 Fm), (tb, LA cJ 16 T6), (wk, LA cJ 20 W2_12)] H := hP
    have hD : va_D A [(g, .inr (2, [.int cd, .int (nI d), .ref mm, .int ik, .ref kf, .ref tb, .int (nI (d + 1)), .ref wk, .int (nI (abN (prt Fm 0) (d + 1))), .int (nI (beN (prt Fm 0) (d + 1))), .ref pl, .ref sp, .int (nI (abN (prt Fm 1) (d))), .int (nI (beN (prt Fm 1) (d))), .int (nI (abN (prt Fm 0) (d + 1))), .int b1, .ref po, .ref to, .ref ba, .ref li, .int lm])), (mm, IA cI 16 Fm), (tb, LA cJ 16 T6), (wk, LA cJ 20 W2_12)] := hD
    refine lv_aload_n hx hb d_M_findAll_42 rfl (lv_at hl 0 rfl) ?_
    refine lv_aload_n hx hb d_M_findAll_43 rfl (lv_at hl 0 rfl) ?_
    refine va_get (D := D) (ci := 2) (v := .int (nI (beN (prt Fm 0) (d + 1)))) (C := R_M) (T := F_M) (N := 21) hx hb hts iw_M hown hK hP 0 rfl rfl 9 (by decide) (hts _ tw_396) (fun _ h9 => h9) rfl d_M_findAll_44 ?_
    refine va_put (D := D) (ci := 2) (v := .int (nI (beN (prt Fm 0) (d + 1)))) (ty := .int) (C := R_M) (T := F_M) (N := 21) hx hb hts iw_M ft_M ft_M_ok n_M hown hK hP hD hS 0 rfl rfl 15 (by decide) (hts _ tw_402) (fun _ h9 => h9) rfl (by decide +kernel) rfl rfl (Nat.le_of_ble_eq_true rfl) d_M_findAll_47 (fun H locs hP hD hS => ?_)
    have hP : va_P D vwC [(g, .inr (2, [.int cd, .int (nI d), .ref mm, .int ik, .ref kf, .ref tb, .int (nI (d + 1)), .ref wk, .int (nI (abN (prt Fm 0) (d + 1))), .int (nI (beN (prt Fm 0) (d + 1))), .ref pl, .ref sp, .int (nI (abN (prt Fm 1) (d))), .int (nI (beN (prt Fm 1) (d))), .int (nI (abN (prt Fm 0) (d + 1))), .int (nI (beN (prt Fm 0) (d + 1))), .ref po, .ref to, .ref ba, .ref li, .int lm])), (mm, IA cI 16 Fm), (tb, LA cJ 16 T6), (wk, LA cJ 20 W2_12)] H := hP
    have hD : va_D A [(g, .inr (2, [.int cd, .int (nI d), .ref mm, .int ik, .ref kf, .ref tb, .int (nI (d + 1)), .ref wk, .int (nI (abN (prt Fm 0) (d + 1))), .int (nI (beN (prt Fm 0) (d + 1))), .ref pl, .ref sp, .int (nI (abN (prt Fm 1) (d))), .int (nI (beN (prt Fm 1) (d))), .int (nI (abN (prt Fm 0) (d + 1))), .int (nI (beN (prt Fm 0) (d + 1))), .ref po, .ref to, .ref ba, .ref li, .int lm])), (mm, IA cI 16 Fm), (tb, LA cJ 16 T6), (wk, LA cJ 20 W2_12)] := hD
    exact hret H locs _ ls (T6, W2_12) d_M_findAll_50 (by first | exact trivial | (dsimp only; exact trivial)) hP hD hS
  rw [hH, hlc] at key; exact key

def rm_r_ownKind : Room := { frames := 6, cells := 0, slots := 0, locals := 152 }
set_option maxHeartbeats 4000000 in
set_option maxRecDepth 100000 in
/-- its kind -/
theorem r_ownKind (l : Launch) (D : va_G) (cJ cI : ClassId) (g : Nat) (cd : Int32) (d : Nat) (ik : Int32) (rw : Int32) (ab : Int32) (be : Int32) (a0 : Int32) (a1 : Int32) (b0 : Int32) (b1 : Int32) (lm : Int32) (mm : Nat) (kf : Nat) (tb : Nat) (wk : Nat) (pl : Nat) (sp : Nat) (po : Nat) (to : Nat) (ba : Nat) (li : Nat) (Fm : Nat → Int) (T : Nat → Int) (W0 : Nat → Int) (hd2 : 2 ≤ d) (hd3 : d ≤ 3) (hF : ∀ k, k < 16 → inB (Fm k) 20) (sz : Nat) : xMi l y_M_ownKind (Cond.code y_M_ownKind b_M_ownKind 1 (some .int) :: tW) rm_r_ownKind [.ref g] D vwC [(cJ, .long), (cI, .int)] sz [(g, .inr (2, [.int cd, .int (nI d), .ref mm, .int ik, .ref kf, .ref tb, .int rw, .ref wk, .int ab, .int be, .ref pl, .ref sp, .int a0, .int a1, .int b0, .int b1, .ref po, .ref to, .ref ba, .ref li, .int lm])), (mm, IA cI 16 Fm), (tb, LA cJ 16 T), (wk, LA cJ 20 W0), (pl, IA cI 24 plF), (sp, IA cI 40 spF)] (fun (rv : Int32) (uo : (Nat → Int) × (Nat → Int)) => rv = kndM Fm d) (fun (uo : (Nat → Int) × (Nat → Int)) => [(g, .inr (2, [.int cd, .int (nI d), .ref mm, .int ik, .ref kf, .ref tb, .int (nI (d + 1)), .ref wk, .int (nI (abN (prt Fm 0) (d + 1))), .int (nI (beN (prt Fm 0) (d + 1))), .ref pl, .ref sp, .int (nI (abN (prt Fm 1) d)), .int (nI (beN (prt Fm 1) d)), .int (nI (abN (prt Fm 0) (d + 1))), .int (nI (beN (prt Fm 0) (d + 1))), .ref po, .ref to, .ref ba, .ref li, .int lm])), (mm, IA cI 16 Fm), (tb, LA cJ 16 uo.1), (wk, LA cJ 20 uo.2), (pl, IA cI 24 plF), (sp, IA cI 40 spF)]) 0 0 := by
  refine xoi (cc := b_M_ownKind) (maxL := 1) (by decide) rfl (Nat.le_of_ble_eq_true rfl) ?_
  intro p e s m args below meth c Q A hx hb hml hts hown hN hA hS hP hK hD hret ls hl
  have hl : lv_has ls 1 [(0, .ref g)] := hl
  obtain ⟨H, hH⟩ : ∃ z, z = s.heap := ⟨_, rfl⟩
  obtain ⟨locs, hlc⟩ : ∃ z : List Loc, z = [] := ⟨_, rfl⟩
  rw [← hH] at hP
  have hS : va_S A s.heap H locs := by rw [hH, hlc]; exact hS
  have key : W p l e rm_r_ownKind s m args below meth c H locs 0 0 Q (F0 m 0 ls []) := by
    refine lv_aload_n hx hb d_M_ownKind_0 rfl (lv_at hl 0 rfl) ?_
    refine xcv (wc := [(g, .inr (2, [.int cd, .int (nI d), .ref mm, .int ik, .ref kf, .ref tb, .int rw, .ref wk, .int ab, .int be, .ref pl, .ref sp, .int a0, .int a1, .int b0, .int b1, .ref po, .ref to, .ref ba, .ref li, .int lm])), (mm, IA cI 16 Fm), (tb, LA cJ 16 T), (wk, LA cJ 20 W0)]) (wr := [(pl, IA cI 24 plF), (sp, IA cI 40 spF)]) hP hD hS hA [0, 1, 2, 3] [4, 5] rfl rfl (by decide) (by decide) (va_runV (As := []) (rest := []) ⟨hx, hb, hml, hown, hts⟩ (r_findAll l D cJ cI g cd d ik rw ab be a0 a1 b0 b1 lm mm kf tb wk pl sp po to ba li Fm T W0 (by first | assumption | omega) (by first | assumption | omega) (by first | assumption | omega) H.size) (cwV 0 hts (gV tw_476 tw_478 tws_18 tw_3 tw_479) rfl rfl rfl ⟨rfl, hd_M_findAll⟩ ⟨Nat.le_of_ble_eq_true rfl, Nat.le_of_ble_eq_true rfl⟩) (xPreV (C := R_M) (T := F_M) (N := 21) (q0 := 0) hN hK (hP.sub (ws' := [(g, .inr (2, [.int cd, .int (nI d), .ref mm, .int ik, .ref kf, .ref tb, .int rw, .ref wk, .int ab, .int be, .ref pl, .ref sp, .int a0, .int a1, .int b0, .int b1, .ref po, .ref to, .ref ba, .ref li, .int lm])), (mm, IA cI 16 Fm), (tb, LA cJ 16 T), (wk, LA cJ 20 W0)]) [0, 1, 2, 3] rfl) (hD.sub (ws' := [(g, .inr (2, [.int cd, .int (nI d), .ref mm, .int ik, .ref kf, .ref tb, .int rw, .ref wk, .int ab, .int be, .ref pl, .ref sp, .int a0, .int a1, .int b0, .int b1, .ref po, .ref to, .ref ba, .ref li, .int lm])), (mm, IA cI 16 Fm), (tb, LA cJ 16 T), (wk, LA cJ 20 W0)]) [0, 1, 2, 3] (by decide) rfl) rfl rfl) rfl rfl hl.1 rfl (lv_room (Nat.le_of_ble_eq_true rfl)) d_M_ownKind_1 ⟨Nat.le_of_ble_eq_true rfl, Nat.le_of_ble_eq_true rfl⟩) (fun u_2 H locs hw_3 hP hD hS => ?_)
    obtain ⟨T2_4, W2_5⟩ := u_2
    try dsimp only at hw_3
    have hP : va_P D vwC [(g, .inr (2, [.int cd, .int (nI d), .ref mm, .int ik, .ref kf, .ref tb, .int (nI (d + 1)), .ref wk, .int (nI (abN (prt Fm 0) (d + 1))), .int (nI (beN (prt Fm 0) (d + 1))), .ref pl, .ref sp, .int (nI (abN (prt Fm 1) d)), .int (nI (beN (prt Fm 1) d)), .int (nI (abN (prt Fm 0) (d + 1))), .int (nI (beN (prt Fm 0) (d + 1))), .ref po, .ref to, .ref ba, .ref li, .int lm])), (mm, IA cI 16 Fm), (tb, LA cJ 16 T2_4), (wk, LA cJ 20 W2_5), (pl, IA cI 24 plF), (sp, IA cI 40 spF)] H := hP.sub [2, 3, 4, 5, 0, 1] rfl
    have hD : va_D A [(g, .inr (2, [.int cd, .int (nI d), .ref mm, .int ik, .ref kf, .ref tb, .int (nI (d + 1)), .ref wk, .int (nI (abN (prt Fm 0) (d + 1))), .int (nI (beN (prt Fm 0) (d + 1))), .ref pl, .ref sp, .int (nI (abN (prt Fm 1) d)), .int (nI (beN (prt Fm 1) d)), .int (nI (abN (prt Fm 0) (d + 1))), .int (nI (beN (prt Fm 0) (d + 1))), .ref po, .ref to, .ref ba, .ref li, .int lm])), (mm, IA cI 16 Fm), (tb, LA cJ 16 T2_4), (wk, LA cJ 20 W2_5), (pl, IA cI 24 plF), (sp, IA cI 40 spF)] := hD.sub [2, 3, 4, 5, 0, 1] (by decide) rfl
    refine lv_aload_n hx hb d_M_ownKind_4 rfl (lv_at hl 0 rfl) ?_
    refine lv_aload_n hx hb d_M_ownKind_5 rfl (lv_at hl 0 rfl) ?_
    refine va_get (D := D) (ci := 2) (v := .int (nI d)) (C := R_M) (T := F_M) (N := 21) hx hb hts iw_M hown hK hP 0 rfl rfl 1 (by decide) (hts _ tw_388) (fun _ h9 => h9) rfl d_M_ownKind_6 ?_
    refine lv_iconst (v := nI 2) hx hb d_M_ownKind_9 (by decide) ?_
    refine xn_ne (tgt := 17) hx hb (by omega) (by omega) d_M_ownKind_10 (by decide) (fun c10_5 => ?_) (fun c10_5 => ?_)
    · skip
      refine lv_iconst (v := nI 0) hx hb d_M_ownKind_17 (by decide) ?_
      refine xci (wc := [(g, .inr (2, [.int cd, .int (nI d), .ref mm, .int ik, .ref kf, .ref tb, .int (nI (d + 1)), .ref wk, .int (nI (abN (prt Fm 0) (d + 1))), .int (nI (beN (prt Fm 0) (d + 1))), .ref pl, .ref sp, .int (nI (abN (prt Fm 1) d)), .int (nI (beN (prt Fm 1) d)), .int (nI (abN (prt Fm 0) (d + 1))), .int (nI (beN (prt Fm 0) (d + 1))), .ref po, .ref to, .ref ba, .ref li, .int lm])), (pl, IA cI 24 plF), (sp, IA cI 40 spF)]) (wr := [(mm, IA cI 16 Fm), (tb, LA cJ 16 T2_4), (wk, LA cJ 20 W2_5)]) hP hD hS hA [0, 4, 5] [1, 2, 3] rfl rfl (by decide) (by decide) (va_runV (As := [.int (nI 0)]) (rest := []) ⟨hx, hb, hml, hown, hts⟩ (r_kindS l D cJ cI g cd d ik (nI (d + 1)) (nI (abN (prt Fm 0) (d + 1))) (nI (beN (prt Fm 0) (d + 1))) lm mm kf tb wk pl sp po to ba li (abN (prt Fm 1) d) (beN (prt Fm 1) d) (abN (prt Fm 0) (d + 1)) (beN (prt Fm 0) (d + 1)) (Nat.le_trans (abN_le _ _) (by omega)) (Nat.le_trans (beN_le _ _) (by omega)) (Nat.le_trans (abN_le _ _) (by omega)) (Nat.le_trans (beN_le _ _) (by omega)) H.size) (cwV 1 hts (gV tw_507 tw_509 tws_25 tw_3 tw_510) rfl rfl rfl ⟨rfl, hd_M_kindOf⟩ ⟨Nat.le_of_ble_eq_true rfl, Nat.le_of_ble_eq_true rfl⟩) (xPreV (C := R_M) (T := F_M) (N := 21) (q0 := 0) hN hK (hP.sub (ws' := [(g, .inr (2, [.int cd, .int (nI d), .ref mm, .int ik, .ref kf, .ref tb, .int (nI (d + 1)), .ref wk, .int (nI (abN (prt Fm 0) (d + 1))), .int (nI (beN (prt Fm 0) (d + 1))), .ref pl, .ref sp, .int (nI (abN (prt Fm 1) d)), .int (nI (beN (prt Fm 1) d)), .int (nI (abN (prt Fm 0) (d + 1))), .int (nI (beN (prt Fm 0) (d + 1))), .ref po, .ref to, .ref ba, .ref li, .int lm])), (pl, IA cI 24 plF), (sp, IA cI 40 spF)]) [0, 4, 5] rfl) (hD.sub (ws' := [(g, .inr (2, [.int cd, .int (nI d), .ref mm, .int ik, .ref kf, .ref tb, .int (nI (d + 1)), .ref wk, .int (nI (abN (prt Fm 0) (d + 1))), .int (nI (beN (prt Fm 0) (d + 1))), .ref pl, .ref sp, .int (nI (abN (prt Fm 1) d)), .int (nI (beN (prt Fm 1) d)), .int (nI (abN (prt Fm 0) (d + 1))), .int (nI (beN (prt Fm 0) (d + 1))), .ref po, .ref to, .ref ba, .ref li, .int lm])), (pl, IA cI 24 plF), (sp, IA cI 40 spF)]) [0, 4, 5] (by decide) rfl) rfl rfl) rfl rfl hl.1 rfl (lv_room (Nat.le_of_ble_eq_true rfl)) d_M_ownKind_18 ⟨Nat.le_of_ble_eq_true rfl, Nat.le_of_ble_eq_true rfl⟩) (fun r_7 u_8 H locs hw_9 hP hD hS => ?_)
      try dsimp only at hw_9
      have hP : va_P D vwC [(g, .inr (2, [.int cd, .int (nI d), .ref mm, .int ik, .ref kf, .ref tb, .int (nI (d + 1)), .ref wk, .int (nI (abN (prt Fm 0) (d + 1))), .int (nI (beN (prt Fm 0) (d + 1))), .ref pl, .ref sp, .int (nI (abN (prt Fm 1) d)), .int (nI (beN (prt Fm 1) d)), .int (nI (abN (prt Fm 0) (d + 1))), .int (nI (beN (prt Fm 0) (d + 1))), .ref po, .ref to, .ref ba, .ref li, .int lm])), (mm, IA cI 16 Fm), (tb, LA cJ 16 T2_4), (wk, LA cJ 20 W2_5), (pl, IA cI 24 plF), (sp, IA cI 40 spF)] H := hP.sub [3, 0, 1, 2, 4, 5] rfl
      have hD : va_D A [(g, .inr (2, [.int cd, .int (nI d), .ref mm, .int ik, .ref kf, .ref tb, .int (nI (d + 1)), .ref wk, .int (nI (abN (prt Fm 0) (d + 1))), .int (nI (beN (prt Fm 0) (d + 1))), .ref pl, .ref sp, .int (nI (abN (prt Fm 1) d)), .int (nI (beN (prt Fm 1) d)), .int (nI (abN (prt Fm 0) (d + 1))), .int (nI (beN (prt Fm 0) (d + 1))), .ref po, .ref to, .ref ba, .ref li, .int lm])), (mm, IA cI 16 Fm), (tb, LA cJ 16 T2_4), (wk, LA cJ 20 W2_5), (pl, IA cI 24 plF), (sp, IA cI 40 spF)] := hD.sub [3, 0, 1, 2, 4, 5] (by decide) rfl
      subst hw_9
      exact hret H locs _ ls (iI (fndN spF (keyN (abN (prt Fm 1) d) (beN (prt Fm 1) d) (abN (prt Fm 0) (d + 1)) (beN (prt Fm 0) (d + 1)) : Nat) 20)) (T2_4, W2_5) d_M_ownKind_21 (by first | exact (by unfold kndM; rw [if_neg c10_5]) | (dsimp only; exact (by unfold kndM; rw [if_neg c10_5]))) hP hD hS
    · skip
      refine lv_iconst (v := nI 1) hx hb d_M_ownKind_13 (by decide) ?_
      refine lv_goto (tgt := 18) hx hb d_M_ownKind_14 (by decide) ?_
      refine xci (wc := [(g, .inr (2, [.int cd, .int (nI d), .ref mm, .int ik, .ref kf, .ref tb, .int (nI (d + 1)), .ref wk, .int (nI (abN (prt Fm 0) (d + 1))), .int (nI (beN (prt Fm 0) (d + 1))), .ref pl, .ref sp, .int (nI (abN (prt Fm 1) d)), .int (nI (beN (prt Fm 1) d)), .int (nI (abN (prt Fm 0) (d + 1))), .int (nI (beN (prt Fm 0) (d + 1))), .ref po, .ref to, .ref ba, .ref li, .int lm])), (pl, IA cI 24 plF), (sp, IA cI 40 spF)]) (wr := [(mm, IA cI 16 Fm), (tb, LA cJ 16 T2_4), (wk, LA cJ 20 W2_5)]) hP hD hS hA [0, 4, 5] [1, 2, 3] rfl rfl (by decide) (by decide) (va_runV (As := [.int (nI 1)]) (rest := []) ⟨hx, hb, hml, hown, hts⟩ (r_kindP l D cJ cI g cd d ik (nI (d + 1)) (nI (abN (prt Fm 0) (d + 1))) (nI (beN (prt Fm 0) (d + 1))) lm mm kf tb wk pl sp po to ba li (abN (prt Fm 1) d) (beN (prt Fm 1) d) (abN (prt Fm 0) (d + 1)) (beN (prt Fm 0) (d + 1)) (Nat.le_trans (abN_le _ _) (by omega)) (Nat.le_trans (beN_le _ _) (by omega)) (Nat.le_trans (abN_le _ _) (by omega)) (Nat.le_trans (beN_le _ _) (by omega)) H.size) (cwV 1 hts (gV tw_507 tw_509 tws_25 tw_3 tw_510) rfl rfl rfl ⟨rfl, hd_M_kindOf⟩ ⟨Nat.le_of_ble_eq_true rfl, Nat.le_of_ble_eq_true rfl⟩) (xPreV (C := R_M) (T := F_M) (N := 21) (q0 := 0) hN hK (hP.sub (ws' := [(g, .inr (2, [.int cd, .int (nI d), .ref mm, .int ik, .ref kf, .ref tb, .int (nI (d + 1)), .ref wk, .int (nI (abN (prt Fm 0) (d + 1))), .int (nI (beN (prt Fm 0) (d + 1))), .ref pl, .ref sp, .int (nI (abN (prt Fm 1) d)), .int (nI (beN (prt Fm 1) d)), .int (nI (abN (prt Fm 0) (d + 1))), .int (nI (beN (prt Fm 0) (d + 1))), .ref po, .ref to, .ref ba, .ref li, .int lm])), (pl, IA cI 24 plF), (sp, IA cI 40 spF)]) [0, 4, 5] rfl) (hD.sub (ws' := [(g, .inr (2, [.int cd, .int (nI d), .ref mm, .int ik, .ref kf, .ref tb, .int (nI (d + 1)), .ref wk, .int (nI (abN (prt Fm 0) (d + 1))), .int (nI (beN (prt Fm 0) (d + 1))), .ref pl, .ref sp, .int (nI (abN (prt Fm 1) d)), .int (nI (beN (prt Fm 1) d)), .int (nI (abN (prt Fm 0) (d + 1))), .int (nI (beN (prt Fm 0) (d + 1))), .ref po, .ref to, .ref ba, .ref li, .int lm])), (pl, IA cI 24 plF), (sp, IA cI 40 spF)]) [0, 4, 5] (by decide) rfl) rfl rfl) rfl rfl hl.1 rfl (lv_room (Nat.le_of_ble_eq_true rfl)) d_M_ownKind_18 ⟨Nat.le_of_ble_eq_true rfl, Nat.le_of_ble_eq_true rfl⟩) (fun r_10 u_11 H locs hw_12 hP hD hS => ?_)
      try dsimp only at hw_12
      have hP : va_P D vwC [(g, .inr (2, [.int cd, .int (nI d), .ref mm, .int ik, .ref kf, .ref tb, .int (nI (d + 1)), .ref wk, .int (nI (abN (prt Fm 0) (d + 1))), .int (nI (beN (prt Fm 0) (d + 1))), .ref pl, .ref sp, .int (nI (abN (prt Fm 1) d)), .int (nI (beN (prt Fm 1) d)), .int (nI (abN (prt Fm 0) (d + 1))), .int (nI (beN (prt Fm 0) (d + 1))), .ref po, .ref to, .ref ba, .ref li, .int lm])), (mm, IA cI 16 Fm), (tb, LA cJ 16 T2_4), (wk, LA cJ 20 W2_5), (pl, IA cI 24 plF), (sp, IA cI 40 spF)] H := hP.sub [3, 0, 1, 2, 4, 5] rfl
      have hD : va_D A [(g, .inr (2, [.int cd, .int (nI d), .ref mm, .int ik, .ref kf, .ref tb, .int (nI (d + 1)), .ref wk, .int (nI (abN (prt Fm 0) (d + 1))), .int (nI (beN (prt Fm 0) (d + 1))), .ref pl, .ref sp, .int (nI (abN (prt Fm 1) d)), .int (nI (beN (prt Fm 1) d)), .int (nI (abN (prt Fm 0) (d + 1))), .int (nI (beN (prt Fm 0) (d + 1))), .ref po, .ref to, .ref ba, .ref li, .int lm])), (mm, IA cI 16 Fm), (tb, LA cJ 16 T2_4), (wk, LA cJ 20 W2_5), (pl, IA cI 24 plF), (sp, IA cI 40 spF)] := hD.sub [3, 0, 1, 2, 4, 5] (by decide) rfl
      subst hw_12
      exact hret H locs _ ls (iI (fndN plF (keyN (abN (prt Fm 1) d) (beN (prt Fm 1) d) (abN (prt Fm 0) (d + 1)) (beN (prt Fm 0) (d + 1)) : Nat) 12)) (T2_4, W2_5) d_M_ownKind_21 (by first | exact (by unfold kndM; rw [if_pos c10_5]) | (dsimp only; exact (by unfold kndM; rw [if_pos c10_5]))) hP hD hS
  rw [hH, hlc] at key; exact key

def rm_r_kind : Room := { frames := 7, cells := 0, slots := 0, locals := 172 }
set_option maxHeartbeats 4000000 in
set_option maxRecDepth 100000 in
/-- kind -/
theorem r_kind (l : Launch) (D : va_G) (cJ cI : ClassId) (g : Nat) (cd : Int32) (d : Nat) (ik : Int32) (rw : Int32) (ab : Int32) (be : Int32) (a0 : Int32) (a1 : Int32) (b0 : Int32) (b1 : Int32) (lm : Int32) (mm : Nat) (kf : Nat) (tb : Nat) (wk : Nat) (pl : Nat) (sp : Nat) (po : Nat) (to : Nat) (ba : Nat) (li : Nat) (Fm : Nat → Int) (T : Nat → Int) (W0 : Nat → Int) (hd2 : 2 ≤ d) (hd3 : d ≤ 3) (hF : ∀ k, k < 16 → inB (Fm k) 20) (sz : Nat) : xMi l y_M_kind (Cond.code y_M_kind b_M_kind 1 (some .int) :: tW) rm_r_kind [.ref g] D vwC [(cJ, .long), (cI, .int)] sz [(g, .inr (2, [.int cd, .int (nI d), .ref mm, .int ik, .ref kf, .ref tb, .int rw, .ref wk, .int ab, .int be, .ref pl, .ref sp, .int a0, .int a1, .int b0, .int b1, .ref po, .ref to, .ref ba, .ref li, .int lm])), (mm, IA cI 16 Fm), (tb, LA cJ 16 T), (wk, LA cJ 20 W0), (pl, IA cI 24 plF), (sp, IA cI 40 spF)] (fun (rv : Int32) (uo : (Nat → Int) × (Nat → Int)) => rv = kndM Fm d) (fun (uo : (Nat → Int) × (Nat → Int)) => [(g, .inr (2, [.int (nI 0), .int (nI d), .ref mm, .int ik, .ref kf, .ref tb, .int (nI (d + 1)), .ref wk, .int (nI (abN (prt Fm 0) (d + 1))), .int (nI (beN (prt Fm 0) (d + 1))), .ref pl, .ref sp, .int (nI (abN (prt Fm 1) d)), .int (nI (beN (prt Fm 1) d)), .int (nI (abN (prt Fm 0) (d + 1))), .int (nI (beN (prt Fm 0) (d + 1))), .ref po, .ref to, .ref ba, .ref li, .int lm])), (mm, IA cI 16 Fm), (tb, LA cJ 16 uo.1), (wk, LA cJ 20 uo.2), (pl, IA cI 24 plF), (sp, IA cI 40 spF)]) 0 0 := by
  refine xoi (cc := b_M_kind) (maxL := 1) (by decide) rfl (Nat.le_of_ble_eq_true rfl) ?_
  intro p e s m args below meth c Q A hx hb hml hts hown hN hA hS hP hK hD hret ls hl
  have hl : lv_has ls 1 [(0, .ref g)] := hl
  obtain ⟨H, hH⟩ : ∃ z, z = s.heap := ⟨_, rfl⟩
  obtain ⟨locs, hlc⟩ : ∃ z : List Loc, z = [] := ⟨_, rfl⟩
  rw [← hH] at hP
  have hS : va_S A s.heap H locs := by rw [hH, hlc]; exact hS
  have key : W p l e rm_r_kind s m args below meth c H locs 0 0 Q (F0 m 0 ls []) := by
    refine lv_aload_n hx hb d_M_kind_0 rfl (lv_at hl 0 rfl) ?_
    refine lv_iconst (v := nI 0) hx hb d_M_kind_1 (by decide) ?_
    refine va_put (D := D) (ci := 2) (v := .int (nI 0)) (ty := .int) (C := R_M) (T := F_M) (N := 21) hx hb hts iw_M ft_M ft_M_ok n_M hown hK hP hD hS 0 rfl rfl 0 (by decide) (hts _ tw_387) (fun _ h9 => h9) rfl (by decide +kernel) rfl rfl (Nat.le_of_ble_eq_true rfl) d_M_kind_2 (fun H locs hP hD hS => ?_)
    have hP : va_P D vwC [(g, .inr (2, [.int (nI 0), .int (nI d), .ref mm, .int ik, .ref kf, .ref tb, .int rw, .ref wk, .int ab, .int be, .ref pl, .ref sp, .int a0, .int a1, .int b0, .int b1, .ref po, .ref to, .ref ba, .ref li, .int lm])), (mm, IA cI 16 Fm), (tb, LA cJ 16 T), (wk, LA cJ 20 W0), (pl, IA cI 24 plF), (sp, IA cI 40 spF)] H := hP
    have hD : va_D A [(g, .inr (2, [.int (nI 0), .int (nI d), .ref mm, .int ik, .ref kf, .ref tb, .int rw, .ref wk, .int ab, .int be, .ref pl, .ref sp, .int a0, .int a1, .int b0, .int b1, .ref po, .ref to, .ref ba, .ref li, .int lm])), (mm, IA cI 16 Fm), (tb, LA cJ 16 T), (wk, LA cJ 20 W0), (pl, IA cI 24 plF), (sp, IA cI 40 spF)] := hD
    refine lv_aload_n hx hb d_M_kind_5 rfl (lv_at hl 0 rfl) ?_
    refine xci (wc := [(g, .inr (2, [.int (nI 0), .int (nI d), .ref mm, .int ik, .ref kf, .ref tb, .int rw, .ref wk, .int ab, .int be, .ref pl, .ref sp, .int a0, .int a1, .int b0, .int b1, .ref po, .ref to, .ref ba, .ref li, .int lm])), (mm, IA cI 16 Fm), (tb, LA cJ 16 T), (wk, LA cJ 20 W0), (pl, IA cI 24 plF), (sp, IA cI 40 spF)]) (wr := []) hP hD hS hA [0, 1, 2, 3, 4, 5] [] rfl rfl (by decide) (by decide) (va_runV (As := []) (rest := []) ⟨hx, hb, hml, hown, hts⟩ (r_ownKind l D cJ cI g (nI 0) d ik rw ab be a0 a1 b0 b1 lm mm kf tb wk pl sp po to ba li Fm T W0 (by first | assumption | omega) (by first | assumption | omega) (by first | assumption | omega) H.size) (cwV 0 hts (gV tw_472 tw_474 tws_17 tw_3 tw_475) rfl rfl rfl ⟨rfl, hd_M_ownKind⟩ ⟨Nat.le_of_ble_eq_true rfl, Nat.le_of_ble_eq_true rfl⟩) (xPreV (C := R_M) (T := F_M) (N := 21) (q0 := 0) hN hK (hP.sub (ws' := [(g, .inr (2, [.int (nI 0), .int (nI d), .ref mm, .int ik, .ref kf, .ref tb, .int rw, .ref wk, .int ab, .int be, .ref pl, .ref sp, .int a0, .int a1, .int b0, .int b1, .ref po, .ref to, .ref ba, .ref li, .int lm])), (mm, IA cI 16 Fm), (tb, LA cJ 16 T), (wk, LA cJ 20 W0), (pl, IA cI 24 plF), (sp, IA cI 40 spF)]) [0, 1, 2, 3, 4, 5] rfl) (hD.sub (ws' := [(g, .inr (2, [.int (nI 0), .int (nI d), .ref mm, .int ik, .ref kf, .ref tb, .int rw, .ref wk, .int ab, .int be, .ref pl, .ref sp, .int a0, .int a1, .int b0, .int b1, .ref po, .ref to, .ref ba, .ref li, .int lm])), (mm, IA cI 16 Fm), (tb, LA cJ 16 T), (wk, LA cJ 20 W0), (pl, IA cI 24 plF), (sp, IA cI 40 spF)]) [0, 1, 2, 3, 4, 5] (by decide) rfl) rfl rfl) rfl rfl hl.1 rfl (lv_room (Nat.le_of_ble_eq_true rfl)) d_M_kind_6 ⟨Nat.le_of_ble_eq_true rfl, Nat.le_of_ble_eq_true rfl⟩) (fun r_1 u_2 H locs hw_3 hP hD hS => ?_)
    obtain ⟨T2_4, W2_5⟩ := u_2
    try dsimp only at hw_3
    have hP : va_P D vwC [(g, .inr (2, [.int (nI 0), .int (nI d), .ref mm, .int ik, .ref kf, .ref tb, .int (nI (d + 1)), .ref wk, .int (nI (abN (prt Fm 0) (d + 1))), .int (nI (beN (prt Fm 0) (d + 1))), .ref pl, .ref sp, .int (nI (abN (prt Fm 1) d)), .int (nI (beN (prt Fm 1) d)), .int (nI (abN (prt Fm 0) (d + 1))), .int (nI (beN (prt Fm 0) (d + 1))), .ref po, .ref to, .ref ba, .ref li, .int lm])), (mm, IA cI 16 Fm), (tb, LA cJ 16 T2_4), (wk, LA cJ 20 W2_5), (pl, IA cI 24 plF), (sp, IA cI 40 spF)] H := hP
    have hD : va_D A [(g, .inr (2, [.int (nI 0), .int (nI d), .ref mm, .int ik, .ref kf, .ref tb, .int (nI (d + 1)), .ref wk, .int (nI (abN (prt Fm 0) (d + 1))), .int (nI (beN (prt Fm 0) (d + 1))), .ref pl, .ref sp, .int (nI (abN (prt Fm 1) d)), .int (nI (beN (prt Fm 1) d)), .int (nI (abN (prt Fm 0) (d + 1))), .int (nI (beN (prt Fm 0) (d + 1))), .ref po, .ref to, .ref ba, .ref li, .int lm])), (mm, IA cI 16 Fm), (tb, LA cJ 16 T2_4), (wk, LA cJ 20 W2_5), (pl, IA cI 24 plF), (sp, IA cI 40 spF)] := hD
    subst hw_3
    exact hret H locs _ ls (kndM Fm d) (T2_4, W2_5) d_M_kind_9 (by first | exact rfl | (dsimp only; exact rfl)) hP hD hS
  rw [hH, hlc] at key; exact key

def rm_r_signs : Room := { frames := 6, cells := 0, slots := 0, locals := 152 }
set_option maxHeartbeats 4000000 in
set_option maxRecDepth 100000 in
/-- signs -/
theorem r_signs (l : Launch) (D : va_G) (cJ cI : ClassId) (g : Nat) (cd : Int32) (d : Nat) (ik : Int32) (rw : Int32) (ab : Int32) (be : Int32) (a0 : Int32) (a1 : Int32) (b0 : Int32) (b1 : Int32) (lm : Int32) (mm : Nat) (kf : Nat) (tb : Nat) (wk : Nat) (pl : Nat) (sp : Nat) (po : Nat) (to : Nat) (ba : Nat) (li : Nat) (Fm : Nat → Int) (T : Nat → Int) (W0 : Nat → Int) (v : Int32) (hd2 : 2 ≤ d) (hd3 : d ≤ 3) (hF : ∀ k, k < 16 → inB (Fm k) 20) (sz : Nat) : xMi l y_M_signs (Cond.code y_M_signs b_M_signs 2 (some .int) :: tW) rm_r_signs [.ref g, .int v] D vwC [(cJ, .long), (cI, .int)] sz [(g, .inr (2, [.int cd, .int (nI d), .ref mm, .int ik, .ref kf, .ref tb, .int rw, .ref wk, .int ab, .int be, .ref pl, .ref sp, .int a0, .int a1, .int b0, .int b1, .ref po, .ref to, .ref ba, .ref li, .int lm])), (mm, IA cI 16 Fm), (tb, LA cJ 16 T), (wk, LA cJ 20 W0)] (fun (rv : Int32) (uo : (Nat → Int) × (Nat → Int)) => rv = sgM Fm d v.toInt) (fun (uo : (Nat → Int) × (Nat → Int)) => [(g, .inr (2, [.int (nI 0), .int (nI d), .ref mm, .int ik, .ref kf, .ref tb, .int (nI (d + 1)), .ref wk, .int (nI (abN (prt Fm 0) (d + 1))), .int (nI (beN (prt Fm 0) (d + 1))), .ref pl, .ref sp, .int (nI (abN (prt Fm 1) d)), .int (nI (beN (prt Fm 1) d)), .int (nI (abN (prt Fm 0) (d + 1))), .int (nI (beN (prt Fm 0) (d + 1))), .ref po, .ref to, .ref ba, .ref li, .int lm])), (mm, IA cI 16 Fm), (tb, LA cJ 16 uo.1), (wk, LA cJ 20 uo.2)]) 0 0 := by
  refine xoi (cc := b_M_signs) (maxL := 2) (by decide) rfl (Nat.le_of_ble_eq_true rfl) ?_
  intro p e s m args below meth c Q A hx hb hml hts hown hN hA hS hP hK hD hret ls hl
  have hl : lv_has ls 2 [(0, .ref g), (1, .int v)] := hl
  obtain ⟨H, hH⟩ : ∃ z, z = s.heap := ⟨_, rfl⟩
  obtain ⟨locs, hlc⟩ : ∃ z : List Loc, z = [] := ⟨_, rfl⟩
  rw [← hH] at hP
  have hS : va_S A s.heap H locs := by rw [hH, hlc]; exact hS
  have key : W p l e rm_r_signs s m args below meth c H locs 0 0 Q (F0 m 0 ls []) := by
    refine lv_aload_n hx hb d_M_signs_0 rfl (lv_at hl 0 rfl) ?_
    refine lv_iconst (v := nI 0) hx hb d_M_signs_1 (by decide) ?_
    refine va_put (D := D) (ci := 2) (v := .int (nI 0)) (ty := .int) (C := R_M) (T := F_M) (N := 21) hx hb hts iw_M ft_M ft_M_ok n_M hown hK hP hD hS 0 rfl rfl 0 (by decide) (hts _ tw_387) (fun _ h9 => h9) rfl (by decide +kernel) rfl rfl (Nat.le_of_ble_eq_true rfl) d_M_signs_2 (fun H locs hP hD hS => ?_)
    have hP : va_P D vwC [(g, .inr (2, [.int (nI 0), .int (nI d), .ref mm, .int ik, .ref kf, .ref tb, .int rw, .ref wk, .int ab, .int be, .ref pl, .ref sp, .int a0, .int a1, .int b0, .int b1, .ref po, .ref to, .ref ba, .ref li, .int lm])), (mm, IA cI 16 Fm), (tb, LA cJ 16 T), (wk, LA cJ 20 W0)] H := hP
    have hD : va_D A [(g, .inr (2, [.int (nI 0), .int (nI d), .ref mm, .int ik, .ref kf, .ref tb, .int rw, .ref wk, .int ab, .int be, .ref pl, .ref sp, .int a0, .int a1, .int b0, .int b1, .ref po, .ref to, .ref ba, .ref li, .int lm])), (mm, IA cI 16 Fm), (tb, LA cJ 16 T), (wk, LA cJ 20 W0)] := hD
    refine lv_aload_n hx hb d_M_signs_5 rfl (lv_at hl 0 rfl) ?_
    refine xcv (wc := [(g, .inr (2, [.int (nI 0), .int (nI d), .ref mm, .int ik, .ref kf, .ref tb, .int rw, .ref wk, .int ab, .int be, .ref pl, .ref sp, .int a0, .int a1, .int b0, .int b1, .ref po, .ref to, .ref ba, .ref li, .int lm])), (mm, IA cI 16 Fm), (tb, LA cJ 16 T), (wk, LA cJ 20 W0)]) (wr := []) hP hD hS hA [0, 1, 2, 3] [] rfl rfl (by decide) (by decide) (va_runV (As := []) (rest := []) ⟨hx, hb, hml, hown, hts⟩ (r_findAll l D cJ cI g (nI 0) d ik rw ab be a0 a1 b0 b1 lm mm kf tb wk pl sp po to ba li Fm T W0 (by first | assumption | omega) (by first | assumption | omega) (by first | assumption | omega) H.size) (cwV 0 hts (gV tw_476 tw_478 tws_18 tw_3 tw_479) rfl rfl rfl ⟨rfl, hd_M_findAll⟩ ⟨Nat.le_of_ble_eq_true rfl, Nat.le_of_ble_eq_true rfl⟩) (xPreV (C := R_M) (T := F_M) (N := 21) (q0 := 0) hN hK (hP.sub (ws' := [(g, .inr (2, [.int (nI 0), .int (nI d), .ref mm, .int ik, .ref kf, .ref tb, .int rw, .ref wk, .int ab, .int be, .ref pl, .ref sp, .int a0, .int a1, .int b0, .int b1, .ref po, .ref to, .ref ba, .ref li, .int lm])), (mm, IA cI 16 Fm), (tb, LA cJ 16 T), (wk, LA cJ 20 W0)]) [0, 1, 2, 3] rfl) (hD.sub (ws' := [(g, .inr (2, [.int (nI 0), .int (nI d), .ref mm, .int ik, .ref kf, .ref tb, .int rw, .ref wk, .int ab, .int be, .ref pl, .ref sp, .int a0, .int a1, .int b0, .int b1, .ref po, .ref to, .ref ba, .ref li, .int lm])), (mm, IA cI 16 Fm), (tb, LA cJ 16 T), (wk, LA cJ 20 W0)]) [0, 1, 2, 3] (by decide) rfl) rfl rfl) rfl rfl hl.1 rfl (lv_room (Nat.le_of_ble_eq_true rfl)) d_M_signs_6 ⟨Nat.le_of_ble_eq_true rfl, Nat.le_of_ble_eq_true rfl⟩) (fun u_2 H locs hw_3 hP hD hS => ?_)
    obtain ⟨T2_4, W2_5⟩ := u_2
    try dsimp only at hw_3
    have hP : va_P D vwC [(g, .inr (2, [.int (nI 0), .int (nI d), .ref mm, .int ik, .ref kf, .ref tb, .int (nI (d + 1)), .ref wk, .int (nI (abN (prt Fm 0) (d + 1))), .int (nI (beN (prt Fm 0) (d + 1))), .ref pl, .ref sp, .int (nI (abN (prt Fm 1) d)), .int (nI (beN (prt Fm 1) d)), .int (nI (abN (prt Fm 0) (d + 1))), .int (nI (beN (prt Fm 0) (d + 1))), .ref po, .ref to, .ref ba, .ref li, .int lm])), (mm, IA cI 16 Fm), (tb, LA cJ 16 T2_4), (wk, LA cJ 20 W2_5)] H := hP
    have hD : va_D A [(g, .inr (2, [.int (nI 0), .int (nI d), .ref mm, .int ik, .ref kf, .ref tb, .int (nI (d + 1)), .ref wk, .int (nI (abN (prt Fm 0) (d + 1))), .int (nI (beN (prt Fm 0) (d + 1))), .ref pl, .ref sp, .int (nI (abN (prt Fm 1) d)), .int (nI (beN (prt Fm 1) d)), .int (nI (abN (prt Fm 0) (d + 1))), .int (nI (beN (prt Fm 0) (d + 1))), .ref po, .ref to, .ref ba, .ref li, .int lm])), (mm, IA cI 16 Fm), (tb, LA cJ 16 T2_4), (wk, LA cJ 20 W2_5)] := hD
    refine lv_iload_n hx hb d_M_signs_9 rfl (lv_at hl 1 rfl) ?_
    refine xz_ne (tgt := 20) (X := v.toInt) hx hb rfl d_M_signs_10 (by decide) (fun c10_5 => ?_) (fun c10_5 => ?_)
    · skip
      refine lv_iload_n hx hb d_M_signs_20 rfl (lv_at hl 1 rfl) ?_
      refine lv_iconst (v := nI 1) hx hb d_M_signs_21 (by decide) ?_
      refine xi_ne (tgt := 32) (X := v.toInt) (Y := (1 : Nat)) hx hb rfl (nI_toInt (by omega)) d_M_signs_22 (by decide) (fun c22_6 => ?_) (fun c22_6 => ?_)
      · skip
        refine lv_iload_n hx hb d_M_signs_32 rfl (lv_at hl 1 rfl) ?_
        refine lv_iconst (v := nI 2) hx hb d_M_signs_33 (by decide) ?_
        refine xi_ne (tgt := 44) (X := v.toInt) (Y := (2 : Nat)) hx hb rfl (nI_toInt (by omega)) d_M_signs_34 (by decide) (fun c34_7 => ?_) (fun c34_7 => ?_)
        · skip
          refine lv_iload_n hx hb d_M_signs_44 rfl (lv_at hl 1 rfl) ?_
          refine lv_iconst (v := nI 3) hx hb d_M_signs_45 (by decide) ?_
          refine xi_ne (tgt := 56) (X := v.toInt) (Y := (3 : Nat)) hx hb rfl (nI_toInt (by omega)) d_M_signs_46 (by decide) (fun c46_8 => ?_) (fun c46_8 => ?_)
          · skip
            refine lv_bipush (v := (-2)) hx hb d_M_signs_56 (by decide) ?_
            exact hret H locs _ ls (-2) (T2_4, W2_5) d_M_signs_58 (by first | exact (by unfold sgM; rw [if_neg (show ¬ v.toInt = 0 from by omega), if_neg (show ¬ v.toInt = 1 from by omega), if_neg (show ¬ v.toInt = 2 from by omega), if_neg (show ¬ v.toInt = 3 from by omega)]) | (dsimp only; exact (by unfold sgM; rw [if_neg (show ¬ v.toInt = 0 from by omega), if_neg (show ¬ v.toInt = 1 from by omega), if_neg (show ¬ v.toInt = 2 from by omega), if_neg (show ¬ v.toInt = 3 from by omega)]))) hP hD hS
          · skip
            refine lv_aload_n hx hb d_M_signs_49 rfl (lv_at hl 0 rfl) ?_
            refine va_get (D := D) (ci := 2) (v := .int (nI (beN (prt Fm 0) (d + 1)))) (C := R_M) (T := F_M) (N := 21) hx hb hts iw_M hown hK hP 0 rfl rfl 15 (by decide) (hts _ tw_402) (fun _ h9 => h9) rfl d_M_signs_50 ?_
            refine lv_goto (tgt := 58) hx hb d_M_signs_53 (by decide) ?_
            exact hret H locs _ ls (nI (beN (prt Fm 0) (d + 1))) (T2_4, W2_5) d_M_signs_58 (by first | exact (by unfold sgM; rw [if_neg (show ¬ v.toInt = 0 from by omega), if_neg (show ¬ v.toInt = 1 from by omega), if_neg (show ¬ v.toInt = 2 from by omega), if_pos (show v.toInt = 3 from by omega)]) | (dsimp only; exact (by unfold sgM; rw [if_neg (show ¬ v.toInt = 0 from by omega), if_neg (show ¬ v.toInt = 1 from by omega), if_neg (show ¬ v.toInt = 2 from by omega), if_pos (show v.toInt = 3 from by omega)]))) hP hD hS
        · skip
          refine lv_aload_n hx hb d_M_signs_37 rfl (lv_at hl 0 rfl) ?_
          refine va_get (D := D) (ci := 2) (v := .int (nI (abN (prt Fm 0) (d + 1)))) (C := R_M) (T := F_M) (N := 21) hx hb hts iw_M hown hK hP 0 rfl rfl 14 (by decide) (hts _ tw_401) (fun _ h9 => h9) rfl d_M_signs_38 ?_
          refine lv_goto (tgt := 58) hx hb d_M_signs_41 (by decide) ?_
          exact hret H locs _ ls (nI (abN (prt Fm 0) (d + 1))) (T2_4, W2_5) d_M_signs_58 (by first | exact (by unfold sgM; rw [if_neg (show ¬ v.toInt = 0 from by omega), if_neg (show ¬ v.toInt = 1 from by omega), if_pos (show v.toInt = 2 from by omega)]) | (dsimp only; exact (by unfold sgM; rw [if_neg (show ¬ v.toInt = 0 from by omega), if_neg (show ¬ v.toInt = 1 from by omega), if_pos (show v.toInt = 2 from by omega)]))) hP hD hS
      · skip
        refine lv_aload_n hx hb d_M_signs_25 rfl (lv_at hl 0 rfl) ?_
        refine va_get (D := D) (ci := 2) (v := .int (nI (beN (prt Fm 1) d))) (C := R_M) (T := F_M) (N := 21) hx hb hts iw_M hown hK hP 0 rfl rfl 13 (by decide) (hts _ tw_400) (fun _ h9 => h9) rfl d_M_signs_26 ?_
        refine lv_goto (tgt := 58) hx hb d_M_signs_29 (by decide) ?_
        exact hret H locs _ ls (nI (beN (prt Fm 1) d)) (T2_4, W2_5) d_M_signs_58 (by first | exact (by unfold sgM; rw [if_neg (show ¬ v.toInt = 0 from by omega), if_pos (show v.toInt = 1 from by omega)]) | (dsimp only; exact (by unfold sgM; rw [if_neg (show ¬ v.toInt = 0 from by omega), if_pos (show v.toInt = 1 from by omega)]))) hP hD hS
    · skip
      refine lv_aload_n hx hb d_M_signs_13 rfl (lv_at hl 0 rfl) ?_
      refine va_get (D := D) (ci := 2) (v := .int (nI (abN (prt Fm 1) d))) (C := R_M) (T := F_M) (N := 21) hx hb hts iw_M hown hK hP 0 rfl rfl 12 (by decide) (hts _ tw_399) (fun _ h9 => h9) rfl d_M_signs_14 ?_
      refine lv_goto (tgt := 58) hx hb d_M_signs_17 (by decide) ?_
      exact hret H locs _ ls (nI (abN (prt Fm 1) d)) (T2_4, W2_5) d_M_signs_58 (by first | exact (by unfold sgM; rw [if_pos (show v.toInt = 0 from by omega)]) | (dsimp only; exact (by unfold sgM; rw [if_pos (show v.toInt = 0 from by omega)]))) hP hD hS
  rw [hH, hlc] at key; exact key

def rm_r_determinant : Room := { frames := 4, cells := 0, slots := 0, locals := 103 }
set_option maxHeartbeats 4000000 in
set_option maxRecDepth 100000 in
/-- determinant -/
theorem r_determinant (l : Launch) (D : va_G) (cJ cI : ClassId) (g : Nat) (cd : Int32) (d : Nat) (ik : Int32) (rw : Int32) (ab : Int32) (be : Int32) (a0 : Int32) (a1 : Int32) (b0 : Int32) (b1 : Int32) (lm : Int32) (mm : Nat) (kf : Nat) (tb : Nat) (wk : Nat) (pl : Nat) (sp : Nat) (po : Nat) (to : Nat) (ba : Nat) (li : Nat) (Fm : Nat → Int) (T : Nat → Int) (W0 : Nat → Int) (v : Int32) (hd2 : 2 ≤ d) (hd3 : d ≤ 3) (hF : ∀ k, k < 16 → inB (Fm k) 20) (sz : Nat) : xMl l y_M_determinant (Cond.code y_M_determinant b_M_determinant 2 (some .long) :: tW) rm_r_determinant [.ref g, .int v] D vwC [(cJ, .long), (cI, .int)] sz [(g, .inr (2, [.int cd, .int (nI d), .ref mm, .int ik, .ref kf, .ref tb, .int rw, .ref wk, .int ab, .int be, .ref pl, .ref sp, .int a0, .int a1, .int b0, .int b1, .ref po, .ref to, .ref ba, .ref li, .int lm])), (mm, IA cI 16 Fm), (tb, LA cJ 16 T), (wk, LA cJ 20 W0)] (fun (rv : Int64) (uo : Int32 × (Nat → Int) × (Nat → Int)) => rv = lI (s_det Fm d v.toInt)) (fun (uo : Int32 × (Nat → Int) × (Nat → Int)) => [(g, .inr (2, [.int (nI 0), .int (nI d), .ref mm, .int ik, .ref kf, .ref tb, .int uo.1, .ref wk, .int ab, .int be, .ref pl, .ref sp, .int a0, .int a1, .int b0, .int b1, .ref po, .ref to, .ref ba, .ref li, .int lm])), (mm, IA cI 16 Fm), (tb, LA cJ 16 uo.2.1), (wk, LA cJ 20 uo.2.2)]) 0 0 := by
  refine xol (cc := b_M_determinant) (maxL := 2) (by decide) rfl (Nat.le_of_ble_eq_true rfl) ?_
  intro p e s m args below meth c Q A hx hb hml hts hown hN hA hS hP hK hD hret ls hl
  have hl : lv_has ls 2 [(0, .ref g), (1, .int v)] := hl
  obtain ⟨H, hH⟩ : ∃ z, z = s.heap := ⟨_, rfl⟩
  obtain ⟨locs, hlc⟩ : ∃ z : List Loc, z = [] := ⟨_, rfl⟩
  rw [← hH] at hP
  have hS : va_S A s.heap H locs := by rw [hH, hlc]; exact hS
  have key : W p l e rm_r_determinant s m args below meth c H locs 0 0 Q (F0 m 0 ls []) := by
    refine lv_aload_n hx hb d_M_determinant_0 rfl (lv_at hl 0 rfl) ?_
    refine lv_iconst (v := nI 0) hx hb d_M_determinant_1 (by decide) ?_
    refine va_put (D := D) (ci := 2) (v := .int (nI 0)) (ty := .int) (C := R_M) (T := F_M) (N := 21) hx hb hts iw_M ft_M ft_M_ok n_M hown hK hP hD hS 0 rfl rfl 0 (by decide) (hts _ tw_387) (fun _ h9 => h9) rfl (by decide +kernel) rfl rfl (Nat.le_of_ble_eq_true rfl) d_M_determinant_2 (fun H locs hP hD hS => ?_)
    have hP : va_P D vwC [(g, .inr (2, [.int (nI 0), .int (nI d), .ref mm, .int ik, .ref kf, .ref tb, .int rw, .ref wk, .int ab, .int be, .ref pl, .ref sp, .int a0, .int a1, .int b0, .int b1, .ref po, .ref to, .ref ba, .ref li, .int lm])), (mm, IA cI 16 Fm), (tb, LA cJ 16 T), (wk, LA cJ 20 W0)] H := hP
    have hD : va_D A [(g, .inr (2, [.int (nI 0), .int (nI d), .ref mm, .int ik, .ref kf, .ref tb, .int rw, .ref wk, .int ab, .int be, .ref pl, .ref sp, .int a0, .int a1, .int b0, .int b1, .ref po, .ref to, .ref ba, .ref li, .int lm])), (mm, IA cI 16 Fm), (tb, LA cJ 16 T), (wk, LA cJ 20 W0)] := hD
    refine lv_iload_n hx hb d_M_determinant_5 rfl (lv_at hl 1 rfl) ?_
    refine lv_i2l (v := lI v.toInt) hx hb d_M_determinant_6 rfl ?_
    refine lv_iconst (v := nI 0) hx hb d_M_determinant_7 (by decide) ?_
    refine lv_iconst (v := nI 3) hx hb d_M_determinant_8 (by decide) ?_
    refine xci (wc := []) (wr := [(g, .inr (2, [.int (nI 0), .int (nI d), .ref mm, .int ik, .ref kf, .ref tb, .int rw, .ref wk, .int ab, .int be, .ref pl, .ref sp, .int a0, .int a1, .int b0, .int b1, .ref po, .ref to, .ref ba, .ref li, .int lm])), (mm, IA cI 16 Fm), (tb, LA cJ 16 T), (wk, LA cJ 20 W0)]) hP hD hS hA [] [0, 1, 2, 3] rfl rfl (by decide) (by decide) (va_runS (As := [.long (lI v.toInt), .int (nI 0), .int (nI 3)]) (rest := []) ⟨hx, hb, hml, hown, hts⟩ (r_in l D cJ cI v.toInt (nI 0) (nI 3) (lB_i _) H.size) (cwS 3 hts (gS tw_464 tw_465 tw_3 tw_466) rfl rfl rfl ⟨rfl, hd_M_in⟩ ⟨Nat.le_of_ble_eq_true rfl, Nat.le_of_ble_eq_true rfl⟩) (xPreS hN hK (hP.sub (ws' := []) [] rfl) (hD.sub (ws' := []) [] (by decide) rfl)) rfl rfl hl.1 rfl (lv_room (Nat.le_of_ble_eq_true rfl)) d_M_determinant_9 ⟨Nat.le_of_ble_eq_true rfl, Nat.le_of_ble_eq_true rfl⟩) (fun r_1 u_2 H locs hwi hP hD hS => ?_)
    try dsimp only at hwi
    have hP : va_P D vwC [(g, .inr (2, [.int (nI 0), .int (nI d), .ref mm, .int ik, .ref kf, .ref tb, .int rw, .ref wk, .int ab, .int be, .ref pl, .ref sp, .int a0, .int a1, .int b0, .int b1, .ref po, .ref to, .ref ba, .ref li, .int lm])), (mm, IA cI 16 Fm), (tb, LA cJ 16 T), (wk, LA cJ 20 W0)] H := hP
    have hD : va_D A [(g, .inr (2, [.int (nI 0), .int (nI d), .ref mm, .int ik, .ref kf, .ref tb, .int rw, .ref wk, .int ab, .int be, .ref pl, .ref sp, .int a0, .int a1, .int b0, .int b1, .ref po, .ref to, .ref ba, .ref li, .int lm])), (mm, IA cI 16 Fm), (tb, LA cJ 16 T), (wk, LA cJ 20 W0)] := hD
    rcases hwi with ⟨rfl, hwi⟩ | ⟨rfl, hwi⟩
    · skip
      refine xz_ne (tgt := 19) (X := (1 : Nat)) hx hb (nI_toInt (by omega)) d_M_determinant_12 (by decide) (fun c12_2 => ?_) (fun c12_2 => absurd c12_2 (by omega))
      refine lv_aload_n hx hb d_M_determinant_19 rfl (lv_at hl 0 rfl) ?_
      refine lv_iload_n hx hb d_M_determinant_20 rfl (lv_at hl 1 rfl) ?_
      refine lv_iconst (v := nI 1) hx hb d_M_determinant_21 (by decide) ?_
      refine xi_ne (tgt := 29) (X := v.toInt) (Y := (1 : Nat)) hx hb rfl (nI_toInt (by omega)) d_M_determinant_22 (by decide) (fun c22_3 => ?_) (fun c22_3 => ?_)
      · skip
        refine lv_iconst (v := nI 0) hx hb d_M_determinant_29 (by decide) ?_
        refine xcv (wc := [(g, .inr (2, [.int (nI 0), .int (nI d), .ref mm, .int ik, .ref kf, .ref tb, .int rw, .ref wk, .int ab, .int be, .ref pl, .ref sp, .int a0, .int a1, .int b0, .int b1, .ref po, .ref to, .ref ba, .ref li, .int lm])), (mm, IA cI 16 Fm), (tb, LA cJ 16 T)]) (wr := [(wk, LA cJ 20 W0)]) hP hD hS hA [0, 1, 2] [3] rfl rfl (by decide) (by decide) (va_runV (As := [.int (nI 0)]) (rest := []) ⟨hx, hb, hml, hown, hts⟩ (r_take0 l D cJ cI g (nI 0) d ik rw ab be a0 a1 b0 b1 lm mm kf tb wk pl sp po to ba li Fm T (by first | assumption | omega) (by first | assumption | omega) H.size) (cwV 1 hts (gV tw_480 tw_482 tws_19 tw_3 tw_483) rfl rfl rfl ⟨rfl, hd_M_take⟩ ⟨Nat.le_of_ble_eq_true rfl, Nat.le_of_ble_eq_true rfl⟩) (xPreV (C := R_M) (T := F_M) (N := 21) (q0 := 0) hN hK (hP.sub (ws' := [(g, .inr (2, [.int (nI 0), .int (nI d), .ref mm, .int ik, .ref kf, .ref tb, .int rw, .ref wk, .int ab, .int be, .ref pl, .ref sp, .int a0, .int a1, .int b0, .int b1, .ref po, .ref to, .ref ba, .ref li, .int lm])), (mm, IA cI 16 Fm), (tb, LA cJ 16 T)]) [0, 1, 2] rfl) (hD.sub (ws' := [(g, .inr (2, [.int (nI 0), .int (nI d), .ref mm, .int ik, .ref kf, .ref tb, .int rw, .ref wk, .int ab, .int be, .ref pl, .ref sp, .int a0, .int a1, .int b0, .int b1, .ref po, .ref to, .ref ba, .ref li, .int lm])), (mm, IA cI 16 Fm), (tb, LA cJ 16 T)]) [0, 1, 2] (by decide) rfl) rfl rfl) rfl rfl hl.1 rfl (lv_room (Nat.le_of_ble_eq_true rfl)) d_M_determinant_30 ⟨Nat.le_of_ble_eq_true rfl, Nat.le_of_ble_eq_true rfl⟩) (fun u_6 H locs ht5 hP hD hS => ?_)
        obtain ⟨T5, rfl⟩ : ∃ z, z = u_6 := ⟨_, rfl⟩
        try dsimp only at ht5
        have hP : va_P D vwC [(g, .inr (2, [.int (nI 0), .int (nI d), .ref mm, .int ik, .ref kf, .ref tb, .int (nI d), .ref wk, .int ab, .int be, .ref pl, .ref sp, .int a0, .int a1, .int b0, .int b1, .ref po, .ref to, .ref ba, .ref li, .int lm])), (mm, IA cI 16 Fm), (tb, LA cJ 16 T5), (wk, LA cJ 20 W0)] H := hP.sub [1, 2, 3, 0] rfl
        have hD : va_D A [(g, .inr (2, [.int (nI 0), .int (nI d), .ref mm, .int ik, .ref kf, .ref tb, .int (nI d), .ref wk, .int ab, .int be, .ref pl, .ref sp, .int a0, .int a1, .int b0, .int b1, .ref po, .ref to, .ref ba, .ref li, .int lm])), (mm, IA cI 16 Fm), (tb, LA cJ 16 T5), (wk, LA cJ 20 W0)] := hD.sub [1, 2, 3, 0] (by decide) rfl
        refine lv_iload_n hx hb d_M_determinant_33 rfl (lv_at hl 1 rfl) ?_
        refine lv_iconst (v := nI 2) hx hb d_M_determinant_34 (by decide) ?_
        refine xi_ge (tgt := 49) (X := v.toInt) (Y := (2 : Nat)) hx hb rfl (nI_toInt (by omega)) d_M_determinant_35 (by decide) (fun c35_6 => ?_) (fun c35_6 => ?_)
        · skip
          refine lv_iload_n hx hb d_M_determinant_49 rfl (lv_at hl 1 rfl) ?_
          refine lv_iconst (v := nI 2) hx hb d_M_determinant_50 (by decide) ?_
          refine xi_ne (tgt := 62) (X := v.toInt) (Y := (2 : Nat)) hx hb rfl (nI_toInt (by omega)) d_M_determinant_51 (by decide) (fun c51_7 => ?_) (fun c51_7 => ?_)
          · skip
            refine lv_aload_n hx hb d_M_determinant_62 rfl (lv_at hl 0 rfl) ?_
            refine lv_iconst (v := nI 2) hx hb d_M_determinant_63 (by decide) ?_
            refine xcl (wc := [(g, .inr (2, [.int (nI 0), .int (nI d), .ref mm, .int ik, .ref kf, .ref tb, .int (nI d), .ref wk, .int ab, .int be, .ref pl, .ref sp, .int a0, .int a1, .int b0, .int b1, .ref po, .ref to, .ref ba, .ref li, .int lm])), (tb, LA cJ 16 T5), (wk, LA cJ 20 W0)]) (wr := [(mm, IA cI 16 Fm)]) hP hD hS hA [0, 2, 3] [1] rfl rfl (by decide) (by decide) (va_runV (As := [.int (nI 2)]) (rest := []) ⟨hx, hb, hml, hown, hts⟩ (r_sums l D cJ cI g (nI 0) d ik ab be a0 a1 b0 b1 lm mm kf tb wk pl sp po to ba li d T5 W0 2 (by first | assumption | omega) (by first | assumption | omega) (by first | assumption | omega) (by first | assumption | omega) (enB_congr (prt_eq (by omega) ht5) (enB_20 hF (f := 1) (r := d) (by omega))) H.size) (cwV 1 hts (gV tw_488 tw_490 tws_21 tw_3 tw_491) rfl rfl rfl ⟨rfl, hd_M_sums⟩ ⟨Nat.le_of_ble_eq_true rfl, Nat.le_of_ble_eq_true rfl⟩) (xPreV (C := R_M) (T := F_M) (N := 21) (q0 := 0) hN hK (hP.sub (ws' := [(g, .inr (2, [.int (nI 0), .int (nI d), .ref mm, .int ik, .ref kf, .ref tb, .int (nI d), .ref wk, .int ab, .int be, .ref pl, .ref sp, .int a0, .int a1, .int b0, .int b1, .ref po, .ref to, .ref ba, .ref li, .int lm])), (tb, LA cJ 16 T5), (wk, LA cJ 20 W0)]) [0, 2, 3] rfl) (hD.sub (ws' := [(g, .inr (2, [.int (nI 0), .int (nI d), .ref mm, .int ik, .ref kf, .ref tb, .int (nI d), .ref wk, .int ab, .int be, .ref pl, .ref sp, .int a0, .int a1, .int b0, .int b1, .ref po, .ref to, .ref ba, .ref li, .int lm])), (tb, LA cJ 16 T5), (wk, LA cJ 20 W0)]) [0, 2, 3] (by decide) rfl) rfl rfl) rfl rfl hl.1 rfl (lv_room (Nat.le_of_ble_eq_true rfl)) d_M_determinant_64 ⟨Nat.le_of_ble_eq_true rfl, Nat.le_of_ble_eq_true rfl⟩) (fun r_9 u_10 H locs hw_11 hP hD hS => ?_)
            obtain ⟨W2_12, rfl⟩ : ∃ z, z = u_10 := ⟨_, rfl⟩
            try dsimp only at hw_11
            have hP : va_P D vwC [(g, .inr (2, [.int (nI 0), .int (nI d), .ref mm, .int ik, .ref kf, .ref tb, .int (nI d), .ref wk, .int ab, .int be, .ref pl, .ref sp, .int a0, .int a1, .int b0, .int b1, .ref po, .ref to, .ref ba, .ref li, .int lm])), (mm, IA cI 16 Fm), (tb, LA cJ 16 T5), (wk, LA cJ 20 W2_12)] H := hP.sub [1, 0, 2, 3] rfl
            have hD : va_D A [(g, .inr (2, [.int (nI 0), .int (nI d), .ref mm, .int ik, .ref kf, .ref tb, .int (nI d), .ref wk, .int ab, .int be, .ref pl, .ref sp, .int a0, .int a1, .int b0, .int b1, .ref po, .ref to, .ref ba, .ref li, .int lm])), (mm, IA cI 16 Fm), (tb, LA cJ 16 T5), (wk, LA cJ 20 W2_12)] := hD.sub [1, 0, 2, 3] (by decide) rfl
            subst hw_11
            exact hret H locs _ ls (lI (eS T5 d 2)) (nI d, T5, W2_12) d_M_determinant_67 (by first | exact (by have e00 : (nI 0).toInt = 0 := rfl; have e33 : (nI 3).toInt = 3 := rfl; unfold s_det; rw [if_neg (show ¬ v.toInt = 0 from by omega), if_neg (show ¬ v.toInt = 1 from by omega), if_neg (show ¬ v.toInt = 2 from by omega), if_pos (show v.toInt = 3 from by omega), eS_congr (by omega) (by omega) (prt_eq (f := 1) (by omega) ht5) 2 (by omega)]) | (dsimp only; exact (by have e00 : (nI 0).toInt = 0 := rfl; have e33 : (nI 3).toInt = 3 := rfl; unfold s_det; rw [if_neg (show ¬ v.toInt = 0 from by omega), if_neg (show ¬ v.toInt = 1 from by omega), if_neg (show ¬ v.toInt = 2 from by omega), if_pos (show v.toInt = 3 from by omega), eS_congr (by omega) (by omega) (prt_eq (f := 1) (by omega) ht5) 2 (by omega)]))) hP hD hS
          · skip
            refine lv_aload_n hx hb d_M_determinant_54 rfl (lv_at hl 0 rfl) ?_
            refine lv_iconst (v := nI 1) hx hb d_M_determinant_55 (by decide) ?_
            refine xcl (wc := [(g, .inr (2, [.int (nI 0), .int (nI d), .ref mm, .int ik, .ref kf, .ref tb, .int (nI d), .ref wk, .int ab, .int be, .ref pl, .ref sp, .int a0, .int a1, .int b0, .int b1, .ref po, .ref to, .ref ba, .ref li, .int lm])), (tb, LA cJ 16 T5), (wk, LA cJ 20 W0)]) (wr := [(mm, IA cI 16 Fm)]) hP hD hS hA [0, 2, 3] [1] rfl rfl (by decide) (by decide) (va_runV (As := [.int (nI 1)]) (rest := []) ⟨hx, hb, hml, hown, hts⟩ (r_sums l D cJ cI g (nI 0) d ik ab be a0 a1 b0 b1 lm mm kf tb wk pl sp po to ba li d T5 W0 1 (by first | assumption | omega) (by first | assumption | omega) (by first | assumption | omega) (by first | assumption | omega) (enB_congr (prt_eq (by omega) ht5) (enB_20 hF (f := 1) (r := d) (by omega))) H.size) (cwV 1 hts (gV tw_488 tw_490 tws_21 tw_3 tw_491) rfl rfl rfl ⟨rfl, hd_M_sums⟩ ⟨Nat.le_of_ble_eq_true rfl, Nat.le_of_ble_eq_true rfl⟩) (xPreV (C := R_M) (T := F_M) (N := 21) (q0 := 0) hN hK (hP.sub (ws' := [(g, .inr (2, [.int (nI 0), .int (nI d), .ref mm, .int ik, .ref kf, .ref tb, .int (nI d), .ref wk, .int ab, .int be, .ref pl, .ref sp, .int a0, .int a1, .int b0, .int b1, .ref po, .ref to, .ref ba, .ref li, .int lm])), (tb, LA cJ 16 T5), (wk, LA cJ 20 W0)]) [0, 2, 3] rfl) (hD.sub (ws' := [(g, .inr (2, [.int (nI 0), .int (nI d), .ref mm, .int ik, .ref kf, .ref tb, .int (nI d), .ref wk, .int ab, .int be, .ref pl, .ref sp, .int a0, .int a1, .int b0, .int b1, .ref po, .ref to, .ref ba, .ref li, .int lm])), (tb, LA cJ 16 T5), (wk, LA cJ 20 W0)]) [0, 2, 3] (by decide) rfl) rfl rfl) rfl rfl hl.1 rfl (lv_room (Nat.le_of_ble_eq_true rfl)) d_M_determinant_56 ⟨Nat.le_of_ble_eq_true rfl, Nat.le_of_ble_eq_true rfl⟩) (fun r_13 u_14 H locs hw_15 hP hD hS => ?_)
            obtain ⟨W2_16, rfl⟩ : ∃ z, z = u_14 := ⟨_, rfl⟩
            try dsimp only at hw_15
            have hP : va_P D vwC [(g, .inr (2, [.int (nI 0), .int (nI d), .ref mm, .int ik, .ref kf, .ref tb, .int (nI d), .ref wk, .int ab, .int be, .ref pl, .ref sp, .int a0, .int a1, .int b0, .int b1, .ref po, .ref to, .ref ba, .ref li, .int lm])), (mm, IA cI 16 Fm), (tb, LA cJ 16 T5), (wk, LA cJ 20 W2_16)] H := hP.sub [1, 0, 2, 3] rfl
            have hD : va_D A [(g, .inr (2, [.int (nI 0), .int (nI d), .ref mm, .int ik, .ref kf, .ref tb, .int (nI d), .ref wk, .int ab, .int be, .ref pl, .ref sp, .int a0, .int a1, .int b0, .int b1, .ref po, .ref to, .ref ba, .ref li, .int lm])), (mm, IA cI 16 Fm), (tb, LA cJ 16 T5), (wk, LA cJ 20 W2_16)] := hD.sub [1, 0, 2, 3] (by decide) rfl
            subst hw_15
            refine lv_goto (tgt := 67) hx hb d_M_determinant_59 (by decide) ?_
            exact hret H locs _ ls (lI (eS T5 d 1)) (nI d, T5, W2_16) d_M_determinant_67 (by first | exact (by have e00 : (nI 0).toInt = 0 := rfl; have e33 : (nI 3).toInt = 3 := rfl; unfold s_det; rw [if_neg (show ¬ v.toInt = 0 from by omega), if_neg (show ¬ v.toInt = 1 from by omega), if_pos (show v.toInt = 2 from by omega), eS_congr (by omega) (by omega) (prt_eq (f := 1) (by omega) ht5) 1 (by omega)]) | (dsimp only; exact (by have e00 : (nI 0).toInt = 0 := rfl; have e33 : (nI 3).toInt = 3 := rfl; unfold s_det; rw [if_neg (show ¬ v.toInt = 0 from by omega), if_neg (show ¬ v.toInt = 1 from by omega), if_pos (show v.toInt = 2 from by omega), eS_congr (by omega) (by omega) (prt_eq (f := 1) (by omega) ht5) 1 (by omega)]))) hP hD hS
        · skip
          refine lv_aload_n hx hb d_M_determinant_38 rfl (lv_at hl 0 rfl) ?_
          refine lv_aload_n hx hb d_M_determinant_39 rfl (lv_at hl 0 rfl) ?_
          refine va_get (D := D) (ci := 2) (v := .int (nI d)) (C := R_M) (T := F_M) (N := 21) hx hb hts iw_M hown hK hP 0 rfl rfl 6 (by decide) (hts _ tw_393) (fun _ h9 => h9) rfl d_M_determinant_40 ?_
          refine xcl (wc := [(g, .inr (2, [.int (nI 0), .int (nI d), .ref mm, .int ik, .ref kf, .ref tb, .int (nI d), .ref wk, .int ab, .int be, .ref pl, .ref sp, .int a0, .int a1, .int b0, .int b1, .ref po, .ref to, .ref ba, .ref li, .int lm])), (tb, LA cJ 16 T5), (wk, LA cJ 20 W0)]) (wr := [(mm, IA cI 16 Fm)]) hP hD hS hA [0, 2, 3] [1] rfl rfl (by decide) (by decide) (va_runV (As := [.int (nI d)]) (rest := []) ⟨hx, hb, hml, hown, hts⟩ (r_sums l D cJ cI g (nI 0) d ik ab be a0 a1 b0 b1 lm mm kf tb wk pl sp po to ba li d T5 W0 d (by first | assumption | omega) (by first | assumption | omega) (by first | assumption | omega) (by first | assumption | omega) (enB_congr (prt_eq (by omega) ht5) (enB_20 hF (f := 1) (r := d) (by omega))) H.size) (cwV 1 hts (gV tw_488 tw_490 tws_21 tw_3 tw_491) rfl rfl rfl ⟨rfl, hd_M_sums⟩ ⟨Nat.le_of_ble_eq_true rfl, Nat.le_of_ble_eq_true rfl⟩) (xPreV (C := R_M) (T := F_M) (N := 21) (q0 := 0) hN hK (hP.sub (ws' := [(g, .inr (2, [.int (nI 0), .int (nI d), .ref mm, .int ik, .ref kf, .ref tb, .int (nI d), .ref wk, .int ab, .int be, .ref pl, .ref sp, .int a0, .int a1, .int b0, .int b1, .ref po, .ref to, .ref ba, .ref li, .int lm])), (tb, LA cJ 16 T5), (wk, LA cJ 20 W0)]) [0, 2, 3] rfl) (hD.sub (ws' := [(g, .inr (2, [.int (nI 0), .int (nI d), .ref mm, .int ik, .ref kf, .ref tb, .int (nI d), .ref wk, .int ab, .int be, .ref pl, .ref sp, .int a0, .int a1, .int b0, .int b1, .ref po, .ref to, .ref ba, .ref li, .int lm])), (tb, LA cJ 16 T5), (wk, LA cJ 20 W0)]) [0, 2, 3] (by decide) rfl) rfl rfl) rfl rfl hl.1 rfl (lv_room (Nat.le_of_ble_eq_true rfl)) d_M_determinant_43 ⟨Nat.le_of_ble_eq_true rfl, Nat.le_of_ble_eq_true rfl⟩) (fun r_17 u_18 H locs hw_19 hP hD hS => ?_)
          obtain ⟨W2_20, rfl⟩ : ∃ z, z = u_18 := ⟨_, rfl⟩
          try dsimp only at hw_19
          have hP : va_P D vwC [(g, .inr (2, [.int (nI 0), .int (nI d), .ref mm, .int ik, .ref kf, .ref tb, .int (nI d), .ref wk, .int ab, .int be, .ref pl, .ref sp, .int a0, .int a1, .int b0, .int b1, .ref po, .ref to, .ref ba, .ref li, .int lm])), (mm, IA cI 16 Fm), (tb, LA cJ 16 T5), (wk, LA cJ 20 W2_20)] H := hP.sub [1, 0, 2, 3] rfl
          have hD : va_D A [(g, .inr (2, [.int (nI 0), .int (nI d), .ref mm, .int ik, .ref kf, .ref tb, .int (nI d), .ref wk, .int ab, .int be, .ref pl, .ref sp, .int a0, .int a1, .int b0, .int b1, .ref po, .ref to, .ref ba, .ref li, .int lm])), (mm, IA cI 16 Fm), (tb, LA cJ 16 T5), (wk, LA cJ 20 W2_20)] := hD.sub [1, 0, 2, 3] (by decide) rfl
          subst hw_19
          refine lv_goto (tgt := 67) hx hb d_M_determinant_46 (by decide) ?_
          exact hret H locs _ ls (lI (eS T5 d d)) (nI d, T5, W2_20) d_M_determinant_67 (by first | exact (by have e00 : (nI 0).toInt = 0 := rfl; have e33 : (nI 3).toInt = 3 := rfl; unfold s_det; rw [if_pos (show v.toInt = 0 from by omega), eS_congr (by omega) (by omega) (prt_eq (f := 1) (by omega) ht5) d (by omega)]; rfl) | (dsimp only; exact (by have e00 : (nI 0).toInt = 0 := rfl; have e33 : (nI 3).toInt = 3 := rfl; unfold s_det; rw [if_pos (show v.toInt = 0 from by omega), eS_congr (by omega) (by omega) (prt_eq (f := 1) (by omega) ht5) d (by omega)]; rfl))) hP hD hS
      · skip
        refine lv_iconst (v := nI 1) hx hb d_M_determinant_25 (by decide) ?_
        refine lv_goto (tgt := 30) hx hb d_M_determinant_26 (by decide) ?_
        refine xcv (wc := [(g, .inr (2, [.int (nI 0), .int (nI d), .ref mm, .int ik, .ref kf, .ref tb, .int rw, .ref wk, .int ab, .int be, .ref pl, .ref sp, .int a0, .int a1, .int b0, .int b1, .ref po, .ref to, .ref ba, .ref li, .int lm])), (mm, IA cI 16 Fm), (tb, LA cJ 16 T)]) (wr := [(wk, LA cJ 20 W0)]) hP hD hS hA [0, 1, 2] [3] rfl rfl (by decide) (by decide) (va_runV (As := [.int (nI 1)]) (rest := []) ⟨hx, hb, hml, hown, hts⟩ (r_take1 l D cJ cI g (nI 0) d ik rw ab be a0 a1 b0 b1 lm mm kf tb wk pl sp po to ba li Fm T (by first | assumption | omega) (by first | assumption | omega) H.size) (cwV 1 hts (gV tw_480 tw_482 tws_19 tw_3 tw_483) rfl rfl rfl ⟨rfl, hd_M_take⟩ ⟨Nat.le_of_ble_eq_true rfl, Nat.le_of_ble_eq_true rfl⟩) (xPreV (C := R_M) (T := F_M) (N := 21) (q0 := 0) hN hK (hP.sub (ws' := [(g, .inr (2, [.int (nI 0), .int (nI d), .ref mm, .int ik, .ref kf, .ref tb, .int rw, .ref wk, .int ab, .int be, .ref pl, .ref sp, .int a0, .int a1, .int b0, .int b1, .ref po, .ref to, .ref ba, .ref li, .int lm])), (mm, IA cI 16 Fm), (tb, LA cJ 16 T)]) [0, 1, 2] rfl) (hD.sub (ws' := [(g, .inr (2, [.int (nI 0), .int (nI d), .ref mm, .int ik, .ref kf, .ref tb, .int rw, .ref wk, .int ab, .int be, .ref pl, .ref sp, .int a0, .int a1, .int b0, .int b1, .ref po, .ref to, .ref ba, .ref li, .int lm])), (mm, IA cI 16 Fm), (tb, LA cJ 16 T)]) [0, 1, 2] (by decide) rfl) rfl rfl) rfl rfl hl.1 rfl (lv_room (Nat.le_of_ble_eq_true rfl)) d_M_determinant_30 ⟨Nat.le_of_ble_eq_true rfl, Nat.le_of_ble_eq_true rfl⟩) (fun u_22 H locs ht5 hP hD hS => ?_)
        obtain ⟨T5, rfl⟩ : ∃ z, z = u_22 := ⟨_, rfl⟩
        try dsimp only at ht5
        have hP : va_P D vwC [(g, .inr (2, [.int (nI 0), .int (nI d), .ref mm, .int ik, .ref kf, .ref tb, .int (nI (d + 1)), .ref wk, .int ab, .int be, .ref pl, .ref sp, .int a0, .int a1, .int b0, .int b1, .ref po, .ref to, .ref ba, .ref li, .int lm])), (mm, IA cI 16 Fm), (tb, LA cJ 16 T5), (wk, LA cJ 20 W0)] H := hP.sub [1, 2, 3, 0] rfl
        have hD : va_D A [(g, .inr (2, [.int (nI 0), .int (nI d), .ref mm, .int ik, .ref kf, .ref tb, .int (nI (d + 1)), .ref wk, .int ab, .int be, .ref pl, .ref sp, .int a0, .int a1, .int b0, .int b1, .ref po, .ref to, .ref ba, .ref li, .int lm])), (mm, IA cI 16 Fm), (tb, LA cJ 16 T5), (wk, LA cJ 20 W0)] := hD.sub [1, 2, 3, 0] (by decide) rfl
        refine lv_iload_n hx hb d_M_determinant_33 rfl (lv_at hl 1 rfl) ?_
        refine lv_iconst (v := nI 2) hx hb d_M_determinant_34 (by decide) ?_
        refine xi_ge (tgt := 49) (X := v.toInt) (Y := (2 : Nat)) hx hb rfl (nI_toInt (by omega)) d_M_determinant_35 (by decide) (fun c35_22 => absurd c35_22 (by omega)) (fun c35_22 => ?_)
        refine lv_aload_n hx hb d_M_determinant_38 rfl (lv_at hl 0 rfl) ?_
        refine lv_aload_n hx hb d_M_determinant_39 rfl (lv_at hl 0 rfl) ?_
        refine va_get (D := D) (ci := 2) (v := .int (nI (d + 1))) (C := R_M) (T := F_M) (N := 21) hx hb hts iw_M hown hK hP 0 rfl rfl 6 (by decide) (hts _ tw_393) (fun _ h9 => h9) rfl d_M_determinant_40 ?_
        refine xcl (wc := [(g, .inr (2, [.int (nI 0), .int (nI d), .ref mm, .int ik, .ref kf, .ref tb, .int (nI (d + 1)), .ref wk, .int ab, .int be, .ref pl, .ref sp, .int a0, .int a1, .int b0, .int b1, .ref po, .ref to, .ref ba, .ref li, .int lm])), (tb, LA cJ 16 T5), (wk, LA cJ 20 W0)]) (wr := [(mm, IA cI 16 Fm)]) hP hD hS hA [0, 2, 3] [1] rfl rfl (by decide) (by decide) (va_runV (As := [.int (nI (d + 1))]) (rest := []) ⟨hx, hb, hml, hown, hts⟩ (r_sums l D cJ cI g (nI 0) d ik ab be a0 a1 b0 b1 lm mm kf tb wk pl sp po to ba li (d + 1) T5 W0 (d + 1) (by first | assumption | omega) (by first | assumption | omega) (by first | assumption | omega) (by first | assumption | omega) (enB_congr (prt_eq (by omega) ht5) (enB_20 hF (f := 0) (r := d + 1) (by omega))) H.size) (cwV 1 hts (gV tw_488 tw_490 tws_21 tw_3 tw_491) rfl rfl rfl ⟨rfl, hd_M_sums⟩ ⟨Nat.le_of_ble_eq_true rfl, Nat.le_of_ble_eq_true rfl⟩) (xPreV (C := R_M) (T := F_M) (N := 21) (q0 := 0) hN hK (hP.sub (ws' := [(g, .inr (2, [.int (nI 0), .int (nI d), .ref mm, .int ik, .ref kf, .ref tb, .int (nI (d + 1)), .ref wk, .int ab, .int be, .ref pl, .ref sp, .int a0, .int a1, .int b0, .int b1, .ref po, .ref to, .ref ba, .ref li, .int lm])), (tb, LA cJ 16 T5), (wk, LA cJ 20 W0)]) [0, 2, 3] rfl) (hD.sub (ws' := [(g, .inr (2, [.int (nI 0), .int (nI d), .ref mm, .int ik, .ref kf, .ref tb, .int (nI (d + 1)), .ref wk, .int ab, .int be, .ref pl, .ref sp, .int a0, .int a1, .int b0, .int b1, .ref po, .ref to, .ref ba, .ref li, .int lm])), (tb, LA cJ 16 T5), (wk, LA cJ 20 W0)]) [0, 2, 3] (by decide) rfl) rfl rfl) rfl rfl hl.1 rfl (lv_room (Nat.le_of_ble_eq_true rfl)) d_M_determinant_43 ⟨Nat.le_of_ble_eq_true rfl, Nat.le_of_ble_eq_true rfl⟩) (fun r_24 u_25 H locs hw_26 hP hD hS => ?_)
        obtain ⟨W2_27, rfl⟩ : ∃ z, z = u_25 := ⟨_, rfl⟩
        try dsimp only at hw_26
        have hP : va_P D vwC [(g, .inr (2, [.int (nI 0), .int (nI d), .ref mm, .int ik, .ref kf, .ref tb, .int (nI (d + 1)), .ref wk, .int ab, .int be, .ref pl, .ref sp, .int a0, .int a1, .int b0, .int b1, .ref po, .ref to, .ref ba, .ref li, .int lm])), (mm, IA cI 16 Fm), (tb, LA cJ 16 T5), (wk, LA cJ 20 W2_27)] H := hP.sub [1, 0, 2, 3] rfl
        have hD : va_D A [(g, .inr (2, [.int (nI 0), .int (nI d), .ref mm, .int ik, .ref kf, .ref tb, .int (nI (d + 1)), .ref wk, .int ab, .int be, .ref pl, .ref sp, .int a0, .int a1, .int b0, .int b1, .ref po, .ref to, .ref ba, .ref li, .int lm])), (mm, IA cI 16 Fm), (tb, LA cJ 16 T5), (wk, LA cJ 20 W2_27)] := hD.sub [1, 0, 2, 3] (by decide) rfl
        subst hw_26
        refine lv_goto (tgt := 67) hx hb d_M_determinant_46 (by decide) ?_
        exact hret H locs _ ls (lI (eS T5 (d + 1) (d + 1))) (nI (d + 1), T5, W2_27) d_M_determinant_67 (by first | exact (by have e00 : (nI 0).toInt = 0 := rfl; have e33 : (nI 3).toInt = 3 := rfl; unfold s_det; rw [if_neg (show ¬ v.toInt = 0 from by omega), if_pos (show v.toInt = 1 from by omega), eS_congr (by omega) (by omega) (prt_eq (f := 0) (by omega) ht5) (d + 1) (by omega)]; rfl) | (dsimp only; exact (by have e00 : (nI 0).toInt = 0 := rfl; have e33 : (nI 3).toInt = 3 := rfl; unfold s_det; rw [if_neg (show ¬ v.toInt = 0 from by omega), if_pos (show v.toInt = 1 from by omega), eS_congr (by omega) (by omega) (prt_eq (f := 0) (by omega) ht5) (d + 1) (by omega)]; rfl))) hP hD hS
    · skip
      refine xz_ne (tgt := 19) (X := (0 : Nat)) hx hb (nI_toInt (by omega)) d_M_determinant_12 (by decide) (fun c12_27 => absurd c12_27 (by omega)) (fun c12_27 => ?_)
      refine lv_ldc2 (v := lI (-1000000000000000000)) hx hb hown (hts _ tw_467) d_M_determinant_15 ?_
      exact hret H locs _ ls (lI (-1000000000000000000)) (rw, T, W0) d_M_determinant_18 (by first | exact (by have e00 : (nI 0).toInt = 0 := rfl; have e33 : (nI 3).toInt = 3 := rfl; unfold s_det; rw [if_neg (show ¬ v.toInt = 0 from by omega), if_neg (show ¬ v.toInt = 1 from by omega), if_neg (show ¬ v.toInt = 2 from by omega), if_neg (show ¬ v.toInt = 3 from by omega)]; rfl) | (dsimp only; exact (by have e00 : (nI 0).toInt = 0 := rfl; have e33 : (nI 3).toInt = 3 := rfl; unfold s_det; rw [if_neg (show ¬ v.toInt = 0 from by omega), if_neg (show ¬ v.toInt = 1 from by omega), if_neg (show ¬ v.toInt = 2 from by omega), if_neg (show ¬ v.toInt = 3 from by omega)]; rfl))) hP hD hS
  rw [hH, hlc] at key; exact key
