/-! contracts of ConicKindsModel: layBase, layCut, section, touches (wip/spec_model9.py, modelI) -/
theorem i32_neg {v : Int32} (h : -1000 ≤ v.toInt ∧ v.toInt ≤ 1000) : (-v).toInt = -v.toInt := by
  rw [Int32.toInt_neg]
  apply Int.bmod_eq_of_le <;> omega
/-- the base that the reference lays for a plane's section -/
def bsN (a b c e : Int) : Nat → Int := fun k =>
  if c ≠ 0 then (match k with | 0 => c | 3 => e | 5 => c | 7 => -a | 10 => c | 11 => -b | _ => 0)
  else if b ≠ 0 then (match k with | 0 => b | 2 => e | 5 => b | 6 => -a | 10 => -c | 11 => b | _ => 0)
  else (match k with | 0 => a | 1 => e | 5 => -b | 6 => a | 9 => -c | 11 => a | _ => 0)
theorem bs_c {a b c e : Int} (h : c ≠ 0) (k : Nat) : bsN a b c e k = (match k with | 0 => c | 3 => e | 5 => c | 7 => -a | 10 => c | 11 => -b | _ => 0) := if_pos h
theorem bs_b {a b c e : Int} (h : ¬ c ≠ 0) (h2 : b ≠ 0) (k : Nat) : bsN a b c e k = (match k with | 0 => b | 2 => e | 5 => b | 6 => -a | 10 => -c | 11 => b | _ => 0) := (if_neg h).trans (if_pos h2)
theorem bs_a {a b c e : Int} (h : ¬ c ≠ 0) (h2 : ¬ b ≠ 0) (k : Nat) : bsN a b c e k = (match k with | 0 => a | 1 => e | 5 => -b | 6 => a | 9 => -c | 11 => a | _ => 0) := (if_neg h).trans (if_neg h2)
theorem fq_cut {Fm B : Nat → Int} {a b c e : Int} (hB : ∀ k, k < 12 → B k = bsN a b c e k) : ∀ x y, x < 3 → y < 3 → fqN Fm B x y 4 = cutT Fm (ptR 3 (-e) a b c) (pvN b c) (4 * x + y) := by
  intro x y hx hy
  unfold cutT
  rw [q4d x (show y < 4 by omega), q4m x (show y < 4 by omega)]
  have b0 := hB 0 (by decide); have b1 := hB 1 (by decide); have b2 := hB 2 (by decide); have b3 := hB 3 (by decide)
  have b4 := hB 4 (by decide); have b5 := hB 5 (by decide); have b6 := hB 6 (by decide); have b7 := hB 7 (by decide)
  have b8 := hB 8 (by decide); have b9 := hB 9 (by decide); have b10 := hB 10 (by decide); have b11 := hB 11 (by decide)
  by_cases hc : c ≠ 0
  · rw [bs_c hc] at b0 b1 b2 b3 b4 b5 b6 b7 b8 b9 b10 b11
    rw [show pvN b c = 3 from if_pos hc]
    rcases (show x = 0 ∨ x = 1 ∨ x = 2 by omega) with rfl | rfl | rfl <;> rcases (show y = 0 ∨ y = 1 ∨ y = 2 by omega) with rfl | rfl | rfl <;>
      (simp only [fqN, fqJ, cutZ, skp, ptR, b0, b1, b2, b3, b4, b5, b6, b7, b8, b9, b10, b11, Nat.reduceMul, Nat.reduceAdd, Nat.reduceLT, if_true, if_false, reduceIte]; grind)
  · by_cases hb : b ≠ 0
    · rw [bs_b hc hb] at b0 b1 b2 b3 b4 b5 b6 b7 b8 b9 b10 b11
      rw [show pvN b c = 2 from (if_neg hc).trans (if_pos hb)]
      rcases (show x = 0 ∨ x = 1 ∨ x = 2 by omega) with rfl | rfl | rfl <;> rcases (show y = 0 ∨ y = 1 ∨ y = 2 by omega) with rfl | rfl | rfl <;>
        (simp only [fqN, fqJ, cutZ, skp, ptR, b0, b1, b2, b3, b4, b5, b6, b7, b8, b9, b10, b11, Nat.reduceMul, Nat.reduceAdd, Nat.reduceLT, if_true, if_false, reduceIte]; grind)
    · rw [bs_a hc hb] at b0 b1 b2 b3 b4 b5 b6 b7 b8 b9 b10 b11
      rw [show pvN b c = 1 from (if_neg hc).trans (if_neg hb)]
      rcases (show x = 0 ∨ x = 1 ∨ x = 2 by omega) with rfl | rfl | rfl <;> rcases (show y = 0 ∨ y = 1 ∨ y = 2 by omega) with rfl | rfl | rfl <;>
        (simp only [fqN, fqJ, cutZ, skp, ptR, b0, b1, b2, b3, b4, b5, b6, b7, b8, b9, b10, b11, Nat.reduceMul, Nat.reduceAdd, Nat.reduceLT, if_true, if_false, reduceIte]; grind)
theorem pvN_le (b c : Int) : pvN b c ≤ 3 := by
  unfold pvN
  split
  · omega
  · split <;> omega
theorem cutC_B {Fm G : Nat → Int} {pv f r : Nat} (hf : f + r = 3) (hp : pv ≤ 3) (hF : ∀ k, k < 16 → inB (Fm k) 20) (hG : ∀ k, k < 4 → inB (G k) 10) : enB (prt (cutT Fm G pv) f) r (tabB r) :=
  cutW_B hf hp hF hG (fun a b ha hb => by unfold cutT; rw [q4d a (show b < 4 by omega), q4m a (show b < 4 by omega)])
noncomputable def s_seM (Fm : Nat → Int) (d : Nat) (a b c e : Int) : Int32 := if d = 2 then -3 else @ite Int32 (rowBad (ptR d e a b c) d 10) (Classical.propDecidable _) (-2) (kndM (cutT Fm (ptR 3 (-e) a b c) (pvN b c)) 2)
theorem s_seM_2 {Fm : Nat → Int} {d : Nat} {a b c e : Int} (h : d = 2) : s_seM Fm d a b c e = -3 := if_pos h
theorem s_seM_t {Fm : Nat → Int} {d : Nat} {a b c e : Int} (h2 : ¬ d = 2) (h : rowBad (ptR d e a b c) d 10) : s_seM Fm d a b c e = -2 := (if_neg h2).trans (@if_pos _ (Classical.propDecidable _) h _ _ _)
theorem s_seM_f {Fm : Nat → Int} {d : Nat} {a b c e : Int} (h2 : ¬ d = 2) (h : ¬ rowBad (ptR d e a b c) d 10) : s_seM Fm d a b c e = kndM (cutT Fm (ptR 3 (-e) a b c) (pvN b c)) 2 := (if_neg h2).trans (@if_neg _ (Classical.propDecidable _) h _ _ _)
def colU (U P : Nat → Int) (k : Nat) : Nat → Int := fun q => if q % 4 = k then P (q / 4) else U q
def tcN (U P : Nat → Int) (r : Nat) : Nat → Int
  | 0 => 0
  | k + 1 => tcN U P r k + P k * eS (colU U P k) r r
theorem tc_3 (U P : Nat → Int) : tcN U P 3 3 = tchN U P 3 3 := by
  simp only [tcN, tchN, tchJ, adjM, eS, m3, m2, colU, Nat.reduceMul, Nat.reduceAdd, Nat.reduceMod, Nat.reduceDiv, Nat.reduceEqDiff, if_true, if_false, reduceIte]
  grind
theorem tc_4 (U P : Nat → Int) : tcN U P 4 4 = tchN U P 4 4 := by
  simp only [tcN, tchN, tchJ, adjM, eS, m4, m3, m2, colU, Nat.reduceMul, Nat.reduceAdd, Nat.reduceMod, Nat.reduceDiv, Nat.reduceEqDiff, if_true, if_false, reduceIte]
  grind
theorem colU_B {U P : Nat → Int} {r k : Nat} (h4 : r ≤ 4) (hU : enB U r 20) (hP : ∀ k, k < 4 → inB (P k) 20) : enB (colU U P k) r 20 := by
  intro a b ha hb
  unfold colU
  rw [q4d a (show b < 4 by omega), q4m a (show b < 4 by omega)]
  split
  · exact hP a (by omega)
  · exact hU a b ha hb
theorem tcN_B {U P : Nat → Int} {r : Nat} (h2 : 2 ≤ r) (h4 : r ≤ 4) (hU : enB U r 20) (hP : ∀ k, k < 4 → inB (P k) 20) : ∀ {n : Nat}, n ≤ 4 → inB (tcN U P r n) ((n : Int) * (20 * 1099511627776))
  | 0, _ => by show inB 0 (0 * _); rw [Int.zero_mul]; exact ⟨by decide, by decide⟩
  | n + 1, h => by
    have e1 := eS_20 h2 h4 (colU_B (k := n) h4 hU hP)
    have e2 := mulB (hP n (by omega)) (show inB (eS (colU U P n) r r) 1099511627776 from ⟨by omega, by omega⟩)
    have e := addB (tcN_B h2 h4 hU hP (n := n) (by omega)) e2
    have q : ((n + 1 : Nat) : Int) * (20 * 1099511627776) = (n : Int) * (20 * 1099511627776) + 20 * 1099511627776 := by omega
    rw [q]; exact e

def rm_r_layBase : Room := { frames := 0, cells := 0, slots := 0, locals := 0 }
set_option maxHeartbeats 4000000 in
set_option maxRecDepth 100000 in
/-- the base of a plane -/
theorem r_layBase (l : Launch) (D : va_G) (cJ cI : ClassId) (g : Nat) (cd : Int32) (d : Nat) (ik : Int32) (rw : Int32) (ab : Int32) (be : Int32) (a0 : Int32) (a1 : Int32) (b0 : Int32) (b1 : Int32) (lm : Int32) (mm : Nat) (kf : Nat) (tb : Nat) (wk : Nat) (pl : Nat) (sp : Nat) (po : Nat) (to : Nat) (ba : Nat) (li : Nat) (Bs : Nat → Int) (va : Int32) (vb : Int32) (vc : Int32) (ve : Int32) (ra : -10 ≤ va.toInt ∧ va.toInt ≤ 10) (rb : -10 ≤ vb.toInt ∧ vb.toInt ≤ 10) (rc : -10 ≤ vc.toInt ∧ vc.toInt ≤ 10) (sz : Nat) : xMv l y_M_layBase (Cond.code y_M_layBase b_M_layBase 9 none :: tW) rm_r_layBase [.ref g, .int va, .int vb, .int vc, .int ve] D vwC [(cJ, .long), (cI, .int)] sz [(g, .inr (2, [.int cd, .int (nI d), .ref mm, .int ik, .ref kf, .ref tb, .int rw, .ref wk, .int ab, .int be, .ref pl, .ref sp, .int a0, .int a1, .int b0, .int b1, .ref po, .ref to, .ref ba, .ref li, .int lm])), (ba, LA cJ 12 Bs)] (fun (uo : (Nat → Int)) => ∀ k, k < 12 → uo k = bsN va.toInt vb.toInt vc.toInt ve.toInt k) (fun (uo : (Nat → Int)) => [(g, .inr (2, [.int cd, .int (nI d), .ref mm, .int ik, .ref kf, .ref tb, .int rw, .ref wk, .int ab, .int be, .ref pl, .ref sp, .int a0, .int a1, .int b0, .int b1, .ref po, .ref to, .ref ba, .ref li, .int lm])), (ba, LA cJ 12 uo)]) 0 0 := by
  refine xov (cc := b_M_layBase) (maxL := 9) (by decide) rfl (Nat.le_of_ble_eq_true rfl) ?_
  intro p e s m args below meth c Q A hx hb hml hts hown hN hA hS hP hK hD hret ls hl
  have hl : lv_has ls 9 [(0, .ref g), (1, .int va), (2, .int vb), (3, .int vc), (4, .int ve)] := hl
  obtain ⟨H, hH⟩ : ∃ z, z = s.heap := ⟨_, rfl⟩
  obtain ⟨locs, hlc⟩ : ∃ z : List Loc, z = [] := ⟨_, rfl⟩
  rw [← hH] at hP
  have hS : va_S A s.heap H locs := by rw [hH, hlc]; exact hS
  have key : W p l e rm_r_layBase s m args below meth c H locs 0 0 Q (F0 m 0 ls []) := by
    refine lv_iconst (v := nI 0) hx hb d_M_layBase_0 (by decide) ?_
    refine lv_istore (lv' := [(5, .int (nI 0)), (0, .ref g), (1, .int va), (2, .int vb), (3, .int vc), (4, .int ve)]) hx hb d_M_layBase_1 hl (by decide) rfl (fun ls hl => ?_)
    have lp_3 : ∀ (n_3 : Nat) (t : Nat) (B3 : Nat → Int) (H : Heap) (locs : List Loc) (ls : Array Slot), (t ≤ 12) → (∀ k, k < t → B3 k = 0) → (12 - t) < n_3 → va_P D vwC [(g, .inr (2, [.int cd, .int (nI d), .ref mm, .int ik, .ref kf, .ref tb, .int rw, .ref wk, .int ab, .int be, .ref pl, .ref sp, .int a0, .int a1, .int b0, .int b1, .ref po, .ref to, .ref ba, .ref li, .int lm])), (ba, LA cJ 12 B3)] H → va_D A [(g, .inr (2, [.int cd, .int (nI d), .ref mm, .int ik, .ref kf, .ref tb, .int rw, .ref wk, .int ab, .int be, .ref pl, .ref sp, .int a0, .int a1, .int b0, .int b1, .ref po, .ref to, .ref ba, .ref li, .int lm])), (ba, LA cJ 12 B3)] → va_S A s.heap H locs → lv_has ls 9 [(0, .ref g), (1, .int va), (2, .int vb), (3, .int vc), (4, .int ve), (5, .int (nI t))] → W p l e rm_r_layBase s m args below meth c H locs 0 0 Q (F0 m 3 ls []) := by
      intro n_3
      induction n_3 with
      | zero => intro t B3 H locs ls ht h1 hn_3; exact absurd hn_3 (Nat.not_lt_zero _)
      | succ n_3 ih_3 =>
        intro t B3 H locs ls ht h1 hn_3 hP hD hS hl
        refine lv_iload hx hb d_M_layBase_3 (lv_at hl 5 rfl) ?_
        refine lv_bipush (v := nI 12) hx hb d_M_layBase_5 (by decide) ?_
        refine xn_ge (tgt := 24) hx hb (by omega) (by omega) d_M_layBase_7 (by decide) (fun c7_0 => ?_) (fun c7_0 => ?_)
        · skip
          refine lv_iload_n hx hb d_M_layBase_24 rfl (lv_at hl 3 rfl) ?_
          refine xz_eq (tgt := 32) (X := vc.toInt) hx hb rfl d_M_layBase_25 (by decide) (fun c25_1 => ?_) (fun c25_1 => ?_)
          · skip
            refine lv_iload_n hx hb d_M_layBase_32 rfl (lv_at hl 2 rfl) ?_
            refine xz_eq (tgt := 40) (X := vb.toInt) hx hb rfl d_M_layBase_33 (by decide) (fun c33_2 => ?_) (fun c33_2 => ?_)
            · skip
              refine lv_iconst (v := nI 1) hx hb d_M_layBase_40 (by decide) ?_
              refine lv_istore (lv' := [(5, .int (nI 1)), (0, .ref g), (1, .int va), (2, .int vb), (3, .int vc), (4, .int ve)]) hx hb d_M_layBase_41 hl (by decide) rfl (fun ls hl => ?_)
              refine lv_iload_n hx hb d_M_layBase_43 rfl (lv_at hl 4 rfl) ?_
              refine xz_eq (tgt := 51) (X := vc.toInt) hx hb rfl d_M_layBase_44 (by decide) (fun c44_3 => ?_) (fun c44_3 => absurd c44_3 (by omega))
              refine lv_iload_n hx hb d_M_layBase_51 rfl (lv_at hl 3 rfl) ?_
              refine xz_eq (tgt := 59) (X := vb.toInt) hx hb rfl d_M_layBase_52 (by decide) (fun c52_4 => ?_) (fun c52_4 => absurd c52_4 (by omega))
              refine lv_iload_n hx hb d_M_layBase_59 rfl (lv_at hl 2 rfl) ?_
              refine lv_istore (lv' := [(6, .int va), (5, .int (nI 1)), (0, .ref g), (1, .int va), (2, .int vb), (3, .int vc), (4, .int ve)]) hx hb d_M_layBase_60 hl (by decide) rfl (fun ls hl => ?_)
              refine lv_aload_n hx hb d_M_layBase_62 rfl (lv_at hl 2 rfl) ?_
              refine va_get (D := D) (ci := 2) (v := .ref ba) (C := R_M) (T := F_M) (N := 21) hx hb hts iw_M hown hK hP 0 rfl rfl 18 (by decide) (hts _ tw_405) (fun _ h9 => h9) rfl d_M_layBase_63 ?_
              refine lv_iconst (v := nI 0) hx hb d_M_layBase_66 (by decide) ?_
              refine lv_iload hx hb d_M_layBase_67 (lv_at hl 0 rfl) ?_
              refine lv_i2l (v := lI va.toInt) hx hb d_M_layBase_69 rfl ?_
              refine xl_ast hx hb hK hP hD hS 1 0 rfl rfl (k := 0) (by omega) (by first | decide | omega) d_M_layBase_70 (fun H locs hP hD hS => ?_)
              have hP : va_P D vwC [(g, .inr (2, [.int cd, .int (nI d), .ref mm, .int ik, .ref kf, .ref tb, .int rw, .ref wk, .int ab, .int be, .ref pl, .ref sp, .int a0, .int a1, .int b0, .int b1, .ref po, .ref to, .ref ba, .ref li, .int lm])), (ba, LA cJ 12 (upZ B3 0 va.toInt))] H := hP
              have hD : va_D A [(g, .inr (2, [.int cd, .int (nI d), .ref mm, .int ik, .ref kf, .ref tb, .int rw, .ref wk, .int ab, .int be, .ref pl, .ref sp, .int a0, .int a1, .int b0, .int b1, .ref po, .ref to, .ref ba, .ref li, .int lm])), (ba, LA cJ 12 (upZ B3 0 va.toInt))] := hD
              refine lv_aload_n hx hb d_M_layBase_71 rfl (lv_at hl 2 rfl) ?_
              refine va_get (D := D) (ci := 2) (v := .ref ba) (C := R_M) (T := F_M) (N := 21) hx hb hts iw_M hown hK hP 0 rfl rfl 18 (by decide) (hts _ tw_405) (fun _ h9 => h9) rfl d_M_layBase_72 ?_
              refine lv_iload hx hb d_M_layBase_75 (lv_at hl 1 rfl) ?_
              refine lv_iload hx hb d_M_layBase_77 (lv_at hl 6 rfl) ?_
              refine lv_i2l (v := lI ve.toInt) hx hb d_M_layBase_79 rfl ?_
              refine xl_ast hx hb hK hP hD hS 1 0 rfl rfl (k := 1) (by omega) (by first | decide | omega) d_M_layBase_80 (fun H locs hP hD hS => ?_)
              have hP : va_P D vwC [(g, .inr (2, [.int cd, .int (nI d), .ref mm, .int ik, .ref kf, .ref tb, .int rw, .ref wk, .int ab, .int be, .ref pl, .ref sp, .int a0, .int a1, .int b0, .int b1, .ref po, .ref to, .ref ba, .ref li, .int lm])), (ba, LA cJ 12 (upZ (upZ B3 0 va.toInt) 1 ve.toInt))] H := hP
              have hD : va_D A [(g, .inr (2, [.int cd, .int (nI d), .ref mm, .int ik, .ref kf, .ref tb, .int rw, .ref wk, .int ab, .int be, .ref pl, .ref sp, .int a0, .int a1, .int b0, .int b1, .ref po, .ref to, .ref ba, .ref li, .int lm])), (ba, LA cJ 12 (upZ (upZ B3 0 va.toInt) 1 ve.toInt))] := hD
              refine lv_iconst (v := nI 1) hx hb d_M_layBase_81 (by decide) ?_
              refine lv_istore (lv' := [(7, .int (nI 1)), (6, .int va), (5, .int (nI 1)), (0, .ref g), (1, .int va), (2, .int vb), (3, .int vc), (4, .int ve)]) hx hb d_M_layBase_82 hl (by decide) rfl (fun ls hl => ?_)
              refine lv_iconst (v := nI 1) hx hb d_M_layBase_84 (by decide) ?_
              refine lv_istore (lv' := [(8, .int (nI 1)), (7, .int (nI 1)), (6, .int va), (5, .int (nI 1)), (0, .ref g), (1, .int va), (2, .int vb), (3, .int vc), (4, .int ve)]) hx hb d_M_layBase_85 hl (by decide) rfl (fun ls hl => ?_)
              refine lv_iload hx hb d_M_layBase_87 (lv_at hl 0 rfl) ?_
              refine lv_iconst (v := nI 3) hx hb d_M_layBase_89 (by decide) ?_
              refine xn_gt (tgt := 163) hx hb (by omega) (by omega) d_M_layBase_90 (by decide) (fun c90_5 => absurd c90_5 (by decide)) (fun c90_5 => ?_)
              refine lv_iload hx hb d_M_layBase_93 (lv_at hl 0 rfl) ?_
              refine lv_iload hx hb d_M_layBase_95 (lv_at hl 3 rfl) ?_
              refine xn_eq (tgt := 157) hx hb (by omega) (by omega) d_M_layBase_97 (by decide) (fun c97_6 => ?_) (fun c97_6 => absurd c97_6 (by decide))
              refine lv_iinc (v := nI (2)) (lv' := [(8, .int (nI 2)), (7, .int (nI 1)), (6, .int va), (5, .int (nI 1)), (0, .ref g), (1, .int va), (2, .int vb), (3, .int vc), (4, .int ve)]) hx hb d_M_layBase_157 hl (k := 0) rfl (nI_add _ _) (by decide) rfl (fun ls hl => ?_)
              refine lv_goto (tgt := 87) hx hb d_M_layBase_160 (by decide) ?_
              refine lv_iload hx hb d_M_layBase_87 (lv_at hl 0 rfl) ?_
              refine lv_iconst (v := nI 3) hx hb d_M_layBase_89 (by decide) ?_
              refine xn_gt (tgt := 163) hx hb (by omega) (by omega) d_M_layBase_90 (by decide) (fun c90_7 => absurd c90_7 (by decide)) (fun c90_7 => ?_)
              refine lv_iload hx hb d_M_layBase_93 (lv_at hl 0 rfl) ?_
              refine lv_iload hx hb d_M_layBase_95 (lv_at hl 3 rfl) ?_
              refine xn_eq (tgt := 157) hx hb (by omega) (by omega) d_M_layBase_97 (by decide) (fun c97_8 => absurd c97_8 (by decide)) (fun c97_8 => ?_)
              refine lv_aload_n hx hb d_M_layBase_100 rfl (lv_at hl 4 rfl) ?_
              refine va_get (D := D) (ci := 2) (v := .ref ba) (C := R_M) (T := F_M) (N := 21) hx hb hts iw_M hown hK hP 0 rfl rfl 18 (by decide) (hts _ tw_405) (fun _ h9 => h9) rfl d_M_layBase_101 ?_
              refine lv_iconst (v := nI 4) hx hb d_M_layBase_104 (by decide) ?_
              refine lv_iload hx hb d_M_layBase_105 (lv_at hl 1 rfl) ?_
              refine xn_mul hx hb d_M_layBase_107 ?_
              refine lv_iload hx hb d_M_layBase_108 (lv_at hl 0 rfl) ?_
              refine xn_add hx hb d_M_layBase_110 ?_
              refine lv_iload hx hb d_M_layBase_111 (lv_at hl 2 rfl) ?_
              refine lv_i2l (v := lI va.toInt) hx hb d_M_layBase_113 rfl ?_
              refine xl_ast hx hb hK hP hD hS 1 0 rfl rfl (k := (4 * 1) + 2) (by omega) (by first | decide | omega) d_M_layBase_114 (fun H locs hP hD hS => ?_)
              have hP : va_P D vwC [(g, .inr (2, [.int cd, .int (nI d), .ref mm, .int ik, .ref kf, .ref tb, .int rw, .ref wk, .int ab, .int be, .ref pl, .ref sp, .int a0, .int a1, .int b0, .int b1, .ref po, .ref to, .ref ba, .ref li, .int lm])), (ba, LA cJ 12 (upZ (upZ (upZ B3 0 va.toInt) 1 ve.toInt) ((4 * 1) + 2) va.toInt))] H := hP
              have hD : va_D A [(g, .inr (2, [.int cd, .int (nI d), .ref mm, .int ik, .ref kf, .ref tb, .int rw, .ref wk, .int ab, .int be, .ref pl, .ref sp, .int a0, .int a1, .int b0, .int b1, .ref po, .ref to, .ref ba, .ref li, .int lm])), (ba, LA cJ 12 (upZ (upZ (upZ B3 0 va.toInt) 1 ve.toInt) ((4 * 1) + 2) va.toInt))] := hD
              refine lv_aload_n hx hb d_M_layBase_115 rfl (lv_at hl 4 rfl) ?_
              refine va_get (D := D) (ci := 2) (v := .ref ba) (C := R_M) (T := F_M) (N := 21) hx hb hts iw_M hown hK hP 0 rfl rfl 18 (by decide) (hts _ tw_405) (fun _ h9 => h9) rfl d_M_layBase_116 ?_
              refine lv_iconst (v := nI 4) hx hb d_M_layBase_119 (by decide) ?_
              refine lv_iload hx hb d_M_layBase_120 (lv_at hl 1 rfl) ?_
              refine xn_mul hx hb d_M_layBase_122 ?_
              refine lv_iload hx hb d_M_layBase_123 (lv_at hl 3 rfl) ?_
              refine xn_add hx hb d_M_layBase_125 ?_
              refine lv_iload hx hb d_M_layBase_126 (lv_at hl 0 rfl) ?_
              refine lv_iconst (v := nI 1) hx hb d_M_layBase_128 (by decide) ?_
              refine xn_ne (tgt := 138) hx hb (by omega) (by omega) d_M_layBase_129 (by decide) (fun c129_9 => ?_) (fun c129_9 => absurd c129_9 (by decide))
              refine lv_iload hx hb d_M_layBase_138 (lv_at hl 0 rfl) ?_
              refine lv_iconst (v := nI 2) hx hb d_M_layBase_140 (by decide) ?_
              refine xn_ne (tgt := 150) hx hb (by omega) (by omega) d_M_layBase_141 (by decide) (fun c141_10 => absurd c141_10 (by decide)) (fun c141_10 => ?_)
              refine lv_iload_n hx hb d_M_layBase_144 rfl (lv_at hl 6 rfl) ?_
              refine lv_ineg hx hb d_M_layBase_145 ?_
              refine lv_i2l (v := lI (-vb).toInt) hx hb d_M_layBase_146 rfl ?_
              refine lv_goto (tgt := 153) hx hb d_M_layBase_147 (by decide) ?_
              refine xl_ast hx hb hK hP hD hS 1 0 rfl rfl (k := (4 * 1) + 1) (by omega) (by first | decide | omega) d_M_layBase_153 (fun H locs hP hD hS => ?_)
              have hP : va_P D vwC [(g, .inr (2, [.int cd, .int (nI d), .ref mm, .int ik, .ref kf, .ref tb, .int rw, .ref wk, .int ab, .int be, .ref pl, .ref sp, .int a0, .int a1, .int b0, .int b1, .ref po, .ref to, .ref ba, .ref li, .int lm])), (ba, LA cJ 12 (upZ (upZ (upZ (upZ B3 0 va.toInt) 1 ve.toInt) ((4 * 1) + 2) va.toInt) ((4 * 1) + 1) ((-vb).toInt)))] H := hP
              have hD : va_D A [(g, .inr (2, [.int cd, .int (nI d), .ref mm, .int ik, .ref kf, .ref tb, .int rw, .ref wk, .int ab, .int be, .ref pl, .ref sp, .int a0, .int a1, .int b0, .int b1, .ref po, .ref to, .ref ba, .ref li, .int lm])), (ba, LA cJ 12 (upZ (upZ (upZ (upZ B3 0 va.toInt) 1 ve.toInt) ((4 * 1) + 2) va.toInt) ((4 * 1) + 1) ((-vb).toInt)))] := hD
              refine lv_iinc (v := nI (2)) (lv' := [(7, .int (nI 2)), (8, .int (nI 2)), (6, .int va), (5, .int (nI 1)), (0, .ref g), (1, .int va), (2, .int vb), (3, .int vc), (4, .int ve)]) hx hb d_M_layBase_154 hl (k := 1) rfl (nI_add _ _) (by decide) rfl (fun ls hl => ?_)
              refine lv_iinc (v := nI (3)) (lv' := [(8, .int (nI 3)), (7, .int (nI 2)), (6, .int va), (5, .int (nI 1)), (0, .ref g), (1, .int va), (2, .int vb), (3, .int vc), (4, .int ve)]) hx hb d_M_layBase_157 hl (k := 1) rfl (nI_add _ _) (by decide) rfl (fun ls hl => ?_)
              refine lv_goto (tgt := 87) hx hb d_M_layBase_160 (by decide) ?_
              refine lv_iload hx hb d_M_layBase_87 (lv_at hl 0 rfl) ?_
              refine lv_iconst (v := nI 3) hx hb d_M_layBase_89 (by decide) ?_
              refine xn_gt (tgt := 163) hx hb (by omega) (by omega) d_M_layBase_90 (by decide) (fun c90_11 => absurd c90_11 (by decide)) (fun c90_11 => ?_)
              refine lv_iload hx hb d_M_layBase_93 (lv_at hl 0 rfl) ?_
              refine lv_iload hx hb d_M_layBase_95 (lv_at hl 3 rfl) ?_
              refine xn_eq (tgt := 157) hx hb (by omega) (by omega) d_M_layBase_97 (by decide) (fun c97_12 => absurd c97_12 (by decide)) (fun c97_12 => ?_)
              refine lv_aload_n hx hb d_M_layBase_100 rfl (lv_at hl 4 rfl) ?_
              refine va_get (D := D) (ci := 2) (v := .ref ba) (C := R_M) (T := F_M) (N := 21) hx hb hts iw_M hown hK hP 0 rfl rfl 18 (by decide) (hts _ tw_405) (fun _ h9 => h9) rfl d_M_layBase_101 ?_
              refine lv_iconst (v := nI 4) hx hb d_M_layBase_104 (by decide) ?_
              refine lv_iload hx hb d_M_layBase_105 (lv_at hl 1 rfl) ?_
              refine xn_mul hx hb d_M_layBase_107 ?_
              refine lv_iload hx hb d_M_layBase_108 (lv_at hl 0 rfl) ?_
              refine xn_add hx hb d_M_layBase_110 ?_
              refine lv_iload hx hb d_M_layBase_111 (lv_at hl 2 rfl) ?_
              refine lv_i2l (v := lI va.toInt) hx hb d_M_layBase_113 rfl ?_
              refine xl_ast hx hb hK hP hD hS 1 0 rfl rfl (k := (4 * 2) + 3) (by omega) (by first | decide | omega) d_M_layBase_114 (fun H locs hP hD hS => ?_)
              have hP : va_P D vwC [(g, .inr (2, [.int cd, .int (nI d), .ref mm, .int ik, .ref kf, .ref tb, .int rw, .ref wk, .int ab, .int be, .ref pl, .ref sp, .int a0, .int a1, .int b0, .int b1, .ref po, .ref to, .ref ba, .ref li, .int lm])), (ba, LA cJ 12 (upZ (upZ (upZ (upZ (upZ B3 0 va.toInt) 1 ve.toInt) ((4 * 1) + 2) va.toInt) ((4 * 1) + 1) ((-vb).toInt)) ((4 * 2) + 3) va.toInt))] H := hP
              have hD : va_D A [(g, .inr (2, [.int cd, .int (nI d), .ref mm, .int ik, .ref kf, .ref tb, .int rw, .ref wk, .int ab, .int be, .ref pl, .ref sp, .int a0, .int a1, .int b0, .int b1, .ref po, .ref to, .ref ba, .ref li, .int lm])), (ba, LA cJ 12 (upZ (upZ (upZ (upZ (upZ B3 0 va.toInt) 1 ve.toInt) ((4 * 1) + 2) va.toInt) ((4 * 1) + 1) ((-vb).toInt)) ((4 * 2) + 3) va.toInt))] := hD
              refine lv_aload_n hx hb d_M_layBase_115 rfl (lv_at hl 4 rfl) ?_
              refine va_get (D := D) (ci := 2) (v := .ref ba) (C := R_M) (T := F_M) (N := 21) hx hb hts iw_M hown hK hP 0 rfl rfl 18 (by decide) (hts _ tw_405) (fun _ h9 => h9) rfl d_M_layBase_116 ?_
              refine lv_iconst (v := nI 4) hx hb d_M_layBase_119 (by decide) ?_
              refine lv_iload hx hb d_M_layBase_120 (lv_at hl 1 rfl) ?_
              refine xn_mul hx hb d_M_layBase_122 ?_
              refine lv_iload hx hb d_M_layBase_123 (lv_at hl 3 rfl) ?_
              refine xn_add hx hb d_M_layBase_125 ?_
              refine lv_iload hx hb d_M_layBase_126 (lv_at hl 0 rfl) ?_
              refine lv_iconst (v := nI 1) hx hb d_M_layBase_128 (by decide) ?_
              refine xn_ne (tgt := 138) hx hb (by omega) (by omega) d_M_layBase_129 (by decide) (fun c129_13 => ?_) (fun c129_13 => absurd c129_13 (by decide))
              refine lv_iload hx hb d_M_layBase_138 (lv_at hl 0 rfl) ?_
              refine lv_iconst (v := nI 2) hx hb d_M_layBase_140 (by decide) ?_
              refine xn_ne (tgt := 150) hx hb (by omega) (by omega) d_M_layBase_141 (by decide) (fun c141_14 => ?_) (fun c141_14 => absurd c141_14 (by decide))
              refine lv_iload_n hx hb d_M_layBase_150 rfl (lv_at hl 7 rfl) ?_
              refine lv_ineg hx hb d_M_layBase_151 ?_
              refine lv_i2l (v := lI (-vc).toInt) hx hb d_M_layBase_152 rfl ?_
              refine xl_ast hx hb hK hP hD hS 1 0 rfl rfl (k := (4 * 2) + 1) (by omega) (by first | decide | omega) d_M_layBase_153 (fun H locs hP hD hS => ?_)
              have hP : va_P D vwC [(g, .inr (2, [.int cd, .int (nI d), .ref mm, .int ik, .ref kf, .ref tb, .int rw, .ref wk, .int ab, .int be, .ref pl, .ref sp, .int a0, .int a1, .int b0, .int b1, .ref po, .ref to, .ref ba, .ref li, .int lm])), (ba, LA cJ 12 (upZ (upZ (upZ (upZ (upZ (upZ B3 0 va.toInt) 1 ve.toInt) ((4 * 1) + 2) va.toInt) ((4 * 1) + 1) ((-vb).toInt)) ((4 * 2) + 3) va.toInt) ((4 * 2) + 1) ((-vc).toInt)))] H := hP
              have hD : va_D A [(g, .inr (2, [.int cd, .int (nI d), .ref mm, .int ik, .ref kf, .ref tb, .int rw, .ref wk, .int ab, .int be, .ref pl, .ref sp, .int a0, .int a1, .int b0, .int b1, .ref po, .ref to, .ref ba, .ref li, .int lm])), (ba, LA cJ 12 (upZ (upZ (upZ (upZ (upZ (upZ B3 0 va.toInt) 1 ve.toInt) ((4 * 1) + 2) va.toInt) ((4 * 1) + 1) ((-vb).toInt)) ((4 * 2) + 3) va.toInt) ((4 * 2) + 1) ((-vc).toInt)))] := hD
              refine lv_iinc (v := nI (3)) (lv' := [(7, .int (nI 3)), (8, .int (nI 3)), (6, .int va), (5, .int (nI 1)), (0, .ref g), (1, .int va), (2, .int vb), (3, .int vc), (4, .int ve)]) hx hb d_M_layBase_154 hl (k := 1) rfl (nI_add _ _) (by decide) rfl (fun ls hl => ?_)
              refine lv_iinc (v := nI (4)) (lv' := [(8, .int (nI 4)), (7, .int (nI 3)), (6, .int va), (5, .int (nI 1)), (0, .ref g), (1, .int va), (2, .int vb), (3, .int vc), (4, .int ve)]) hx hb d_M_layBase_157 hl (k := 1) rfl (nI_add _ _) (by decide) rfl (fun ls hl => ?_)
              refine lv_goto (tgt := 87) hx hb d_M_layBase_160 (by decide) ?_
              refine lv_iload hx hb d_M_layBase_87 (lv_at hl 0 rfl) ?_
              refine lv_iconst (v := nI 3) hx hb d_M_layBase_89 (by decide) ?_
              refine xn_gt (tgt := 163) hx hb (by omega) (by omega) d_M_layBase_90 (by decide) (fun c90_15 => ?_) (fun c90_15 => absurd c90_15 (by decide))
              have na := i32_neg (v := va) (by omega)
              have nb := i32_neg (v := vb) (by omega)
              have nc := i32_neg (v := vc) (by omega)
              have hz : ∀ k, k < 12 → B3 k = 0 := fun k hk => h1 k (by omega)
              rw [nb, nc] at hP hD
              have hP : va_P D vwC [(g, .inr (2, [.int cd, .int (nI d), .ref mm, .int ik, .ref kf, .ref tb, .int rw, .ref wk, .int ab, .int be, .ref pl, .ref sp, .int a0, .int a1, .int b0, .int b1, .ref po, .ref to, .ref ba, .ref li, .int lm])), (ba, LA cJ 12 (upZ (upZ (upZ (upZ (upZ (upZ B3 0 va.toInt) 1 ve.toInt) ((4 * 1) + 2) va.toInt) ((4 * 1) + 1) ((-vb.toInt))) ((4 * 2) + 3) va.toInt) ((4 * 2) + 1) ((-vc.toInt))))] H := hP
              have hD : va_D A [(g, .inr (2, [.int cd, .int (nI d), .ref mm, .int ik, .ref kf, .ref tb, .int rw, .ref wk, .int ab, .int be, .ref pl, .ref sp, .int a0, .int a1, .int b0, .int b1, .ref po, .ref to, .ref ba, .ref li, .int lm])), (ba, LA cJ 12 (upZ (upZ (upZ (upZ (upZ (upZ B3 0 va.toInt) 1 ve.toInt) ((4 * 1) + 2) va.toInt) ((4 * 1) + 1) ((-vb.toInt))) ((4 * 2) + 3) va.toInt) ((4 * 2) + 1) ((-vc.toInt))))] := hD
              exact hret H locs _ ls (upZ (upZ (upZ (upZ (upZ (upZ B3 0 va.toInt) 1 ve.toInt) ((4 * 1) + 2) va.toInt) ((4 * 1) + 1) ((-vb.toInt))) ((4 * 2) + 3) va.toInt) ((4 * 2) + 1) ((-vc.toInt))) d_M_layBase_163 (fun k hk => by rw [bs_a (show ¬ vc.toInt ≠ 0 from by omega) (show ¬ vb.toInt ≠ 0 from by omega)]; rcases (show k = 0 ∨ k = 1 ∨ k = 2 ∨ k = 3 ∨ k = 4 ∨ k = 5 ∨ k = 6 ∨ k = 7 ∨ k = 8 ∨ k = 9 ∨ k = 10 ∨ k = 11 by omega) with rfl | rfl | rfl | rfl | rfl | rfl | rfl | rfl | rfl | rfl | rfl | rfl <;> first | rfl | exact hz _ (by decide)) hP hD hS
            · skip
              refine lv_iconst (v := nI 2) hx hb d_M_layBase_36 (by decide) ?_
              refine lv_goto (tgt := 41) hx hb d_M_layBase_37 (by decide) ?_
              refine lv_istore (lv' := [(5, .int (nI 2)), (0, .ref g), (1, .int va), (2, .int vb), (3, .int vc), (4, .int ve)]) hx hb d_M_layBase_41 hl (by decide) rfl (fun ls hl => ?_)
              refine lv_iload_n hx hb d_M_layBase_43 rfl (lv_at hl 4 rfl) ?_
              refine xz_eq (tgt := 51) (X := vc.toInt) hx hb rfl d_M_layBase_44 (by decide) (fun c44_16 => ?_) (fun c44_16 => absurd c44_16 (by omega))
              refine lv_iload_n hx hb d_M_layBase_51 rfl (lv_at hl 3 rfl) ?_
              refine xz_eq (tgt := 59) (X := vb.toInt) hx hb rfl d_M_layBase_52 (by decide) (fun c52_17 => absurd c52_17 (by omega)) (fun c52_17 => ?_)
              refine lv_iload_n hx hb d_M_layBase_55 rfl (lv_at hl 3 rfl) ?_
              refine lv_goto (tgt := 60) hx hb d_M_layBase_56 (by decide) ?_
              refine lv_istore (lv' := [(6, .int vb), (5, .int (nI 2)), (0, .ref g), (1, .int va), (2, .int vb), (3, .int vc), (4, .int ve)]) hx hb d_M_layBase_60 hl (by decide) rfl (fun ls hl => ?_)
              refine lv_aload_n hx hb d_M_layBase_62 rfl (lv_at hl 2 rfl) ?_
              refine va_get (D := D) (ci := 2) (v := .ref ba) (C := R_M) (T := F_M) (N := 21) hx hb hts iw_M hown hK hP 0 rfl rfl 18 (by decide) (hts _ tw_405) (fun _ h9 => h9) rfl d_M_layBase_63 ?_
              refine lv_iconst (v := nI 0) hx hb d_M_layBase_66 (by decide) ?_
              refine lv_iload hx hb d_M_layBase_67 (lv_at hl 0 rfl) ?_
              refine lv_i2l (v := lI vb.toInt) hx hb d_M_layBase_69 rfl ?_
              refine xl_ast hx hb hK hP hD hS 1 0 rfl rfl (k := 0) (by omega) (by first | decide | omega) d_M_layBase_70 (fun H locs hP hD hS => ?_)
              have hP : va_P D vwC [(g, .inr (2, [.int cd, .int (nI d), .ref mm, .int ik, .ref kf, .ref tb, .int rw, .ref wk, .int ab, .int be, .ref pl, .ref sp, .int a0, .int a1, .int b0, .int b1, .ref po, .ref to, .ref ba, .ref li, .int lm])), (ba, LA cJ 12 (upZ B3 0 vb.toInt))] H := hP
              have hD : va_D A [(g, .inr (2, [.int cd, .int (nI d), .ref mm, .int ik, .ref kf, .ref tb, .int rw, .ref wk, .int ab, .int be, .ref pl, .ref sp, .int a0, .int a1, .int b0, .int b1, .ref po, .ref to, .ref ba, .ref li, .int lm])), (ba, LA cJ 12 (upZ B3 0 vb.toInt))] := hD
              refine lv_aload_n hx hb d_M_layBase_71 rfl (lv_at hl 2 rfl) ?_
              refine va_get (D := D) (ci := 2) (v := .ref ba) (C := R_M) (T := F_M) (N := 21) hx hb hts iw_M hown hK hP 0 rfl rfl 18 (by decide) (hts _ tw_405) (fun _ h9 => h9) rfl d_M_layBase_72 ?_
              refine lv_iload hx hb d_M_layBase_75 (lv_at hl 1 rfl) ?_
              refine lv_iload hx hb d_M_layBase_77 (lv_at hl 6 rfl) ?_
              refine lv_i2l (v := lI ve.toInt) hx hb d_M_layBase_79 rfl ?_
              refine xl_ast hx hb hK hP hD hS 1 0 rfl rfl (k := 2) (by omega) (by first | decide | omega) d_M_layBase_80 (fun H locs hP hD hS => ?_)
              have hP : va_P D vwC [(g, .inr (2, [.int cd, .int (nI d), .ref mm, .int ik, .ref kf, .ref tb, .int rw, .ref wk, .int ab, .int be, .ref pl, .ref sp, .int a0, .int a1, .int b0, .int b1, .ref po, .ref to, .ref ba, .ref li, .int lm])), (ba, LA cJ 12 (upZ (upZ B3 0 vb.toInt) 2 ve.toInt))] H := hP
              have hD : va_D A [(g, .inr (2, [.int cd, .int (nI d), .ref mm, .int ik, .ref kf, .ref tb, .int rw, .ref wk, .int ab, .int be, .ref pl, .ref sp, .int a0, .int a1, .int b0, .int b1, .ref po, .ref to, .ref ba, .ref li, .int lm])), (ba, LA cJ 12 (upZ (upZ B3 0 vb.toInt) 2 ve.toInt))] := hD
              refine lv_iconst (v := nI 1) hx hb d_M_layBase_81 (by decide) ?_
              refine lv_istore (lv' := [(7, .int (nI 1)), (6, .int vb), (5, .int (nI 2)), (0, .ref g), (1, .int va), (2, .int vb), (3, .int vc), (4, .int ve)]) hx hb d_M_layBase_82 hl (by decide) rfl (fun ls hl => ?_)
              refine lv_iconst (v := nI 1) hx hb d_M_layBase_84 (by decide) ?_
              refine lv_istore (lv' := [(8, .int (nI 1)), (7, .int (nI 1)), (6, .int vb), (5, .int (nI 2)), (0, .ref g), (1, .int va), (2, .int vb), (3, .int vc), (4, .int ve)]) hx hb d_M_layBase_85 hl (by decide) rfl (fun ls hl => ?_)
              refine lv_iload hx hb d_M_layBase_87 (lv_at hl 0 rfl) ?_
              refine lv_iconst (v := nI 3) hx hb d_M_layBase_89 (by decide) ?_
              refine xn_gt (tgt := 163) hx hb (by omega) (by omega) d_M_layBase_90 (by decide) (fun c90_18 => absurd c90_18 (by decide)) (fun c90_18 => ?_)
              refine lv_iload hx hb d_M_layBase_93 (lv_at hl 0 rfl) ?_
              refine lv_iload hx hb d_M_layBase_95 (lv_at hl 3 rfl) ?_
              refine xn_eq (tgt := 157) hx hb (by omega) (by omega) d_M_layBase_97 (by decide) (fun c97_19 => absurd c97_19 (by decide)) (fun c97_19 => ?_)
              refine lv_aload_n hx hb d_M_layBase_100 rfl (lv_at hl 4 rfl) ?_
              refine va_get (D := D) (ci := 2) (v := .ref ba) (C := R_M) (T := F_M) (N := 21) hx hb hts iw_M hown hK hP 0 rfl rfl 18 (by decide) (hts _ tw_405) (fun _ h9 => h9) rfl d_M_layBase_101 ?_
              refine lv_iconst (v := nI 4) hx hb d_M_layBase_104 (by decide) ?_
              refine lv_iload hx hb d_M_layBase_105 (lv_at hl 1 rfl) ?_
              refine xn_mul hx hb d_M_layBase_107 ?_
              refine lv_iload hx hb d_M_layBase_108 (lv_at hl 0 rfl) ?_
              refine xn_add hx hb d_M_layBase_110 ?_
              refine lv_iload hx hb d_M_layBase_111 (lv_at hl 2 rfl) ?_
              refine lv_i2l (v := lI vb.toInt) hx hb d_M_layBase_113 rfl ?_
              refine xl_ast hx hb hK hP hD hS 1 0 rfl rfl (k := (4 * 1) + 1) (by omega) (by first | decide | omega) d_M_layBase_114 (fun H locs hP hD hS => ?_)
              have hP : va_P D vwC [(g, .inr (2, [.int cd, .int (nI d), .ref mm, .int ik, .ref kf, .ref tb, .int rw, .ref wk, .int ab, .int be, .ref pl, .ref sp, .int a0, .int a1, .int b0, .int b1, .ref po, .ref to, .ref ba, .ref li, .int lm])), (ba, LA cJ 12 (upZ (upZ (upZ B3 0 vb.toInt) 2 ve.toInt) ((4 * 1) + 1) vb.toInt))] H := hP
              have hD : va_D A [(g, .inr (2, [.int cd, .int (nI d), .ref mm, .int ik, .ref kf, .ref tb, .int rw, .ref wk, .int ab, .int be, .ref pl, .ref sp, .int a0, .int a1, .int b0, .int b1, .ref po, .ref to, .ref ba, .ref li, .int lm])), (ba, LA cJ 12 (upZ (upZ (upZ B3 0 vb.toInt) 2 ve.toInt) ((4 * 1) + 1) vb.toInt))] := hD
              refine lv_aload_n hx hb d_M_layBase_115 rfl (lv_at hl 4 rfl) ?_
              refine va_get (D := D) (ci := 2) (v := .ref ba) (C := R_M) (T := F_M) (N := 21) hx hb hts iw_M hown hK hP 0 rfl rfl 18 (by decide) (hts _ tw_405) (fun _ h9 => h9) rfl d_M_layBase_116 ?_
              refine lv_iconst (v := nI 4) hx hb d_M_layBase_119 (by decide) ?_
              refine lv_iload hx hb d_M_layBase_120 (lv_at hl 1 rfl) ?_
              refine xn_mul hx hb d_M_layBase_122 ?_
              refine lv_iload hx hb d_M_layBase_123 (lv_at hl 3 rfl) ?_
              refine xn_add hx hb d_M_layBase_125 ?_
              refine lv_iload hx hb d_M_layBase_126 (lv_at hl 0 rfl) ?_
              refine lv_iconst (v := nI 1) hx hb d_M_layBase_128 (by decide) ?_
              refine xn_ne (tgt := 138) hx hb (by omega) (by omega) d_M_layBase_129 (by decide) (fun c129_20 => absurd c129_20 (by decide)) (fun c129_20 => ?_)
              refine lv_iload_n hx hb d_M_layBase_132 rfl (lv_at hl 5 rfl) ?_
              refine lv_ineg hx hb d_M_layBase_133 ?_
              refine lv_i2l (v := lI (-va).toInt) hx hb d_M_layBase_134 rfl ?_
              refine lv_goto (tgt := 153) hx hb d_M_layBase_135 (by decide) ?_
              refine xl_ast hx hb hK hP hD hS 1 0 rfl rfl (k := (4 * 1) + 2) (by omega) (by first | decide | omega) d_M_layBase_153 (fun H locs hP hD hS => ?_)
              have hP : va_P D vwC [(g, .inr (2, [.int cd, .int (nI d), .ref mm, .int ik, .ref kf, .ref tb, .int rw, .ref wk, .int ab, .int be, .ref pl, .ref sp, .int a0, .int a1, .int b0, .int b1, .ref po, .ref to, .ref ba, .ref li, .int lm])), (ba, LA cJ 12 (upZ (upZ (upZ (upZ B3 0 vb.toInt) 2 ve.toInt) ((4 * 1) + 1) vb.toInt) ((4 * 1) + 2) ((-va).toInt)))] H := hP
              have hD : va_D A [(g, .inr (2, [.int cd, .int (nI d), .ref mm, .int ik, .ref kf, .ref tb, .int rw, .ref wk, .int ab, .int be, .ref pl, .ref sp, .int a0, .int a1, .int b0, .int b1, .ref po, .ref to, .ref ba, .ref li, .int lm])), (ba, LA cJ 12 (upZ (upZ (upZ (upZ B3 0 vb.toInt) 2 ve.toInt) ((4 * 1) + 1) vb.toInt) ((4 * 1) + 2) ((-va).toInt)))] := hD
              refine lv_iinc (v := nI (2)) (lv' := [(7, .int (nI 2)), (8, .int (nI 1)), (6, .int vb), (5, .int (nI 2)), (0, .ref g), (1, .int va), (2, .int vb), (3, .int vc), (4, .int ve)]) hx hb d_M_layBase_154 hl (k := 1) rfl (nI_add _ _) (by decide) rfl (fun ls hl => ?_)
              refine lv_iinc (v := nI (2)) (lv' := [(8, .int (nI 2)), (7, .int (nI 2)), (6, .int vb), (5, .int (nI 2)), (0, .ref g), (1, .int va), (2, .int vb), (3, .int vc), (4, .int ve)]) hx hb d_M_layBase_157 hl (k := 1) rfl (nI_add _ _) (by decide) rfl (fun ls hl => ?_)
              refine lv_goto (tgt := 87) hx hb d_M_layBase_160 (by decide) ?_
              refine lv_iload hx hb d_M_layBase_87 (lv_at hl 0 rfl) ?_
              refine lv_iconst (v := nI 3) hx hb d_M_layBase_89 (by decide) ?_
              refine xn_gt (tgt := 163) hx hb (by omega) (by omega) d_M_layBase_90 (by decide) (fun c90_21 => absurd c90_21 (by decide)) (fun c90_21 => ?_)
              refine lv_iload hx hb d_M_layBase_93 (lv_at hl 0 rfl) ?_
              refine lv_iload hx hb d_M_layBase_95 (lv_at hl 3 rfl) ?_
              refine xn_eq (tgt := 157) hx hb (by omega) (by omega) d_M_layBase_97 (by decide) (fun c97_22 => ?_) (fun c97_22 => absurd c97_22 (by decide))
              refine lv_iinc (v := nI (3)) (lv' := [(8, .int (nI 3)), (7, .int (nI 2)), (6, .int vb), (5, .int (nI 2)), (0, .ref g), (1, .int va), (2, .int vb), (3, .int vc), (4, .int ve)]) hx hb d_M_layBase_157 hl (k := 0) rfl (nI_add _ _) (by decide) rfl (fun ls hl => ?_)
              refine lv_goto (tgt := 87) hx hb d_M_layBase_160 (by decide) ?_
              refine lv_iload hx hb d_M_layBase_87 (lv_at hl 0 rfl) ?_
              refine lv_iconst (v := nI 3) hx hb d_M_layBase_89 (by decide) ?_
              refine xn_gt (tgt := 163) hx hb (by omega) (by omega) d_M_layBase_90 (by decide) (fun c90_23 => absurd c90_23 (by decide)) (fun c90_23 => ?_)
              refine lv_iload hx hb d_M_layBase_93 (lv_at hl 0 rfl) ?_
              refine lv_iload hx hb d_M_layBase_95 (lv_at hl 3 rfl) ?_
              refine xn_eq (tgt := 157) hx hb (by omega) (by omega) d_M_layBase_97 (by decide) (fun c97_24 => absurd c97_24 (by decide)) (fun c97_24 => ?_)
              refine lv_aload_n hx hb d_M_layBase_100 rfl (lv_at hl 4 rfl) ?_
              refine va_get (D := D) (ci := 2) (v := .ref ba) (C := R_M) (T := F_M) (N := 21) hx hb hts iw_M hown hK hP 0 rfl rfl 18 (by decide) (hts _ tw_405) (fun _ h9 => h9) rfl d_M_layBase_101 ?_
              refine lv_iconst (v := nI 4) hx hb d_M_layBase_104 (by decide) ?_
              refine lv_iload hx hb d_M_layBase_105 (lv_at hl 1 rfl) ?_
              refine xn_mul hx hb d_M_layBase_107 ?_
              refine lv_iload hx hb d_M_layBase_108 (lv_at hl 0 rfl) ?_
              refine xn_add hx hb d_M_layBase_110 ?_
              refine lv_iload hx hb d_M_layBase_111 (lv_at hl 2 rfl) ?_
              refine lv_i2l (v := lI vb.toInt) hx hb d_M_layBase_113 rfl ?_
              refine xl_ast hx hb hK hP hD hS 1 0 rfl rfl (k := (4 * 2) + 3) (by omega) (by first | decide | omega) d_M_layBase_114 (fun H locs hP hD hS => ?_)
              have hP : va_P D vwC [(g, .inr (2, [.int cd, .int (nI d), .ref mm, .int ik, .ref kf, .ref tb, .int rw, .ref wk, .int ab, .int be, .ref pl, .ref sp, .int a0, .int a1, .int b0, .int b1, .ref po, .ref to, .ref ba, .ref li, .int lm])), (ba, LA cJ 12 (upZ (upZ (upZ (upZ (upZ B3 0 vb.toInt) 2 ve.toInt) ((4 * 1) + 1) vb.toInt) ((4 * 1) + 2) ((-va).toInt)) ((4 * 2) + 3) vb.toInt))] H := hP
              have hD : va_D A [(g, .inr (2, [.int cd, .int (nI d), .ref mm, .int ik, .ref kf, .ref tb, .int rw, .ref wk, .int ab, .int be, .ref pl, .ref sp, .int a0, .int a1, .int b0, .int b1, .ref po, .ref to, .ref ba, .ref li, .int lm])), (ba, LA cJ 12 (upZ (upZ (upZ (upZ (upZ B3 0 vb.toInt) 2 ve.toInt) ((4 * 1) + 1) vb.toInt) ((4 * 1) + 2) ((-va).toInt)) ((4 * 2) + 3) vb.toInt))] := hD
              refine lv_aload_n hx hb d_M_layBase_115 rfl (lv_at hl 4 rfl) ?_
              refine va_get (D := D) (ci := 2) (v := .ref ba) (C := R_M) (T := F_M) (N := 21) hx hb hts iw_M hown hK hP 0 rfl rfl 18 (by decide) (hts _ tw_405) (fun _ h9 => h9) rfl d_M_layBase_116 ?_
              refine lv_iconst (v := nI 4) hx hb d_M_layBase_119 (by decide) ?_
              refine lv_iload hx hb d_M_layBase_120 (lv_at hl 1 rfl) ?_
              refine xn_mul hx hb d_M_layBase_122 ?_
              refine lv_iload hx hb d_M_layBase_123 (lv_at hl 3 rfl) ?_
              refine xn_add hx hb d_M_layBase_125 ?_
              refine lv_iload hx hb d_M_layBase_126 (lv_at hl 0 rfl) ?_
              refine lv_iconst (v := nI 1) hx hb d_M_layBase_128 (by decide) ?_
              refine xn_ne (tgt := 138) hx hb (by omega) (by omega) d_M_layBase_129 (by decide) (fun c129_25 => ?_) (fun c129_25 => absurd c129_25 (by decide))
              refine lv_iload hx hb d_M_layBase_138 (lv_at hl 0 rfl) ?_
              refine lv_iconst (v := nI 2) hx hb d_M_layBase_140 (by decide) ?_
              refine xn_ne (tgt := 150) hx hb (by omega) (by omega) d_M_layBase_141 (by decide) (fun c141_26 => ?_) (fun c141_26 => absurd c141_26 (by decide))
              refine lv_iload_n hx hb d_M_layBase_150 rfl (lv_at hl 7 rfl) ?_
              refine lv_ineg hx hb d_M_layBase_151 ?_
              refine lv_i2l (v := lI (-vc).toInt) hx hb d_M_layBase_152 rfl ?_
              refine xl_ast hx hb hK hP hD hS 1 0 rfl rfl (k := (4 * 2) + 2) (by omega) (by first | decide | omega) d_M_layBase_153 (fun H locs hP hD hS => ?_)
              have hP : va_P D vwC [(g, .inr (2, [.int cd, .int (nI d), .ref mm, .int ik, .ref kf, .ref tb, .int rw, .ref wk, .int ab, .int be, .ref pl, .ref sp, .int a0, .int a1, .int b0, .int b1, .ref po, .ref to, .ref ba, .ref li, .int lm])), (ba, LA cJ 12 (upZ (upZ (upZ (upZ (upZ (upZ B3 0 vb.toInt) 2 ve.toInt) ((4 * 1) + 1) vb.toInt) ((4 * 1) + 2) ((-va).toInt)) ((4 * 2) + 3) vb.toInt) ((4 * 2) + 2) ((-vc).toInt)))] H := hP
              have hD : va_D A [(g, .inr (2, [.int cd, .int (nI d), .ref mm, .int ik, .ref kf, .ref tb, .int rw, .ref wk, .int ab, .int be, .ref pl, .ref sp, .int a0, .int a1, .int b0, .int b1, .ref po, .ref to, .ref ba, .ref li, .int lm])), (ba, LA cJ 12 (upZ (upZ (upZ (upZ (upZ (upZ B3 0 vb.toInt) 2 ve.toInt) ((4 * 1) + 1) vb.toInt) ((4 * 1) + 2) ((-va).toInt)) ((4 * 2) + 3) vb.toInt) ((4 * 2) + 2) ((-vc).toInt)))] := hD
              refine lv_iinc (v := nI (3)) (lv' := [(7, .int (nI 3)), (8, .int (nI 3)), (6, .int vb), (5, .int (nI 2)), (0, .ref g), (1, .int va), (2, .int vb), (3, .int vc), (4, .int ve)]) hx hb d_M_layBase_154 hl (k := 1) rfl (nI_add _ _) (by decide) rfl (fun ls hl => ?_)
              refine lv_iinc (v := nI (4)) (lv' := [(8, .int (nI 4)), (7, .int (nI 3)), (6, .int vb), (5, .int (nI 2)), (0, .ref g), (1, .int va), (2, .int vb), (3, .int vc), (4, .int ve)]) hx hb d_M_layBase_157 hl (k := 1) rfl (nI_add _ _) (by decide) rfl (fun ls hl => ?_)
              refine lv_goto (tgt := 87) hx hb d_M_layBase_160 (by decide) ?_
              refine lv_iload hx hb d_M_layBase_87 (lv_at hl 0 rfl) ?_
              refine lv_iconst (v := nI 3) hx hb d_M_layBase_89 (by decide) ?_
              refine xn_gt (tgt := 163) hx hb (by omega) (by omega) d_M_layBase_90 (by decide) (fun c90_27 => ?_) (fun c90_27 => absurd c90_27 (by decide))
              have na := i32_neg (v := va) (by omega)
              have nb := i32_neg (v := vb) (by omega)
              have nc := i32_neg (v := vc) (by omega)
              have hz : ∀ k, k < 12 → B3 k = 0 := fun k hk => h1 k (by omega)
              rw [na, nc] at hP hD
              have hP : va_P D vwC [(g, .inr (2, [.int cd, .int (nI d), .ref mm, .int ik, .ref kf, .ref tb, .int rw, .ref wk, .int ab, .int be, .ref pl, .ref sp, .int a0, .int a1, .int b0, .int b1, .ref po, .ref to, .ref ba, .ref li, .int lm])), (ba, LA cJ 12 (upZ (upZ (upZ (upZ (upZ (upZ B3 0 vb.toInt) 2 ve.toInt) ((4 * 1) + 1) vb.toInt) ((4 * 1) + 2) ((-va.toInt))) ((4 * 2) + 3) vb.toInt) ((4 * 2) + 2) ((-vc.toInt))))] H := hP
              have hD : va_D A [(g, .inr (2, [.int cd, .int (nI d), .ref mm, .int ik, .ref kf, .ref tb, .int rw, .ref wk, .int ab, .int be, .ref pl, .ref sp, .int a0, .int a1, .int b0, .int b1, .ref po, .ref to, .ref ba, .ref li, .int lm])), (ba, LA cJ 12 (upZ (upZ (upZ (upZ (upZ (upZ B3 0 vb.toInt) 2 ve.toInt) ((4 * 1) + 1) vb.toInt) ((4 * 1) + 2) ((-va.toInt))) ((4 * 2) + 3) vb.toInt) ((4 * 2) + 2) ((-vc.toInt))))] := hD
              exact hret H locs _ ls (upZ (upZ (upZ (upZ (upZ (upZ B3 0 vb.toInt) 2 ve.toInt) ((4 * 1) + 1) vb.toInt) ((4 * 1) + 2) ((-va.toInt))) ((4 * 2) + 3) vb.toInt) ((4 * 2) + 2) ((-vc.toInt))) d_M_layBase_163 (fun k hk => by rw [bs_b (show ¬ vc.toInt ≠ 0 from by omega) (show vb.toInt ≠ 0 from by omega)]; rcases (show k = 0 ∨ k = 1 ∨ k = 2 ∨ k = 3 ∨ k = 4 ∨ k = 5 ∨ k = 6 ∨ k = 7 ∨ k = 8 ∨ k = 9 ∨ k = 10 ∨ k = 11 by omega) with rfl | rfl | rfl | rfl | rfl | rfl | rfl | rfl | rfl | rfl | rfl | rfl <;> first | rfl | exact hz _ (by decide)) hP hD hS
          · skip
            refine lv_iconst (v := nI 3) hx hb d_M_layBase_28 (by decide) ?_
            refine lv_goto (tgt := 41) hx hb d_M_layBase_29 (by decide) ?_
            refine lv_istore (lv' := [(5, .int (nI 3)), (0, .ref g), (1, .int va), (2, .int vb), (3, .int vc), (4, .int ve)]) hx hb d_M_layBase_41 hl (by decide) rfl (fun ls hl => ?_)
            refine lv_iload_n hx hb d_M_layBase_43 rfl (lv_at hl 4 rfl) ?_
            refine xz_eq (tgt := 51) (X := vc.toInt) hx hb rfl d_M_layBase_44 (by decide) (fun c44_28 => absurd c44_28 (by omega)) (fun c44_28 => ?_)
            refine lv_iload_n hx hb d_M_layBase_47 rfl (lv_at hl 4 rfl) ?_
            refine lv_goto (tgt := 60) hx hb d_M_layBase_48 (by decide) ?_
            refine lv_istore (lv' := [(6, .int vc), (5, .int (nI 3)), (0, .ref g), (1, .int va), (2, .int vb), (3, .int vc), (4, .int ve)]) hx hb d_M_layBase_60 hl (by decide) rfl (fun ls hl => ?_)
            refine lv_aload_n hx hb d_M_layBase_62 rfl (lv_at hl 2 rfl) ?_
            refine va_get (D := D) (ci := 2) (v := .ref ba) (C := R_M) (T := F_M) (N := 21) hx hb hts iw_M hown hK hP 0 rfl rfl 18 (by decide) (hts _ tw_405) (fun _ h9 => h9) rfl d_M_layBase_63 ?_
            refine lv_iconst (v := nI 0) hx hb d_M_layBase_66 (by decide) ?_
            refine lv_iload hx hb d_M_layBase_67 (lv_at hl 0 rfl) ?_
            refine lv_i2l (v := lI vc.toInt) hx hb d_M_layBase_69 rfl ?_
            refine xl_ast hx hb hK hP hD hS 1 0 rfl rfl (k := 0) (by omega) (by first | decide | omega) d_M_layBase_70 (fun H locs hP hD hS => ?_)
            have hP : va_P D vwC [(g, .inr (2, [.int cd, .int (nI d), .ref mm, .int ik, .ref kf, .ref tb, .int rw, .ref wk, .int ab, .int be, .ref pl, .ref sp, .int a0, .int a1, .int b0, .int b1, .ref po, .ref to, .ref ba, .ref li, .int lm])), (ba, LA cJ 12 (upZ B3 0 vc.toInt))] H := hP
            have hD : va_D A [(g, .inr (2, [.int cd, .int (nI d), .ref mm, .int ik, .ref kf, .ref tb, .int rw, .ref wk, .int ab, .int be, .ref pl, .ref sp, .int a0, .int a1, .int b0, .int b1, .ref po, .ref to, .ref ba, .ref li, .int lm])), (ba, LA cJ 12 (upZ B3 0 vc.toInt))] := hD
            refine lv_aload_n hx hb d_M_layBase_71 rfl (lv_at hl 2 rfl) ?_
            refine va_get (D := D) (ci := 2) (v := .ref ba) (C := R_M) (T := F_M) (N := 21) hx hb hts iw_M hown hK hP 0 rfl rfl 18 (by decide) (hts _ tw_405) (fun _ h9 => h9) rfl d_M_layBase_72 ?_
            refine lv_iload hx hb d_M_layBase_75 (lv_at hl 1 rfl) ?_
            refine lv_iload hx hb d_M_layBase_77 (lv_at hl 6 rfl) ?_
            refine lv_i2l (v := lI ve.toInt) hx hb d_M_layBase_79 rfl ?_
            refine xl_ast hx hb hK hP hD hS 1 0 rfl rfl (k := 3) (by omega) (by first | decide | omega) d_M_layBase_80 (fun H locs hP hD hS => ?_)
            have hP : va_P D vwC [(g, .inr (2, [.int cd, .int (nI d), .ref mm, .int ik, .ref kf, .ref tb, .int rw, .ref wk, .int ab, .int be, .ref pl, .ref sp, .int a0, .int a1, .int b0, .int b1, .ref po, .ref to, .ref ba, .ref li, .int lm])), (ba, LA cJ 12 (upZ (upZ B3 0 vc.toInt) 3 ve.toInt))] H := hP
            have hD : va_D A [(g, .inr (2, [.int cd, .int (nI d), .ref mm, .int ik, .ref kf, .ref tb, .int rw, .ref wk, .int ab, .int be, .ref pl, .ref sp, .int a0, .int a1, .int b0, .int b1, .ref po, .ref to, .ref ba, .ref li, .int lm])), (ba, LA cJ 12 (upZ (upZ B3 0 vc.toInt) 3 ve.toInt))] := hD
            refine lv_iconst (v := nI 1) hx hb d_M_layBase_81 (by decide) ?_
            refine lv_istore (lv' := [(7, .int (nI 1)), (6, .int vc), (5, .int (nI 3)), (0, .ref g), (1, .int va), (2, .int vb), (3, .int vc), (4, .int ve)]) hx hb d_M_layBase_82 hl (by decide) rfl (fun ls hl => ?_)
            refine lv_iconst (v := nI 1) hx hb d_M_layBase_84 (by decide) ?_
            refine lv_istore (lv' := [(8, .int (nI 1)), (7, .int (nI 1)), (6, .int vc), (5, .int (nI 3)), (0, .ref g), (1, .int va), (2, .int vb), (3, .int vc), (4, .int ve)]) hx hb d_M_layBase_85 hl (by decide) rfl (fun ls hl => ?_)
            refine lv_iload hx hb d_M_layBase_87 (lv_at hl 0 rfl) ?_
            refine lv_iconst (v := nI 3) hx hb d_M_layBase_89 (by decide) ?_
            refine xn_gt (tgt := 163) hx hb (by omega) (by omega) d_M_layBase_90 (by decide) (fun c90_29 => absurd c90_29 (by decide)) (fun c90_29 => ?_)
            refine lv_iload hx hb d_M_layBase_93 (lv_at hl 0 rfl) ?_
            refine lv_iload hx hb d_M_layBase_95 (lv_at hl 3 rfl) ?_
            refine xn_eq (tgt := 157) hx hb (by omega) (by omega) d_M_layBase_97 (by decide) (fun c97_30 => absurd c97_30 (by decide)) (fun c97_30 => ?_)
            refine lv_aload_n hx hb d_M_layBase_100 rfl (lv_at hl 4 rfl) ?_
            refine va_get (D := D) (ci := 2) (v := .ref ba) (C := R_M) (T := F_M) (N := 21) hx hb hts iw_M hown hK hP 0 rfl rfl 18 (by decide) (hts _ tw_405) (fun _ h9 => h9) rfl d_M_layBase_101 ?_
            refine lv_iconst (v := nI 4) hx hb d_M_layBase_104 (by decide) ?_
            refine lv_iload hx hb d_M_layBase_105 (lv_at hl 1 rfl) ?_
            refine xn_mul hx hb d_M_layBase_107 ?_
            refine lv_iload hx hb d_M_layBase_108 (lv_at hl 0 rfl) ?_
            refine xn_add hx hb d_M_layBase_110 ?_
            refine lv_iload hx hb d_M_layBase_111 (lv_at hl 2 rfl) ?_
            refine lv_i2l (v := lI vc.toInt) hx hb d_M_layBase_113 rfl ?_
            refine xl_ast hx hb hK hP hD hS 1 0 rfl rfl (k := (4 * 1) + 1) (by omega) (by first | decide | omega) d_M_layBase_114 (fun H locs hP hD hS => ?_)
            have hP : va_P D vwC [(g, .inr (2, [.int cd, .int (nI d), .ref mm, .int ik, .ref kf, .ref tb, .int rw, .ref wk, .int ab, .int be, .ref pl, .ref sp, .int a0, .int a1, .int b0, .int b1, .ref po, .ref to, .ref ba, .ref li, .int lm])), (ba, LA cJ 12 (upZ (upZ (upZ B3 0 vc.toInt) 3 ve.toInt) ((4 * 1) + 1) vc.toInt))] H := hP
            have hD : va_D A [(g, .inr (2, [.int cd, .int (nI d), .ref mm, .int ik, .ref kf, .ref tb, .int rw, .ref wk, .int ab, .int be, .ref pl, .ref sp, .int a0, .int a1, .int b0, .int b1, .ref po, .ref to, .ref ba, .ref li, .int lm])), (ba, LA cJ 12 (upZ (upZ (upZ B3 0 vc.toInt) 3 ve.toInt) ((4 * 1) + 1) vc.toInt))] := hD
            refine lv_aload_n hx hb d_M_layBase_115 rfl (lv_at hl 4 rfl) ?_
            refine va_get (D := D) (ci := 2) (v := .ref ba) (C := R_M) (T := F_M) (N := 21) hx hb hts iw_M hown hK hP 0 rfl rfl 18 (by decide) (hts _ tw_405) (fun _ h9 => h9) rfl d_M_layBase_116 ?_
            refine lv_iconst (v := nI 4) hx hb d_M_layBase_119 (by decide) ?_
            refine lv_iload hx hb d_M_layBase_120 (lv_at hl 1 rfl) ?_
            refine xn_mul hx hb d_M_layBase_122 ?_
            refine lv_iload hx hb d_M_layBase_123 (lv_at hl 3 rfl) ?_
            refine xn_add hx hb d_M_layBase_125 ?_
            refine lv_iload hx hb d_M_layBase_126 (lv_at hl 0 rfl) ?_
            refine lv_iconst (v := nI 1) hx hb d_M_layBase_128 (by decide) ?_
            refine xn_ne (tgt := 138) hx hb (by omega) (by omega) d_M_layBase_129 (by decide) (fun c129_31 => absurd c129_31 (by decide)) (fun c129_31 => ?_)
            refine lv_iload_n hx hb d_M_layBase_132 rfl (lv_at hl 5 rfl) ?_
            refine lv_ineg hx hb d_M_layBase_133 ?_
            refine lv_i2l (v := lI (-va).toInt) hx hb d_M_layBase_134 rfl ?_
            refine lv_goto (tgt := 153) hx hb d_M_layBase_135 (by decide) ?_
            refine xl_ast hx hb hK hP hD hS 1 0 rfl rfl (k := (4 * 1) + 3) (by omega) (by first | decide | omega) d_M_layBase_153 (fun H locs hP hD hS => ?_)
            have hP : va_P D vwC [(g, .inr (2, [.int cd, .int (nI d), .ref mm, .int ik, .ref kf, .ref tb, .int rw, .ref wk, .int ab, .int be, .ref pl, .ref sp, .int a0, .int a1, .int b0, .int b1, .ref po, .ref to, .ref ba, .ref li, .int lm])), (ba, LA cJ 12 (upZ (upZ (upZ (upZ B3 0 vc.toInt) 3 ve.toInt) ((4 * 1) + 1) vc.toInt) ((4 * 1) + 3) ((-va).toInt)))] H := hP
            have hD : va_D A [(g, .inr (2, [.int cd, .int (nI d), .ref mm, .int ik, .ref kf, .ref tb, .int rw, .ref wk, .int ab, .int be, .ref pl, .ref sp, .int a0, .int a1, .int b0, .int b1, .ref po, .ref to, .ref ba, .ref li, .int lm])), (ba, LA cJ 12 (upZ (upZ (upZ (upZ B3 0 vc.toInt) 3 ve.toInt) ((4 * 1) + 1) vc.toInt) ((4 * 1) + 3) ((-va).toInt)))] := hD
            refine lv_iinc (v := nI (2)) (lv' := [(7, .int (nI 2)), (8, .int (nI 1)), (6, .int vc), (5, .int (nI 3)), (0, .ref g), (1, .int va), (2, .int vb), (3, .int vc), (4, .int ve)]) hx hb d_M_layBase_154 hl (k := 1) rfl (nI_add _ _) (by decide) rfl (fun ls hl => ?_)
            refine lv_iinc (v := nI (2)) (lv' := [(8, .int (nI 2)), (7, .int (nI 2)), (6, .int vc), (5, .int (nI 3)), (0, .ref g), (1, .int va), (2, .int vb), (3, .int vc), (4, .int ve)]) hx hb d_M_layBase_157 hl (k := 1) rfl (nI_add _ _) (by decide) rfl (fun ls hl => ?_)
            refine lv_goto (tgt := 87) hx hb d_M_layBase_160 (by decide) ?_
            refine lv_iload hx hb d_M_layBase_87 (lv_at hl 0 rfl) ?_
            refine lv_iconst (v := nI 3) hx hb d_M_layBase_89 (by decide) ?_
            refine xn_gt (tgt := 163) hx hb (by omega) (by omega) d_M_layBase_90 (by decide) (fun c90_32 => absurd c90_32 (by decide)) (fun c90_32 => ?_)
            refine lv_iload hx hb d_M_layBase_93 (lv_at hl 0 rfl) ?_
            refine lv_iload hx hb d_M_layBase_95 (lv_at hl 3 rfl) ?_
            refine xn_eq (tgt := 157) hx hb (by omega) (by omega) d_M_layBase_97 (by decide) (fun c97_33 => absurd c97_33 (by decide)) (fun c97_33 => ?_)
            refine lv_aload_n hx hb d_M_layBase_100 rfl (lv_at hl 4 rfl) ?_
            refine va_get (D := D) (ci := 2) (v := .ref ba) (C := R_M) (T := F_M) (N := 21) hx hb hts iw_M hown hK hP 0 rfl rfl 18 (by decide) (hts _ tw_405) (fun _ h9 => h9) rfl d_M_layBase_101 ?_
            refine lv_iconst (v := nI 4) hx hb d_M_layBase_104 (by decide) ?_
            refine lv_iload hx hb d_M_layBase_105 (lv_at hl 1 rfl) ?_
            refine xn_mul hx hb d_M_layBase_107 ?_
            refine lv_iload hx hb d_M_layBase_108 (lv_at hl 0 rfl) ?_
            refine xn_add hx hb d_M_layBase_110 ?_
            refine lv_iload hx hb d_M_layBase_111 (lv_at hl 2 rfl) ?_
            refine lv_i2l (v := lI vc.toInt) hx hb d_M_layBase_113 rfl ?_
            refine xl_ast hx hb hK hP hD hS 1 0 rfl rfl (k := (4 * 2) + 2) (by omega) (by first | decide | omega) d_M_layBase_114 (fun H locs hP hD hS => ?_)
            have hP : va_P D vwC [(g, .inr (2, [.int cd, .int (nI d), .ref mm, .int ik, .ref kf, .ref tb, .int rw, .ref wk, .int ab, .int be, .ref pl, .ref sp, .int a0, .int a1, .int b0, .int b1, .ref po, .ref to, .ref ba, .ref li, .int lm])), (ba, LA cJ 12 (upZ (upZ (upZ (upZ (upZ B3 0 vc.toInt) 3 ve.toInt) ((4 * 1) + 1) vc.toInt) ((4 * 1) + 3) ((-va).toInt)) ((4 * 2) + 2) vc.toInt))] H := hP
            have hD : va_D A [(g, .inr (2, [.int cd, .int (nI d), .ref mm, .int ik, .ref kf, .ref tb, .int rw, .ref wk, .int ab, .int be, .ref pl, .ref sp, .int a0, .int a1, .int b0, .int b1, .ref po, .ref to, .ref ba, .ref li, .int lm])), (ba, LA cJ 12 (upZ (upZ (upZ (upZ (upZ B3 0 vc.toInt) 3 ve.toInt) ((4 * 1) + 1) vc.toInt) ((4 * 1) + 3) ((-va).toInt)) ((4 * 2) + 2) vc.toInt))] := hD
            refine lv_aload_n hx hb d_M_layBase_115 rfl (lv_at hl 4 rfl) ?_
            refine va_get (D := D) (ci := 2) (v := .ref ba) (C := R_M) (T := F_M) (N := 21) hx hb hts iw_M hown hK hP 0 rfl rfl 18 (by decide) (hts _ tw_405) (fun _ h9 => h9) rfl d_M_layBase_116 ?_
            refine lv_iconst (v := nI 4) hx hb d_M_layBase_119 (by decide) ?_
            refine lv_iload hx hb d_M_layBase_120 (lv_at hl 1 rfl) ?_
            refine xn_mul hx hb d_M_layBase_122 ?_
            refine lv_iload hx hb d_M_layBase_123 (lv_at hl 3 rfl) ?_
            refine xn_add hx hb d_M_layBase_125 ?_
            refine lv_iload hx hb d_M_layBase_126 (lv_at hl 0 rfl) ?_
            refine lv_iconst (v := nI 1) hx hb d_M_layBase_128 (by decide) ?_
            refine xn_ne (tgt := 138) hx hb (by omega) (by omega) d_M_layBase_129 (by decide) (fun c129_34 => ?_) (fun c129_34 => absurd c129_34 (by decide))
            refine lv_iload hx hb d_M_layBase_138 (lv_at hl 0 rfl) ?_
            refine lv_iconst (v := nI 2) hx hb d_M_layBase_140 (by decide) ?_
            refine xn_ne (tgt := 150) hx hb (by omega) (by omega) d_M_layBase_141 (by decide) (fun c141_35 => absurd c141_35 (by decide)) (fun c141_35 => ?_)
            refine lv_iload_n hx hb d_M_layBase_144 rfl (lv_at hl 6 rfl) ?_
            refine lv_ineg hx hb d_M_layBase_145 ?_
            refine lv_i2l (v := lI (-vb).toInt) hx hb d_M_layBase_146 rfl ?_
            refine lv_goto (tgt := 153) hx hb d_M_layBase_147 (by decide) ?_
            refine xl_ast hx hb hK hP hD hS 1 0 rfl rfl (k := (4 * 2) + 3) (by omega) (by first | decide | omega) d_M_layBase_153 (fun H locs hP hD hS => ?_)
            have hP : va_P D vwC [(g, .inr (2, [.int cd, .int (nI d), .ref mm, .int ik, .ref kf, .ref tb, .int rw, .ref wk, .int ab, .int be, .ref pl, .ref sp, .int a0, .int a1, .int b0, .int b1, .ref po, .ref to, .ref ba, .ref li, .int lm])), (ba, LA cJ 12 (upZ (upZ (upZ (upZ (upZ (upZ B3 0 vc.toInt) 3 ve.toInt) ((4 * 1) + 1) vc.toInt) ((4 * 1) + 3) ((-va).toInt)) ((4 * 2) + 2) vc.toInt) ((4 * 2) + 3) ((-vb).toInt)))] H := hP
            have hD : va_D A [(g, .inr (2, [.int cd, .int (nI d), .ref mm, .int ik, .ref kf, .ref tb, .int rw, .ref wk, .int ab, .int be, .ref pl, .ref sp, .int a0, .int a1, .int b0, .int b1, .ref po, .ref to, .ref ba, .ref li, .int lm])), (ba, LA cJ 12 (upZ (upZ (upZ (upZ (upZ (upZ B3 0 vc.toInt) 3 ve.toInt) ((4 * 1) + 1) vc.toInt) ((4 * 1) + 3) ((-va).toInt)) ((4 * 2) + 2) vc.toInt) ((4 * 2) + 3) ((-vb).toInt)))] := hD
            refine lv_iinc (v := nI (3)) (lv' := [(7, .int (nI 3)), (8, .int (nI 2)), (6, .int vc), (5, .int (nI 3)), (0, .ref g), (1, .int va), (2, .int vb), (3, .int vc), (4, .int ve)]) hx hb d_M_layBase_154 hl (k := 1) rfl (nI_add _ _) (by decide) rfl (fun ls hl => ?_)
            refine lv_iinc (v := nI (3)) (lv' := [(8, .int (nI 3)), (7, .int (nI 3)), (6, .int vc), (5, .int (nI 3)), (0, .ref g), (1, .int va), (2, .int vb), (3, .int vc), (4, .int ve)]) hx hb d_M_layBase_157 hl (k := 1) rfl (nI_add _ _) (by decide) rfl (fun ls hl => ?_)
            refine lv_goto (tgt := 87) hx hb d_M_layBase_160 (by decide) ?_
            refine lv_iload hx hb d_M_layBase_87 (lv_at hl 0 rfl) ?_
            refine lv_iconst (v := nI 3) hx hb d_M_layBase_89 (by decide) ?_
            refine xn_gt (tgt := 163) hx hb (by omega) (by omega) d_M_layBase_90 (by decide) (fun c90_36 => absurd c90_36 (by decide)) (fun c90_36 => ?_)
            refine lv_iload hx hb d_M_layBase_93 (lv_at hl 0 rfl) ?_
            refine lv_iload hx hb d_M_layBase_95 (lv_at hl 3 rfl) ?_
            refine xn_eq (tgt := 157) hx hb (by omega) (by omega) d_M_layBase_97 (by decide) (fun c97_37 => ?_) (fun c97_37 => absurd c97_37 (by decide))
            refine lv_iinc (v := nI (4)) (lv' := [(8, .int (nI 4)), (7, .int (nI 3)), (6, .int vc), (5, .int (nI 3)), (0, .ref g), (1, .int va), (2, .int vb), (3, .int vc), (4, .int ve)]) hx hb d_M_layBase_157 hl (k := 0) rfl (nI_add _ _) (by decide) rfl (fun ls hl => ?_)
            refine lv_goto (tgt := 87) hx hb d_M_layBase_160 (by decide) ?_
            refine lv_iload hx hb d_M_layBase_87 (lv_at hl 0 rfl) ?_
            refine lv_iconst (v := nI 3) hx hb d_M_layBase_89 (by decide) ?_
            refine xn_gt (tgt := 163) hx hb (by omega) (by omega) d_M_layBase_90 (by decide) (fun c90_38 => ?_) (fun c90_38 => absurd c90_38 (by decide))
            have na := i32_neg (v := va) (by omega)
            have nb := i32_neg (v := vb) (by omega)
            have nc := i32_neg (v := vc) (by omega)
            have hz : ∀ k, k < 12 → B3 k = 0 := fun k hk => h1 k (by omega)
            rw [na, nb] at hP hD
            have hP : va_P D vwC [(g, .inr (2, [.int cd, .int (nI d), .ref mm, .int ik, .ref kf, .ref tb, .int rw, .ref wk, .int ab, .int be, .ref pl, .ref sp, .int a0, .int a1, .int b0, .int b1, .ref po, .ref to, .ref ba, .ref li, .int lm])), (ba, LA cJ 12 (upZ (upZ (upZ (upZ (upZ (upZ B3 0 vc.toInt) 3 ve.toInt) ((4 * 1) + 1) vc.toInt) ((4 * 1) + 3) ((-va.toInt))) ((4 * 2) + 2) vc.toInt) ((4 * 2) + 3) ((-vb.toInt))))] H := hP
            have hD : va_D A [(g, .inr (2, [.int cd, .int (nI d), .ref mm, .int ik, .ref kf, .ref tb, .int rw, .ref wk, .int ab, .int be, .ref pl, .ref sp, .int a0, .int a1, .int b0, .int b1, .ref po, .ref to, .ref ba, .ref li, .int lm])), (ba, LA cJ 12 (upZ (upZ (upZ (upZ (upZ (upZ B3 0 vc.toInt) 3 ve.toInt) ((4 * 1) + 1) vc.toInt) ((4 * 1) + 3) ((-va.toInt))) ((4 * 2) + 2) vc.toInt) ((4 * 2) + 3) ((-vb.toInt))))] := hD
            exact hret H locs _ ls (upZ (upZ (upZ (upZ (upZ (upZ B3 0 vc.toInt) 3 ve.toInt) ((4 * 1) + 1) vc.toInt) ((4 * 1) + 3) ((-va.toInt))) ((4 * 2) + 2) vc.toInt) ((4 * 2) + 3) ((-vb.toInt))) d_M_layBase_163 (fun k hk => by rw [bs_c (show vc.toInt ≠ 0 from by omega)]; rcases (show k = 0 ∨ k = 1 ∨ k = 2 ∨ k = 3 ∨ k = 4 ∨ k = 5 ∨ k = 6 ∨ k = 7 ∨ k = 8 ∨ k = 9 ∨ k = 10 ∨ k = 11 by omega) with rfl | rfl | rfl | rfl | rfl | rfl | rfl | rfl | rfl | rfl | rfl | rfl <;> first | rfl | exact hz _ (by decide)) hP hD hS
        · skip
          refine lv_aload_n hx hb d_M_layBase_10 rfl (lv_at hl 0 rfl) ?_
          refine va_get (D := D) (ci := 2) (v := .ref ba) (C := R_M) (T := F_M) (N := 21) hx hb hts iw_M hown hK hP 0 rfl rfl 18 (by decide) (hts _ tw_405) (fun _ h9 => h9) rfl d_M_layBase_11 ?_
          refine lv_iload hx hb d_M_layBase_14 (lv_at hl 5 rfl) ?_
          refine lv_lconst (v := lI 0) hx hb d_M_layBase_16 (by decide) ?_
          refine xl_ast hx hb hK hP hD hS 1 0 rfl rfl (k := t) (by omega) (by first | decide | omega) d_M_layBase_17 (fun H locs hP hD hS => ?_)
          have hP : va_P D vwC [(g, .inr (2, [.int cd, .int (nI d), .ref mm, .int ik, .ref kf, .ref tb, .int rw, .ref wk, .int ab, .int be, .ref pl, .ref sp, .int a0, .int a1, .int b0, .int b1, .ref po, .ref to, .ref ba, .ref li, .int lm])), (ba, LA cJ 12 (upZ B3 t 0))] H := hP
          have hD : va_D A [(g, .inr (2, [.int cd, .int (nI d), .ref mm, .int ik, .ref kf, .ref tb, .int rw, .ref wk, .int ab, .int be, .ref pl, .ref sp, .int a0, .int a1, .int b0, .int b1, .ref po, .ref to, .ref ba, .ref li, .int lm])), (ba, LA cJ 12 (upZ B3 t 0))] := hD
          refine lv_iinc (v := nI (t + 1)) (lv' := [(5, .int (nI (t + 1))), (0, .ref g), (1, .int va), (2, .int vb), (3, .int vc), (4, .int ve)]) hx hb d_M_layBase_18 hl (k := 5) rfl (nI_add _ _) (by decide) rfl (fun ls hl => ?_)
          refine lv_goto (tgt := 3) hx hb d_M_layBase_21 (by decide) ?_
          exact ih_3 (t + 1) (upZ B3 t 0) H locs ls (by omega) (fun k hk => by unfold upZ; split; rfl; exact h1 k (by omega)) (by omega) hP hD hS (lv_sub hl [1, 2, 3, 4, 5, 0] rfl)
    exact lp_3 ((12 - 0) + 1) 0 Bs H locs ls (Nat.zero_le _) (fun k h => absurd h (Nat.not_lt_zero _)) (by omega) hP hD hS (lv_sub hl [1, 2, 3, 4, 5, 0] rfl)
  rw [hH, hlc] at key; exact key

def rm_r_layCut : Room := { frames := 1, cells := 0, slots := 0, locals := 26 }
set_option maxHeartbeats 4000000 in
set_option maxRecDepth 100000 in
/-- the table of a cut -/
theorem r_layCut (l : Launch) (D : va_G) (cJ cI : ClassId) (g : Nat) (cd : Int32) (d : Nat) (ik : Int32) (rw : Int32) (ab : Int32) (be : Int32) (a0 : Int32) (a1 : Int32) (b0 : Int32) (b1 : Int32) (lm : Int32) (mm : Nat) (kf : Nat) (tb : Nat) (wk : Nat) (pl : Nat) (sp : Nat) (po : Nat) (to : Nat) (ba : Nat) (li : Nat) (Fm : Nat → Int) (Bs : Nat → Int) (T : Nat → Int) (f9 : Nat) (hf9 : f9 ≤ 1) (hF : ∀ k, k < 16 → inB (Fm k) 20) (sz : Nat) : xMv l y_M_layCut (Cond.code y_M_layCut b_M_layCut 4 none :: tW) rm_r_layCut [.ref g, .int (nI f9)] D vwC [(cJ, .long), (cI, .int)] sz [(g, .inr (2, [.int cd, .int (nI d), .ref mm, .int ik, .ref kf, .ref tb, .int rw, .ref wk, .int ab, .int be, .ref pl, .ref sp, .int a0, .int a1, .int b0, .int b1, .ref po, .ref to, .ref ba, .ref li, .int lm])), (mm, IA cI 16 Fm), (tb, LA cJ 16 T), (ba, LA cJ 12 Bs)] (fun (uo : (Nat → Int)) => ∀ a b, a < 3 - f9 → b < 3 - f9 → uo (4 * a + b) = fqN Fm Bs (a + f9) (b + f9) 4) (fun (uo : (Nat → Int)) => [(g, .inr (2, [.int cd, .int (nI d), .ref mm, .int ik, .ref kf, .ref tb, .int (nI (3 - f9)), .ref wk, .int ab, .int be, .ref pl, .ref sp, .int a0, .int a1, .int b0, .int b1, .ref po, .ref to, .ref ba, .ref li, .int lm])), (mm, IA cI 16 Fm), (tb, LA cJ 16 uo), (ba, LA cJ 12 Bs)]) 0 0 := by
  refine xov (cc := b_M_layCut) (maxL := 4) (by decide) rfl (Nat.le_of_ble_eq_true rfl) ?_
  intro p e s m args below meth c Q A hx hb hml hts hown hN hA hS hP hK hD hret ls hl
  have hl : lv_has ls 4 [(0, .ref g), (1, .int (nI f9))] := hl
  obtain ⟨H, hH⟩ : ∃ z, z = s.heap := ⟨_, rfl⟩
  obtain ⟨locs, hlc⟩ : ∃ z : List Loc, z = [] := ⟨_, rfl⟩
  rw [← hH] at hP
  have hS : va_S A s.heap H locs := by rw [hH, hlc]; exact hS
  have key : W p l e rm_r_layCut s m args below meth c H locs 0 0 Q (F0 m 0 ls []) := by
    refine lv_aload_n hx hb d_M_layCut_0 rfl (lv_at hl 0 rfl) ?_
    refine lv_iconst (v := nI 3) hx hb d_M_layCut_1 (by decide) ?_
    refine lv_iload_n hx hb d_M_layCut_2 rfl (lv_at hl 1 rfl) ?_
    refine xn_sub hx hb (by omega) d_M_layCut_3 ?_
    refine va_put (D := D) (ci := 2) (v := .int (nI (3 - f9))) (ty := .int) (C := R_M) (T := F_M) (N := 21) hx hb hts iw_M ft_M ft_M_ok n_M hown hK hP hD hS 0 rfl rfl 6 (by decide) (hts _ tw_393) (fun _ h9 => h9) rfl (by decide +kernel) rfl rfl (Nat.le_of_ble_eq_true rfl) d_M_layCut_4 (fun H locs hP hD hS => ?_)
    have hP : va_P D vwC [(g, .inr (2, [.int cd, .int (nI d), .ref mm, .int ik, .ref kf, .ref tb, .int (nI (3 - f9)), .ref wk, .int ab, .int be, .ref pl, .ref sp, .int a0, .int a1, .int b0, .int b1, .ref po, .ref to, .ref ba, .ref li, .int lm])), (mm, IA cI 16 Fm), (tb, LA cJ 16 T), (ba, LA cJ 12 Bs)] H := hP
    have hD : va_D A [(g, .inr (2, [.int cd, .int (nI d), .ref mm, .int ik, .ref kf, .ref tb, .int (nI (3 - f9)), .ref wk, .int ab, .int be, .ref pl, .ref sp, .int a0, .int a1, .int b0, .int b1, .ref po, .ref to, .ref ba, .ref li, .int lm])), (mm, IA cI 16 Fm), (tb, LA cJ 16 T), (ba, LA cJ 12 Bs)] := hD
    refine lv_iconst (v := nI 0) hx hb d_M_layCut_7 (by decide) ?_
    refine lv_istore_n (lv' := [(2, .int (nI 0)), (0, .ref g), (1, .int (nI f9))]) hx hb d_M_layCut_8 rfl hl (by decide) rfl (fun ls hl => ?_)
    have lp_9 : ∀ (n_9 : Nat) (i : Nat) (T3 : Nat → Int) (H : Heap) (locs : List Loc) (ls : Array Slot), (i ≤ 3 - f9) → (∀ a b, a < i → b < 3 - f9 → T3 (4 * a + b) = fqN Fm Bs (a + f9) (b + f9) 4) → (3 - f9 - i) < n_9 → va_P D vwC [(g, .inr (2, [.int cd, .int (nI d), .ref mm, .int ik, .ref kf, .ref tb, .int (nI (3 - f9)), .ref wk, .int ab, .int be, .ref pl, .ref sp, .int a0, .int a1, .int b0, .int b1, .ref po, .ref to, .ref ba, .ref li, .int lm])), (mm, IA cI 16 Fm), (tb, LA cJ 16 T3), (ba, LA cJ 12 Bs)] H → va_D A [(g, .inr (2, [.int cd, .int (nI d), .ref mm, .int ik, .ref kf, .ref tb, .int (nI (3 - f9)), .ref wk, .int ab, .int be, .ref pl, .ref sp, .int a0, .int a1, .int b0, .int b1, .ref po, .ref to, .ref ba, .ref li, .int lm])), (mm, IA cI 16 Fm), (tb, LA cJ 16 T3), (ba, LA cJ 12 Bs)] → va_S A s.heap H locs → lv_has ls 4 [(0, .ref g), (1, .int (nI f9)), (2, .int (nI i))] → W p l e rm_r_layCut s m args below meth c H locs 0 0 Q (F0 m 9 ls []) := by
      intro n_9
      induction n_9 with
      | zero => intro i T3 H locs ls hi h1 hn_9; exact absurd hn_9 (Nat.not_lt_zero _)
      | succ n_9 ih_9 =>
        intro i T3 H locs ls hi h1 hn_9 hP hD hS hl
        refine lv_iload_n hx hb d_M_layCut_9 rfl (lv_at hl 2 rfl) ?_
        refine lv_aload_n hx hb d_M_layCut_10 rfl (lv_at hl 0 rfl) ?_
        refine va_get (D := D) (ci := 2) (v := .int (nI (3 - f9))) (C := R_M) (T := F_M) (N := 21) hx hb hts iw_M hown hK hP 0 rfl rfl 6 (by decide) (hts _ tw_393) (fun _ h9 => h9) rfl d_M_layCut_11 ?_
        refine xn_ge (tgt := 59) hx hb (by omega) (by omega) d_M_layCut_14 (by decide) (fun c14_0 => ?_) (fun c14_0 => ?_)
        · skip
          exact hret H locs _ ls T3 d_M_layCut_59 (fun a b ha hb => h1 a b (by omega) hb) hP hD hS
        · skip
          refine lv_iconst (v := nI 0) hx hb d_M_layCut_17 (by decide) ?_
          refine lv_istore_n (lv' := [(3, .int (nI 0)), (0, .ref g), (1, .int (nI f9)), (2, .int (nI i))]) hx hb d_M_layCut_18 rfl hl (by decide) rfl (fun ls hl => ?_)
          have lp_19 : ∀ (n_19 : Nat) (j : Nat) (T4 : Nat → Int) (H : Heap) (locs : List Loc) (ls : Array Slot), (j ≤ 3 - f9) → (∀ a b, (a < i ∧ b < 3 - f9) ∨ (a = i ∧ b < j) → T4 (4 * a + b) = fqN Fm Bs (a + f9) (b + f9) 4) → (3 - f9 - j) < n_19 → va_P D vwC [(g, .inr (2, [.int cd, .int (nI d), .ref mm, .int ik, .ref kf, .ref tb, .int (nI (3 - f9)), .ref wk, .int ab, .int be, .ref pl, .ref sp, .int a0, .int a1, .int b0, .int b1, .ref po, .ref to, .ref ba, .ref li, .int lm])), (mm, IA cI 16 Fm), (tb, LA cJ 16 T4), (ba, LA cJ 12 Bs)] H → va_D A [(g, .inr (2, [.int cd, .int (nI d), .ref mm, .int ik, .ref kf, .ref tb, .int (nI (3 - f9)), .ref wk, .int ab, .int be, .ref pl, .ref sp, .int a0, .int a1, .int b0, .int b1, .ref po, .ref to, .ref ba, .ref li, .int lm])), (mm, IA cI 16 Fm), (tb, LA cJ 16 T4), (ba, LA cJ 12 Bs)] → va_S A s.heap H locs → lv_has ls 4 [(0, .ref g), (1, .int (nI f9)), (2, .int (nI i)), (3, .int (nI j))] → W p l e rm_r_layCut s m args below meth c H locs 0 0 Q (F0 m 19 ls []) := by
            intro n_19
            induction n_19 with
            | zero => intro j T4 H locs ls hj h2 hn_19; exact absurd hn_19 (Nat.not_lt_zero _)
            | succ n_19 ih_19 =>
              intro j T4 H locs ls hj h2 hn_19 hP hD hS hl
              refine lv_iload_n hx hb d_M_layCut_19 rfl (lv_at hl 3 rfl) ?_
              refine lv_aload_n hx hb d_M_layCut_20 rfl (lv_at hl 0 rfl) ?_
              refine va_get (D := D) (ci := 2) (v := .int (nI (3 - f9))) (C := R_M) (T := F_M) (N := 21) hx hb hts iw_M hown hK hP 0 rfl rfl 6 (by decide) (hts _ tw_393) (fun _ h9 => h9) rfl d_M_layCut_21 ?_
              refine xn_ge (tgt := 53) hx hb (by omega) (by omega) d_M_layCut_24 (by decide) (fun c24_1 => ?_) (fun c24_1 => ?_)
              · skip
                refine lv_iinc (v := nI (i + 1)) (lv' := [(2, .int (nI (i + 1))), (0, .ref g), (1, .int (nI f9)), (3, .int (nI j))]) hx hb d_M_layCut_53 hl (k := 2) rfl (nI_add _ _) (by decide) rfl (fun ls hl => ?_)
                refine lv_goto (tgt := 9) hx hb d_M_layCut_56 (by decide) ?_
                exact ih_9 (i + 1) T4 H locs ls (by omega) (fun a b ha hb => h2 a b (by omega)) (by omega) hP hD hS (lv_sub hl [1, 2, 0] rfl)
              · skip
                refine lv_aload_n hx hb d_M_layCut_27 rfl (lv_at hl 0 rfl) ?_
                refine va_get (D := D) (ci := 2) (v := .ref tb) (C := R_M) (T := F_M) (N := 21) hx hb hts iw_M hown hK hP 0 rfl rfl 5 (by decide) (hts _ tw_392) (fun _ h9 => h9) rfl d_M_layCut_28 ?_
                refine lv_iconst (v := nI 4) hx hb d_M_layCut_31 (by decide) ?_
                refine lv_iload_n hx hb d_M_layCut_32 rfl (lv_at hl 2 rfl) ?_
                refine xn_mul hx hb d_M_layCut_33 ?_
                refine lv_iload_n hx hb d_M_layCut_34 rfl (lv_at hl 3 rfl) ?_
                refine xn_add hx hb d_M_layCut_35 ?_
                refine lv_aload_n hx hb d_M_layCut_36 rfl (lv_at hl 0 rfl) ?_
                refine lv_iload_n hx hb d_M_layCut_37 rfl (lv_at hl 2 rfl) ?_
                refine lv_iload_n hx hb d_M_layCut_38 rfl (lv_at hl 1 rfl) ?_
                refine xn_add hx hb d_M_layCut_39 ?_
                refine lv_iload_n hx hb d_M_layCut_40 rfl (lv_at hl 3 rfl) ?_
                refine lv_iload_n hx hb d_M_layCut_41 rfl (lv_at hl 1 rfl) ?_
                refine xn_add hx hb d_M_layCut_42 ?_
                refine xcl (wc := [(g, .inr (2, [.int cd, .int (nI d), .ref mm, .int ik, .ref kf, .ref tb, .int (nI (3 - f9)), .ref wk, .int ab, .int be, .ref pl, .ref sp, .int a0, .int a1, .int b0, .int b1, .ref po, .ref to, .ref ba, .ref li, .int lm])), (mm, IA cI 16 Fm), (ba, LA cJ 12 Bs)]) (wr := [(tb, LA cJ 16 T4)]) hP hD hS hA [0, 1, 3] [2] rfl rfl (by decide) (by decide) (va_runV (As := [.int (nI (i + f9)), .int (nI (j + f9))]) (rest := [.int (nI ((4 * i) + j)), .ref tb]) ⟨hx, hb, hml, hown, hts⟩ (r_form l D cJ cI g cd d ik (nI (3 - f9)) ab be a0 a1 b0 b1 lm mm kf tb wk pl sp po to ba li Fm Bs (i + f9) (j + f9) (by first | assumption | omega) (by first | assumption | omega) (by first | assumption | omega) H.size) (cwV 2 hts (gV tw_589 tw_591 tws_32 tw_3 tw_592) rfl rfl rfl ⟨rfl, hd_M_formOf⟩ ⟨Nat.le_of_ble_eq_true rfl, Nat.le_of_ble_eq_true rfl⟩) (xPreV (C := R_M) (T := F_M) (N := 21) (q0 := 0) hN hK (hP.sub (ws' := [(g, .inr (2, [.int cd, .int (nI d), .ref mm, .int ik, .ref kf, .ref tb, .int (nI (3 - f9)), .ref wk, .int ab, .int be, .ref pl, .ref sp, .int a0, .int a1, .int b0, .int b1, .ref po, .ref to, .ref ba, .ref li, .int lm])), (mm, IA cI 16 Fm), (ba, LA cJ 12 Bs)]) [0, 1, 3] rfl) (hD.sub (ws' := [(g, .inr (2, [.int cd, .int (nI d), .ref mm, .int ik, .ref kf, .ref tb, .int (nI (3 - f9)), .ref wk, .int ab, .int be, .ref pl, .ref sp, .int a0, .int a1, .int b0, .int b1, .ref po, .ref to, .ref ba, .ref li, .int lm])), (mm, IA cI 16 Fm), (ba, LA cJ 12 Bs)]) [0, 1, 3] (by decide) rfl) rfl rfl) rfl rfl hl.1 rfl (lv_room (Nat.le_of_ble_eq_true rfl)) d_M_layCut_43 ⟨Nat.le_of_ble_eq_true rfl, Nat.le_of_ble_eq_true rfl⟩) (fun r_3 u_4 H locs hw_5 hP hD hS => ?_)
                try dsimp only at hw_5
                have hP : va_P D vwC [(g, .inr (2, [.int cd, .int (nI d), .ref mm, .int ik, .ref kf, .ref tb, .int (nI (3 - f9)), .ref wk, .int ab, .int be, .ref pl, .ref sp, .int a0, .int a1, .int b0, .int b1, .ref po, .ref to, .ref ba, .ref li, .int lm])), (mm, IA cI 16 Fm), (tb, LA cJ 16 T4), (ba, LA cJ 12 Bs)] H := hP.sub [1, 2, 0, 3] rfl
                have hD : va_D A [(g, .inr (2, [.int cd, .int (nI d), .ref mm, .int ik, .ref kf, .ref tb, .int (nI (3 - f9)), .ref wk, .int ab, .int be, .ref pl, .ref sp, .int a0, .int a1, .int b0, .int b1, .ref po, .ref to, .ref ba, .ref li, .int lm])), (mm, IA cI 16 Fm), (tb, LA cJ 16 T4), (ba, LA cJ 12 Bs)] := hD.sub [1, 2, 0, 3] (by decide) rfl
                subst hw_5
                refine xl_ast hx hb hK hP hD hS 2 0 rfl rfl (k := (4 * i) + j) (by omega) (by first | decide | omega) d_M_layCut_46 (fun H locs hP hD hS => ?_)
                have hP : va_P D vwC [(g, .inr (2, [.int cd, .int (nI d), .ref mm, .int ik, .ref kf, .ref tb, .int (nI (3 - f9)), .ref wk, .int ab, .int be, .ref pl, .ref sp, .int a0, .int a1, .int b0, .int b1, .ref po, .ref to, .ref ba, .ref li, .int lm])), (mm, IA cI 16 Fm), (tb, LA cJ 16 (upZ T4 ((4 * i) + j) (fqN Fm Bs (i + f9) (j + f9) 4))), (ba, LA cJ 12 Bs)] H := hP
                have hD : va_D A [(g, .inr (2, [.int cd, .int (nI d), .ref mm, .int ik, .ref kf, .ref tb, .int (nI (3 - f9)), .ref wk, .int ab, .int be, .ref pl, .ref sp, .int a0, .int a1, .int b0, .int b1, .ref po, .ref to, .ref ba, .ref li, .int lm])), (mm, IA cI 16 Fm), (tb, LA cJ 16 (upZ T4 ((4 * i) + j) (fqN Fm Bs (i + f9) (j + f9) 4))), (ba, LA cJ 12 Bs)] := hD
                refine lv_iinc (v := nI (j + 1)) (lv' := [(3, .int (nI (j + 1))), (0, .ref g), (1, .int (nI f9)), (2, .int (nI i))]) hx hb d_M_layCut_47 hl (k := 3) rfl (nI_add _ _) (by decide) rfl (fun ls hl => ?_)
                refine lv_goto (tgt := 19) hx hb d_M_layCut_50 (by decide) ?_
                exact ih_19 (j + 1) (upZ T4 ((4 * i) + j) (fqN Fm Bs (i + f9) (j + f9) 4)) H locs ls (by omega) (fun a b h => by by_cases q : a = i ∧ b = j; obtain ⟨rfl, rfl⟩ := q; rw [upZ_at]; rw [upZ_ne (k := 4 * i + j) (j := 4 * a + b) _ _ (by omega)]; exact h2 a b (by omega)) (by omega) hP hD hS (lv_sub hl [1, 2, 3, 0] rfl)
          exact lp_19 ((3 - f9 - 0) + 1) 0 T3 H locs ls (Nat.zero_le _) (fun a b h => h1 a b (by omega) (by omega)) (by omega) hP hD hS (lv_sub hl [1, 2, 3, 0] rfl)
    exact lp_9 ((3 - f9 - 0) + 1) 0 T H locs ls (Nat.zero_le _) (fun a b h => absurd h (Nat.not_lt_zero _)) (by omega) hP hD hS (lv_sub hl [1, 2, 0] rfl)
  rw [hH, hlc] at key; exact key

def rm_r_section : Room := { frames := 5, cells := 0, slots := 0, locals := 132 }
set_option maxHeartbeats 4000000 in
set_option maxRecDepth 100000 in
/-- section -/
theorem r_section (l : Launch) (D : va_G) (cJ cI : ClassId) (g : Nat) (cd : Int32) (d : Nat) (ik : Int32) (rw : Int32) (ab : Int32) (be : Int32) (a0 : Int32) (a1 : Int32) (b0 : Int32) (b1 : Int32) (lm : Int32) (mm : Nat) (kf : Nat) (tb : Nat) (wk : Nat) (pl : Nat) (sp : Nat) (po : Nat) (to : Nat) (ba : Nat) (li : Nat) (Fm : Nat → Int) (T : Nat → Int) (W0 : Nat → Int) (Bs : Nat → Int) (va : Int32) (vb : Int32) (vc : Int32) (ve : Int32) (hd2 : 2 ≤ d) (hd3 : d ≤ 3) (hF : ∀ k, k < 16 → inB (Fm k) 20) (sz : Nat) : xMi l y_M_section (Cond.code y_M_section b_M_section 5 (some .int) :: tW) rm_r_section [.ref g, .int va, .int vb, .int vc, .int ve] D vwC [(cJ, .long), (cI, .int)] sz [(g, .inr (2, [.int cd, .int (nI d), .ref mm, .int ik, .ref kf, .ref tb, .int rw, .ref wk, .int ab, .int be, .ref pl, .ref sp, .int a0, .int a1, .int b0, .int b1, .ref po, .ref to, .ref ba, .ref li, .int lm])), (mm, IA cI 16 Fm), (tb, LA cJ 16 T), (wk, LA cJ 20 W0), (pl, IA cI 24 plF), (sp, IA cI 40 spF), (ba, LA cJ 12 Bs)] (fun (rv : Int32) (uo : Int32 × Int32 × Int32 × Int32 × Int32 × Int32 × Int32 × (Nat → Int) × (Nat → Int) × (Nat → Int)) => rv = s_seM Fm d va.toInt vb.toInt vc.toInt ve.toInt) (fun (uo : Int32 × Int32 × Int32 × Int32 × Int32 × Int32 × Int32 × (Nat → Int) × (Nat → Int) × (Nat → Int)) => [(g, .inr (2, [.int (nI 0), .int (nI d), .ref mm, .int ik, .ref kf, .ref tb, .int uo.1, .ref wk, .int uo.2.1, .int uo.2.2.1, .ref pl, .ref sp, .int uo.2.2.2.1, .int uo.2.2.2.2.1, .int uo.2.2.2.2.2.1, .int uo.2.2.2.2.2.2.1, .ref po, .ref to, .ref ba, .ref li, .int lm])), (mm, IA cI 16 Fm), (tb, LA cJ 16 uo.2.2.2.2.2.2.2.1), (wk, LA cJ 20 uo.2.2.2.2.2.2.2.2.1), (pl, IA cI 24 plF), (sp, IA cI 40 spF), (ba, LA cJ 12 uo.2.2.2.2.2.2.2.2.2)]) 0 0 := by
  refine xoi (cc := b_M_section) (maxL := 5) (by decide) rfl (Nat.le_of_ble_eq_true rfl) ?_
  intro p e s m args below meth c Q A hx hb hml hts hown hN hA hS hP hK hD hret ls hl
  have hl : lv_has ls 5 [(0, .ref g), (1, .int va), (2, .int vb), (3, .int vc), (4, .int ve)] := hl
  obtain ⟨H, hH⟩ : ∃ z, z = s.heap := ⟨_, rfl⟩
  obtain ⟨locs, hlc⟩ : ∃ z : List Loc, z = [] := ⟨_, rfl⟩
  rw [← hH] at hP
  have hS : va_S A s.heap H locs := by rw [hH, hlc]; exact hS
  have key : W p l e rm_r_section s m args below meth c H locs 0 0 Q (F0 m 0 ls []) := by
    refine lv_aload_n hx hb d_M_section_0 rfl (lv_at hl 0 rfl) ?_
    refine lv_iconst (v := nI 0) hx hb d_M_section_1 (by decide) ?_
    refine va_put (D := D) (ci := 2) (v := .int (nI 0)) (ty := .int) (C := R_M) (T := F_M) (N := 21) hx hb hts iw_M ft_M ft_M_ok n_M hown hK hP hD hS 0 rfl rfl 0 (by decide) (hts _ tw_387) (fun _ h9 => h9) rfl (by decide +kernel) rfl rfl (Nat.le_of_ble_eq_true rfl) d_M_section_2 (fun H locs hP hD hS => ?_)
    have hP : va_P D vwC [(g, .inr (2, [.int (nI 0), .int (nI d), .ref mm, .int ik, .ref kf, .ref tb, .int rw, .ref wk, .int ab, .int be, .ref pl, .ref sp, .int a0, .int a1, .int b0, .int b1, .ref po, .ref to, .ref ba, .ref li, .int lm])), (mm, IA cI 16 Fm), (tb, LA cJ 16 T), (wk, LA cJ 20 W0), (pl, IA cI 24 plF), (sp, IA cI 40 spF), (ba, LA cJ 12 Bs)] H := hP
    have hD : va_D A [(g, .inr (2, [.int (nI 0), .int (nI d), .ref mm, .int ik, .ref kf, .ref tb, .int rw, .ref wk, .int ab, .int be, .ref pl, .ref sp, .int a0, .int a1, .int b0, .int b1, .ref po, .ref to, .ref ba, .ref li, .int lm])), (mm, IA cI 16 Fm), (tb, LA cJ 16 T), (wk, LA cJ 20 W0), (pl, IA cI 24 plF), (sp, IA cI 40 spF), (ba, LA cJ 12 Bs)] := hD
    have lp_80 : ∀  (H : Heap) (locs : List Loc) (ls : Array Slot), (d = 3) → (-10 ≤ va.toInt ∧ va.toInt ≤ 10) → (-10 ≤ vb.toInt ∧ vb.toInt ≤ 10) → (-10 ≤ vc.toInt ∧ vc.toInt ≤ 10) → (-10 ≤ ve.toInt ∧ ve.toInt ≤ 10) → (¬ rowBad (ptR d ve.toInt va.toInt vb.toInt vc.toInt) d 10) → va_P D vwC [(g, .inr (2, [.int (nI 0), .int (nI d), .ref mm, .int ik, .ref kf, .ref tb, .int rw, .ref wk, .int ab, .int be, .ref pl, .ref sp, .int a0, .int a1, .int b0, .int b1, .ref po, .ref to, .ref ba, .ref li, .int lm])), (mm, IA cI 16 Fm), (tb, LA cJ 16 T), (wk, LA cJ 20 W0), (pl, IA cI 24 plF), (sp, IA cI 40 spF), (ba, LA cJ 12 Bs)] H → va_D A [(g, .inr (2, [.int (nI 0), .int (nI d), .ref mm, .int ik, .ref kf, .ref tb, .int rw, .ref wk, .int ab, .int be, .ref pl, .ref sp, .int a0, .int a1, .int b0, .int b1, .ref po, .ref to, .ref ba, .ref li, .int lm])), (mm, IA cI 16 Fm), (tb, LA cJ 16 T), (wk, LA cJ 20 W0), (pl, IA cI 24 plF), (sp, IA cI 40 spF), (ba, LA cJ 12 Bs)] → va_S A s.heap H locs → lv_has ls 5 [(0, .ref g), (1, .int va), (2, .int vb), (3, .int vc), (4, .int ve)] → W p l e rm_r_section s m args below meth c H locs 0 0 Q (F0 m 80 ls []) := by
      intro  H locs ls hd9 ra rb rc re hok hP hD hS hl
      refine lv_aload_n hx hb d_M_section_80 rfl (lv_at hl 0 rfl) ?_
      refine lv_iload_n hx hb d_M_section_81 rfl (lv_at hl 1 rfl) ?_
      refine lv_iload_n hx hb d_M_section_82 rfl (lv_at hl 2 rfl) ?_
      refine lv_iload_n hx hb d_M_section_83 rfl (lv_at hl 3 rfl) ?_
      refine lv_iload hx hb d_M_section_84 (lv_at hl 4 rfl) ?_
      refine xcv (wc := [(g, .inr (2, [.int (nI 0), .int (nI d), .ref mm, .int ik, .ref kf, .ref tb, .int rw, .ref wk, .int ab, .int be, .ref pl, .ref sp, .int a0, .int a1, .int b0, .int b1, .ref po, .ref to, .ref ba, .ref li, .int lm])), (ba, LA cJ 12 Bs)]) (wr := [(mm, IA cI 16 Fm), (tb, LA cJ 16 T), (wk, LA cJ 20 W0), (pl, IA cI 24 plF), (sp, IA cI 40 spF)]) hP hD hS hA [0, 6] [1, 2, 3, 4, 5] rfl rfl (by decide) (by decide) (va_runV (As := [.int va, .int vb, .int vc, .int ve]) (rest := []) ⟨hx, hb, hml, hown, hts⟩ (r_layBase l D cJ cI g (nI 0) d ik rw ab be a0 a1 b0 b1 lm mm kf tb wk pl sp po to ba li Bs va vb vc ve (by first | assumption | omega) (by first | assumption | omega) (by first | assumption | omega) H.size) (cwV 4 hts (gV tw_581 tw_583 tws_30 tw_3 tw_584) rfl rfl rfl ⟨rfl, hd_M_layBase⟩ ⟨Nat.le_of_ble_eq_true rfl, Nat.le_of_ble_eq_true rfl⟩) (xPreV (C := R_M) (T := F_M) (N := 21) (q0 := 0) hN hK (hP.sub (ws' := [(g, .inr (2, [.int (nI 0), .int (nI d), .ref mm, .int ik, .ref kf, .ref tb, .int rw, .ref wk, .int ab, .int be, .ref pl, .ref sp, .int a0, .int a1, .int b0, .int b1, .ref po, .ref to, .ref ba, .ref li, .int lm])), (ba, LA cJ 12 Bs)]) [0, 6] rfl) (hD.sub (ws' := [(g, .inr (2, [.int (nI 0), .int (nI d), .ref mm, .int ik, .ref kf, .ref tb, .int rw, .ref wk, .int ab, .int be, .ref pl, .ref sp, .int a0, .int a1, .int b0, .int b1, .ref po, .ref to, .ref ba, .ref li, .int lm])), (ba, LA cJ 12 Bs)]) [0, 6] (by decide) rfl) rfl rfl) rfl rfl hl.1 rfl (lv_room (Nat.le_of_ble_eq_true rfl)) d_M_section_86 ⟨Nat.le_of_ble_eq_true rfl, Nat.le_of_ble_eq_true rfl⟩) (fun u_2 H locs hbs hP hD hS => ?_)
      obtain ⟨B5, rfl⟩ : ∃ z, z = u_2 := ⟨_, rfl⟩
      try dsimp only at hbs
      have hP : va_P D vwC [(g, .inr (2, [.int (nI 0), .int (nI d), .ref mm, .int ik, .ref kf, .ref tb, .int rw, .ref wk, .int ab, .int be, .ref pl, .ref sp, .int a0, .int a1, .int b0, .int b1, .ref po, .ref to, .ref ba, .ref li, .int lm])), (mm, IA cI 16 Fm), (tb, LA cJ 16 T), (wk, LA cJ 20 W0), (pl, IA cI 24 plF), (sp, IA cI 40 spF), (ba, LA cJ 12 B5)] H := hP.sub [5, 0, 1, 2, 3, 4, 6] rfl
      have hD : va_D A [(g, .inr (2, [.int (nI 0), .int (nI d), .ref mm, .int ik, .ref kf, .ref tb, .int rw, .ref wk, .int ab, .int be, .ref pl, .ref sp, .int a0, .int a1, .int b0, .int b1, .ref po, .ref to, .ref ba, .ref li, .int lm])), (mm, IA cI 16 Fm), (tb, LA cJ 16 T), (wk, LA cJ 20 W0), (pl, IA cI 24 plF), (sp, IA cI 40 spF), (ba, LA cJ 12 B5)] := hD.sub [5, 0, 1, 2, 3, 4, 6] (by decide) rfl
      refine lv_aload_n hx hb d_M_section_89 rfl (lv_at hl 0 rfl) ?_
      refine lv_iconst (v := nI 1) hx hb d_M_section_90 (by decide) ?_
      refine xcv (wc := [(g, .inr (2, [.int (nI 0), .int (nI d), .ref mm, .int ik, .ref kf, .ref tb, .int rw, .ref wk, .int ab, .int be, .ref pl, .ref sp, .int a0, .int a1, .int b0, .int b1, .ref po, .ref to, .ref ba, .ref li, .int lm])), (mm, IA cI 16 Fm), (tb, LA cJ 16 T), (ba, LA cJ 12 B5)]) (wr := [(wk, LA cJ 20 W0), (pl, IA cI 24 plF), (sp, IA cI 40 spF)]) hP hD hS hA [0, 1, 2, 6] [3, 4, 5] rfl rfl (by decide) (by decide) (va_runV (As := [.int (nI 1)]) (rest := []) ⟨hx, hb, hml, hown, hts⟩ (r_layCut l D cJ cI g (nI 0) d ik rw ab be a0 a1 b0 b1 lm mm kf tb wk pl sp po to ba li Fm B5 T 1 (by first | assumption | omega) (by first | assumption | omega) H.size) (cwV 1 hts (gV tw_585 tw_587 tws_31 tw_3 tw_588) rfl rfl rfl ⟨rfl, hd_M_layCut⟩ ⟨Nat.le_of_ble_eq_true rfl, Nat.le_of_ble_eq_true rfl⟩) (xPreV (C := R_M) (T := F_M) (N := 21) (q0 := 0) hN hK (hP.sub (ws' := [(g, .inr (2, [.int (nI 0), .int (nI d), .ref mm, .int ik, .ref kf, .ref tb, .int rw, .ref wk, .int ab, .int be, .ref pl, .ref sp, .int a0, .int a1, .int b0, .int b1, .ref po, .ref to, .ref ba, .ref li, .int lm])), (mm, IA cI 16 Fm), (tb, LA cJ 16 T), (ba, LA cJ 12 B5)]) [0, 1, 2, 6] rfl) (hD.sub (ws' := [(g, .inr (2, [.int (nI 0), .int (nI d), .ref mm, .int ik, .ref kf, .ref tb, .int rw, .ref wk, .int ab, .int be, .ref pl, .ref sp, .int a0, .int a1, .int b0, .int b1, .ref po, .ref to, .ref ba, .ref li, .int lm])), (mm, IA cI 16 Fm), (tb, LA cJ 16 T), (ba, LA cJ 12 B5)]) [0, 1, 2, 6] (by decide) rfl) rfl rfl) rfl rfl hl.1 rfl (lv_room (Nat.le_of_ble_eq_true rfl)) d_M_section_91 ⟨Nat.le_of_ble_eq_true rfl, Nat.le_of_ble_eq_true rfl⟩) (fun u_4 H locs ht5q hP hD hS => ?_)
      obtain ⟨T5, rfl⟩ : ∃ z, z = u_4 := ⟨_, rfl⟩
      try dsimp only at ht5q
      have hP : va_P D vwC [(g, .inr (2, [.int (nI 0), .int (nI d), .ref mm, .int ik, .ref kf, .ref tb, .int (nI (3 - 1)), .ref wk, .int ab, .int be, .ref pl, .ref sp, .int a0, .int a1, .int b0, .int b1, .ref po, .ref to, .ref ba, .ref li, .int lm])), (mm, IA cI 16 Fm), (tb, LA cJ 16 T5), (wk, LA cJ 20 W0), (pl, IA cI 24 plF), (sp, IA cI 40 spF), (ba, LA cJ 12 B5)] H := hP.sub [3, 4, 5, 0, 1, 2, 6] rfl
      have hD : va_D A [(g, .inr (2, [.int (nI 0), .int (nI d), .ref mm, .int ik, .ref kf, .ref tb, .int (nI (3 - 1)), .ref wk, .int ab, .int be, .ref pl, .ref sp, .int a0, .int a1, .int b0, .int b1, .ref po, .ref to, .ref ba, .ref li, .int lm])), (mm, IA cI 16 Fm), (tb, LA cJ 16 T5), (wk, LA cJ 20 W0), (pl, IA cI 24 plF), (sp, IA cI 40 spF), (ba, LA cJ 12 B5)] := hD.sub [3, 4, 5, 0, 1, 2, 6] (by decide) rfl
      have hG : ∀ k, k < 4 → inB (ptR 3 (-ve.toInt) va.toInt vb.toInt vc.toInt k) 10 := (all_iff (by decide)).mpr ⟨⟨by omega, by omega⟩, ra, rb, fun _ => rc⟩
      have ht5 : ∀ a b, a < 2 → b < 2 → T5 (4 * a + b) = (cutT Fm (ptR 3 (-ve.toInt) va.toInt vb.toInt vc.toInt) (pvN vb.toInt vc.toInt)) (4 * (1 + a) + (1 + b)) := fun a b ha hb => by rw [ht5q a b (by omega) (by omega), fq_cut hbs (a + 1) (b + 1) (by omega) (by omega), Nat.add_comm a, Nat.add_comm b]
      have hxB : enB T5 (3 - 1) (tabB (3 - 1)) := enB_congr (prt_eq (f := 1) (by omega) ht5) (cutC_B (f := 1) (r := 2) (by decide) (pvN_le _ _) hF hG)
      refine lv_aload_n hx hb d_M_section_94 rfl (lv_at hl 0 rfl) ?_
      refine xcv (wc := [(g, .inr (2, [.int (nI 0), .int (nI d), .ref mm, .int ik, .ref kf, .ref tb, .int (nI (3 - 1)), .ref wk, .int ab, .int be, .ref pl, .ref sp, .int a0, .int a1, .int b0, .int b1, .ref po, .ref to, .ref ba, .ref li, .int lm])), (tb, LA cJ 16 T5), (wk, LA cJ 20 W0)]) (wr := [(mm, IA cI 16 Fm), (pl, IA cI 24 plF), (sp, IA cI 40 spF), (ba, LA cJ 12 B5)]) hP hD hS hA [0, 2, 3] [1, 4, 5, 6] rfl rfl (by decide) (by decide) (va_runV (As := []) (rest := []) ⟨hx, hb, hml, hown, hts⟩ (r_findSigns l D cJ cI g (nI 0) d ik a0 a1 b0 b1 lm mm kf tb wk pl sp po to ba li (3 - 1) ab be T5 W0 (by first | assumption | omega) (by first | assumption | omega) hxB H.size) (cwV 0 hts (gV tw_484 tw_486 tws_20 tw_3 tw_487) rfl rfl rfl ⟨rfl, hd_M_findSigns⟩ ⟨Nat.le_of_ble_eq_true rfl, Nat.le_of_ble_eq_true rfl⟩) (xPreV (C := R_M) (T := F_M) (N := 21) (q0 := 0) hN hK (hP.sub (ws' := [(g, .inr (2, [.int (nI 0), .int (nI d), .ref mm, .int ik, .ref kf, .ref tb, .int (nI (3 - 1)), .ref wk, .int ab, .int be, .ref pl, .ref sp, .int a0, .int a1, .int b0, .int b1, .ref po, .ref to, .ref ba, .ref li, .int lm])), (tb, LA cJ 16 T5), (wk, LA cJ 20 W0)]) [0, 2, 3] rfl) (hD.sub (ws' := [(g, .inr (2, [.int (nI 0), .int (nI d), .ref mm, .int ik, .ref kf, .ref tb, .int (nI (3 - 1)), .ref wk, .int ab, .int be, .ref pl, .ref sp, .int a0, .int a1, .int b0, .int b1, .ref po, .ref to, .ref ba, .ref li, .int lm])), (tb, LA cJ 16 T5), (wk, LA cJ 20 W0)]) [0, 2, 3] (by decide) rfl) rfl rfl) rfl rfl hl.1 rfl (lv_room (Nat.le_of_ble_eq_true rfl)) d_M_section_95 ⟨Nat.le_of_ble_eq_true rfl, Nat.le_of_ble_eq_true rfl⟩) (fun u_6 H locs hw_7 hP hD hS => ?_)
      obtain ⟨W2_8, rfl⟩ : ∃ z, z = u_6 := ⟨_, rfl⟩
      try dsimp only at hw_7
      have hP : va_P D vwC [(g, .inr (2, [.int (nI 0), .int (nI d), .ref mm, .int ik, .ref kf, .ref tb, .int (nI (3 - 1)), .ref wk, .int (nI (abN T5 (3 - 1))), .int (nI (beN T5 (3 - 1))), .ref pl, .ref sp, .int a0, .int a1, .int b0, .int b1, .ref po, .ref to, .ref ba, .ref li, .int lm])), (mm, IA cI 16 Fm), (tb, LA cJ 16 T5), (wk, LA cJ 20 W2_8), (pl, IA cI 24 plF), (sp, IA cI 40 spF), (ba, LA cJ 12 B5)] H := hP.sub [4, 0, 5, 6, 1, 2, 3] rfl
      have hD : va_D A [(g, .inr (2, [.int (nI 0), .int (nI d), .ref mm, .int ik, .ref kf, .ref tb, .int (nI (3 - 1)), .ref wk, .int (nI (abN T5 (3 - 1))), .int (nI (beN T5 (3 - 1))), .ref pl, .ref sp, .int a0, .int a1, .int b0, .int b1, .ref po, .ref to, .ref ba, .ref li, .int lm])), (mm, IA cI 16 Fm), (tb, LA cJ 16 T5), (wk, LA cJ 20 W2_8), (pl, IA cI 24 plF), (sp, IA cI 40 spF), (ba, LA cJ 12 B5)] := hD.sub [4, 0, 5, 6, 1, 2, 3] (by decide) rfl
      have exa : abN T5 (3 - 1) = abN (prt (cutT Fm (ptR 3 (-ve.toInt) va.toInt vb.toInt vc.toInt) (pvN vb.toInt vc.toInt)) 1) 2 := abN_congr (by omega) (by omega) (prt_eq (by omega) ht5)
      have exb : beN T5 (3 - 1) = beN (prt (cutT Fm (ptR 3 (-ve.toInt) va.toInt vb.toInt vc.toInt) (pvN vb.toInt vc.toInt)) 1) 2 := beN_congr (by omega) (by omega) (prt_eq (by omega) ht5)
      rw [exa, exb] at hP hD
      have hP : va_P D vwC [(g, .inr (2, [.int (nI 0), .int (nI d), .ref mm, .int ik, .ref kf, .ref tb, .int (nI (3 - 1)), .ref wk, .int (nI (abN (prt (cutT Fm (ptR 3 (-ve.toInt) va.toInt vb.toInt vc.toInt) (pvN vb.toInt vc.toInt)) 1) 2)), .int (nI (beN (prt (cutT Fm (ptR 3 (-ve.toInt) va.toInt vb.toInt vc.toInt) (pvN vb.toInt vc.toInt)) 1) 2)), .ref pl, .ref sp, .int a0, .int a1, .int b0, .int b1, .ref po, .ref to, .ref ba, .ref li, .int lm])), (mm, IA cI 16 Fm), (tb, LA cJ 16 T5), (wk, LA cJ 20 W2_8), (pl, IA cI 24 plF), (sp, IA cI 40 spF), (ba, LA cJ 12 B5)] H := hP
      have hD : va_D A [(g, .inr (2, [.int (nI 0), .int (nI d), .ref mm, .int ik, .ref kf, .ref tb, .int (nI (3 - 1)), .ref wk, .int (nI (abN (prt (cutT Fm (ptR 3 (-ve.toInt) va.toInt vb.toInt vc.toInt) (pvN vb.toInt vc.toInt)) 1) 2)), .int (nI (beN (prt (cutT Fm (ptR 3 (-ve.toInt) va.toInt vb.toInt vc.toInt) (pvN vb.toInt vc.toInt)) 1) 2)), .ref pl, .ref sp, .int a0, .int a1, .int b0, .int b1, .ref po, .ref to, .ref ba, .ref li, .int lm])), (mm, IA cI 16 Fm), (tb, LA cJ 16 T5), (wk, LA cJ 20 W2_8), (pl, IA cI 24 plF), (sp, IA cI 40 spF), (ba, LA cJ 12 B5)] := hD
      refine lv_aload_n hx hb d_M_section_98 rfl (lv_at hl 0 rfl) ?_
      refine lv_aload_n hx hb d_M_section_99 rfl (lv_at hl 0 rfl) ?_
      refine va_get (D := D) (ci := 2) (v := .int (nI (abN (prt (cutT Fm (ptR 3 (-ve.toInt) va.toInt vb.toInt vc.toInt) (pvN vb.toInt vc.toInt)) 1) 2))) (C := R_M) (T := F_M) (N := 21) hx hb hts iw_M hown hK hP 0 rfl rfl 8 (by decide) (hts _ tw_395) (fun _ h9 => h9) rfl d_M_section_100 ?_
      refine va_put (D := D) (ci := 2) (v := .int (nI (abN (prt (cutT Fm (ptR 3 (-ve.toInt) va.toInt vb.toInt vc.toInt) (pvN vb.toInt vc.toInt)) 1) 2))) (ty := .int) (C := R_M) (T := F_M) (N := 21) hx hb hts iw_M ft_M ft_M_ok n_M hown hK hP hD hS 0 rfl rfl 12 (by decide) (hts _ tw_399) (fun _ h9 => h9) rfl (by decide +kernel) rfl rfl (Nat.le_of_ble_eq_true rfl) d_M_section_103 (fun H locs hP hD hS => ?_)
      have hP : va_P D vwC [(g, .inr (2, [.int (nI 0), .int (nI d), .ref mm, .int ik, .ref kf, .ref tb, .int (nI (3 - 1)), .ref wk, .int (nI (abN (prt (cutT Fm (ptR 3 (-ve.toInt) va.toInt vb.toInt vc.toInt) (pvN vb.toInt vc.toInt)) 1) 2)), .int (nI (beN (prt (cutT Fm (ptR 3 (-ve.toInt) va.toInt vb.toInt vc.toInt) (pvN vb.toInt vc.toInt)) 1) 2)), .ref pl, .ref sp, .int (nI (abN (prt (cutT Fm (ptR 3 (-ve.toInt) va.toInt vb.toInt vc.toInt) (pvN vb.toInt vc.toInt)) 1) 2)), .int a1, .int b0, .int b1, .ref po, .ref to, .ref ba, .ref li, .int lm])), (mm, IA cI 16 Fm), (tb, LA cJ 16 T5), (wk, LA cJ 20 W2_8), (pl, IA cI 24 plF), (sp, IA cI 40 spF), (ba, LA cJ 12 B5)] H := hP
      have hD : va_D A [(g, .inr (2, [.int (nI 0), .int (nI d), .ref mm, .int ik, .ref kf, .ref tb, .int (nI (3 - 1)), .ref wk, .int (nI (abN (prt (cutT Fm (ptR 3 (-ve.toInt) va.toInt vb.toInt vc.toInt) (pvN vb.toInt vc.toInt)) 1) 2)), .int (nI (beN (prt (cutT Fm (ptR 3 (-ve.toInt) va.toInt vb.toInt vc.toInt) (pvN vb.toInt vc.toInt)) 1) 2)), .ref pl, .ref sp, .int (nI (abN (prt (cutT Fm (ptR 3 (-ve.toInt) va.toInt vb.toInt vc.toInt) (pvN vb.toInt vc.toInt)) 1) 2)), .int a1, .int b0, .int b1, .ref po, .ref to, .ref ba, .ref li, .int lm])), (mm, IA cI 16 Fm), (tb, LA cJ 16 T5), (wk, LA cJ 20 W2_8), (pl, IA cI 24 plF), (sp, IA cI 40 spF), (ba, LA cJ 12 B5)] := hD
      refine lv_aload_n hx hb d_M_section_106 rfl (lv_at hl 0 rfl) ?_
      refine lv_aload_n hx hb d_M_section_107 rfl (lv_at hl 0 rfl) ?_
      refine va_get (D := D) (ci := 2) (v := .int (nI (beN (prt (cutT Fm (ptR 3 (-ve.toInt) va.toInt vb.toInt vc.toInt) (pvN vb.toInt vc.toInt)) 1) 2))) (C := R_M) (T := F_M) (N := 21) hx hb hts iw_M hown hK hP 0 rfl rfl 9 (by decide) (hts _ tw_396) (fun _ h9 => h9) rfl d_M_section_108 ?_
      refine va_put (D := D) (ci := 2) (v := .int (nI (beN (prt (cutT Fm (ptR 3 (-ve.toInt) va.toInt vb.toInt vc.toInt) (pvN vb.toInt vc.toInt)) 1) 2))) (ty := .int) (C := R_M) (T := F_M) (N := 21) hx hb hts iw_M ft_M ft_M_ok n_M hown hK hP hD hS 0 rfl rfl 13 (by decide) (hts _ tw_400) (fun _ h9 => h9) rfl (by decide +kernel) rfl rfl (Nat.le_of_ble_eq_true rfl) d_M_section_111 (fun H locs hP hD hS => ?_)
      have hP : va_P D vwC [(g, .inr (2, [.int (nI 0), .int (nI d), .ref mm, .int ik, .ref kf, .ref tb, .int (nI (3 - 1)), .ref wk, .int (nI (abN (prt (cutT Fm (ptR 3 (-ve.toInt) va.toInt vb.toInt vc.toInt) (pvN vb.toInt vc.toInt)) 1) 2)), .int (nI (beN (prt (cutT Fm (ptR 3 (-ve.toInt) va.toInt vb.toInt vc.toInt) (pvN vb.toInt vc.toInt)) 1) 2)), .ref pl, .ref sp, .int (nI (abN (prt (cutT Fm (ptR 3 (-ve.toInt) va.toInt vb.toInt vc.toInt) (pvN vb.toInt vc.toInt)) 1) 2)), .int (nI (beN (prt (cutT Fm (ptR 3 (-ve.toInt) va.toInt vb.toInt vc.toInt) (pvN vb.toInt vc.toInt)) 1) 2)), .int b0, .int b1, .ref po, .ref to, .ref ba, .ref li, .int lm])), (mm, IA cI 16 Fm), (tb, LA cJ 16 T5), (wk, LA cJ 20 W2_8), (pl, IA cI 24 plF), (sp, IA cI 40 spF), (ba, LA cJ 12 B5)] H := hP
      have hD : va_D A [(g, .inr (2, [.int (nI 0), .int (nI d), .ref mm, .int ik, .ref kf, .ref tb, .int (nI (3 - 1)), .ref wk, .int (nI (abN (prt (cutT Fm (ptR 3 (-ve.toInt) va.toInt vb.toInt vc.toInt) (pvN vb.toInt vc.toInt)) 1) 2)), .int (nI (beN (prt (cutT Fm (ptR 3 (-ve.toInt) va.toInt vb.toInt vc.toInt) (pvN vb.toInt vc.toInt)) 1) 2)), .ref pl, .ref sp, .int (nI (abN (prt (cutT Fm (ptR 3 (-ve.toInt) va.toInt vb.toInt vc.toInt) (pvN vb.toInt vc.toInt)) 1) 2)), .int (nI (beN (prt (cutT Fm (ptR 3 (-ve.toInt) va.toInt vb.toInt vc.toInt) (pvN vb.toInt vc.toInt)) 1) 2)), .int b0, .int b1, .ref po, .ref to, .ref ba, .ref li, .int lm])), (mm, IA cI 16 Fm), (tb, LA cJ 16 T5), (wk, LA cJ 20 W2_8), (pl, IA cI 24 plF), (sp, IA cI 40 spF), (ba, LA cJ 12 B5)] := hD
      refine lv_aload_n hx hb d_M_section_114 rfl (lv_at hl 0 rfl) ?_
      refine lv_iconst (v := nI 0) hx hb d_M_section_115 (by decide) ?_
      refine xcv (wc := [(g, .inr (2, [.int (nI 0), .int (nI d), .ref mm, .int ik, .ref kf, .ref tb, .int (nI (3 - 1)), .ref wk, .int (nI (abN (prt (cutT Fm (ptR 3 (-ve.toInt) va.toInt vb.toInt vc.toInt) (pvN vb.toInt vc.toInt)) 1) 2)), .int (nI (beN (prt (cutT Fm (ptR 3 (-ve.toInt) va.toInt vb.toInt vc.toInt) (pvN vb.toInt vc.toInt)) 1) 2)), .ref pl, .ref sp, .int (nI (abN (prt (cutT Fm (ptR 3 (-ve.toInt) va.toInt vb.toInt vc.toInt) (pvN vb.toInt vc.toInt)) 1) 2)), .int (nI (beN (prt (cutT Fm (ptR 3 (-ve.toInt) va.toInt vb.toInt vc.toInt) (pvN vb.toInt vc.toInt)) 1) 2)), .int b0, .int b1, .ref po, .ref to, .ref ba, .ref li, .int lm])), (mm, IA cI 16 Fm), (tb, LA cJ 16 T5), (ba, LA cJ 12 B5)]) (wr := [(wk, LA cJ 20 W2_8), (pl, IA cI 24 plF), (sp, IA cI 40 spF)]) hP hD hS hA [0, 1, 2, 6] [3, 4, 5] rfl rfl (by decide) (by decide) (va_runV (As := [.int (nI 0)]) (rest := []) ⟨hx, hb, hml, hown, hts⟩ (r_layCut l D cJ cI g (nI 0) d ik (nI (3 - 1)) (nI (abN (prt (cutT Fm (ptR 3 (-ve.toInt) va.toInt vb.toInt vc.toInt) (pvN vb.toInt vc.toInt)) 1) 2)) (nI (beN (prt (cutT Fm (ptR 3 (-ve.toInt) va.toInt vb.toInt vc.toInt) (pvN vb.toInt vc.toInt)) 1) 2)) (nI (abN (prt (cutT Fm (ptR 3 (-ve.toInt) va.toInt vb.toInt vc.toInt) (pvN vb.toInt vc.toInt)) 1) 2)) (nI (beN (prt (cutT Fm (ptR 3 (-ve.toInt) va.toInt vb.toInt vc.toInt) (pvN vb.toInt vc.toInt)) 1) 2)) b0 b1 lm mm kf tb wk pl sp po to ba li Fm B5 T5 0 (by first | assumption | omega) (by first | assumption | omega) H.size) (cwV 1 hts (gV tw_585 tw_587 tws_31 tw_3 tw_588) rfl rfl rfl ⟨rfl, hd_M_layCut⟩ ⟨Nat.le_of_ble_eq_true rfl, Nat.le_of_ble_eq_true rfl⟩) (xPreV (C := R_M) (T := F_M) (N := 21) (q0 := 0) hN hK (hP.sub (ws' := [(g, .inr (2, [.int (nI 0), .int (nI d), .ref mm, .int ik, .ref kf, .ref tb, .int (nI (3 - 1)), .ref wk, .int (nI (abN (prt (cutT Fm (ptR 3 (-ve.toInt) va.toInt vb.toInt vc.toInt) (pvN vb.toInt vc.toInt)) 1) 2)), .int (nI (beN (prt (cutT Fm (ptR 3 (-ve.toInt) va.toInt vb.toInt vc.toInt) (pvN vb.toInt vc.toInt)) 1) 2)), .ref pl, .ref sp, .int (nI (abN (prt (cutT Fm (ptR 3 (-ve.toInt) va.toInt vb.toInt vc.toInt) (pvN vb.toInt vc.toInt)) 1) 2)), .int (nI (beN (prt (cutT Fm (ptR 3 (-ve.toInt) va.toInt vb.toInt vc.toInt) (pvN vb.toInt vc.toInt)) 1) 2)), .int b0, .int b1, .ref po, .ref to, .ref ba, .ref li, .int lm])), (mm, IA cI 16 Fm), (tb, LA cJ 16 T5), (ba, LA cJ 12 B5)]) [0, 1, 2, 6] rfl) (hD.sub (ws' := [(g, .inr (2, [.int (nI 0), .int (nI d), .ref mm, .int ik, .ref kf, .ref tb, .int (nI (3 - 1)), .ref wk, .int (nI (abN (prt (cutT Fm (ptR 3 (-ve.toInt) va.toInt vb.toInt vc.toInt) (pvN vb.toInt vc.toInt)) 1) 2)), .int (nI (beN (prt (cutT Fm (ptR 3 (-ve.toInt) va.toInt vb.toInt vc.toInt) (pvN vb.toInt vc.toInt)) 1) 2)), .ref pl, .ref sp, .int (nI (abN (prt (cutT Fm (ptR 3 (-ve.toInt) va.toInt vb.toInt vc.toInt) (pvN vb.toInt vc.toInt)) 1) 2)), .int (nI (beN (prt (cutT Fm (ptR 3 (-ve.toInt) va.toInt vb.toInt vc.toInt) (pvN vb.toInt vc.toInt)) 1) 2)), .int b0, .int b1, .ref po, .ref to, .ref ba, .ref li, .int lm])), (mm, IA cI 16 Fm), (tb, LA cJ 16 T5), (ba, LA cJ 12 B5)]) [0, 1, 2, 6] (by decide) rfl) rfl rfl) rfl rfl hl.1 rfl (lv_room (Nat.le_of_ble_eq_true rfl)) d_M_section_116 ⟨Nat.le_of_ble_eq_true rfl, Nat.le_of_ble_eq_true rfl⟩) (fun u_10 H locs ht6q hP hD hS => ?_)
      obtain ⟨T6, rfl⟩ : ∃ z, z = u_10 := ⟨_, rfl⟩
      try dsimp only at ht6q
      have hP : va_P D vwC [(g, .inr (2, [.int (nI 0), .int (nI d), .ref mm, .int ik, .ref kf, .ref tb, .int (nI (3 - 0)), .ref wk, .int (nI (abN (prt (cutT Fm (ptR 3 (-ve.toInt) va.toInt vb.toInt vc.toInt) (pvN vb.toInt vc.toInt)) 1) 2)), .int (nI (beN (prt (cutT Fm (ptR 3 (-ve.toInt) va.toInt vb.toInt vc.toInt) (pvN vb.toInt vc.toInt)) 1) 2)), .ref pl, .ref sp, .int (nI (abN (prt (cutT Fm (ptR 3 (-ve.toInt) va.toInt vb.toInt vc.toInt) (pvN vb.toInt vc.toInt)) 1) 2)), .int (nI (beN (prt (cutT Fm (ptR 3 (-ve.toInt) va.toInt vb.toInt vc.toInt) (pvN vb.toInt vc.toInt)) 1) 2)), .int b0, .int b1, .ref po, .ref to, .ref ba, .ref li, .int lm])), (mm, IA cI 16 Fm), (tb, LA cJ 16 T6), (wk, LA cJ 20 W2_8), (pl, IA cI 24 plF), (sp, IA cI 40 spF), (ba, LA cJ 12 B5)] H := hP.sub [3, 4, 5, 0, 1, 2, 6] rfl
      have hD : va_D A [(g, .inr (2, [.int (nI 0), .int (nI d), .ref mm, .int ik, .ref kf, .ref tb, .int (nI (3 - 0)), .ref wk, .int (nI (abN (prt (cutT Fm (ptR 3 (-ve.toInt) va.toInt vb.toInt vc.toInt) (pvN vb.toInt vc.toInt)) 1) 2)), .int (nI (beN (prt (cutT Fm (ptR 3 (-ve.toInt) va.toInt vb.toInt vc.toInt) (pvN vb.toInt vc.toInt)) 1) 2)), .ref pl, .ref sp, .int (nI (abN (prt (cutT Fm (ptR 3 (-ve.toInt) va.toInt vb.toInt vc.toInt) (pvN vb.toInt vc.toInt)) 1) 2)), .int (nI (beN (prt (cutT Fm (ptR 3 (-ve.toInt) va.toInt vb.toInt vc.toInt) (pvN vb.toInt vc.toInt)) 1) 2)), .int b0, .int b1, .ref po, .ref to, .ref ba, .ref li, .int lm])), (mm, IA cI 16 Fm), (tb, LA cJ 16 T6), (wk, LA cJ 20 W2_8), (pl, IA cI 24 plF), (sp, IA cI 40 spF), (ba, LA cJ 12 B5)] := hD.sub [3, 4, 5, 0, 1, 2, 6] (by decide) rfl
      have ht6 : ∀ a b, a < 3 → b < 3 → T6 (4 * a + b) = (cutT Fm (ptR 3 (-ve.toInt) va.toInt vb.toInt vc.toInt) (pvN vb.toInt vc.toInt)) (4 * (0 + a) + (0 + b)) := fun a b ha hb => by rw [ht6q a b (by omega) (by omega), fq_cut hbs (a + 0) (b + 0) (by omega) (by omega), Nat.add_comm a, Nat.add_comm b]
      have hyB : enB T6 (3 - 0) (tabB (3 - 0)) := enB_congr (prt_eq (f := 0) (by omega) ht6) (cutC_B (f := 0) (r := 3) (by decide) (pvN_le _ _) hF hG)
      refine lv_aload_n hx hb d_M_section_119 rfl (lv_at hl 0 rfl) ?_
      refine xcv (wc := [(g, .inr (2, [.int (nI 0), .int (nI d), .ref mm, .int ik, .ref kf, .ref tb, .int (nI (3 - 0)), .ref wk, .int (nI (abN (prt (cutT Fm (ptR 3 (-ve.toInt) va.toInt vb.toInt vc.toInt) (pvN vb.toInt vc.toInt)) 1) 2)), .int (nI (beN (prt (cutT Fm (ptR 3 (-ve.toInt) va.toInt vb.toInt vc.toInt) (pvN vb.toInt vc.toInt)) 1) 2)), .ref pl, .ref sp, .int (nI (abN (prt (cutT Fm (ptR 3 (-ve.toInt) va.toInt vb.toInt vc.toInt) (pvN vb.toInt vc.toInt)) 1) 2)), .int (nI (beN (prt (cutT Fm (ptR 3 (-ve.toInt) va.toInt vb.toInt vc.toInt) (pvN vb.toInt vc.toInt)) 1) 2)), .int b0, .int b1, .ref po, .ref to, .ref ba, .ref li, .int lm])), (tb, LA cJ 16 T6), (wk, LA cJ 20 W2_8)]) (wr := [(mm, IA cI 16 Fm), (pl, IA cI 24 plF), (sp, IA cI 40 spF), (ba, LA cJ 12 B5)]) hP hD hS hA [0, 2, 3] [1, 4, 5, 6] rfl rfl (by decide) (by decide) (va_runV (As := []) (rest := []) ⟨hx, hb, hml, hown, hts⟩ (r_findSigns l D cJ cI g (nI 0) d ik (nI (abN (prt (cutT Fm (ptR 3 (-ve.toInt) va.toInt vb.toInt vc.toInt) (pvN vb.toInt vc.toInt)) 1) 2)) (nI (beN (prt (cutT Fm (ptR 3 (-ve.toInt) va.toInt vb.toInt vc.toInt) (pvN vb.toInt vc.toInt)) 1) 2)) b0 b1 lm mm kf tb wk pl sp po to ba li (3 - 0) (nI (abN (prt (cutT Fm (ptR 3 (-ve.toInt) va.toInt vb.toInt vc.toInt) (pvN vb.toInt vc.toInt)) 1) 2)) (nI (beN (prt (cutT Fm (ptR 3 (-ve.toInt) va.toInt vb.toInt vc.toInt) (pvN vb.toInt vc.toInt)) 1) 2)) T6 W2_8 (by first | assumption | omega) (by first | assumption | omega) hyB H.size) (cwV 0 hts (gV tw_484 tw_486 tws_20 tw_3 tw_487) rfl rfl rfl ⟨rfl, hd_M_findSigns⟩ ⟨Nat.le_of_ble_eq_true rfl, Nat.le_of_ble_eq_true rfl⟩) (xPreV (C := R_M) (T := F_M) (N := 21) (q0 := 0) hN hK (hP.sub (ws' := [(g, .inr (2, [.int (nI 0), .int (nI d), .ref mm, .int ik, .ref kf, .ref tb, .int (nI (3 - 0)), .ref wk, .int (nI (abN (prt (cutT Fm (ptR 3 (-ve.toInt) va.toInt vb.toInt vc.toInt) (pvN vb.toInt vc.toInt)) 1) 2)), .int (nI (beN (prt (cutT Fm (ptR 3 (-ve.toInt) va.toInt vb.toInt vc.toInt) (pvN vb.toInt vc.toInt)) 1) 2)), .ref pl, .ref sp, .int (nI (abN (prt (cutT Fm (ptR 3 (-ve.toInt) va.toInt vb.toInt vc.toInt) (pvN vb.toInt vc.toInt)) 1) 2)), .int (nI (beN (prt (cutT Fm (ptR 3 (-ve.toInt) va.toInt vb.toInt vc.toInt) (pvN vb.toInt vc.toInt)) 1) 2)), .int b0, .int b1, .ref po, .ref to, .ref ba, .ref li, .int lm])), (tb, LA cJ 16 T6), (wk, LA cJ 20 W2_8)]) [0, 2, 3] rfl) (hD.sub (ws' := [(g, .inr (2, [.int (nI 0), .int (nI d), .ref mm, .int ik, .ref kf, .ref tb, .int (nI (3 - 0)), .ref wk, .int (nI (abN (prt (cutT Fm (ptR 3 (-ve.toInt) va.toInt vb.toInt vc.toInt) (pvN vb.toInt vc.toInt)) 1) 2)), .int (nI (beN (prt (cutT Fm (ptR 3 (-ve.toInt) va.toInt vb.toInt vc.toInt) (pvN vb.toInt vc.toInt)) 1) 2)), .ref pl, .ref sp, .int (nI (abN (prt (cutT Fm (ptR 3 (-ve.toInt) va.toInt vb.toInt vc.toInt) (pvN vb.toInt vc.toInt)) 1) 2)), .int (nI (beN (prt (cutT Fm (ptR 3 (-ve.toInt) va.toInt vb.toInt vc.toInt) (pvN vb.toInt vc.toInt)) 1) 2)), .int b0, .int b1, .ref po, .ref to, .ref ba, .ref li, .int lm])), (tb, LA cJ 16 T6), (wk, LA cJ 20 W2_8)]) [0, 2, 3] (by decide) rfl) rfl rfl) rfl rfl hl.1 rfl (lv_room (Nat.le_of_ble_eq_true rfl)) d_M_section_120 ⟨Nat.le_of_ble_eq_true rfl, Nat.le_of_ble_eq_true rfl⟩) (fun u_12 H locs hw_13 hP hD hS => ?_)
      obtain ⟨W2_14, rfl⟩ : ∃ z, z = u_12 := ⟨_, rfl⟩
      try dsimp only at hw_13
      have hP : va_P D vwC [(g, .inr (2, [.int (nI 0), .int (nI d), .ref mm, .int ik, .ref kf, .ref tb, .int (nI (3 - 0)), .ref wk, .int (nI (abN T6 (3 - 0))), .int (nI (beN T6 (3 - 0))), .ref pl, .ref sp, .int (nI (abN (prt (cutT Fm (ptR 3 (-ve.toInt) va.toInt vb.toInt vc.toInt) (pvN vb.toInt vc.toInt)) 1) 2)), .int (nI (beN (prt (cutT Fm (ptR 3 (-ve.toInt) va.toInt vb.toInt vc.toInt) (pvN vb.toInt vc.toInt)) 1) 2)), .int b0, .int b1, .ref po, .ref to, .ref ba, .ref li, .int lm])), (mm, IA cI 16 Fm), (tb, LA cJ 16 T6), (wk, LA cJ 20 W2_14), (pl, IA cI 24 plF), (sp, IA cI 40 spF), (ba, LA cJ 12 B5)] H := hP.sub [4, 0, 5, 6, 1, 2, 3] rfl
      have hD : va_D A [(g, .inr (2, [.int (nI 0), .int (nI d), .ref mm, .int ik, .ref kf, .ref tb, .int (nI (3 - 0)), .ref wk, .int (nI (abN T6 (3 - 0))), .int (nI (beN T6 (3 - 0))), .ref pl, .ref sp, .int (nI (abN (prt (cutT Fm (ptR 3 (-ve.toInt) va.toInt vb.toInt vc.toInt) (pvN vb.toInt vc.toInt)) 1) 2)), .int (nI (beN (prt (cutT Fm (ptR 3 (-ve.toInt) va.toInt vb.toInt vc.toInt) (pvN vb.toInt vc.toInt)) 1) 2)), .int b0, .int b1, .ref po, .ref to, .ref ba, .ref li, .int lm])), (mm, IA cI 16 Fm), (tb, LA cJ 16 T6), (wk, LA cJ 20 W2_14), (pl, IA cI 24 plF), (sp, IA cI 40 spF), (ba, LA cJ 12 B5)] := hD.sub [4, 0, 5, 6, 1, 2, 3] (by decide) rfl
      have eya : abN T6 (3 - 0) = abN (prt (cutT Fm (ptR 3 (-ve.toInt) va.toInt vb.toInt vc.toInt) (pvN vb.toInt vc.toInt)) 0) 3 := abN_congr (by omega) (by omega) (prt_eq (by omega) ht6)
      have eyb : beN T6 (3 - 0) = beN (prt (cutT Fm (ptR 3 (-ve.toInt) va.toInt vb.toInt vc.toInt) (pvN vb.toInt vc.toInt)) 0) 3 := beN_congr (by omega) (by omega) (prt_eq (by omega) ht6)
      rw [eya, eyb] at hP hD
      have hP : va_P D vwC [(g, .inr (2, [.int (nI 0), .int (nI d), .ref mm, .int ik, .ref kf, .ref tb, .int (nI (3 - 0)), .ref wk, .int (nI (abN (prt (cutT Fm (ptR 3 (-ve.toInt) va.toInt vb.toInt vc.toInt) (pvN vb.toInt vc.toInt)) 0) 3)), .int (nI (beN (prt (cutT Fm (ptR 3 (-ve.toInt) va.toInt vb.toInt vc.toInt) (pvN vb.toInt vc.toInt)) 0) 3)), .ref pl, .ref sp, .int (nI (abN (prt (cutT Fm (ptR 3 (-ve.toInt) va.toInt vb.toInt vc.toInt) (pvN vb.toInt vc.toInt)) 1) 2)), .int (nI (beN (prt (cutT Fm (ptR 3 (-ve.toInt) va.toInt vb.toInt vc.toInt) (pvN vb.toInt vc.toInt)) 1) 2)), .int b0, .int b1, .ref po, .ref to, .ref ba, .ref li, .int lm])), (mm, IA cI 16 Fm), (tb, LA cJ 16 T6), (wk, LA cJ 20 W2_14), (pl, IA cI 24 plF), (sp, IA cI 40 spF), (ba, LA cJ 12 B5)] H := hP
      have hD : va_D A [(g, .inr (2, [.int (nI 0), .int (nI d), .ref mm, .int ik, .ref kf, .ref tb, .int (nI (3 - 0)), .ref wk, .int (nI (abN (prt (cutT Fm (ptR 3 (-ve.toInt) va.toInt vb.toInt vc.toInt) (pvN vb.toInt vc.toInt)) 0) 3)), .int (nI (beN (prt (cutT Fm (ptR 3 (-ve.toInt) va.toInt vb.toInt vc.toInt) (pvN vb.toInt vc.toInt)) 0) 3)), .ref pl, .ref sp, .int (nI (abN (prt (cutT Fm (ptR 3 (-ve.toInt) va.toInt vb.toInt vc.toInt) (pvN vb.toInt vc.toInt)) 1) 2)), .int (nI (beN (prt (cutT Fm (ptR 3 (-ve.toInt) va.toInt vb.toInt vc.toInt) (pvN vb.toInt vc.toInt)) 1) 2)), .int b0, .int b1, .ref po, .ref to, .ref ba, .ref li, .int lm])), (mm, IA cI 16 Fm), (tb, LA cJ 16 T6), (wk, LA cJ 20 W2_14), (pl, IA cI 24 plF), (sp, IA cI 40 spF), (ba, LA cJ 12 B5)] := hD
      refine lv_aload_n hx hb d_M_section_123 rfl (lv_at hl 0 rfl) ?_
      refine lv_aload_n hx hb d_M_section_124 rfl (lv_at hl 0 rfl) ?_
      refine va_get (D := D) (ci := 2) (v := .int (nI (abN (prt (cutT Fm (ptR 3 (-ve.toInt) va.toInt vb.toInt vc.toInt) (pvN vb.toInt vc.toInt)) 0) 3))) (C := R_M) (T := F_M) (N := 21) hx hb hts iw_M hown hK hP 0 rfl rfl 8 (by decide) (hts _ tw_395) (fun _ h9 => h9) rfl d_M_section_125 ?_
      refine va_put (D := D) (ci := 2) (v := .int (nI (abN (prt (cutT Fm (ptR 3 (-ve.toInt) va.toInt vb.toInt vc.toInt) (pvN vb.toInt vc.toInt)) 0) 3))) (ty := .int) (C := R_M) (T := F_M) (N := 21) hx hb hts iw_M ft_M ft_M_ok n_M hown hK hP hD hS 0 rfl rfl 14 (by decide) (hts _ tw_401) (fun _ h9 => h9) rfl (by decide +kernel) rfl rfl (Nat.le_of_ble_eq_true rfl) d_M_section_128 (fun H locs hP hD hS => ?_)
      have hP : va_P D vwC [(g, .inr (2, [.int (nI 0), .int (nI d), .ref mm, .int ik, .ref kf, .ref tb, .int (nI (3 - 0)), .ref wk, .int (nI (abN (prt (cutT Fm (ptR 3 (-ve.toInt) va.toInt vb.toInt vc.toInt) (pvN vb.toInt vc.toInt)) 0) 3)), .int (nI (beN (prt (cutT Fm (ptR 3 (-ve.toInt) va.toInt vb.toInt vc.toInt) (pvN vb.toInt vc.toInt)) 0) 3)), .ref pl, .ref sp, .int (nI (abN (prt (cutT Fm (ptR 3 (-ve.toInt) va.toInt vb.toInt vc.toInt) (pvN vb.toInt vc.toInt)) 1) 2)), .int (nI (beN (prt (cutT Fm (ptR 3 (-ve.toInt) va.toInt vb.toInt vc.toInt) (pvN vb.toInt vc.toInt)) 1) 2)), .int (nI (abN (prt (cutT Fm (ptR 3 (-ve.toInt) va.toInt vb.toInt vc.toInt) (pvN vb.toInt vc.toInt)) 0) 3)), .int b1, .ref po, .ref to, .ref ba, .ref li, .int lm])), (mm, IA cI 16 Fm), (tb, LA cJ 16 T6), (wk, LA cJ 20 W2_14), (pl, IA cI 24 plF), (sp, IA cI 40 spF), (ba, LA cJ 12 B5)] H := hP
      have hD : va_D A [(g, .inr (2, [.int (nI 0), .int (nI d), .ref mm, .int ik, .ref kf, .ref tb, .int (nI (3 - 0)), .ref wk, .int (nI (abN (prt (cutT Fm (ptR 3 (-ve.toInt) va.toInt vb.toInt vc.toInt) (pvN vb.toInt vc.toInt)) 0) 3)), .int (nI (beN (prt (cutT Fm (ptR 3 (-ve.toInt) va.toInt vb.toInt vc.toInt) (pvN vb.toInt vc.toInt)) 0) 3)), .ref pl, .ref sp, .int (nI (abN (prt (cutT Fm (ptR 3 (-ve.toInt) va.toInt vb.toInt vc.toInt) (pvN vb.toInt vc.toInt)) 1) 2)), .int (nI (beN (prt (cutT Fm (ptR 3 (-ve.toInt) va.toInt vb.toInt vc.toInt) (pvN vb.toInt vc.toInt)) 1) 2)), .int (nI (abN (prt (cutT Fm (ptR 3 (-ve.toInt) va.toInt vb.toInt vc.toInt) (pvN vb.toInt vc.toInt)) 0) 3)), .int b1, .ref po, .ref to, .ref ba, .ref li, .int lm])), (mm, IA cI 16 Fm), (tb, LA cJ 16 T6), (wk, LA cJ 20 W2_14), (pl, IA cI 24 plF), (sp, IA cI 40 spF), (ba, LA cJ 12 B5)] := hD
      refine lv_aload_n hx hb d_M_section_131 rfl (lv_at hl 0 rfl) ?_
      refine lv_aload_n hx hb d_M_section_132 rfl (lv_at hl 0 rfl) ?_
      refine va_get (D := D) (ci := 2) (v := .int (nI (beN (prt (cutT Fm (ptR 3 (-ve.toInt) va.toInt vb.toInt vc.toInt) (pvN vb.toInt vc.toInt)) 0) 3))) (C := R_M) (T := F_M) (N := 21) hx hb hts iw_M hown hK hP 0 rfl rfl 9 (by decide) (hts _ tw_396) (fun _ h9 => h9) rfl d_M_section_133 ?_
      refine va_put (D := D) (ci := 2) (v := .int (nI (beN (prt (cutT Fm (ptR 3 (-ve.toInt) va.toInt vb.toInt vc.toInt) (pvN vb.toInt vc.toInt)) 0) 3))) (ty := .int) (C := R_M) (T := F_M) (N := 21) hx hb hts iw_M ft_M ft_M_ok n_M hown hK hP hD hS 0 rfl rfl 15 (by decide) (hts _ tw_402) (fun _ h9 => h9) rfl (by decide +kernel) rfl rfl (Nat.le_of_ble_eq_true rfl) d_M_section_136 (fun H locs hP hD hS => ?_)
      have hP : va_P D vwC [(g, .inr (2, [.int (nI 0), .int (nI d), .ref mm, .int ik, .ref kf, .ref tb, .int (nI (3 - 0)), .ref wk, .int (nI (abN (prt (cutT Fm (ptR 3 (-ve.toInt) va.toInt vb.toInt vc.toInt) (pvN vb.toInt vc.toInt)) 0) 3)), .int (nI (beN (prt (cutT Fm (ptR 3 (-ve.toInt) va.toInt vb.toInt vc.toInt) (pvN vb.toInt vc.toInt)) 0) 3)), .ref pl, .ref sp, .int (nI (abN (prt (cutT Fm (ptR 3 (-ve.toInt) va.toInt vb.toInt vc.toInt) (pvN vb.toInt vc.toInt)) 1) 2)), .int (nI (beN (prt (cutT Fm (ptR 3 (-ve.toInt) va.toInt vb.toInt vc.toInt) (pvN vb.toInt vc.toInt)) 1) 2)), .int (nI (abN (prt (cutT Fm (ptR 3 (-ve.toInt) va.toInt vb.toInt vc.toInt) (pvN vb.toInt vc.toInt)) 0) 3)), .int (nI (beN (prt (cutT Fm (ptR 3 (-ve.toInt) va.toInt vb.toInt vc.toInt) (pvN vb.toInt vc.toInt)) 0) 3)), .ref po, .ref to, .ref ba, .ref li, .int lm])), (mm, IA cI 16 Fm), (tb, LA cJ 16 T6), (wk, LA cJ 20 W2_14), (pl, IA cI 24 plF), (sp, IA cI 40 spF), (ba, LA cJ 12 B5)] H := hP
      have hD : va_D A [(g, .inr (2, [.int (nI 0), .int (nI d), .ref mm, .int ik, .ref kf, .ref tb, .int (nI (3 - 0)), .ref wk, .int (nI (abN (prt (cutT Fm (ptR 3 (-ve.toInt) va.toInt vb.toInt vc.toInt) (pvN vb.toInt vc.toInt)) 0) 3)), .int (nI (beN (prt (cutT Fm (ptR 3 (-ve.toInt) va.toInt vb.toInt vc.toInt) (pvN vb.toInt vc.toInt)) 0) 3)), .ref pl, .ref sp, .int (nI (abN (prt (cutT Fm (ptR 3 (-ve.toInt) va.toInt vb.toInt vc.toInt) (pvN vb.toInt vc.toInt)) 1) 2)), .int (nI (beN (prt (cutT Fm (ptR 3 (-ve.toInt) va.toInt vb.toInt vc.toInt) (pvN vb.toInt vc.toInt)) 1) 2)), .int (nI (abN (prt (cutT Fm (ptR 3 (-ve.toInt) va.toInt vb.toInt vc.toInt) (pvN vb.toInt vc.toInt)) 0) 3)), .int (nI (beN (prt (cutT Fm (ptR 3 (-ve.toInt) va.toInt vb.toInt vc.toInt) (pvN vb.toInt vc.toInt)) 0) 3)), .ref po, .ref to, .ref ba, .ref li, .int lm])), (mm, IA cI 16 Fm), (tb, LA cJ 16 T6), (wk, LA cJ 20 W2_14), (pl, IA cI 24 plF), (sp, IA cI 40 spF), (ba, LA cJ 12 B5)] := hD
      refine lv_aload_n hx hb d_M_section_139 rfl (lv_at hl 0 rfl) ?_
      refine lv_iconst (v := nI 1) hx hb d_M_section_140 (by decide) ?_
      refine xci (wc := [(g, .inr (2, [.int (nI 0), .int (nI d), .ref mm, .int ik, .ref kf, .ref tb, .int (nI (3 - 0)), .ref wk, .int (nI (abN (prt (cutT Fm (ptR 3 (-ve.toInt) va.toInt vb.toInt vc.toInt) (pvN vb.toInt vc.toInt)) 0) 3)), .int (nI (beN (prt (cutT Fm (ptR 3 (-ve.toInt) va.toInt vb.toInt vc.toInt) (pvN vb.toInt vc.toInt)) 0) 3)), .ref pl, .ref sp, .int (nI (abN (prt (cutT Fm (ptR 3 (-ve.toInt) va.toInt vb.toInt vc.toInt) (pvN vb.toInt vc.toInt)) 1) 2)), .int (nI (beN (prt (cutT Fm (ptR 3 (-ve.toInt) va.toInt vb.toInt vc.toInt) (pvN vb.toInt vc.toInt)) 1) 2)), .int (nI (abN (prt (cutT Fm (ptR 3 (-ve.toInt) va.toInt vb.toInt vc.toInt) (pvN vb.toInt vc.toInt)) 0) 3)), .int (nI (beN (prt (cutT Fm (ptR 3 (-ve.toInt) va.toInt vb.toInt vc.toInt) (pvN vb.toInt vc.toInt)) 0) 3)), .ref po, .ref to, .ref ba, .ref li, .int lm])), (pl, IA cI 24 plF), (sp, IA cI 40 spF)]) (wr := [(mm, IA cI 16 Fm), (tb, LA cJ 16 T6), (wk, LA cJ 20 W2_14), (ba, LA cJ 12 B5)]) hP hD hS hA [0, 4, 5] [1, 2, 3, 6] rfl rfl (by decide) (by decide) (va_runV (As := [.int (nI 1)]) (rest := []) ⟨hx, hb, hml, hown, hts⟩ (r_kindP l D cJ cI g (nI 0) d ik (nI (3 - 0)) (nI (abN (prt (cutT Fm (ptR 3 (-ve.toInt) va.toInt vb.toInt vc.toInt) (pvN vb.toInt vc.toInt)) 0) 3)) (nI (beN (prt (cutT Fm (ptR 3 (-ve.toInt) va.toInt vb.toInt vc.toInt) (pvN vb.toInt vc.toInt)) 0) 3)) lm mm kf tb wk pl sp po to ba li (abN (prt (cutT Fm (ptR 3 (-ve.toInt) va.toInt vb.toInt vc.toInt) (pvN vb.toInt vc.toInt)) 1) 2) (beN (prt (cutT Fm (ptR 3 (-ve.toInt) va.toInt vb.toInt vc.toInt) (pvN vb.toInt vc.toInt)) 1) 2) (abN (prt (cutT Fm (ptR 3 (-ve.toInt) va.toInt vb.toInt vc.toInt) (pvN vb.toInt vc.toInt)) 0) 3) (beN (prt (cutT Fm (ptR 3 (-ve.toInt) va.toInt vb.toInt vc.toInt) (pvN vb.toInt vc.toInt)) 0) 3) (Nat.le_trans (abN_le _ _) (by omega)) (Nat.le_trans (beN_le _ _) (by omega)) (Nat.le_trans (abN_le _ _) (by omega)) (Nat.le_trans (beN_le _ _) (by omega)) H.size) (cwV 1 hts (gV tw_507 tw_509 tws_25 tw_3 tw_510) rfl rfl rfl ⟨rfl, hd_M_kindOf⟩ ⟨Nat.le_of_ble_eq_true rfl, Nat.le_of_ble_eq_true rfl⟩) (xPreV (C := R_M) (T := F_M) (N := 21) (q0 := 0) hN hK (hP.sub (ws' := [(g, .inr (2, [.int (nI 0), .int (nI d), .ref mm, .int ik, .ref kf, .ref tb, .int (nI (3 - 0)), .ref wk, .int (nI (abN (prt (cutT Fm (ptR 3 (-ve.toInt) va.toInt vb.toInt vc.toInt) (pvN vb.toInt vc.toInt)) 0) 3)), .int (nI (beN (prt (cutT Fm (ptR 3 (-ve.toInt) va.toInt vb.toInt vc.toInt) (pvN vb.toInt vc.toInt)) 0) 3)), .ref pl, .ref sp, .int (nI (abN (prt (cutT Fm (ptR 3 (-ve.toInt) va.toInt vb.toInt vc.toInt) (pvN vb.toInt vc.toInt)) 1) 2)), .int (nI (beN (prt (cutT Fm (ptR 3 (-ve.toInt) va.toInt vb.toInt vc.toInt) (pvN vb.toInt vc.toInt)) 1) 2)), .int (nI (abN (prt (cutT Fm (ptR 3 (-ve.toInt) va.toInt vb.toInt vc.toInt) (pvN vb.toInt vc.toInt)) 0) 3)), .int (nI (beN (prt (cutT Fm (ptR 3 (-ve.toInt) va.toInt vb.toInt vc.toInt) (pvN vb.toInt vc.toInt)) 0) 3)), .ref po, .ref to, .ref ba, .ref li, .int lm])), (pl, IA cI 24 plF), (sp, IA cI 40 spF)]) [0, 4, 5] rfl) (hD.sub (ws' := [(g, .inr (2, [.int (nI 0), .int (nI d), .ref mm, .int ik, .ref kf, .ref tb, .int (nI (3 - 0)), .ref wk, .int (nI (abN (prt (cutT Fm (ptR 3 (-ve.toInt) va.toInt vb.toInt vc.toInt) (pvN vb.toInt vc.toInt)) 0) 3)), .int (nI (beN (prt (cutT Fm (ptR 3 (-ve.toInt) va.toInt vb.toInt vc.toInt) (pvN vb.toInt vc.toInt)) 0) 3)), .ref pl, .ref sp, .int (nI (abN (prt (cutT Fm (ptR 3 (-ve.toInt) va.toInt vb.toInt vc.toInt) (pvN vb.toInt vc.toInt)) 1) 2)), .int (nI (beN (prt (cutT Fm (ptR 3 (-ve.toInt) va.toInt vb.toInt vc.toInt) (pvN vb.toInt vc.toInt)) 1) 2)), .int (nI (abN (prt (cutT Fm (ptR 3 (-ve.toInt) va.toInt vb.toInt vc.toInt) (pvN vb.toInt vc.toInt)) 0) 3)), .int (nI (beN (prt (cutT Fm (ptR 3 (-ve.toInt) va.toInt vb.toInt vc.toInt) (pvN vb.toInt vc.toInt)) 0) 3)), .ref po, .ref to, .ref ba, .ref li, .int lm])), (pl, IA cI 24 plF), (sp, IA cI 40 spF)]) [0, 4, 5] (by decide) rfl) rfl rfl) rfl rfl hl.1 rfl (lv_room (Nat.le_of_ble_eq_true rfl)) d_M_section_141 ⟨Nat.le_of_ble_eq_true rfl, Nat.le_of_ble_eq_true rfl⟩) (fun r_15 u_16 H locs hw_17 hP hD hS => ?_)
      try dsimp only at hw_17
      have hP : va_P D vwC [(g, .inr (2, [.int (nI 0), .int (nI d), .ref mm, .int ik, .ref kf, .ref tb, .int (nI (3 - 0)), .ref wk, .int (nI (abN (prt (cutT Fm (ptR 3 (-ve.toInt) va.toInt vb.toInt vc.toInt) (pvN vb.toInt vc.toInt)) 0) 3)), .int (nI (beN (prt (cutT Fm (ptR 3 (-ve.toInt) va.toInt vb.toInt vc.toInt) (pvN vb.toInt vc.toInt)) 0) 3)), .ref pl, .ref sp, .int (nI (abN (prt (cutT Fm (ptR 3 (-ve.toInt) va.toInt vb.toInt vc.toInt) (pvN vb.toInt vc.toInt)) 1) 2)), .int (nI (beN (prt (cutT Fm (ptR 3 (-ve.toInt) va.toInt vb.toInt vc.toInt) (pvN vb.toInt vc.toInt)) 1) 2)), .int (nI (abN (prt (cutT Fm (ptR 3 (-ve.toInt) va.toInt vb.toInt vc.toInt) (pvN vb.toInt vc.toInt)) 0) 3)), .int (nI (beN (prt (cutT Fm (ptR 3 (-ve.toInt) va.toInt vb.toInt vc.toInt) (pvN vb.toInt vc.toInt)) 0) 3)), .ref po, .ref to, .ref ba, .ref li, .int lm])), (mm, IA cI 16 Fm), (tb, LA cJ 16 T6), (wk, LA cJ 20 W2_14), (pl, IA cI 24 plF), (sp, IA cI 40 spF), (ba, LA cJ 12 B5)] H := hP.sub [4, 0, 1, 2, 5, 6, 3] rfl
      have hD : va_D A [(g, .inr (2, [.int (nI 0), .int (nI d), .ref mm, .int ik, .ref kf, .ref tb, .int (nI (3 - 0)), .ref wk, .int (nI (abN (prt (cutT Fm (ptR 3 (-ve.toInt) va.toInt vb.toInt vc.toInt) (pvN vb.toInt vc.toInt)) 0) 3)), .int (nI (beN (prt (cutT Fm (ptR 3 (-ve.toInt) va.toInt vb.toInt vc.toInt) (pvN vb.toInt vc.toInt)) 0) 3)), .ref pl, .ref sp, .int (nI (abN (prt (cutT Fm (ptR 3 (-ve.toInt) va.toInt vb.toInt vc.toInt) (pvN vb.toInt vc.toInt)) 1) 2)), .int (nI (beN (prt (cutT Fm (ptR 3 (-ve.toInt) va.toInt vb.toInt vc.toInt) (pvN vb.toInt vc.toInt)) 1) 2)), .int (nI (abN (prt (cutT Fm (ptR 3 (-ve.toInt) va.toInt vb.toInt vc.toInt) (pvN vb.toInt vc.toInt)) 0) 3)), .int (nI (beN (prt (cutT Fm (ptR 3 (-ve.toInt) va.toInt vb.toInt vc.toInt) (pvN vb.toInt vc.toInt)) 0) 3)), .ref po, .ref to, .ref ba, .ref li, .int lm])), (mm, IA cI 16 Fm), (tb, LA cJ 16 T6), (wk, LA cJ 20 W2_14), (pl, IA cI 24 plF), (sp, IA cI 40 spF), (ba, LA cJ 12 B5)] := hD.sub [4, 0, 1, 2, 5, 6, 3] (by decide) rfl
      subst hw_17
      exact hret H locs _ ls (iI (fndN plF (keyN (abN (prt (cutT Fm (ptR 3 (-ve.toInt) va.toInt vb.toInt vc.toInt) (pvN vb.toInt vc.toInt)) 1) 2) (beN (prt (cutT Fm (ptR 3 (-ve.toInt) va.toInt vb.toInt vc.toInt) (pvN vb.toInt vc.toInt)) 1) 2) (abN (prt (cutT Fm (ptR 3 (-ve.toInt) va.toInt vb.toInt vc.toInt) (pvN vb.toInt vc.toInt)) 0) 3) (beN (prt (cutT Fm (ptR 3 (-ve.toInt) va.toInt vb.toInt vc.toInt) (pvN vb.toInt vc.toInt)) 0) 3) : Nat) 12)) (nI (3 - 0), nI (abN (prt (cutT Fm (ptR 3 (-ve.toInt) va.toInt vb.toInt vc.toInt) (pvN vb.toInt vc.toInt)) 0) 3), nI (beN (prt (cutT Fm (ptR 3 (-ve.toInt) va.toInt vb.toInt vc.toInt) (pvN vb.toInt vc.toInt)) 0) 3), nI (abN (prt (cutT Fm (ptR 3 (-ve.toInt) va.toInt vb.toInt vc.toInt) (pvN vb.toInt vc.toInt)) 1) 2), nI (beN (prt (cutT Fm (ptR 3 (-ve.toInt) va.toInt vb.toInt vc.toInt) (pvN vb.toInt vc.toInt)) 1) 2), nI (abN (prt (cutT Fm (ptR 3 (-ve.toInt) va.toInt vb.toInt vc.toInt) (pvN vb.toInt vc.toInt)) 0) 3), nI (beN (prt (cutT Fm (ptR 3 (-ve.toInt) va.toInt vb.toInt vc.toInt) (pvN vb.toInt vc.toInt)) 0) 3), T6, W2_14, B5) d_M_section_144 (by first | exact (by rw [s_seM_f (show ¬ d = 2 from by omega) hok]; rfl) | (dsimp only; exact (by rw [s_seM_f (show ¬ d = 2 from by omega) hok]; rfl))) hP hD hS
    refine lv_aload_n hx hb d_M_section_5 rfl (lv_at hl 0 rfl) ?_
    refine va_get (D := D) (ci := 2) (v := .int (nI d)) (C := R_M) (T := F_M) (N := 21) hx hb hts iw_M hown hK hP 0 rfl rfl 1 (by decide) (hts _ tw_388) (fun _ h9 => h9) rfl d_M_section_6 ?_
    refine lv_iconst (v := nI 2) hx hb d_M_section_9 (by decide) ?_
    refine xn_ne (tgt := 16) hx hb (by omega) (by omega) d_M_section_10 (by decide) (fun c10_17 => ?_) (fun c10_17 => ?_)
    · skip
      refine lv_iload_n hx hb d_M_section_16 rfl (lv_at hl 1 rfl) ?_
      refine lv_i2l (v := lI va.toInt) hx hb d_M_section_17 rfl ?_
      refine lv_bipush (v := (-10)) hx hb d_M_section_18 (by decide) ?_
      refine lv_bipush (v := nI 10) hx hb d_M_section_20 (by decide) ?_
      refine xci (wc := []) (wr := [(g, .inr (2, [.int (nI 0), .int (nI d), .ref mm, .int ik, .ref kf, .ref tb, .int rw, .ref wk, .int ab, .int be, .ref pl, .ref sp, .int a0, .int a1, .int b0, .int b1, .ref po, .ref to, .ref ba, .ref li, .int lm])), (mm, IA cI 16 Fm), (tb, LA cJ 16 T), (wk, LA cJ 20 W0), (pl, IA cI 24 plF), (sp, IA cI 40 spF), (ba, LA cJ 12 Bs)]) hP hD hS hA [] [0, 1, 2, 3, 4, 5, 6] rfl rfl (by decide) (by decide) (va_runS (As := [.long (lI va.toInt), .int (-10), .int (nI 10)]) (rest := []) ⟨hx, hb, hml, hown, hts⟩ (r_in l D cJ cI va.toInt (-10) (nI 10) (lB_i _) H.size) (cwS 3 hts (gS tw_464 tw_465 tw_3 tw_466) rfl rfl rfl ⟨rfl, hd_M_in⟩ ⟨Nat.le_of_ble_eq_true rfl, Nat.le_of_ble_eq_true rfl⟩) (xPreS hN hK (hP.sub (ws' := []) [] rfl) (hD.sub (ws' := []) [] (by decide) rfl)) rfl rfl hl.1 rfl (lv_room (Nat.le_of_ble_eq_true rfl)) d_M_section_22 ⟨Nat.le_of_ble_eq_true rfl, Nat.le_of_ble_eq_true rfl⟩) (fun r_19 u_20 H locs w1 hP hD hS => ?_)
      try dsimp only at w1
      have hP : va_P D vwC [(g, .inr (2, [.int (nI 0), .int (nI d), .ref mm, .int ik, .ref kf, .ref tb, .int rw, .ref wk, .int ab, .int be, .ref pl, .ref sp, .int a0, .int a1, .int b0, .int b1, .ref po, .ref to, .ref ba, .ref li, .int lm])), (mm, IA cI 16 Fm), (tb, LA cJ 16 T), (wk, LA cJ 20 W0), (pl, IA cI 24 plF), (sp, IA cI 40 spF), (ba, LA cJ 12 Bs)] H := hP
      have hD : va_D A [(g, .inr (2, [.int (nI 0), .int (nI d), .ref mm, .int ik, .ref kf, .ref tb, .int rw, .ref wk, .int ab, .int be, .ref pl, .ref sp, .int a0, .int a1, .int b0, .int b1, .ref po, .ref to, .ref ba, .ref li, .int lm])), (mm, IA cI 16 Fm), (tb, LA cJ 16 T), (wk, LA cJ 20 W0), (pl, IA cI 24 plF), (sp, IA cI 40 spF), (ba, LA cJ 12 Bs)] := hD
      rcases w1 with ⟨rfl, w1⟩ | ⟨rfl, w1⟩
      · skip
        refine xz_eq (tgt := 77) (X := (1 : Nat)) hx hb (nI_toInt (by omega)) d_M_section_25 (by decide) (fun c25_20 => absurd c25_20 (by omega)) (fun c25_20 => ?_)
        refine lv_iload_n hx hb d_M_section_28 rfl (lv_at hl 2 rfl) ?_
        refine lv_i2l (v := lI vb.toInt) hx hb d_M_section_29 rfl ?_
        refine lv_bipush (v := (-10)) hx hb d_M_section_30 (by decide) ?_
        refine lv_bipush (v := nI 10) hx hb d_M_section_32 (by decide) ?_
        refine xci (wc := []) (wr := [(g, .inr (2, [.int (nI 0), .int (nI d), .ref mm, .int ik, .ref kf, .ref tb, .int rw, .ref wk, .int ab, .int be, .ref pl, .ref sp, .int a0, .int a1, .int b0, .int b1, .ref po, .ref to, .ref ba, .ref li, .int lm])), (mm, IA cI 16 Fm), (tb, LA cJ 16 T), (wk, LA cJ 20 W0), (pl, IA cI 24 plF), (sp, IA cI 40 spF), (ba, LA cJ 12 Bs)]) hP hD hS hA [] [0, 1, 2, 3, 4, 5, 6] rfl rfl (by decide) (by decide) (va_runS (As := [.long (lI vb.toInt), .int (-10), .int (nI 10)]) (rest := []) ⟨hx, hb, hml, hown, hts⟩ (r_in l D cJ cI vb.toInt (-10) (nI 10) (lB_i _) H.size) (cwS 3 hts (gS tw_464 tw_465 tw_3 tw_466) rfl rfl rfl ⟨rfl, hd_M_in⟩ ⟨Nat.le_of_ble_eq_true rfl, Nat.le_of_ble_eq_true rfl⟩) (xPreS hN hK (hP.sub (ws' := []) [] rfl) (hD.sub (ws' := []) [] (by decide) rfl)) rfl rfl hl.1 rfl (lv_room (Nat.le_of_ble_eq_true rfl)) d_M_section_34 ⟨Nat.le_of_ble_eq_true rfl, Nat.le_of_ble_eq_true rfl⟩) (fun r_22 u_23 H locs w2 hP hD hS => ?_)
        try dsimp only at w2
        have hP : va_P D vwC [(g, .inr (2, [.int (nI 0), .int (nI d), .ref mm, .int ik, .ref kf, .ref tb, .int rw, .ref wk, .int ab, .int be, .ref pl, .ref sp, .int a0, .int a1, .int b0, .int b1, .ref po, .ref to, .ref ba, .ref li, .int lm])), (mm, IA cI 16 Fm), (tb, LA cJ 16 T), (wk, LA cJ 20 W0), (pl, IA cI 24 plF), (sp, IA cI 40 spF), (ba, LA cJ 12 Bs)] H := hP
        have hD : va_D A [(g, .inr (2, [.int (nI 0), .int (nI d), .ref mm, .int ik, .ref kf, .ref tb, .int rw, .ref wk, .int ab, .int be, .ref pl, .ref sp, .int a0, .int a1, .int b0, .int b1, .ref po, .ref to, .ref ba, .ref li, .int lm])), (mm, IA cI 16 Fm), (tb, LA cJ 16 T), (wk, LA cJ 20 W0), (pl, IA cI 24 plF), (sp, IA cI 40 spF), (ba, LA cJ 12 Bs)] := hD
        rcases w2 with ⟨rfl, w2⟩ | ⟨rfl, w2⟩
        · skip
          refine xz_eq (tgt := 77) (X := (1 : Nat)) hx hb (nI_toInt (by omega)) d_M_section_37 (by decide) (fun c37_23 => absurd c37_23 (by omega)) (fun c37_23 => ?_)
          refine lv_iload_n hx hb d_M_section_40 rfl (lv_at hl 3 rfl) ?_
          refine lv_i2l (v := lI vc.toInt) hx hb d_M_section_41 rfl ?_
          refine lv_bipush (v := (-10)) hx hb d_M_section_42 (by decide) ?_
          refine lv_bipush (v := nI 10) hx hb d_M_section_44 (by decide) ?_
          refine xci (wc := []) (wr := [(g, .inr (2, [.int (nI 0), .int (nI d), .ref mm, .int ik, .ref kf, .ref tb, .int rw, .ref wk, .int ab, .int be, .ref pl, .ref sp, .int a0, .int a1, .int b0, .int b1, .ref po, .ref to, .ref ba, .ref li, .int lm])), (mm, IA cI 16 Fm), (tb, LA cJ 16 T), (wk, LA cJ 20 W0), (pl, IA cI 24 plF), (sp, IA cI 40 spF), (ba, LA cJ 12 Bs)]) hP hD hS hA [] [0, 1, 2, 3, 4, 5, 6] rfl rfl (by decide) (by decide) (va_runS (As := [.long (lI vc.toInt), .int (-10), .int (nI 10)]) (rest := []) ⟨hx, hb, hml, hown, hts⟩ (r_in l D cJ cI vc.toInt (-10) (nI 10) (lB_i _) H.size) (cwS 3 hts (gS tw_464 tw_465 tw_3 tw_466) rfl rfl rfl ⟨rfl, hd_M_in⟩ ⟨Nat.le_of_ble_eq_true rfl, Nat.le_of_ble_eq_true rfl⟩) (xPreS hN hK (hP.sub (ws' := []) [] rfl) (hD.sub (ws' := []) [] (by decide) rfl)) rfl rfl hl.1 rfl (lv_room (Nat.le_of_ble_eq_true rfl)) d_M_section_46 ⟨Nat.le_of_ble_eq_true rfl, Nat.le_of_ble_eq_true rfl⟩) (fun r_25 u_26 H locs w3 hP hD hS => ?_)
          try dsimp only at w3
          have hP : va_P D vwC [(g, .inr (2, [.int (nI 0), .int (nI d), .ref mm, .int ik, .ref kf, .ref tb, .int rw, .ref wk, .int ab, .int be, .ref pl, .ref sp, .int a0, .int a1, .int b0, .int b1, .ref po, .ref to, .ref ba, .ref li, .int lm])), (mm, IA cI 16 Fm), (tb, LA cJ 16 T), (wk, LA cJ 20 W0), (pl, IA cI 24 plF), (sp, IA cI 40 spF), (ba, LA cJ 12 Bs)] H := hP
          have hD : va_D A [(g, .inr (2, [.int (nI 0), .int (nI d), .ref mm, .int ik, .ref kf, .ref tb, .int rw, .ref wk, .int ab, .int be, .ref pl, .ref sp, .int a0, .int a1, .int b0, .int b1, .ref po, .ref to, .ref ba, .ref li, .int lm])), (mm, IA cI 16 Fm), (tb, LA cJ 16 T), (wk, LA cJ 20 W0), (pl, IA cI 24 plF), (sp, IA cI 40 spF), (ba, LA cJ 12 Bs)] := hD
          rcases w3 with ⟨rfl, w3⟩ | ⟨rfl, w3⟩
          · skip
            refine xz_eq (tgt := 77) (X := (1 : Nat)) hx hb (nI_toInt (by omega)) d_M_section_49 (by decide) (fun c49_26 => absurd c49_26 (by omega)) (fun c49_26 => ?_)
            refine lv_iload hx hb d_M_section_52 (lv_at hl 4 rfl) ?_
            refine lv_i2l (v := lI ve.toInt) hx hb d_M_section_54 rfl ?_
            refine lv_bipush (v := (-10)) hx hb d_M_section_55 (by decide) ?_
            refine lv_bipush (v := nI 10) hx hb d_M_section_57 (by decide) ?_
            refine xci (wc := []) (wr := [(g, .inr (2, [.int (nI 0), .int (nI d), .ref mm, .int ik, .ref kf, .ref tb, .int rw, .ref wk, .int ab, .int be, .ref pl, .ref sp, .int a0, .int a1, .int b0, .int b1, .ref po, .ref to, .ref ba, .ref li, .int lm])), (mm, IA cI 16 Fm), (tb, LA cJ 16 T), (wk, LA cJ 20 W0), (pl, IA cI 24 plF), (sp, IA cI 40 spF), (ba, LA cJ 12 Bs)]) hP hD hS hA [] [0, 1, 2, 3, 4, 5, 6] rfl rfl (by decide) (by decide) (va_runS (As := [.long (lI ve.toInt), .int (-10), .int (nI 10)]) (rest := []) ⟨hx, hb, hml, hown, hts⟩ (r_in l D cJ cI ve.toInt (-10) (nI 10) (lB_i _) H.size) (cwS 3 hts (gS tw_464 tw_465 tw_3 tw_466) rfl rfl rfl ⟨rfl, hd_M_in⟩ ⟨Nat.le_of_ble_eq_true rfl, Nat.le_of_ble_eq_true rfl⟩) (xPreS hN hK (hP.sub (ws' := []) [] rfl) (hD.sub (ws' := []) [] (by decide) rfl)) rfl rfl hl.1 rfl (lv_room (Nat.le_of_ble_eq_true rfl)) d_M_section_59 ⟨Nat.le_of_ble_eq_true rfl, Nat.le_of_ble_eq_true rfl⟩) (fun r_28 u_29 H locs w4 hP hD hS => ?_)
            try dsimp only at w4
            have hP : va_P D vwC [(g, .inr (2, [.int (nI 0), .int (nI d), .ref mm, .int ik, .ref kf, .ref tb, .int rw, .ref wk, .int ab, .int be, .ref pl, .ref sp, .int a0, .int a1, .int b0, .int b1, .ref po, .ref to, .ref ba, .ref li, .int lm])), (mm, IA cI 16 Fm), (tb, LA cJ 16 T), (wk, LA cJ 20 W0), (pl, IA cI 24 plF), (sp, IA cI 40 spF), (ba, LA cJ 12 Bs)] H := hP
            have hD : va_D A [(g, .inr (2, [.int (nI 0), .int (nI d), .ref mm, .int ik, .ref kf, .ref tb, .int rw, .ref wk, .int ab, .int be, .ref pl, .ref sp, .int a0, .int a1, .int b0, .int b1, .ref po, .ref to, .ref ba, .ref li, .int lm])), (mm, IA cI 16 Fm), (tb, LA cJ 16 T), (wk, LA cJ 20 W0), (pl, IA cI 24 plF), (sp, IA cI 40 spF), (ba, LA cJ 12 Bs)] := hD
            rcases w4 with ⟨rfl, w4⟩ | ⟨rfl, w4⟩
            · skip
              refine xz_eq (tgt := 77) (X := (1 : Nat)) hx hb (nI_toInt (by omega)) d_M_section_62 (by decide) (fun c62_29 => absurd c62_29 (by omega)) (fun c62_29 => ?_)
              refine lv_iload_n hx hb d_M_section_65 rfl (lv_at hl 1 rfl) ?_
              refine xz_ne (tgt := 80) (X := va.toInt) hx hb rfl d_M_section_66 (by decide) (fun c66_30 => ?_) (fun c66_30 => ?_)
              · skip
                exact lp_80  H locs ls (by omega) (by have c1 : (nI 10).toInt = 10 := rfl; have c2 : (-10 : Int32).toInt = -10 := rfl; omega) (by have c1 : (nI 10).toInt = 10 := rfl; have c2 : (-10 : Int32).toInt = -10 := rfl; omega) (by have c1 : (nI 10).toInt = 10 := rfl; have c2 : (-10 : Int32).toInt = -10 := rfl; omega) (by have c1 : (nI 10).toInt = 10 := rfl; have c2 : (-10 : Int32).toInt = -10 := rfl; omega) (fun q => absurd ((rowBad_iff hd2 hd3 (by decide)).mp q) (by have c1 : (nI 10).toInt = 10 := rfl; have c2 : (-10 : Int32).toInt = -10 := rfl; unfold inB; omega)) hP hD hS (lv_sub hl [0, 1, 2, 3, 4] rfl)
              · skip
                refine lv_iload_n hx hb d_M_section_69 rfl (lv_at hl 2 rfl) ?_
                refine xz_ne (tgt := 80) (X := vb.toInt) hx hb rfl d_M_section_70 (by decide) (fun c70_31 => ?_) (fun c70_31 => ?_)
                · skip
                  exact lp_80  H locs ls (by omega) (by have c1 : (nI 10).toInt = 10 := rfl; have c2 : (-10 : Int32).toInt = -10 := rfl; omega) (by have c1 : (nI 10).toInt = 10 := rfl; have c2 : (-10 : Int32).toInt = -10 := rfl; omega) (by have c1 : (nI 10).toInt = 10 := rfl; have c2 : (-10 : Int32).toInt = -10 := rfl; omega) (by have c1 : (nI 10).toInt = 10 := rfl; have c2 : (-10 : Int32).toInt = -10 := rfl; omega) (fun q => absurd ((rowBad_iff hd2 hd3 (by decide)).mp q) (by have c1 : (nI 10).toInt = 10 := rfl; have c2 : (-10 : Int32).toInt = -10 := rfl; unfold inB; omega)) hP hD hS (lv_sub hl [0, 1, 2, 3, 4] rfl)
                · skip
                  refine lv_iload_n hx hb d_M_section_73 rfl (lv_at hl 3 rfl) ?_
                  refine xz_ne (tgt := 80) (X := vc.toInt) hx hb rfl d_M_section_74 (by decide) (fun c74_32 => ?_) (fun c74_32 => ?_)
                  · skip
                    exact lp_80  H locs ls (by omega) (by have c1 : (nI 10).toInt = 10 := rfl; have c2 : (-10 : Int32).toInt = -10 := rfl; omega) (by have c1 : (nI 10).toInt = 10 := rfl; have c2 : (-10 : Int32).toInt = -10 := rfl; omega) (by have c1 : (nI 10).toInt = 10 := rfl; have c2 : (-10 : Int32).toInt = -10 := rfl; omega) (by have c1 : (nI 10).toInt = 10 := rfl; have c2 : (-10 : Int32).toInt = -10 := rfl; omega) (fun q => absurd ((rowBad_iff hd2 hd3 (by decide)).mp q) (by have c1 : (nI 10).toInt = 10 := rfl; have c2 : (-10 : Int32).toInt = -10 := rfl; unfold inB; omega)) hP hD hS (lv_sub hl [0, 1, 2, 3, 4] rfl)
                  · skip
                    refine lv_bipush (v := (-2)) hx hb d_M_section_77 (by decide) ?_
                    exact hret H locs _ ls (-2) (rw, ab, be, a0, a1, b0, b1, T, W0, Bs) d_M_section_79 (by first | exact (by rw [s_seM_t (show ¬ d = 2 from by omega) ((rowBad_iff hd2 hd3 (by decide)).mpr (by have c1 : (nI 10).toInt = 10 := rfl; have c2 : (-10 : Int32).toInt = -10 := rfl; unfold inB; omega))]) | (dsimp only; exact (by rw [s_seM_t (show ¬ d = 2 from by omega) ((rowBad_iff hd2 hd3 (by decide)).mpr (by have c1 : (nI 10).toInt = 10 := rfl; have c2 : (-10 : Int32).toInt = -10 := rfl; unfold inB; omega))]))) hP hD hS
            · skip
              refine xz_eq (tgt := 77) (X := (0 : Nat)) hx hb (nI_toInt (by omega)) d_M_section_62 (by decide) (fun c62_33 => ?_) (fun c62_33 => absurd c62_33 (by omega))
              refine lv_bipush (v := (-2)) hx hb d_M_section_77 (by decide) ?_
              exact hret H locs _ ls (-2) (rw, ab, be, a0, a1, b0, b1, T, W0, Bs) d_M_section_79 (by first | exact (by rw [s_seM_t (show ¬ d = 2 from by omega) ((rowBad_iff hd2 hd3 (by decide)).mpr (by have c1 : (nI 10).toInt = 10 := rfl; have c2 : (-10 : Int32).toInt = -10 := rfl; unfold inB; omega))]) | (dsimp only; exact (by rw [s_seM_t (show ¬ d = 2 from by omega) ((rowBad_iff hd2 hd3 (by decide)).mpr (by have c1 : (nI 10).toInt = 10 := rfl; have c2 : (-10 : Int32).toInt = -10 := rfl; unfold inB; omega))]))) hP hD hS
          · skip
            refine xz_eq (tgt := 77) (X := (0 : Nat)) hx hb (nI_toInt (by omega)) d_M_section_49 (by decide) (fun c49_34 => ?_) (fun c49_34 => absurd c49_34 (by omega))
            refine lv_bipush (v := (-2)) hx hb d_M_section_77 (by decide) ?_
            exact hret H locs _ ls (-2) (rw, ab, be, a0, a1, b0, b1, T, W0, Bs) d_M_section_79 (by first | exact (by rw [s_seM_t (show ¬ d = 2 from by omega) ((rowBad_iff hd2 hd3 (by decide)).mpr (by have c1 : (nI 10).toInt = 10 := rfl; have c2 : (-10 : Int32).toInt = -10 := rfl; unfold inB; omega))]) | (dsimp only; exact (by rw [s_seM_t (show ¬ d = 2 from by omega) ((rowBad_iff hd2 hd3 (by decide)).mpr (by have c1 : (nI 10).toInt = 10 := rfl; have c2 : (-10 : Int32).toInt = -10 := rfl; unfold inB; omega))]))) hP hD hS
        · skip
          refine xz_eq (tgt := 77) (X := (0 : Nat)) hx hb (nI_toInt (by omega)) d_M_section_37 (by decide) (fun c37_35 => ?_) (fun c37_35 => absurd c37_35 (by omega))
          refine lv_bipush (v := (-2)) hx hb d_M_section_77 (by decide) ?_
          exact hret H locs _ ls (-2) (rw, ab, be, a0, a1, b0, b1, T, W0, Bs) d_M_section_79 (by first | exact (by rw [s_seM_t (show ¬ d = 2 from by omega) ((rowBad_iff hd2 hd3 (by decide)).mpr (by have c1 : (nI 10).toInt = 10 := rfl; have c2 : (-10 : Int32).toInt = -10 := rfl; unfold inB; omega))]) | (dsimp only; exact (by rw [s_seM_t (show ¬ d = 2 from by omega) ((rowBad_iff hd2 hd3 (by decide)).mpr (by have c1 : (nI 10).toInt = 10 := rfl; have c2 : (-10 : Int32).toInt = -10 := rfl; unfold inB; omega))]))) hP hD hS
      · skip
        refine xz_eq (tgt := 77) (X := (0 : Nat)) hx hb (nI_toInt (by omega)) d_M_section_25 (by decide) (fun c25_36 => ?_) (fun c25_36 => absurd c25_36 (by omega))
        refine lv_bipush (v := (-2)) hx hb d_M_section_77 (by decide) ?_
        exact hret H locs _ ls (-2) (rw, ab, be, a0, a1, b0, b1, T, W0, Bs) d_M_section_79 (by first | exact (by rw [s_seM_t (show ¬ d = 2 from by omega) ((rowBad_iff hd2 hd3 (by decide)).mpr (by have c1 : (nI 10).toInt = 10 := rfl; have c2 : (-10 : Int32).toInt = -10 := rfl; unfold inB; omega))]) | (dsimp only; exact (by rw [s_seM_t (show ¬ d = 2 from by omega) ((rowBad_iff hd2 hd3 (by decide)).mpr (by have c1 : (nI 10).toInt = 10 := rfl; have c2 : (-10 : Int32).toInt = -10 := rfl; unfold inB; omega))]))) hP hD hS
    · skip
      refine lv_bipush (v := (-3)) hx hb d_M_section_13 (by decide) ?_
      exact hret H locs _ ls (-3) (rw, ab, be, a0, a1, b0, b1, T, W0, Bs) d_M_section_15 (by first | exact (by rw [s_seM_2 (by omega)]) | (dsimp only; exact (by rw [s_seM_2 (by omega)]))) hP hD hS
  rw [hH, hlc] at key; exact key

def rm_r_touches : Room := { frames := 4, cells := 0, slots := 0, locals := 103 }
set_option maxHeartbeats 4000000 in
set_option maxRecDepth 100000 in
/-- touches -/
theorem r_touches (l : Launch) (D : va_G) (cJ cI : ClassId) (g : Nat) (cd : Int32) (d : Nat) (ik : Int32) (rw : Int32) (ab : Int32) (be : Int32) (a0 : Int32) (a1 : Int32) (b0 : Int32) (b1 : Int32) (lm : Int32) (mm : Nat) (kf : Nat) (tb : Nat) (wk : Nat) (pl : Nat) (sp : Nat) (po : Nat) (to : Nat) (ba : Nat) (li : Nat) (Fm : Nat → Int) (T : Nat → Int) (W0 : Nat → Int) (P0 : Nat → Int) (u0 : Int32) (u1 : Int32) (u2 : Int32) (u3 : Int32) (hd2 : 2 ≤ d) (hd3 : d ≤ 3) (hF : ∀ k, k < 16 → inB (Fm k) 20) (sz : Nat) : xMi l y_M_touches (Cond.code y_M_touches b_M_touches 9 (some .int) :: tW) rm_r_touches [.ref g, .int u0, .int u1, .int u2, .int u3] D vwC [(cJ, .long), (cI, .int)] sz [(g, .inr (2, [.int cd, .int (nI d), .ref mm, .int ik, .ref kf, .ref tb, .int rw, .ref wk, .int ab, .int be, .ref pl, .ref sp, .int a0, .int a1, .int b0, .int b1, .ref po, .ref to, .ref ba, .ref li, .int lm])), (mm, IA cI 16 Fm), (tb, LA cJ 16 T), (wk, LA cJ 20 W0), (po, LA cJ 4 P0)] (fun (rv : Int32) (uo : Int32 × (Nat → Int) × (Nat → Int) × (Nat → Int)) => rv = s_tch Fm d (ptR d u0.toInt u1.toInt u2.toInt u3.toInt)) (fun (uo : Int32 × (Nat → Int) × (Nat → Int) × (Nat → Int)) => [(g, .inr (2, [.int (nI 0), .int (nI d), .ref mm, .int ik, .ref kf, .ref tb, .int uo.1, .ref wk, .int ab, .int be, .ref pl, .ref sp, .int a0, .int a1, .int b0, .int b1, .ref po, .ref to, .ref ba, .ref li, .int lm])), (mm, IA cI 16 Fm), (tb, LA cJ 16 uo.2.1), (wk, LA cJ 20 uo.2.2.1), (po, LA cJ 4 uo.2.2.2)]) 0 0 := by
  refine xoi (cc := b_M_touches) (maxL := 9) (by decide) rfl (Nat.le_of_ble_eq_true rfl) ?_
  intro p e s m args below meth c Q A hx hb hml hts hown hN hA hS hP hK hD hret ls hl
  have hl : lv_has ls 9 [(0, .ref g), (1, .int u0), (2, .int u1), (3, .int u2), (4, .int u3)] := hl
  obtain ⟨H, hH⟩ : ∃ z, z = s.heap := ⟨_, rfl⟩
  obtain ⟨locs, hlc⟩ : ∃ z : List Loc, z = [] := ⟨_, rfl⟩
  rw [← hH] at hP
  have hS : va_S A s.heap H locs := by rw [hH, hlc]; exact hS
  have key : W p l e rm_r_touches s m args below meth c H locs 0 0 Q (F0 m 0 ls []) := by
    refine lv_aload_n hx hb d_M_touches_0 rfl (lv_at hl 0 rfl) ?_
    refine lv_iconst (v := nI 0) hx hb d_M_touches_1 (by decide) ?_
    refine va_put (D := D) (ci := 2) (v := .int (nI 0)) (ty := .int) (C := R_M) (T := F_M) (N := 21) hx hb hts iw_M ft_M ft_M_ok n_M hown hK hP hD hS 0 rfl rfl 0 (by decide) (hts _ tw_387) (fun _ h9 => h9) rfl (by decide +kernel) rfl rfl (Nat.le_of_ble_eq_true rfl) d_M_touches_2 (fun H locs hP hD hS => ?_)
    have hP : va_P D vwC [(g, .inr (2, [.int (nI 0), .int (nI d), .ref mm, .int ik, .ref kf, .ref tb, .int rw, .ref wk, .int ab, .int be, .ref pl, .ref sp, .int a0, .int a1, .int b0, .int b1, .ref po, .ref to, .ref ba, .ref li, .int lm])), (mm, IA cI 16 Fm), (tb, LA cJ 16 T), (wk, LA cJ 20 W0), (po, LA cJ 4 P0)] H := hP
    have hD : va_D A [(g, .inr (2, [.int (nI 0), .int (nI d), .ref mm, .int ik, .ref kf, .ref tb, .int rw, .ref wk, .int ab, .int be, .ref pl, .ref sp, .int a0, .int a1, .int b0, .int b1, .ref po, .ref to, .ref ba, .ref li, .int lm])), (mm, IA cI 16 Fm), (tb, LA cJ 16 T), (wk, LA cJ 20 W0), (po, LA cJ 4 P0)] := hD
    have lp_86 : ∀  (H : Heap) (locs : List Loc) (ls : Array Slot), (¬ rowBad (ptR d u0.toInt u1.toInt u2.toInt u3.toInt) d 20) → va_P D vwC [(g, .inr (2, [.int (nI 0), .int (nI d), .ref mm, .int ik, .ref kf, .ref tb, .int rw, .ref wk, .int ab, .int be, .ref pl, .ref sp, .int a0, .int a1, .int b0, .int b1, .ref po, .ref to, .ref ba, .ref li, .int lm])), (mm, IA cI 16 Fm), (tb, LA cJ 16 T), (wk, LA cJ 20 W0), (po, LA cJ 4 P0)] H → va_D A [(g, .inr (2, [.int (nI 0), .int (nI d), .ref mm, .int ik, .ref kf, .ref tb, .int rw, .ref wk, .int ab, .int be, .ref pl, .ref sp, .int a0, .int a1, .int b0, .int b1, .ref po, .ref to, .ref ba, .ref li, .int lm])), (mm, IA cI 16 Fm), (tb, LA cJ 16 T), (wk, LA cJ 20 W0), (po, LA cJ 4 P0)] → va_S A s.heap H locs → lv_has ls 9 [(0, .ref g), (1, .int u0), (2, .int u1), (3, .int u2), (4, .int u3)] → W p l e rm_r_touches s m args below meth c H locs 0 0 Q (F0 m 86 ls []) := by
      intro  H locs ls hok hP hD hS hl
      refine lv_aload_n hx hb d_M_touches_86 rfl (lv_at hl 0 rfl) ?_
      refine lv_iconst (v := nI 1) hx hb d_M_touches_87 (by decide) ?_
      refine xcv (wc := [(g, .inr (2, [.int (nI 0), .int (nI d), .ref mm, .int ik, .ref kf, .ref tb, .int rw, .ref wk, .int ab, .int be, .ref pl, .ref sp, .int a0, .int a1, .int b0, .int b1, .ref po, .ref to, .ref ba, .ref li, .int lm])), (mm, IA cI 16 Fm), (tb, LA cJ 16 T)]) (wr := [(wk, LA cJ 20 W0), (po, LA cJ 4 P0)]) hP hD hS hA [0, 1, 2] [3, 4] rfl rfl (by decide) (by decide) (va_runV (As := [.int (nI 1)]) (rest := []) ⟨hx, hb, hml, hown, hts⟩ (r_take1 l D cJ cI g (nI 0) d ik rw ab be a0 a1 b0 b1 lm mm kf tb wk pl sp po to ba li Fm T (by first | assumption | omega) (by first | assumption | omega) H.size) (cwV 1 hts (gV tw_480 tw_482 tws_19 tw_3 tw_483) rfl rfl rfl ⟨rfl, hd_M_take⟩ ⟨Nat.le_of_ble_eq_true rfl, Nat.le_of_ble_eq_true rfl⟩) (xPreV (C := R_M) (T := F_M) (N := 21) (q0 := 0) hN hK (hP.sub (ws' := [(g, .inr (2, [.int (nI 0), .int (nI d), .ref mm, .int ik, .ref kf, .ref tb, .int rw, .ref wk, .int ab, .int be, .ref pl, .ref sp, .int a0, .int a1, .int b0, .int b1, .ref po, .ref to, .ref ba, .ref li, .int lm])), (mm, IA cI 16 Fm), (tb, LA cJ 16 T)]) [0, 1, 2] rfl) (hD.sub (ws' := [(g, .inr (2, [.int (nI 0), .int (nI d), .ref mm, .int ik, .ref kf, .ref tb, .int rw, .ref wk, .int ab, .int be, .ref pl, .ref sp, .int a0, .int a1, .int b0, .int b1, .ref po, .ref to, .ref ba, .ref li, .int lm])), (mm, IA cI 16 Fm), (tb, LA cJ 16 T)]) [0, 1, 2] (by decide) rfl) rfl rfl) rfl rfl hl.1 rfl (lv_room (Nat.le_of_ble_eq_true rfl)) d_M_touches_88 ⟨Nat.le_of_ble_eq_true rfl, Nat.le_of_ble_eq_true rfl⟩) (fun u_2 H locs ht5 hP hD hS => ?_)
      obtain ⟨T5, rfl⟩ : ∃ z, z = u_2 := ⟨_, rfl⟩
      try dsimp only at ht5
      have hP : va_P D vwC [(g, .inr (2, [.int (nI 0), .int (nI d), .ref mm, .int ik, .ref kf, .ref tb, .int (nI (d + 1)), .ref wk, .int ab, .int be, .ref pl, .ref sp, .int a0, .int a1, .int b0, .int b1, .ref po, .ref to, .ref ba, .ref li, .int lm])), (mm, IA cI 16 Fm), (tb, LA cJ 16 T5), (wk, LA cJ 20 W0), (po, LA cJ 4 P0)] H := hP.sub [2, 3, 4, 0, 1] rfl
      have hD : va_D A [(g, .inr (2, [.int (nI 0), .int (nI d), .ref mm, .int ik, .ref kf, .ref tb, .int (nI (d + 1)), .ref wk, .int ab, .int be, .ref pl, .ref sp, .int a0, .int a1, .int b0, .int b1, .ref po, .ref to, .ref ba, .ref li, .int lm])), (mm, IA cI 16 Fm), (tb, LA cJ 16 T5), (wk, LA cJ 20 W0), (po, LA cJ 4 P0)] := hD.sub [2, 3, 4, 0, 1] (by decide) rfl
      refine lv_aload_n hx hb d_M_touches_91 rfl (lv_at hl 0 rfl) ?_
      refine lv_aload_n hx hb d_M_touches_92 rfl (lv_at hl 0 rfl) ?_
      refine va_get (D := D) (ci := 2) (v := .int (nI (d + 1))) (C := R_M) (T := F_M) (N := 21) hx hb hts iw_M hown hK hP 0 rfl rfl 6 (by decide) (hts _ tw_393) (fun _ h9 => h9) rfl d_M_touches_93 ?_
      refine xcl (wc := [(g, .inr (2, [.int (nI 0), .int (nI d), .ref mm, .int ik, .ref kf, .ref tb, .int (nI (d + 1)), .ref wk, .int ab, .int be, .ref pl, .ref sp, .int a0, .int a1, .int b0, .int b1, .ref po, .ref to, .ref ba, .ref li, .int lm])), (tb, LA cJ 16 T5), (wk, LA cJ 20 W0)]) (wr := [(mm, IA cI 16 Fm), (po, LA cJ 4 P0)]) hP hD hS hA [0, 2, 3] [1, 4] rfl rfl (by decide) (by decide) (va_runV (As := [.int (nI (d + 1))]) (rest := []) ⟨hx, hb, hml, hown, hts⟩ (r_sums l D cJ cI g (nI 0) d ik ab be a0 a1 b0 b1 lm mm kf tb wk pl sp po to ba li (d + 1) T5 W0 (d + 1) (by first | assumption | omega) (by first | assumption | omega) (by first | assumption | omega) (by first | assumption | omega) (enB_congr (prt_eq (by omega) ht5) (enB_20 hF (f := 0) (r := d + 1) (by omega))) H.size) (cwV 1 hts (gV tw_488 tw_490 tws_21 tw_3 tw_491) rfl rfl rfl ⟨rfl, hd_M_sums⟩ ⟨Nat.le_of_ble_eq_true rfl, Nat.le_of_ble_eq_true rfl⟩) (xPreV (C := R_M) (T := F_M) (N := 21) (q0 := 0) hN hK (hP.sub (ws' := [(g, .inr (2, [.int (nI 0), .int (nI d), .ref mm, .int ik, .ref kf, .ref tb, .int (nI (d + 1)), .ref wk, .int ab, .int be, .ref pl, .ref sp, .int a0, .int a1, .int b0, .int b1, .ref po, .ref to, .ref ba, .ref li, .int lm])), (tb, LA cJ 16 T5), (wk, LA cJ 20 W0)]) [0, 2, 3] rfl) (hD.sub (ws' := [(g, .inr (2, [.int (nI 0), .int (nI d), .ref mm, .int ik, .ref kf, .ref tb, .int (nI (d + 1)), .ref wk, .int ab, .int be, .ref pl, .ref sp, .int a0, .int a1, .int b0, .int b1, .ref po, .ref to, .ref ba, .ref li, .int lm])), (tb, LA cJ 16 T5), (wk, LA cJ 20 W0)]) [0, 2, 3] (by decide) rfl) rfl rfl) rfl rfl hl.1 rfl (lv_room (Nat.le_of_ble_eq_true rfl)) d_M_touches_96 ⟨Nat.le_of_ble_eq_true rfl, Nat.le_of_ble_eq_true rfl⟩) (fun r_3 u_4 H locs hw_5 hP hD hS => ?_)
      obtain ⟨W5, rfl⟩ : ∃ z, z = u_4 := ⟨_, rfl⟩
      try dsimp only at hw_5
      have hP : va_P D vwC [(g, .inr (2, [.int (nI 0), .int (nI d), .ref mm, .int ik, .ref kf, .ref tb, .int (nI (d + 1)), .ref wk, .int ab, .int be, .ref pl, .ref sp, .int a0, .int a1, .int b0, .int b1, .ref po, .ref to, .ref ba, .ref li, .int lm])), (mm, IA cI 16 Fm), (tb, LA cJ 16 T5), (wk, LA cJ 20 W5), (po, LA cJ 4 P0)] H := hP.sub [2, 0, 3, 4, 1] rfl
      have hD : va_D A [(g, .inr (2, [.int (nI 0), .int (nI d), .ref mm, .int ik, .ref kf, .ref tb, .int (nI (d + 1)), .ref wk, .int ab, .int be, .ref pl, .ref sp, .int a0, .int a1, .int b0, .int b1, .ref po, .ref to, .ref ba, .ref li, .int lm])), (mm, IA cI 16 Fm), (tb, LA cJ 16 T5), (wk, LA cJ 20 W5), (po, LA cJ 4 P0)] := hD.sub [2, 0, 3, 4, 1] (by decide) rfl
      subst hw_5
      have hdt : eS T5 (d + 1) (d + 1) = det (prt Fm 0) (d + 1) := eS_congr (by omega) (by omega) (prt_eq (by omega) ht5) (d + 1) (Nat.le_refl _)
      refine lv_lconst (v := lI 0) hx hb d_M_touches_99 (by decide) ?_
      refine xl_ne (tgt := 107) hx hb (by rw [hdt]; have := eS_20 (U := prt Fm 0) (r := d + 1) (by omega) (by omega) (enB_f hF (by omega)); unfold lB; have q : det (prt Fm 0) (d + 1) = eS (prt Fm 0) (d + 1) (d + 1) := rfl; omega) ⟨by decide, by decide⟩ d_M_touches_100 d_M_touches_101 (by decide) (fun c101_5 => ?_) (fun c101_5 => ?_)
      · skip
        refine lv_aload_n hx hb d_M_touches_107 rfl (lv_at hl 0 rfl) ?_
        refine va_get (D := D) (ci := 2) (v := .ref po) (C := R_M) (T := F_M) (N := 21) hx hb hts iw_M hown hK hP 0 rfl rfl 16 (by decide) (hts _ tw_403) (fun _ h9 => h9) rfl d_M_touches_108 ?_
        refine lv_iconst (v := nI 0) hx hb d_M_touches_111 (by decide) ?_
        refine lv_iload_n hx hb d_M_touches_112 rfl (lv_at hl 1 rfl) ?_
        refine lv_i2l (v := lI u0.toInt) hx hb d_M_touches_113 rfl ?_
        refine xl_ast hx hb hK hP hD hS 4 0 rfl rfl (k := 0) (by omega) (by first | decide | omega) d_M_touches_114 (fun H locs hP hD hS => ?_)
        have hP : va_P D vwC [(g, .inr (2, [.int (nI 0), .int (nI d), .ref mm, .int ik, .ref kf, .ref tb, .int (nI (d + 1)), .ref wk, .int ab, .int be, .ref pl, .ref sp, .int a0, .int a1, .int b0, .int b1, .ref po, .ref to, .ref ba, .ref li, .int lm])), (mm, IA cI 16 Fm), (tb, LA cJ 16 T5), (wk, LA cJ 20 W5), (po, LA cJ 4 (upZ P0 0 u0.toInt))] H := hP
        have hD : va_D A [(g, .inr (2, [.int (nI 0), .int (nI d), .ref mm, .int ik, .ref kf, .ref tb, .int (nI (d + 1)), .ref wk, .int ab, .int be, .ref pl, .ref sp, .int a0, .int a1, .int b0, .int b1, .ref po, .ref to, .ref ba, .ref li, .int lm])), (mm, IA cI 16 Fm), (tb, LA cJ 16 T5), (wk, LA cJ 20 W5), (po, LA cJ 4 (upZ P0 0 u0.toInt))] := hD
        refine lv_aload_n hx hb d_M_touches_115 rfl (lv_at hl 0 rfl) ?_
        refine va_get (D := D) (ci := 2) (v := .ref po) (C := R_M) (T := F_M) (N := 21) hx hb hts iw_M hown hK hP 0 rfl rfl 16 (by decide) (hts _ tw_403) (fun _ h9 => h9) rfl d_M_touches_116 ?_
        refine lv_iconst (v := nI 1) hx hb d_M_touches_119 (by decide) ?_
        refine lv_iload_n hx hb d_M_touches_120 rfl (lv_at hl 2 rfl) ?_
        refine lv_i2l (v := lI u1.toInt) hx hb d_M_touches_121 rfl ?_
        refine xl_ast hx hb hK hP hD hS 4 0 rfl rfl (k := 1) (by omega) (by first | decide | omega) d_M_touches_122 (fun H locs hP hD hS => ?_)
        have hP : va_P D vwC [(g, .inr (2, [.int (nI 0), .int (nI d), .ref mm, .int ik, .ref kf, .ref tb, .int (nI (d + 1)), .ref wk, .int ab, .int be, .ref pl, .ref sp, .int a0, .int a1, .int b0, .int b1, .ref po, .ref to, .ref ba, .ref li, .int lm])), (mm, IA cI 16 Fm), (tb, LA cJ 16 T5), (wk, LA cJ 20 W5), (po, LA cJ 4 (upZ (upZ P0 0 u0.toInt) 1 u1.toInt))] H := hP
        have hD : va_D A [(g, .inr (2, [.int (nI 0), .int (nI d), .ref mm, .int ik, .ref kf, .ref tb, .int (nI (d + 1)), .ref wk, .int ab, .int be, .ref pl, .ref sp, .int a0, .int a1, .int b0, .int b1, .ref po, .ref to, .ref ba, .ref li, .int lm])), (mm, IA cI 16 Fm), (tb, LA cJ 16 T5), (wk, LA cJ 20 W5), (po, LA cJ 4 (upZ (upZ P0 0 u0.toInt) 1 u1.toInt))] := hD
        refine lv_aload_n hx hb d_M_touches_123 rfl (lv_at hl 0 rfl) ?_
        refine va_get (D := D) (ci := 2) (v := .ref po) (C := R_M) (T := F_M) (N := 21) hx hb hts iw_M hown hK hP 0 rfl rfl 16 (by decide) (hts _ tw_403) (fun _ h9 => h9) rfl d_M_touches_124 ?_
        refine lv_iconst (v := nI 2) hx hb d_M_touches_127 (by decide) ?_
        refine lv_iload_n hx hb d_M_touches_128 rfl (lv_at hl 3 rfl) ?_
        refine lv_i2l (v := lI u2.toInt) hx hb d_M_touches_129 rfl ?_
        refine xl_ast hx hb hK hP hD hS 4 0 rfl rfl (k := 2) (by omega) (by first | decide | omega) d_M_touches_130 (fun H locs hP hD hS => ?_)
        have hP : va_P D vwC [(g, .inr (2, [.int (nI 0), .int (nI d), .ref mm, .int ik, .ref kf, .ref tb, .int (nI (d + 1)), .ref wk, .int ab, .int be, .ref pl, .ref sp, .int a0, .int a1, .int b0, .int b1, .ref po, .ref to, .ref ba, .ref li, .int lm])), (mm, IA cI 16 Fm), (tb, LA cJ 16 T5), (wk, LA cJ 20 W5), (po, LA cJ 4 (upZ (upZ (upZ P0 0 u0.toInt) 1 u1.toInt) 2 u2.toInt))] H := hP
        have hD : va_D A [(g, .inr (2, [.int (nI 0), .int (nI d), .ref mm, .int ik, .ref kf, .ref tb, .int (nI (d + 1)), .ref wk, .int ab, .int be, .ref pl, .ref sp, .int a0, .int a1, .int b0, .int b1, .ref po, .ref to, .ref ba, .ref li, .int lm])), (mm, IA cI 16 Fm), (tb, LA cJ 16 T5), (wk, LA cJ 20 W5), (po, LA cJ 4 (upZ (upZ (upZ P0 0 u0.toInt) 1 u1.toInt) 2 u2.toInt))] := hD
        refine lv_aload_n hx hb d_M_touches_131 rfl (lv_at hl 0 rfl) ?_
        refine va_get (D := D) (ci := 2) (v := .ref po) (C := R_M) (T := F_M) (N := 21) hx hb hts iw_M hown hK hP 0 rfl rfl 16 (by decide) (hts _ tw_403) (fun _ h9 => h9) rfl d_M_touches_132 ?_
        refine lv_iconst (v := nI 3) hx hb d_M_touches_135 (by decide) ?_
        refine lv_aload_n hx hb d_M_touches_136 rfl (lv_at hl 0 rfl) ?_
        refine va_get (D := D) (ci := 2) (v := .int (nI d)) (C := R_M) (T := F_M) (N := 21) hx hb hts iw_M hown hK hP 0 rfl rfl 1 (by decide) (hts _ tw_388) (fun _ h9 => h9) rfl d_M_touches_137 ?_
        refine lv_iconst (v := nI 2) hx hb d_M_touches_140 (by decide) ?_
        refine xn_ne (tgt := 148) hx hb (by omega) (by omega) d_M_touches_141 (by decide) (fun c141_6 => ?_) (fun c141_6 => ?_)
        · skip
          refine lv_iload hx hb d_M_touches_148 (lv_at hl 4 rfl) ?_
          refine lv_i2l (v := lI u3.toInt) hx hb d_M_touches_150 rfl ?_
          refine xl_ast hx hb hK hP hD hS 4 0 rfl rfl (k := 3) (by omega) (by first | decide | omega) d_M_touches_151 (fun H locs hP hD hS => ?_)
          have hP : va_P D vwC [(g, .inr (2, [.int (nI 0), .int (nI d), .ref mm, .int ik, .ref kf, .ref tb, .int (nI (d + 1)), .ref wk, .int ab, .int be, .ref pl, .ref sp, .int a0, .int a1, .int b0, .int b1, .ref po, .ref to, .ref ba, .ref li, .int lm])), (mm, IA cI 16 Fm), (tb, LA cJ 16 T5), (wk, LA cJ 20 W5), (po, LA cJ 4 (upZ (upZ (upZ (upZ P0 0 u0.toInt) 1 u1.toInt) 2 u2.toInt) 3 u3.toInt))] H := hP
          have hD : va_D A [(g, .inr (2, [.int (nI 0), .int (nI d), .ref mm, .int ik, .ref kf, .ref tb, .int (nI (d + 1)), .ref wk, .int ab, .int be, .ref pl, .ref sp, .int a0, .int a1, .int b0, .int b1, .ref po, .ref to, .ref ba, .ref li, .int lm])), (mm, IA cI 16 Fm), (tb, LA cJ 16 T5), (wk, LA cJ 20 W5), (po, LA cJ 4 (upZ (upZ (upZ (upZ P0 0 u0.toInt) 1 u1.toInt) 2 u2.toInt) 3 u3.toInt))] := hD
          obtain ⟨P9, hP9⟩ : ∃ z, z = upZ (upZ (upZ (upZ P0 0 u0.toInt) 1 u1.toInt) 2 u2.toInt) 3 u3.toInt := ⟨_, rfl⟩
          rw [← hP9] at hP hD
          have hP : va_P D vwC [(g, .inr (2, [.int (nI 0), .int (nI d), .ref mm, .int ik, .ref kf, .ref tb, .int (nI (d + 1)), .ref wk, .int ab, .int be, .ref pl, .ref sp, .int a0, .int a1, .int b0, .int b1, .ref po, .ref to, .ref ba, .ref li, .int lm])), (mm, IA cI 16 Fm), (tb, LA cJ 16 T5), (wk, LA cJ 20 W5), (po, LA cJ 4 P9)] H := hP
          have hD : va_D A [(g, .inr (2, [.int (nI 0), .int (nI d), .ref mm, .int ik, .ref kf, .ref tb, .int (nI (d + 1)), .ref wk, .int ab, .int be, .ref pl, .ref sp, .int a0, .int a1, .int b0, .int b1, .ref po, .ref to, .ref ba, .ref li, .int lm])), (mm, IA cI 16 Fm), (tb, LA cJ 16 T5), (wk, LA cJ 20 W5), (po, LA cJ 4 P9)] := hD
          have hPt : ∀ k, k < 4 → P9 k = (ptR d u0.toInt u1.toInt u2.toInt u3.toInt) k := by rw [hP9]; exact pt4 (if_pos (by omega)).symm
          have hPB : ∀ k, k < 4 → inB (P9 k) 20 := fun k hk => by rw [hPt k hk]; exact (Classical.byContradiction (fun q => hok (Or.inl q)) : ∀ k, k < 4 → inB ((ptR d u0.toInt u1.toInt u2.toInt u3.toInt) k) 20) k hk
          have hU : enB (prt Fm 0) (d + 1) 20 := enB_f hF (by omega)
          refine lv_lconst (v := lI 0) hx hb d_M_touches_152 (by decide) ?_
          refine lv_lstore (lv' := [(5, .long (lI 0)), (0, .ref g), (1, .int u0), (2, .int u1), (3, .int u2), (4, .int u3)]) hx hb d_M_touches_153 hl (by decide) rfl (fun ls hl => ?_)
          refine lv_iconst (v := nI 0) hx hb d_M_touches_155 (by decide) ?_
          refine lv_istore (lv' := [(7, .int (nI 0)), (5, .long (lI 0)), (0, .ref g), (1, .int u0), (2, .int u1), (3, .int u2), (4, .int u3)]) hx hb d_M_touches_156 hl (by decide) rfl (fun ls hl => ?_)
          have lp_158 : ∀ (n_158 : Nat) (k : Nat) (T6 : Nat → Int) (W6 : Nat → Int) (H : Heap) (locs : List Loc) (ls : Array Slot), (k ≤ d + 1) → (d + 1 - k) < n_158 → va_P D vwC [(g, .inr (2, [.int (nI 0), .int (nI d), .ref mm, .int ik, .ref kf, .ref tb, .int (nI (d + 1)), .ref wk, .int ab, .int be, .ref pl, .ref sp, .int a0, .int a1, .int b0, .int b1, .ref po, .ref to, .ref ba, .ref li, .int lm])), (mm, IA cI 16 Fm), (tb, LA cJ 16 T6), (wk, LA cJ 20 W6), (po, LA cJ 4 P9)] H → va_D A [(g, .inr (2, [.int (nI 0), .int (nI d), .ref mm, .int ik, .ref kf, .ref tb, .int (nI (d + 1)), .ref wk, .int ab, .int be, .ref pl, .ref sp, .int a0, .int a1, .int b0, .int b1, .ref po, .ref to, .ref ba, .ref li, .int lm])), (mm, IA cI 16 Fm), (tb, LA cJ 16 T6), (wk, LA cJ 20 W6), (po, LA cJ 4 P9)] → va_S A s.heap H locs → lv_has ls 9 [(0, .ref g), (5, .long (lI (tcN (prt Fm 0) P9 (d + 1) k))), (7, .int (nI k))] → W p l e rm_r_touches s m args below meth c H locs 0 0 Q (F0 m 158 ls []) := by
            intro n_158
            induction n_158 with
            | zero => intro k T6 W6 H locs ls hk hn_158; exact absurd hn_158 (Nat.not_lt_zero _)
            | succ n_158 ih_158 =>
              intro k T6 W6 H locs ls hk hn_158 hP hD hS hl
              refine lv_iload hx hb d_M_touches_158 (lv_at hl 2 rfl) ?_
              refine lv_aload_n hx hb d_M_touches_160 rfl (lv_at hl 0 rfl) ?_
              refine va_get (D := D) (ci := 2) (v := .int (nI d)) (C := R_M) (T := F_M) (N := 21) hx hb hts iw_M hown hK hP 0 rfl rfl 1 (by decide) (hts _ tw_388) (fun _ h9 => h9) rfl d_M_touches_161 ?_
              refine xn_gt (tgt := 236) hx hb (by omega) (by omega) d_M_touches_164 (by decide) (fun c164_7 => ?_) (fun c164_7 => ?_)
              · skip
                have hk9 : k = d + 1 := by omega
                subst hk9
                have hlb : lB (tcN (prt Fm 0) P9 (d + 1) (d + 1)) := lB_of (leB (tcN_B (by omega) (by omega) hU hPB (n := d + 1) (by omega)) (show _ ≤ (4 * (20 * 1099511627776) : Int) by omega)) (by decide)
                have htc : tcN (prt Fm 0) P9 (d + 1) (d + 1) = tchN (prt Fm 0) (ptR d u0.toInt u1.toInt u2.toInt u3.toInt) (d + 1) (d + 1) := by
                  rw [← tchN_congr (by omega) hPt (Nat.le_refl _)]; clear hl hP hD hS hok hPt hP9; rcases (show d = 2 ∨ d = 3 by omega) with z | z; subst z; exact tc_3 _ _; subst z; exact tc_4 _ _
                refine lv_lload hx hb d_M_touches_236 (lv_at hl 1 rfl) ?_
                refine lv_lconst (v := lI 0) hx hb d_M_touches_238 (by decide) ?_
                refine xl_ne (tgt := 247) hx hb hlb ⟨by decide, by decide⟩ d_M_touches_239 d_M_touches_240 (by decide) (fun c240_8 => ?_) (fun c240_8 => ?_)
                · skip
                  refine lv_iconst (v := nI 0) hx hb d_M_touches_247 (by decide) ?_
                  exact hret H locs _ ls (nI 0) (nI (d + 1), T6, W6, P9) d_M_touches_248 (by first | exact (by rw [s_tch_f hok, if_neg (show ¬ det (prt Fm 0) (d + 1) = 0 from hdt ▸ c101_5), ← htc, if_neg c240_8]) | (dsimp only; exact (by rw [s_tch_f hok, if_neg (show ¬ det (prt Fm 0) (d + 1) = 0 from hdt ▸ c101_5), ← htc, if_neg c240_8]))) hP hD hS
                · skip
                  refine lv_iconst (v := nI 1) hx hb d_M_touches_243 (by decide) ?_
                  refine lv_goto (tgt := 248) hx hb d_M_touches_244 (by decide) ?_
                  exact hret H locs _ ls (nI 1) (nI (d + 1), T6, W6, P9) d_M_touches_248 (by first | exact (by rw [s_tch_f hok, if_neg (show ¬ det (prt Fm 0) (d + 1) = 0 from hdt ▸ c101_5), ← htc, if_pos c240_8]) | (dsimp only; exact (by rw [s_tch_f hok, if_neg (show ¬ det (prt Fm 0) (d + 1) = 0 from hdt ▸ c101_5), ← htc, if_pos c240_8]))) hP hD hS
              · skip
                refine lv_aload_n hx hb d_M_touches_167 rfl (lv_at hl 0 rfl) ?_
                refine lv_iconst (v := nI 1) hx hb d_M_touches_168 (by decide) ?_
                refine xcv (wc := [(g, .inr (2, [.int (nI 0), .int (nI d), .ref mm, .int ik, .ref kf, .ref tb, .int (nI (d + 1)), .ref wk, .int ab, .int be, .ref pl, .ref sp, .int a0, .int a1, .int b0, .int b1, .ref po, .ref to, .ref ba, .ref li, .int lm])), (mm, IA cI 16 Fm), (tb, LA cJ 16 T6)]) (wr := [(wk, LA cJ 20 W6), (po, LA cJ 4 P9)]) hP hD hS hA [0, 1, 2] [3, 4] rfl rfl (by decide) (by decide) (va_runV (As := [.int (nI 1)]) (rest := []) ⟨hx, hb, hml, hown, hts⟩ (r_take1 l D cJ cI g (nI 0) d ik (nI (d + 1)) ab be a0 a1 b0 b1 lm mm kf tb wk pl sp po to ba li Fm T6 (by first | assumption | omega) (by first | assumption | omega) H.size) (cwV 1 hts (gV tw_480 tw_482 tws_19 tw_3 tw_483) rfl rfl rfl ⟨rfl, hd_M_take⟩ ⟨Nat.le_of_ble_eq_true rfl, Nat.le_of_ble_eq_true rfl⟩) (xPreV (C := R_M) (T := F_M) (N := 21) (q0 := 0) hN hK (hP.sub (ws' := [(g, .inr (2, [.int (nI 0), .int (nI d), .ref mm, .int ik, .ref kf, .ref tb, .int (nI (d + 1)), .ref wk, .int ab, .int be, .ref pl, .ref sp, .int a0, .int a1, .int b0, .int b1, .ref po, .ref to, .ref ba, .ref li, .int lm])), (mm, IA cI 16 Fm), (tb, LA cJ 16 T6)]) [0, 1, 2] rfl) (hD.sub (ws' := [(g, .inr (2, [.int (nI 0), .int (nI d), .ref mm, .int ik, .ref kf, .ref tb, .int (nI (d + 1)), .ref wk, .int ab, .int be, .ref pl, .ref sp, .int a0, .int a1, .int b0, .int b1, .ref po, .ref to, .ref ba, .ref li, .int lm])), (mm, IA cI 16 Fm), (tb, LA cJ 16 T6)]) [0, 1, 2] (by decide) rfl) rfl rfl) rfl rfl hl.1 rfl (lv_room (Nat.le_of_ble_eq_true rfl)) d_M_touches_169 ⟨Nat.le_of_ble_eq_true rfl, Nat.le_of_ble_eq_true rfl⟩) (fun u_11 H locs ht8 hP hD hS => ?_)
                obtain ⟨T8, rfl⟩ : ∃ z, z = u_11 := ⟨_, rfl⟩
                try dsimp only at ht8
                have hP : va_P D vwC [(g, .inr (2, [.int (nI 0), .int (nI d), .ref mm, .int ik, .ref kf, .ref tb, .int (nI (d + 1)), .ref wk, .int ab, .int be, .ref pl, .ref sp, .int a0, .int a1, .int b0, .int b1, .ref po, .ref to, .ref ba, .ref li, .int lm])), (mm, IA cI 16 Fm), (tb, LA cJ 16 T8), (wk, LA cJ 20 W6), (po, LA cJ 4 P9)] H := hP.sub [2, 3, 4, 0, 1] rfl
                have hD : va_D A [(g, .inr (2, [.int (nI 0), .int (nI d), .ref mm, .int ik, .ref kf, .ref tb, .int (nI (d + 1)), .ref wk, .int ab, .int be, .ref pl, .ref sp, .int a0, .int a1, .int b0, .int b1, .ref po, .ref to, .ref ba, .ref li, .int lm])), (mm, IA cI 16 Fm), (tb, LA cJ 16 T8), (wk, LA cJ 20 W6), (po, LA cJ 4 P9)] := hD.sub [2, 3, 4, 0, 1] (by decide) rfl
                refine lv_iconst (v := nI 0) hx hb d_M_touches_172 (by decide) ?_
                refine lv_istore (lv' := [(8, .int (nI 0)), (0, .ref g), (5, .long (lI (tcN (prt Fm 0) P9 (d + 1) k))), (7, .int (nI k))]) hx hb d_M_touches_173 hl (by decide) rfl (fun ls hl => ?_)
                have lp_175 : ∀ (n_175 : Nat) (i : Nat) (T7 : Nat → Int) (H : Heap) (locs : List Loc) (ls : Array Slot), (i ≤ d + 1) → (∀ x y, x < d + 1 → y < d + 1 → ((y = k ∧ x < i) → T7 (4 * x + y) = P9 x) ∧ (¬ (y = k ∧ x < i) → T7 (4 * x + y) = T8 (4 * x + y))) → (d + 1 - i) < n_175 → va_P D vwC [(g, .inr (2, [.int (nI 0), .int (nI d), .ref mm, .int ik, .ref kf, .ref tb, .int (nI (d + 1)), .ref wk, .int ab, .int be, .ref pl, .ref sp, .int a0, .int a1, .int b0, .int b1, .ref po, .ref to, .ref ba, .ref li, .int lm])), (mm, IA cI 16 Fm), (tb, LA cJ 16 T7), (wk, LA cJ 20 W6), (po, LA cJ 4 P9)] H → va_D A [(g, .inr (2, [.int (nI 0), .int (nI d), .ref mm, .int ik, .ref kf, .ref tb, .int (nI (d + 1)), .ref wk, .int ab, .int be, .ref pl, .ref sp, .int a0, .int a1, .int b0, .int b1, .ref po, .ref to, .ref ba, .ref li, .int lm])), (mm, IA cI 16 Fm), (tb, LA cJ 16 T7), (wk, LA cJ 20 W6), (po, LA cJ 4 P9)] → va_S A s.heap H locs → lv_has ls 9 [(0, .ref g), (5, .long (lI (tcN (prt Fm 0) P9 (d + 1) k))), (7, .int (nI k)), (8, .int (nI i))] → W p l e rm_r_touches s m args below meth c H locs 0 0 Q (F0 m 175 ls []) := by
                  intro n_175
                  induction n_175 with
                  | zero => intro i T7 H locs ls hi h1 hn_175; exact absurd hn_175 (Nat.not_lt_zero _)
                  | succ n_175 ih_175 =>
                    intro i T7 H locs ls hi h1 hn_175 hP hD hS hl
                    refine lv_iload hx hb d_M_touches_175 (lv_at hl 3 rfl) ?_
                    refine lv_aload_n hx hb d_M_touches_177 rfl (lv_at hl 0 rfl) ?_
                    refine va_get (D := D) (ci := 2) (v := .int (nI d)) (C := R_M) (T := F_M) (N := 21) hx hb hts iw_M hown hK hP 0 rfl rfl 1 (by decide) (hts _ tw_388) (fun _ h9 => h9) rfl d_M_touches_178 ?_
                    refine xn_gt (tgt := 209) hx hb (by omega) (by omega) d_M_touches_181 (by decide) (fun c181_11 => ?_) (fun c181_11 => ?_)
                    · skip
                      have hcz : ∀ x y, x < d + 1 → y < d + 1 → T7 (4 * x + y) = colU (prt Fm 0) P9 k (4 * x + y) := by
                        intro x y hx2 hy2
                        unfold colU
                        rw [q4d x (show y < 4 by omega), q4m x (show y < 4 by omega)]
                        by_cases q : y = k
                        · rw [if_pos q]; exact (h1 x y hx2 hy2).1 ⟨q, by omega⟩
                        · rw [if_neg q, (h1 x y hx2 hy2).2 (fun z => q z.1)]; exact prt_eq (by omega) ht8 x y hx2 hy2
                      refine lv_lload hx hb d_M_touches_209 (lv_at hl 1 rfl) ?_
                      refine lv_aload_n hx hb d_M_touches_211 rfl (lv_at hl 0 rfl) ?_
                      refine va_get (D := D) (ci := 2) (v := .ref po) (C := R_M) (T := F_M) (N := 21) hx hb hts iw_M hown hK hP 0 rfl rfl 16 (by decide) (hts _ tw_403) (fun _ h9 => h9) rfl d_M_touches_212 ?_
                      refine lv_iload hx hb d_M_touches_215 (lv_at hl 2 rfl) ?_
                      refine xl_ald hx hb hK hP 4 0 rfl rfl (k := k) (by omega) (by first | decide | omega) d_M_touches_217 ?_
                      refine lv_aload_n hx hb d_M_touches_218 rfl (lv_at hl 0 rfl) ?_
                      refine lv_aload_n hx hb d_M_touches_219 rfl (lv_at hl 0 rfl) ?_
                      refine va_get (D := D) (ci := 2) (v := .int (nI (d + 1))) (C := R_M) (T := F_M) (N := 21) hx hb hts iw_M hown hK hP 0 rfl rfl 6 (by decide) (hts _ tw_393) (fun _ h9 => h9) rfl d_M_touches_220 ?_
                      refine xcl (wc := [(g, .inr (2, [.int (nI 0), .int (nI d), .ref mm, .int ik, .ref kf, .ref tb, .int (nI (d + 1)), .ref wk, .int ab, .int be, .ref pl, .ref sp, .int a0, .int a1, .int b0, .int b1, .ref po, .ref to, .ref ba, .ref li, .int lm])), (tb, LA cJ 16 T7), (wk, LA cJ 20 W6)]) (wr := [(mm, IA cI 16 Fm), (po, LA cJ 4 P9)]) hP hD hS hA [0, 2, 3] [1, 4] rfl rfl (by decide) (by decide) (va_runV (As := [.int (nI (d + 1))]) (rest := [.long (lI (P9 k)), .long (lI (tcN (prt Fm 0) P9 (d + 1) k))]) ⟨hx, hb, hml, hown, hts⟩ (r_sums l D cJ cI g (nI 0) d ik ab be a0 a1 b0 b1 lm mm kf tb wk pl sp po to ba li (d + 1) T7 W6 (d + 1) (by first | assumption | omega) (by first | assumption | omega) (by first | assumption | omega) (by first | assumption | omega) (enB_congr hcz (tab_20 (colU_B (by omega) hU hPB))) H.size) (cwV 1 hts (gV tw_488 tw_490 tws_21 tw_3 tw_491) rfl rfl rfl ⟨rfl, hd_M_sums⟩ ⟨Nat.le_of_ble_eq_true rfl, Nat.le_of_ble_eq_true rfl⟩) (xPreV (C := R_M) (T := F_M) (N := 21) (q0 := 0) hN hK (hP.sub (ws' := [(g, .inr (2, [.int (nI 0), .int (nI d), .ref mm, .int ik, .ref kf, .ref tb, .int (nI (d + 1)), .ref wk, .int ab, .int be, .ref pl, .ref sp, .int a0, .int a1, .int b0, .int b1, .ref po, .ref to, .ref ba, .ref li, .int lm])), (tb, LA cJ 16 T7), (wk, LA cJ 20 W6)]) [0, 2, 3] rfl) (hD.sub (ws' := [(g, .inr (2, [.int (nI 0), .int (nI d), .ref mm, .int ik, .ref kf, .ref tb, .int (nI (d + 1)), .ref wk, .int ab, .int be, .ref pl, .ref sp, .int a0, .int a1, .int b0, .int b1, .ref po, .ref to, .ref ba, .ref li, .int lm])), (tb, LA cJ 16 T7), (wk, LA cJ 20 W6)]) [0, 2, 3] (by decide) rfl) rfl rfl) rfl rfl hl.1 rfl (lv_room (Nat.le_of_ble_eq_true rfl)) d_M_touches_223 ⟨Nat.le_of_ble_eq_true rfl, Nat.le_of_ble_eq_true rfl⟩) (fun r_13 u_14 H locs hw_15 hP hD hS => ?_)
                      obtain ⟨W7, rfl⟩ : ∃ z, z = u_14 := ⟨_, rfl⟩
                      try dsimp only at hw_15
                      have hP : va_P D vwC [(g, .inr (2, [.int (nI 0), .int (nI d), .ref mm, .int ik, .ref kf, .ref tb, .int (nI (d + 1)), .ref wk, .int ab, .int be, .ref pl, .ref sp, .int a0, .int a1, .int b0, .int b1, .ref po, .ref to, .ref ba, .ref li, .int lm])), (mm, IA cI 16 Fm), (tb, LA cJ 16 T7), (wk, LA cJ 20 W7), (po, LA cJ 4 P9)] H := hP.sub [2, 0, 3, 4, 1] rfl
                      have hD : va_D A [(g, .inr (2, [.int (nI 0), .int (nI d), .ref mm, .int ik, .ref kf, .ref tb, .int (nI (d + 1)), .ref wk, .int ab, .int be, .ref pl, .ref sp, .int a0, .int a1, .int b0, .int b1, .ref po, .ref to, .ref ba, .ref li, .int lm])), (mm, IA cI 16 Fm), (tb, LA cJ 16 T7), (wk, LA cJ 20 W7), (po, LA cJ 4 P9)] := hD.sub [2, 0, 3, 4, 1] (by decide) rfl
                      subst hw_15
                      have hde : eS T7 (d + 1) (d + 1) = eS (colU (prt Fm 0) P9 k) (d + 1) (d + 1) := eS_congr (by omega) (by omega) hcz (d + 1) (Nat.le_refl _)
                      rw [hde]
                      refine xl_mul hx hb d_M_touches_226 ?_
                      refine xl_add hx hb d_M_touches_227 ?_
                      refine lv_lstore (lv' := [(5, .long (lI ((tcN (prt Fm 0) P9 (d + 1) k) + ((P9 k) * (eS (colU (prt Fm 0) P9 k) (d + 1) (d + 1)))))), (0, .ref g), (7, .int (nI k)), (8, .int (nI i))]) hx hb d_M_touches_228 hl (by decide) rfl (fun ls hl => ?_)
                      refine lv_iinc (v := nI (k + 1)) (lv' := [(7, .int (nI (k + 1))), (5, .long (lI ((tcN (prt Fm 0) P9 (d + 1) k) + ((P9 k) * (eS (colU (prt Fm 0) P9 k) (d + 1) (d + 1)))))), (0, .ref g), (8, .int (nI i))]) hx hb d_M_touches_230 hl (k := 2) rfl (nI_add _ _) (by decide) rfl (fun ls hl => ?_)
                      refine lv_goto (tgt := 158) hx hb d_M_touches_233 (by decide) ?_
                      exact ih_158 (k + 1) T7 W7 H locs ls (by omega) (by omega) hP hD hS (lv_sub hl [2, 1, 0] rfl)
                    · skip
                      refine lv_aload_n hx hb d_M_touches_184 rfl (lv_at hl 0 rfl) ?_
                      refine va_get (D := D) (ci := 2) (v := .ref tb) (C := R_M) (T := F_M) (N := 21) hx hb hts iw_M hown hK hP 0 rfl rfl 5 (by decide) (hts _ tw_392) (fun _ h9 => h9) rfl d_M_touches_185 ?_
                      refine lv_iconst (v := nI 4) hx hb d_M_touches_188 (by decide) ?_
                      refine lv_iload hx hb d_M_touches_189 (lv_at hl 3 rfl) ?_
                      refine xn_mul hx hb d_M_touches_191 ?_
                      refine lv_iload hx hb d_M_touches_192 (lv_at hl 2 rfl) ?_
                      refine xn_add hx hb d_M_touches_194 ?_
                      refine lv_aload_n hx hb d_M_touches_195 rfl (lv_at hl 0 rfl) ?_
                      refine va_get (D := D) (ci := 2) (v := .ref po) (C := R_M) (T := F_M) (N := 21) hx hb hts iw_M hown hK hP 0 rfl rfl 16 (by decide) (hts _ tw_403) (fun _ h9 => h9) rfl d_M_touches_196 ?_
                      refine lv_iload hx hb d_M_touches_199 (lv_at hl 3 rfl) ?_
                      refine xl_ald hx hb hK hP 4 0 rfl rfl (k := i) (by omega) (by first | decide | omega) d_M_touches_201 ?_
                      refine xl_ast hx hb hK hP hD hS 2 0 rfl rfl (k := (4 * i) + k) (by omega) (by first | decide | omega) d_M_touches_202 (fun H locs hP hD hS => ?_)
                      have hP : va_P D vwC [(g, .inr (2, [.int (nI 0), .int (nI d), .ref mm, .int ik, .ref kf, .ref tb, .int (nI (d + 1)), .ref wk, .int ab, .int be, .ref pl, .ref sp, .int a0, .int a1, .int b0, .int b1, .ref po, .ref to, .ref ba, .ref li, .int lm])), (mm, IA cI 16 Fm), (tb, LA cJ 16 (upZ T7 ((4 * i) + k) (P9 i))), (wk, LA cJ 20 W6), (po, LA cJ 4 P9)] H := hP
                      have hD : va_D A [(g, .inr (2, [.int (nI 0), .int (nI d), .ref mm, .int ik, .ref kf, .ref tb, .int (nI (d + 1)), .ref wk, .int ab, .int be, .ref pl, .ref sp, .int a0, .int a1, .int b0, .int b1, .ref po, .ref to, .ref ba, .ref li, .int lm])), (mm, IA cI 16 Fm), (tb, LA cJ 16 (upZ T7 ((4 * i) + k) (P9 i))), (wk, LA cJ 20 W6), (po, LA cJ 4 P9)] := hD
                      refine lv_iinc (v := nI (i + 1)) (lv' := [(8, .int (nI (i + 1))), (0, .ref g), (5, .long (lI (tcN (prt Fm 0) P9 (d + 1) k))), (7, .int (nI k))]) hx hb d_M_touches_203 hl (k := 3) rfl (nI_add _ _) (by decide) rfl (fun ls hl => ?_)
                      refine lv_goto (tgt := 175) hx hb d_M_touches_206 (by decide) ?_
                      exact ih_175 (i + 1) (upZ T7 ((4 * i) + k) (P9 i)) H locs ls (by omega) (fun x y hx2 hy2 => by by_cases q : y = k ∧ x = i; obtain ⟨rfl, rfl⟩ := q; exact ⟨fun _ => upZ_at _ _ _, fun z => absurd ⟨rfl, by omega⟩ z⟩; rw [upZ_ne (k := 4 * i + k) (j := 4 * x + y) _ _ (by omega)]; exact ⟨fun z => (h1 x y hx2 hy2).1 (by omega), fun z => (h1 x y hx2 hy2).2 (by omega)⟩) (by omega) hP hD hS (lv_sub hl [1, 2, 3, 0] rfl)
                exact lp_175 ((d + 1 - 0) + 1) 0 T8 H locs ls (Nat.zero_le _) (fun x y _ _ => ⟨fun q => absurd q.2 (Nat.not_lt_zero _), fun _ => rfl⟩) (by omega) hP hD hS (lv_sub hl [1, 2, 3, 0] rfl)
          exact lp_158 ((d + 1 - 0) + 1) 0 T5 W5 H locs ls (Nat.zero_le _) (by omega) hP hD hS (lv_sub hl [2, 1, 0] rfl)
        · skip
          refine lv_lconst (v := lI 0) hx hb d_M_touches_144 (by decide) ?_
          refine lv_goto (tgt := 151) hx hb d_M_touches_145 (by decide) ?_
          refine xl_ast hx hb hK hP hD hS 4 0 rfl rfl (k := 3) (by omega) (by first | decide | omega) d_M_touches_151 (fun H locs hP hD hS => ?_)
          have hP : va_P D vwC [(g, .inr (2, [.int (nI 0), .int (nI d), .ref mm, .int ik, .ref kf, .ref tb, .int (nI (d + 1)), .ref wk, .int ab, .int be, .ref pl, .ref sp, .int a0, .int a1, .int b0, .int b1, .ref po, .ref to, .ref ba, .ref li, .int lm])), (mm, IA cI 16 Fm), (tb, LA cJ 16 T5), (wk, LA cJ 20 W5), (po, LA cJ 4 (upZ (upZ (upZ (upZ P0 0 u0.toInt) 1 u1.toInt) 2 u2.toInt) 3 0))] H := hP
          have hD : va_D A [(g, .inr (2, [.int (nI 0), .int (nI d), .ref mm, .int ik, .ref kf, .ref tb, .int (nI (d + 1)), .ref wk, .int ab, .int be, .ref pl, .ref sp, .int a0, .int a1, .int b0, .int b1, .ref po, .ref to, .ref ba, .ref li, .int lm])), (mm, IA cI 16 Fm), (tb, LA cJ 16 T5), (wk, LA cJ 20 W5), (po, LA cJ 4 (upZ (upZ (upZ (upZ P0 0 u0.toInt) 1 u1.toInt) 2 u2.toInt) 3 0))] := hD
          obtain ⟨P9, hP9⟩ : ∃ z, z = upZ (upZ (upZ (upZ P0 0 u0.toInt) 1 u1.toInt) 2 u2.toInt) 3 0 := ⟨_, rfl⟩
          rw [← hP9] at hP hD
          have hP : va_P D vwC [(g, .inr (2, [.int (nI 0), .int (nI d), .ref mm, .int ik, .ref kf, .ref tb, .int (nI (d + 1)), .ref wk, .int ab, .int be, .ref pl, .ref sp, .int a0, .int a1, .int b0, .int b1, .ref po, .ref to, .ref ba, .ref li, .int lm])), (mm, IA cI 16 Fm), (tb, LA cJ 16 T5), (wk, LA cJ 20 W5), (po, LA cJ 4 P9)] H := hP
          have hD : va_D A [(g, .inr (2, [.int (nI 0), .int (nI d), .ref mm, .int ik, .ref kf, .ref tb, .int (nI (d + 1)), .ref wk, .int ab, .int be, .ref pl, .ref sp, .int a0, .int a1, .int b0, .int b1, .ref po, .ref to, .ref ba, .ref li, .int lm])), (mm, IA cI 16 Fm), (tb, LA cJ 16 T5), (wk, LA cJ 20 W5), (po, LA cJ 4 P9)] := hD
          have hPt : ∀ k, k < 4 → P9 k = (ptR d u0.toInt u1.toInt u2.toInt u3.toInt) k := by rw [hP9]; exact pt4 (if_neg (by omega)).symm
          have hPB : ∀ k, k < 4 → inB (P9 k) 20 := fun k hk => by rw [hPt k hk]; exact (Classical.byContradiction (fun q => hok (Or.inl q)) : ∀ k, k < 4 → inB ((ptR d u0.toInt u1.toInt u2.toInt u3.toInt) k) 20) k hk
          have hU : enB (prt Fm 0) (d + 1) 20 := enB_f hF (by omega)
          refine lv_lconst (v := lI 0) hx hb d_M_touches_152 (by decide) ?_
          refine lv_lstore (lv' := [(5, .long (lI 0)), (0, .ref g), (1, .int u0), (2, .int u1), (3, .int u2), (4, .int u3)]) hx hb d_M_touches_153 hl (by decide) rfl (fun ls hl => ?_)
          refine lv_iconst (v := nI 0) hx hb d_M_touches_155 (by decide) ?_
          refine lv_istore (lv' := [(7, .int (nI 0)), (5, .long (lI 0)), (0, .ref g), (1, .int u0), (2, .int u1), (3, .int u2), (4, .int u3)]) hx hb d_M_touches_156 hl (by decide) rfl (fun ls hl => ?_)
          have lp_158 : ∀ (n_158 : Nat) (k : Nat) (T6 : Nat → Int) (W6 : Nat → Int) (H : Heap) (locs : List Loc) (ls : Array Slot), (k ≤ d + 1) → (d + 1 - k) < n_158 → va_P D vwC [(g, .inr (2, [.int (nI 0), .int (nI d), .ref mm, .int ik, .ref kf, .ref tb, .int (nI (d + 1)), .ref wk, .int ab, .int be, .ref pl, .ref sp, .int a0, .int a1, .int b0, .int b1, .ref po, .ref to, .ref ba, .ref li, .int lm])), (mm, IA cI 16 Fm), (tb, LA cJ 16 T6), (wk, LA cJ 20 W6), (po, LA cJ 4 P9)] H → va_D A [(g, .inr (2, [.int (nI 0), .int (nI d), .ref mm, .int ik, .ref kf, .ref tb, .int (nI (d + 1)), .ref wk, .int ab, .int be, .ref pl, .ref sp, .int a0, .int a1, .int b0, .int b1, .ref po, .ref to, .ref ba, .ref li, .int lm])), (mm, IA cI 16 Fm), (tb, LA cJ 16 T6), (wk, LA cJ 20 W6), (po, LA cJ 4 P9)] → va_S A s.heap H locs → lv_has ls 9 [(0, .ref g), (5, .long (lI (tcN (prt Fm 0) P9 (d + 1) k))), (7, .int (nI k))] → W p l e rm_r_touches s m args below meth c H locs 0 0 Q (F0 m 158 ls []) := by
            intro n_158
            induction n_158 with
            | zero => intro k T6 W6 H locs ls hk hn_158; exact absurd hn_158 (Nat.not_lt_zero _)
            | succ n_158 ih_158 =>
              intro k T6 W6 H locs ls hk hn_158 hP hD hS hl
              refine lv_iload hx hb d_M_touches_158 (lv_at hl 2 rfl) ?_
              refine lv_aload_n hx hb d_M_touches_160 rfl (lv_at hl 0 rfl) ?_
              refine va_get (D := D) (ci := 2) (v := .int (nI d)) (C := R_M) (T := F_M) (N := 21) hx hb hts iw_M hown hK hP 0 rfl rfl 1 (by decide) (hts _ tw_388) (fun _ h9 => h9) rfl d_M_touches_161 ?_
              refine xn_gt (tgt := 236) hx hb (by omega) (by omega) d_M_touches_164 (by decide) (fun c164_15 => ?_) (fun c164_15 => ?_)
              · skip
                have hk9 : k = d + 1 := by omega
                subst hk9
                have hlb : lB (tcN (prt Fm 0) P9 (d + 1) (d + 1)) := lB_of (leB (tcN_B (by omega) (by omega) hU hPB (n := d + 1) (by omega)) (show _ ≤ (4 * (20 * 1099511627776) : Int) by omega)) (by decide)
                have htc : tcN (prt Fm 0) P9 (d + 1) (d + 1) = tchN (prt Fm 0) (ptR d u0.toInt u1.toInt u2.toInt u3.toInt) (d + 1) (d + 1) := by
                  rw [← tchN_congr (by omega) hPt (Nat.le_refl _)]; clear hl hP hD hS hok hPt hP9; rcases (show d = 2 ∨ d = 3 by omega) with z | z; subst z; exact tc_3 _ _; subst z; exact tc_4 _ _
                refine lv_lload hx hb d_M_touches_236 (lv_at hl 1 rfl) ?_
                refine lv_lconst (v := lI 0) hx hb d_M_touches_238 (by decide) ?_
                refine xl_ne (tgt := 247) hx hb hlb ⟨by decide, by decide⟩ d_M_touches_239 d_M_touches_240 (by decide) (fun c240_16 => ?_) (fun c240_16 => ?_)
                · skip
                  refine lv_iconst (v := nI 0) hx hb d_M_touches_247 (by decide) ?_
                  exact hret H locs _ ls (nI 0) (nI (d + 1), T6, W6, P9) d_M_touches_248 (by first | exact (by rw [s_tch_f hok, if_neg (show ¬ det (prt Fm 0) (d + 1) = 0 from hdt ▸ c101_5), ← htc, if_neg c240_16]) | (dsimp only; exact (by rw [s_tch_f hok, if_neg (show ¬ det (prt Fm 0) (d + 1) = 0 from hdt ▸ c101_5), ← htc, if_neg c240_16]))) hP hD hS
                · skip
                  refine lv_iconst (v := nI 1) hx hb d_M_touches_243 (by decide) ?_
                  refine lv_goto (tgt := 248) hx hb d_M_touches_244 (by decide) ?_
                  exact hret H locs _ ls (nI 1) (nI (d + 1), T6, W6, P9) d_M_touches_248 (by first | exact (by rw [s_tch_f hok, if_neg (show ¬ det (prt Fm 0) (d + 1) = 0 from hdt ▸ c101_5), ← htc, if_pos c240_16]) | (dsimp only; exact (by rw [s_tch_f hok, if_neg (show ¬ det (prt Fm 0) (d + 1) = 0 from hdt ▸ c101_5), ← htc, if_pos c240_16]))) hP hD hS
              · skip
                refine lv_aload_n hx hb d_M_touches_167 rfl (lv_at hl 0 rfl) ?_
                refine lv_iconst (v := nI 1) hx hb d_M_touches_168 (by decide) ?_
                refine xcv (wc := [(g, .inr (2, [.int (nI 0), .int (nI d), .ref mm, .int ik, .ref kf, .ref tb, .int (nI (d + 1)), .ref wk, .int ab, .int be, .ref pl, .ref sp, .int a0, .int a1, .int b0, .int b1, .ref po, .ref to, .ref ba, .ref li, .int lm])), (mm, IA cI 16 Fm), (tb, LA cJ 16 T6)]) (wr := [(wk, LA cJ 20 W6), (po, LA cJ 4 P9)]) hP hD hS hA [0, 1, 2] [3, 4] rfl rfl (by decide) (by decide) (va_runV (As := [.int (nI 1)]) (rest := []) ⟨hx, hb, hml, hown, hts⟩ (r_take1 l D cJ cI g (nI 0) d ik (nI (d + 1)) ab be a0 a1 b0 b1 lm mm kf tb wk pl sp po to ba li Fm T6 (by first | assumption | omega) (by first | assumption | omega) H.size) (cwV 1 hts (gV tw_480 tw_482 tws_19 tw_3 tw_483) rfl rfl rfl ⟨rfl, hd_M_take⟩ ⟨Nat.le_of_ble_eq_true rfl, Nat.le_of_ble_eq_true rfl⟩) (xPreV (C := R_M) (T := F_M) (N := 21) (q0 := 0) hN hK (hP.sub (ws' := [(g, .inr (2, [.int (nI 0), .int (nI d), .ref mm, .int ik, .ref kf, .ref tb, .int (nI (d + 1)), .ref wk, .int ab, .int be, .ref pl, .ref sp, .int a0, .int a1, .int b0, .int b1, .ref po, .ref to, .ref ba, .ref li, .int lm])), (mm, IA cI 16 Fm), (tb, LA cJ 16 T6)]) [0, 1, 2] rfl) (hD.sub (ws' := [(g, .inr (2, [.int (nI 0), .int (nI d), .ref mm, .int ik, .ref kf, .ref tb, .int (nI (d + 1)), .ref wk, .int ab, .int be, .ref pl, .ref sp, .int a0, .int a1, .int b0, .int b1, .ref po, .ref to, .ref ba, .ref li, .int lm])), (mm, IA cI 16 Fm), (tb, LA cJ 16 T6)]) [0, 1, 2] (by decide) rfl) rfl rfl) rfl rfl hl.1 rfl (lv_room (Nat.le_of_ble_eq_true rfl)) d_M_touches_169 ⟨Nat.le_of_ble_eq_true rfl, Nat.le_of_ble_eq_true rfl⟩) (fun u_19 H locs ht8 hP hD hS => ?_)
                obtain ⟨T8, rfl⟩ : ∃ z, z = u_19 := ⟨_, rfl⟩
                try dsimp only at ht8
                have hP : va_P D vwC [(g, .inr (2, [.int (nI 0), .int (nI d), .ref mm, .int ik, .ref kf, .ref tb, .int (nI (d + 1)), .ref wk, .int ab, .int be, .ref pl, .ref sp, .int a0, .int a1, .int b0, .int b1, .ref po, .ref to, .ref ba, .ref li, .int lm])), (mm, IA cI 16 Fm), (tb, LA cJ 16 T8), (wk, LA cJ 20 W6), (po, LA cJ 4 P9)] H := hP.sub [2, 3, 4, 0, 1] rfl
                have hD : va_D A [(g, .inr (2, [.int (nI 0), .int (nI d), .ref mm, .int ik, .ref kf, .ref tb, .int (nI (d + 1)), .ref wk, .int ab, .int be, .ref pl, .ref sp, .int a0, .int a1, .int b0, .int b1, .ref po, .ref to, .ref ba, .ref li, .int lm])), (mm, IA cI 16 Fm), (tb, LA cJ 16 T8), (wk, LA cJ 20 W6), (po, LA cJ 4 P9)] := hD.sub [2, 3, 4, 0, 1] (by decide) rfl
                refine lv_iconst (v := nI 0) hx hb d_M_touches_172 (by decide) ?_
                refine lv_istore (lv' := [(8, .int (nI 0)), (0, .ref g), (5, .long (lI (tcN (prt Fm 0) P9 (d + 1) k))), (7, .int (nI k))]) hx hb d_M_touches_173 hl (by decide) rfl (fun ls hl => ?_)
                have lp_175 : ∀ (n_175 : Nat) (i : Nat) (T7 : Nat → Int) (H : Heap) (locs : List Loc) (ls : Array Slot), (i ≤ d + 1) → (∀ x y, x < d + 1 → y < d + 1 → ((y = k ∧ x < i) → T7 (4 * x + y) = P9 x) ∧ (¬ (y = k ∧ x < i) → T7 (4 * x + y) = T8 (4 * x + y))) → (d + 1 - i) < n_175 → va_P D vwC [(g, .inr (2, [.int (nI 0), .int (nI d), .ref mm, .int ik, .ref kf, .ref tb, .int (nI (d + 1)), .ref wk, .int ab, .int be, .ref pl, .ref sp, .int a0, .int a1, .int b0, .int b1, .ref po, .ref to, .ref ba, .ref li, .int lm])), (mm, IA cI 16 Fm), (tb, LA cJ 16 T7), (wk, LA cJ 20 W6), (po, LA cJ 4 P9)] H → va_D A [(g, .inr (2, [.int (nI 0), .int (nI d), .ref mm, .int ik, .ref kf, .ref tb, .int (nI (d + 1)), .ref wk, .int ab, .int be, .ref pl, .ref sp, .int a0, .int a1, .int b0, .int b1, .ref po, .ref to, .ref ba, .ref li, .int lm])), (mm, IA cI 16 Fm), (tb, LA cJ 16 T7), (wk, LA cJ 20 W6), (po, LA cJ 4 P9)] → va_S A s.heap H locs → lv_has ls 9 [(0, .ref g), (5, .long (lI (tcN (prt Fm 0) P9 (d + 1) k))), (7, .int (nI k)), (8, .int (nI i))] → W p l e rm_r_touches s m args below meth c H locs 0 0 Q (F0 m 175 ls []) := by
                  intro n_175
                  induction n_175 with
                  | zero => intro i T7 H locs ls hi h1 hn_175; exact absurd hn_175 (Nat.not_lt_zero _)
                  | succ n_175 ih_175 =>
                    intro i T7 H locs ls hi h1 hn_175 hP hD hS hl
                    refine lv_iload hx hb d_M_touches_175 (lv_at hl 3 rfl) ?_
                    refine lv_aload_n hx hb d_M_touches_177 rfl (lv_at hl 0 rfl) ?_
                    refine va_get (D := D) (ci := 2) (v := .int (nI d)) (C := R_M) (T := F_M) (N := 21) hx hb hts iw_M hown hK hP 0 rfl rfl 1 (by decide) (hts _ tw_388) (fun _ h9 => h9) rfl d_M_touches_178 ?_
                    refine xn_gt (tgt := 209) hx hb (by omega) (by omega) d_M_touches_181 (by decide) (fun c181_19 => ?_) (fun c181_19 => ?_)
                    · skip
                      have hcz : ∀ x y, x < d + 1 → y < d + 1 → T7 (4 * x + y) = colU (prt Fm 0) P9 k (4 * x + y) := by
                        intro x y hx2 hy2
                        unfold colU
                        rw [q4d x (show y < 4 by omega), q4m x (show y < 4 by omega)]
                        by_cases q : y = k
                        · rw [if_pos q]; exact (h1 x y hx2 hy2).1 ⟨q, by omega⟩
                        · rw [if_neg q, (h1 x y hx2 hy2).2 (fun z => q z.1)]; exact prt_eq (by omega) ht8 x y hx2 hy2
                      refine lv_lload hx hb d_M_touches_209 (lv_at hl 1 rfl) ?_
                      refine lv_aload_n hx hb d_M_touches_211 rfl (lv_at hl 0 rfl) ?_
                      refine va_get (D := D) (ci := 2) (v := .ref po) (C := R_M) (T := F_M) (N := 21) hx hb hts iw_M hown hK hP 0 rfl rfl 16 (by decide) (hts _ tw_403) (fun _ h9 => h9) rfl d_M_touches_212 ?_
                      refine lv_iload hx hb d_M_touches_215 (lv_at hl 2 rfl) ?_
                      refine xl_ald hx hb hK hP 4 0 rfl rfl (k := k) (by omega) (by first | decide | omega) d_M_touches_217 ?_
                      refine lv_aload_n hx hb d_M_touches_218 rfl (lv_at hl 0 rfl) ?_
                      refine lv_aload_n hx hb d_M_touches_219 rfl (lv_at hl 0 rfl) ?_
                      refine va_get (D := D) (ci := 2) (v := .int (nI (d + 1))) (C := R_M) (T := F_M) (N := 21) hx hb hts iw_M hown hK hP 0 rfl rfl 6 (by decide) (hts _ tw_393) (fun _ h9 => h9) rfl d_M_touches_220 ?_
                      refine xcl (wc := [(g, .inr (2, [.int (nI 0), .int (nI d), .ref mm, .int ik, .ref kf, .ref tb, .int (nI (d + 1)), .ref wk, .int ab, .int be, .ref pl, .ref sp, .int a0, .int a1, .int b0, .int b1, .ref po, .ref to, .ref ba, .ref li, .int lm])), (tb, LA cJ 16 T7), (wk, LA cJ 20 W6)]) (wr := [(mm, IA cI 16 Fm), (po, LA cJ 4 P9)]) hP hD hS hA [0, 2, 3] [1, 4] rfl rfl (by decide) (by decide) (va_runV (As := [.int (nI (d + 1))]) (rest := [.long (lI (P9 k)), .long (lI (tcN (prt Fm 0) P9 (d + 1) k))]) ⟨hx, hb, hml, hown, hts⟩ (r_sums l D cJ cI g (nI 0) d ik ab be a0 a1 b0 b1 lm mm kf tb wk pl sp po to ba li (d + 1) T7 W6 (d + 1) (by first | assumption | omega) (by first | assumption | omega) (by first | assumption | omega) (by first | assumption | omega) (enB_congr hcz (tab_20 (colU_B (by omega) hU hPB))) H.size) (cwV 1 hts (gV tw_488 tw_490 tws_21 tw_3 tw_491) rfl rfl rfl ⟨rfl, hd_M_sums⟩ ⟨Nat.le_of_ble_eq_true rfl, Nat.le_of_ble_eq_true rfl⟩) (xPreV (C := R_M) (T := F_M) (N := 21) (q0 := 0) hN hK (hP.sub (ws' := [(g, .inr (2, [.int (nI 0), .int (nI d), .ref mm, .int ik, .ref kf, .ref tb, .int (nI (d + 1)), .ref wk, .int ab, .int be, .ref pl, .ref sp, .int a0, .int a1, .int b0, .int b1, .ref po, .ref to, .ref ba, .ref li, .int lm])), (tb, LA cJ 16 T7), (wk, LA cJ 20 W6)]) [0, 2, 3] rfl) (hD.sub (ws' := [(g, .inr (2, [.int (nI 0), .int (nI d), .ref mm, .int ik, .ref kf, .ref tb, .int (nI (d + 1)), .ref wk, .int ab, .int be, .ref pl, .ref sp, .int a0, .int a1, .int b0, .int b1, .ref po, .ref to, .ref ba, .ref li, .int lm])), (tb, LA cJ 16 T7), (wk, LA cJ 20 W6)]) [0, 2, 3] (by decide) rfl) rfl rfl) rfl rfl hl.1 rfl (lv_room (Nat.le_of_ble_eq_true rfl)) d_M_touches_223 ⟨Nat.le_of_ble_eq_true rfl, Nat.le_of_ble_eq_true rfl⟩) (fun r_21 u_22 H locs hw_23 hP hD hS => ?_)
                      obtain ⟨W7, rfl⟩ : ∃ z, z = u_22 := ⟨_, rfl⟩
                      try dsimp only at hw_23
                      have hP : va_P D vwC [(g, .inr (2, [.int (nI 0), .int (nI d), .ref mm, .int ik, .ref kf, .ref tb, .int (nI (d + 1)), .ref wk, .int ab, .int be, .ref pl, .ref sp, .int a0, .int a1, .int b0, .int b1, .ref po, .ref to, .ref ba, .ref li, .int lm])), (mm, IA cI 16 Fm), (tb, LA cJ 16 T7), (wk, LA cJ 20 W7), (po, LA cJ 4 P9)] H := hP.sub [2, 0, 3, 4, 1] rfl
                      have hD : va_D A [(g, .inr (2, [.int (nI 0), .int (nI d), .ref mm, .int ik, .ref kf, .ref tb, .int (nI (d + 1)), .ref wk, .int ab, .int be, .ref pl, .ref sp, .int a0, .int a1, .int b0, .int b1, .ref po, .ref to, .ref ba, .ref li, .int lm])), (mm, IA cI 16 Fm), (tb, LA cJ 16 T7), (wk, LA cJ 20 W7), (po, LA cJ 4 P9)] := hD.sub [2, 0, 3, 4, 1] (by decide) rfl
                      subst hw_23
                      have hde : eS T7 (d + 1) (d + 1) = eS (colU (prt Fm 0) P9 k) (d + 1) (d + 1) := eS_congr (by omega) (by omega) hcz (d + 1) (Nat.le_refl _)
                      rw [hde]
                      refine xl_mul hx hb d_M_touches_226 ?_
                      refine xl_add hx hb d_M_touches_227 ?_
                      refine lv_lstore (lv' := [(5, .long (lI ((tcN (prt Fm 0) P9 (d + 1) k) + ((P9 k) * (eS (colU (prt Fm 0) P9 k) (d + 1) (d + 1)))))), (0, .ref g), (7, .int (nI k)), (8, .int (nI i))]) hx hb d_M_touches_228 hl (by decide) rfl (fun ls hl => ?_)
                      refine lv_iinc (v := nI (k + 1)) (lv' := [(7, .int (nI (k + 1))), (5, .long (lI ((tcN (prt Fm 0) P9 (d + 1) k) + ((P9 k) * (eS (colU (prt Fm 0) P9 k) (d + 1) (d + 1)))))), (0, .ref g), (8, .int (nI i))]) hx hb d_M_touches_230 hl (k := 2) rfl (nI_add _ _) (by decide) rfl (fun ls hl => ?_)
                      refine lv_goto (tgt := 158) hx hb d_M_touches_233 (by decide) ?_
                      exact ih_158 (k + 1) T7 W7 H locs ls (by omega) (by omega) hP hD hS (lv_sub hl [2, 1, 0] rfl)
                    · skip
                      refine lv_aload_n hx hb d_M_touches_184 rfl (lv_at hl 0 rfl) ?_
                      refine va_get (D := D) (ci := 2) (v := .ref tb) (C := R_M) (T := F_M) (N := 21) hx hb hts iw_M hown hK hP 0 rfl rfl 5 (by decide) (hts _ tw_392) (fun _ h9 => h9) rfl d_M_touches_185 ?_
                      refine lv_iconst (v := nI 4) hx hb d_M_touches_188 (by decide) ?_
                      refine lv_iload hx hb d_M_touches_189 (lv_at hl 3 rfl) ?_
                      refine xn_mul hx hb d_M_touches_191 ?_
                      refine lv_iload hx hb d_M_touches_192 (lv_at hl 2 rfl) ?_
                      refine xn_add hx hb d_M_touches_194 ?_
                      refine lv_aload_n hx hb d_M_touches_195 rfl (lv_at hl 0 rfl) ?_
                      refine va_get (D := D) (ci := 2) (v := .ref po) (C := R_M) (T := F_M) (N := 21) hx hb hts iw_M hown hK hP 0 rfl rfl 16 (by decide) (hts _ tw_403) (fun _ h9 => h9) rfl d_M_touches_196 ?_
                      refine lv_iload hx hb d_M_touches_199 (lv_at hl 3 rfl) ?_
                      refine xl_ald hx hb hK hP 4 0 rfl rfl (k := i) (by omega) (by first | decide | omega) d_M_touches_201 ?_
                      refine xl_ast hx hb hK hP hD hS 2 0 rfl rfl (k := (4 * i) + k) (by omega) (by first | decide | omega) d_M_touches_202 (fun H locs hP hD hS => ?_)
                      have hP : va_P D vwC [(g, .inr (2, [.int (nI 0), .int (nI d), .ref mm, .int ik, .ref kf, .ref tb, .int (nI (d + 1)), .ref wk, .int ab, .int be, .ref pl, .ref sp, .int a0, .int a1, .int b0, .int b1, .ref po, .ref to, .ref ba, .ref li, .int lm])), (mm, IA cI 16 Fm), (tb, LA cJ 16 (upZ T7 ((4 * i) + k) (P9 i))), (wk, LA cJ 20 W6), (po, LA cJ 4 P9)] H := hP
                      have hD : va_D A [(g, .inr (2, [.int (nI 0), .int (nI d), .ref mm, .int ik, .ref kf, .ref tb, .int (nI (d + 1)), .ref wk, .int ab, .int be, .ref pl, .ref sp, .int a0, .int a1, .int b0, .int b1, .ref po, .ref to, .ref ba, .ref li, .int lm])), (mm, IA cI 16 Fm), (tb, LA cJ 16 (upZ T7 ((4 * i) + k) (P9 i))), (wk, LA cJ 20 W6), (po, LA cJ 4 P9)] := hD
                      refine lv_iinc (v := nI (i + 1)) (lv' := [(8, .int (nI (i + 1))), (0, .ref g), (5, .long (lI (tcN (prt Fm 0) P9 (d + 1) k))), (7, .int (nI k))]) hx hb d_M_touches_203 hl (k := 3) rfl (nI_add _ _) (by decide) rfl (fun ls hl => ?_)
                      refine lv_goto (tgt := 175) hx hb d_M_touches_206 (by decide) ?_
                      exact ih_175 (i + 1) (upZ T7 ((4 * i) + k) (P9 i)) H locs ls (by omega) (fun x y hx2 hy2 => by by_cases q : y = k ∧ x = i; obtain ⟨rfl, rfl⟩ := q; exact ⟨fun _ => upZ_at _ _ _, fun z => absurd ⟨rfl, by omega⟩ z⟩; rw [upZ_ne (k := 4 * i + k) (j := 4 * x + y) _ _ (by omega)]; exact ⟨fun z => (h1 x y hx2 hy2).1 (by omega), fun z => (h1 x y hx2 hy2).2 (by omega)⟩) (by omega) hP hD hS (lv_sub hl [1, 2, 3, 0] rfl)
                exact lp_175 ((d + 1 - 0) + 1) 0 T8 H locs ls (Nat.zero_le _) (fun x y _ _ => ⟨fun q => absurd q.2 (Nat.not_lt_zero _), fun _ => rfl⟩) (by omega) hP hD hS (lv_sub hl [1, 2, 3, 0] rfl)
          exact lp_158 ((d + 1 - 0) + 1) 0 T5 W5 H locs ls (Nat.zero_le _) (by omega) hP hD hS (lv_sub hl [2, 1, 0] rfl)
      · skip
        refine lv_bipush (v := (-3)) hx hb d_M_touches_104 (by decide) ?_
        exact hret H locs _ ls (-3) (nI (d + 1), T5, W5, P0) d_M_touches_106 (by first | exact (by rw [s_tch_f hok, if_pos (show det (prt Fm 0) (d + 1) = 0 from hdt ▸ c101_5)]) | (dsimp only; exact (by rw [s_tch_f hok, if_pos (show det (prt Fm 0) (d + 1) = 0 from hdt ▸ c101_5)]))) hP hD hS
    refine lv_iload_n hx hb d_M_touches_5 rfl (lv_at hl 1 rfl) ?_
    refine lv_i2l (v := lI u0.toInt) hx hb d_M_touches_6 rfl ?_
    refine lv_bipush (v := (-20)) hx hb d_M_touches_7 (by decide) ?_
    refine lv_bipush (v := nI 20) hx hb d_M_touches_9 (by decide) ?_
    refine xci (wc := []) (wr := [(g, .inr (2, [.int (nI 0), .int (nI d), .ref mm, .int ik, .ref kf, .ref tb, .int rw, .ref wk, .int ab, .int be, .ref pl, .ref sp, .int a0, .int a1, .int b0, .int b1, .ref po, .ref to, .ref ba, .ref li, .int lm])), (mm, IA cI 16 Fm), (tb, LA cJ 16 T), (wk, LA cJ 20 W0), (po, LA cJ 4 P0)]) hP hD hS hA [] [0, 1, 2, 3, 4] rfl rfl (by decide) (by decide) (va_runS (As := [.long (lI u0.toInt), .int (-20), .int (nI 20)]) (rest := []) ⟨hx, hb, hml, hown, hts⟩ (r_in l D cJ cI u0.toInt (-20) (nI 20) (lB_i _) H.size) (cwS 3 hts (gS tw_464 tw_465 tw_3 tw_466) rfl rfl rfl ⟨rfl, hd_M_in⟩ ⟨Nat.le_of_ble_eq_true rfl, Nat.le_of_ble_eq_true rfl⟩) (xPreS hN hK (hP.sub (ws' := []) [] rfl) (hD.sub (ws' := []) [] (by decide) rfl)) rfl rfl hl.1 rfl (lv_room (Nat.le_of_ble_eq_true rfl)) d_M_touches_11 ⟨Nat.le_of_ble_eq_true rfl, Nat.le_of_ble_eq_true rfl⟩) (fun r_24 u_25 H locs w1 hP hD hS => ?_)
    try dsimp only at w1
    have hP : va_P D vwC [(g, .inr (2, [.int (nI 0), .int (nI d), .ref mm, .int ik, .ref kf, .ref tb, .int rw, .ref wk, .int ab, .int be, .ref pl, .ref sp, .int a0, .int a1, .int b0, .int b1, .ref po, .ref to, .ref ba, .ref li, .int lm])), (mm, IA cI 16 Fm), (tb, LA cJ 16 T), (wk, LA cJ 20 W0), (po, LA cJ 4 P0)] H := hP
    have hD : va_D A [(g, .inr (2, [.int (nI 0), .int (nI d), .ref mm, .int ik, .ref kf, .ref tb, .int rw, .ref wk, .int ab, .int be, .ref pl, .ref sp, .int a0, .int a1, .int b0, .int b1, .ref po, .ref to, .ref ba, .ref li, .int lm])), (mm, IA cI 16 Fm), (tb, LA cJ 16 T), (wk, LA cJ 20 W0), (po, LA cJ 4 P0)] := hD
    rcases w1 with ⟨rfl, w1⟩ | ⟨rfl, w1⟩
    · skip
      refine xz_eq (tgt := 83) (X := (1 : Nat)) hx hb (nI_toInt (by omega)) d_M_touches_14 (by decide) (fun c14_25 => absurd c14_25 (by omega)) (fun c14_25 => ?_)
      refine lv_iload_n hx hb d_M_touches_17 rfl (lv_at hl 2 rfl) ?_
      refine lv_i2l (v := lI u1.toInt) hx hb d_M_touches_18 rfl ?_
      refine lv_bipush (v := (-20)) hx hb d_M_touches_19 (by decide) ?_
      refine lv_bipush (v := nI 20) hx hb d_M_touches_21 (by decide) ?_
      refine xci (wc := []) (wr := [(g, .inr (2, [.int (nI 0), .int (nI d), .ref mm, .int ik, .ref kf, .ref tb, .int rw, .ref wk, .int ab, .int be, .ref pl, .ref sp, .int a0, .int a1, .int b0, .int b1, .ref po, .ref to, .ref ba, .ref li, .int lm])), (mm, IA cI 16 Fm), (tb, LA cJ 16 T), (wk, LA cJ 20 W0), (po, LA cJ 4 P0)]) hP hD hS hA [] [0, 1, 2, 3, 4] rfl rfl (by decide) (by decide) (va_runS (As := [.long (lI u1.toInt), .int (-20), .int (nI 20)]) (rest := []) ⟨hx, hb, hml, hown, hts⟩ (r_in l D cJ cI u1.toInt (-20) (nI 20) (lB_i _) H.size) (cwS 3 hts (gS tw_464 tw_465 tw_3 tw_466) rfl rfl rfl ⟨rfl, hd_M_in⟩ ⟨Nat.le_of_ble_eq_true rfl, Nat.le_of_ble_eq_true rfl⟩) (xPreS hN hK (hP.sub (ws' := []) [] rfl) (hD.sub (ws' := []) [] (by decide) rfl)) rfl rfl hl.1 rfl (lv_room (Nat.le_of_ble_eq_true rfl)) d_M_touches_23 ⟨Nat.le_of_ble_eq_true rfl, Nat.le_of_ble_eq_true rfl⟩) (fun r_27 u_28 H locs w2 hP hD hS => ?_)
      try dsimp only at w2
      have hP : va_P D vwC [(g, .inr (2, [.int (nI 0), .int (nI d), .ref mm, .int ik, .ref kf, .ref tb, .int rw, .ref wk, .int ab, .int be, .ref pl, .ref sp, .int a0, .int a1, .int b0, .int b1, .ref po, .ref to, .ref ba, .ref li, .int lm])), (mm, IA cI 16 Fm), (tb, LA cJ 16 T), (wk, LA cJ 20 W0), (po, LA cJ 4 P0)] H := hP
      have hD : va_D A [(g, .inr (2, [.int (nI 0), .int (nI d), .ref mm, .int ik, .ref kf, .ref tb, .int rw, .ref wk, .int ab, .int be, .ref pl, .ref sp, .int a0, .int a1, .int b0, .int b1, .ref po, .ref to, .ref ba, .ref li, .int lm])), (mm, IA cI 16 Fm), (tb, LA cJ 16 T), (wk, LA cJ 20 W0), (po, LA cJ 4 P0)] := hD
      rcases w2 with ⟨rfl, w2⟩ | ⟨rfl, w2⟩
      · skip
        refine xz_eq (tgt := 83) (X := (1 : Nat)) hx hb (nI_toInt (by omega)) d_M_touches_26 (by decide) (fun c26_28 => absurd c26_28 (by omega)) (fun c26_28 => ?_)
        refine lv_iload_n hx hb d_M_touches_29 rfl (lv_at hl 3 rfl) ?_
        refine lv_i2l (v := lI u2.toInt) hx hb d_M_touches_30 rfl ?_
        refine lv_bipush (v := (-20)) hx hb d_M_touches_31 (by decide) ?_
        refine lv_bipush (v := nI 20) hx hb d_M_touches_33 (by decide) ?_
        refine xci (wc := []) (wr := [(g, .inr (2, [.int (nI 0), .int (nI d), .ref mm, .int ik, .ref kf, .ref tb, .int rw, .ref wk, .int ab, .int be, .ref pl, .ref sp, .int a0, .int a1, .int b0, .int b1, .ref po, .ref to, .ref ba, .ref li, .int lm])), (mm, IA cI 16 Fm), (tb, LA cJ 16 T), (wk, LA cJ 20 W0), (po, LA cJ 4 P0)]) hP hD hS hA [] [0, 1, 2, 3, 4] rfl rfl (by decide) (by decide) (va_runS (As := [.long (lI u2.toInt), .int (-20), .int (nI 20)]) (rest := []) ⟨hx, hb, hml, hown, hts⟩ (r_in l D cJ cI u2.toInt (-20) (nI 20) (lB_i _) H.size) (cwS 3 hts (gS tw_464 tw_465 tw_3 tw_466) rfl rfl rfl ⟨rfl, hd_M_in⟩ ⟨Nat.le_of_ble_eq_true rfl, Nat.le_of_ble_eq_true rfl⟩) (xPreS hN hK (hP.sub (ws' := []) [] rfl) (hD.sub (ws' := []) [] (by decide) rfl)) rfl rfl hl.1 rfl (lv_room (Nat.le_of_ble_eq_true rfl)) d_M_touches_35 ⟨Nat.le_of_ble_eq_true rfl, Nat.le_of_ble_eq_true rfl⟩) (fun r_30 u_31 H locs w3 hP hD hS => ?_)
        try dsimp only at w3
        have hP : va_P D vwC [(g, .inr (2, [.int (nI 0), .int (nI d), .ref mm, .int ik, .ref kf, .ref tb, .int rw, .ref wk, .int ab, .int be, .ref pl, .ref sp, .int a0, .int a1, .int b0, .int b1, .ref po, .ref to, .ref ba, .ref li, .int lm])), (mm, IA cI 16 Fm), (tb, LA cJ 16 T), (wk, LA cJ 20 W0), (po, LA cJ 4 P0)] H := hP
        have hD : va_D A [(g, .inr (2, [.int (nI 0), .int (nI d), .ref mm, .int ik, .ref kf, .ref tb, .int rw, .ref wk, .int ab, .int be, .ref pl, .ref sp, .int a0, .int a1, .int b0, .int b1, .ref po, .ref to, .ref ba, .ref li, .int lm])), (mm, IA cI 16 Fm), (tb, LA cJ 16 T), (wk, LA cJ 20 W0), (po, LA cJ 4 P0)] := hD
        rcases w3 with ⟨rfl, w3⟩ | ⟨rfl, w3⟩
        · skip
          refine xz_eq (tgt := 83) (X := (1 : Nat)) hx hb (nI_toInt (by omega)) d_M_touches_38 (by decide) (fun c38_31 => absurd c38_31 (by omega)) (fun c38_31 => ?_)
          refine lv_aload_n hx hb d_M_touches_41 rfl (lv_at hl 0 rfl) ?_
          refine va_get (D := D) (ci := 2) (v := .int (nI d)) (C := R_M) (T := F_M) (N := 21) hx hb hts iw_M hown hK hP 0 rfl rfl 1 (by decide) (hts _ tw_388) (fun _ h9 => h9) rfl d_M_touches_42 ?_
          refine lv_iconst (v := nI 3) hx hb d_M_touches_45 (by decide) ?_
          refine xn_ne (tgt := 62) hx hb (by omega) (by omega) d_M_touches_46 (by decide) (fun c46_32 => ?_) (fun c46_32 => ?_)
          · skip
            refine lv_iload_n hx hb d_M_touches_62 rfl (lv_at hl 2 rfl) ?_
            refine xz_ne (tgt := 86) (X := u1.toInt) hx hb rfl d_M_touches_63 (by decide) (fun c63_33 => ?_) (fun c63_33 => ?_)
            · skip
              exact lp_86  H locs ls (fun q => absurd ((rowBad_iff hd2 hd3 (by decide)).mp q) (by have c1 : (nI 20).toInt = 20 := rfl; have c2 : (-20 : Int32).toInt = -20 := rfl; unfold inB; omega)) hP hD hS (lv_sub hl [0, 1, 2, 3, 4] rfl)
            · skip
              refine lv_iload_n hx hb d_M_touches_66 rfl (lv_at hl 3 rfl) ?_
              refine xz_ne (tgt := 86) (X := u2.toInt) hx hb rfl d_M_touches_67 (by decide) (fun c67_34 => ?_) (fun c67_34 => ?_)
              · skip
                exact lp_86  H locs ls (fun q => absurd ((rowBad_iff hd2 hd3 (by decide)).mp q) (by have c1 : (nI 20).toInt = 20 := rfl; have c2 : (-20 : Int32).toInt = -20 := rfl; unfold inB; omega)) hP hD hS (lv_sub hl [0, 1, 2, 3, 4] rfl)
              · skip
                refine lv_aload_n hx hb d_M_touches_70 rfl (lv_at hl 0 rfl) ?_
                refine va_get (D := D) (ci := 2) (v := .int (nI d)) (C := R_M) (T := F_M) (N := 21) hx hb hts iw_M hown hK hP 0 rfl rfl 1 (by decide) (hts _ tw_388) (fun _ h9 => h9) rfl d_M_touches_71 ?_
                refine lv_iconst (v := nI 2) hx hb d_M_touches_74 (by decide) ?_
                refine xn_eq (tgt := 83) hx hb (by omega) (by omega) d_M_touches_75 (by decide) (fun c75_35 => ?_) (fun c75_35 => absurd c75_35 (by omega))
                refine lv_bipush (v := (-2)) hx hb d_M_touches_83 (by decide) ?_
                exact hret H locs _ ls (-2) (rw, T, W0, P0) d_M_touches_85 (by first | exact (by rw [s_tch_t ((rowBad_iff hd2 hd3 (by decide)).mpr (by have c1 : (nI 20).toInt = 20 := rfl; have c2 : (-20 : Int32).toInt = -20 := rfl; unfold inB; omega))]) | (dsimp only; exact (by rw [s_tch_t ((rowBad_iff hd2 hd3 (by decide)).mpr (by have c1 : (nI 20).toInt = 20 := rfl; have c2 : (-20 : Int32).toInt = -20 := rfl; unfold inB; omega))]))) hP hD hS
          · skip
            refine lv_iload hx hb d_M_touches_49 (lv_at hl 4 rfl) ?_
            refine lv_i2l (v := lI u3.toInt) hx hb d_M_touches_51 rfl ?_
            refine lv_bipush (v := (-20)) hx hb d_M_touches_52 (by decide) ?_
            refine lv_bipush (v := nI 20) hx hb d_M_touches_54 (by decide) ?_
            refine xci (wc := []) (wr := [(g, .inr (2, [.int (nI 0), .int (nI d), .ref mm, .int ik, .ref kf, .ref tb, .int rw, .ref wk, .int ab, .int be, .ref pl, .ref sp, .int a0, .int a1, .int b0, .int b1, .ref po, .ref to, .ref ba, .ref li, .int lm])), (mm, IA cI 16 Fm), (tb, LA cJ 16 T), (wk, LA cJ 20 W0), (po, LA cJ 4 P0)]) hP hD hS hA [] [0, 1, 2, 3, 4] rfl rfl (by decide) (by decide) (va_runS (As := [.long (lI u3.toInt), .int (-20), .int (nI 20)]) (rest := []) ⟨hx, hb, hml, hown, hts⟩ (r_in l D cJ cI u3.toInt (-20) (nI 20) (lB_i _) H.size) (cwS 3 hts (gS tw_464 tw_465 tw_3 tw_466) rfl rfl rfl ⟨rfl, hd_M_in⟩ ⟨Nat.le_of_ble_eq_true rfl, Nat.le_of_ble_eq_true rfl⟩) (xPreS hN hK (hP.sub (ws' := []) [] rfl) (hD.sub (ws' := []) [] (by decide) rfl)) rfl rfl hl.1 rfl (lv_room (Nat.le_of_ble_eq_true rfl)) d_M_touches_56 ⟨Nat.le_of_ble_eq_true rfl, Nat.le_of_ble_eq_true rfl⟩) (fun r_37 u_38 H locs w4 hP hD hS => ?_)
            try dsimp only at w4
            have hP : va_P D vwC [(g, .inr (2, [.int (nI 0), .int (nI d), .ref mm, .int ik, .ref kf, .ref tb, .int rw, .ref wk, .int ab, .int be, .ref pl, .ref sp, .int a0, .int a1, .int b0, .int b1, .ref po, .ref to, .ref ba, .ref li, .int lm])), (mm, IA cI 16 Fm), (tb, LA cJ 16 T), (wk, LA cJ 20 W0), (po, LA cJ 4 P0)] H := hP
            have hD : va_D A [(g, .inr (2, [.int (nI 0), .int (nI d), .ref mm, .int ik, .ref kf, .ref tb, .int rw, .ref wk, .int ab, .int be, .ref pl, .ref sp, .int a0, .int a1, .int b0, .int b1, .ref po, .ref to, .ref ba, .ref li, .int lm])), (mm, IA cI 16 Fm), (tb, LA cJ 16 T), (wk, LA cJ 20 W0), (po, LA cJ 4 P0)] := hD
            rcases w4 with ⟨rfl, w4⟩ | ⟨rfl, w4⟩
            · skip
              refine xz_eq (tgt := 83) (X := (1 : Nat)) hx hb (nI_toInt (by omega)) d_M_touches_59 (by decide) (fun c59_38 => absurd c59_38 (by omega)) (fun c59_38 => ?_)
              refine lv_iload_n hx hb d_M_touches_62 rfl (lv_at hl 2 rfl) ?_
              refine xz_ne (tgt := 86) (X := u1.toInt) hx hb rfl d_M_touches_63 (by decide) (fun c63_39 => ?_) (fun c63_39 => ?_)
              · skip
                exact lp_86  H locs ls (fun q => absurd ((rowBad_iff hd2 hd3 (by decide)).mp q) (by have c1 : (nI 20).toInt = 20 := rfl; have c2 : (-20 : Int32).toInt = -20 := rfl; unfold inB; omega)) hP hD hS (lv_sub hl [0, 1, 2, 3, 4] rfl)
              · skip
                refine lv_iload_n hx hb d_M_touches_66 rfl (lv_at hl 3 rfl) ?_
                refine xz_ne (tgt := 86) (X := u2.toInt) hx hb rfl d_M_touches_67 (by decide) (fun c67_40 => ?_) (fun c67_40 => ?_)
                · skip
                  exact lp_86  H locs ls (fun q => absurd ((rowBad_iff hd2 hd3 (by decide)).mp q) (by have c1 : (nI 20).toInt = 20 := rfl; have c2 : (-20 : Int32).toInt = -20 := rfl; unfold inB; omega)) hP hD hS (lv_sub hl [0, 1, 2, 3, 4] rfl)
                · skip
                  refine lv_aload_n hx hb d_M_touches_70 rfl (lv_at hl 0 rfl) ?_
                  refine va_get (D := D) (ci := 2) (v := .int (nI d)) (C := R_M) (T := F_M) (N := 21) hx hb hts iw_M hown hK hP 0 rfl rfl 1 (by decide) (hts _ tw_388) (fun _ h9 => h9) rfl d_M_touches_71 ?_
                  refine lv_iconst (v := nI 2) hx hb d_M_touches_74 (by decide) ?_
                  refine xn_eq (tgt := 83) hx hb (by omega) (by omega) d_M_touches_75 (by decide) (fun c75_41 => absurd c75_41 (by omega)) (fun c75_41 => ?_)
                  refine lv_iload hx hb d_M_touches_78 (lv_at hl 4 rfl) ?_
                  refine xz_ne (tgt := 86) (X := u3.toInt) hx hb rfl d_M_touches_80 (by decide) (fun c80_42 => ?_) (fun c80_42 => ?_)
                  · skip
                    exact lp_86  H locs ls (fun q => absurd ((rowBad_iff hd2 hd3 (by decide)).mp q) (by have c1 : (nI 20).toInt = 20 := rfl; have c2 : (-20 : Int32).toInt = -20 := rfl; unfold inB; omega)) hP hD hS (lv_sub hl [0, 1, 2, 3, 4] rfl)
                  · skip
                    refine lv_bipush (v := (-2)) hx hb d_M_touches_83 (by decide) ?_
                    exact hret H locs _ ls (-2) (rw, T, W0, P0) d_M_touches_85 (by first | exact (by rw [s_tch_t ((rowBad_iff hd2 hd3 (by decide)).mpr (by have c1 : (nI 20).toInt = 20 := rfl; have c2 : (-20 : Int32).toInt = -20 := rfl; unfold inB; omega))]) | (dsimp only; exact (by rw [s_tch_t ((rowBad_iff hd2 hd3 (by decide)).mpr (by have c1 : (nI 20).toInt = 20 := rfl; have c2 : (-20 : Int32).toInt = -20 := rfl; unfold inB; omega))]))) hP hD hS
            · skip
              refine xz_eq (tgt := 83) (X := (0 : Nat)) hx hb (nI_toInt (by omega)) d_M_touches_59 (by decide) (fun c59_43 => ?_) (fun c59_43 => absurd c59_43 (by omega))
              refine lv_bipush (v := (-2)) hx hb d_M_touches_83 (by decide) ?_
              exact hret H locs _ ls (-2) (rw, T, W0, P0) d_M_touches_85 (by first | exact (by rw [s_tch_t ((rowBad_iff hd2 hd3 (by decide)).mpr (by have c1 : (nI 20).toInt = 20 := rfl; have c2 : (-20 : Int32).toInt = -20 := rfl; unfold inB; omega))]) | (dsimp only; exact (by rw [s_tch_t ((rowBad_iff hd2 hd3 (by decide)).mpr (by have c1 : (nI 20).toInt = 20 := rfl; have c2 : (-20 : Int32).toInt = -20 := rfl; unfold inB; omega))]))) hP hD hS
        · skip
          refine xz_eq (tgt := 83) (X := (0 : Nat)) hx hb (nI_toInt (by omega)) d_M_touches_38 (by decide) (fun c38_44 => ?_) (fun c38_44 => absurd c38_44 (by omega))
          refine lv_bipush (v := (-2)) hx hb d_M_touches_83 (by decide) ?_
          exact hret H locs _ ls (-2) (rw, T, W0, P0) d_M_touches_85 (by first | exact (by rw [s_tch_t ((rowBad_iff hd2 hd3 (by decide)).mpr (by have c1 : (nI 20).toInt = 20 := rfl; have c2 : (-20 : Int32).toInt = -20 := rfl; unfold inB; omega))]) | (dsimp only; exact (by rw [s_tch_t ((rowBad_iff hd2 hd3 (by decide)).mpr (by have c1 : (nI 20).toInt = 20 := rfl; have c2 : (-20 : Int32).toInt = -20 := rfl; unfold inB; omega))]))) hP hD hS
      · skip
        refine xz_eq (tgt := 83) (X := (0 : Nat)) hx hb (nI_toInt (by omega)) d_M_touches_26 (by decide) (fun c26_45 => ?_) (fun c26_45 => absurd c26_45 (by omega))
        refine lv_bipush (v := (-2)) hx hb d_M_touches_83 (by decide) ?_
        exact hret H locs _ ls (-2) (rw, T, W0, P0) d_M_touches_85 (by first | exact (by rw [s_tch_t ((rowBad_iff hd2 hd3 (by decide)).mpr (by have c1 : (nI 20).toInt = 20 := rfl; have c2 : (-20 : Int32).toInt = -20 := rfl; unfold inB; omega))]) | (dsimp only; exact (by rw [s_tch_t ((rowBad_iff hd2 hd3 (by decide)).mpr (by have c1 : (nI 20).toInt = 20 := rfl; have c2 : (-20 : Int32).toInt = -20 := rfl; unfold inB; omega))]))) hP hD hS
    · skip
      refine xz_eq (tgt := 83) (X := (0 : Nat)) hx hb (nI_toInt (by omega)) d_M_touches_14 (by decide) (fun c14_46 => ?_) (fun c14_46 => absurd c14_46 (by omega))
      refine lv_bipush (v := (-2)) hx hb d_M_touches_83 (by decide) ?_
      exact hret H locs _ ls (-2) (rw, T, W0, P0) d_M_touches_85 (by first | exact (by rw [s_tch_t ((rowBad_iff hd2 hd3 (by decide)).mpr (by have c1 : (nI 20).toInt = 20 := rfl; have c2 : (-20 : Int32).toInt = -20 := rfl; unfold inB; omega))]) | (dsimp only; exact (by rw [s_tch_t ((rowBad_iff hd2 hd3 (by decide)).mpr (by have c1 : (nI 20).toInt = 20 := rfl; have c2 : (-20 : Int32).toInt = -20 := rfl; unfold inB; omega))]))) hP hD hS
  rw [hH, hlc] at key; exact key
