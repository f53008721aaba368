/-! contracts of ConicKindsModel: unlike, meets (wip/spec_model8.py, modelH) -/
theorem all_iff {d : Nat} {a b c e B : Int} (hB : 0 ≤ B) : (∀ k, k < 4 → inB (ptR d a b c e k) B) ↔ inB a B ∧ inB b B ∧ inB c B ∧ (d = 3 → inB e B) := by
  constructor
  · intro h
    refine ⟨h 0 (by decide), h 1 (by decide), h 2 (by decide), fun q => ?_⟩
    have := h 3 (by decide)
    rw [show ptR d a b c e 3 = if d = 3 then e else 0 from rfl, if_pos q] at this
    exact this
  · rintro ⟨h0, h1, h2, h3⟩ k hk
    match k, hk with
    | 0, _ => exact h0
    | 1, _ => exact h1
    | 2, _ => exact h2
    | 3, _ =>
      show inB (if d = 3 then e else 0) B
      split
      · exact h3 (by assumption)
      · exact ⟨by omega, hB⟩
theorem rowBad_iff {d : Nat} {a b c e B : Int} (hd2 : 2 ≤ d) (hd3 : d ≤ 3) (hB : 0 ≤ B) : rowBad (ptR d a b c e) d B ↔ ¬ (inB a B ∧ inB b B ∧ inB c B ∧ (d = 3 → inB e B)) ∨ (b = 0 ∧ c = 0 ∧ (d = 3 → e = 0)) := by
  unfold rowBad
  rw [all_iff hB]
  have : (∀ k, 1 ≤ k → k ≤ d → ptR d a b c e k = 0) ↔ (b = 0 ∧ c = 0 ∧ (d = 3 → e = 0)) := by
    constructor
    · intro h
      refine ⟨h 1 (by decide) (by omega), h 2 (by decide) (by omega), fun q => ?_⟩
      have := h 3 (by decide) (by omega)
      rw [show ptR d a b c e 3 = if d = 3 then e else 0 from rfl, if_pos q] at this
      exact this
    · rintro ⟨h1, h2, h3⟩ k k1 k2
      match k, k1, k2 with
      | 1, _, _ => exact h1
      | 2, _, _ => exact h2
      | 3, _, _ =>
        show (if d = 3 then e else 0) = 0
        split
        · exact h3 (by assumption)
        · rfl
      | n + 4, _, k2 => exact absurd k2 (by omega)
  rw [this]
theorem me_bad {d : Nat} {x y z u v w : Int} (hd2 : 2 ≤ d) (hd3 : d ≤ 3) : ((¬ ∀ k, k < 4 → inB (ptR d 1 x y z k) 20) ∨ rowBad (ptR d 0 u v w) d 20) ↔ (¬ (inB x 20 ∧ inB y 20 ∧ (d = 3 → inB z 20)) ∨ ¬ (inB u 20 ∧ inB v 20 ∧ (d = 3 → inB w 20)) ∨ (u = 0 ∧ v = 0 ∧ (d = 3 → w = 0))) := by
  rw [all_iff (by decide), rowBad_iff hd2 hd3 (by decide)]
  have e1 : inB 1 20 := ⟨by decide, by decide⟩
  have e0 : inB 0 20 := ⟨by decide, by decide⟩
  constructor
  · rintro (q | q | q)
    · exact Or.inl (fun z => q ⟨e1, z⟩)
    · exact Or.inr (Or.inl (fun z => q ⟨e0, z⟩))
    · exact Or.inr (Or.inr q)
  · rintro (q | q | q)
    · exact Or.inl (fun z => q z.2)
    · exact Or.inr (Or.inl (fun z => q z.2))
    · exact Or.inr (Or.inr q)
theorem me_row {Bs : Nat → Int} {d : Nat} {x y z u v w z2 w2 : Int} (hz : z2 = if d = 3 then z else 0) (hw : w2 = if d = 3 then w else 0) : (∀ k, k < 4 → upZ (upZ (upZ (upZ (upZ (upZ (upZ (upZ Bs 0 1) 1 x) 2 y) 3 z2) 4 0) 5 u) 6 v) 7 w2 (4 * 0 + k) = ptR d 1 x y z k) ∧ ∀ k, k < 4 → upZ (upZ (upZ (upZ (upZ (upZ (upZ (upZ Bs 0 1) 1 x) 2 y) 3 z2) 4 0) 5 u) 6 v) 7 w2 (4 * 1 + k) = ptR d 0 u v w k := by
  constructor
  · intro k hk
    match k, hk with
    | 0, _ => rfl
    | 1, _ => rfl
    | 2, _ => rfl
    | 3, _ => exact hz
  · intro k hk
    match k, hk with
    | 0, _ => rfl
    | 1, _ => rfl
    | 2, _ => rfl
    | 3, _ => exact hw
theorem fq_frm {Fm B P R : Nat → Int} {d p q : Nat} (hd : d = 2 ∨ d = 3) (hP : ∀ k, k < 4 → B (4 * p + k) = P k) (hR : ∀ k, k < 4 → B (4 * q + k) = R k) (h3 : d = 2 → P 3 = 0 ∧ R 3 = 0) : fqN Fm B p q 4 = frmN Fm P R d (d + 1) := by
  have p0 := hP 0 (by decide); have p1 := hP 1 (by decide); have p2 := hP 2 (by decide); have p3 := hP 3 (by decide)
  have r0 := hR 0 (by decide); have r1 := hR 1 (by decide); have r2 := hR 2 (by decide); have r3 := hR 3 (by decide)
  rcases hd with rfl | rfl
  · obtain ⟨z1, z2⟩ := h3 rfl
    simp only [fqN, fqJ, frmN, rowN, p0, p1, p2, p3, r0, r1, r2, r3, z1, z2]
    grind
  · simp only [fqN, fqJ, frmN, rowN, p0, p1, p2, p3, r0, r1, r2, r3]
    grind
theorem ptR_3 {d : Nat} {a b c e : Int} (h : d = 2) : ptR d a b c e 3 = 0 := by subst h; rfl

def rm_r_unlike : Room := { frames := 4, cells := 0, slots := 0, locals := 103 }
set_option maxHeartbeats 4000000 in
set_option maxRecDepth 100000 in
/-- unlike -/
theorem r_unlike (l : Launch) (D : va_G) (cJ cI : ClassId) (g : Nat) (cd : Int32) (d : Nat) (ik : Int32) (rw : Int32) (ab : Int32) (be : Int32) (a0 : Int32) (a1 : Int32) (b0 : Int32) (b1 : Int32) (lm : Int32) (mm : Nat) (kf : Nat) (tb : Nat) (wk : Nat) (pl : Nat) (sp : Nat) (po : Nat) (to : Nat) (ba : Nat) (li : Nat) (Fm : Nat → Int) (T : Nat → Int) (W0 : Nat → Int) (hd2 : 2 ≤ d) (hd3 : d ≤ 3) (hF : ∀ k, k < 16 → inB (Fm k) 20) (sz : Nat) : xMi l y_M_unlike (Cond.code y_M_unlike b_M_unlike 10 (some .int) :: tW) rm_r_unlike [.ref g] D vwC [(cJ, .long), (cI, .int)] sz [(g, .inr (2, [.int cd, .int (nI d), .ref mm, .int ik, .ref kf, .ref tb, .int rw, .ref wk, .int ab, .int be, .ref pl, .ref sp, .int a0, .int a1, .int b0, .int b1, .ref po, .ref to, .ref ba, .ref li, .int lm])), (mm, IA cI 16 Fm), (tb, LA cJ 16 T), (wk, LA cJ 20 W0)] (fun (rv : Int32) (uo : Int32 × (Nat → Int) × (Nat → Int)) => rv = nI (s_unM Fm d)) (fun (uo : Int32 × (Nat → Int) × (Nat → Int)) => [(g, .inr (2, [.int (nI 0), .int (nI d), .ref mm, .int ik, .ref kf, .ref tb, .int uo.1, .ref wk, .int ab, .int be, .ref pl, .ref sp, .int a0, .int a1, .int b0, .int b1, .ref po, .ref to, .ref ba, .ref li, .int lm])), (mm, IA cI 16 Fm), (tb, LA cJ 16 uo.2.1), (wk, LA cJ 20 uo.2.2)]) 0 0 := by
  refine xoi (cc := b_M_unlike) (maxL := 10) (by decide) rfl (Nat.le_of_ble_eq_true rfl) ?_
  intro p e s m args below meth c Q A hx hb hml hts hown hN hA hS hP hK hD hret ls hl
  have hl : lv_has ls 10 [(0, .ref g)] := hl
  obtain ⟨H, hH⟩ : ∃ z, z = s.heap := ⟨_, rfl⟩
  obtain ⟨locs, hlc⟩ : ∃ z : List Loc, z = [] := ⟨_, rfl⟩
  rw [← hH] at hP
  have hS : va_S A s.heap H locs := by rw [hH, hlc]; exact hS
  have key : W p l e rm_r_unlike s m args below meth c H locs 0 0 Q (F0 m 0 ls []) := by
    refine lv_aload_n hx hb d_M_unlike_0 rfl (lv_at hl 0 rfl) ?_
    refine lv_iconst (v := nI 0) hx hb d_M_unlike_1 (by decide) ?_
    refine va_put (D := D) (ci := 2) (v := .int (nI 0)) (ty := .int) (C := R_M) (T := F_M) (N := 21) hx hb hts iw_M ft_M ft_M_ok n_M hown hK hP hD hS 0 rfl rfl 0 (by decide) (hts _ tw_387) (fun _ h9 => h9) rfl (by decide +kernel) rfl rfl (Nat.le_of_ble_eq_true rfl) d_M_unlike_2 (fun H locs hP hD hS => ?_)
    have hP : va_P D vwC [(g, .inr (2, [.int (nI 0), .int (nI d), .ref mm, .int ik, .ref kf, .ref tb, .int rw, .ref wk, .int ab, .int be, .ref pl, .ref sp, .int a0, .int a1, .int b0, .int b1, .ref po, .ref to, .ref ba, .ref li, .int lm])), (mm, IA cI 16 Fm), (tb, LA cJ 16 T), (wk, LA cJ 20 W0)] H := hP
    have hD : va_D A [(g, .inr (2, [.int (nI 0), .int (nI d), .ref mm, .int ik, .ref kf, .ref tb, .int rw, .ref wk, .int ab, .int be, .ref pl, .ref sp, .int a0, .int a1, .int b0, .int b1, .ref po, .ref to, .ref ba, .ref li, .int lm])), (mm, IA cI 16 Fm), (tb, LA cJ 16 T), (wk, LA cJ 20 W0)] := hD
    refine lv_iconst (v := nI 1) hx hb d_M_unlike_5 (by decide) ?_
    refine lv_istore_n (lv' := [(1, .int (nI 1)), (0, .ref g)]) hx hb d_M_unlike_6 rfl hl (by decide) rfl (fun ls hl => ?_)
    refine lv_iconst (v := nI 1) hx hb d_M_unlike_7 (by decide) ?_
    refine lv_istore_n (lv' := [(2, .int (nI 1)), (1, .int (nI 1)), (0, .ref g)]) hx hb d_M_unlike_8 rfl hl (by decide) rfl (fun ls hl => ?_)
    have lp_9 : ∀ (n_9 : Nat) (i : Nat) (sv : Nat) (H : Heap) (locs : List Loc) (ls : Array Slot), (1 ≤ i) → (i ≤ d + 1) → (sv ≤ 1) → (sv = 1 ↔ ∀ a b, 1 ≤ a → a < i → 1 ≤ b → b ≤ d → Fm (4 * a + b) = if a = b then Fm 5 else 0) → (d + 1 - i) < n_9 → va_P D vwC [(g, .inr (2, [.int (nI 0), .int (nI d), .ref mm, .int ik, .ref kf, .ref tb, .int rw, .ref wk, .int ab, .int be, .ref pl, .ref sp, .int a0, .int a1, .int b0, .int b1, .ref po, .ref to, .ref ba, .ref li, .int lm])), (mm, IA cI 16 Fm), (tb, LA cJ 16 T), (wk, LA cJ 20 W0)] H → va_D A [(g, .inr (2, [.int (nI 0), .int (nI d), .ref mm, .int ik, .ref kf, .ref tb, .int rw, .ref wk, .int ab, .int be, .ref pl, .ref sp, .int a0, .int a1, .int b0, .int b1, .ref po, .ref to, .ref ba, .ref li, .int lm])), (mm, IA cI 16 Fm), (tb, LA cJ 16 T), (wk, LA cJ 20 W0)] → va_S A s.heap H locs → lv_has ls 10 [(0, .ref g), (1, .int (nI sv)), (2, .int (nI i))] → W p l e rm_r_unlike s m args below meth c H locs 0 0 Q (F0 m 9 ls []) := by
      intro n_9
      induction n_9 with
      | zero => intro i sv H locs ls hi1 hi hs1 hsv hn_9; exact absurd hn_9 (Nat.not_lt_zero _)
      | succ n_9 ih_9 =>
        intro i sv H locs ls hi1 hi hs1 hsv hn_9 hP hD hS hl
        refine lv_iload_n hx hb d_M_unlike_9 rfl (lv_at hl 2 rfl) ?_
        refine lv_aload_n hx hb d_M_unlike_10 rfl (lv_at hl 0 rfl) ?_
        refine va_get (D := D) (ci := 2) (v := .int (nI d)) (C := R_M) (T := F_M) (N := 21) hx hb hts iw_M hown hK hP 0 rfl rfl 1 (by decide) (hts _ tw_388) (fun _ h9 => h9) rfl d_M_unlike_11 ?_
        refine xn_gt (tgt := 77) hx hb (by omega) (by omega) d_M_unlike_14 (by decide) (fun c14_0 => ?_) (fun c14_0 => ?_)
        · skip
          refine lv_iload_n hx hb d_M_unlike_77 rfl (lv_at hl 1 rfl) ?_
          refine xz_ne (tgt := 89) (X := (sv : Nat)) hx hb (nI_toInt (by omega)) d_M_unlike_78 (by decide) (fun c78_1 => ?_) (fun c78_1 => ?_)
          · skip
            refine lv_iload_n hx hb d_M_unlike_89 rfl (lv_at hl 1 rfl) ?_
            refine xz_eq (tgt := 97) (X := (sv : Nat)) hx hb (nI_toInt (by omega)) d_M_unlike_90 (by decide) (fun c90_2 => absurd c90_2 (by omega)) (fun c90_2 => ?_)
            refine lv_iconst (v := nI 1) hx hb d_M_unlike_93 (by decide) ?_
            refine lv_goto (tgt := 98) hx hb d_M_unlike_94 (by decide) ?_
            have hi9 : i = d + 1 := by omega
            exact hret H locs _ ls (nI 1) (rw, T, W0) d_M_unlike_98 (by first | exact (by rw [s_unM_t (fun a b q1 q2 q3 q4 => hsv.mp (by omega) a b q1 (by omega) q3 q4)]) | (dsimp only; exact (by rw [s_unM_t (fun a b q1 q2 q3 q4 => hsv.mp (by omega) a b q1 (by omega) q3 q4)]))) hP hD hS
          · skip
            refine lv_aload_n hx hb d_M_unlike_81 rfl (lv_at hl 0 rfl) ?_
            refine va_get (D := D) (ci := 2) (v := .int (nI d)) (C := R_M) (T := F_M) (N := 21) hx hb hts iw_M hown hK hP 0 rfl rfl 1 (by decide) (hts _ tw_388) (fun _ h9 => h9) rfl d_M_unlike_82 ?_
            refine lv_iconst (v := nI 2) hx hb d_M_unlike_85 (by decide) ?_
            refine xn_ne (tgt := 99) hx hb (by omega) (by omega) d_M_unlike_86 (by decide) (fun c86_3 => ?_) (fun c86_3 => ?_)
            · skip
              refine lv_aload_n hx hb d_M_unlike_99 rfl (lv_at hl 0 rfl) ?_
              refine lv_iconst (v := nI 0) hx hb d_M_unlike_100 (by decide) ?_
              refine xcv (wc := [(g, .inr (2, [.int (nI 0), .int (nI d), .ref mm, .int ik, .ref kf, .ref tb, .int rw, .ref wk, .int ab, .int be, .ref pl, .ref sp, .int a0, .int a1, .int b0, .int b1, .ref po, .ref to, .ref ba, .ref li, .int lm])), (mm, IA cI 16 Fm), (tb, LA cJ 16 T)]) (wr := [(wk, LA cJ 20 W0)]) hP hD hS hA [0, 1, 2] [3] rfl rfl (by decide) (by decide) (va_runV (As := [.int (nI 0)]) (rest := []) ⟨hx, hb, hml, hown, hts⟩ (r_take0 l D cJ cI g (nI 0) d ik rw ab be a0 a1 b0 b1 lm mm kf tb wk pl sp po to ba li Fm T (by first | assumption | omega) (by first | assumption | omega) H.size) (cwV 1 hts (gV tw_480 tw_482 tws_19 tw_3 tw_483) rfl rfl rfl ⟨rfl, hd_M_take⟩ ⟨Nat.le_of_ble_eq_true rfl, Nat.le_of_ble_eq_true rfl⟩) (xPreV (C := R_M) (T := F_M) (N := 21) (q0 := 0) hN hK (hP.sub (ws' := [(g, .inr (2, [.int (nI 0), .int (nI d), .ref mm, .int ik, .ref kf, .ref tb, .int rw, .ref wk, .int ab, .int be, .ref pl, .ref sp, .int a0, .int a1, .int b0, .int b1, .ref po, .ref to, .ref ba, .ref li, .int lm])), (mm, IA cI 16 Fm), (tb, LA cJ 16 T)]) [0, 1, 2] rfl) (hD.sub (ws' := [(g, .inr (2, [.int (nI 0), .int (nI d), .ref mm, .int ik, .ref kf, .ref tb, .int rw, .ref wk, .int ab, .int be, .ref pl, .ref sp, .int a0, .int a1, .int b0, .int b1, .ref po, .ref to, .ref ba, .ref li, .int lm])), (mm, IA cI 16 Fm), (tb, LA cJ 16 T)]) [0, 1, 2] (by decide) rfl) rfl rfl) rfl rfl hl.1 rfl (lv_room (Nat.le_of_ble_eq_true rfl)) d_M_unlike_101 ⟨Nat.le_of_ble_eq_true rfl, Nat.le_of_ble_eq_true rfl⟩) (fun u_6 H locs ht5 hP hD hS => ?_)
              obtain ⟨T5, rfl⟩ : ∃ z, z = u_6 := ⟨_, rfl⟩
              try dsimp only at ht5
              have hP : va_P D vwC [(g, .inr (2, [.int (nI 0), .int (nI d), .ref mm, .int ik, .ref kf, .ref tb, .int (nI d), .ref wk, .int ab, .int be, .ref pl, .ref sp, .int a0, .int a1, .int b0, .int b1, .ref po, .ref to, .ref ba, .ref li, .int lm])), (mm, IA cI 16 Fm), (tb, LA cJ 16 T5), (wk, LA cJ 20 W0)] H := hP.sub [1, 2, 3, 0] rfl
              have hD : va_D A [(g, .inr (2, [.int (nI 0), .int (nI d), .ref mm, .int ik, .ref kf, .ref tb, .int (nI d), .ref wk, .int ab, .int be, .ref pl, .ref sp, .int a0, .int a1, .int b0, .int b1, .ref po, .ref to, .ref ba, .ref li, .int lm])), (mm, IA cI 16 Fm), (tb, LA cJ 16 T5), (wk, LA cJ 20 W0)] := hD.sub [1, 2, 3, 0] (by decide) rfl
              refine lv_aload_n hx hb d_M_unlike_104 rfl (lv_at hl 0 rfl) ?_
              refine lv_iconst (v := nI 1) hx hb d_M_unlike_105 (by decide) ?_
              refine xcl (wc := [(g, .inr (2, [.int (nI 0), .int (nI d), .ref mm, .int ik, .ref kf, .ref tb, .int (nI d), .ref wk, .int ab, .int be, .ref pl, .ref sp, .int a0, .int a1, .int b0, .int b1, .ref po, .ref to, .ref ba, .ref li, .int lm])), (tb, LA cJ 16 T5), (wk, LA cJ 20 W0)]) (wr := [(mm, IA cI 16 Fm)]) hP hD hS hA [0, 2, 3] [1] rfl rfl (by decide) (by decide) (va_runV (As := [.int (nI 1)]) (rest := []) ⟨hx, hb, hml, hown, hts⟩ (r_sums l D cJ cI g (nI 0) d ik ab be a0 a1 b0 b1 lm mm kf tb wk pl sp po to ba li d T5 W0 1 (by first | assumption | omega) (by first | assumption | omega) (by first | assumption | omega) (by first | assumption | omega) (enB_congr (prt_eq (by omega) ht5) (enB_20 hF (f := 1) (r := d) (by omega))) H.size) (cwV 1 hts (gV tw_488 tw_490 tws_21 tw_3 tw_491) rfl rfl rfl ⟨rfl, hd_M_sums⟩ ⟨Nat.le_of_ble_eq_true rfl, Nat.le_of_ble_eq_true rfl⟩) (xPreV (C := R_M) (T := F_M) (N := 21) (q0 := 0) hN hK (hP.sub (ws' := [(g, .inr (2, [.int (nI 0), .int (nI d), .ref mm, .int ik, .ref kf, .ref tb, .int (nI d), .ref wk, .int ab, .int be, .ref pl, .ref sp, .int a0, .int a1, .int b0, .int b1, .ref po, .ref to, .ref ba, .ref li, .int lm])), (tb, LA cJ 16 T5), (wk, LA cJ 20 W0)]) [0, 2, 3] rfl) (hD.sub (ws' := [(g, .inr (2, [.int (nI 0), .int (nI d), .ref mm, .int ik, .ref kf, .ref tb, .int (nI d), .ref wk, .int ab, .int be, .ref pl, .ref sp, .int a0, .int a1, .int b0, .int b1, .ref po, .ref to, .ref ba, .ref li, .int lm])), (tb, LA cJ 16 T5), (wk, LA cJ 20 W0)]) [0, 2, 3] (by decide) rfl) rfl rfl) rfl rfl hl.1 rfl (lv_room (Nat.le_of_ble_eq_true rfl)) d_M_unlike_106 ⟨Nat.le_of_ble_eq_true rfl, Nat.le_of_ble_eq_true rfl⟩) (fun r_7 u_8 H locs hw_9 hP hD hS => ?_)
              obtain ⟨W2_10, rfl⟩ : ∃ z, z = u_8 := ⟨_, rfl⟩
              try dsimp only at hw_9
              have hP : va_P D vwC [(g, .inr (2, [.int (nI 0), .int (nI d), .ref mm, .int ik, .ref kf, .ref tb, .int (nI d), .ref wk, .int ab, .int be, .ref pl, .ref sp, .int a0, .int a1, .int b0, .int b1, .ref po, .ref to, .ref ba, .ref li, .int lm])), (mm, IA cI 16 Fm), (tb, LA cJ 16 T5), (wk, LA cJ 20 W2_10)] H := hP.sub [1, 0, 2, 3] rfl
              have hD : va_D A [(g, .inr (2, [.int (nI 0), .int (nI d), .ref mm, .int ik, .ref kf, .ref tb, .int (nI d), .ref wk, .int ab, .int be, .ref pl, .ref sp, .int a0, .int a1, .int b0, .int b1, .ref po, .ref to, .ref ba, .ref li, .int lm])), (mm, IA cI 16 Fm), (tb, LA cJ 16 T5), (wk, LA cJ 20 W2_10)] := hD.sub [1, 0, 2, 3] (by decide) rfl
              subst hw_9
              refine xl_neg hx hb d_M_unlike_109 ?_
              refine lv_lstore_n (lv' := [(2, .long (lI (-(eS T5 d 1)))), (0, .ref g), (1, .int (nI sv))]) hx hb d_M_unlike_110 rfl hl (by decide) rfl (fun ls hl => ?_)
              refine lv_aload_n hx hb d_M_unlike_111 rfl (lv_at hl 1 rfl) ?_
              refine lv_iconst (v := nI 2) hx hb d_M_unlike_112 (by decide) ?_
              refine xcl (wc := [(g, .inr (2, [.int (nI 0), .int (nI d), .ref mm, .int ik, .ref kf, .ref tb, .int (nI d), .ref wk, .int ab, .int be, .ref pl, .ref sp, .int a0, .int a1, .int b0, .int b1, .ref po, .ref to, .ref ba, .ref li, .int lm])), (tb, LA cJ 16 T5), (wk, LA cJ 20 W2_10)]) (wr := [(mm, IA cI 16 Fm)]) hP hD hS hA [0, 2, 3] [1] rfl rfl (by decide) (by decide) (va_runV (As := [.int (nI 2)]) (rest := []) ⟨hx, hb, hml, hown, hts⟩ (r_sums l D cJ cI g (nI 0) d ik ab be a0 a1 b0 b1 lm mm kf tb wk pl sp po to ba li d T5 W2_10 2 (by first | assumption | omega) (by first | assumption | omega) (by first | assumption | omega) (by first | assumption | omega) (enB_congr (prt_eq (by omega) ht5) (enB_20 hF (f := 1) (r := d) (by omega))) H.size) (cwV 1 hts (gV tw_488 tw_490 tws_21 tw_3 tw_491) rfl rfl rfl ⟨rfl, hd_M_sums⟩ ⟨Nat.le_of_ble_eq_true rfl, Nat.le_of_ble_eq_true rfl⟩) (xPreV (C := R_M) (T := F_M) (N := 21) (q0 := 0) hN hK (hP.sub (ws' := [(g, .inr (2, [.int (nI 0), .int (nI d), .ref mm, .int ik, .ref kf, .ref tb, .int (nI d), .ref wk, .int ab, .int be, .ref pl, .ref sp, .int a0, .int a1, .int b0, .int b1, .ref po, .ref to, .ref ba, .ref li, .int lm])), (tb, LA cJ 16 T5), (wk, LA cJ 20 W2_10)]) [0, 2, 3] rfl) (hD.sub (ws' := [(g, .inr (2, [.int (nI 0), .int (nI d), .ref mm, .int ik, .ref kf, .ref tb, .int (nI d), .ref wk, .int ab, .int be, .ref pl, .ref sp, .int a0, .int a1, .int b0, .int b1, .ref po, .ref to, .ref ba, .ref li, .int lm])), (tb, LA cJ 16 T5), (wk, LA cJ 20 W2_10)]) [0, 2, 3] (by decide) rfl) rfl rfl) rfl rfl hl.1 rfl (lv_room (Nat.le_of_ble_eq_true rfl)) d_M_unlike_113 ⟨Nat.le_of_ble_eq_true rfl, Nat.le_of_ble_eq_true rfl⟩) (fun r_11 u_12 H locs hw_13 hP hD hS => ?_)
              obtain ⟨W2_14, rfl⟩ : ∃ z, z = u_12 := ⟨_, rfl⟩
              try dsimp only at hw_13
              have hP : va_P D vwC [(g, .inr (2, [.int (nI 0), .int (nI d), .ref mm, .int ik, .ref kf, .ref tb, .int (nI d), .ref wk, .int ab, .int be, .ref pl, .ref sp, .int a0, .int a1, .int b0, .int b1, .ref po, .ref to, .ref ba, .ref li, .int lm])), (mm, IA cI 16 Fm), (tb, LA cJ 16 T5), (wk, LA cJ 20 W2_14)] H := hP.sub [1, 0, 2, 3] rfl
              have hD : va_D A [(g, .inr (2, [.int (nI 0), .int (nI d), .ref mm, .int ik, .ref kf, .ref tb, .int (nI d), .ref wk, .int ab, .int be, .ref pl, .ref sp, .int a0, .int a1, .int b0, .int b1, .ref po, .ref to, .ref ba, .ref li, .int lm])), (mm, IA cI 16 Fm), (tb, LA cJ 16 T5), (wk, LA cJ 20 W2_14)] := hD.sub [1, 0, 2, 3] (by decide) rfl
              subst hw_13
              refine lv_lstore (lv' := [(4, .long (lI (eS T5 d 2))), (2, .long (lI (-(eS T5 d 1)))), (0, .ref g), (1, .int (nI sv))]) hx hb d_M_unlike_116 hl (by decide) rfl (fun ls hl => ?_)
              refine lv_aload_n hx hb d_M_unlike_118 rfl (lv_at hl 2 rfl) ?_
              refine lv_iconst (v := nI 3) hx hb d_M_unlike_119 (by decide) ?_
              refine xcl (wc := [(g, .inr (2, [.int (nI 0), .int (nI d), .ref mm, .int ik, .ref kf, .ref tb, .int (nI d), .ref wk, .int ab, .int be, .ref pl, .ref sp, .int a0, .int a1, .int b0, .int b1, .ref po, .ref to, .ref ba, .ref li, .int lm])), (tb, LA cJ 16 T5), (wk, LA cJ 20 W2_14)]) (wr := [(mm, IA cI 16 Fm)]) hP hD hS hA [0, 2, 3] [1] rfl rfl (by decide) (by decide) (va_runV (As := [.int (nI 3)]) (rest := []) ⟨hx, hb, hml, hown, hts⟩ (r_sums l D cJ cI g (nI 0) d ik ab be a0 a1 b0 b1 lm mm kf tb wk pl sp po to ba li d T5 W2_14 3 (by first | assumption | omega) (by first | assumption | omega) (by first | assumption | omega) (by first | assumption | omega) (enB_congr (prt_eq (by omega) ht5) (enB_20 hF (f := 1) (r := d) (by omega))) H.size) (cwV 1 hts (gV tw_488 tw_490 tws_21 tw_3 tw_491) rfl rfl rfl ⟨rfl, hd_M_sums⟩ ⟨Nat.le_of_ble_eq_true rfl, Nat.le_of_ble_eq_true rfl⟩) (xPreV (C := R_M) (T := F_M) (N := 21) (q0 := 0) hN hK (hP.sub (ws' := [(g, .inr (2, [.int (nI 0), .int (nI d), .ref mm, .int ik, .ref kf, .ref tb, .int (nI d), .ref wk, .int ab, .int be, .ref pl, .ref sp, .int a0, .int a1, .int b0, .int b1, .ref po, .ref to, .ref ba, .ref li, .int lm])), (tb, LA cJ 16 T5), (wk, LA cJ 20 W2_14)]) [0, 2, 3] rfl) (hD.sub (ws' := [(g, .inr (2, [.int (nI 0), .int (nI d), .ref mm, .int ik, .ref kf, .ref tb, .int (nI d), .ref wk, .int ab, .int be, .ref pl, .ref sp, .int a0, .int a1, .int b0, .int b1, .ref po, .ref to, .ref ba, .ref li, .int lm])), (tb, LA cJ 16 T5), (wk, LA cJ 20 W2_14)]) [0, 2, 3] (by decide) rfl) rfl rfl) rfl rfl hl.1 rfl (lv_room (Nat.le_of_ble_eq_true rfl)) d_M_unlike_120 ⟨Nat.le_of_ble_eq_true rfl, Nat.le_of_ble_eq_true rfl⟩) (fun r_15 u_16 H locs hw_17 hP hD hS => ?_)
              obtain ⟨W2_18, rfl⟩ : ∃ z, z = u_16 := ⟨_, rfl⟩
              try dsimp only at hw_17
              have hP : va_P D vwC [(g, .inr (2, [.int (nI 0), .int (nI d), .ref mm, .int ik, .ref kf, .ref tb, .int (nI d), .ref wk, .int ab, .int be, .ref pl, .ref sp, .int a0, .int a1, .int b0, .int b1, .ref po, .ref to, .ref ba, .ref li, .int lm])), (mm, IA cI 16 Fm), (tb, LA cJ 16 T5), (wk, LA cJ 20 W2_18)] H := hP.sub [1, 0, 2, 3] rfl
              have hD : va_D A [(g, .inr (2, [.int (nI 0), .int (nI d), .ref mm, .int ik, .ref kf, .ref tb, .int (nI d), .ref wk, .int ab, .int be, .ref pl, .ref sp, .int a0, .int a1, .int b0, .int b1, .ref po, .ref to, .ref ba, .ref li, .int lm])), (mm, IA cI 16 Fm), (tb, LA cJ 16 T5), (wk, LA cJ 20 W2_18)] := hD.sub [1, 0, 2, 3] (by decide) rfl
              subst hw_17
              refine xl_neg hx hb d_M_unlike_123 ?_
              refine lv_lstore (lv' := [(6, .long (lI (-(eS T5 d 3)))), (4, .long (lI (eS T5 d 2))), (2, .long (lI (-(eS T5 d 1)))), (0, .ref g), (1, .int (nI sv))]) hx hb d_M_unlike_124 hl (by decide) rfl (fun ls hl => ?_)
              refine lv_ldc2 (v := lI (18)) hx hb hown (hts _ tw_549) d_M_unlike_126 ?_
              refine lv_lload_n hx hb d_M_unlike_129 rfl (lv_at hl 2 rfl) ?_
              refine xl_mul hx hb d_M_unlike_130 ?_
              refine lv_lload hx hb d_M_unlike_131 (lv_at hl 1 rfl) ?_
              refine xl_mul hx hb d_M_unlike_133 ?_
              refine lv_lload hx hb d_M_unlike_134 (lv_at hl 0 rfl) ?_
              refine xl_mul hx hb d_M_unlike_136 ?_
              refine lv_ldc2 (v := lI (4)) hx hb hown (hts _ tw_550) d_M_unlike_137 ?_
              refine lv_lload_n hx hb d_M_unlike_140 rfl (lv_at hl 2 rfl) ?_
              refine xl_mul hx hb d_M_unlike_141 ?_
              refine lv_lload_n hx hb d_M_unlike_142 rfl (lv_at hl 2 rfl) ?_
              refine xl_mul hx hb d_M_unlike_143 ?_
              refine lv_lload_n hx hb d_M_unlike_144 rfl (lv_at hl 2 rfl) ?_
              refine xl_mul hx hb d_M_unlike_145 ?_
              refine lv_lload hx hb d_M_unlike_146 (lv_at hl 0 rfl) ?_
              refine xl_mul hx hb d_M_unlike_148 ?_
              refine xl_sub hx hb d_M_unlike_149 ?_
              refine lv_lload_n hx hb d_M_unlike_150 rfl (lv_at hl 2 rfl) ?_
              refine lv_lload_n hx hb d_M_unlike_151 rfl (lv_at hl 2 rfl) ?_
              refine xl_mul hx hb d_M_unlike_152 ?_
              refine lv_lload hx hb d_M_unlike_153 (lv_at hl 1 rfl) ?_
              refine xl_mul hx hb d_M_unlike_155 ?_
              refine lv_lload hx hb d_M_unlike_156 (lv_at hl 1 rfl) ?_
              refine xl_mul hx hb d_M_unlike_158 ?_
              refine xl_add hx hb d_M_unlike_159 ?_
              refine lv_ldc2 (v := lI (4)) hx hb hown (hts _ tw_550) d_M_unlike_160 ?_
              refine lv_lload hx hb d_M_unlike_163 (lv_at hl 1 rfl) ?_
              refine xl_mul hx hb d_M_unlike_165 ?_
              refine lv_lload hx hb d_M_unlike_166 (lv_at hl 1 rfl) ?_
              refine xl_mul hx hb d_M_unlike_168 ?_
              refine lv_lload hx hb d_M_unlike_169 (lv_at hl 1 rfl) ?_
              refine xl_mul hx hb d_M_unlike_171 ?_
              refine xl_sub hx hb d_M_unlike_172 ?_
              refine lv_ldc2 (v := lI (27)) hx hb hown (hts _ tw_551) d_M_unlike_173 ?_
              refine lv_lload hx hb d_M_unlike_176 (lv_at hl 0 rfl) ?_
              refine xl_mul hx hb d_M_unlike_178 ?_
              refine lv_lload hx hb d_M_unlike_179 (lv_at hl 0 rfl) ?_
              refine xl_mul hx hb d_M_unlike_181 ?_
              refine xl_sub hx hb d_M_unlike_182 ?_
              refine lv_lstore (lv' := [(8, .long (lI ((((((((18) * (-(eS T5 d 1))) * (eS T5 d 2)) * (-(eS T5 d 3))) - (((((4) * (-(eS T5 d 1))) * (-(eS T5 d 1))) * (-(eS T5 d 1))) * (-(eS T5 d 3)))) + ((((-(eS T5 d 1)) * (-(eS T5 d 1))) * (eS T5 d 2)) * (eS T5 d 2))) - ((((4) * (eS T5 d 2)) * (eS T5 d 2)) * (eS T5 d 2))) - (((27) * (-(eS T5 d 3))) * (-(eS T5 d 3)))))), (6, .long (lI (-(eS T5 d 3)))), (4, .long (lI (eS T5 d 2))), (2, .long (lI (-(eS T5 d 1)))), (0, .ref g), (1, .int (nI sv))]) hx hb d_M_unlike_183 hl (by decide) rfl (fun ls hl => ?_)
              have hd9 : d = 3 := by omega
              have hu1 : eS T5 d 1 = eS (prt Fm 1) d 1 := eS_congr hd2 (by omega) (prt_eq (by omega) ht5) 1 (by omega)
              have hu2 : eS T5 d 2 = eS (prt Fm 1) d 2 := eS_congr hd2 (by omega) (prt_eq (by omega) ht5) 2 (by omega)
              have hu3 : eS T5 d 3 = eS (prt Fm 1) d 3 := eS_congr hd2 (by omega) (prt_eq (by omega) ht5) 3 (by omega)
              have hlb : lB (discZ (eS T5 d 1) (eS T5 d 2) (eS T5 d 3)) := by
                rw [hu1, hu2, hu3]; subst hd9
                have hE : enB (prt Fm 1) 3 20 := enB_f hF (by omega)
                obtain ⟨z1, z2, z3⟩ := e1_B20 (by decide) (by decide) hE
                exact disc_B z1 z2 z3
              refine lv_lload hx hb d_M_unlike_185 (lv_at hl 0 rfl) ?_
              refine lv_lconst (v := lI 0) hx hb d_M_unlike_187 (by decide) ?_
              refine xl_ne (tgt := 196) hx hb (by rw [disc_eq]; exact hlb) ⟨by decide, by decide⟩ d_M_unlike_188 d_M_unlike_189 (by decide) (fun c189_18 => ?_) (fun c189_18 => ?_)
              · skip
                refine lv_iconst (v := nI 3) hx hb d_M_unlike_196 (by decide) ?_
                have hi9 : i = d + 1 := by omega
                have hns : ¬ sameP Fm d := fun q => absurd (hsv.mpr (fun a b q1 q2 q3 q4 => q a b q1 (by omega) q3 q4)) (by omega)
                exact hret H locs _ ls (nI 3) (nI d, T5, W2_18) d_M_unlike_197 (by first | exact (by rw [s_unM_f hns, if_neg (show ¬ d = 2 from by omega), if_neg (show ¬ discZ (eS (prt Fm 1) d 1) (eS (prt Fm 1) d 2) (eS (prt Fm 1) d 3) = 0 from by rw [← hu1, ← hu2, ← hu3, ← disc_eq]; exact c189_18)]) | (dsimp only; exact (by rw [s_unM_f hns, if_neg (show ¬ d = 2 from by omega), if_neg (show ¬ discZ (eS (prt Fm 1) d 1) (eS (prt Fm 1) d 2) (eS (prt Fm 1) d 3) = 0 from by rw [← hu1, ← hu2, ← hu3, ← disc_eq]; exact c189_18)]))) hP hD hS
              · skip
                refine lv_iconst (v := nI 2) hx hb d_M_unlike_192 (by decide) ?_
                refine lv_goto (tgt := 197) hx hb d_M_unlike_193 (by decide) ?_
                have hi9 : i = d + 1 := by omega
                have hns : ¬ sameP Fm d := fun q => absurd (hsv.mpr (fun a b q1 q2 q3 q4 => q a b q1 (by omega) q3 q4)) (by omega)
                exact hret H locs _ ls (nI 2) (nI d, T5, W2_18) d_M_unlike_197 (by first | exact (by rw [s_unM_f hns, if_neg (show ¬ d = 2 from by omega), if_pos (show discZ (eS (prt Fm 1) d 1) (eS (prt Fm 1) d 2) (eS (prt Fm 1) d 3) = 0 from by rw [← hu1, ← hu2, ← hu3, ← disc_eq]; exact c189_18)]) | (dsimp only; exact (by rw [s_unM_f hns, if_neg (show ¬ d = 2 from by omega), if_pos (show discZ (eS (prt Fm 1) d 1) (eS (prt Fm 1) d 2) (eS (prt Fm 1) d 3) = 0 from by rw [← hu1, ← hu2, ← hu3, ← disc_eq]; exact c189_18)]))) hP hD hS
            · skip
              refine lv_iload_n hx hb d_M_unlike_89 rfl (lv_at hl 1 rfl) ?_
              refine xz_eq (tgt := 97) (X := (sv : Nat)) hx hb (nI_toInt (by omega)) d_M_unlike_90 (by decide) (fun c90_19 => ?_) (fun c90_19 => absurd c90_19 (by omega))
              refine lv_iconst (v := nI 2) hx hb d_M_unlike_97 (by decide) ?_
              have hi9 : i = d + 1 := by omega
              have hns : ¬ sameP Fm d := fun q => absurd (hsv.mpr (fun a b q1 q2 q3 q4 => q a b q1 (by omega) q3 q4)) (by omega)
              exact hret H locs _ ls (nI 2) (rw, T, W0) d_M_unlike_98 (by first | exact (by rw [s_unM_f hns, if_pos (show d = 2 from by omega)]) | (dsimp only; exact (by rw [s_unM_f hns, if_pos (show d = 2 from by omega)]))) hP hD hS
        · skip
          refine lv_iconst (v := nI 1) hx hb d_M_unlike_17 (by decide) ?_
          refine lv_istore_n (lv' := [(3, .int (nI 1)), (0, .ref g), (1, .int (nI sv)), (2, .int (nI i))]) hx hb d_M_unlike_18 rfl hl (by decide) rfl (fun ls hl => ?_)
          have lp_19 : ∀ (n_19 : Nat) (j : Nat) (tv : Nat) (H : Heap) (locs : List Loc) (ls : Array Slot), (1 ≤ j) → (j ≤ d + 1) → (tv ≤ 1) → (tv = 1 ↔ ((∀ a b, 1 ≤ a → a < i → 1 ≤ b → b ≤ d → Fm (4 * a + b) = if a = b then Fm 5 else 0) ∧ ∀ b, 1 ≤ b → b < j → Fm (4 * i + b) = if i = b then Fm 5 else 0)) → (d + 1 - j) < n_19 → va_P D vwC [(g, .inr (2, [.int (nI 0), .int (nI d), .ref mm, .int ik, .ref kf, .ref tb, .int rw, .ref wk, .int ab, .int be, .ref pl, .ref sp, .int a0, .int a1, .int b0, .int b1, .ref po, .ref to, .ref ba, .ref li, .int lm])), (mm, IA cI 16 Fm), (tb, LA cJ 16 T), (wk, LA cJ 20 W0)] H → va_D A [(g, .inr (2, [.int (nI 0), .int (nI d), .ref mm, .int ik, .ref kf, .ref tb, .int rw, .ref wk, .int ab, .int be, .ref pl, .ref sp, .int a0, .int a1, .int b0, .int b1, .ref po, .ref to, .ref ba, .ref li, .int lm])), (mm, IA cI 16 Fm), (tb, LA cJ 16 T), (wk, LA cJ 20 W0)] → va_S A s.heap H locs → lv_has ls 10 [(0, .ref g), (1, .int (nI tv)), (2, .int (nI i)), (3, .int (nI j))] → W p l e rm_r_unlike s m args below meth c H locs 0 0 Q (F0 m 19 ls []) := by
            intro n_19
            induction n_19 with
            | zero => intro j tv H locs ls hj1 hj ht1 htv hn_19; exact absurd hn_19 (Nat.not_lt_zero _)
            | succ n_19 ih_19 =>
              intro j tv H locs ls hj1 hj ht1 htv hn_19 hP hD hS hl
              refine lv_iload_n hx hb d_M_unlike_19 rfl (lv_at hl 3 rfl) ?_
              refine lv_aload_n hx hb d_M_unlike_20 rfl (lv_at hl 0 rfl) ?_
              refine va_get (D := D) (ci := 2) (v := .int (nI d)) (C := R_M) (T := F_M) (N := 21) hx hb hts iw_M hown hK hP 0 rfl rfl 1 (by decide) (hts _ tw_388) (fun _ h9 => h9) rfl d_M_unlike_21 ?_
              refine xn_gt (tgt := 71) hx hb (by omega) (by omega) d_M_unlike_24 (by decide) (fun c24_20 => ?_) (fun c24_20 => ?_)
              · skip
                refine lv_iinc (v := nI (i + 1)) (lv' := [(2, .int (nI (i + 1))), (0, .ref g), (1, .int (nI tv)), (3, .int (nI j))]) hx hb d_M_unlike_71 hl (k := 2) rfl (nI_add _ _) (by decide) rfl (fun ls hl => ?_)
                refine lv_goto (tgt := 9) hx hb d_M_unlike_74 (by decide) ?_
                exact ih_9 (i + 1) tv H locs ls (by omega) (by omega) ht1 (⟨fun q a b q1 q2 q3 q4 => by by_cases z : a = i; rw [z]; exact (htv.mp q).2 b q3 (by omega); exact (htv.mp q).1 a b q1 (by omega) q3 q4, fun q => htv.mpr ⟨fun a b q1 q2 q3 q4 => q a b q1 (by omega) q3 q4, fun b q3 q4 => q i b hi1 (by omega) q3 (by omega)⟩⟩) (by omega) hP hD hS (lv_sub hl [1, 2, 0] rfl)
              · skip
                refine lv_iload_n hx hb d_M_unlike_27 rfl (lv_at hl 1 rfl) ?_
                refine xz_eq (tgt := 63) (X := (tv : Nat)) hx hb (nI_toInt (by omega)) d_M_unlike_28 (by decide) (fun c28_21 => ?_) (fun c28_21 => ?_)
                · skip
                  refine lv_iconst (v := nI 0) hx hb d_M_unlike_63 (by decide) ?_
                  refine lv_istore_n (lv' := [(1, .int (nI 0)), (0, .ref g), (2, .int (nI i)), (3, .int (nI j))]) hx hb d_M_unlike_64 rfl hl (by decide) rfl (fun ls hl => ?_)
                  refine lv_iinc (v := nI (j + 1)) (lv' := [(3, .int (nI (j + 1))), (1, .int (nI 0)), (0, .ref g), (2, .int (nI i))]) hx hb d_M_unlike_65 hl (k := 3) rfl (nI_add _ _) (by decide) rfl (fun ls hl => ?_)
                  refine lv_goto (tgt := 19) hx hb d_M_unlike_68 (by decide) ?_
                  exact ih_19 (j + 1) 0 H locs ls (by omega) (by omega) (by decide) (⟨fun q => absurd q (by decide), fun q => absurd (htv.mpr ⟨q.1, fun b z1 z2 => q.2 b z1 (by omega)⟩) (by omega)⟩) (by omega) hP hD hS (lv_sub hl [2, 1, 3, 0] rfl)
                · skip
                  refine lv_aload_n hx hb d_M_unlike_31 rfl (lv_at hl 0 rfl) ?_
                  refine va_get (D := D) (ci := 2) (v := .ref mm) (C := R_M) (T := F_M) (N := 21) hx hb hts iw_M hown hK hP 0 rfl rfl 2 (by decide) (hts _ tw_389) (fun _ h9 => h9) rfl d_M_unlike_32 ?_
                  refine lv_iconst (v := nI 4) hx hb d_M_unlike_35 (by decide) ?_
                  refine lv_iload_n hx hb d_M_unlike_36 rfl (lv_at hl 2 rfl) ?_
                  refine xn_mul hx hb d_M_unlike_37 ?_
                  refine lv_iload_n hx hb d_M_unlike_38 rfl (lv_at hl 3 rfl) ?_
                  refine xn_add hx hb d_M_unlike_39 ?_
                  refine xi_ald hx hb hK hP 1 1 rfl rfl (k := (4 * i) + j) (by omega) (by first | decide | omega) d_M_unlike_40 ?_
                  refine lv_iload_n hx hb d_M_unlike_41 rfl (lv_at hl 2 rfl) ?_
                  refine lv_iload_n hx hb d_M_unlike_42 rfl (lv_at hl 3 rfl) ?_
                  refine xn_ne (tgt := 55) hx hb (by omega) (by omega) d_M_unlike_43 (by decide) (fun c43_22 => ?_) (fun c43_22 => ?_)
                  · skip
                    refine lv_iconst (v := nI 0) hx hb d_M_unlike_55 (by decide) ?_
                    refine xi_ne (tgt := 63) (X := (Fm ((4 * i) + j))) (Y := ((0 : Nat) : Int)) hx hb (iI_toInt (iB_of (hF _ (by omega)) (by decide))) (nI_toInt (by omega)) d_M_unlike_56 (by decide) (fun c56_23 => ?_) (fun c56_23 => ?_)
                    · skip
                      refine lv_iconst (v := nI 0) hx hb d_M_unlike_63 (by decide) ?_
                      refine lv_istore_n (lv' := [(1, .int (nI 0)), (0, .ref g), (2, .int (nI i)), (3, .int (nI j))]) hx hb d_M_unlike_64 rfl hl (by decide) rfl (fun ls hl => ?_)
                      refine lv_iinc (v := nI (j + 1)) (lv' := [(3, .int (nI (j + 1))), (1, .int (nI 0)), (0, .ref g), (2, .int (nI i))]) hx hb d_M_unlike_65 hl (k := 3) rfl (nI_add _ _) (by decide) rfl (fun ls hl => ?_)
                      refine lv_goto (tgt := 19) hx hb d_M_unlike_68 (by decide) ?_
                      exact ih_19 (j + 1) 0 H locs ls (by omega) (by omega) (by decide) (⟨fun q => absurd q (by decide), fun q => absurd ((q.2 j (by omega) (by omega)).trans ((if_neg (show ¬ i = j from c43_22)).symm).symm) c56_23⟩) (by omega) hP hD hS (lv_sub hl [2, 1, 3, 0] rfl)
                    · skip
                      refine lv_iconst (v := nI 1) hx hb d_M_unlike_59 (by decide) ?_
                      refine lv_goto (tgt := 64) hx hb d_M_unlike_60 (by decide) ?_
                      refine lv_istore_n (lv' := [(1, .int (nI 1)), (0, .ref g), (2, .int (nI i)), (3, .int (nI j))]) hx hb d_M_unlike_64 rfl hl (by decide) rfl (fun ls hl => ?_)
                      refine lv_iinc (v := nI (j + 1)) (lv' := [(3, .int (nI (j + 1))), (1, .int (nI 1)), (0, .ref g), (2, .int (nI i))]) hx hb d_M_unlike_65 hl (k := 3) rfl (nI_add _ _) (by decide) rfl (fun ls hl => ?_)
                      refine lv_goto (tgt := 19) hx hb d_M_unlike_68 (by decide) ?_
                      exact ih_19 (j + 1) 1 H locs ls (by omega) (by omega) (by decide) (⟨fun _ => ⟨(htv.mp (by omega)).1, fun b z1 z2 => by by_cases z : b = j; rw [z]; exact Eq.trans c56_23 ((if_neg (show ¬ i = j from c43_22)).symm); exact (htv.mp (by omega)).2 b z1 (by omega)⟩, fun _ => rfl⟩) (by omega) hP hD hS (lv_sub hl [2, 1, 3, 0] rfl)
                  · skip
                    refine lv_aload_n hx hb d_M_unlike_46 rfl (lv_at hl 0 rfl) ?_
                    refine va_get (D := D) (ci := 2) (v := .ref mm) (C := R_M) (T := F_M) (N := 21) hx hb hts iw_M hown hK hP 0 rfl rfl 2 (by decide) (hts _ tw_389) (fun _ h9 => h9) rfl d_M_unlike_47 ?_
                    refine lv_iconst (v := nI 5) hx hb d_M_unlike_50 (by decide) ?_
                    refine xi_ald hx hb hK hP 1 1 rfl rfl (k := 5) (by omega) (by first | decide | omega) d_M_unlike_51 ?_
                    refine lv_goto (tgt := 56) hx hb d_M_unlike_52 (by decide) ?_
                    refine xi_ne (tgt := 63) (X := (Fm ((4 * i) + j))) (Y := (Fm 5)) hx hb (iI_toInt (iB_of (hF _ (by omega)) (by decide))) (iI_toInt (iB_of (hF _ (by omega)) (by decide))) d_M_unlike_56 (by decide) (fun c56_24 => ?_) (fun c56_24 => ?_)
                    · skip
                      refine lv_iconst (v := nI 0) hx hb d_M_unlike_63 (by decide) ?_
                      refine lv_istore_n (lv' := [(1, .int (nI 0)), (0, .ref g), (2, .int (nI i)), (3, .int (nI j))]) hx hb d_M_unlike_64 rfl hl (by decide) rfl (fun ls hl => ?_)
                      refine lv_iinc (v := nI (j + 1)) (lv' := [(3, .int (nI (j + 1))), (1, .int (nI 0)), (0, .ref g), (2, .int (nI i))]) hx hb d_M_unlike_65 hl (k := 3) rfl (nI_add _ _) (by decide) rfl (fun ls hl => ?_)
                      refine lv_goto (tgt := 19) hx hb d_M_unlike_68 (by decide) ?_
                      exact ih_19 (j + 1) 0 H locs ls (by omega) (by omega) (by decide) (⟨fun q => absurd q (by decide), fun q => absurd ((q.2 j (by omega) (by omega)).trans ((if_pos (show i = j from c43_22)).symm).symm) c56_24⟩) (by omega) hP hD hS (lv_sub hl [2, 1, 3, 0] rfl)
                    · skip
                      refine lv_iconst (v := nI 1) hx hb d_M_unlike_59 (by decide) ?_
                      refine lv_goto (tgt := 64) hx hb d_M_unlike_60 (by decide) ?_
                      refine lv_istore_n (lv' := [(1, .int (nI 1)), (0, .ref g), (2, .int (nI i)), (3, .int (nI j))]) hx hb d_M_unlike_64 rfl hl (by decide) rfl (fun ls hl => ?_)
                      refine lv_iinc (v := nI (j + 1)) (lv' := [(3, .int (nI (j + 1))), (1, .int (nI 1)), (0, .ref g), (2, .int (nI i))]) hx hb d_M_unlike_65 hl (k := 3) rfl (nI_add _ _) (by decide) rfl (fun ls hl => ?_)
                      refine lv_goto (tgt := 19) hx hb d_M_unlike_68 (by decide) ?_
                      exact ih_19 (j + 1) 1 H locs ls (by omega) (by omega) (by decide) (⟨fun _ => ⟨(htv.mp (by omega)).1, fun b z1 z2 => by by_cases z : b = j; rw [z]; exact Eq.trans c56_24 ((if_pos (show i = j from c43_22)).symm); exact (htv.mp (by omega)).2 b z1 (by omega)⟩, fun _ => rfl⟩) (by omega) hP hD hS (lv_sub hl [2, 1, 3, 0] rfl)
          exact lp_19 ((d + 1 - 1) + 1) 1 sv H locs ls (by decide) (by omega) hs1 (⟨fun q => ⟨hsv.mp q, fun b q1 q2 => absurd q2 (by omega)⟩, fun q => hsv.mpr q.1⟩) (by omega) hP hD hS (lv_sub hl [1, 2, 3, 0] rfl)
    exact lp_9 ((d + 1 - 1) + 1) 1 1 H locs ls (by decide) (by omega) (by decide) (⟨fun _ a b q1 q2 => absurd q2 (by omega), fun _ => rfl⟩) (by omega) hP hD hS (lv_sub hl [2, 1, 0] rfl)
  rw [hH, hlc] at key; exact key

def rm_r_meets : Room := { frames := 1, cells := 0, slots := 0, locals := 26 }
set_option maxHeartbeats 4000000 in
set_option maxRecDepth 100000 in
/-- meets -/
theorem r_meets (l : Launch) (D : va_G) (cJ cI : ClassId) (g : Nat) (cd : Int32) (d : Nat) (ik : Int32) (rw : Int32) (ab : Int32) (be : Int32) (a0 : Int32) (a1 : Int32) (b0 : Int32) (b1 : Int32) (lm : Int32) (mm : Nat) (kf : Nat) (tb : Nat) (wk : Nat) (pl : Nat) (sp : Nat) (po : Nat) (to : Nat) (ba : Nat) (li : Nat) (Fm : Nat → Int) (Bs : Nat → Int) (vx : Int32) (vy : Int32) (vz : Int32) (vu : Int32) (vv : Int32) (vw : Int32) (hd2 : 2 ≤ d) (hd3 : d ≤ 3) (hF : ∀ k, k < 16 → inB (Fm k) 20) (sz : Nat) : xMi l y_M_meets (Cond.code y_M_meets b_M_meets 16 (some .int) :: tW) rm_r_meets [.ref g, .int vx, .int vy, .int vz, .int vu, .int vv, .int vw] D vwC [(cJ, .long), (cI, .int)] sz [(g, .inr (2, [.int cd, .int (nI d), .ref mm, .int ik, .ref kf, .ref tb, .int rw, .ref wk, .int ab, .int be, .ref pl, .ref sp, .int a0, .int a1, .int b0, .int b1, .ref po, .ref to, .ref ba, .ref li, .int lm])), (mm, IA cI 16 Fm), (ba, LA cJ 12 Bs)] (fun (rv : Int32) (uo : (Nat → Int)) => rv = s_meets Fm d (ptR d 1 vx.toInt vy.toInt vz.toInt) (ptR d 0 vu.toInt vv.toInt vw.toInt)) (fun (uo : (Nat → Int)) => [(g, .inr (2, [.int (nI 0), .int (nI d), .ref mm, .int ik, .ref kf, .ref tb, .int rw, .ref wk, .int ab, .int be, .ref pl, .ref sp, .int a0, .int a1, .int b0, .int b1, .ref po, .ref to, .ref ba, .ref li, .int lm])), (mm, IA cI 16 Fm), (ba, LA cJ 12 uo)]) 0 0 := by
  refine xoi (cc := b_M_meets) (maxL := 16) (by decide) rfl (Nat.le_of_ble_eq_true rfl) ?_
  intro p e s m args below meth c Q A hx hb hml hts hown hN hA hS hP hK hD hret ls hl
  have hl : lv_has ls 16 [(0, .ref g), (1, .int vx), (2, .int vy), (3, .int vz), (4, .int vu), (5, .int vv), (6, .int vw)] := hl
  obtain ⟨H, hH⟩ : ∃ z, z = s.heap := ⟨_, rfl⟩
  obtain ⟨locs, hlc⟩ : ∃ z : List Loc, z = [] := ⟨_, rfl⟩
  rw [← hH] at hP
  have hS : va_S A s.heap H locs := by rw [hH, hlc]; exact hS
  have key : W p l e rm_r_meets s m args below meth c H locs 0 0 Q (F0 m 0 ls []) := by
    refine lv_aload_n hx hb d_M_meets_0 rfl (lv_at hl 0 rfl) ?_
    refine lv_iconst (v := nI 0) hx hb d_M_meets_1 (by decide) ?_
    refine va_put (D := D) (ci := 2) (v := .int (nI 0)) (ty := .int) (C := R_M) (T := F_M) (N := 21) hx hb hts iw_M ft_M ft_M_ok n_M hown hK hP hD hS 0 rfl rfl 0 (by decide) (hts _ tw_387) (fun _ h9 => h9) rfl (by decide +kernel) rfl rfl (Nat.le_of_ble_eq_true rfl) d_M_meets_2 (fun H locs hP hD hS => ?_)
    have hP : va_P D vwC [(g, .inr (2, [.int (nI 0), .int (nI d), .ref mm, .int ik, .ref kf, .ref tb, .int rw, .ref wk, .int ab, .int be, .ref pl, .ref sp, .int a0, .int a1, .int b0, .int b1, .ref po, .ref to, .ref ba, .ref li, .int lm])), (mm, IA cI 16 Fm), (ba, LA cJ 12 Bs)] H := hP
    have hD : va_D A [(g, .inr (2, [.int (nI 0), .int (nI d), .ref mm, .int ik, .ref kf, .ref tb, .int rw, .ref wk, .int ab, .int be, .ref pl, .ref sp, .int a0, .int a1, .int b0, .int b1, .ref po, .ref to, .ref ba, .ref li, .int lm])), (mm, IA cI 16 Fm), (ba, LA cJ 12 Bs)] := hD
    have lp_128 : ∀ (fl : Nat) (H : Heap) (locs : List Loc) (ls : Array Slot), ((fl = 1 ∧ d = 2) ∨ (fl = 0 ∧ d = 3)) → (¬ ((¬ ∀ k, k < 4 → inB ((ptR d 1 vx.toInt vy.toInt vz.toInt) k) 20) ∨ rowBad (ptR d 0 vu.toInt vv.toInt vw.toInt) d 20)) → va_P D vwC [(g, .inr (2, [.int (nI 0), .int (nI d), .ref mm, .int ik, .ref kf, .ref tb, .int rw, .ref wk, .int ab, .int be, .ref pl, .ref sp, .int a0, .int a1, .int b0, .int b1, .ref po, .ref to, .ref ba, .ref li, .int lm])), (mm, IA cI 16 Fm), (ba, LA cJ 12 Bs)] H → va_D A [(g, .inr (2, [.int (nI 0), .int (nI d), .ref mm, .int ik, .ref kf, .ref tb, .int rw, .ref wk, .int ab, .int be, .ref pl, .ref sp, .int a0, .int a1, .int b0, .int b1, .ref po, .ref to, .ref ba, .ref li, .int lm])), (mm, IA cI 16 Fm), (ba, LA cJ 12 Bs)] → va_S A s.heap H locs → lv_has ls 16 [(0, .ref g), (1, .int vx), (2, .int vy), (3, .int vz), (4, .int vu), (5, .int vv), (6, .int vw), (7, .int (nI fl))] → W p l e rm_r_meets s m args below meth c H locs 0 0 Q (F0 m 128 ls []) := by
      intro fl H locs ls hfl hok hP hD hS hl
      refine lv_aload_n hx hb d_M_meets_128 rfl (lv_at hl 0 rfl) ?_
      refine va_get (D := D) (ci := 2) (v := .ref ba) (C := R_M) (T := F_M) (N := 21) hx hb hts iw_M hown hK hP 0 rfl rfl 18 (by decide) (hts _ tw_405) (fun _ h9 => h9) rfl d_M_meets_129 ?_
      refine lv_iconst (v := nI 0) hx hb d_M_meets_132 (by decide) ?_
      refine lv_lconst (v := lI 1) hx hb d_M_meets_133 (by decide) ?_
      refine xl_ast hx hb hK hP hD hS 2 0 rfl rfl (k := 0) (by omega) (by first | decide | omega) d_M_meets_134 (fun H locs hP hD hS => ?_)
      have hP : va_P D vwC [(g, .inr (2, [.int (nI 0), .int (nI d), .ref mm, .int ik, .ref kf, .ref tb, .int rw, .ref wk, .int ab, .int be, .ref pl, .ref sp, .int a0, .int a1, .int b0, .int b1, .ref po, .ref to, .ref ba, .ref li, .int lm])), (mm, IA cI 16 Fm), (ba, LA cJ 12 (upZ Bs 0 1))] H := hP
      have hD : va_D A [(g, .inr (2, [.int (nI 0), .int (nI d), .ref mm, .int ik, .ref kf, .ref tb, .int rw, .ref wk, .int ab, .int be, .ref pl, .ref sp, .int a0, .int a1, .int b0, .int b1, .ref po, .ref to, .ref ba, .ref li, .int lm])), (mm, IA cI 16 Fm), (ba, LA cJ 12 (upZ Bs 0 1))] := hD
      refine lv_aload_n hx hb d_M_meets_135 rfl (lv_at hl 0 rfl) ?_
      refine va_get (D := D) (ci := 2) (v := .ref ba) (C := R_M) (T := F_M) (N := 21) hx hb hts iw_M hown hK hP 0 rfl rfl 18 (by decide) (hts _ tw_405) (fun _ h9 => h9) rfl d_M_meets_136 ?_
      refine lv_iconst (v := nI 1) hx hb d_M_meets_139 (by decide) ?_
      refine lv_iload_n hx hb d_M_meets_140 rfl (lv_at hl 1 rfl) ?_
      refine lv_i2l (v := lI vx.toInt) hx hb d_M_meets_141 rfl ?_
      refine xl_ast hx hb hK hP hD hS 2 0 rfl rfl (k := 1) (by omega) (by first | decide | omega) d_M_meets_142 (fun H locs hP hD hS => ?_)
      have hP : va_P D vwC [(g, .inr (2, [.int (nI 0), .int (nI d), .ref mm, .int ik, .ref kf, .ref tb, .int rw, .ref wk, .int ab, .int be, .ref pl, .ref sp, .int a0, .int a1, .int b0, .int b1, .ref po, .ref to, .ref ba, .ref li, .int lm])), (mm, IA cI 16 Fm), (ba, LA cJ 12 (upZ (upZ Bs 0 1) 1 vx.toInt))] H := hP
      have hD : va_D A [(g, .inr (2, [.int (nI 0), .int (nI d), .ref mm, .int ik, .ref kf, .ref tb, .int rw, .ref wk, .int ab, .int be, .ref pl, .ref sp, .int a0, .int a1, .int b0, .int b1, .ref po, .ref to, .ref ba, .ref li, .int lm])), (mm, IA cI 16 Fm), (ba, LA cJ 12 (upZ (upZ Bs 0 1) 1 vx.toInt))] := hD
      refine lv_aload_n hx hb d_M_meets_143 rfl (lv_at hl 0 rfl) ?_
      refine va_get (D := D) (ci := 2) (v := .ref ba) (C := R_M) (T := F_M) (N := 21) hx hb hts iw_M hown hK hP 0 rfl rfl 18 (by decide) (hts _ tw_405) (fun _ h9 => h9) rfl d_M_meets_144 ?_
      refine lv_iconst (v := nI 2) hx hb d_M_meets_147 (by decide) ?_
      refine lv_iload_n hx hb d_M_meets_148 rfl (lv_at hl 2 rfl) ?_
      refine lv_i2l (v := lI vy.toInt) hx hb d_M_meets_149 rfl ?_
      refine xl_ast hx hb hK hP hD hS 2 0 rfl rfl (k := 2) (by omega) (by first | decide | omega) d_M_meets_150 (fun H locs hP hD hS => ?_)
      have hP : va_P D vwC [(g, .inr (2, [.int (nI 0), .int (nI d), .ref mm, .int ik, .ref kf, .ref tb, .int rw, .ref wk, .int ab, .int be, .ref pl, .ref sp, .int a0, .int a1, .int b0, .int b1, .ref po, .ref to, .ref ba, .ref li, .int lm])), (mm, IA cI 16 Fm), (ba, LA cJ 12 (upZ (upZ (upZ Bs 0 1) 1 vx.toInt) 2 vy.toInt))] H := hP
      have hD : va_D A [(g, .inr (2, [.int (nI 0), .int (nI d), .ref mm, .int ik, .ref kf, .ref tb, .int rw, .ref wk, .int ab, .int be, .ref pl, .ref sp, .int a0, .int a1, .int b0, .int b1, .ref po, .ref to, .ref ba, .ref li, .int lm])), (mm, IA cI 16 Fm), (ba, LA cJ 12 (upZ (upZ (upZ Bs 0 1) 1 vx.toInt) 2 vy.toInt))] := hD
      refine lv_aload_n hx hb d_M_meets_151 rfl (lv_at hl 0 rfl) ?_
      refine va_get (D := D) (ci := 2) (v := .ref ba) (C := R_M) (T := F_M) (N := 21) hx hb hts iw_M hown hK hP 0 rfl rfl 18 (by decide) (hts _ tw_405) (fun _ h9 => h9) rfl d_M_meets_152 ?_
      refine lv_iconst (v := nI 3) hx hb d_M_meets_155 (by decide) ?_
      refine lv_iload hx hb d_M_meets_156 (lv_at hl 7 rfl) ?_
      refine xz_eq (tgt := 165) (X := (fl : Nat)) hx hb (nI_toInt (by omega)) d_M_meets_158 (by decide) (fun c158_0 => ?_) (fun c158_0 => ?_)
      · skip
        refine lv_iload_n hx hb d_M_meets_165 rfl (lv_at hl 3 rfl) ?_
        refine lv_i2l (v := lI vz.toInt) hx hb d_M_meets_166 rfl ?_
        refine xl_ast hx hb hK hP hD hS 2 0 rfl rfl (k := 3) (by omega) (by first | decide | omega) d_M_meets_167 (fun H locs hP hD hS => ?_)
        have hP : va_P D vwC [(g, .inr (2, [.int (nI 0), .int (nI d), .ref mm, .int ik, .ref kf, .ref tb, .int rw, .ref wk, .int ab, .int be, .ref pl, .ref sp, .int a0, .int a1, .int b0, .int b1, .ref po, .ref to, .ref ba, .ref li, .int lm])), (mm, IA cI 16 Fm), (ba, LA cJ 12 (upZ (upZ (upZ (upZ Bs 0 1) 1 vx.toInt) 2 vy.toInt) 3 vz.toInt))] H := hP
        have hD : va_D A [(g, .inr (2, [.int (nI 0), .int (nI d), .ref mm, .int ik, .ref kf, .ref tb, .int rw, .ref wk, .int ab, .int be, .ref pl, .ref sp, .int a0, .int a1, .int b0, .int b1, .ref po, .ref to, .ref ba, .ref li, .int lm])), (mm, IA cI 16 Fm), (ba, LA cJ 12 (upZ (upZ (upZ (upZ Bs 0 1) 1 vx.toInt) 2 vy.toInt) 3 vz.toInt))] := hD
        refine lv_aload_n hx hb d_M_meets_168 rfl (lv_at hl 0 rfl) ?_
        refine va_get (D := D) (ci := 2) (v := .ref ba) (C := R_M) (T := F_M) (N := 21) hx hb hts iw_M hown hK hP 0 rfl rfl 18 (by decide) (hts _ tw_405) (fun _ h9 => h9) rfl d_M_meets_169 ?_
        refine lv_iconst (v := nI 4) hx hb d_M_meets_172 (by decide) ?_
        refine lv_lconst (v := lI 0) hx hb d_M_meets_173 (by decide) ?_
        refine xl_ast hx hb hK hP hD hS 2 0 rfl rfl (k := 4) (by omega) (by first | decide | omega) d_M_meets_174 (fun H locs hP hD hS => ?_)
        have hP : va_P D vwC [(g, .inr (2, [.int (nI 0), .int (nI d), .ref mm, .int ik, .ref kf, .ref tb, .int rw, .ref wk, .int ab, .int be, .ref pl, .ref sp, .int a0, .int a1, .int b0, .int b1, .ref po, .ref to, .ref ba, .ref li, .int lm])), (mm, IA cI 16 Fm), (ba, LA cJ 12 (upZ (upZ (upZ (upZ (upZ Bs 0 1) 1 vx.toInt) 2 vy.toInt) 3 vz.toInt) 4 0))] H := hP
        have hD : va_D A [(g, .inr (2, [.int (nI 0), .int (nI d), .ref mm, .int ik, .ref kf, .ref tb, .int rw, .ref wk, .int ab, .int be, .ref pl, .ref sp, .int a0, .int a1, .int b0, .int b1, .ref po, .ref to, .ref ba, .ref li, .int lm])), (mm, IA cI 16 Fm), (ba, LA cJ 12 (upZ (upZ (upZ (upZ (upZ Bs 0 1) 1 vx.toInt) 2 vy.toInt) 3 vz.toInt) 4 0))] := hD
        refine lv_aload_n hx hb d_M_meets_175 rfl (lv_at hl 0 rfl) ?_
        refine va_get (D := D) (ci := 2) (v := .ref ba) (C := R_M) (T := F_M) (N := 21) hx hb hts iw_M hown hK hP 0 rfl rfl 18 (by decide) (hts _ tw_405) (fun _ h9 => h9) rfl d_M_meets_176 ?_
        refine lv_iconst (v := nI 5) hx hb d_M_meets_179 (by decide) ?_
        refine lv_iload hx hb d_M_meets_180 (lv_at hl 4 rfl) ?_
        refine lv_i2l (v := lI vu.toInt) hx hb d_M_meets_182 rfl ?_
        refine xl_ast hx hb hK hP hD hS 2 0 rfl rfl (k := 5) (by omega) (by first | decide | omega) d_M_meets_183 (fun H locs hP hD hS => ?_)
        have hP : va_P D vwC [(g, .inr (2, [.int (nI 0), .int (nI d), .ref mm, .int ik, .ref kf, .ref tb, .int rw, .ref wk, .int ab, .int be, .ref pl, .ref sp, .int a0, .int a1, .int b0, .int b1, .ref po, .ref to, .ref ba, .ref li, .int lm])), (mm, IA cI 16 Fm), (ba, LA cJ 12 (upZ (upZ (upZ (upZ (upZ (upZ Bs 0 1) 1 vx.toInt) 2 vy.toInt) 3 vz.toInt) 4 0) 5 vu.toInt))] H := hP
        have hD : va_D A [(g, .inr (2, [.int (nI 0), .int (nI d), .ref mm, .int ik, .ref kf, .ref tb, .int rw, .ref wk, .int ab, .int be, .ref pl, .ref sp, .int a0, .int a1, .int b0, .int b1, .ref po, .ref to, .ref ba, .ref li, .int lm])), (mm, IA cI 16 Fm), (ba, LA cJ 12 (upZ (upZ (upZ (upZ (upZ (upZ Bs 0 1) 1 vx.toInt) 2 vy.toInt) 3 vz.toInt) 4 0) 5 vu.toInt))] := hD
        refine lv_aload_n hx hb d_M_meets_184 rfl (lv_at hl 0 rfl) ?_
        refine va_get (D := D) (ci := 2) (v := .ref ba) (C := R_M) (T := F_M) (N := 21) hx hb hts iw_M hown hK hP 0 rfl rfl 18 (by decide) (hts _ tw_405) (fun _ h9 => h9) rfl d_M_meets_185 ?_
        refine lv_bipush (v := nI 6) hx hb d_M_meets_188 (by decide) ?_
        refine lv_iload hx hb d_M_meets_190 (lv_at hl 5 rfl) ?_
        refine lv_i2l (v := lI vv.toInt) hx hb d_M_meets_192 rfl ?_
        refine xl_ast hx hb hK hP hD hS 2 0 rfl rfl (k := 6) (by omega) (by first | decide | omega) d_M_meets_193 (fun H locs hP hD hS => ?_)
        have hP : va_P D vwC [(g, .inr (2, [.int (nI 0), .int (nI d), .ref mm, .int ik, .ref kf, .ref tb, .int rw, .ref wk, .int ab, .int be, .ref pl, .ref sp, .int a0, .int a1, .int b0, .int b1, .ref po, .ref to, .ref ba, .ref li, .int lm])), (mm, IA cI 16 Fm), (ba, LA cJ 12 (upZ (upZ (upZ (upZ (upZ (upZ (upZ Bs 0 1) 1 vx.toInt) 2 vy.toInt) 3 vz.toInt) 4 0) 5 vu.toInt) 6 vv.toInt))] H := hP
        have hD : va_D A [(g, .inr (2, [.int (nI 0), .int (nI d), .ref mm, .int ik, .ref kf, .ref tb, .int rw, .ref wk, .int ab, .int be, .ref pl, .ref sp, .int a0, .int a1, .int b0, .int b1, .ref po, .ref to, .ref ba, .ref li, .int lm])), (mm, IA cI 16 Fm), (ba, LA cJ 12 (upZ (upZ (upZ (upZ (upZ (upZ (upZ Bs 0 1) 1 vx.toInt) 2 vy.toInt) 3 vz.toInt) 4 0) 5 vu.toInt) 6 vv.toInt))] := hD
        refine lv_aload_n hx hb d_M_meets_194 rfl (lv_at hl 0 rfl) ?_
        refine va_get (D := D) (ci := 2) (v := .ref ba) (C := R_M) (T := F_M) (N := 21) hx hb hts iw_M hown hK hP 0 rfl rfl 18 (by decide) (hts _ tw_405) (fun _ h9 => h9) rfl d_M_meets_195 ?_
        refine lv_bipush (v := nI 7) hx hb d_M_meets_198 (by decide) ?_
        refine lv_iload hx hb d_M_meets_200 (lv_at hl 7 rfl) ?_
        refine xz_eq (tgt := 209) (X := (fl : Nat)) hx hb (nI_toInt (by omega)) d_M_meets_202 (by decide) (fun c202_1 => ?_) (fun c202_1 => absurd c202_1 (by omega))
        refine lv_iload hx hb d_M_meets_209 (lv_at hl 6 rfl) ?_
        refine lv_i2l (v := lI vw.toInt) hx hb d_M_meets_211 rfl ?_
        refine xl_ast hx hb hK hP hD hS 2 0 rfl rfl (k := 7) (by omega) (by first | decide | omega) d_M_meets_212 (fun H locs hP hD hS => ?_)
        have hP : va_P D vwC [(g, .inr (2, [.int (nI 0), .int (nI d), .ref mm, .int ik, .ref kf, .ref tb, .int rw, .ref wk, .int ab, .int be, .ref pl, .ref sp, .int a0, .int a1, .int b0, .int b1, .ref po, .ref to, .ref ba, .ref li, .int lm])), (mm, IA cI 16 Fm), (ba, LA cJ 12 (upZ (upZ (upZ (upZ (upZ (upZ (upZ (upZ Bs 0 1) 1 vx.toInt) 2 vy.toInt) 3 vz.toInt) 4 0) 5 vu.toInt) 6 vv.toInt) 7 vw.toInt))] H := hP
        have hD : va_D A [(g, .inr (2, [.int (nI 0), .int (nI d), .ref mm, .int ik, .ref kf, .ref tb, .int rw, .ref wk, .int ab, .int be, .ref pl, .ref sp, .int a0, .int a1, .int b0, .int b1, .ref po, .ref to, .ref ba, .ref li, .int lm])), (mm, IA cI 16 Fm), (ba, LA cJ 12 (upZ (upZ (upZ (upZ (upZ (upZ (upZ (upZ Bs 0 1) 1 vx.toInt) 2 vy.toInt) 3 vz.toInt) 4 0) 5 vu.toInt) 6 vv.toInt) 7 vw.toInt))] := hD
        obtain ⟨B9, hB9⟩ : ∃ z, z = upZ (upZ (upZ (upZ (upZ (upZ (upZ (upZ Bs 0 1) 1 vx.toInt) 2 vy.toInt) 3 vz.toInt) 4 0) 5 vu.toInt) 6 vv.toInt) 7 vw.toInt := ⟨_, rfl⟩
        rw [← hB9] at hP hD
        have hP : va_P D vwC [(g, .inr (2, [.int (nI 0), .int (nI d), .ref mm, .int ik, .ref kf, .ref tb, .int rw, .ref wk, .int ab, .int be, .ref pl, .ref sp, .int a0, .int a1, .int b0, .int b1, .ref po, .ref to, .ref ba, .ref li, .int lm])), (mm, IA cI 16 Fm), (ba, LA cJ 12 B9)] H := hP
        have hD : va_D A [(g, .inr (2, [.int (nI 0), .int (nI d), .ref mm, .int ik, .ref kf, .ref tb, .int rw, .ref wk, .int ab, .int be, .ref pl, .ref sp, .int a0, .int a1, .int b0, .int b1, .ref po, .ref to, .ref ba, .ref li, .int lm])), (mm, IA cI 16 Fm), (ba, LA cJ 12 B9)] := hD
        have hrr := me_row (Bs := Bs) (d := d) (x := vx.toInt) (y := vy.toInt) (z := vz.toInt) (u := vu.toInt) (v := vv.toInt) (w := vw.toInt) (if_pos (by omega)).symm (if_pos (by omega)).symm
        have hr0 : ∀ k, k < 4 → B9 (4 * 0 + k) = (ptR d 1 vx.toInt vy.toInt vz.toInt) k := by rw [hB9]; exact hrr.1
        have hr1 : ∀ k, k < 4 → B9 (4 * 1 + k) = (ptR d 0 vu.toInt vv.toInt vw.toInt) k := by rw [hB9]; exact hrr.2
        have hPB : ∀ k, k < 4 → inB ((ptR d 1 vx.toInt vy.toInt vz.toInt) k) 20 := Classical.byContradiction (fun q => hok (Or.inl q))
        have hQB : ∀ k, k < 4 → inB ((ptR d 0 vu.toInt vv.toInt vw.toInt) k) 20 := Classical.byContradiction (fun q => hok (Or.inr (Or.inl q)))
        have hf1 : inB (frmN Fm (ptR d 0 vu.toInt vv.toInt vw.toInt) (ptR d 0 vu.toInt vv.toInt vw.toInt) d (d + 1)) 130000 := leB (frmN_B hd3 hF hQB hQB (n := d + 1) (by omega)) (by rcases (show d = 2 ∨ d = 3 by omega) with rfl | rfl <;> decide)
        have he1 : fqN Fm B9 1 1 4 = frmN Fm (ptR d 0 vu.toInt vv.toInt vw.toInt) (ptR d 0 vu.toInt vv.toInt vw.toInt) d (d + 1) := fq_frm (by omega) hr1 hr1 (fun q => ⟨ptR_3 q, ptR_3 q⟩)
        have hf2 : inB (frmN Fm (ptR d 1 vx.toInt vy.toInt vz.toInt) (ptR d 0 vu.toInt vv.toInt vw.toInt) d (d + 1)) 130000 := leB (frmN_B hd3 hF hPB hQB (n := d + 1) (by omega)) (by rcases (show d = 2 ∨ d = 3 by omega) with rfl | rfl <;> decide)
        have he2 : fqN Fm B9 0 1 4 = frmN Fm (ptR d 1 vx.toInt vy.toInt vz.toInt) (ptR d 0 vu.toInt vv.toInt vw.toInt) d (d + 1) := fq_frm (by omega) hr0 hr1 (fun q => ⟨ptR_3 q, ptR_3 q⟩)
        have hf3 : inB (frmN Fm (ptR d 1 vx.toInt vy.toInt vz.toInt) (ptR d 1 vx.toInt vy.toInt vz.toInt) d (d + 1)) 130000 := leB (frmN_B hd3 hF hPB hPB (n := d + 1) (by omega)) (by rcases (show d = 2 ∨ d = 3 by omega) with rfl | rfl <;> decide)
        have he3 : fqN Fm B9 0 0 4 = frmN Fm (ptR d 1 vx.toInt vy.toInt vz.toInt) (ptR d 1 vx.toInt vy.toInt vz.toInt) d (d + 1) := fq_frm (by omega) hr0 hr0 (fun q => ⟨ptR_3 q, ptR_3 q⟩)
        refine lv_aload_n hx hb d_M_meets_213 rfl (lv_at hl 0 rfl) ?_
        refine lv_iconst (v := nI 1) hx hb d_M_meets_214 (by decide) ?_
        refine lv_iconst (v := nI 1) hx hb d_M_meets_215 (by decide) ?_
        refine xcl (wc := [(g, .inr (2, [.int (nI 0), .int (nI d), .ref mm, .int ik, .ref kf, .ref tb, .int rw, .ref wk, .int ab, .int be, .ref pl, .ref sp, .int a0, .int a1, .int b0, .int b1, .ref po, .ref to, .ref ba, .ref li, .int lm])), (mm, IA cI 16 Fm), (ba, LA cJ 12 B9)]) (wr := []) hP hD hS hA [0, 1, 2] [] rfl rfl (by decide) (by decide) (va_runV (As := [.int (nI 1), .int (nI 1)]) (rest := []) ⟨hx, hb, hml, hown, hts⟩ (r_form l D cJ cI g (nI 0) d ik rw ab be a0 a1 b0 b1 lm mm kf tb wk pl sp po to ba li Fm B9 1 1 (by first | assumption | omega) (by first | assumption | omega) (by first | assumption | omega) H.size) (cwV 2 hts (gV tw_589 tw_591 tws_32 tw_3 tw_592) rfl rfl rfl ⟨rfl, hd_M_formOf⟩ ⟨Nat.le_of_ble_eq_true rfl, Nat.le_of_ble_eq_true rfl⟩) (xPreV (C := R_M) (T := F_M) (N := 21) (q0 := 0) hN hK (hP.sub (ws' := [(g, .inr (2, [.int (nI 0), .int (nI d), .ref mm, .int ik, .ref kf, .ref tb, .int rw, .ref wk, .int ab, .int be, .ref pl, .ref sp, .int a0, .int a1, .int b0, .int b1, .ref po, .ref to, .ref ba, .ref li, .int lm])), (mm, IA cI 16 Fm), (ba, LA cJ 12 B9)]) [0, 1, 2] rfl) (hD.sub (ws' := [(g, .inr (2, [.int (nI 0), .int (nI d), .ref mm, .int ik, .ref kf, .ref tb, .int rw, .ref wk, .int ab, .int be, .ref pl, .ref sp, .int a0, .int a1, .int b0, .int b1, .ref po, .ref to, .ref ba, .ref li, .int lm])), (mm, IA cI 16 Fm), (ba, LA cJ 12 B9)]) [0, 1, 2] (by decide) rfl) rfl rfl) rfl rfl hl.1 rfl (lv_room (Nat.le_of_ble_eq_true rfl)) d_M_meets_216 ⟨Nat.le_of_ble_eq_true rfl, Nat.le_of_ble_eq_true rfl⟩) (fun r_3 u_4 H locs hw_5 hP hD hS => ?_)
        try dsimp only at hw_5
        have hP : va_P D vwC [(g, .inr (2, [.int (nI 0), .int (nI d), .ref mm, .int ik, .ref kf, .ref tb, .int rw, .ref wk, .int ab, .int be, .ref pl, .ref sp, .int a0, .int a1, .int b0, .int b1, .ref po, .ref to, .ref ba, .ref li, .int lm])), (mm, IA cI 16 Fm), (ba, LA cJ 12 B9)] H := hP
        have hD : va_D A [(g, .inr (2, [.int (nI 0), .int (nI d), .ref mm, .int ik, .ref kf, .ref tb, .int rw, .ref wk, .int ab, .int be, .ref pl, .ref sp, .int a0, .int a1, .int b0, .int b1, .ref po, .ref to, .ref ba, .ref li, .int lm])), (mm, IA cI 16 Fm), (ba, LA cJ 12 B9)] := hD
        subst hw_5
        refine lv_lstore (lv' := [(8, .long (lI (fqN Fm B9 1 1 4))), (0, .ref g), (1, .int vx), (2, .int vy), (3, .int vz), (4, .int vu), (5, .int vv), (6, .int vw), (7, .int (nI fl))]) hx hb d_M_meets_219 hl (by decide) rfl (fun ls hl => ?_)
        refine lv_aload_n hx hb d_M_meets_221 rfl (lv_at hl 1 rfl) ?_
        refine lv_iconst (v := nI 0) hx hb d_M_meets_222 (by decide) ?_
        refine lv_iconst (v := nI 1) hx hb d_M_meets_223 (by decide) ?_
        refine xcl (wc := [(g, .inr (2, [.int (nI 0), .int (nI d), .ref mm, .int ik, .ref kf, .ref tb, .int rw, .ref wk, .int ab, .int be, .ref pl, .ref sp, .int a0, .int a1, .int b0, .int b1, .ref po, .ref to, .ref ba, .ref li, .int lm])), (mm, IA cI 16 Fm), (ba, LA cJ 12 B9)]) (wr := []) hP hD hS hA [0, 1, 2] [] rfl rfl (by decide) (by decide) (va_runV (As := [.int (nI 0), .int (nI 1)]) (rest := []) ⟨hx, hb, hml, hown, hts⟩ (r_form l D cJ cI g (nI 0) d ik rw ab be a0 a1 b0 b1 lm mm kf tb wk pl sp po to ba li Fm B9 0 1 (by first | assumption | omega) (by first | assumption | omega) (by first | assumption | omega) H.size) (cwV 2 hts (gV tw_589 tw_591 tws_32 tw_3 tw_592) rfl rfl rfl ⟨rfl, hd_M_formOf⟩ ⟨Nat.le_of_ble_eq_true rfl, Nat.le_of_ble_eq_true rfl⟩) (xPreV (C := R_M) (T := F_M) (N := 21) (q0 := 0) hN hK (hP.sub (ws' := [(g, .inr (2, [.int (nI 0), .int (nI d), .ref mm, .int ik, .ref kf, .ref tb, .int rw, .ref wk, .int ab, .int be, .ref pl, .ref sp, .int a0, .int a1, .int b0, .int b1, .ref po, .ref to, .ref ba, .ref li, .int lm])), (mm, IA cI 16 Fm), (ba, LA cJ 12 B9)]) [0, 1, 2] rfl) (hD.sub (ws' := [(g, .inr (2, [.int (nI 0), .int (nI d), .ref mm, .int ik, .ref kf, .ref tb, .int rw, .ref wk, .int ab, .int be, .ref pl, .ref sp, .int a0, .int a1, .int b0, .int b1, .ref po, .ref to, .ref ba, .ref li, .int lm])), (mm, IA cI 16 Fm), (ba, LA cJ 12 B9)]) [0, 1, 2] (by decide) rfl) rfl rfl) rfl rfl hl.1 rfl (lv_room (Nat.le_of_ble_eq_true rfl)) d_M_meets_224 ⟨Nat.le_of_ble_eq_true rfl, Nat.le_of_ble_eq_true rfl⟩) (fun r_6 u_7 H locs hw_8 hP hD hS => ?_)
        try dsimp only at hw_8
        have hP : va_P D vwC [(g, .inr (2, [.int (nI 0), .int (nI d), .ref mm, .int ik, .ref kf, .ref tb, .int rw, .ref wk, .int ab, .int be, .ref pl, .ref sp, .int a0, .int a1, .int b0, .int b1, .ref po, .ref to, .ref ba, .ref li, .int lm])), (mm, IA cI 16 Fm), (ba, LA cJ 12 B9)] H := hP
        have hD : va_D A [(g, .inr (2, [.int (nI 0), .int (nI d), .ref mm, .int ik, .ref kf, .ref tb, .int rw, .ref wk, .int ab, .int be, .ref pl, .ref sp, .int a0, .int a1, .int b0, .int b1, .ref po, .ref to, .ref ba, .ref li, .int lm])), (mm, IA cI 16 Fm), (ba, LA cJ 12 B9)] := hD
        subst hw_8
        refine lv_lstore (lv' := [(10, .long (lI (fqN Fm B9 0 1 4))), (8, .long (lI (fqN Fm B9 1 1 4))), (0, .ref g), (1, .int vx), (2, .int vy), (3, .int vz), (4, .int vu), (5, .int vv), (6, .int vw), (7, .int (nI fl))]) hx hb d_M_meets_227 hl (by decide) rfl (fun ls hl => ?_)
        refine lv_aload_n hx hb d_M_meets_229 rfl (lv_at hl 2 rfl) ?_
        refine lv_iconst (v := nI 0) hx hb d_M_meets_230 (by decide) ?_
        refine lv_iconst (v := nI 0) hx hb d_M_meets_231 (by decide) ?_
        refine xcl (wc := [(g, .inr (2, [.int (nI 0), .int (nI d), .ref mm, .int ik, .ref kf, .ref tb, .int rw, .ref wk, .int ab, .int be, .ref pl, .ref sp, .int a0, .int a1, .int b0, .int b1, .ref po, .ref to, .ref ba, .ref li, .int lm])), (mm, IA cI 16 Fm), (ba, LA cJ 12 B9)]) (wr := []) hP hD hS hA [0, 1, 2] [] rfl rfl (by decide) (by decide) (va_runV (As := [.int (nI 0), .int (nI 0)]) (rest := []) ⟨hx, hb, hml, hown, hts⟩ (r_form l D cJ cI g (nI 0) d ik rw ab be a0 a1 b0 b1 lm mm kf tb wk pl sp po to ba li Fm B9 0 0 (by first | assumption | omega) (by first | assumption | omega) (by first | assumption | omega) H.size) (cwV 2 hts (gV tw_589 tw_591 tws_32 tw_3 tw_592) rfl rfl rfl ⟨rfl, hd_M_formOf⟩ ⟨Nat.le_of_ble_eq_true rfl, Nat.le_of_ble_eq_true rfl⟩) (xPreV (C := R_M) (T := F_M) (N := 21) (q0 := 0) hN hK (hP.sub (ws' := [(g, .inr (2, [.int (nI 0), .int (nI d), .ref mm, .int ik, .ref kf, .ref tb, .int rw, .ref wk, .int ab, .int be, .ref pl, .ref sp, .int a0, .int a1, .int b0, .int b1, .ref po, .ref to, .ref ba, .ref li, .int lm])), (mm, IA cI 16 Fm), (ba, LA cJ 12 B9)]) [0, 1, 2] rfl) (hD.sub (ws' := [(g, .inr (2, [.int (nI 0), .int (nI d), .ref mm, .int ik, .ref kf, .ref tb, .int rw, .ref wk, .int ab, .int be, .ref pl, .ref sp, .int a0, .int a1, .int b0, .int b1, .ref po, .ref to, .ref ba, .ref li, .int lm])), (mm, IA cI 16 Fm), (ba, LA cJ 12 B9)]) [0, 1, 2] (by decide) rfl) rfl rfl) rfl rfl hl.1 rfl (lv_room (Nat.le_of_ble_eq_true rfl)) d_M_meets_232 ⟨Nat.le_of_ble_eq_true rfl, Nat.le_of_ble_eq_true rfl⟩) (fun r_9 u_10 H locs hw_11 hP hD hS => ?_)
        try dsimp only at hw_11
        have hP : va_P D vwC [(g, .inr (2, [.int (nI 0), .int (nI d), .ref mm, .int ik, .ref kf, .ref tb, .int rw, .ref wk, .int ab, .int be, .ref pl, .ref sp, .int a0, .int a1, .int b0, .int b1, .ref po, .ref to, .ref ba, .ref li, .int lm])), (mm, IA cI 16 Fm), (ba, LA cJ 12 B9)] H := hP
        have hD : va_D A [(g, .inr (2, [.int (nI 0), .int (nI d), .ref mm, .int ik, .ref kf, .ref tb, .int rw, .ref wk, .int ab, .int be, .ref pl, .ref sp, .int a0, .int a1, .int b0, .int b1, .ref po, .ref to, .ref ba, .ref li, .int lm])), (mm, IA cI 16 Fm), (ba, LA cJ 12 B9)] := hD
        subst hw_11
        refine lv_lstore (lv' := [(12, .long (lI (fqN Fm B9 0 0 4))), (10, .long (lI (fqN Fm B9 0 1 4))), (8, .long (lI (fqN Fm B9 1 1 4))), (0, .ref g), (1, .int vx), (2, .int vy), (3, .int vz), (4, .int vu), (5, .int vv), (6, .int vw), (7, .int (nI fl))]) hx hb d_M_meets_235 hl (by decide) rfl (fun ls hl => ?_)
        refine lv_lload hx hb d_M_meets_237 (lv_at hl 2 rfl) ?_
        refine lv_lconst (v := lI 0) hx hb d_M_meets_239 (by decide) ?_
        refine xl_ne (tgt := 268) hx hb (by rw [he1]; exact lB_of hf1 (by decide)) ⟨by decide, by decide⟩ d_M_meets_240 d_M_meets_241 (by decide) (fun c241_11 => ?_) (fun c241_11 => ?_)
        · skip
          refine lv_lload hx hb d_M_meets_268 (lv_at hl 1 rfl) ?_
          refine lv_lload hx hb d_M_meets_270 (lv_at hl 1 rfl) ?_
          refine xl_mul hx hb d_M_meets_272 ?_
          refine lv_lload hx hb d_M_meets_273 (lv_at hl 2 rfl) ?_
          refine lv_lload hx hb d_M_meets_275 (lv_at hl 0 rfl) ?_
          refine xl_mul hx hb d_M_meets_277 ?_
          refine xl_sub hx hb d_M_meets_278 ?_
          refine lv_lstore (lv' := [(14, .long (lI (((fqN Fm B9 0 1 4) * (fqN Fm B9 0 1 4)) - ((fqN Fm B9 1 1 4) * (fqN Fm B9 0 0 4))))), (12, .long (lI (fqN Fm B9 0 0 4))), (10, .long (lI (fqN Fm B9 0 1 4))), (8, .long (lI (fqN Fm B9 1 1 4))), (0, .ref g), (1, .int vx), (2, .int vy), (3, .int vz), (4, .int vu), (5, .int vv), (6, .int vw), (7, .int (nI fl))]) hx hb d_M_meets_279 hl (by decide) rfl (fun ls hl => ?_)
          have hlb : lB (fqN Fm B9 0 1 4 * fqN Fm B9 0 1 4 - fqN Fm B9 1 1 4 * fqN Fm B9 0 0 4) := by rw [he1, he2, he3]; exact lB_of (subB (mulB hf2 hf2) (mulB hf1 hf3)) (by decide)
          refine lv_lload hx hb d_M_meets_281 (lv_at hl 0 rfl) ?_
          refine lv_lconst (v := lI 0) hx hb d_M_meets_283 (by decide) ?_
          refine xl_le (tgt := 292) hx hb hlb ⟨by decide, by decide⟩ d_M_meets_284 d_M_meets_285 (by decide) (fun c285_12 => ?_) (fun c285_12 => ?_)
          · skip
            refine lv_lload hx hb d_M_meets_292 (lv_at hl 0 rfl) ?_
            refine lv_lconst (v := lI 0) hx hb d_M_meets_294 (by decide) ?_
            refine xl_ne (tgt := 303) hx hb hlb ⟨by decide, by decide⟩ d_M_meets_295 d_M_meets_296 (by decide) (fun c296_13 => ?_) (fun c296_13 => ?_)
            · skip
              refine lv_iconst (v := nI 0) hx hb d_M_meets_303 (by decide) ?_
              exact hret H locs _ ls (nI 0) B9 d_M_meets_304 (by rw [s_meets_f hok, ← he1, ← he2, ← he3]; unfold mtN; rw [if_neg c241_11]; unfold sgc; split <;> (try split) <;> first | rfl | omega) hP hD hS
            · skip
              refine lv_iconst (v := nI 1) hx hb d_M_meets_299 (by decide) ?_
              refine lv_goto (tgt := 304) hx hb d_M_meets_300 (by decide) ?_
              exact hret H locs _ ls (nI 1) B9 d_M_meets_304 (by rw [s_meets_f hok, ← he1, ← he2, ← he3]; unfold mtN; rw [if_neg c241_11]; unfold sgc; split <;> (try split) <;> first | rfl | omega) hP hD hS
          · skip
            refine lv_iconst (v := nI 2) hx hb d_M_meets_288 (by decide) ?_
            refine lv_goto (tgt := 304) hx hb d_M_meets_289 (by decide) ?_
            exact hret H locs _ ls (nI 2) B9 d_M_meets_304 (by rw [s_meets_f hok, ← he1, ← he2, ← he3]; unfold mtN; rw [if_neg c241_11]; unfold sgc; split <;> (try split) <;> first | rfl | omega) hP hD hS
        · skip
          refine lv_lload hx hb d_M_meets_244 (lv_at hl 1 rfl) ?_
          refine lv_lconst (v := lI 0) hx hb d_M_meets_246 (by decide) ?_
          refine xl_eq (tgt := 255) hx hb (by rw [he2]; exact lB_of hf2 (by decide)) ⟨by decide, by decide⟩ d_M_meets_247 d_M_meets_248 (by decide) (fun c248_14 => ?_) (fun c248_14 => ?_)
          · skip
            refine lv_lload hx hb d_M_meets_255 (lv_at hl 0 rfl) ?_
            refine lv_lconst (v := lI 0) hx hb d_M_meets_257 (by decide) ?_
            refine xl_eq (tgt := 266) hx hb (by rw [he3]; exact lB_of hf3 (by decide)) ⟨by decide, by decide⟩ d_M_meets_258 d_M_meets_259 (by decide) (fun c259_15 => ?_) (fun c259_15 => ?_)
            · skip
              refine lv_iconst (v := nI 3) hx hb d_M_meets_266 (by decide) ?_
              exact hret H locs _ ls (nI 3) B9 d_M_meets_267 (by rw [s_meets_f hok, ← he1, ← he2, ← he3]; unfold mtN; rw [if_pos c241_11, if_pos c248_14, if_pos c259_15]) hP hD hS
            · skip
              refine lv_iconst (v := nI 0) hx hb d_M_meets_262 (by decide) ?_
              refine lv_goto (tgt := 267) hx hb d_M_meets_263 (by decide) ?_
              exact hret H locs _ ls (nI 0) B9 d_M_meets_267 (by rw [s_meets_f hok, ← he1, ← he2, ← he3]; unfold mtN; rw [if_pos c241_11, if_pos c248_14, if_neg c259_15]) hP hD hS
          · skip
            refine lv_iconst (v := nI 1) hx hb d_M_meets_251 (by decide) ?_
            refine lv_goto (tgt := 267) hx hb d_M_meets_252 (by decide) ?_
            exact hret H locs _ ls (nI 1) B9 d_M_meets_267 (by rw [s_meets_f hok, ← he1, ← he2, ← he3]; unfold mtN; rw [if_pos c241_11, if_neg c248_14]) hP hD hS
      · skip
        refine lv_lconst (v := lI 0) hx hb d_M_meets_161 (by decide) ?_
        refine lv_goto (tgt := 167) hx hb d_M_meets_162 (by decide) ?_
        refine xl_ast hx hb hK hP hD hS 2 0 rfl rfl (k := 3) (by omega) (by first | decide | omega) d_M_meets_167 (fun H locs hP hD hS => ?_)
        have hP : va_P D vwC [(g, .inr (2, [.int (nI 0), .int (nI d), .ref mm, .int ik, .ref kf, .ref tb, .int rw, .ref wk, .int ab, .int be, .ref pl, .ref sp, .int a0, .int a1, .int b0, .int b1, .ref po, .ref to, .ref ba, .ref li, .int lm])), (mm, IA cI 16 Fm), (ba, LA cJ 12 (upZ (upZ (upZ (upZ Bs 0 1) 1 vx.toInt) 2 vy.toInt) 3 0))] H := hP
        have hD : va_D A [(g, .inr (2, [.int (nI 0), .int (nI d), .ref mm, .int ik, .ref kf, .ref tb, .int rw, .ref wk, .int ab, .int be, .ref pl, .ref sp, .int a0, .int a1, .int b0, .int b1, .ref po, .ref to, .ref ba, .ref li, .int lm])), (mm, IA cI 16 Fm), (ba, LA cJ 12 (upZ (upZ (upZ (upZ Bs 0 1) 1 vx.toInt) 2 vy.toInt) 3 0))] := hD
        refine lv_aload_n hx hb d_M_meets_168 rfl (lv_at hl 0 rfl) ?_
        refine va_get (D := D) (ci := 2) (v := .ref ba) (C := R_M) (T := F_M) (N := 21) hx hb hts iw_M hown hK hP 0 rfl rfl 18 (by decide) (hts _ tw_405) (fun _ h9 => h9) rfl d_M_meets_169 ?_
        refine lv_iconst (v := nI 4) hx hb d_M_meets_172 (by decide) ?_
        refine lv_lconst (v := lI 0) hx hb d_M_meets_173 (by decide) ?_
        refine xl_ast hx hb hK hP hD hS 2 0 rfl rfl (k := 4) (by omega) (by first | decide | omega) d_M_meets_174 (fun H locs hP hD hS => ?_)
        have hP : va_P D vwC [(g, .inr (2, [.int (nI 0), .int (nI d), .ref mm, .int ik, .ref kf, .ref tb, .int rw, .ref wk, .int ab, .int be, .ref pl, .ref sp, .int a0, .int a1, .int b0, .int b1, .ref po, .ref to, .ref ba, .ref li, .int lm])), (mm, IA cI 16 Fm), (ba, LA cJ 12 (upZ (upZ (upZ (upZ (upZ Bs 0 1) 1 vx.toInt) 2 vy.toInt) 3 0) 4 0))] H := hP
        have hD : va_D A [(g, .inr (2, [.int (nI 0), .int (nI d), .ref mm, .int ik, .ref kf, .ref tb, .int rw, .ref wk, .int ab, .int be, .ref pl, .ref sp, .int a0, .int a1, .int b0, .int b1, .ref po, .ref to, .ref ba, .ref li, .int lm])), (mm, IA cI 16 Fm), (ba, LA cJ 12 (upZ (upZ (upZ (upZ (upZ Bs 0 1) 1 vx.toInt) 2 vy.toInt) 3 0) 4 0))] := hD
        refine lv_aload_n hx hb d_M_meets_175 rfl (lv_at hl 0 rfl) ?_
        refine va_get (D := D) (ci := 2) (v := .ref ba) (C := R_M) (T := F_M) (N := 21) hx hb hts iw_M hown hK hP 0 rfl rfl 18 (by decide) (hts _ tw_405) (fun _ h9 => h9) rfl d_M_meets_176 ?_
        refine lv_iconst (v := nI 5) hx hb d_M_meets_179 (by decide) ?_
        refine lv_iload hx hb d_M_meets_180 (lv_at hl 4 rfl) ?_
        refine lv_i2l (v := lI vu.toInt) hx hb d_M_meets_182 rfl ?_
        refine xl_ast hx hb hK hP hD hS 2 0 rfl rfl (k := 5) (by omega) (by first | decide | omega) d_M_meets_183 (fun H locs hP hD hS => ?_)
        have hP : va_P D vwC [(g, .inr (2, [.int (nI 0), .int (nI d), .ref mm, .int ik, .ref kf, .ref tb, .int rw, .ref wk, .int ab, .int be, .ref pl, .ref sp, .int a0, .int a1, .int b0, .int b1, .ref po, .ref to, .ref ba, .ref li, .int lm])), (mm, IA cI 16 Fm), (ba, LA cJ 12 (upZ (upZ (upZ (upZ (upZ (upZ Bs 0 1) 1 vx.toInt) 2 vy.toInt) 3 0) 4 0) 5 vu.toInt))] H := hP
        have hD : va_D A [(g, .inr (2, [.int (nI 0), .int (nI d), .ref mm, .int ik, .ref kf, .ref tb, .int rw, .ref wk, .int ab, .int be, .ref pl, .ref sp, .int a0, .int a1, .int b0, .int b1, .ref po, .ref to, .ref ba, .ref li, .int lm])), (mm, IA cI 16 Fm), (ba, LA cJ 12 (upZ (upZ (upZ (upZ (upZ (upZ Bs 0 1) 1 vx.toInt) 2 vy.toInt) 3 0) 4 0) 5 vu.toInt))] := hD
        refine lv_aload_n hx hb d_M_meets_184 rfl (lv_at hl 0 rfl) ?_
        refine va_get (D := D) (ci := 2) (v := .ref ba) (C := R_M) (T := F_M) (N := 21) hx hb hts iw_M hown hK hP 0 rfl rfl 18 (by decide) (hts _ tw_405) (fun _ h9 => h9) rfl d_M_meets_185 ?_
        refine lv_bipush (v := nI 6) hx hb d_M_meets_188 (by decide) ?_
        refine lv_iload hx hb d_M_meets_190 (lv_at hl 5 rfl) ?_
        refine lv_i2l (v := lI vv.toInt) hx hb d_M_meets_192 rfl ?_
        refine xl_ast hx hb hK hP hD hS 2 0 rfl rfl (k := 6) (by omega) (by first | decide | omega) d_M_meets_193 (fun H locs hP hD hS => ?_)
        have hP : va_P D vwC [(g, .inr (2, [.int (nI 0), .int (nI d), .ref mm, .int ik, .ref kf, .ref tb, .int rw, .ref wk, .int ab, .int be, .ref pl, .ref sp, .int a0, .int a1, .int b0, .int b1, .ref po, .ref to, .ref ba, .ref li, .int lm])), (mm, IA cI 16 Fm), (ba, LA cJ 12 (upZ (upZ (upZ (upZ (upZ (upZ (upZ Bs 0 1) 1 vx.toInt) 2 vy.toInt) 3 0) 4 0) 5 vu.toInt) 6 vv.toInt))] H := hP
        have hD : va_D A [(g, .inr (2, [.int (nI 0), .int (nI d), .ref mm, .int ik, .ref kf, .ref tb, .int rw, .ref wk, .int ab, .int be, .ref pl, .ref sp, .int a0, .int a1, .int b0, .int b1, .ref po, .ref to, .ref ba, .ref li, .int lm])), (mm, IA cI 16 Fm), (ba, LA cJ 12 (upZ (upZ (upZ (upZ (upZ (upZ (upZ Bs 0 1) 1 vx.toInt) 2 vy.toInt) 3 0) 4 0) 5 vu.toInt) 6 vv.toInt))] := hD
        refine lv_aload_n hx hb d_M_meets_194 rfl (lv_at hl 0 rfl) ?_
        refine va_get (D := D) (ci := 2) (v := .ref ba) (C := R_M) (T := F_M) (N := 21) hx hb hts iw_M hown hK hP 0 rfl rfl 18 (by decide) (hts _ tw_405) (fun _ h9 => h9) rfl d_M_meets_195 ?_
        refine lv_bipush (v := nI 7) hx hb d_M_meets_198 (by decide) ?_
        refine lv_iload hx hb d_M_meets_200 (lv_at hl 7 rfl) ?_
        refine xz_eq (tgt := 209) (X := (fl : Nat)) hx hb (nI_toInt (by omega)) d_M_meets_202 (by decide) (fun c202_16 => absurd c202_16 (by omega)) (fun c202_16 => ?_)
        refine lv_lconst (v := lI 0) hx hb d_M_meets_205 (by decide) ?_
        refine lv_goto (tgt := 212) hx hb d_M_meets_206 (by decide) ?_
        refine xl_ast hx hb hK hP hD hS 2 0 rfl rfl (k := 7) (by omega) (by first | decide | omega) d_M_meets_212 (fun H locs hP hD hS => ?_)
        have hP : va_P D vwC [(g, .inr (2, [.int (nI 0), .int (nI d), .ref mm, .int ik, .ref kf, .ref tb, .int rw, .ref wk, .int ab, .int be, .ref pl, .ref sp, .int a0, .int a1, .int b0, .int b1, .ref po, .ref to, .ref ba, .ref li, .int lm])), (mm, IA cI 16 Fm), (ba, LA cJ 12 (upZ (upZ (upZ (upZ (upZ (upZ (upZ (upZ Bs 0 1) 1 vx.toInt) 2 vy.toInt) 3 0) 4 0) 5 vu.toInt) 6 vv.toInt) 7 0))] H := hP
        have hD : va_D A [(g, .inr (2, [.int (nI 0), .int (nI d), .ref mm, .int ik, .ref kf, .ref tb, .int rw, .ref wk, .int ab, .int be, .ref pl, .ref sp, .int a0, .int a1, .int b0, .int b1, .ref po, .ref to, .ref ba, .ref li, .int lm])), (mm, IA cI 16 Fm), (ba, LA cJ 12 (upZ (upZ (upZ (upZ (upZ (upZ (upZ (upZ Bs 0 1) 1 vx.toInt) 2 vy.toInt) 3 0) 4 0) 5 vu.toInt) 6 vv.toInt) 7 0))] := hD
        obtain ⟨B9, hB9⟩ : ∃ z, z = upZ (upZ (upZ (upZ (upZ (upZ (upZ (upZ Bs 0 1) 1 vx.toInt) 2 vy.toInt) 3 0) 4 0) 5 vu.toInt) 6 vv.toInt) 7 0 := ⟨_, rfl⟩
        rw [← hB9] at hP hD
        have hP : va_P D vwC [(g, .inr (2, [.int (nI 0), .int (nI d), .ref mm, .int ik, .ref kf, .ref tb, .int rw, .ref wk, .int ab, .int be, .ref pl, .ref sp, .int a0, .int a1, .int b0, .int b1, .ref po, .ref to, .ref ba, .ref li, .int lm])), (mm, IA cI 16 Fm), (ba, LA cJ 12 B9)] H := hP
        have hD : va_D A [(g, .inr (2, [.int (nI 0), .int (nI d), .ref mm, .int ik, .ref kf, .ref tb, .int rw, .ref wk, .int ab, .int be, .ref pl, .ref sp, .int a0, .int a1, .int b0, .int b1, .ref po, .ref to, .ref ba, .ref li, .int lm])), (mm, IA cI 16 Fm), (ba, LA cJ 12 B9)] := hD
        have hrr := me_row (Bs := Bs) (d := d) (x := vx.toInt) (y := vy.toInt) (z := vz.toInt) (u := vu.toInt) (v := vv.toInt) (w := vw.toInt) (if_neg (by omega)).symm (if_neg (by omega)).symm
        have hr0 : ∀ k, k < 4 → B9 (4 * 0 + k) = (ptR d 1 vx.toInt vy.toInt vz.toInt) k := by rw [hB9]; exact hrr.1
        have hr1 : ∀ k, k < 4 → B9 (4 * 1 + k) = (ptR d 0 vu.toInt vv.toInt vw.toInt) k := by rw [hB9]; exact hrr.2
        have hPB : ∀ k, k < 4 → inB ((ptR d 1 vx.toInt vy.toInt vz.toInt) k) 20 := Classical.byContradiction (fun q => hok (Or.inl q))
        have hQB : ∀ k, k < 4 → inB ((ptR d 0 vu.toInt vv.toInt vw.toInt) k) 20 := Classical.byContradiction (fun q => hok (Or.inr (Or.inl q)))
        have hf1 : inB (frmN Fm (ptR d 0 vu.toInt vv.toInt vw.toInt) (ptR d 0 vu.toInt vv.toInt vw.toInt) d (d + 1)) 130000 := leB (frmN_B hd3 hF hQB hQB (n := d + 1) (by omega)) (by rcases (show d = 2 ∨ d = 3 by omega) with rfl | rfl <;> decide)
        have he1 : fqN Fm B9 1 1 4 = frmN Fm (ptR d 0 vu.toInt vv.toInt vw.toInt) (ptR d 0 vu.toInt vv.toInt vw.toInt) d (d + 1) := fq_frm (by omega) hr1 hr1 (fun q => ⟨ptR_3 q, ptR_3 q⟩)
        have hf2 : inB (frmN Fm (ptR d 1 vx.toInt vy.toInt vz.toInt) (ptR d 0 vu.toInt vv.toInt vw.toInt) d (d + 1)) 130000 := leB (frmN_B hd3 hF hPB hQB (n := d + 1) (by omega)) (by rcases (show d = 2 ∨ d = 3 by omega) with rfl | rfl <;> decide)
        have he2 : fqN Fm B9 0 1 4 = frmN Fm (ptR d 1 vx.toInt vy.toInt vz.toInt) (ptR d 0 vu.toInt vv.toInt vw.toInt) d (d + 1) := fq_frm (by omega) hr0 hr1 (fun q => ⟨ptR_3 q, ptR_3 q⟩)
        have hf3 : inB (frmN Fm (ptR d 1 vx.toInt vy.toInt vz.toInt) (ptR d 1 vx.toInt vy.toInt vz.toInt) d (d + 1)) 130000 := leB (frmN_B hd3 hF hPB hPB (n := d + 1) (by omega)) (by rcases (show d = 2 ∨ d = 3 by omega) with rfl | rfl <;> decide)
        have he3 : fqN Fm B9 0 0 4 = frmN Fm (ptR d 1 vx.toInt vy.toInt vz.toInt) (ptR d 1 vx.toInt vy.toInt vz.toInt) d (d + 1) := fq_frm (by omega) hr0 hr0 (fun q => ⟨ptR_3 q, ptR_3 q⟩)
        refine lv_aload_n hx hb d_M_meets_213 rfl (lv_at hl 0 rfl) ?_
        refine lv_iconst (v := nI 1) hx hb d_M_meets_214 (by decide) ?_
        refine lv_iconst (v := nI 1) hx hb d_M_meets_215 (by decide) ?_
        refine xcl (wc := [(g, .inr (2, [.int (nI 0), .int (nI d), .ref mm, .int ik, .ref kf, .ref tb, .int rw, .ref wk, .int ab, .int be, .ref pl, .ref sp, .int a0, .int a1, .int b0, .int b1, .ref po, .ref to, .ref ba, .ref li, .int lm])), (mm, IA cI 16 Fm), (ba, LA cJ 12 B9)]) (wr := []) hP hD hS hA [0, 1, 2] [] rfl rfl (by decide) (by decide) (va_runV (As := [.int (nI 1), .int (nI 1)]) (rest := []) ⟨hx, hb, hml, hown, hts⟩ (r_form l D cJ cI g (nI 0) d ik rw ab be a0 a1 b0 b1 lm mm kf tb wk pl sp po to ba li Fm B9 1 1 (by first | assumption | omega) (by first | assumption | omega) (by first | assumption | omega) H.size) (cwV 2 hts (gV tw_589 tw_591 tws_32 tw_3 tw_592) rfl rfl rfl ⟨rfl, hd_M_formOf⟩ ⟨Nat.le_of_ble_eq_true rfl, Nat.le_of_ble_eq_true rfl⟩) (xPreV (C := R_M) (T := F_M) (N := 21) (q0 := 0) hN hK (hP.sub (ws' := [(g, .inr (2, [.int (nI 0), .int (nI d), .ref mm, .int ik, .ref kf, .ref tb, .int rw, .ref wk, .int ab, .int be, .ref pl, .ref sp, .int a0, .int a1, .int b0, .int b1, .ref po, .ref to, .ref ba, .ref li, .int lm])), (mm, IA cI 16 Fm), (ba, LA cJ 12 B9)]) [0, 1, 2] rfl) (hD.sub (ws' := [(g, .inr (2, [.int (nI 0), .int (nI d), .ref mm, .int ik, .ref kf, .ref tb, .int rw, .ref wk, .int ab, .int be, .ref pl, .ref sp, .int a0, .int a1, .int b0, .int b1, .ref po, .ref to, .ref ba, .ref li, .int lm])), (mm, IA cI 16 Fm), (ba, LA cJ 12 B9)]) [0, 1, 2] (by decide) rfl) rfl rfl) rfl rfl hl.1 rfl (lv_room (Nat.le_of_ble_eq_true rfl)) d_M_meets_216 ⟨Nat.le_of_ble_eq_true rfl, Nat.le_of_ble_eq_true rfl⟩) (fun r_18 u_19 H locs hw_20 hP hD hS => ?_)
        try dsimp only at hw_20
        have hP : va_P D vwC [(g, .inr (2, [.int (nI 0), .int (nI d), .ref mm, .int ik, .ref kf, .ref tb, .int rw, .ref wk, .int ab, .int be, .ref pl, .ref sp, .int a0, .int a1, .int b0, .int b1, .ref po, .ref to, .ref ba, .ref li, .int lm])), (mm, IA cI 16 Fm), (ba, LA cJ 12 B9)] H := hP
        have hD : va_D A [(g, .inr (2, [.int (nI 0), .int (nI d), .ref mm, .int ik, .ref kf, .ref tb, .int rw, .ref wk, .int ab, .int be, .ref pl, .ref sp, .int a0, .int a1, .int b0, .int b1, .ref po, .ref to, .ref ba, .ref li, .int lm])), (mm, IA cI 16 Fm), (ba, LA cJ 12 B9)] := hD
        subst hw_20
        refine lv_lstore (lv' := [(8, .long (lI (fqN Fm B9 1 1 4))), (0, .ref g), (1, .int vx), (2, .int vy), (3, .int vz), (4, .int vu), (5, .int vv), (6, .int vw), (7, .int (nI fl))]) hx hb d_M_meets_219 hl (by decide) rfl (fun ls hl => ?_)
        refine lv_aload_n hx hb d_M_meets_221 rfl (lv_at hl 1 rfl) ?_
        refine lv_iconst (v := nI 0) hx hb d_M_meets_222 (by decide) ?_
        refine lv_iconst (v := nI 1) hx hb d_M_meets_223 (by decide) ?_
        refine xcl (wc := [(g, .inr (2, [.int (nI 0), .int (nI d), .ref mm, .int ik, .ref kf, .ref tb, .int rw, .ref wk, .int ab, .int be, .ref pl, .ref sp, .int a0, .int a1, .int b0, .int b1, .ref po, .ref to, .ref ba, .ref li, .int lm])), (mm, IA cI 16 Fm), (ba, LA cJ 12 B9)]) (wr := []) hP hD hS hA [0, 1, 2] [] rfl rfl (by decide) (by decide) (va_runV (As := [.int (nI 0), .int (nI 1)]) (rest := []) ⟨hx, hb, hml, hown, hts⟩ (r_form l D cJ cI g (nI 0) d ik rw ab be a0 a1 b0 b1 lm mm kf tb wk pl sp po to ba li Fm B9 0 1 (by first | assumption | omega) (by first | assumption | omega) (by first | assumption | omega) H.size) (cwV 2 hts (gV tw_589 tw_591 tws_32 tw_3 tw_592) rfl rfl rfl ⟨rfl, hd_M_formOf⟩ ⟨Nat.le_of_ble_eq_true rfl, Nat.le_of_ble_eq_true rfl⟩) (xPreV (C := R_M) (T := F_M) (N := 21) (q0 := 0) hN hK (hP.sub (ws' := [(g, .inr (2, [.int (nI 0), .int (nI d), .ref mm, .int ik, .ref kf, .ref tb, .int rw, .ref wk, .int ab, .int be, .ref pl, .ref sp, .int a0, .int a1, .int b0, .int b1, .ref po, .ref to, .ref ba, .ref li, .int lm])), (mm, IA cI 16 Fm), (ba, LA cJ 12 B9)]) [0, 1, 2] rfl) (hD.sub (ws' := [(g, .inr (2, [.int (nI 0), .int (nI d), .ref mm, .int ik, .ref kf, .ref tb, .int rw, .ref wk, .int ab, .int be, .ref pl, .ref sp, .int a0, .int a1, .int b0, .int b1, .ref po, .ref to, .ref ba, .ref li, .int lm])), (mm, IA cI 16 Fm), (ba, LA cJ 12 B9)]) [0, 1, 2] (by decide) rfl) rfl rfl) rfl rfl hl.1 rfl (lv_room (Nat.le_of_ble_eq_true rfl)) d_M_meets_224 ⟨Nat.le_of_ble_eq_true rfl, Nat.le_of_ble_eq_true rfl⟩) (fun r_21 u_22 H locs hw_23 hP hD hS => ?_)
        try dsimp only at hw_23
        have hP : va_P D vwC [(g, .inr (2, [.int (nI 0), .int (nI d), .ref mm, .int ik, .ref kf, .ref tb, .int rw, .ref wk, .int ab, .int be, .ref pl, .ref sp, .int a0, .int a1, .int b0, .int b1, .ref po, .ref to, .ref ba, .ref li, .int lm])), (mm, IA cI 16 Fm), (ba, LA cJ 12 B9)] H := hP
        have hD : va_D A [(g, .inr (2, [.int (nI 0), .int (nI d), .ref mm, .int ik, .ref kf, .ref tb, .int rw, .ref wk, .int ab, .int be, .ref pl, .ref sp, .int a0, .int a1, .int b0, .int b1, .ref po, .ref to, .ref ba, .ref li, .int lm])), (mm, IA cI 16 Fm), (ba, LA cJ 12 B9)] := hD
        subst hw_23
        refine lv_lstore (lv' := [(10, .long (lI (fqN Fm B9 0 1 4))), (8, .long (lI (fqN Fm B9 1 1 4))), (0, .ref g), (1, .int vx), (2, .int vy), (3, .int vz), (4, .int vu), (5, .int vv), (6, .int vw), (7, .int (nI fl))]) hx hb d_M_meets_227 hl (by decide) rfl (fun ls hl => ?_)
        refine lv_aload_n hx hb d_M_meets_229 rfl (lv_at hl 2 rfl) ?_
        refine lv_iconst (v := nI 0) hx hb d_M_meets_230 (by decide) ?_
        refine lv_iconst (v := nI 0) hx hb d_M_meets_231 (by decide) ?_
        refine xcl (wc := [(g, .inr (2, [.int (nI 0), .int (nI d), .ref mm, .int ik, .ref kf, .ref tb, .int rw, .ref wk, .int ab, .int be, .ref pl, .ref sp, .int a0, .int a1, .int b0, .int b1, .ref po, .ref to, .ref ba, .ref li, .int lm])), (mm, IA cI 16 Fm), (ba, LA cJ 12 B9)]) (wr := []) hP hD hS hA [0, 1, 2] [] rfl rfl (by decide) (by decide) (va_runV (As := [.int (nI 0), .int (nI 0)]) (rest := []) ⟨hx, hb, hml, hown, hts⟩ (r_form l D cJ cI g (nI 0) d ik rw ab be a0 a1 b0 b1 lm mm kf tb wk pl sp po to ba li Fm B9 0 0 (by first | assumption | omega) (by first | assumption | omega) (by first | assumption | omega) H.size) (cwV 2 hts (gV tw_589 tw_591 tws_32 tw_3 tw_592) rfl rfl rfl ⟨rfl, hd_M_formOf⟩ ⟨Nat.le_of_ble_eq_true rfl, Nat.le_of_ble_eq_true rfl⟩) (xPreV (C := R_M) (T := F_M) (N := 21) (q0 := 0) hN hK (hP.sub (ws' := [(g, .inr (2, [.int (nI 0), .int (nI d), .ref mm, .int ik, .ref kf, .ref tb, .int rw, .ref wk, .int ab, .int be, .ref pl, .ref sp, .int a0, .int a1, .int b0, .int b1, .ref po, .ref to, .ref ba, .ref li, .int lm])), (mm, IA cI 16 Fm), (ba, LA cJ 12 B9)]) [0, 1, 2] rfl) (hD.sub (ws' := [(g, .inr (2, [.int (nI 0), .int (nI d), .ref mm, .int ik, .ref kf, .ref tb, .int rw, .ref wk, .int ab, .int be, .ref pl, .ref sp, .int a0, .int a1, .int b0, .int b1, .ref po, .ref to, .ref ba, .ref li, .int lm])), (mm, IA cI 16 Fm), (ba, LA cJ 12 B9)]) [0, 1, 2] (by decide) rfl) rfl rfl) rfl rfl hl.1 rfl (lv_room (Nat.le_of_ble_eq_true rfl)) d_M_meets_232 ⟨Nat.le_of_ble_eq_true rfl, Nat.le_of_ble_eq_true rfl⟩) (fun r_24 u_25 H locs hw_26 hP hD hS => ?_)
        try dsimp only at hw_26
        have hP : va_P D vwC [(g, .inr (2, [.int (nI 0), .int (nI d), .ref mm, .int ik, .ref kf, .ref tb, .int rw, .ref wk, .int ab, .int be, .ref pl, .ref sp, .int a0, .int a1, .int b0, .int b1, .ref po, .ref to, .ref ba, .ref li, .int lm])), (mm, IA cI 16 Fm), (ba, LA cJ 12 B9)] H := hP
        have hD : va_D A [(g, .inr (2, [.int (nI 0), .int (nI d), .ref mm, .int ik, .ref kf, .ref tb, .int rw, .ref wk, .int ab, .int be, .ref pl, .ref sp, .int a0, .int a1, .int b0, .int b1, .ref po, .ref to, .ref ba, .ref li, .int lm])), (mm, IA cI 16 Fm), (ba, LA cJ 12 B9)] := hD
        subst hw_26
        refine lv_lstore (lv' := [(12, .long (lI (fqN Fm B9 0 0 4))), (10, .long (lI (fqN Fm B9 0 1 4))), (8, .long (lI (fqN Fm B9 1 1 4))), (0, .ref g), (1, .int vx), (2, .int vy), (3, .int vz), (4, .int vu), (5, .int vv), (6, .int vw), (7, .int (nI fl))]) hx hb d_M_meets_235 hl (by decide) rfl (fun ls hl => ?_)
        refine lv_lload hx hb d_M_meets_237 (lv_at hl 2 rfl) ?_
        refine lv_lconst (v := lI 0) hx hb d_M_meets_239 (by decide) ?_
        refine xl_ne (tgt := 268) hx hb (by rw [he1]; exact lB_of hf1 (by decide)) ⟨by decide, by decide⟩ d_M_meets_240 d_M_meets_241 (by decide) (fun c241_26 => ?_) (fun c241_26 => ?_)
        · skip
          refine lv_lload hx hb d_M_meets_268 (lv_at hl 1 rfl) ?_
          refine lv_lload hx hb d_M_meets_270 (lv_at hl 1 rfl) ?_
          refine xl_mul hx hb d_M_meets_272 ?_
          refine lv_lload hx hb d_M_meets_273 (lv_at hl 2 rfl) ?_
          refine lv_lload hx hb d_M_meets_275 (lv_at hl 0 rfl) ?_
          refine xl_mul hx hb d_M_meets_277 ?_
          refine xl_sub hx hb d_M_meets_278 ?_
          refine lv_lstore (lv' := [(14, .long (lI (((fqN Fm B9 0 1 4) * (fqN Fm B9 0 1 4)) - ((fqN Fm B9 1 1 4) * (fqN Fm B9 0 0 4))))), (12, .long (lI (fqN Fm B9 0 0 4))), (10, .long (lI (fqN Fm B9 0 1 4))), (8, .long (lI (fqN Fm B9 1 1 4))), (0, .ref g), (1, .int vx), (2, .int vy), (3, .int vz), (4, .int vu), (5, .int vv), (6, .int vw), (7, .int (nI fl))]) hx hb d_M_meets_279 hl (by decide) rfl (fun ls hl => ?_)
          have hlb : lB (fqN Fm B9 0 1 4 * fqN Fm B9 0 1 4 - fqN Fm B9 1 1 4 * fqN Fm B9 0 0 4) := by rw [he1, he2, he3]; exact lB_of (subB (mulB hf2 hf2) (mulB hf1 hf3)) (by decide)
          refine lv_lload hx hb d_M_meets_281 (lv_at hl 0 rfl) ?_
          refine lv_lconst (v := lI 0) hx hb d_M_meets_283 (by decide) ?_
          refine xl_le (tgt := 292) hx hb hlb ⟨by decide, by decide⟩ d_M_meets_284 d_M_meets_285 (by decide) (fun c285_27 => ?_) (fun c285_27 => ?_)
          · skip
            refine lv_lload hx hb d_M_meets_292 (lv_at hl 0 rfl) ?_
            refine lv_lconst (v := lI 0) hx hb d_M_meets_294 (by decide) ?_
            refine xl_ne (tgt := 303) hx hb hlb ⟨by decide, by decide⟩ d_M_meets_295 d_M_meets_296 (by decide) (fun c296_28 => ?_) (fun c296_28 => ?_)
            · skip
              refine lv_iconst (v := nI 0) hx hb d_M_meets_303 (by decide) ?_
              exact hret H locs _ ls (nI 0) B9 d_M_meets_304 (by rw [s_meets_f hok, ← he1, ← he2, ← he3]; unfold mtN; rw [if_neg c241_26]; unfold sgc; split <;> (try split) <;> first | rfl | omega) hP hD hS
            · skip
              refine lv_iconst (v := nI 1) hx hb d_M_meets_299 (by decide) ?_
              refine lv_goto (tgt := 304) hx hb d_M_meets_300 (by decide) ?_
              exact hret H locs _ ls (nI 1) B9 d_M_meets_304 (by rw [s_meets_f hok, ← he1, ← he2, ← he3]; unfold mtN; rw [if_neg c241_26]; unfold sgc; split <;> (try split) <;> first | rfl | omega) hP hD hS
          · skip
            refine lv_iconst (v := nI 2) hx hb d_M_meets_288 (by decide) ?_
            refine lv_goto (tgt := 304) hx hb d_M_meets_289 (by decide) ?_
            exact hret H locs _ ls (nI 2) B9 d_M_meets_304 (by rw [s_meets_f hok, ← he1, ← he2, ← he3]; unfold mtN; rw [if_neg c241_26]; unfold sgc; split <;> (try split) <;> first | rfl | omega) hP hD hS
        · skip
          refine lv_lload hx hb d_M_meets_244 (lv_at hl 1 rfl) ?_
          refine lv_lconst (v := lI 0) hx hb d_M_meets_246 (by decide) ?_
          refine xl_eq (tgt := 255) hx hb (by rw [he2]; exact lB_of hf2 (by decide)) ⟨by decide, by decide⟩ d_M_meets_247 d_M_meets_248 (by decide) (fun c248_29 => ?_) (fun c248_29 => ?_)
          · skip
            refine lv_lload hx hb d_M_meets_255 (lv_at hl 0 rfl) ?_
            refine lv_lconst (v := lI 0) hx hb d_M_meets_257 (by decide) ?_
            refine xl_eq (tgt := 266) hx hb (by rw [he3]; exact lB_of hf3 (by decide)) ⟨by decide, by decide⟩ d_M_meets_258 d_M_meets_259 (by decide) (fun c259_30 => ?_) (fun c259_30 => ?_)
            · skip
              refine lv_iconst (v := nI 3) hx hb d_M_meets_266 (by decide) ?_
              exact hret H locs _ ls (nI 3) B9 d_M_meets_267 (by rw [s_meets_f hok, ← he1, ← he2, ← he3]; unfold mtN; rw [if_pos c241_26, if_pos c248_29, if_pos c259_30]) hP hD hS
            · skip
              refine lv_iconst (v := nI 0) hx hb d_M_meets_262 (by decide) ?_
              refine lv_goto (tgt := 267) hx hb d_M_meets_263 (by decide) ?_
              exact hret H locs _ ls (nI 0) B9 d_M_meets_267 (by rw [s_meets_f hok, ← he1, ← he2, ← he3]; unfold mtN; rw [if_pos c241_26, if_pos c248_29, if_neg c259_30]) hP hD hS
          · skip
            refine lv_iconst (v := nI 1) hx hb d_M_meets_251 (by decide) ?_
            refine lv_goto (tgt := 267) hx hb d_M_meets_252 (by decide) ?_
            exact hret H locs _ ls (nI 1) B9 d_M_meets_267 (by rw [s_meets_f hok, ← he1, ← he2, ← he3]; unfold mtN; rw [if_pos c241_26, if_neg c248_29]) hP hD hS
    refine lv_aload_n hx hb d_M_meets_5 rfl (lv_at hl 0 rfl) ?_
    refine va_get (D := D) (ci := 2) (v := .int (nI d)) (C := R_M) (T := F_M) (N := 21) hx hb hts iw_M hown hK hP 0 rfl rfl 1 (by decide) (hts _ tw_388) (fun _ h9 => h9) rfl d_M_meets_6 ?_
    refine lv_iconst (v := nI 2) hx hb d_M_meets_9 (by decide) ?_
    refine xn_ne (tgt := 17) hx hb (by omega) (by omega) d_M_meets_10 (by decide) (fun c10_31 => ?_) (fun c10_31 => ?_)
    · skip
      refine lv_iconst (v := nI 0) hx hb d_M_meets_17 (by decide) ?_
      refine lv_istore (lv' := [(7, .int (nI 0)), (0, .ref g), (1, .int vx), (2, .int vy), (3, .int vz), (4, .int vu), (5, .int vv), (6, .int vw)]) hx hb d_M_meets_18 hl (by decide) rfl (fun ls hl => ?_)
      refine lv_iload_n hx hb d_M_meets_20 rfl (lv_at hl 2 rfl) ?_
      refine lv_i2l (v := lI vx.toInt) hx hb d_M_meets_21 rfl ?_
      refine lv_bipush (v := (-20)) hx hb d_M_meets_22 (by decide) ?_
      refine lv_bipush (v := nI 20) hx hb d_M_meets_24 (by decide) ?_
      refine xci (wc := []) (wr := [(g, .inr (2, [.int (nI 0), .int (nI d), .ref mm, .int ik, .ref kf, .ref tb, .int rw, .ref wk, .int ab, .int be, .ref pl, .ref sp, .int a0, .int a1, .int b0, .int b1, .ref po, .ref to, .ref ba, .ref li, .int lm])), (mm, IA cI 16 Fm), (ba, LA cJ 12 Bs)]) hP hD hS hA [] [0, 1, 2] rfl rfl (by decide) (by decide) (va_runS (As := [.long (lI vx.toInt), .int (-20), .int (nI 20)]) (rest := []) ⟨hx, hb, hml, hown, hts⟩ (r_in l D cJ cI vx.toInt (-20) (nI 20) (lB_i _) H.size) (cwS 3 hts (gS tw_464 tw_465 tw_3 tw_466) rfl rfl rfl ⟨rfl, hd_M_in⟩ ⟨Nat.le_of_ble_eq_true rfl, Nat.le_of_ble_eq_true rfl⟩) (xPreS hN hK (hP.sub (ws' := []) [] rfl) (hD.sub (ws' := []) [] (by decide) rfl)) rfl rfl hl.1 rfl (lv_room (Nat.le_of_ble_eq_true rfl)) d_M_meets_26 ⟨Nat.le_of_ble_eq_true rfl, Nat.le_of_ble_eq_true rfl⟩) (fun r_33 u_34 H locs w1 hP hD hS => ?_)
      try dsimp only at w1
      have hP : va_P D vwC [(g, .inr (2, [.int (nI 0), .int (nI d), .ref mm, .int ik, .ref kf, .ref tb, .int rw, .ref wk, .int ab, .int be, .ref pl, .ref sp, .int a0, .int a1, .int b0, .int b1, .ref po, .ref to, .ref ba, .ref li, .int lm])), (mm, IA cI 16 Fm), (ba, LA cJ 12 Bs)] H := hP
      have hD : va_D A [(g, .inr (2, [.int (nI 0), .int (nI d), .ref mm, .int ik, .ref kf, .ref tb, .int rw, .ref wk, .int ab, .int be, .ref pl, .ref sp, .int a0, .int a1, .int b0, .int b1, .ref po, .ref to, .ref ba, .ref li, .int lm])), (mm, IA cI 16 Fm), (ba, LA cJ 12 Bs)] := hD
      rcases w1 with ⟨rfl, w1⟩ | ⟨rfl, w1⟩
      · skip
        refine xz_eq (tgt := 125) (X := (1 : Nat)) hx hb (nI_toInt (by omega)) d_M_meets_29 (by decide) (fun c29_34 => absurd c29_34 (by omega)) (fun c29_34 => ?_)
        refine lv_iload_n hx hb d_M_meets_32 rfl (lv_at hl 3 rfl) ?_
        refine lv_i2l (v := lI vy.toInt) hx hb d_M_meets_33 rfl ?_
        refine lv_bipush (v := (-20)) hx hb d_M_meets_34 (by decide) ?_
        refine lv_bipush (v := nI 20) hx hb d_M_meets_36 (by decide) ?_
        refine xci (wc := []) (wr := [(g, .inr (2, [.int (nI 0), .int (nI d), .ref mm, .int ik, .ref kf, .ref tb, .int rw, .ref wk, .int ab, .int be, .ref pl, .ref sp, .int a0, .int a1, .int b0, .int b1, .ref po, .ref to, .ref ba, .ref li, .int lm])), (mm, IA cI 16 Fm), (ba, LA cJ 12 Bs)]) hP hD hS hA [] [0, 1, 2] rfl rfl (by decide) (by decide) (va_runS (As := [.long (lI vy.toInt), .int (-20), .int (nI 20)]) (rest := []) ⟨hx, hb, hml, hown, hts⟩ (r_in l D cJ cI vy.toInt (-20) (nI 20) (lB_i _) H.size) (cwS 3 hts (gS tw_464 tw_465 tw_3 tw_466) rfl rfl rfl ⟨rfl, hd_M_in⟩ ⟨Nat.le_of_ble_eq_true rfl, Nat.le_of_ble_eq_true rfl⟩) (xPreS hN hK (hP.sub (ws' := []) [] rfl) (hD.sub (ws' := []) [] (by decide) rfl)) rfl rfl hl.1 rfl (lv_room (Nat.le_of_ble_eq_true rfl)) d_M_meets_38 ⟨Nat.le_of_ble_eq_true rfl, Nat.le_of_ble_eq_true rfl⟩) (fun r_36 u_37 H locs w2 hP hD hS => ?_)
        try dsimp only at w2
        have hP : va_P D vwC [(g, .inr (2, [.int (nI 0), .int (nI d), .ref mm, .int ik, .ref kf, .ref tb, .int rw, .ref wk, .int ab, .int be, .ref pl, .ref sp, .int a0, .int a1, .int b0, .int b1, .ref po, .ref to, .ref ba, .ref li, .int lm])), (mm, IA cI 16 Fm), (ba, LA cJ 12 Bs)] H := hP
        have hD : va_D A [(g, .inr (2, [.int (nI 0), .int (nI d), .ref mm, .int ik, .ref kf, .ref tb, .int rw, .ref wk, .int ab, .int be, .ref pl, .ref sp, .int a0, .int a1, .int b0, .int b1, .ref po, .ref to, .ref ba, .ref li, .int lm])), (mm, IA cI 16 Fm), (ba, LA cJ 12 Bs)] := hD
        rcases w2 with ⟨rfl, w2⟩ | ⟨rfl, w2⟩
        · skip
          refine xz_eq (tgt := 125) (X := (1 : Nat)) hx hb (nI_toInt (by omega)) d_M_meets_41 (by decide) (fun c41_37 => absurd c41_37 (by omega)) (fun c41_37 => ?_)
          refine lv_iload hx hb d_M_meets_44 (lv_at hl 0 rfl) ?_
          refine xz_ne (tgt := 61) (X := (0 : Nat)) hx hb (nI_toInt (by omega)) d_M_meets_46 (by decide) (fun c46_38 => absurd c46_38 (by omega)) (fun c46_38 => ?_)
          refine lv_iload_n hx hb d_M_meets_49 rfl (lv_at hl 4 rfl) ?_
          refine lv_i2l (v := lI vz.toInt) hx hb d_M_meets_50 rfl ?_
          refine lv_bipush (v := (-20)) hx hb d_M_meets_51 (by decide) ?_
          refine lv_bipush (v := nI 20) hx hb d_M_meets_53 (by decide) ?_
          refine xci (wc := []) (wr := [(g, .inr (2, [.int (nI 0), .int (nI d), .ref mm, .int ik, .ref kf, .ref tb, .int rw, .ref wk, .int ab, .int be, .ref pl, .ref sp, .int a0, .int a1, .int b0, .int b1, .ref po, .ref to, .ref ba, .ref li, .int lm])), (mm, IA cI 16 Fm), (ba, LA cJ 12 Bs)]) hP hD hS hA [] [0, 1, 2] rfl rfl (by decide) (by decide) (va_runS (As := [.long (lI vz.toInt), .int (-20), .int (nI 20)]) (rest := []) ⟨hx, hb, hml, hown, hts⟩ (r_in l D cJ cI vz.toInt (-20) (nI 20) (lB_i _) H.size) (cwS 3 hts (gS tw_464 tw_465 tw_3 tw_466) rfl rfl rfl ⟨rfl, hd_M_in⟩ ⟨Nat.le_of_ble_eq_true rfl, Nat.le_of_ble_eq_true rfl⟩) (xPreS hN hK (hP.sub (ws' := []) [] rfl) (hD.sub (ws' := []) [] (by decide) rfl)) rfl rfl hl.1 rfl (lv_room (Nat.le_of_ble_eq_true rfl)) d_M_meets_55 ⟨Nat.le_of_ble_eq_true rfl, Nat.le_of_ble_eq_true rfl⟩) (fun r_40 u_41 H locs w3 hP hD hS => ?_)
          try dsimp only at w3
          have hP : va_P D vwC [(g, .inr (2, [.int (nI 0), .int (nI d), .ref mm, .int ik, .ref kf, .ref tb, .int rw, .ref wk, .int ab, .int be, .ref pl, .ref sp, .int a0, .int a1, .int b0, .int b1, .ref po, .ref to, .ref ba, .ref li, .int lm])), (mm, IA cI 16 Fm), (ba, LA cJ 12 Bs)] H := hP
          have hD : va_D A [(g, .inr (2, [.int (nI 0), .int (nI d), .ref mm, .int ik, .ref kf, .ref tb, .int rw, .ref wk, .int ab, .int be, .ref pl, .ref sp, .int a0, .int a1, .int b0, .int b1, .ref po, .ref to, .ref ba, .ref li, .int lm])), (mm, IA cI 16 Fm), (ba, LA cJ 12 Bs)] := hD
          rcases w3 with ⟨rfl, w3⟩ | ⟨rfl, w3⟩
          · skip
            refine xz_eq (tgt := 125) (X := (1 : Nat)) hx hb (nI_toInt (by omega)) d_M_meets_58 (by decide) (fun c58_41 => absurd c58_41 (by omega)) (fun c58_41 => ?_)
            refine lv_iload hx hb d_M_meets_61 (lv_at hl 5 rfl) ?_
            refine lv_i2l (v := lI vu.toInt) hx hb d_M_meets_63 rfl ?_
            refine lv_bipush (v := (-20)) hx hb d_M_meets_64 (by decide) ?_
            refine lv_bipush (v := nI 20) hx hb d_M_meets_66 (by decide) ?_
            refine xci (wc := []) (wr := [(g, .inr (2, [.int (nI 0), .int (nI d), .ref mm, .int ik, .ref kf, .ref tb, .int rw, .ref wk, .int ab, .int be, .ref pl, .ref sp, .int a0, .int a1, .int b0, .int b1, .ref po, .ref to, .ref ba, .ref li, .int lm])), (mm, IA cI 16 Fm), (ba, LA cJ 12 Bs)]) hP hD hS hA [] [0, 1, 2] rfl rfl (by decide) (by decide) (va_runS (As := [.long (lI vu.toInt), .int (-20), .int (nI 20)]) (rest := []) ⟨hx, hb, hml, hown, hts⟩ (r_in l D cJ cI vu.toInt (-20) (nI 20) (lB_i _) H.size) (cwS 3 hts (gS tw_464 tw_465 tw_3 tw_466) rfl rfl rfl ⟨rfl, hd_M_in⟩ ⟨Nat.le_of_ble_eq_true rfl, Nat.le_of_ble_eq_true rfl⟩) (xPreS hN hK (hP.sub (ws' := []) [] rfl) (hD.sub (ws' := []) [] (by decide) rfl)) rfl rfl hl.1 rfl (lv_room (Nat.le_of_ble_eq_true rfl)) d_M_meets_68 ⟨Nat.le_of_ble_eq_true rfl, Nat.le_of_ble_eq_true rfl⟩) (fun r_43 u_44 H locs w4 hP hD hS => ?_)
            try dsimp only at w4
            have hP : va_P D vwC [(g, .inr (2, [.int (nI 0), .int (nI d), .ref mm, .int ik, .ref kf, .ref tb, .int rw, .ref wk, .int ab, .int be, .ref pl, .ref sp, .int a0, .int a1, .int b0, .int b1, .ref po, .ref to, .ref ba, .ref li, .int lm])), (mm, IA cI 16 Fm), (ba, LA cJ 12 Bs)] H := hP
            have hD : va_D A [(g, .inr (2, [.int (nI 0), .int (nI d), .ref mm, .int ik, .ref kf, .ref tb, .int rw, .ref wk, .int ab, .int be, .ref pl, .ref sp, .int a0, .int a1, .int b0, .int b1, .ref po, .ref to, .ref ba, .ref li, .int lm])), (mm, IA cI 16 Fm), (ba, LA cJ 12 Bs)] := hD
            rcases w4 with ⟨rfl, w4⟩ | ⟨rfl, w4⟩
            · skip
              refine xz_eq (tgt := 125) (X := (1 : Nat)) hx hb (nI_toInt (by omega)) d_M_meets_71 (by decide) (fun c71_44 => absurd c71_44 (by omega)) (fun c71_44 => ?_)
              refine lv_iload hx hb d_M_meets_74 (lv_at hl 6 rfl) ?_
              refine lv_i2l (v := lI vv.toInt) hx hb d_M_meets_76 rfl ?_
              refine lv_bipush (v := (-20)) hx hb d_M_meets_77 (by decide) ?_
              refine lv_bipush (v := nI 20) hx hb d_M_meets_79 (by decide) ?_
              refine xci (wc := []) (wr := [(g, .inr (2, [.int (nI 0), .int (nI d), .ref mm, .int ik, .ref kf, .ref tb, .int rw, .ref wk, .int ab, .int be, .ref pl, .ref sp, .int a0, .int a1, .int b0, .int b1, .ref po, .ref to, .ref ba, .ref li, .int lm])), (mm, IA cI 16 Fm), (ba, LA cJ 12 Bs)]) hP hD hS hA [] [0, 1, 2] rfl rfl (by decide) (by decide) (va_runS (As := [.long (lI vv.toInt), .int (-20), .int (nI 20)]) (rest := []) ⟨hx, hb, hml, hown, hts⟩ (r_in l D cJ cI vv.toInt (-20) (nI 20) (lB_i _) H.size) (cwS 3 hts (gS tw_464 tw_465 tw_3 tw_466) rfl rfl rfl ⟨rfl, hd_M_in⟩ ⟨Nat.le_of_ble_eq_true rfl, Nat.le_of_ble_eq_true rfl⟩) (xPreS hN hK (hP.sub (ws' := []) [] rfl) (hD.sub (ws' := []) [] (by decide) rfl)) rfl rfl hl.1 rfl (lv_room (Nat.le_of_ble_eq_true rfl)) d_M_meets_81 ⟨Nat.le_of_ble_eq_true rfl, Nat.le_of_ble_eq_true rfl⟩) (fun r_46 u_47 H locs w5 hP hD hS => ?_)
              try dsimp only at w5
              have hP : va_P D vwC [(g, .inr (2, [.int (nI 0), .int (nI d), .ref mm, .int ik, .ref kf, .ref tb, .int rw, .ref wk, .int ab, .int be, .ref pl, .ref sp, .int a0, .int a1, .int b0, .int b1, .ref po, .ref to, .ref ba, .ref li, .int lm])), (mm, IA cI 16 Fm), (ba, LA cJ 12 Bs)] H := hP
              have hD : va_D A [(g, .inr (2, [.int (nI 0), .int (nI d), .ref mm, .int ik, .ref kf, .ref tb, .int rw, .ref wk, .int ab, .int be, .ref pl, .ref sp, .int a0, .int a1, .int b0, .int b1, .ref po, .ref to, .ref ba, .ref li, .int lm])), (mm, IA cI 16 Fm), (ba, LA cJ 12 Bs)] := hD
              rcases w5 with ⟨rfl, w5⟩ | ⟨rfl, w5⟩
              · skip
                refine xz_eq (tgt := 125) (X := (1 : Nat)) hx hb (nI_toInt (by omega)) d_M_meets_84 (by decide) (fun c84_47 => absurd c84_47 (by omega)) (fun c84_47 => ?_)
                refine lv_iload hx hb d_M_meets_87 (lv_at hl 0 rfl) ?_
                refine xz_ne (tgt := 105) (X := (0 : Nat)) hx hb (nI_toInt (by omega)) d_M_meets_89 (by decide) (fun c89_48 => absurd c89_48 (by omega)) (fun c89_48 => ?_)
                refine lv_iload hx hb d_M_meets_92 (lv_at hl 7 rfl) ?_
                refine lv_i2l (v := lI vw.toInt) hx hb d_M_meets_94 rfl ?_
                refine lv_bipush (v := (-20)) hx hb d_M_meets_95 (by decide) ?_
                refine lv_bipush (v := nI 20) hx hb d_M_meets_97 (by decide) ?_
                refine xci (wc := []) (wr := [(g, .inr (2, [.int (nI 0), .int (nI d), .ref mm, .int ik, .ref kf, .ref tb, .int rw, .ref wk, .int ab, .int be, .ref pl, .ref sp, .int a0, .int a1, .int b0, .int b1, .ref po, .ref to, .ref ba, .ref li, .int lm])), (mm, IA cI 16 Fm), (ba, LA cJ 12 Bs)]) hP hD hS hA [] [0, 1, 2] rfl rfl (by decide) (by decide) (va_runS (As := [.long (lI vw.toInt), .int (-20), .int (nI 20)]) (rest := []) ⟨hx, hb, hml, hown, hts⟩ (r_in l D cJ cI vw.toInt (-20) (nI 20) (lB_i _) H.size) (cwS 3 hts (gS tw_464 tw_465 tw_3 tw_466) rfl rfl rfl ⟨rfl, hd_M_in⟩ ⟨Nat.le_of_ble_eq_true rfl, Nat.le_of_ble_eq_true rfl⟩) (xPreS hN hK (hP.sub (ws' := []) [] rfl) (hD.sub (ws' := []) [] (by decide) rfl)) rfl rfl hl.1 rfl (lv_room (Nat.le_of_ble_eq_true rfl)) d_M_meets_99 ⟨Nat.le_of_ble_eq_true rfl, Nat.le_of_ble_eq_true rfl⟩) (fun r_50 u_51 H locs w6 hP hD hS => ?_)
                try dsimp only at w6
                have hP : va_P D vwC [(g, .inr (2, [.int (nI 0), .int (nI d), .ref mm, .int ik, .ref kf, .ref tb, .int rw, .ref wk, .int ab, .int be, .ref pl, .ref sp, .int a0, .int a1, .int b0, .int b1, .ref po, .ref to, .ref ba, .ref li, .int lm])), (mm, IA cI 16 Fm), (ba, LA cJ 12 Bs)] H := hP
                have hD : va_D A [(g, .inr (2, [.int (nI 0), .int (nI d), .ref mm, .int ik, .ref kf, .ref tb, .int rw, .ref wk, .int ab, .int be, .ref pl, .ref sp, .int a0, .int a1, .int b0, .int b1, .ref po, .ref to, .ref ba, .ref li, .int lm])), (mm, IA cI 16 Fm), (ba, LA cJ 12 Bs)] := hD
                rcases w6 with ⟨rfl, w6⟩ | ⟨rfl, w6⟩
                · skip
                  refine xz_eq (tgt := 125) (X := (1 : Nat)) hx hb (nI_toInt (by omega)) d_M_meets_102 (by decide) (fun c102_51 => absurd c102_51 (by omega)) (fun c102_51 => ?_)
                  refine lv_iload hx hb d_M_meets_105 (lv_at hl 5 rfl) ?_
                  refine xz_ne (tgt := 128) (X := vu.toInt) hx hb rfl d_M_meets_107 (by decide) (fun c107_52 => ?_) (fun c107_52 => ?_)
                  · skip
                    exact lp_128 0 H locs ls (by omega) (fun q => absurd ((me_bad hd2 hd3).mp q) (by have c1 : (nI 20).toInt = 20 := rfl; have c2 : (-20 : Int32).toInt = -20 := rfl; unfold inB; omega)) hP hD hS (lv_sub hl [1, 2, 3, 4, 5, 6, 7, 0] rfl)
                  · skip
                    refine lv_iload hx hb d_M_meets_110 (lv_at hl 6 rfl) ?_
                    refine xz_ne (tgt := 128) (X := vv.toInt) hx hb rfl d_M_meets_112 (by decide) (fun c112_53 => ?_) (fun c112_53 => ?_)
                    · skip
                      exact lp_128 0 H locs ls (by omega) (fun q => absurd ((me_bad hd2 hd3).mp q) (by have c1 : (nI 20).toInt = 20 := rfl; have c2 : (-20 : Int32).toInt = -20 := rfl; unfold inB; omega)) hP hD hS (lv_sub hl [1, 2, 3, 4, 5, 6, 7, 0] rfl)
                    · skip
                      refine lv_iload hx hb d_M_meets_115 (lv_at hl 0 rfl) ?_
                      refine xz_ne (tgt := 125) (X := (0 : Nat)) hx hb (nI_toInt (by omega)) d_M_meets_117 (by decide) (fun c117_54 => absurd c117_54 (by omega)) (fun c117_54 => ?_)
                      refine lv_iload hx hb d_M_meets_120 (lv_at hl 7 rfl) ?_
                      refine xz_ne (tgt := 128) (X := vw.toInt) hx hb rfl d_M_meets_122 (by decide) (fun c122_55 => ?_) (fun c122_55 => ?_)
                      · skip
                        exact lp_128 0 H locs ls (by omega) (fun q => absurd ((me_bad hd2 hd3).mp q) (by have c1 : (nI 20).toInt = 20 := rfl; have c2 : (-20 : Int32).toInt = -20 := rfl; unfold inB; omega)) hP hD hS (lv_sub hl [1, 2, 3, 4, 5, 6, 7, 0] rfl)
                      · skip
                        refine lv_bipush (v := (-2)) hx hb d_M_meets_125 (by decide) ?_
                        exact hret H locs _ ls (-2) Bs d_M_meets_127 (by rw [s_meets_t ((me_bad hd2 hd3).mpr (by have c1 : (nI 20).toInt = 20 := rfl; have c2 : (-20 : Int32).toInt = -20 := rfl; unfold inB; omega))]) hP hD hS
                · skip
                  refine xz_eq (tgt := 125) (X := (0 : Nat)) hx hb (nI_toInt (by omega)) d_M_meets_102 (by decide) (fun c102_56 => ?_) (fun c102_56 => absurd c102_56 (by omega))
                  refine lv_bipush (v := (-2)) hx hb d_M_meets_125 (by decide) ?_
                  exact hret H locs _ ls (-2) Bs d_M_meets_127 (by rw [s_meets_t ((me_bad hd2 hd3).mpr (by have c1 : (nI 20).toInt = 20 := rfl; have c2 : (-20 : Int32).toInt = -20 := rfl; unfold inB; omega))]) hP hD hS
              · skip
                refine xz_eq (tgt := 125) (X := (0 : Nat)) hx hb (nI_toInt (by omega)) d_M_meets_84 (by decide) (fun c84_57 => ?_) (fun c84_57 => absurd c84_57 (by omega))
                refine lv_bipush (v := (-2)) hx hb d_M_meets_125 (by decide) ?_
                exact hret H locs _ ls (-2) Bs d_M_meets_127 (by rw [s_meets_t ((me_bad hd2 hd3).mpr (by have c1 : (nI 20).toInt = 20 := rfl; have c2 : (-20 : Int32).toInt = -20 := rfl; unfold inB; omega))]) hP hD hS
            · skip
              refine xz_eq (tgt := 125) (X := (0 : Nat)) hx hb (nI_toInt (by omega)) d_M_meets_71 (by decide) (fun c71_58 => ?_) (fun c71_58 => absurd c71_58 (by omega))
              refine lv_bipush (v := (-2)) hx hb d_M_meets_125 (by decide) ?_
              exact hret H locs _ ls (-2) Bs d_M_meets_127 (by rw [s_meets_t ((me_bad hd2 hd3).mpr (by have c1 : (nI 20).toInt = 20 := rfl; have c2 : (-20 : Int32).toInt = -20 := rfl; unfold inB; omega))]) hP hD hS
          · skip
            refine xz_eq (tgt := 125) (X := (0 : Nat)) hx hb (nI_toInt (by omega)) d_M_meets_58 (by decide) (fun c58_59 => ?_) (fun c58_59 => absurd c58_59 (by omega))
            refine lv_bipush (v := (-2)) hx hb d_M_meets_125 (by decide) ?_
            exact hret H locs _ ls (-2) Bs d_M_meets_127 (by rw [s_meets_t ((me_bad hd2 hd3).mpr (by have c1 : (nI 20).toInt = 20 := rfl; have c2 : (-20 : Int32).toInt = -20 := rfl; unfold inB; omega))]) hP hD hS
        · skip
          refine xz_eq (tgt := 125) (X := (0 : Nat)) hx hb (nI_toInt (by omega)) d_M_meets_41 (by decide) (fun c41_60 => ?_) (fun c41_60 => absurd c41_60 (by omega))
          refine lv_bipush (v := (-2)) hx hb d_M_meets_125 (by decide) ?_
          exact hret H locs _ ls (-2) Bs d_M_meets_127 (by rw [s_meets_t ((me_bad hd2 hd3).mpr (by have c1 : (nI 20).toInt = 20 := rfl; have c2 : (-20 : Int32).toInt = -20 := rfl; unfold inB; omega))]) hP hD hS
      · skip
        refine xz_eq (tgt := 125) (X := (0 : Nat)) hx hb (nI_toInt (by omega)) d_M_meets_29 (by decide) (fun c29_61 => ?_) (fun c29_61 => absurd c29_61 (by omega))
        refine lv_bipush (v := (-2)) hx hb d_M_meets_125 (by decide) ?_
        exact hret H locs _ ls (-2) Bs d_M_meets_127 (by rw [s_meets_t ((me_bad hd2 hd3).mpr (by have c1 : (nI 20).toInt = 20 := rfl; have c2 : (-20 : Int32).toInt = -20 := rfl; unfold inB; omega))]) hP hD hS
    · skip
      refine lv_iconst (v := nI 1) hx hb d_M_meets_13 (by decide) ?_
      refine lv_goto (tgt := 18) hx hb d_M_meets_14 (by decide) ?_
      refine lv_istore (lv' := [(7, .int (nI 1)), (0, .ref g), (1, .int vx), (2, .int vy), (3, .int vz), (4, .int vu), (5, .int vv), (6, .int vw)]) hx hb d_M_meets_18 hl (by decide) rfl (fun ls hl => ?_)
      refine lv_iload_n hx hb d_M_meets_20 rfl (lv_at hl 2 rfl) ?_
      refine lv_i2l (v := lI vx.toInt) hx hb d_M_meets_21 rfl ?_
      refine lv_bipush (v := (-20)) hx hb d_M_meets_22 (by decide) ?_
      refine lv_bipush (v := nI 20) hx hb d_M_meets_24 (by decide) ?_
      refine xci (wc := []) (wr := [(g, .inr (2, [.int (nI 0), .int (nI d), .ref mm, .int ik, .ref kf, .ref tb, .int rw, .ref wk, .int ab, .int be, .ref pl, .ref sp, .int a0, .int a1, .int b0, .int b1, .ref po, .ref to, .ref ba, .ref li, .int lm])), (mm, IA cI 16 Fm), (ba, LA cJ 12 Bs)]) hP hD hS hA [] [0, 1, 2] rfl rfl (by decide) (by decide) (va_runS (As := [.long (lI vx.toInt), .int (-20), .int (nI 20)]) (rest := []) ⟨hx, hb, hml, hown, hts⟩ (r_in l D cJ cI vx.toInt (-20) (nI 20) (lB_i _) H.size) (cwS 3 hts (gS tw_464 tw_465 tw_3 tw_466) rfl rfl rfl ⟨rfl, hd_M_in⟩ ⟨Nat.le_of_ble_eq_true rfl, Nat.le_of_ble_eq_true rfl⟩) (xPreS hN hK (hP.sub (ws' := []) [] rfl) (hD.sub (ws' := []) [] (by decide) rfl)) rfl rfl hl.1 rfl (lv_room (Nat.le_of_ble_eq_true rfl)) d_M_meets_26 ⟨Nat.le_of_ble_eq_true rfl, Nat.le_of_ble_eq_true rfl⟩) (fun r_63 u_64 H locs w1 hP hD hS => ?_)
      try dsimp only at w1
      have hP : va_P D vwC [(g, .inr (2, [.int (nI 0), .int (nI d), .ref mm, .int ik, .ref kf, .ref tb, .int rw, .ref wk, .int ab, .int be, .ref pl, .ref sp, .int a0, .int a1, .int b0, .int b1, .ref po, .ref to, .ref ba, .ref li, .int lm])), (mm, IA cI 16 Fm), (ba, LA cJ 12 Bs)] H := hP
      have hD : va_D A [(g, .inr (2, [.int (nI 0), .int (nI d), .ref mm, .int ik, .ref kf, .ref tb, .int rw, .ref wk, .int ab, .int be, .ref pl, .ref sp, .int a0, .int a1, .int b0, .int b1, .ref po, .ref to, .ref ba, .ref li, .int lm])), (mm, IA cI 16 Fm), (ba, LA cJ 12 Bs)] := hD
      rcases w1 with ⟨rfl, w1⟩ | ⟨rfl, w1⟩
      · skip
        refine xz_eq (tgt := 125) (X := (1 : Nat)) hx hb (nI_toInt (by omega)) d_M_meets_29 (by decide) (fun c29_64 => absurd c29_64 (by omega)) (fun c29_64 => ?_)
        refine lv_iload_n hx hb d_M_meets_32 rfl (lv_at hl 3 rfl) ?_
        refine lv_i2l (v := lI vy.toInt) hx hb d_M_meets_33 rfl ?_
        refine lv_bipush (v := (-20)) hx hb d_M_meets_34 (by decide) ?_
        refine lv_bipush (v := nI 20) hx hb d_M_meets_36 (by decide) ?_
        refine xci (wc := []) (wr := [(g, .inr (2, [.int (nI 0), .int (nI d), .ref mm, .int ik, .ref kf, .ref tb, .int rw, .ref wk, .int ab, .int be, .ref pl, .ref sp, .int a0, .int a1, .int b0, .int b1, .ref po, .ref to, .ref ba, .ref li, .int lm])), (mm, IA cI 16 Fm), (ba, LA cJ 12 Bs)]) hP hD hS hA [] [0, 1, 2] rfl rfl (by decide) (by decide) (va_runS (As := [.long (lI vy.toInt), .int (-20), .int (nI 20)]) (rest := []) ⟨hx, hb, hml, hown, hts⟩ (r_in l D cJ cI vy.toInt (-20) (nI 20) (lB_i _) H.size) (cwS 3 hts (gS tw_464 tw_465 tw_3 tw_466) rfl rfl rfl ⟨rfl, hd_M_in⟩ ⟨Nat.le_of_ble_eq_true rfl, Nat.le_of_ble_eq_true rfl⟩) (xPreS hN hK (hP.sub (ws' := []) [] rfl) (hD.sub (ws' := []) [] (by decide) rfl)) rfl rfl hl.1 rfl (lv_room (Nat.le_of_ble_eq_true rfl)) d_M_meets_38 ⟨Nat.le_of_ble_eq_true rfl, Nat.le_of_ble_eq_true rfl⟩) (fun r_66 u_67 H locs w2 hP hD hS => ?_)
        try dsimp only at w2
        have hP : va_P D vwC [(g, .inr (2, [.int (nI 0), .int (nI d), .ref mm, .int ik, .ref kf, .ref tb, .int rw, .ref wk, .int ab, .int be, .ref pl, .ref sp, .int a0, .int a1, .int b0, .int b1, .ref po, .ref to, .ref ba, .ref li, .int lm])), (mm, IA cI 16 Fm), (ba, LA cJ 12 Bs)] H := hP
        have hD : va_D A [(g, .inr (2, [.int (nI 0), .int (nI d), .ref mm, .int ik, .ref kf, .ref tb, .int rw, .ref wk, .int ab, .int be, .ref pl, .ref sp, .int a0, .int a1, .int b0, .int b1, .ref po, .ref to, .ref ba, .ref li, .int lm])), (mm, IA cI 16 Fm), (ba, LA cJ 12 Bs)] := hD
        rcases w2 with ⟨rfl, w2⟩ | ⟨rfl, w2⟩
        · skip
          refine xz_eq (tgt := 125) (X := (1 : Nat)) hx hb (nI_toInt (by omega)) d_M_meets_41 (by decide) (fun c41_67 => absurd c41_67 (by omega)) (fun c41_67 => ?_)
          refine lv_iload hx hb d_M_meets_44 (lv_at hl 0 rfl) ?_
          refine xz_ne (tgt := 61) (X := (1 : Nat)) hx hb (nI_toInt (by omega)) d_M_meets_46 (by decide) (fun c46_68 => ?_) (fun c46_68 => absurd c46_68 (by omega))
          refine lv_iload hx hb d_M_meets_61 (lv_at hl 5 rfl) ?_
          refine lv_i2l (v := lI vu.toInt) hx hb d_M_meets_63 rfl ?_
          refine lv_bipush (v := (-20)) hx hb d_M_meets_64 (by decide) ?_
          refine lv_bipush (v := nI 20) hx hb d_M_meets_66 (by decide) ?_
          refine xci (wc := []) (wr := [(g, .inr (2, [.int (nI 0), .int (nI d), .ref mm, .int ik, .ref kf, .ref tb, .int rw, .ref wk, .int ab, .int be, .ref pl, .ref sp, .int a0, .int a1, .int b0, .int b1, .ref po, .ref to, .ref ba, .ref li, .int lm])), (mm, IA cI 16 Fm), (ba, LA cJ 12 Bs)]) hP hD hS hA [] [0, 1, 2] rfl rfl (by decide) (by decide) (va_runS (As := [.long (lI vu.toInt), .int (-20), .int (nI 20)]) (rest := []) ⟨hx, hb, hml, hown, hts⟩ (r_in l D cJ cI vu.toInt (-20) (nI 20) (lB_i _) H.size) (cwS 3 hts (gS tw_464 tw_465 tw_3 tw_466) rfl rfl rfl ⟨rfl, hd_M_in⟩ ⟨Nat.le_of_ble_eq_true rfl, Nat.le_of_ble_eq_true rfl⟩) (xPreS hN hK (hP.sub (ws' := []) [] rfl) (hD.sub (ws' := []) [] (by decide) rfl)) rfl rfl hl.1 rfl (lv_room (Nat.le_of_ble_eq_true rfl)) d_M_meets_68 ⟨Nat.le_of_ble_eq_true rfl, Nat.le_of_ble_eq_true rfl⟩) (fun r_70 u_71 H locs w4 hP hD hS => ?_)
          try dsimp only at w4
          have hP : va_P D vwC [(g, .inr (2, [.int (nI 0), .int (nI d), .ref mm, .int ik, .ref kf, .ref tb, .int rw, .ref wk, .int ab, .int be, .ref pl, .ref sp, .int a0, .int a1, .int b0, .int b1, .ref po, .ref to, .ref ba, .ref li, .int lm])), (mm, IA cI 16 Fm), (ba, LA cJ 12 Bs)] H := hP
          have hD : va_D A [(g, .inr (2, [.int (nI 0), .int (nI d), .ref mm, .int ik, .ref kf, .ref tb, .int rw, .ref wk, .int ab, .int be, .ref pl, .ref sp, .int a0, .int a1, .int b0, .int b1, .ref po, .ref to, .ref ba, .ref li, .int lm])), (mm, IA cI 16 Fm), (ba, LA cJ 12 Bs)] := hD
          rcases w4 with ⟨rfl, w4⟩ | ⟨rfl, w4⟩
          · skip
            refine xz_eq (tgt := 125) (X := (1 : Nat)) hx hb (nI_toInt (by omega)) d_M_meets_71 (by decide) (fun c71_71 => absurd c71_71 (by omega)) (fun c71_71 => ?_)
            refine lv_iload hx hb d_M_meets_74 (lv_at hl 6 rfl) ?_
            refine lv_i2l (v := lI vv.toInt) hx hb d_M_meets_76 rfl ?_
            refine lv_bipush (v := (-20)) hx hb d_M_meets_77 (by decide) ?_
            refine lv_bipush (v := nI 20) hx hb d_M_meets_79 (by decide) ?_
            refine xci (wc := []) (wr := [(g, .inr (2, [.int (nI 0), .int (nI d), .ref mm, .int ik, .ref kf, .ref tb, .int rw, .ref wk, .int ab, .int be, .ref pl, .ref sp, .int a0, .int a1, .int b0, .int b1, .ref po, .ref to, .ref ba, .ref li, .int lm])), (mm, IA cI 16 Fm), (ba, LA cJ 12 Bs)]) hP hD hS hA [] [0, 1, 2] rfl rfl (by decide) (by decide) (va_runS (As := [.long (lI vv.toInt), .int (-20), .int (nI 20)]) (rest := []) ⟨hx, hb, hml, hown, hts⟩ (r_in l D cJ cI vv.toInt (-20) (nI 20) (lB_i _) H.size) (cwS 3 hts (gS tw_464 tw_465 tw_3 tw_466) rfl rfl rfl ⟨rfl, hd_M_in⟩ ⟨Nat.le_of_ble_eq_true rfl, Nat.le_of_ble_eq_true rfl⟩) (xPreS hN hK (hP.sub (ws' := []) [] rfl) (hD.sub (ws' := []) [] (by decide) rfl)) rfl rfl hl.1 rfl (lv_room (Nat.le_of_ble_eq_true rfl)) d_M_meets_81 ⟨Nat.le_of_ble_eq_true rfl, Nat.le_of_ble_eq_true rfl⟩) (fun r_73 u_74 H locs w5 hP hD hS => ?_)
            try dsimp only at w5
            have hP : va_P D vwC [(g, .inr (2, [.int (nI 0), .int (nI d), .ref mm, .int ik, .ref kf, .ref tb, .int rw, .ref wk, .int ab, .int be, .ref pl, .ref sp, .int a0, .int a1, .int b0, .int b1, .ref po, .ref to, .ref ba, .ref li, .int lm])), (mm, IA cI 16 Fm), (ba, LA cJ 12 Bs)] H := hP
            have hD : va_D A [(g, .inr (2, [.int (nI 0), .int (nI d), .ref mm, .int ik, .ref kf, .ref tb, .int rw, .ref wk, .int ab, .int be, .ref pl, .ref sp, .int a0, .int a1, .int b0, .int b1, .ref po, .ref to, .ref ba, .ref li, .int lm])), (mm, IA cI 16 Fm), (ba, LA cJ 12 Bs)] := hD
            rcases w5 with ⟨rfl, w5⟩ | ⟨rfl, w5⟩
            · skip
              refine xz_eq (tgt := 125) (X := (1 : Nat)) hx hb (nI_toInt (by omega)) d_M_meets_84 (by decide) (fun c84_74 => absurd c84_74 (by omega)) (fun c84_74 => ?_)
              refine lv_iload hx hb d_M_meets_87 (lv_at hl 0 rfl) ?_
              refine xz_ne (tgt := 105) (X := (1 : Nat)) hx hb (nI_toInt (by omega)) d_M_meets_89 (by decide) (fun c89_75 => ?_) (fun c89_75 => absurd c89_75 (by omega))
              refine lv_iload hx hb d_M_meets_105 (lv_at hl 5 rfl) ?_
              refine xz_ne (tgt := 128) (X := vu.toInt) hx hb rfl d_M_meets_107 (by decide) (fun c107_76 => ?_) (fun c107_76 => ?_)
              · skip
                exact lp_128 1 H locs ls (by omega) (fun q => absurd ((me_bad hd2 hd3).mp q) (by have c1 : (nI 20).toInt = 20 := rfl; have c2 : (-20 : Int32).toInt = -20 := rfl; unfold inB; omega)) hP hD hS (lv_sub hl [1, 2, 3, 4, 5, 6, 7, 0] rfl)
              · skip
                refine lv_iload hx hb d_M_meets_110 (lv_at hl 6 rfl) ?_
                refine xz_ne (tgt := 128) (X := vv.toInt) hx hb rfl d_M_meets_112 (by decide) (fun c112_77 => ?_) (fun c112_77 => ?_)
                · skip
                  exact lp_128 1 H locs ls (by omega) (fun q => absurd ((me_bad hd2 hd3).mp q) (by have c1 : (nI 20).toInt = 20 := rfl; have c2 : (-20 : Int32).toInt = -20 := rfl; unfold inB; omega)) hP hD hS (lv_sub hl [1, 2, 3, 4, 5, 6, 7, 0] rfl)
                · skip
                  refine lv_iload hx hb d_M_meets_115 (lv_at hl 0 rfl) ?_
                  refine xz_ne (tgt := 125) (X := (1 : Nat)) hx hb (nI_toInt (by omega)) d_M_meets_117 (by decide) (fun c117_78 => ?_) (fun c117_78 => absurd c117_78 (by omega))
                  refine lv_bipush (v := (-2)) hx hb d_M_meets_125 (by decide) ?_
                  exact hret H locs _ ls (-2) Bs d_M_meets_127 (by rw [s_meets_t ((me_bad hd2 hd3).mpr (by have c1 : (nI 20).toInt = 20 := rfl; have c2 : (-20 : Int32).toInt = -20 := rfl; unfold inB; omega))]) hP hD hS
            · skip
              refine xz_eq (tgt := 125) (X := (0 : Nat)) hx hb (nI_toInt (by omega)) d_M_meets_84 (by decide) (fun c84_79 => ?_) (fun c84_79 => absurd c84_79 (by omega))
              refine lv_bipush (v := (-2)) hx hb d_M_meets_125 (by decide) ?_
              exact hret H locs _ ls (-2) Bs d_M_meets_127 (by rw [s_meets_t ((me_bad hd2 hd3).mpr (by have c1 : (nI 20).toInt = 20 := rfl; have c2 : (-20 : Int32).toInt = -20 := rfl; unfold inB; omega))]) hP hD hS
          · skip
            refine xz_eq (tgt := 125) (X := (0 : Nat)) hx hb (nI_toInt (by omega)) d_M_meets_71 (by decide) (fun c71_80 => ?_) (fun c71_80 => absurd c71_80 (by omega))
            refine lv_bipush (v := (-2)) hx hb d_M_meets_125 (by decide) ?_
            exact hret H locs _ ls (-2) Bs d_M_meets_127 (by rw [s_meets_t ((me_bad hd2 hd3).mpr (by have c1 : (nI 20).toInt = 20 := rfl; have c2 : (-20 : Int32).toInt = -20 := rfl; unfold inB; omega))]) hP hD hS
        · skip
          refine xz_eq (tgt := 125) (X := (0 : Nat)) hx hb (nI_toInt (by omega)) d_M_meets_41 (by decide) (fun c41_81 => ?_) (fun c41_81 => absurd c41_81 (by omega))
          refine lv_bipush (v := (-2)) hx hb d_M_meets_125 (by decide) ?_
          exact hret H locs _ ls (-2) Bs d_M_meets_127 (by rw [s_meets_t ((me_bad hd2 hd3).mpr (by have c1 : (nI 20).toInt = 20 := rfl; have c2 : (-20 : Int32).toInt = -20 := rfl; unfold inB; omega))]) hP hD hS
      · skip
        refine xz_eq (tgt := 125) (X := (0 : Nat)) hx hb (nI_toInt (by omega)) d_M_meets_29 (by decide) (fun c29_82 => ?_) (fun c29_82 => absurd c29_82 (by omega))
        refine lv_bipush (v := (-2)) hx hb d_M_meets_125 (by decide) ?_
        exact hret H locs _ ls (-2) Bs d_M_meets_127 (by rw [s_meets_t ((me_bad hd2 hd3).mpr (by have c1 : (nI 20).toInt = 20 := rfl; have c2 : (-20 : Int32).toInt = -20 := rfl; unfold inB; omega))]) hP hD hS
  rw [hH, hlc] at key; exact key
