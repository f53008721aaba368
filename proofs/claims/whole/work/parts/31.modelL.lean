/-! contracts of ConicKindsModel: rank, middles (wip/spec_model12.py, modelL) -/
theorem swp_id {a b i : Nat} (h1 : i ≠ a) (h2 : i ≠ b) : swp a b i = i := by unfold swp; rw [if_neg h1, if_neg h2]
theorem swp_ge2 {p r i : Nat} (h1 : r ≤ p) (h2 : r ≤ i) : r ≤ swp p r i := by
  unfold swp; split
  · omega
  · split <;> omega
theorem ech_piv {W5 W6 W7 : Nat → Int} {d n c r p : Nat} (hd3 : d ≤ 3) (hn : n ≤ 4) (hcn : c < n) (hE : ech (mw W5) d c r) (hp : r ≤ p) (hpd : p < d) (hsw : ∀ i j, i < 4 → j < 5 → W6 (5 * i + j) = W5 (5 * swp p r i + j)) (hel : ∀ x y, x < d → y < n → (r < x → W7 (5 * x + y) = W6 (5 * x + y) * W6 (5 * r + c) - W6 (5 * x + c) * W6 (5 * r + y)) ∧ (¬ r < x → W7 (5 * x + y) = W6 (5 * x + y))) (hnz : W5 (5 * p + c) ≠ 0) : ech (mw W7) d (c + 1) (r + 1) := by
  have z : ∀ i j, r ≤ i → i < d → j < c → W6 (5 * i + j) = 0 := by
    intro i j hi hid hj
    rw [hsw i j (by omega) (by omega)]
    obtain ⟨_, _, _, h3⟩ := hE
    exact h3 (swp p r i) j (swp_ge2 hp hi) (swp_in hpd (by omega) hid) hj
  have rc : W6 (5 * r + c) = W5 (5 * p + c) := by rw [hsw r c (by omega) (by omega), swp_r]
  refine ech_step hE ?_ ?_ ?_ ?_
  · intro k j hk hj
    show W7 (5 * k + j) = W5 (5 * k + j)
    rw [(hel k j (by omega) (by omega)).2 (by omega), hsw k j (by omega) (by omega), swp_id (by omega) (by omega)]
  · show W7 (5 * r + c) ≠ 0
    rw [(hel r c (by omega) hcn).2 (by omega), rc]
    exact hnz
  · intro j hj
    show W7 (5 * r + j) = 0
    rw [(hel r j (by omega) (by omega)).2 (by omega)]
    exact z r j (Nat.le_refl _) (by omega) hj
  · intro i j hi hid hj
    show W7 (5 * i + j) = 0
    rw [(hel i j hid (by omega)).1 hi]
    by_cases e : j = c
    · subst e; rw [Int.mul_comm]; omega
    · rw [z i j (by omega) hid (by omega), z r j (Nat.le_refl _) (by omega) (by omega)]; omega
theorem piv_B {W5 W6 W7 : Nat → Int} {d n c r p : Nat} (hd3 : d ≤ 3) (hn : n ≤ 4) (hcn : c < n) (hr2 : r ≤ 2) (hp : r ≤ p) (hpd : p < d) (hB : ∀ i j, i < d → j < n → inB (W5 (5 * i + j)) (rB r)) (hsw : ∀ i j, i < 4 → j < 5 → W6 (5 * i + j) = W5 (5 * swp p r i + j)) (hel : ∀ x y, x < d → y < n → (r < x → W7 (5 * x + y) = W6 (5 * x + y) * W6 (5 * r + c) - W6 (5 * x + c) * W6 (5 * r + y)) ∧ (¬ r < x → W7 (5 * x + y) = W6 (5 * x + y))) : ∀ i j, i < d → j < n → inB (W7 (5 * i + j)) (rB (r + 1)) := by
  have h6 : ∀ i j, i < d → j < n → inB (W6 (5 * i + j)) (rB r) := by
    intro i j hi hj
    rw [hsw i j (by omega) (by omega)]
    exact hB _ j (swp_in hpd (by omega) hi) hj
  intro i j hi hj
  by_cases e : r < i
  · rw [(hel i j hi hj).1 e]
    exact leB (subB (mulB (h6 i j hi hj) (h6 r c (by omega) hcn)) (mulB (h6 i c hi hcn) (h6 r j (by omega) hj))) (rB_up hr2)
  · rw [(hel i j hi hj).2 e]
    exact leB (h6 i j hi hj) (rB_le hr2)

def rm_r_rank1 : Room := { frames := 1, cells := 0, slots := 0, locals := 25 }
set_option maxHeartbeats 4000000 in
set_option maxRecDepth 100000 in
/-- a rank -/
theorem r_rank1 (l : Launch) (D : va_G) (cJ cI : ClassId) (g : Nat) (cd : Int32) (d : Nat) (ik : Int32) (rw : Int32) (ab : Int32) (be : Int32) (a0 : Int32) (a1 : Int32) (b0 : Int32) (b1 : Int32) (lm : Int32) (mm : Nat) (kf : Nat) (tb : Nat) (wk : Nat) (pl : Nat) (sp : Nat) (po : Nat) (to : Nat) (ba : Nat) (li : Nat) (Fm : Nat → Int) (W0 : Nat → Int) (hd2 : 2 ≤ d) (hd3 : d ≤ 3) (hF : ∀ k, k < 16 → inB (Fm k) 20) (sz : Nat) : xMi l y_M_rank (Cond.code y_M_rank b_M_rank 10 (some .int) :: tW) rm_r_rank1 [.ref g, .int (nI 1)] D vwC [(cJ, .long), (cI, .int)] sz [(g, .inr (2, [.int cd, .int (nI d), .ref mm, .int ik, .ref kf, .ref tb, .int rw, .ref wk, .int ab, .int be, .ref pl, .ref sp, .int a0, .int a1, .int b0, .int b1, .ref po, .ref to, .ref ba, .ref li, .int lm])), (mm, IA cI 16 Fm), (wk, LA cJ 20 W0)] (fun (rv : Int32) (uo : Nat × (Nat → Int)) => rv = nI uo.1 ∧ (rkP (rkF Fm d) d (d + 1) uo.1)) (fun (uo : Nat × (Nat → Int)) => [(g, .inr (2, [.int cd, .int (nI d), .ref mm, .int ik, .ref kf, .ref tb, .int rw, .ref wk, .int ab, .int be, .ref pl, .ref sp, .int a0, .int a1, .int b0, .int b1, .ref po, .ref to, .ref ba, .ref li, .int lm])), (mm, IA cI 16 Fm), (wk, LA cJ 20 uo.2)]) 0 0 := by
  refine xoi (cc := b_M_rank) (maxL := 10) (by decide) rfl (Nat.le_of_ble_eq_true rfl) ?_
  intro p e s m args below meth c Q A hx hb hml hts hown hN hA hS hP hK hD hret ls hl
  have hl : lv_has ls 10 [(0, .ref g), (1, .int (nI 1))] := hl
  obtain ⟨H, hH⟩ : ∃ z, z = s.heap := ⟨_, rfl⟩
  obtain ⟨locs, hlc⟩ : ∃ z : List Loc, z = [] := ⟨_, rfl⟩
  rw [← hH] at hP
  have hS : va_S A s.heap H locs := by rw [hH, hlc]; exact hS
  have key : W p l e rm_r_rank1 s m args below meth c H locs 0 0 Q (F0 m 0 ls []) := by
    refine lv_iload_n hx hb d_M_rank_0 rfl (lv_at hl 1 rfl) ?_
    refine xz_eq (tgt := 13) (X := (1 : Nat)) hx hb (nI_toInt (by omega)) d_M_rank_1 (by decide) (fun c1_0 => absurd c1_0 (by omega)) (fun c1_0 => ?_)
    refine lv_aload_n hx hb d_M_rank_4 rfl (lv_at hl 0 rfl) ?_
    refine va_get (D := D) (ci := 2) (v := .int (nI d)) (C := R_M) (T := F_M) (N := 21) hx hb hts iw_M hown hK hP 0 rfl rfl 1 (by decide) (hts _ tw_388) (fun _ h9 => h9) rfl d_M_rank_5 ?_
    refine lv_iconst (v := nI 1) hx hb d_M_rank_8 (by decide) ?_
    refine xn_add hx hb d_M_rank_9 ?_
    refine lv_goto (tgt := 17) hx hb d_M_rank_10 (by decide) ?_
    refine lv_istore_n (lv' := [(2, .int (nI (d + 1))), (0, .ref g), (1, .int (nI 1))]) hx hb d_M_rank_17 rfl hl (by decide) rfl (fun ls hl => ?_)
    refine lv_iconst (v := nI 0) hx hb d_M_rank_18 (by decide) ?_
    refine lv_istore_n (lv' := [(3, .int (nI 0)), (2, .int (nI (d + 1))), (0, .ref g), (1, .int (nI 1))]) hx hb d_M_rank_19 rfl hl (by decide) rfl (fun ls hl => ?_)
    have lp_20 : ∀ (n_20 : Nat) (i : Nat) (W3 : Nat → Int) (H : Heap) (locs : List Loc) (ls : Array Slot), (i ≤ d) → (∀ x y, x < i → y < d + 1 → W3 (5 * x + y) = rkF Fm d x y) → (d - i) < n_20 → va_P D vwC [(g, .inr (2, [.int cd, .int (nI d), .ref mm, .int ik, .ref kf, .ref tb, .int rw, .ref wk, .int ab, .int be, .ref pl, .ref sp, .int a0, .int a1, .int b0, .int b1, .ref po, .ref to, .ref ba, .ref li, .int lm])), (mm, IA cI 16 Fm), (wk, LA cJ 20 W3)] H → va_D A [(g, .inr (2, [.int cd, .int (nI d), .ref mm, .int ik, .ref kf, .ref tb, .int rw, .ref wk, .int ab, .int be, .ref pl, .ref sp, .int a0, .int a1, .int b0, .int b1, .ref po, .ref to, .ref ba, .ref li, .int lm])), (mm, IA cI 16 Fm), (wk, LA cJ 20 W3)] → va_S A s.heap H locs → lv_has ls 10 [(0, .ref g), (1, .int (nI 1)), (2, .int (nI (d + 1))), (3, .int (nI i))] → W p l e rm_r_rank1 s m args below meth c H locs 0 0 Q (F0 m 20 ls []) := by
      intro n_20
      induction n_20 with
      | zero => intro i W3 H locs ls hi h1 hn_20; exact absurd hn_20 (Nat.not_lt_zero _)
      | succ n_20 ih_20 =>
        intro i W3 H locs ls hi h1 hn_20 hP hD hS hl
        refine lv_iload_n hx hb d_M_rank_20 rfl (lv_at hl 3 rfl) ?_
        refine lv_aload_n hx hb d_M_rank_21 rfl (lv_at hl 0 rfl) ?_
        refine va_get (D := D) (ci := 2) (v := .int (nI d)) (C := R_M) (T := F_M) (N := 21) hx hb hts iw_M hown hK hP 0 rfl rfl 1 (by decide) (hts _ tw_388) (fun _ h9 => h9) rfl d_M_rank_22 ?_
        refine xn_ge (tgt := 99) hx hb (by omega) (by omega) d_M_rank_25 (by decide) (fun c25_1 => ?_) (fun c25_1 => ?_)
        · skip
          refine lv_iconst (v := nI 0) hx hb d_M_rank_99 (by decide) ?_
          refine lv_istore_n (lv' := [(3, .int (nI 0)), (0, .ref g), (1, .int (nI 1)), (2, .int (nI (d + 1)))]) hx hb d_M_rank_100 rfl hl (by decide) rfl (fun ls hl => ?_)
          refine lv_iconst (v := nI 0) hx hb d_M_rank_101 (by decide) ?_
          refine lv_istore (lv' := [(4, .int (nI 0)), (3, .int (nI 0)), (0, .ref g), (1, .int (nI 1)), (2, .int (nI (d + 1)))]) hx hb d_M_rank_102 hl (by decide) rfl (fun ls hl => ?_)
          have lp_104 : ∀ (n_104 : Nat) (co : Nat) (r : Nat) (W5 : Nat → Int) (H : Heap) (locs : List Loc) (ls : Array Slot), (co ≤ d + 1) → (r ≤ d) → (∀ i j, i < d → j < d + 1 → inB (W5 (5 * i + j)) (rB r)) → (ech (mw W5) d co r) → (zEq d (d + 1) (mw W5) (rkF Fm d)) → ((d + 1) - co) < n_104 → va_P D vwC [(g, .inr (2, [.int cd, .int (nI d), .ref mm, .int ik, .ref kf, .ref tb, .int rw, .ref wk, .int ab, .int be, .ref pl, .ref sp, .int a0, .int a1, .int b0, .int b1, .ref po, .ref to, .ref ba, .ref li, .int lm])), (mm, IA cI 16 Fm), (wk, LA cJ 20 W5)] H → va_D A [(g, .inr (2, [.int cd, .int (nI d), .ref mm, .int ik, .ref kf, .ref tb, .int rw, .ref wk, .int ab, .int be, .ref pl, .ref sp, .int a0, .int a1, .int b0, .int b1, .ref po, .ref to, .ref ba, .ref li, .int lm])), (mm, IA cI 16 Fm), (wk, LA cJ 20 W5)] → va_S A s.heap H locs → lv_has ls 10 [(0, .ref g), (1, .int (nI 1)), (2, .int (nI (d + 1))), (3, .int (nI r)), (4, .int (nI co))] → W p l e rm_r_rank1 s m args below meth c H locs 0 0 Q (F0 m 104 ls []) := by
            intro n_104
            induction n_104 with
            | zero => intro co r W5 H locs ls hc hr hBd hE hZ hn_104; exact absurd hn_104 (Nat.not_lt_zero _)
            | succ n_104 ih_104 =>
              intro co r W5 H locs ls hc hr hBd hE hZ hn_104 hP hD hS hl
              refine lv_iload hx hb d_M_rank_104 (lv_at hl 4 rfl) ?_
              refine lv_iload_n hx hb d_M_rank_106 rfl (lv_at hl 2 rfl) ?_
              refine xn_ge (tgt := 281) hx hb (by omega) (by omega) d_M_rank_107 (by decide) (fun c107_2 => ?_) (fun c107_2 => ?_)
              · skip
                refine lv_iload_n hx hb d_M_rank_281 rfl (lv_at hl 3 rfl) ?_
                exact hret H locs _ ls (nI r) (r, W5) d_M_rank_282 (by first | exact ⟨rfl, rkP_congr (rk_fin hd2 hd3 hr hc hE (by omega)) hZ⟩ | (dsimp only; exact ⟨rfl, rkP_congr (rk_fin hd2 hd3 hr hc hE (by omega)) hZ⟩)) hP hD hS
              · skip
                refine lv_iload_n hx hb d_M_rank_110 rfl (lv_at hl 3 rfl) ?_
                refine lv_aload_n hx hb d_M_rank_111 rfl (lv_at hl 0 rfl) ?_
                refine va_get (D := D) (ci := 2) (v := .int (nI d)) (C := R_M) (T := F_M) (N := 21) hx hb hts iw_M hown hK hP 0 rfl rfl 1 (by decide) (hts _ tw_388) (fun _ h9 => h9) rfl d_M_rank_112 ?_
                refine xn_ge (tgt := 281) hx hb (by omega) (by omega) d_M_rank_115 (by decide) (fun c115_3 => ?_) (fun c115_3 => ?_)
                · skip
                  refine lv_iload_n hx hb d_M_rank_281 rfl (lv_at hl 3 rfl) ?_
                  exact hret H locs _ ls (nI r) (r, W5) d_M_rank_282 (by first | exact ⟨rfl, rkP_congr (rk_fin hd2 hd3 hr hc hE (by omega)) hZ⟩ | (dsimp only; exact ⟨rfl, rkP_congr (rk_fin hd2 hd3 hr hc hE (by omega)) hZ⟩)) hP hD hS
                · skip
                  refine lv_iload_n hx hb d_M_rank_118 rfl (lv_at hl 3 rfl) ?_
                  refine lv_istore (lv' := [(5, .int (nI r)), (0, .ref g), (1, .int (nI 1)), (2, .int (nI (d + 1))), (3, .int (nI r)), (4, .int (nI co))]) hx hb d_M_rank_119 hl (by decide) rfl (fun ls hl => ?_)
                  have lp_121 : ∀ (n_121 : Nat) (pp : Nat) (H : Heap) (locs : List Loc) (ls : Array Slot), (r ≤ pp) → (pp ≤ d) → (∀ x, r ≤ x → x < pp → W5 (5 * x + co) = 0) → (d - pp) < n_121 → va_P D vwC [(g, .inr (2, [.int cd, .int (nI d), .ref mm, .int ik, .ref kf, .ref tb, .int rw, .ref wk, .int ab, .int be, .ref pl, .ref sp, .int a0, .int a1, .int b0, .int b1, .ref po, .ref to, .ref ba, .ref li, .int lm])), (mm, IA cI 16 Fm), (wk, LA cJ 20 W5)] H → va_D A [(g, .inr (2, [.int cd, .int (nI d), .ref mm, .int ik, .ref kf, .ref tb, .int rw, .ref wk, .int ab, .int be, .ref pl, .ref sp, .int a0, .int a1, .int b0, .int b1, .ref po, .ref to, .ref ba, .ref li, .int lm])), (mm, IA cI 16 Fm), (wk, LA cJ 20 W5)] → va_S A s.heap H locs → lv_has ls 10 [(0, .ref g), (1, .int (nI 1)), (2, .int (nI (d + 1))), (3, .int (nI r)), (4, .int (nI co)), (5, .int (nI pp))] → W p l e rm_r_rank1 s m args below meth c H locs 0 0 Q (F0 m 121 ls []) := by
                    intro n_121
                    induction n_121 with
                    | zero => intro pp H locs ls hp1 hp2 hp0 hn_121; exact absurd hn_121 (Nat.not_lt_zero _)
                    | succ n_121 ih_121 =>
                      intro pp H locs ls hp1 hp2 hp0 hn_121 hP hD hS hl
                      refine lv_iload hx hb d_M_rank_121 (lv_at hl 5 rfl) ?_
                      refine lv_aload_n hx hb d_M_rank_123 rfl (lv_at hl 0 rfl) ?_
                      refine va_get (D := D) (ci := 2) (v := .int (nI d)) (C := R_M) (T := F_M) (N := 21) hx hb hts iw_M hown hK hP 0 rfl rfl 1 (by decide) (hts _ tw_388) (fun _ h9 => h9) rfl d_M_rank_124 ?_
                      refine xn_ge (tgt := 153) hx hb (by omega) (by omega) d_M_rank_127 (by decide) (fun c127_4 => ?_) (fun c127_4 => ?_)
                      · skip
                        refine lv_iload hx hb d_M_rank_153 (lv_at hl 5 rfl) ?_
                        refine lv_aload_n hx hb d_M_rank_155 rfl (lv_at hl 0 rfl) ?_
                        refine va_get (D := D) (ci := 2) (v := .int (nI d)) (C := R_M) (T := F_M) (N := 21) hx hb hts iw_M hown hK hP 0 rfl rfl 1 (by decide) (hts _ tw_388) (fun _ h9 => h9) rfl d_M_rank_156 ?_
                        refine xn_ne (tgt := 165) hx hb (by omega) (by omega) d_M_rank_159 (by decide) (fun c159_5 => ?_) (fun c159_5 => ?_)
                        · skip
                          have hpd : pp < d := by omega
                          have hnz : W5 (5 * pp + co) ≠ 0 := by first | omega | assumption
                          refine lv_aload_n hx hb d_M_rank_165 rfl (lv_at hl 0 rfl) ?_
                          refine lv_iload hx hb d_M_rank_166 (lv_at hl 5 rfl) ?_
                          refine lv_iload_n hx hb d_M_rank_168 rfl (lv_at hl 3 rfl) ?_
                          refine xcv (wc := [(g, .inr (2, [.int cd, .int (nI d), .ref mm, .int ik, .ref kf, .ref tb, .int rw, .ref wk, .int ab, .int be, .ref pl, .ref sp, .int a0, .int a1, .int b0, .int b1, .ref po, .ref to, .ref ba, .ref li, .int lm])), (wk, LA cJ 20 W5)]) (wr := [(mm, IA cI 16 Fm)]) hP hD hS hA [0, 2] [1] rfl rfl (by decide) (by decide) (va_runV (As := [.int (nI pp), .int (nI r)]) (rest := []) ⟨hx, hb, hml, hown, hts⟩ (r_swap l D cJ cI g cd d ik rw ab be a0 a1 b0 b1 lm mm kf tb wk pl sp po to ba li W5 pp r (by first | assumption | omega) (by first | assumption | omega) H.size) (cwV 2 hts (gV tw_503 tw_505 tws_24 tw_3 tw_506) rfl rfl rfl ⟨rfl, hd_M_swapRows⟩ ⟨Nat.le_of_ble_eq_true rfl, Nat.le_of_ble_eq_true rfl⟩) (xPreV (C := R_M) (T := F_M) (N := 21) (q0 := 0) hN hK (hP.sub (ws' := [(g, .inr (2, [.int cd, .int (nI d), .ref mm, .int ik, .ref kf, .ref tb, .int rw, .ref wk, .int ab, .int be, .ref pl, .ref sp, .int a0, .int a1, .int b0, .int b1, .ref po, .ref to, .ref ba, .ref li, .int lm])), (wk, LA cJ 20 W5)]) [0, 2] rfl) (hD.sub (ws' := [(g, .inr (2, [.int cd, .int (nI d), .ref mm, .int ik, .ref kf, .ref tb, .int rw, .ref wk, .int ab, .int be, .ref pl, .ref sp, .int a0, .int a1, .int b0, .int b1, .ref po, .ref to, .ref ba, .ref li, .int lm])), (wk, LA cJ 20 W5)]) [0, 2] (by decide) rfl) rfl rfl) rfl rfl hl.1 rfl (lv_room (Nat.le_of_ble_eq_true rfl)) d_M_rank_169 ⟨Nat.le_of_ble_eq_true rfl, Nat.le_of_ble_eq_true rfl⟩) (fun u_8 H locs hsw hP hD hS => ?_)
                          obtain ⟨W6, rfl⟩ : ∃ z, z = u_8 := ⟨_, rfl⟩
                          try dsimp only at hsw
                          have hP : va_P D vwC [(g, .inr (2, [.int cd, .int (nI d), .ref mm, .int ik, .ref kf, .ref tb, .int rw, .ref wk, .int ab, .int be, .ref pl, .ref sp, .int a0, .int a1, .int b0, .int b1, .ref po, .ref to, .ref ba, .ref li, .int lm])), (mm, IA cI 16 Fm), (wk, LA cJ 20 W6)] H := hP.sub [1, 0, 2] rfl
                          have hD : va_D A [(g, .inr (2, [.int cd, .int (nI d), .ref mm, .int ik, .ref kf, .ref tb, .int rw, .ref wk, .int ab, .int be, .ref pl, .ref sp, .int a0, .int a1, .int b0, .int b1, .ref po, .ref to, .ref ba, .ref li, .int lm])), (mm, IA cI 16 Fm), (wk, LA cJ 20 W6)] := hD.sub [1, 0, 2] (by decide) rfl
                          refine lv_iload_n hx hb d_M_rank_172 rfl (lv_at hl 3 rfl) ?_
                          refine lv_iconst (v := nI 1) hx hb d_M_rank_173 (by decide) ?_
                          refine xn_add hx hb d_M_rank_174 ?_
                          refine lv_istore (lv' := [(6, .int (nI (r + 1))), (0, .ref g), (1, .int (nI 1)), (2, .int (nI (d + 1))), (3, .int (nI r)), (4, .int (nI co)), (5, .int (nI pp))]) hx hb d_M_rank_175 hl (by decide) rfl (fun ls hl => ?_)
                          have lp_177 : ∀ (n_177 : Nat) (i : Nat) (W7 : Nat → Int) (H : Heap) (locs : List Loc) (ls : Array Slot), (r + 1 ≤ i) → (i ≤ d) → (∀ x y, x < d → y < d + 1 → (r < x ∧ x < i → W7 (5 * x + y) = W6 (5 * x + y) * W6 (5 * r + co) - W6 (5 * x + co) * W6 (5 * r + y)) ∧ (¬ (r < x ∧ x < i) → W7 (5 * x + y) = W6 (5 * x + y))) → (zEq d (d + 1) (mw W7) (rkF Fm d)) → (d - i) < n_177 → va_P D vwC [(g, .inr (2, [.int cd, .int (nI d), .ref mm, .int ik, .ref kf, .ref tb, .int rw, .ref wk, .int ab, .int be, .ref pl, .ref sp, .int a0, .int a1, .int b0, .int b1, .ref po, .ref to, .ref ba, .ref li, .int lm])), (mm, IA cI 16 Fm), (wk, LA cJ 20 W7)] H → va_D A [(g, .inr (2, [.int cd, .int (nI d), .ref mm, .int ik, .ref kf, .ref tb, .int rw, .ref wk, .int ab, .int be, .ref pl, .ref sp, .int a0, .int a1, .int b0, .int b1, .ref po, .ref to, .ref ba, .ref li, .int lm])), (mm, IA cI 16 Fm), (wk, LA cJ 20 W7)] → va_S A s.heap H locs → lv_has ls 10 [(0, .ref g), (1, .int (nI 1)), (2, .int (nI (d + 1))), (3, .int (nI r)), (4, .int (nI co)), (6, .int (nI i))] → W p l e rm_r_rank1 s m args below meth c H locs 0 0 Q (F0 m 177 ls []) := by
                            intro n_177
                            induction n_177 with
                            | zero => intro i W7 H locs ls hi1 hi2 hel hz7 hn_177; exact absurd hn_177 (Nat.not_lt_zero _)
                            | succ n_177 ih_177 =>
                              intro i W7 H locs ls hi1 hi2 hel hz7 hn_177 hP hD hS hl
                              refine lv_iload hx hb d_M_rank_177 (lv_at hl 5 rfl) ?_
                              refine lv_aload_n hx hb d_M_rank_179 rfl (lv_at hl 0 rfl) ?_
                              refine va_get (D := D) (ci := 2) (v := .int (nI d)) (C := R_M) (T := F_M) (N := 21) hx hb hts iw_M hown hK hP 0 rfl rfl 1 (by decide) (hts _ tw_388) (fun _ h9 => h9) rfl d_M_rank_180 ?_
                              refine xn_ge (tgt := 272) hx hb (by omega) (by omega) d_M_rank_183 (by decide) (fun c183_8 => ?_) (fun c183_8 => ?_)
                              · skip
                                refine lv_iinc (v := nI (r + 1)) (lv' := [(3, .int (nI (r + 1))), (0, .ref g), (1, .int (nI 1)), (2, .int (nI (d + 1))), (4, .int (nI co)), (6, .int (nI i))]) hx hb d_M_rank_272 hl (k := 3) rfl (nI_add _ _) (by decide) rfl (fun ls hl => ?_)
                                refine lv_iinc (v := nI (co + 1)) (lv' := [(4, .int (nI (co + 1))), (3, .int (nI (r + 1))), (0, .ref g), (1, .int (nI 1)), (2, .int (nI (d + 1))), (6, .int (nI i))]) hx hb d_M_rank_275 hl (k := 4) rfl (nI_add _ _) (by decide) rfl (fun ls hl => ?_)
                                refine lv_goto (tgt := 104) hx hb d_M_rank_278 (by decide) ?_
                                have hel9 : ∀ x y, x < d → y < d + 1 → (r < x → W7 (5 * x + y) = W6 (5 * x + y) * W6 (5 * r + co) - W6 (5 * x + co) * W6 (5 * r + y)) ∧ (¬ r < x → W7 (5 * x + y) = W6 (5 * x + y)) := fun x y hx2 hy2 => ⟨fun q => (hel x y hx2 hy2).1 ⟨q, by omega⟩, fun q => (hel x y hx2 hy2).2 (fun z => q z.1)⟩
                                exact ih_104 (co + 1) (r + 1) W7 H locs ls (by omega) (by omega) (piv_B (p := pp) (d := d) hd3 (by omega) (show co < d + 1 by omega) (by omega) hp1 (by omega) hBd hsw hel9) (ech_piv (p := pp) (n := d + 1) hd3 (by omega) (by omega) hE hp1 (by omega) hsw hel9 hnz) hz7 (by omega) hP hD hS (lv_sub hl [2, 3, 4, 1, 0] rfl)
                              · skip
                                refine lv_aload_n hx hb d_M_rank_186 rfl (lv_at hl 0 rfl) ?_
                                refine va_get (D := D) (ci := 2) (v := .ref wk) (C := R_M) (T := F_M) (N := 21) hx hb hts iw_M hown hK hP 0 rfl rfl 7 (by decide) (hts _ tw_394) (fun _ h9 => h9) rfl d_M_rank_187 ?_
                                refine lv_iconst (v := nI 5) hx hb d_M_rank_190 (by decide) ?_
                                refine lv_iload hx hb d_M_rank_191 (lv_at hl 5 rfl) ?_
                                refine xn_mul hx hb d_M_rank_193 ?_
                                refine lv_iload hx hb d_M_rank_194 (lv_at hl 4 rfl) ?_
                                refine xn_add hx hb d_M_rank_196 ?_
                                refine xl_ald hx hb hK hP 2 0 rfl rfl (k := (5 * i) + co) (by omega) (by first | decide | omega) d_M_rank_197 ?_
                                refine lv_lstore (lv' := [(7, .long (lI (W7 ((5 * i) + co)))), (0, .ref g), (1, .int (nI 1)), (2, .int (nI (d + 1))), (3, .int (nI r)), (4, .int (nI co)), (6, .int (nI i))]) hx hb d_M_rank_198 hl (by decide) rfl (fun ls hl => ?_)
                                refine lv_iconst (v := nI 0) hx hb d_M_rank_200 (by decide) ?_
                                refine lv_istore (lv' := [(9, .int (nI 0)), (7, .long (lI (W7 ((5 * i) + co)))), (0, .ref g), (1, .int (nI 1)), (2, .int (nI (d + 1))), (3, .int (nI r)), (4, .int (nI co)), (6, .int (nI i))]) hx hb d_M_rank_201 hl (by decide) rfl (fun ls hl => ?_)
                                have lp_203 : ∀ (n_203 : Nat) (j : Nat) (W8 : Nat → Int) (H : Heap) (locs : List Loc) (ls : Array Slot), (j ≤ d + 1) → (∀ x y, x < d → y < d + 1 → ((x = i ∧ y < j) → W8 (5 * x + y) = W7 (5 * x + y) * W7 (5 * r + co) - W7 (5 * i + co) * W7 (5 * r + y)) ∧ (¬ (x = i ∧ y < j) → W8 (5 * x + y) = W7 (5 * x + y))) → ((d + 1) - j) < n_203 → va_P D vwC [(g, .inr (2, [.int cd, .int (nI d), .ref mm, .int ik, .ref kf, .ref tb, .int rw, .ref wk, .int ab, .int be, .ref pl, .ref sp, .int a0, .int a1, .int b0, .int b1, .ref po, .ref to, .ref ba, .ref li, .int lm])), (mm, IA cI 16 Fm), (wk, LA cJ 20 W8)] H → va_D A [(g, .inr (2, [.int cd, .int (nI d), .ref mm, .int ik, .ref kf, .ref tb, .int rw, .ref wk, .int ab, .int be, .ref pl, .ref sp, .int a0, .int a1, .int b0, .int b1, .ref po, .ref to, .ref ba, .ref li, .int lm])), (mm, IA cI 16 Fm), (wk, LA cJ 20 W8)] → va_S A s.heap H locs → lv_has ls 10 [(0, .ref g), (1, .int (nI 1)), (2, .int (nI (d + 1))), (3, .int (nI r)), (4, .int (nI co)), (6, .int (nI i)), (7, .long (lI (W7 (5 * i + co)))), (9, .int (nI j))] → W p l e rm_r_rank1 s m args below meth c H locs 0 0 Q (F0 m 203 ls []) := by
                                  intro n_203
                                  induction n_203 with
                                  | zero => intro j W8 H locs ls hj hin hn_203; exact absurd hn_203 (Nat.not_lt_zero _)
                                  | succ n_203 ih_203 =>
                                    intro j W8 H locs ls hj hin hn_203 hP hD hS hl
                                    refine lv_iload hx hb d_M_rank_203 (lv_at hl 7 rfl) ?_
                                    refine lv_iload_n hx hb d_M_rank_205 rfl (lv_at hl 2 rfl) ?_
                                    refine xn_ge (tgt := 266) hx hb (by omega) (by omega) d_M_rank_206 (by decide) (fun c206_9 => ?_) (fun c206_9 => ?_)
                                    · skip
                                      refine lv_iinc (v := nI (i + 1)) (lv' := [(6, .int (nI (i + 1))), (0, .ref g), (1, .int (nI 1)), (2, .int (nI (d + 1))), (3, .int (nI r)), (4, .int (nI co)), (7, .long (lI (W7 (5 * i + co)))), (9, .int (nI j))]) hx hb d_M_rank_266 hl (k := 5) rfl (nI_add _ _) (by decide) rfl (fun ls hl => ?_)
                                      refine lv_goto (tgt := 177) hx hb d_M_rank_269 (by decide) ?_
                                      have hj9 : j = d + 1 := by omega
                                      have hrc : W7 (5 * r + co) ≠ 0 := by rw [(hel r co (by omega) (by omega)).2 (by omega), hsw r co (by omega) (by omega), swp_r]; exact hnz
                                      have hz8 : zEq d (d + 1) (mw W8) (mw W7) := z_op (i0 := i) (r0 := r) (p := W7 (5 * r + co)) (f := W7 (5 * i + co)) hd3 (by omega) (by omega) (by omega) hrc (fun y hy2 => (hin i y (by omega) hy2).1 ⟨rfl, by omega⟩) (fun x y hx2 hne hy2 => (hin x y hx2 hy2).2 (fun z => hne z.1))
                                      exact ih_177 (i + 1) W8 H locs ls (by omega) (by omega) (fun x y hx2 hy2 => by by_cases z : x = i; rw [z, (hin i y (by omega) hy2).1 ⟨rfl, by omega⟩, (hel i y (by omega) hy2).2 (by omega), (hel r co (by omega) (by omega)).2 (by omega), (hel i co (by omega) (by omega)).2 (by omega), (hel r y (by omega) hy2).2 (by omega)]; exact ⟨fun _ => rfl, fun q => absurd ⟨by omega, by omega⟩ q⟩; rw [(hin x y hx2 hy2).2 (fun q => z q.1)]; exact ⟨fun q => (hel x y hx2 hy2).1 (by omega), fun q => (hel x y hx2 hy2).2 (by omega)⟩) (zEq_trans hz8 hz7) (by omega) hP hD hS (lv_sub hl [1, 2, 3, 4, 5, 0] rfl)
                                    · skip
                                      refine lv_aload_n hx hb d_M_rank_209 rfl (lv_at hl 0 rfl) ?_
                                      refine va_get (D := D) (ci := 2) (v := .ref wk) (C := R_M) (T := F_M) (N := 21) hx hb hts iw_M hown hK hP 0 rfl rfl 7 (by decide) (hts _ tw_394) (fun _ h9 => h9) rfl d_M_rank_210 ?_
                                      refine lv_iconst (v := nI 5) hx hb d_M_rank_213 (by decide) ?_
                                      refine lv_iload hx hb d_M_rank_214 (lv_at hl 5 rfl) ?_
                                      refine xn_mul hx hb d_M_rank_216 ?_
                                      refine lv_iload hx hb d_M_rank_217 (lv_at hl 7 rfl) ?_
                                      refine xn_add hx hb d_M_rank_219 ?_
                                      refine lv_aload_n hx hb d_M_rank_220 rfl (lv_at hl 0 rfl) ?_
                                      refine va_get (D := D) (ci := 2) (v := .ref wk) (C := R_M) (T := F_M) (N := 21) hx hb hts iw_M hown hK hP 0 rfl rfl 7 (by decide) (hts _ tw_394) (fun _ h9 => h9) rfl d_M_rank_221 ?_
                                      refine lv_iconst (v := nI 5) hx hb d_M_rank_224 (by decide) ?_
                                      refine lv_iload hx hb d_M_rank_225 (lv_at hl 5 rfl) ?_
                                      refine xn_mul hx hb d_M_rank_227 ?_
                                      refine lv_iload hx hb d_M_rank_228 (lv_at hl 7 rfl) ?_
                                      refine xn_add hx hb d_M_rank_230 ?_
                                      refine xl_ald hx hb hK hP 2 0 rfl rfl (k := (5 * i) + j) (by omega) (by first | decide | omega) d_M_rank_231 ?_
                                      refine lv_aload_n hx hb d_M_rank_232 rfl (lv_at hl 0 rfl) ?_
                                      refine va_get (D := D) (ci := 2) (v := .ref wk) (C := R_M) (T := F_M) (N := 21) hx hb hts iw_M hown hK hP 0 rfl rfl 7 (by decide) (hts _ tw_394) (fun _ h9 => h9) rfl d_M_rank_233 ?_
                                      refine lv_iconst (v := nI 5) hx hb d_M_rank_236 (by decide) ?_
                                      refine lv_iload_n hx hb d_M_rank_237 rfl (lv_at hl 3 rfl) ?_
                                      refine xn_mul hx hb d_M_rank_238 ?_
                                      refine lv_iload hx hb d_M_rank_239 (lv_at hl 4 rfl) ?_
                                      refine xn_add hx hb d_M_rank_241 ?_
                                      refine xl_ald hx hb hK hP 2 0 rfl rfl (k := (5 * r) + co) (by omega) (by first | decide | omega) d_M_rank_242 ?_
                                      refine xl_mul hx hb d_M_rank_243 ?_
                                      refine lv_lload hx hb d_M_rank_244 (lv_at hl 6 rfl) ?_
                                      refine lv_aload_n hx hb d_M_rank_246 rfl (lv_at hl 0 rfl) ?_
                                      refine va_get (D := D) (ci := 2) (v := .ref wk) (C := R_M) (T := F_M) (N := 21) hx hb hts iw_M hown hK hP 0 rfl rfl 7 (by decide) (hts _ tw_394) (fun _ h9 => h9) rfl d_M_rank_247 ?_
                                      refine lv_iconst (v := nI 5) hx hb d_M_rank_250 (by decide) ?_
                                      refine lv_iload_n hx hb d_M_rank_251 rfl (lv_at hl 3 rfl) ?_
                                      refine xn_mul hx hb d_M_rank_252 ?_
                                      refine lv_iload hx hb d_M_rank_253 (lv_at hl 7 rfl) ?_
                                      refine xn_add hx hb d_M_rank_255 ?_
                                      refine xl_ald hx hb hK hP 2 0 rfl rfl (k := (5 * r) + j) (by omega) (by first | decide | omega) d_M_rank_256 ?_
                                      refine xl_mul hx hb d_M_rank_257 ?_
                                      refine xl_sub hx hb d_M_rank_258 ?_
                                      refine xl_ast hx hb hK hP hD hS 2 0 rfl rfl (k := (5 * i) + j) (by omega) (by first | decide | omega) d_M_rank_259 (fun H locs hP hD hS => ?_)
                                      have hP : va_P D vwC [(g, .inr (2, [.int cd, .int (nI d), .ref mm, .int ik, .ref kf, .ref tb, .int rw, .ref wk, .int ab, .int be, .ref pl, .ref sp, .int a0, .int a1, .int b0, .int b1, .ref po, .ref to, .ref ba, .ref li, .int lm])), (mm, IA cI 16 Fm), (wk, LA cJ 20 (upZ W8 ((5 * i) + j) (((W8 ((5 * i) + j)) * (W8 ((5 * r) + co))) - ((W7 (5 * i + co)) * (W8 ((5 * r) + j))))))] H := hP
                                      have hD : va_D A [(g, .inr (2, [.int cd, .int (nI d), .ref mm, .int ik, .ref kf, .ref tb, .int rw, .ref wk, .int ab, .int be, .ref pl, .ref sp, .int a0, .int a1, .int b0, .int b1, .ref po, .ref to, .ref ba, .ref li, .int lm])), (mm, IA cI 16 Fm), (wk, LA cJ 20 (upZ W8 ((5 * i) + j) (((W8 ((5 * i) + j)) * (W8 ((5 * r) + co))) - ((W7 (5 * i + co)) * (W8 ((5 * r) + j))))))] := hD
                                      refine lv_iinc (v := nI (j + 1)) (lv' := [(9, .int (nI (j + 1))), (0, .ref g), (1, .int (nI 1)), (2, .int (nI (d + 1))), (3, .int (nI r)), (4, .int (nI co)), (6, .int (nI i)), (7, .long (lI (W7 (5 * i + co))))]) hx hb d_M_rank_260 hl (k := 7) rfl (nI_add _ _) (by decide) rfl (fun ls hl => ?_)
                                      refine lv_goto (tgt := 203) hx hb d_M_rank_263 (by decide) ?_
                                      exact ih_203 (j + 1) (upZ W8 ((5 * i) + j) (((W8 ((5 * i) + j)) * (W8 ((5 * r) + co))) - ((W7 (5 * i + co)) * (W8 ((5 * r) + j))))) H locs ls (by omega) (fun x y hx2 hy2 => by by_cases z : x = i ∧ y = j; obtain ⟨rfl, rfl⟩ := z; rw [upZ_at, (hin x y hx2 hy2).2 (by omega), (hin r co (by omega) (by omega)).2 (by omega), (hin r y (by omega) hy2).2 (by omega)]; exact ⟨fun _ => rfl, fun q => absurd ⟨rfl, by omega⟩ q⟩; rw [upZ_ne (k := 5 * i + j) (j := 5 * x + y) _ _ (by omega)]; exact ⟨fun q => (hin x y hx2 hy2).1 (by omega), fun q => (hin x y hx2 hy2).2 (by omega)⟩) (by omega) hP hD hS (lv_sub hl [1, 2, 3, 4, 5, 6, 7, 0] rfl)
                                exact lp_203 (((d + 1) - 0) + 1) 0 W7 H locs ls (Nat.zero_le _) (fun x y _ _ => ⟨fun q => absurd q.2 (Nat.not_lt_zero _), fun _ => rfl⟩) (by omega) hP hD hS (lv_sub hl [2, 3, 4, 5, 6, 7, 1, 0] rfl)
                          exact lp_177 ((d - (r + 1)) + 1) (r + 1) W6 H locs ls (Nat.le_refl _) (by omega) (fun x y _ _ => ⟨fun q => absurd q.2 (by omega), fun _ => rfl⟩) (zEq_trans (z_swap (M := mw W5) (a := pp) (b := r) hd3 hpd (by omega) (fun x y hx2 hy2 => hsw x y (by omega) (by omega))) hZ) (by omega) hP hD hS (lv_sub hl [1, 2, 3, 4, 5, 0] rfl)
                        · skip
                          refine lv_goto (tgt := 275) hx hb d_M_rank_162 (by decide) ?_
                          refine lv_iinc (v := nI (co + 1)) (lv' := [(4, .int (nI (co + 1))), (0, .ref g), (1, .int (nI 1)), (2, .int (nI (d + 1))), (3, .int (nI r)), (5, .int (nI pp))]) hx hb d_M_rank_275 hl (k := 4) rfl (nI_add _ _) (by decide) rfl (fun ls hl => ?_)
                          refine lv_goto (tgt := 104) hx hb d_M_rank_278 (by decide) ?_
                          exact ih_104 (co + 1) r W5 H locs ls (by omega) hr hBd (ech_skip hE (fun x q1 q2 => hp0 x q1 (by omega))) hZ (by omega) hP hD hS (lv_sub hl [1, 2, 3, 4, 0] rfl)
                      · skip
                        refine lv_aload_n hx hb d_M_rank_130 rfl (lv_at hl 0 rfl) ?_
                        refine va_get (D := D) (ci := 2) (v := .ref wk) (C := R_M) (T := F_M) (N := 21) hx hb hts iw_M hown hK hP 0 rfl rfl 7 (by decide) (hts _ tw_394) (fun _ h9 => h9) rfl d_M_rank_131 ?_
                        refine lv_iconst (v := nI 5) hx hb d_M_rank_134 (by decide) ?_
                        refine lv_iload hx hb d_M_rank_135 (lv_at hl 5 rfl) ?_
                        refine xn_mul hx hb d_M_rank_137 ?_
                        refine lv_iload hx hb d_M_rank_138 (lv_at hl 4 rfl) ?_
                        refine xn_add hx hb d_M_rank_140 ?_
                        refine xl_ald hx hb hK hP 2 0 rfl rfl (k := (5 * pp) + co) (by omega) (by first | decide | omega) d_M_rank_141 ?_
                        refine lv_lconst (v := lI 0) hx hb d_M_rank_142 (by decide) ?_
                        refine xl_ne (tgt := 153) hx hb (lB_of (hBd _ _ (by omega) (by omega)) (rB_l r)) ⟨by decide, by decide⟩ d_M_rank_143 d_M_rank_144 (by decide) (fun c144_10 => ?_) (fun c144_10 => ?_)
                        · skip
                          refine lv_iload hx hb d_M_rank_153 (lv_at hl 5 rfl) ?_
                          refine lv_aload_n hx hb d_M_rank_155 rfl (lv_at hl 0 rfl) ?_
                          refine va_get (D := D) (ci := 2) (v := .int (nI d)) (C := R_M) (T := F_M) (N := 21) hx hb hts iw_M hown hK hP 0 rfl rfl 1 (by decide) (hts _ tw_388) (fun _ h9 => h9) rfl d_M_rank_156 ?_
                          refine xn_ne (tgt := 165) hx hb (by omega) (by omega) d_M_rank_159 (by decide) (fun c159_11 => ?_) (fun c159_11 => ?_)
                          · skip
                            have hpd : pp < d := by omega
                            have hnz : W5 (5 * pp + co) ≠ 0 := by first | omega | assumption
                            refine lv_aload_n hx hb d_M_rank_165 rfl (lv_at hl 0 rfl) ?_
                            refine lv_iload hx hb d_M_rank_166 (lv_at hl 5 rfl) ?_
                            refine lv_iload_n hx hb d_M_rank_168 rfl (lv_at hl 3 rfl) ?_
                            refine xcv (wc := [(g, .inr (2, [.int cd, .int (nI d), .ref mm, .int ik, .ref kf, .ref tb, .int rw, .ref wk, .int ab, .int be, .ref pl, .ref sp, .int a0, .int a1, .int b0, .int b1, .ref po, .ref to, .ref ba, .ref li, .int lm])), (wk, LA cJ 20 W5)]) (wr := [(mm, IA cI 16 Fm)]) hP hD hS hA [0, 2] [1] rfl rfl (by decide) (by decide) (va_runV (As := [.int (nI pp), .int (nI r)]) (rest := []) ⟨hx, hb, hml, hown, hts⟩ (r_swap l D cJ cI g cd d ik rw ab be a0 a1 b0 b1 lm mm kf tb wk pl sp po to ba li W5 pp r (by first | assumption | omega) (by first | assumption | omega) H.size) (cwV 2 hts (gV tw_503 tw_505 tws_24 tw_3 tw_506) rfl rfl rfl ⟨rfl, hd_M_swapRows⟩ ⟨Nat.le_of_ble_eq_true rfl, Nat.le_of_ble_eq_true rfl⟩) (xPreV (C := R_M) (T := F_M) (N := 21) (q0 := 0) hN hK (hP.sub (ws' := [(g, .inr (2, [.int cd, .int (nI d), .ref mm, .int ik, .ref kf, .ref tb, .int rw, .ref wk, .int ab, .int be, .ref pl, .ref sp, .int a0, .int a1, .int b0, .int b1, .ref po, .ref to, .ref ba, .ref li, .int lm])), (wk, LA cJ 20 W5)]) [0, 2] rfl) (hD.sub (ws' := [(g, .inr (2, [.int cd, .int (nI d), .ref mm, .int ik, .ref kf, .ref tb, .int rw, .ref wk, .int ab, .int be, .ref pl, .ref sp, .int a0, .int a1, .int b0, .int b1, .ref po, .ref to, .ref ba, .ref li, .int lm])), (wk, LA cJ 20 W5)]) [0, 2] (by decide) rfl) rfl rfl) rfl rfl hl.1 rfl (lv_room (Nat.le_of_ble_eq_true rfl)) d_M_rank_169 ⟨Nat.le_of_ble_eq_true rfl, Nat.le_of_ble_eq_true rfl⟩) (fun u_14 H locs hsw hP hD hS => ?_)
                            obtain ⟨W6, rfl⟩ : ∃ z, z = u_14 := ⟨_, rfl⟩
                            try dsimp only at hsw
                            have hP : va_P D vwC [(g, .inr (2, [.int cd, .int (nI d), .ref mm, .int ik, .ref kf, .ref tb, .int rw, .ref wk, .int ab, .int be, .ref pl, .ref sp, .int a0, .int a1, .int b0, .int b1, .ref po, .ref to, .ref ba, .ref li, .int lm])), (mm, IA cI 16 Fm), (wk, LA cJ 20 W6)] H := hP.sub [1, 0, 2] rfl
                            have hD : va_D A [(g, .inr (2, [.int cd, .int (nI d), .ref mm, .int ik, .ref kf, .ref tb, .int rw, .ref wk, .int ab, .int be, .ref pl, .ref sp, .int a0, .int a1, .int b0, .int b1, .ref po, .ref to, .ref ba, .ref li, .int lm])), (mm, IA cI 16 Fm), (wk, LA cJ 20 W6)] := hD.sub [1, 0, 2] (by decide) rfl
                            refine lv_iload_n hx hb d_M_rank_172 rfl (lv_at hl 3 rfl) ?_
                            refine lv_iconst (v := nI 1) hx hb d_M_rank_173 (by decide) ?_
                            refine xn_add hx hb d_M_rank_174 ?_
                            refine lv_istore (lv' := [(6, .int (nI (r + 1))), (0, .ref g), (1, .int (nI 1)), (2, .int (nI (d + 1))), (3, .int (nI r)), (4, .int (nI co)), (5, .int (nI pp))]) hx hb d_M_rank_175 hl (by decide) rfl (fun ls hl => ?_)
                            have lp_177 : ∀ (n_177 : Nat) (i : Nat) (W7 : Nat → Int) (H : Heap) (locs : List Loc) (ls : Array Slot), (r + 1 ≤ i) → (i ≤ d) → (∀ x y, x < d → y < d + 1 → (r < x ∧ x < i → W7 (5 * x + y) = W6 (5 * x + y) * W6 (5 * r + co) - W6 (5 * x + co) * W6 (5 * r + y)) ∧ (¬ (r < x ∧ x < i) → W7 (5 * x + y) = W6 (5 * x + y))) → (zEq d (d + 1) (mw W7) (rkF Fm d)) → (d - i) < n_177 → va_P D vwC [(g, .inr (2, [.int cd, .int (nI d), .ref mm, .int ik, .ref kf, .ref tb, .int rw, .ref wk, .int ab, .int be, .ref pl, .ref sp, .int a0, .int a1, .int b0, .int b1, .ref po, .ref to, .ref ba, .ref li, .int lm])), (mm, IA cI 16 Fm), (wk, LA cJ 20 W7)] H → va_D A [(g, .inr (2, [.int cd, .int (nI d), .ref mm, .int ik, .ref kf, .ref tb, .int rw, .ref wk, .int ab, .int be, .ref pl, .ref sp, .int a0, .int a1, .int b0, .int b1, .ref po, .ref to, .ref ba, .ref li, .int lm])), (mm, IA cI 16 Fm), (wk, LA cJ 20 W7)] → va_S A s.heap H locs → lv_has ls 10 [(0, .ref g), (1, .int (nI 1)), (2, .int (nI (d + 1))), (3, .int (nI r)), (4, .int (nI co)), (6, .int (nI i))] → W p l e rm_r_rank1 s m args below meth c H locs 0 0 Q (F0 m 177 ls []) := by
                              intro n_177
                              induction n_177 with
                              | zero => intro i W7 H locs ls hi1 hi2 hel hz7 hn_177; exact absurd hn_177 (Nat.not_lt_zero _)
                              | succ n_177 ih_177 =>
                                intro i W7 H locs ls hi1 hi2 hel hz7 hn_177 hP hD hS hl
                                refine lv_iload hx hb d_M_rank_177 (lv_at hl 5 rfl) ?_
                                refine lv_aload_n hx hb d_M_rank_179 rfl (lv_at hl 0 rfl) ?_
                                refine va_get (D := D) (ci := 2) (v := .int (nI d)) (C := R_M) (T := F_M) (N := 21) hx hb hts iw_M hown hK hP 0 rfl rfl 1 (by decide) (hts _ tw_388) (fun _ h9 => h9) rfl d_M_rank_180 ?_
                                refine xn_ge (tgt := 272) hx hb (by omega) (by omega) d_M_rank_183 (by decide) (fun c183_14 => ?_) (fun c183_14 => ?_)
                                · skip
                                  refine lv_iinc (v := nI (r + 1)) (lv' := [(3, .int (nI (r + 1))), (0, .ref g), (1, .int (nI 1)), (2, .int (nI (d + 1))), (4, .int (nI co)), (6, .int (nI i))]) hx hb d_M_rank_272 hl (k := 3) rfl (nI_add _ _) (by decide) rfl (fun ls hl => ?_)
                                  refine lv_iinc (v := nI (co + 1)) (lv' := [(4, .int (nI (co + 1))), (3, .int (nI (r + 1))), (0, .ref g), (1, .int (nI 1)), (2, .int (nI (d + 1))), (6, .int (nI i))]) hx hb d_M_rank_275 hl (k := 4) rfl (nI_add _ _) (by decide) rfl (fun ls hl => ?_)
                                  refine lv_goto (tgt := 104) hx hb d_M_rank_278 (by decide) ?_
                                  have hel9 : ∀ x y, x < d → y < d + 1 → (r < x → W7 (5 * x + y) = W6 (5 * x + y) * W6 (5 * r + co) - W6 (5 * x + co) * W6 (5 * r + y)) ∧ (¬ r < x → W7 (5 * x + y) = W6 (5 * x + y)) := fun x y hx2 hy2 => ⟨fun q => (hel x y hx2 hy2).1 ⟨q, by omega⟩, fun q => (hel x y hx2 hy2).2 (fun z => q z.1)⟩
                                  exact ih_104 (co + 1) (r + 1) W7 H locs ls (by omega) (by omega) (piv_B (p := pp) (d := d) hd3 (by omega) (show co < d + 1 by omega) (by omega) hp1 (by omega) hBd hsw hel9) (ech_piv (p := pp) (n := d + 1) hd3 (by omega) (by omega) hE hp1 (by omega) hsw hel9 hnz) hz7 (by omega) hP hD hS (lv_sub hl [2, 3, 4, 1, 0] rfl)
                                · skip
                                  refine lv_aload_n hx hb d_M_rank_186 rfl (lv_at hl 0 rfl) ?_
                                  refine va_get (D := D) (ci := 2) (v := .ref wk) (C := R_M) (T := F_M) (N := 21) hx hb hts iw_M hown hK hP 0 rfl rfl 7 (by decide) (hts _ tw_394) (fun _ h9 => h9) rfl d_M_rank_187 ?_
                                  refine lv_iconst (v := nI 5) hx hb d_M_rank_190 (by decide) ?_
                                  refine lv_iload hx hb d_M_rank_191 (lv_at hl 5 rfl) ?_
                                  refine xn_mul hx hb d_M_rank_193 ?_
                                  refine lv_iload hx hb d_M_rank_194 (lv_at hl 4 rfl) ?_
                                  refine xn_add hx hb d_M_rank_196 ?_
                                  refine xl_ald hx hb hK hP 2 0 rfl rfl (k := (5 * i) + co) (by omega) (by first | decide | omega) d_M_rank_197 ?_
                                  refine lv_lstore (lv' := [(7, .long (lI (W7 ((5 * i) + co)))), (0, .ref g), (1, .int (nI 1)), (2, .int (nI (d + 1))), (3, .int (nI r)), (4, .int (nI co)), (6, .int (nI i))]) hx hb d_M_rank_198 hl (by decide) rfl (fun ls hl => ?_)
                                  refine lv_iconst (v := nI 0) hx hb d_M_rank_200 (by decide) ?_
                                  refine lv_istore (lv' := [(9, .int (nI 0)), (7, .long (lI (W7 ((5 * i) + co)))), (0, .ref g), (1, .int (nI 1)), (2, .int (nI (d + 1))), (3, .int (nI r)), (4, .int (nI co)), (6, .int (nI i))]) hx hb d_M_rank_201 hl (by decide) rfl (fun ls hl => ?_)
                                  have lp_203 : ∀ (n_203 : Nat) (j : Nat) (W8 : Nat → Int) (H : Heap) (locs : List Loc) (ls : Array Slot), (j ≤ d + 1) → (∀ x y, x < d → y < d + 1 → ((x = i ∧ y < j) → W8 (5 * x + y) = W7 (5 * x + y) * W7 (5 * r + co) - W7 (5 * i + co) * W7 (5 * r + y)) ∧ (¬ (x = i ∧ y < j) → W8 (5 * x + y) = W7 (5 * x + y))) → ((d + 1) - j) < n_203 → va_P D vwC [(g, .inr (2, [.int cd, .int (nI d), .ref mm, .int ik, .ref kf, .ref tb, .int rw, .ref wk, .int ab, .int be, .ref pl, .ref sp, .int a0, .int a1, .int b0, .int b1, .ref po, .ref to, .ref ba, .ref li, .int lm])), (mm, IA cI 16 Fm), (wk, LA cJ 20 W8)] H → va_D A [(g, .inr (2, [.int cd, .int (nI d), .ref mm, .int ik, .ref kf, .ref tb, .int rw, .ref wk, .int ab, .int be, .ref pl, .ref sp, .int a0, .int a1, .int b0, .int b1, .ref po, .ref to, .ref ba, .ref li, .int lm])), (mm, IA cI 16 Fm), (wk, LA cJ 20 W8)] → va_S A s.heap H locs → lv_has ls 10 [(0, .ref g), (1, .int (nI 1)), (2, .int (nI (d + 1))), (3, .int (nI r)), (4, .int (nI co)), (6, .int (nI i)), (7, .long (lI (W7 (5 * i + co)))), (9, .int (nI j))] → W p l e rm_r_rank1 s m args below meth c H locs 0 0 Q (F0 m 203 ls []) := by
                                    intro n_203
                                    induction n_203 with
                                    | zero => intro j W8 H locs ls hj hin hn_203; exact absurd hn_203 (Nat.not_lt_zero _)
                                    | succ n_203 ih_203 =>
                                      intro j W8 H locs ls hj hin hn_203 hP hD hS hl
                                      refine lv_iload hx hb d_M_rank_203 (lv_at hl 7 rfl) ?_
                                      refine lv_iload_n hx hb d_M_rank_205 rfl (lv_at hl 2 rfl) ?_
                                      refine xn_ge (tgt := 266) hx hb (by omega) (by omega) d_M_rank_206 (by decide) (fun c206_15 => ?_) (fun c206_15 => ?_)
                                      · skip
                                        refine lv_iinc (v := nI (i + 1)) (lv' := [(6, .int (nI (i + 1))), (0, .ref g), (1, .int (nI 1)), (2, .int (nI (d + 1))), (3, .int (nI r)), (4, .int (nI co)), (7, .long (lI (W7 (5 * i + co)))), (9, .int (nI j))]) hx hb d_M_rank_266 hl (k := 5) rfl (nI_add _ _) (by decide) rfl (fun ls hl => ?_)
                                        refine lv_goto (tgt := 177) hx hb d_M_rank_269 (by decide) ?_
                                        have hj9 : j = d + 1 := by omega
                                        have hrc : W7 (5 * r + co) ≠ 0 := by rw [(hel r co (by omega) (by omega)).2 (by omega), hsw r co (by omega) (by omega), swp_r]; exact hnz
                                        have hz8 : zEq d (d + 1) (mw W8) (mw W7) := z_op (i0 := i) (r0 := r) (p := W7 (5 * r + co)) (f := W7 (5 * i + co)) hd3 (by omega) (by omega) (by omega) hrc (fun y hy2 => (hin i y (by omega) hy2).1 ⟨rfl, by omega⟩) (fun x y hx2 hne hy2 => (hin x y hx2 hy2).2 (fun z => hne z.1))
                                        exact ih_177 (i + 1) W8 H locs ls (by omega) (by omega) (fun x y hx2 hy2 => by by_cases z : x = i; rw [z, (hin i y (by omega) hy2).1 ⟨rfl, by omega⟩, (hel i y (by omega) hy2).2 (by omega), (hel r co (by omega) (by omega)).2 (by omega), (hel i co (by omega) (by omega)).2 (by omega), (hel r y (by omega) hy2).2 (by omega)]; exact ⟨fun _ => rfl, fun q => absurd ⟨by omega, by omega⟩ q⟩; rw [(hin x y hx2 hy2).2 (fun q => z q.1)]; exact ⟨fun q => (hel x y hx2 hy2).1 (by omega), fun q => (hel x y hx2 hy2).2 (by omega)⟩) (zEq_trans hz8 hz7) (by omega) hP hD hS (lv_sub hl [1, 2, 3, 4, 5, 0] rfl)
                                      · skip
                                        refine lv_aload_n hx hb d_M_rank_209 rfl (lv_at hl 0 rfl) ?_
                                        refine va_get (D := D) (ci := 2) (v := .ref wk) (C := R_M) (T := F_M) (N := 21) hx hb hts iw_M hown hK hP 0 rfl rfl 7 (by decide) (hts _ tw_394) (fun _ h9 => h9) rfl d_M_rank_210 ?_
                                        refine lv_iconst (v := nI 5) hx hb d_M_rank_213 (by decide) ?_
                                        refine lv_iload hx hb d_M_rank_214 (lv_at hl 5 rfl) ?_
                                        refine xn_mul hx hb d_M_rank_216 ?_
                                        refine lv_iload hx hb d_M_rank_217 (lv_at hl 7 rfl) ?_
                                        refine xn_add hx hb d_M_rank_219 ?_
                                        refine lv_aload_n hx hb d_M_rank_220 rfl (lv_at hl 0 rfl) ?_
                                        refine va_get (D := D) (ci := 2) (v := .ref wk) (C := R_M) (T := F_M) (N := 21) hx hb hts iw_M hown hK hP 0 rfl rfl 7 (by decide) (hts _ tw_394) (fun _ h9 => h9) rfl d_M_rank_221 ?_
                                        refine lv_iconst (v := nI 5) hx hb d_M_rank_224 (by decide) ?_
                                        refine lv_iload hx hb d_M_rank_225 (lv_at hl 5 rfl) ?_
                                        refine xn_mul hx hb d_M_rank_227 ?_
                                        refine lv_iload hx hb d_M_rank_228 (lv_at hl 7 rfl) ?_
                                        refine xn_add hx hb d_M_rank_230 ?_
                                        refine xl_ald hx hb hK hP 2 0 rfl rfl (k := (5 * i) + j) (by omega) (by first | decide | omega) d_M_rank_231 ?_
                                        refine lv_aload_n hx hb d_M_rank_232 rfl (lv_at hl 0 rfl) ?_
                                        refine va_get (D := D) (ci := 2) (v := .ref wk) (C := R_M) (T := F_M) (N := 21) hx hb hts iw_M hown hK hP 0 rfl rfl 7 (by decide) (hts _ tw_394) (fun _ h9 => h9) rfl d_M_rank_233 ?_
                                        refine lv_iconst (v := nI 5) hx hb d_M_rank_236 (by decide) ?_
                                        refine lv_iload_n hx hb d_M_rank_237 rfl (lv_at hl 3 rfl) ?_
                                        refine xn_mul hx hb d_M_rank_238 ?_
                                        refine lv_iload hx hb d_M_rank_239 (lv_at hl 4 rfl) ?_
                                        refine xn_add hx hb d_M_rank_241 ?_
                                        refine xl_ald hx hb hK hP 2 0 rfl rfl (k := (5 * r) + co) (by omega) (by first | decide | omega) d_M_rank_242 ?_
                                        refine xl_mul hx hb d_M_rank_243 ?_
                                        refine lv_lload hx hb d_M_rank_244 (lv_at hl 6 rfl) ?_
                                        refine lv_aload_n hx hb d_M_rank_246 rfl (lv_at hl 0 rfl) ?_
                                        refine va_get (D := D) (ci := 2) (v := .ref wk) (C := R_M) (T := F_M) (N := 21) hx hb hts iw_M hown hK hP 0 rfl rfl 7 (by decide) (hts _ tw_394) (fun _ h9 => h9) rfl d_M_rank_247 ?_
                                        refine lv_iconst (v := nI 5) hx hb d_M_rank_250 (by decide) ?_
                                        refine lv_iload_n hx hb d_M_rank_251 rfl (lv_at hl 3 rfl) ?_
                                        refine xn_mul hx hb d_M_rank_252 ?_
                                        refine lv_iload hx hb d_M_rank_253 (lv_at hl 7 rfl) ?_
                                        refine xn_add hx hb d_M_rank_255 ?_
                                        refine xl_ald hx hb hK hP 2 0 rfl rfl (k := (5 * r) + j) (by omega) (by first | decide | omega) d_M_rank_256 ?_
                                        refine xl_mul hx hb d_M_rank_257 ?_
                                        refine xl_sub hx hb d_M_rank_258 ?_
                                        refine xl_ast hx hb hK hP hD hS 2 0 rfl rfl (k := (5 * i) + j) (by omega) (by first | decide | omega) d_M_rank_259 (fun H locs hP hD hS => ?_)
                                        have hP : va_P D vwC [(g, .inr (2, [.int cd, .int (nI d), .ref mm, .int ik, .ref kf, .ref tb, .int rw, .ref wk, .int ab, .int be, .ref pl, .ref sp, .int a0, .int a1, .int b0, .int b1, .ref po, .ref to, .ref ba, .ref li, .int lm])), (mm, IA cI 16 Fm), (wk, LA cJ 20 (upZ W8 ((5 * i) + j) (((W8 ((5 * i) + j)) * (W8 ((5 * r) + co))) - ((W7 (5 * i + co)) * (W8 ((5 * r) + j))))))] H := hP
                                        have hD : va_D A [(g, .inr (2, [.int cd, .int (nI d), .ref mm, .int ik, .ref kf, .ref tb, .int rw, .ref wk, .int ab, .int be, .ref pl, .ref sp, .int a0, .int a1, .int b0, .int b1, .ref po, .ref to, .ref ba, .ref li, .int lm])), (mm, IA cI 16 Fm), (wk, LA cJ 20 (upZ W8 ((5 * i) + j) (((W8 ((5 * i) + j)) * (W8 ((5 * r) + co))) - ((W7 (5 * i + co)) * (W8 ((5 * r) + j))))))] := hD
                                        refine lv_iinc (v := nI (j + 1)) (lv' := [(9, .int (nI (j + 1))), (0, .ref g), (1, .int (nI 1)), (2, .int (nI (d + 1))), (3, .int (nI r)), (4, .int (nI co)), (6, .int (nI i)), (7, .long (lI (W7 (5 * i + co))))]) hx hb d_M_rank_260 hl (k := 7) rfl (nI_add _ _) (by decide) rfl (fun ls hl => ?_)
                                        refine lv_goto (tgt := 203) hx hb d_M_rank_263 (by decide) ?_
                                        exact ih_203 (j + 1) (upZ W8 ((5 * i) + j) (((W8 ((5 * i) + j)) * (W8 ((5 * r) + co))) - ((W7 (5 * i + co)) * (W8 ((5 * r) + j))))) H locs ls (by omega) (fun x y hx2 hy2 => by by_cases z : x = i ∧ y = j; obtain ⟨rfl, rfl⟩ := z; rw [upZ_at, (hin x y hx2 hy2).2 (by omega), (hin r co (by omega) (by omega)).2 (by omega), (hin r y (by omega) hy2).2 (by omega)]; exact ⟨fun _ => rfl, fun q => absurd ⟨rfl, by omega⟩ q⟩; rw [upZ_ne (k := 5 * i + j) (j := 5 * x + y) _ _ (by omega)]; exact ⟨fun q => (hin x y hx2 hy2).1 (by omega), fun q => (hin x y hx2 hy2).2 (by omega)⟩) (by omega) hP hD hS (lv_sub hl [1, 2, 3, 4, 5, 6, 7, 0] rfl)
                                  exact lp_203 (((d + 1) - 0) + 1) 0 W7 H locs ls (Nat.zero_le _) (fun x y _ _ => ⟨fun q => absurd q.2 (Nat.not_lt_zero _), fun _ => rfl⟩) (by omega) hP hD hS (lv_sub hl [2, 3, 4, 5, 6, 7, 1, 0] rfl)
                            exact lp_177 ((d - (r + 1)) + 1) (r + 1) W6 H locs ls (Nat.le_refl _) (by omega) (fun x y _ _ => ⟨fun q => absurd q.2 (by omega), fun _ => rfl⟩) (zEq_trans (z_swap (M := mw W5) (a := pp) (b := r) hd3 hpd (by omega) (fun x y hx2 hy2 => hsw x y (by omega) (by omega))) hZ) (by omega) hP hD hS (lv_sub hl [1, 2, 3, 4, 5, 0] rfl)
                          · skip
                            refine lv_goto (tgt := 275) hx hb d_M_rank_162 (by decide) ?_
                            refine lv_iinc (v := nI (co + 1)) (lv' := [(4, .int (nI (co + 1))), (0, .ref g), (1, .int (nI 1)), (2, .int (nI (d + 1))), (3, .int (nI r)), (5, .int (nI pp))]) hx hb d_M_rank_275 hl (k := 4) rfl (nI_add _ _) (by decide) rfl (fun ls hl => ?_)
                            refine lv_goto (tgt := 104) hx hb d_M_rank_278 (by decide) ?_
                            exact ih_104 (co + 1) r W5 H locs ls (by omega) hr hBd (ech_skip hE (fun x q1 q2 => hp0 x q1 (by omega))) hZ (by omega) hP hD hS (lv_sub hl [1, 2, 3, 4, 0] rfl)
                        · skip
                          refine lv_iinc (v := nI (pp + 1)) (lv' := [(5, .int (nI (pp + 1))), (0, .ref g), (1, .int (nI 1)), (2, .int (nI (d + 1))), (3, .int (nI r)), (4, .int (nI co))]) hx hb d_M_rank_147 hl (k := 5) rfl (nI_add _ _) (by decide) rfl (fun ls hl => ?_)
                          refine lv_goto (tgt := 121) hx hb d_M_rank_150 (by decide) ?_
                          exact ih_121 (pp + 1) H locs ls (by omega) (by omega) (fun x q1 q2 => by by_cases z : x = pp; rw [z]; exact c144_10; exact hp0 x q1 (by omega)) (by omega) hP hD hS (lv_sub hl [1, 2, 3, 4, 5, 0] rfl)
                  exact lp_121 ((d - r) + 1) r H locs ls (Nat.le_refl _) (by omega) (fun x q1 q2 => absurd q1 (by omega)) (by omega) hP hD hS (lv_sub hl [1, 2, 3, 4, 5, 0] rfl)
          exact lp_104 (((d + 1) - 0) + 1) 0 0 W3 H locs ls (Nat.zero_le _) (Nat.zero_le _) (fun x y hx2 hy2 => by rw [h1 x y (by omega) hy2]; exact rkF_B hd3 hx2 hF) (ech_0 _ _) (zEq_congr (fun x y hx2 hy2 => h1 x y (by omega) hy2)) (by omega) hP hD hS (lv_sub hl [2, 3, 4, 1, 0] rfl)
        · skip
          refine lv_iconst (v := nI 0) hx hb d_M_rank_28 (by decide) ?_
          refine lv_istore (lv' := [(4, .int (nI 0)), (0, .ref g), (1, .int (nI 1)), (2, .int (nI (d + 1))), (3, .int (nI i))]) hx hb d_M_rank_29 hl (by decide) rfl (fun ls hl => ?_)
          have lp_31 : ∀ (n_31 : Nat) (j : Nat) (W4 : Nat → Int) (H : Heap) (locs : List Loc) (ls : Array Slot), (j ≤ d + 1) → (∀ x y, (x < i ∧ y < d + 1) ∨ (x = i ∧ y < j) → W4 (5 * x + y) = rkF Fm d x y) → ((d + 1) - j) < n_31 → va_P D vwC [(g, .inr (2, [.int cd, .int (nI d), .ref mm, .int ik, .ref kf, .ref tb, .int rw, .ref wk, .int ab, .int be, .ref pl, .ref sp, .int a0, .int a1, .int b0, .int b1, .ref po, .ref to, .ref ba, .ref li, .int lm])), (mm, IA cI 16 Fm), (wk, LA cJ 20 W4)] H → va_D A [(g, .inr (2, [.int cd, .int (nI d), .ref mm, .int ik, .ref kf, .ref tb, .int rw, .ref wk, .int ab, .int be, .ref pl, .ref sp, .int a0, .int a1, .int b0, .int b1, .ref po, .ref to, .ref ba, .ref li, .int lm])), (mm, IA cI 16 Fm), (wk, LA cJ 20 W4)] → va_S A s.heap H locs → lv_has ls 10 [(0, .ref g), (1, .int (nI 1)), (2, .int (nI (d + 1))), (3, .int (nI i)), (4, .int (nI j))] → W p l e rm_r_rank1 s m args below meth c H locs 0 0 Q (F0 m 31 ls []) := by
            intro n_31
            induction n_31 with
            | zero => intro j W4 H locs ls hj h2 hn_31; exact absurd hn_31 (Nat.not_lt_zero _)
            | succ n_31 ih_31 =>
              intro j W4 H locs ls hj h2 hn_31 hP hD hS hl
              refine lv_iload hx hb d_M_rank_31 (lv_at hl 4 rfl) ?_
              refine lv_iload_n hx hb d_M_rank_33 rfl (lv_at hl 2 rfl) ?_
              refine xn_ge (tgt := 93) hx hb (by omega) (by omega) d_M_rank_34 (by decide) (fun c34_16 => ?_) (fun c34_16 => ?_)
              · skip
                refine lv_iinc (v := nI (i + 1)) (lv' := [(3, .int (nI (i + 1))), (0, .ref g), (1, .int (nI 1)), (2, .int (nI (d + 1))), (4, .int (nI j))]) hx hb d_M_rank_93 hl (k := 3) rfl (nI_add _ _) (by decide) rfl (fun ls hl => ?_)
                refine lv_goto (tgt := 20) hx hb d_M_rank_96 (by decide) ?_
                exact ih_20 (i + 1) W4 H locs ls (by omega) (fun x y hx2 hy2 => h2 x y (by omega)) (by omega) hP hD hS (lv_sub hl [1, 2, 3, 0] rfl)
              · skip
                refine lv_aload_n hx hb d_M_rank_37 rfl (lv_at hl 0 rfl) ?_
                refine va_get (D := D) (ci := 2) (v := .ref wk) (C := R_M) (T := F_M) (N := 21) hx hb hts iw_M hown hK hP 0 rfl rfl 7 (by decide) (hts _ tw_394) (fun _ h9 => h9) rfl d_M_rank_38 ?_
                refine lv_iconst (v := nI 5) hx hb d_M_rank_41 (by decide) ?_
                refine lv_iload_n hx hb d_M_rank_42 rfl (lv_at hl 3 rfl) ?_
                refine xn_mul hx hb d_M_rank_43 ?_
                refine lv_iload hx hb d_M_rank_44 (lv_at hl 4 rfl) ?_
                refine xn_add hx hb d_M_rank_46 ?_
                refine lv_iload hx hb d_M_rank_47 (lv_at hl 4 rfl) ?_
                refine lv_aload_n hx hb d_M_rank_49 rfl (lv_at hl 0 rfl) ?_
                refine va_get (D := D) (ci := 2) (v := .int (nI d)) (C := R_M) (T := F_M) (N := 21) hx hb hts iw_M hown hK hP 0 rfl rfl 1 (by decide) (hts _ tw_388) (fun _ h9 => h9) rfl d_M_rank_50 ?_
                refine xn_ge (tgt := 75) hx hb (by omega) (by omega) d_M_rank_53 (by decide) (fun c53_17 => ?_) (fun c53_17 => ?_)
                · skip
                  refine lv_aload_n hx hb d_M_rank_75 rfl (lv_at hl 0 rfl) ?_
                  refine va_get (D := D) (ci := 2) (v := .ref mm) (C := R_M) (T := F_M) (N := 21) hx hb hts iw_M hown hK hP 0 rfl rfl 2 (by decide) (hts _ tw_389) (fun _ h9 => h9) rfl d_M_rank_76 ?_
                  refine lv_iconst (v := nI 4) hx hb d_M_rank_79 (by decide) ?_
                  refine lv_iload_n hx hb d_M_rank_80 rfl (lv_at hl 3 rfl) ?_
                  refine lv_iconst (v := nI 1) hx hb d_M_rank_81 (by decide) ?_
                  refine xn_add hx hb d_M_rank_82 ?_
                  refine xn_mul hx hb d_M_rank_83 ?_
                  refine xi_ald hx hb hK hP 1 1 rfl rfl (k := 4 * (i + 1)) (by omega) (by first | decide | omega) d_M_rank_84 ?_
                  refine lv_i2l (v := lI (Fm (4 * (i + 1)))) hx hb d_M_rank_85 (iI_i2l (iB_of (hF _ (by omega)) (by decide))) ?_
                  refine xl_ast hx hb hK hP hD hS 2 0 rfl rfl (k := (5 * i) + j) (by omega) (by first | decide | omega) d_M_rank_86 (fun H locs hP hD hS => ?_)
                  have hP : va_P D vwC [(g, .inr (2, [.int cd, .int (nI d), .ref mm, .int ik, .ref kf, .ref tb, .int rw, .ref wk, .int ab, .int be, .ref pl, .ref sp, .int a0, .int a1, .int b0, .int b1, .ref po, .ref to, .ref ba, .ref li, .int lm])), (mm, IA cI 16 Fm), (wk, LA cJ 20 (upZ W4 ((5 * i) + j) (Fm (4 * (i + 1)))))] H := hP
                  have hD : va_D A [(g, .inr (2, [.int cd, .int (nI d), .ref mm, .int ik, .ref kf, .ref tb, .int rw, .ref wk, .int ab, .int be, .ref pl, .ref sp, .int a0, .int a1, .int b0, .int b1, .ref po, .ref to, .ref ba, .ref li, .int lm])), (mm, IA cI 16 Fm), (wk, LA cJ 20 (upZ W4 ((5 * i) + j) (Fm (4 * (i + 1)))))] := hD
                  refine lv_iinc (v := nI (j + 1)) (lv' := [(4, .int (nI (j + 1))), (0, .ref g), (1, .int (nI 1)), (2, .int (nI (d + 1))), (3, .int (nI i))]) hx hb d_M_rank_87 hl (k := 4) rfl (nI_add _ _) (by decide) rfl (fun ls hl => ?_)
                  refine lv_goto (tgt := 31) hx hb d_M_rank_90 (by decide) ?_
                  exact ih_31 (j + 1) (upZ W4 ((5 * i) + j) (Fm (4 * (i + 1)))) H locs ls (by omega) (fun x y q => by by_cases z : x = i ∧ y = j; obtain ⟨rfl, rfl⟩ := z; rw [upZ_at]; unfold rkF; rw [if_neg (show ¬ y < d from by omega)]; rw [upZ_ne (k := 5 * i + j) (j := 5 * x + y) _ _ (by omega)]; exact h2 x y (by omega)) (by omega) hP hD hS (lv_sub hl [1, 2, 3, 4, 0] rfl)
                · skip
                  refine lv_aload_n hx hb d_M_rank_56 rfl (lv_at hl 0 rfl) ?_
                  refine va_get (D := D) (ci := 2) (v := .ref mm) (C := R_M) (T := F_M) (N := 21) hx hb hts iw_M hown hK hP 0 rfl rfl 2 (by decide) (hts _ tw_389) (fun _ h9 => h9) rfl d_M_rank_57 ?_
                  refine lv_iconst (v := nI 4) hx hb d_M_rank_60 (by decide) ?_
                  refine lv_iload_n hx hb d_M_rank_61 rfl (lv_at hl 3 rfl) ?_
                  refine lv_iconst (v := nI 1) hx hb d_M_rank_62 (by decide) ?_
                  refine xn_add hx hb d_M_rank_63 ?_
                  refine xn_mul hx hb d_M_rank_64 ?_
                  refine lv_iload hx hb d_M_rank_65 (lv_at hl 4 rfl) ?_
                  refine xn_add hx hb d_M_rank_67 ?_
                  refine lv_iconst (v := nI 1) hx hb d_M_rank_68 (by decide) ?_
                  refine xn_add hx hb d_M_rank_69 ?_
                  refine xi_ald hx hb hK hP 1 1 rfl rfl (k := ((4 * (i + 1)) + j) + 1) (by omega) (by first | decide | omega) d_M_rank_70 ?_
                  refine lv_i2l (v := lI (Fm (((4 * (i + 1)) + j) + 1))) hx hb d_M_rank_71 (iI_i2l (iB_of (hF _ (by omega)) (by decide))) ?_
                  refine lv_goto (tgt := 86) hx hb d_M_rank_72 (by decide) ?_
                  refine xl_ast hx hb hK hP hD hS 2 0 rfl rfl (k := (5 * i) + j) (by omega) (by first | decide | omega) d_M_rank_86 (fun H locs hP hD hS => ?_)
                  have hP : va_P D vwC [(g, .inr (2, [.int cd, .int (nI d), .ref mm, .int ik, .ref kf, .ref tb, .int rw, .ref wk, .int ab, .int be, .ref pl, .ref sp, .int a0, .int a1, .int b0, .int b1, .ref po, .ref to, .ref ba, .ref li, .int lm])), (mm, IA cI 16 Fm), (wk, LA cJ 20 (upZ W4 ((5 * i) + j) (Fm (((4 * (i + 1)) + j) + 1))))] H := hP
                  have hD : va_D A [(g, .inr (2, [.int cd, .int (nI d), .ref mm, .int ik, .ref kf, .ref tb, .int rw, .ref wk, .int ab, .int be, .ref pl, .ref sp, .int a0, .int a1, .int b0, .int b1, .ref po, .ref to, .ref ba, .ref li, .int lm])), (mm, IA cI 16 Fm), (wk, LA cJ 20 (upZ W4 ((5 * i) + j) (Fm (((4 * (i + 1)) + j) + 1))))] := hD
                  refine lv_iinc (v := nI (j + 1)) (lv' := [(4, .int (nI (j + 1))), (0, .ref g), (1, .int (nI 1)), (2, .int (nI (d + 1))), (3, .int (nI i))]) hx hb d_M_rank_87 hl (k := 4) rfl (nI_add _ _) (by decide) rfl (fun ls hl => ?_)
                  refine lv_goto (tgt := 31) hx hb d_M_rank_90 (by decide) ?_
                  exact ih_31 (j + 1) (upZ W4 ((5 * i) + j) (Fm (((4 * (i + 1)) + j) + 1))) H locs ls (by omega) (fun x y q => by by_cases z : x = i ∧ y = j; obtain ⟨rfl, rfl⟩ := z; rw [upZ_at]; unfold rkF; rw [if_pos (show y < d from by omega)]; rw [upZ_ne (k := 5 * i + j) (j := 5 * x + y) _ _ (by omega)]; exact h2 x y (by omega)) (by omega) hP hD hS (lv_sub hl [1, 2, 3, 4, 0] rfl)
          exact lp_31 (((d + 1) - 0) + 1) 0 W3 H locs ls (Nat.zero_le _) (fun x y q => h1 x y (by omega) (by omega)) (by omega) hP hD hS (lv_sub hl [1, 2, 3, 4, 0] rfl)
    exact lp_20 ((d - 0) + 1) 0 W0 H locs ls (Nat.zero_le _) (fun x y q => absurd q (Nat.not_lt_zero _)) (by omega) hP hD hS (lv_sub hl [2, 3, 1, 0] rfl)
  rw [hH, hlc] at key; exact key

def rm_r_rank0 : Room := { frames := 1, cells := 0, slots := 0, locals := 25 }
set_option maxHeartbeats 4000000 in
set_option maxRecDepth 100000 in
/-- a rank -/
theorem r_rank0 (l : Launch) (D : va_G) (cJ cI : ClassId) (g : Nat) (cd : Int32) (d : Nat) (ik : Int32) (rw : Int32) (ab : Int32) (be : Int32) (a0 : Int32) (a1 : Int32) (b0 : Int32) (b1 : Int32) (lm : Int32) (mm : Nat) (kf : Nat) (tb : Nat) (wk : Nat) (pl : Nat) (sp : Nat) (po : Nat) (to : Nat) (ba : Nat) (li : Nat) (Fm : Nat → Int) (W0 : Nat → Int) (hd2 : 2 ≤ d) (hd3 : d ≤ 3) (hF : ∀ k, k < 16 → inB (Fm k) 20) (sz : Nat) : xMi l y_M_rank (Cond.code y_M_rank b_M_rank 10 (some .int) :: tW) rm_r_rank0 [.ref g, .int (nI 0)] D vwC [(cJ, .long), (cI, .int)] sz [(g, .inr (2, [.int cd, .int (nI d), .ref mm, .int ik, .ref kf, .ref tb, .int rw, .ref wk, .int ab, .int be, .ref pl, .ref sp, .int a0, .int a1, .int b0, .int b1, .ref po, .ref to, .ref ba, .ref li, .int lm])), (mm, IA cI 16 Fm), (wk, LA cJ 20 W0)] (fun (rv : Int32) (uo : Nat × (Nat → Int)) => rv = nI uo.1 ∧ (rkP (rkF Fm d) d (d) uo.1)) (fun (uo : Nat × (Nat → Int)) => [(g, .inr (2, [.int cd, .int (nI d), .ref mm, .int ik, .ref kf, .ref tb, .int rw, .ref wk, .int ab, .int be, .ref pl, .ref sp, .int a0, .int a1, .int b0, .int b1, .ref po, .ref to, .ref ba, .ref li, .int lm])), (mm, IA cI 16 Fm), (wk, LA cJ 20 uo.2)]) 0 0 := by
  refine xoi (cc := b_M_rank) (maxL := 10) (by decide) rfl (Nat.le_of_ble_eq_true rfl) ?_
  intro p e s m args below meth c Q A hx hb hml hts hown hN hA hS hP hK hD hret ls hl
  have hl : lv_has ls 10 [(0, .ref g), (1, .int (nI 0))] := hl
  obtain ⟨H, hH⟩ : ∃ z, z = s.heap := ⟨_, rfl⟩
  obtain ⟨locs, hlc⟩ : ∃ z : List Loc, z = [] := ⟨_, rfl⟩
  rw [← hH] at hP
  have hS : va_S A s.heap H locs := by rw [hH, hlc]; exact hS
  have key : W p l e rm_r_rank0 s m args below meth c H locs 0 0 Q (F0 m 0 ls []) := by
    refine lv_iload_n hx hb d_M_rank_0 rfl (lv_at hl 1 rfl) ?_
    refine xz_eq (tgt := 13) (X := (0 : Nat)) hx hb (nI_toInt (by omega)) d_M_rank_1 (by decide) (fun c1_0 => ?_) (fun c1_0 => absurd c1_0 (by omega))
    refine lv_aload_n hx hb d_M_rank_13 rfl (lv_at hl 0 rfl) ?_
    refine va_get (D := D) (ci := 2) (v := .int (nI d)) (C := R_M) (T := F_M) (N := 21) hx hb hts iw_M hown hK hP 0 rfl rfl 1 (by decide) (hts _ tw_388) (fun _ h9 => h9) rfl d_M_rank_14 ?_
    refine lv_istore_n (lv' := [(2, .int (nI d)), (0, .ref g), (1, .int (nI 0))]) hx hb d_M_rank_17 rfl hl (by decide) rfl (fun ls hl => ?_)
    refine lv_iconst (v := nI 0) hx hb d_M_rank_18 (by decide) ?_
    refine lv_istore_n (lv' := [(3, .int (nI 0)), (2, .int (nI d)), (0, .ref g), (1, .int (nI 0))]) hx hb d_M_rank_19 rfl hl (by decide) rfl (fun ls hl => ?_)
    have lp_20 : ∀ (n_20 : Nat) (i : Nat) (W3 : Nat → Int) (H : Heap) (locs : List Loc) (ls : Array Slot), (i ≤ d) → (∀ x y, x < i → y < d → W3 (5 * x + y) = rkF Fm d x y) → (d - i) < n_20 → va_P D vwC [(g, .inr (2, [.int cd, .int (nI d), .ref mm, .int ik, .ref kf, .ref tb, .int rw, .ref wk, .int ab, .int be, .ref pl, .ref sp, .int a0, .int a1, .int b0, .int b1, .ref po, .ref to, .ref ba, .ref li, .int lm])), (mm, IA cI 16 Fm), (wk, LA cJ 20 W3)] H → va_D A [(g, .inr (2, [.int cd, .int (nI d), .ref mm, .int ik, .ref kf, .ref tb, .int rw, .ref wk, .int ab, .int be, .ref pl, .ref sp, .int a0, .int a1, .int b0, .int b1, .ref po, .ref to, .ref ba, .ref li, .int lm])), (mm, IA cI 16 Fm), (wk, LA cJ 20 W3)] → va_S A s.heap H locs → lv_has ls 10 [(0, .ref g), (1, .int (nI 0)), (2, .int (nI d)), (3, .int (nI i))] → W p l e rm_r_rank0 s m args below meth c H locs 0 0 Q (F0 m 20 ls []) := by
      intro n_20
      induction n_20 with
      | zero => intro i W3 H locs ls hi h1 hn_20; exact absurd hn_20 (Nat.not_lt_zero _)
      | succ n_20 ih_20 =>
        intro i W3 H locs ls hi h1 hn_20 hP hD hS hl
        refine lv_iload_n hx hb d_M_rank_20 rfl (lv_at hl 3 rfl) ?_
        refine lv_aload_n hx hb d_M_rank_21 rfl (lv_at hl 0 rfl) ?_
        refine va_get (D := D) (ci := 2) (v := .int (nI d)) (C := R_M) (T := F_M) (N := 21) hx hb hts iw_M hown hK hP 0 rfl rfl 1 (by decide) (hts _ tw_388) (fun _ h9 => h9) rfl d_M_rank_22 ?_
        refine xn_ge (tgt := 99) hx hb (by omega) (by omega) d_M_rank_25 (by decide) (fun c25_1 => ?_) (fun c25_1 => ?_)
        · skip
          refine lv_iconst (v := nI 0) hx hb d_M_rank_99 (by decide) ?_
          refine lv_istore_n (lv' := [(3, .int (nI 0)), (0, .ref g), (1, .int (nI 0)), (2, .int (nI d))]) hx hb d_M_rank_100 rfl hl (by decide) rfl (fun ls hl => ?_)
          refine lv_iconst (v := nI 0) hx hb d_M_rank_101 (by decide) ?_
          refine lv_istore (lv' := [(4, .int (nI 0)), (3, .int (nI 0)), (0, .ref g), (1, .int (nI 0)), (2, .int (nI d))]) hx hb d_M_rank_102 hl (by decide) rfl (fun ls hl => ?_)
          have lp_104 : ∀ (n_104 : Nat) (co : Nat) (r : Nat) (W5 : Nat → Int) (H : Heap) (locs : List Loc) (ls : Array Slot), (co ≤ d) → (r ≤ d) → (∀ i j, i < d → j < d → inB (W5 (5 * i + j)) (rB r)) → (ech (mw W5) d co r) → (zEq d (d) (mw W5) (rkF Fm d)) → (d - co) < n_104 → va_P D vwC [(g, .inr (2, [.int cd, .int (nI d), .ref mm, .int ik, .ref kf, .ref tb, .int rw, .ref wk, .int ab, .int be, .ref pl, .ref sp, .int a0, .int a1, .int b0, .int b1, .ref po, .ref to, .ref ba, .ref li, .int lm])), (mm, IA cI 16 Fm), (wk, LA cJ 20 W5)] H → va_D A [(g, .inr (2, [.int cd, .int (nI d), .ref mm, .int ik, .ref kf, .ref tb, .int rw, .ref wk, .int ab, .int be, .ref pl, .ref sp, .int a0, .int a1, .int b0, .int b1, .ref po, .ref to, .ref ba, .ref li, .int lm])), (mm, IA cI 16 Fm), (wk, LA cJ 20 W5)] → va_S A s.heap H locs → lv_has ls 10 [(0, .ref g), (1, .int (nI 0)), (2, .int (nI d)), (3, .int (nI r)), (4, .int (nI co))] → W p l e rm_r_rank0 s m args below meth c H locs 0 0 Q (F0 m 104 ls []) := by
            intro n_104
            induction n_104 with
            | zero => intro co r W5 H locs ls hc hr hBd hE hZ hn_104; exact absurd hn_104 (Nat.not_lt_zero _)
            | succ n_104 ih_104 =>
              intro co r W5 H locs ls hc hr hBd hE hZ hn_104 hP hD hS hl
              refine lv_iload hx hb d_M_rank_104 (lv_at hl 4 rfl) ?_
              refine lv_iload_n hx hb d_M_rank_106 rfl (lv_at hl 2 rfl) ?_
              refine xn_ge (tgt := 281) hx hb (by omega) (by omega) d_M_rank_107 (by decide) (fun c107_2 => ?_) (fun c107_2 => ?_)
              · skip
                refine lv_iload_n hx hb d_M_rank_281 rfl (lv_at hl 3 rfl) ?_
                exact hret H locs _ ls (nI r) (r, W5) d_M_rank_282 (by first | exact ⟨rfl, rkP_congr (rk_fin hd2 hd3 hr hc hE (by omega)) hZ⟩ | (dsimp only; exact ⟨rfl, rkP_congr (rk_fin hd2 hd3 hr hc hE (by omega)) hZ⟩)) hP hD hS
              · skip
                refine lv_iload_n hx hb d_M_rank_110 rfl (lv_at hl 3 rfl) ?_
                refine lv_aload_n hx hb d_M_rank_111 rfl (lv_at hl 0 rfl) ?_
                refine va_get (D := D) (ci := 2) (v := .int (nI d)) (C := R_M) (T := F_M) (N := 21) hx hb hts iw_M hown hK hP 0 rfl rfl 1 (by decide) (hts _ tw_388) (fun _ h9 => h9) rfl d_M_rank_112 ?_
                refine xn_ge (tgt := 281) hx hb (by omega) (by omega) d_M_rank_115 (by decide) (fun c115_3 => ?_) (fun c115_3 => ?_)
                · skip
                  refine lv_iload_n hx hb d_M_rank_281 rfl (lv_at hl 3 rfl) ?_
                  exact hret H locs _ ls (nI r) (r, W5) d_M_rank_282 (by first | exact ⟨rfl, rkP_congr (rk_fin hd2 hd3 hr hc hE (by omega)) hZ⟩ | (dsimp only; exact ⟨rfl, rkP_congr (rk_fin hd2 hd3 hr hc hE (by omega)) hZ⟩)) hP hD hS
                · skip
                  refine lv_iload_n hx hb d_M_rank_118 rfl (lv_at hl 3 rfl) ?_
                  refine lv_istore (lv' := [(5, .int (nI r)), (0, .ref g), (1, .int (nI 0)), (2, .int (nI d)), (3, .int (nI r)), (4, .int (nI co))]) hx hb d_M_rank_119 hl (by decide) rfl (fun ls hl => ?_)
                  have lp_121 : ∀ (n_121 : Nat) (pp : Nat) (H : Heap) (locs : List Loc) (ls : Array Slot), (r ≤ pp) → (pp ≤ d) → (∀ x, r ≤ x → x < pp → W5 (5 * x + co) = 0) → (d - pp) < n_121 → va_P D vwC [(g, .inr (2, [.int cd, .int (nI d), .ref mm, .int ik, .ref kf, .ref tb, .int rw, .ref wk, .int ab, .int be, .ref pl, .ref sp, .int a0, .int a1, .int b0, .int b1, .ref po, .ref to, .ref ba, .ref li, .int lm])), (mm, IA cI 16 Fm), (wk, LA cJ 20 W5)] H → va_D A [(g, .inr (2, [.int cd, .int (nI d), .ref mm, .int ik, .ref kf, .ref tb, .int rw, .ref wk, .int ab, .int be, .ref pl, .ref sp, .int a0, .int a1, .int b0, .int b1, .ref po, .ref to, .ref ba, .ref li, .int lm])), (mm, IA cI 16 Fm), (wk, LA cJ 20 W5)] → va_S A s.heap H locs → lv_has ls 10 [(0, .ref g), (1, .int (nI 0)), (2, .int (nI d)), (3, .int (nI r)), (4, .int (nI co)), (5, .int (nI pp))] → W p l e rm_r_rank0 s m args below meth c H locs 0 0 Q (F0 m 121 ls []) := by
                    intro n_121
                    induction n_121 with
                    | zero => intro pp H locs ls hp1 hp2 hp0 hn_121; exact absurd hn_121 (Nat.not_lt_zero _)
                    | succ n_121 ih_121 =>
                      intro pp H locs ls hp1 hp2 hp0 hn_121 hP hD hS hl
                      refine lv_iload hx hb d_M_rank_121 (lv_at hl 5 rfl) ?_
                      refine lv_aload_n hx hb d_M_rank_123 rfl (lv_at hl 0 rfl) ?_
                      refine va_get (D := D) (ci := 2) (v := .int (nI d)) (C := R_M) (T := F_M) (N := 21) hx hb hts iw_M hown hK hP 0 rfl rfl 1 (by decide) (hts _ tw_388) (fun _ h9 => h9) rfl d_M_rank_124 ?_
                      refine xn_ge (tgt := 153) hx hb (by omega) (by omega) d_M_rank_127 (by decide) (fun c127_4 => ?_) (fun c127_4 => ?_)
                      · skip
                        refine lv_iload hx hb d_M_rank_153 (lv_at hl 5 rfl) ?_
                        refine lv_aload_n hx hb d_M_rank_155 rfl (lv_at hl 0 rfl) ?_
                        refine va_get (D := D) (ci := 2) (v := .int (nI d)) (C := R_M) (T := F_M) (N := 21) hx hb hts iw_M hown hK hP 0 rfl rfl 1 (by decide) (hts _ tw_388) (fun _ h9 => h9) rfl d_M_rank_156 ?_
                        refine xn_ne (tgt := 165) hx hb (by omega) (by omega) d_M_rank_159 (by decide) (fun c159_5 => ?_) (fun c159_5 => ?_)
                        · skip
                          have hpd : pp < d := by omega
                          have hnz : W5 (5 * pp + co) ≠ 0 := by first | omega | assumption
                          refine lv_aload_n hx hb d_M_rank_165 rfl (lv_at hl 0 rfl) ?_
                          refine lv_iload hx hb d_M_rank_166 (lv_at hl 5 rfl) ?_
                          refine lv_iload_n hx hb d_M_rank_168 rfl (lv_at hl 3 rfl) ?_
                          refine xcv (wc := [(g, .inr (2, [.int cd, .int (nI d), .ref mm, .int ik, .ref kf, .ref tb, .int rw, .ref wk, .int ab, .int be, .ref pl, .ref sp, .int a0, .int a1, .int b0, .int b1, .ref po, .ref to, .ref ba, .ref li, .int lm])), (wk, LA cJ 20 W5)]) (wr := [(mm, IA cI 16 Fm)]) hP hD hS hA [0, 2] [1] rfl rfl (by decide) (by decide) (va_runV (As := [.int (nI pp), .int (nI r)]) (rest := []) ⟨hx, hb, hml, hown, hts⟩ (r_swap l D cJ cI g cd d ik rw ab be a0 a1 b0 b1 lm mm kf tb wk pl sp po to ba li W5 pp r (by first | assumption | omega) (by first | assumption | omega) H.size) (cwV 2 hts (gV tw_503 tw_505 tws_24 tw_3 tw_506) rfl rfl rfl ⟨rfl, hd_M_swapRows⟩ ⟨Nat.le_of_ble_eq_true rfl, Nat.le_of_ble_eq_true rfl⟩) (xPreV (C := R_M) (T := F_M) (N := 21) (q0 := 0) hN hK (hP.sub (ws' := [(g, .inr (2, [.int cd, .int (nI d), .ref mm, .int ik, .ref kf, .ref tb, .int rw, .ref wk, .int ab, .int be, .ref pl, .ref sp, .int a0, .int a1, .int b0, .int b1, .ref po, .ref to, .ref ba, .ref li, .int lm])), (wk, LA cJ 20 W5)]) [0, 2] rfl) (hD.sub (ws' := [(g, .inr (2, [.int cd, .int (nI d), .ref mm, .int ik, .ref kf, .ref tb, .int rw, .ref wk, .int ab, .int be, .ref pl, .ref sp, .int a0, .int a1, .int b0, .int b1, .ref po, .ref to, .ref ba, .ref li, .int lm])), (wk, LA cJ 20 W5)]) [0, 2] (by decide) rfl) rfl rfl) rfl rfl hl.1 rfl (lv_room (Nat.le_of_ble_eq_true rfl)) d_M_rank_169 ⟨Nat.le_of_ble_eq_true rfl, Nat.le_of_ble_eq_true rfl⟩) (fun u_8 H locs hsw hP hD hS => ?_)
                          obtain ⟨W6, rfl⟩ : ∃ z, z = u_8 := ⟨_, rfl⟩
                          try dsimp only at hsw
                          have hP : va_P D vwC [(g, .inr (2, [.int cd, .int (nI d), .ref mm, .int ik, .ref kf, .ref tb, .int rw, .ref wk, .int ab, .int be, .ref pl, .ref sp, .int a0, .int a1, .int b0, .int b1, .ref po, .ref to, .ref ba, .ref li, .int lm])), (mm, IA cI 16 Fm), (wk, LA cJ 20 W6)] H := hP.sub [1, 0, 2] rfl
                          have hD : va_D A [(g, .inr (2, [.int cd, .int (nI d), .ref mm, .int ik, .ref kf, .ref tb, .int rw, .ref wk, .int ab, .int be, .ref pl, .ref sp, .int a0, .int a1, .int b0, .int b1, .ref po, .ref to, .ref ba, .ref li, .int lm])), (mm, IA cI 16 Fm), (wk, LA cJ 20 W6)] := hD.sub [1, 0, 2] (by decide) rfl
                          refine lv_iload_n hx hb d_M_rank_172 rfl (lv_at hl 3 rfl) ?_
                          refine lv_iconst (v := nI 1) hx hb d_M_rank_173 (by decide) ?_
                          refine xn_add hx hb d_M_rank_174 ?_
                          refine lv_istore (lv' := [(6, .int (nI (r + 1))), (0, .ref g), (1, .int (nI 0)), (2, .int (nI d)), (3, .int (nI r)), (4, .int (nI co)), (5, .int (nI pp))]) hx hb d_M_rank_175 hl (by decide) rfl (fun ls hl => ?_)
                          have lp_177 : ∀ (n_177 : Nat) (i : Nat) (W7 : Nat → Int) (H : Heap) (locs : List Loc) (ls : Array Slot), (r + 1 ≤ i) → (i ≤ d) → (∀ x y, x < d → y < d → (r < x ∧ x < i → W7 (5 * x + y) = W6 (5 * x + y) * W6 (5 * r + co) - W6 (5 * x + co) * W6 (5 * r + y)) ∧ (¬ (r < x ∧ x < i) → W7 (5 * x + y) = W6 (5 * x + y))) → (zEq d (d) (mw W7) (rkF Fm d)) → (d - i) < n_177 → va_P D vwC [(g, .inr (2, [.int cd, .int (nI d), .ref mm, .int ik, .ref kf, .ref tb, .int rw, .ref wk, .int ab, .int be, .ref pl, .ref sp, .int a0, .int a1, .int b0, .int b1, .ref po, .ref to, .ref ba, .ref li, .int lm])), (mm, IA cI 16 Fm), (wk, LA cJ 20 W7)] H → va_D A [(g, .inr (2, [.int cd, .int (nI d), .ref mm, .int ik, .ref kf, .ref tb, .int rw, .ref wk, .int ab, .int be, .ref pl, .ref sp, .int a0, .int a1, .int b0, .int b1, .ref po, .ref to, .ref ba, .ref li, .int lm])), (mm, IA cI 16 Fm), (wk, LA cJ 20 W7)] → va_S A s.heap H locs → lv_has ls 10 [(0, .ref g), (1, .int (nI 0)), (2, .int (nI d)), (3, .int (nI r)), (4, .int (nI co)), (6, .int (nI i))] → W p l e rm_r_rank0 s m args below meth c H locs 0 0 Q (F0 m 177 ls []) := by
                            intro n_177
                            induction n_177 with
                            | zero => intro i W7 H locs ls hi1 hi2 hel hz7 hn_177; exact absurd hn_177 (Nat.not_lt_zero _)
                            | succ n_177 ih_177 =>
                              intro i W7 H locs ls hi1 hi2 hel hz7 hn_177 hP hD hS hl
                              refine lv_iload hx hb d_M_rank_177 (lv_at hl 5 rfl) ?_
                              refine lv_aload_n hx hb d_M_rank_179 rfl (lv_at hl 0 rfl) ?_
                              refine va_get (D := D) (ci := 2) (v := .int (nI d)) (C := R_M) (T := F_M) (N := 21) hx hb hts iw_M hown hK hP 0 rfl rfl 1 (by decide) (hts _ tw_388) (fun _ h9 => h9) rfl d_M_rank_180 ?_
                              refine xn_ge (tgt := 272) hx hb (by omega) (by omega) d_M_rank_183 (by decide) (fun c183_8 => ?_) (fun c183_8 => ?_)
                              · skip
                                refine lv_iinc (v := nI (r + 1)) (lv' := [(3, .int (nI (r + 1))), (0, .ref g), (1, .int (nI 0)), (2, .int (nI d)), (4, .int (nI co)), (6, .int (nI i))]) hx hb d_M_rank_272 hl (k := 3) rfl (nI_add _ _) (by decide) rfl (fun ls hl => ?_)
                                refine lv_iinc (v := nI (co + 1)) (lv' := [(4, .int (nI (co + 1))), (3, .int (nI (r + 1))), (0, .ref g), (1, .int (nI 0)), (2, .int (nI d)), (6, .int (nI i))]) hx hb d_M_rank_275 hl (k := 4) rfl (nI_add _ _) (by decide) rfl (fun ls hl => ?_)
                                refine lv_goto (tgt := 104) hx hb d_M_rank_278 (by decide) ?_
                                have hel9 : ∀ x y, x < d → y < d → (r < x → W7 (5 * x + y) = W6 (5 * x + y) * W6 (5 * r + co) - W6 (5 * x + co) * W6 (5 * r + y)) ∧ (¬ r < x → W7 (5 * x + y) = W6 (5 * x + y)) := fun x y hx2 hy2 => ⟨fun q => (hel x y hx2 hy2).1 ⟨q, by omega⟩, fun q => (hel x y hx2 hy2).2 (fun z => q z.1)⟩
                                exact ih_104 (co + 1) (r + 1) W7 H locs ls (by omega) (by omega) (piv_B (p := pp) (d := d) hd3 (by omega) (show co < d by omega) (by omega) hp1 (by omega) hBd hsw hel9) (ech_piv (p := pp) (n := d) hd3 (by omega) (by omega) hE hp1 (by omega) hsw hel9 hnz) hz7 (by omega) hP hD hS (lv_sub hl [2, 3, 4, 1, 0] rfl)
                              · skip
                                refine lv_aload_n hx hb d_M_rank_186 rfl (lv_at hl 0 rfl) ?_
                                refine va_get (D := D) (ci := 2) (v := .ref wk) (C := R_M) (T := F_M) (N := 21) hx hb hts iw_M hown hK hP 0 rfl rfl 7 (by decide) (hts _ tw_394) (fun _ h9 => h9) rfl d_M_rank_187 ?_
                                refine lv_iconst (v := nI 5) hx hb d_M_rank_190 (by decide) ?_
                                refine lv_iload hx hb d_M_rank_191 (lv_at hl 5 rfl) ?_
                                refine xn_mul hx hb d_M_rank_193 ?_
                                refine lv_iload hx hb d_M_rank_194 (lv_at hl 4 rfl) ?_
                                refine xn_add hx hb d_M_rank_196 ?_
                                refine xl_ald hx hb hK hP 2 0 rfl rfl (k := (5 * i) + co) (by omega) (by first | decide | omega) d_M_rank_197 ?_
                                refine lv_lstore (lv' := [(7, .long (lI (W7 ((5 * i) + co)))), (0, .ref g), (1, .int (nI 0)), (2, .int (nI d)), (3, .int (nI r)), (4, .int (nI co)), (6, .int (nI i))]) hx hb d_M_rank_198 hl (by decide) rfl (fun ls hl => ?_)
                                refine lv_iconst (v := nI 0) hx hb d_M_rank_200 (by decide) ?_
                                refine lv_istore (lv' := [(9, .int (nI 0)), (7, .long (lI (W7 ((5 * i) + co)))), (0, .ref g), (1, .int (nI 0)), (2, .int (nI d)), (3, .int (nI r)), (4, .int (nI co)), (6, .int (nI i))]) hx hb d_M_rank_201 hl (by decide) rfl (fun ls hl => ?_)
                                have lp_203 : ∀ (n_203 : Nat) (j : Nat) (W8 : Nat → Int) (H : Heap) (locs : List Loc) (ls : Array Slot), (j ≤ d) → (∀ x y, x < d → y < d → ((x = i ∧ y < j) → W8 (5 * x + y) = W7 (5 * x + y) * W7 (5 * r + co) - W7 (5 * i + co) * W7 (5 * r + y)) ∧ (¬ (x = i ∧ y < j) → W8 (5 * x + y) = W7 (5 * x + y))) → (d - j) < n_203 → va_P D vwC [(g, .inr (2, [.int cd, .int (nI d), .ref mm, .int ik, .ref kf, .ref tb, .int rw, .ref wk, .int ab, .int be, .ref pl, .ref sp, .int a0, .int a1, .int b0, .int b1, .ref po, .ref to, .ref ba, .ref li, .int lm])), (mm, IA cI 16 Fm), (wk, LA cJ 20 W8)] H → va_D A [(g, .inr (2, [.int cd, .int (nI d), .ref mm, .int ik, .ref kf, .ref tb, .int rw, .ref wk, .int ab, .int be, .ref pl, .ref sp, .int a0, .int a1, .int b0, .int b1, .ref po, .ref to, .ref ba, .ref li, .int lm])), (mm, IA cI 16 Fm), (wk, LA cJ 20 W8)] → va_S A s.heap H locs → lv_has ls 10 [(0, .ref g), (1, .int (nI 0)), (2, .int (nI d)), (3, .int (nI r)), (4, .int (nI co)), (6, .int (nI i)), (7, .long (lI (W7 (5 * i + co)))), (9, .int (nI j))] → W p l e rm_r_rank0 s m args below meth c H locs 0 0 Q (F0 m 203 ls []) := by
                                  intro n_203
                                  induction n_203 with
                                  | zero => intro j W8 H locs ls hj hin hn_203; exact absurd hn_203 (Nat.not_lt_zero _)
                                  | succ n_203 ih_203 =>
                                    intro j W8 H locs ls hj hin hn_203 hP hD hS hl
                                    refine lv_iload hx hb d_M_rank_203 (lv_at hl 7 rfl) ?_
                                    refine lv_iload_n hx hb d_M_rank_205 rfl (lv_at hl 2 rfl) ?_
                                    refine xn_ge (tgt := 266) hx hb (by omega) (by omega) d_M_rank_206 (by decide) (fun c206_9 => ?_) (fun c206_9 => ?_)
                                    · skip
                                      refine lv_iinc (v := nI (i + 1)) (lv' := [(6, .int (nI (i + 1))), (0, .ref g), (1, .int (nI 0)), (2, .int (nI d)), (3, .int (nI r)), (4, .int (nI co)), (7, .long (lI (W7 (5 * i + co)))), (9, .int (nI j))]) hx hb d_M_rank_266 hl (k := 5) rfl (nI_add _ _) (by decide) rfl (fun ls hl => ?_)
                                      refine lv_goto (tgt := 177) hx hb d_M_rank_269 (by decide) ?_
                                      have hj9 : j = d := by omega
                                      have hrc : W7 (5 * r + co) ≠ 0 := by rw [(hel r co (by omega) (by omega)).2 (by omega), hsw r co (by omega) (by omega), swp_r]; exact hnz
                                      have hz8 : zEq d (d) (mw W8) (mw W7) := z_op (i0 := i) (r0 := r) (p := W7 (5 * r + co)) (f := W7 (5 * i + co)) hd3 (by omega) (by omega) (by omega) hrc (fun y hy2 => (hin i y (by omega) hy2).1 ⟨rfl, by omega⟩) (fun x y hx2 hne hy2 => (hin x y hx2 hy2).2 (fun z => hne z.1))
                                      exact ih_177 (i + 1) W8 H locs ls (by omega) (by omega) (fun x y hx2 hy2 => by by_cases z : x = i; rw [z, (hin i y (by omega) hy2).1 ⟨rfl, by omega⟩, (hel i y (by omega) hy2).2 (by omega), (hel r co (by omega) (by omega)).2 (by omega), (hel i co (by omega) (by omega)).2 (by omega), (hel r y (by omega) hy2).2 (by omega)]; exact ⟨fun _ => rfl, fun q => absurd ⟨by omega, by omega⟩ q⟩; rw [(hin x y hx2 hy2).2 (fun q => z q.1)]; exact ⟨fun q => (hel x y hx2 hy2).1 (by omega), fun q => (hel x y hx2 hy2).2 (by omega)⟩) (zEq_trans hz8 hz7) (by omega) hP hD hS (lv_sub hl [1, 2, 3, 4, 5, 0] rfl)
                                    · skip
                                      refine lv_aload_n hx hb d_M_rank_209 rfl (lv_at hl 0 rfl) ?_
                                      refine va_get (D := D) (ci := 2) (v := .ref wk) (C := R_M) (T := F_M) (N := 21) hx hb hts iw_M hown hK hP 0 rfl rfl 7 (by decide) (hts _ tw_394) (fun _ h9 => h9) rfl d_M_rank_210 ?_
                                      refine lv_iconst (v := nI 5) hx hb d_M_rank_213 (by decide) ?_
                                      refine lv_iload hx hb d_M_rank_214 (lv_at hl 5 rfl) ?_
                                      refine xn_mul hx hb d_M_rank_216 ?_
                                      refine lv_iload hx hb d_M_rank_217 (lv_at hl 7 rfl) ?_
                                      refine xn_add hx hb d_M_rank_219 ?_
                                      refine lv_aload_n hx hb d_M_rank_220 rfl (lv_at hl 0 rfl) ?_
                                      refine va_get (D := D) (ci := 2) (v := .ref wk) (C := R_M) (T := F_M) (N := 21) hx hb hts iw_M hown hK hP 0 rfl rfl 7 (by decide) (hts _ tw_394) (fun _ h9 => h9) rfl d_M_rank_221 ?_
                                      refine lv_iconst (v := nI 5) hx hb d_M_rank_224 (by decide) ?_
                                      refine lv_iload hx hb d_M_rank_225 (lv_at hl 5 rfl) ?_
                                      refine xn_mul hx hb d_M_rank_227 ?_
                                      refine lv_iload hx hb d_M_rank_228 (lv_at hl 7 rfl) ?_
                                      refine xn_add hx hb d_M_rank_230 ?_
                                      refine xl_ald hx hb hK hP 2 0 rfl rfl (k := (5 * i) + j) (by omega) (by first | decide | omega) d_M_rank_231 ?_
                                      refine lv_aload_n hx hb d_M_rank_232 rfl (lv_at hl 0 rfl) ?_
                                      refine va_get (D := D) (ci := 2) (v := .ref wk) (C := R_M) (T := F_M) (N := 21) hx hb hts iw_M hown hK hP 0 rfl rfl 7 (by decide) (hts _ tw_394) (fun _ h9 => h9) rfl d_M_rank_233 ?_
                                      refine lv_iconst (v := nI 5) hx hb d_M_rank_236 (by decide) ?_
                                      refine lv_iload_n hx hb d_M_rank_237 rfl (lv_at hl 3 rfl) ?_
                                      refine xn_mul hx hb d_M_rank_238 ?_
                                      refine lv_iload hx hb d_M_rank_239 (lv_at hl 4 rfl) ?_
                                      refine xn_add hx hb d_M_rank_241 ?_
                                      refine xl_ald hx hb hK hP 2 0 rfl rfl (k := (5 * r) + co) (by omega) (by first | decide | omega) d_M_rank_242 ?_
                                      refine xl_mul hx hb d_M_rank_243 ?_
                                      refine lv_lload hx hb d_M_rank_244 (lv_at hl 6 rfl) ?_
                                      refine lv_aload_n hx hb d_M_rank_246 rfl (lv_at hl 0 rfl) ?_
                                      refine va_get (D := D) (ci := 2) (v := .ref wk) (C := R_M) (T := F_M) (N := 21) hx hb hts iw_M hown hK hP 0 rfl rfl 7 (by decide) (hts _ tw_394) (fun _ h9 => h9) rfl d_M_rank_247 ?_
                                      refine lv_iconst (v := nI 5) hx hb d_M_rank_250 (by decide) ?_
                                      refine lv_iload_n hx hb d_M_rank_251 rfl (lv_at hl 3 rfl) ?_
                                      refine xn_mul hx hb d_M_rank_252 ?_
                                      refine lv_iload hx hb d_M_rank_253 (lv_at hl 7 rfl) ?_
                                      refine xn_add hx hb d_M_rank_255 ?_
                                      refine xl_ald hx hb hK hP 2 0 rfl rfl (k := (5 * r) + j) (by omega) (by first | decide | omega) d_M_rank_256 ?_
                                      refine xl_mul hx hb d_M_rank_257 ?_
                                      refine xl_sub hx hb d_M_rank_258 ?_
                                      refine xl_ast hx hb hK hP hD hS 2 0 rfl rfl (k := (5 * i) + j) (by omega) (by first | decide | omega) d_M_rank_259 (fun H locs hP hD hS => ?_)
                                      have hP : va_P D vwC [(g, .inr (2, [.int cd, .int (nI d), .ref mm, .int ik, .ref kf, .ref tb, .int rw, .ref wk, .int ab, .int be, .ref pl, .ref sp, .int a0, .int a1, .int b0, .int b1, .ref po, .ref to, .ref ba, .ref li, .int lm])), (mm, IA cI 16 Fm), (wk, LA cJ 20 (upZ W8 ((5 * i) + j) (((W8 ((5 * i) + j)) * (W8 ((5 * r) + co))) - ((W7 (5 * i + co)) * (W8 ((5 * r) + j))))))] H := hP
                                      have hD : va_D A [(g, .inr (2, [.int cd, .int (nI d), .ref mm, .int ik, .ref kf, .ref tb, .int rw, .ref wk, .int ab, .int be, .ref pl, .ref sp, .int a0, .int a1, .int b0, .int b1, .ref po, .ref to, .ref ba, .ref li, .int lm])), (mm, IA cI 16 Fm), (wk, LA cJ 20 (upZ W8 ((5 * i) + j) (((W8 ((5 * i) + j)) * (W8 ((5 * r) + co))) - ((W7 (5 * i + co)) * (W8 ((5 * r) + j))))))] := hD
                                      refine lv_iinc (v := nI (j + 1)) (lv' := [(9, .int (nI (j + 1))), (0, .ref g), (1, .int (nI 0)), (2, .int (nI d)), (3, .int (nI r)), (4, .int (nI co)), (6, .int (nI i)), (7, .long (lI (W7 (5 * i + co))))]) hx hb d_M_rank_260 hl (k := 7) rfl (nI_add _ _) (by decide) rfl (fun ls hl => ?_)
                                      refine lv_goto (tgt := 203) hx hb d_M_rank_263 (by decide) ?_
                                      exact ih_203 (j + 1) (upZ W8 ((5 * i) + j) (((W8 ((5 * i) + j)) * (W8 ((5 * r) + co))) - ((W7 (5 * i + co)) * (W8 ((5 * r) + j))))) H locs ls (by omega) (fun x y hx2 hy2 => by by_cases z : x = i ∧ y = j; obtain ⟨rfl, rfl⟩ := z; rw [upZ_at, (hin x y hx2 hy2).2 (by omega), (hin r co (by omega) (by omega)).2 (by omega), (hin r y (by omega) hy2).2 (by omega)]; exact ⟨fun _ => rfl, fun q => absurd ⟨rfl, by omega⟩ q⟩; rw [upZ_ne (k := 5 * i + j) (j := 5 * x + y) _ _ (by omega)]; exact ⟨fun q => (hin x y hx2 hy2).1 (by omega), fun q => (hin x y hx2 hy2).2 (by omega)⟩) (by omega) hP hD hS (lv_sub hl [1, 2, 3, 4, 5, 6, 7, 0] rfl)
                                exact lp_203 ((d - 0) + 1) 0 W7 H locs ls (Nat.zero_le _) (fun x y _ _ => ⟨fun q => absurd q.2 (Nat.not_lt_zero _), fun _ => rfl⟩) (by omega) hP hD hS (lv_sub hl [2, 3, 4, 5, 6, 7, 1, 0] rfl)
                          exact lp_177 ((d - (r + 1)) + 1) (r + 1) W6 H locs ls (Nat.le_refl _) (by omega) (fun x y _ _ => ⟨fun q => absurd q.2 (by omega), fun _ => rfl⟩) (zEq_trans (z_swap (M := mw W5) (a := pp) (b := r) hd3 hpd (by omega) (fun x y hx2 hy2 => hsw x y (by omega) (by omega))) hZ) (by omega) hP hD hS (lv_sub hl [1, 2, 3, 4, 5, 0] rfl)
                        · skip
                          refine lv_goto (tgt := 275) hx hb d_M_rank_162 (by decide) ?_
                          refine lv_iinc (v := nI (co + 1)) (lv' := [(4, .int (nI (co + 1))), (0, .ref g), (1, .int (nI 0)), (2, .int (nI d)), (3, .int (nI r)), (5, .int (nI pp))]) hx hb d_M_rank_275 hl (k := 4) rfl (nI_add _ _) (by decide) rfl (fun ls hl => ?_)
                          refine lv_goto (tgt := 104) hx hb d_M_rank_278 (by decide) ?_
                          exact ih_104 (co + 1) r W5 H locs ls (by omega) hr hBd (ech_skip hE (fun x q1 q2 => hp0 x q1 (by omega))) hZ (by omega) hP hD hS (lv_sub hl [1, 2, 3, 4, 0] rfl)
                      · skip
                        refine lv_aload_n hx hb d_M_rank_130 rfl (lv_at hl 0 rfl) ?_
                        refine va_get (D := D) (ci := 2) (v := .ref wk) (C := R_M) (T := F_M) (N := 21) hx hb hts iw_M hown hK hP 0 rfl rfl 7 (by decide) (hts _ tw_394) (fun _ h9 => h9) rfl d_M_rank_131 ?_
                        refine lv_iconst (v := nI 5) hx hb d_M_rank_134 (by decide) ?_
                        refine lv_iload hx hb d_M_rank_135 (lv_at hl 5 rfl) ?_
                        refine xn_mul hx hb d_M_rank_137 ?_
                        refine lv_iload hx hb d_M_rank_138 (lv_at hl 4 rfl) ?_
                        refine xn_add hx hb d_M_rank_140 ?_
                        refine xl_ald hx hb hK hP 2 0 rfl rfl (k := (5 * pp) + co) (by omega) (by first | decide | omega) d_M_rank_141 ?_
                        refine lv_lconst (v := lI 0) hx hb d_M_rank_142 (by decide) ?_
                        refine xl_ne (tgt := 153) hx hb (lB_of (hBd _ _ (by omega) (by omega)) (rB_l r)) ⟨by decide, by decide⟩ d_M_rank_143 d_M_rank_144 (by decide) (fun c144_10 => ?_) (fun c144_10 => ?_)
                        · skip
                          refine lv_iload hx hb d_M_rank_153 (lv_at hl 5 rfl) ?_
                          refine lv_aload_n hx hb d_M_rank_155 rfl (lv_at hl 0 rfl) ?_
                          refine va_get (D := D) (ci := 2) (v := .int (nI d)) (C := R_M) (T := F_M) (N := 21) hx hb hts iw_M hown hK hP 0 rfl rfl 1 (by decide) (hts _ tw_388) (fun _ h9 => h9) rfl d_M_rank_156 ?_
                          refine xn_ne (tgt := 165) hx hb (by omega) (by omega) d_M_rank_159 (by decide) (fun c159_11 => ?_) (fun c159_11 => ?_)
                          · skip
                            have hpd : pp < d := by omega
                            have hnz : W5 (5 * pp + co) ≠ 0 := by first | omega | assumption
                            refine lv_aload_n hx hb d_M_rank_165 rfl (lv_at hl 0 rfl) ?_
                            refine lv_iload hx hb d_M_rank_166 (lv_at hl 5 rfl) ?_
                            refine lv_iload_n hx hb d_M_rank_168 rfl (lv_at hl 3 rfl) ?_
                            refine xcv (wc := [(g, .inr (2, [.int cd, .int (nI d), .ref mm, .int ik, .ref kf, .ref tb, .int rw, .ref wk, .int ab, .int be, .ref pl, .ref sp, .int a0, .int a1, .int b0, .int b1, .ref po, .ref to, .ref ba, .ref li, .int lm])), (wk, LA cJ 20 W5)]) (wr := [(mm, IA cI 16 Fm)]) hP hD hS hA [0, 2] [1] rfl rfl (by decide) (by decide) (va_runV (As := [.int (nI pp), .int (nI r)]) (rest := []) ⟨hx, hb, hml, hown, hts⟩ (r_swap l D cJ cI g cd d ik rw ab be a0 a1 b0 b1 lm mm kf tb wk pl sp po to ba li W5 pp r (by first | assumption | omega) (by first | assumption | omega) H.size) (cwV 2 hts (gV tw_503 tw_505 tws_24 tw_3 tw_506) rfl rfl rfl ⟨rfl, hd_M_swapRows⟩ ⟨Nat.le_of_ble_eq_true rfl, Nat.le_of_ble_eq_true rfl⟩) (xPreV (C := R_M) (T := F_M) (N := 21) (q0 := 0) hN hK (hP.sub (ws' := [(g, .inr (2, [.int cd, .int (nI d), .ref mm, .int ik, .ref kf, .ref tb, .int rw, .ref wk, .int ab, .int be, .ref pl, .ref sp, .int a0, .int a1, .int b0, .int b1, .ref po, .ref to, .ref ba, .ref li, .int lm])), (wk, LA cJ 20 W5)]) [0, 2] rfl) (hD.sub (ws' := [(g, .inr (2, [.int cd, .int (nI d), .ref mm, .int ik, .ref kf, .ref tb, .int rw, .ref wk, .int ab, .int be, .ref pl, .ref sp, .int a0, .int a1, .int b0, .int b1, .ref po, .ref to, .ref ba, .ref li, .int lm])), (wk, LA cJ 20 W5)]) [0, 2] (by decide) rfl) rfl rfl) rfl rfl hl.1 rfl (lv_room (Nat.le_of_ble_eq_true rfl)) d_M_rank_169 ⟨Nat.le_of_ble_eq_true rfl, Nat.le_of_ble_eq_true rfl⟩) (fun u_14 H locs hsw hP hD hS => ?_)
                            obtain ⟨W6, rfl⟩ : ∃ z, z = u_14 := ⟨_, rfl⟩
                            try dsimp only at hsw
                            have hP : va_P D vwC [(g, .inr (2, [.int cd, .int (nI d), .ref mm, .int ik, .ref kf, .ref tb, .int rw, .ref wk, .int ab, .int be, .ref pl, .ref sp, .int a0, .int a1, .int b0, .int b1, .ref po, .ref to, .ref ba, .ref li, .int lm])), (mm, IA cI 16 Fm), (wk, LA cJ 20 W6)] H := hP.sub [1, 0, 2] rfl
                            have hD : va_D A [(g, .inr (2, [.int cd, .int (nI d), .ref mm, .int ik, .ref kf, .ref tb, .int rw, .ref wk, .int ab, .int be, .ref pl, .ref sp, .int a0, .int a1, .int b0, .int b1, .ref po, .ref to, .ref ba, .ref li, .int lm])), (mm, IA cI 16 Fm), (wk, LA cJ 20 W6)] := hD.sub [1, 0, 2] (by decide) rfl
                            refine lv_iload_n hx hb d_M_rank_172 rfl (lv_at hl 3 rfl) ?_
                            refine lv_iconst (v := nI 1) hx hb d_M_rank_173 (by decide) ?_
                            refine xn_add hx hb d_M_rank_174 ?_
                            refine lv_istore (lv' := [(6, .int (nI (r + 1))), (0, .ref g), (1, .int (nI 0)), (2, .int (nI d)), (3, .int (nI r)), (4, .int (nI co)), (5, .int (nI pp))]) hx hb d_M_rank_175 hl (by decide) rfl (fun ls hl => ?_)
                            have lp_177 : ∀ (n_177 : Nat) (i : Nat) (W7 : Nat → Int) (H : Heap) (locs : List Loc) (ls : Array Slot), (r + 1 ≤ i) → (i ≤ d) → (∀ x y, x < d → y < d → (r < x ∧ x < i → W7 (5 * x + y) = W6 (5 * x + y) * W6 (5 * r + co) - W6 (5 * x + co) * W6 (5 * r + y)) ∧ (¬ (r < x ∧ x < i) → W7 (5 * x + y) = W6 (5 * x + y))) → (zEq d (d) (mw W7) (rkF Fm d)) → (d - i) < n_177 → va_P D vwC [(g, .inr (2, [.int cd, .int (nI d), .ref mm, .int ik, .ref kf, .ref tb, .int rw, .ref wk, .int ab, .int be, .ref pl, .ref sp, .int a0, .int a1, .int b0, .int b1, .ref po, .ref to, .ref ba, .ref li, .int lm])), (mm, IA cI 16 Fm), (wk, LA cJ 20 W7)] H → va_D A [(g, .inr (2, [.int cd, .int (nI d), .ref mm, .int ik, .ref kf, .ref tb, .int rw, .ref wk, .int ab, .int be, .ref pl, .ref sp, .int a0, .int a1, .int b0, .int b1, .ref po, .ref to, .ref ba, .ref li, .int lm])), (mm, IA cI 16 Fm), (wk, LA cJ 20 W7)] → va_S A s.heap H locs → lv_has ls 10 [(0, .ref g), (1, .int (nI 0)), (2, .int (nI d)), (3, .int (nI r)), (4, .int (nI co)), (6, .int (nI i))] → W p l e rm_r_rank0 s m args below meth c H locs 0 0 Q (F0 m 177 ls []) := by
                              intro n_177
                              induction n_177 with
                              | zero => intro i W7 H locs ls hi1 hi2 hel hz7 hn_177; exact absurd hn_177 (Nat.not_lt_zero _)
                              | succ n_177 ih_177 =>
                                intro i W7 H locs ls hi1 hi2 hel hz7 hn_177 hP hD hS hl
                                refine lv_iload hx hb d_M_rank_177 (lv_at hl 5 rfl) ?_
                                refine lv_aload_n hx hb d_M_rank_179 rfl (lv_at hl 0 rfl) ?_
                                refine va_get (D := D) (ci := 2) (v := .int (nI d)) (C := R_M) (T := F_M) (N := 21) hx hb hts iw_M hown hK hP 0 rfl rfl 1 (by decide) (hts _ tw_388) (fun _ h9 => h9) rfl d_M_rank_180 ?_
                                refine xn_ge (tgt := 272) hx hb (by omega) (by omega) d_M_rank_183 (by decide) (fun c183_14 => ?_) (fun c183_14 => ?_)
                                · skip
                                  refine lv_iinc (v := nI (r + 1)) (lv' := [(3, .int (nI (r + 1))), (0, .ref g), (1, .int (nI 0)), (2, .int (nI d)), (4, .int (nI co)), (6, .int (nI i))]) hx hb d_M_rank_272 hl (k := 3) rfl (nI_add _ _) (by decide) rfl (fun ls hl => ?_)
                                  refine lv_iinc (v := nI (co + 1)) (lv' := [(4, .int (nI (co + 1))), (3, .int (nI (r + 1))), (0, .ref g), (1, .int (nI 0)), (2, .int (nI d)), (6, .int (nI i))]) hx hb d_M_rank_275 hl (k := 4) rfl (nI_add _ _) (by decide) rfl (fun ls hl => ?_)
                                  refine lv_goto (tgt := 104) hx hb d_M_rank_278 (by decide) ?_
                                  have hel9 : ∀ x y, x < d → y < d → (r < x → W7 (5 * x + y) = W6 (5 * x + y) * W6 (5 * r + co) - W6 (5 * x + co) * W6 (5 * r + y)) ∧ (¬ r < x → W7 (5 * x + y) = W6 (5 * x + y)) := fun x y hx2 hy2 => ⟨fun q => (hel x y hx2 hy2).1 ⟨q, by omega⟩, fun q => (hel x y hx2 hy2).2 (fun z => q z.1)⟩
                                  exact ih_104 (co + 1) (r + 1) W7 H locs ls (by omega) (by omega) (piv_B (p := pp) (d := d) hd3 (by omega) (show co < d by omega) (by omega) hp1 (by omega) hBd hsw hel9) (ech_piv (p := pp) (n := d) hd3 (by omega) (by omega) hE hp1 (by omega) hsw hel9 hnz) hz7 (by omega) hP hD hS (lv_sub hl [2, 3, 4, 1, 0] rfl)
                                · skip
                                  refine lv_aload_n hx hb d_M_rank_186 rfl (lv_at hl 0 rfl) ?_
                                  refine va_get (D := D) (ci := 2) (v := .ref wk) (C := R_M) (T := F_M) (N := 21) hx hb hts iw_M hown hK hP 0 rfl rfl 7 (by decide) (hts _ tw_394) (fun _ h9 => h9) rfl d_M_rank_187 ?_
                                  refine lv_iconst (v := nI 5) hx hb d_M_rank_190 (by decide) ?_
                                  refine lv_iload hx hb d_M_rank_191 (lv_at hl 5 rfl) ?_
                                  refine xn_mul hx hb d_M_rank_193 ?_
                                  refine lv_iload hx hb d_M_rank_194 (lv_at hl 4 rfl) ?_
                                  refine xn_add hx hb d_M_rank_196 ?_
                                  refine xl_ald hx hb hK hP 2 0 rfl rfl (k := (5 * i) + co) (by omega) (by first | decide | omega) d_M_rank_197 ?_
                                  refine lv_lstore (lv' := [(7, .long (lI (W7 ((5 * i) + co)))), (0, .ref g), (1, .int (nI 0)), (2, .int (nI d)), (3, .int (nI r)), (4, .int (nI co)), (6, .int (nI i))]) hx hb d_M_rank_198 hl (by decide) rfl (fun ls hl => ?_)
                                  refine lv_iconst (v := nI 0) hx hb d_M_rank_200 (by decide) ?_
                                  refine lv_istore (lv' := [(9, .int (nI 0)), (7, .long (lI (W7 ((5 * i) + co)))), (0, .ref g), (1, .int (nI 0)), (2, .int (nI d)), (3, .int (nI r)), (4, .int (nI co)), (6, .int (nI i))]) hx hb d_M_rank_201 hl (by decide) rfl (fun ls hl => ?_)
                                  have lp_203 : ∀ (n_203 : Nat) (j : Nat) (W8 : Nat → Int) (H : Heap) (locs : List Loc) (ls : Array Slot), (j ≤ d) → (∀ x y, x < d → y < d → ((x = i ∧ y < j) → W8 (5 * x + y) = W7 (5 * x + y) * W7 (5 * r + co) - W7 (5 * i + co) * W7 (5 * r + y)) ∧ (¬ (x = i ∧ y < j) → W8 (5 * x + y) = W7 (5 * x + y))) → (d - j) < n_203 → va_P D vwC [(g, .inr (2, [.int cd, .int (nI d), .ref mm, .int ik, .ref kf, .ref tb, .int rw, .ref wk, .int ab, .int be, .ref pl, .ref sp, .int a0, .int a1, .int b0, .int b1, .ref po, .ref to, .ref ba, .ref li, .int lm])), (mm, IA cI 16 Fm), (wk, LA cJ 20 W8)] H → va_D A [(g, .inr (2, [.int cd, .int (nI d), .ref mm, .int ik, .ref kf, .ref tb, .int rw, .ref wk, .int ab, .int be, .ref pl, .ref sp, .int a0, .int a1, .int b0, .int b1, .ref po, .ref to, .ref ba, .ref li, .int lm])), (mm, IA cI 16 Fm), (wk, LA cJ 20 W8)] → va_S A s.heap H locs → lv_has ls 10 [(0, .ref g), (1, .int (nI 0)), (2, .int (nI d)), (3, .int (nI r)), (4, .int (nI co)), (6, .int (nI i)), (7, .long (lI (W7 (5 * i + co)))), (9, .int (nI j))] → W p l e rm_r_rank0 s m args below meth c H locs 0 0 Q (F0 m 203 ls []) := by
                                    intro n_203
                                    induction n_203 with
                                    | zero => intro j W8 H locs ls hj hin hn_203; exact absurd hn_203 (Nat.not_lt_zero _)
                                    | succ n_203 ih_203 =>
                                      intro j W8 H locs ls hj hin hn_203 hP hD hS hl
                                      refine lv_iload hx hb d_M_rank_203 (lv_at hl 7 rfl) ?_
                                      refine lv_iload_n hx hb d_M_rank_205 rfl (lv_at hl 2 rfl) ?_
                                      refine xn_ge (tgt := 266) hx hb (by omega) (by omega) d_M_rank_206 (by decide) (fun c206_15 => ?_) (fun c206_15 => ?_)
                                      · skip
                                        refine lv_iinc (v := nI (i + 1)) (lv' := [(6, .int (nI (i + 1))), (0, .ref g), (1, .int (nI 0)), (2, .int (nI d)), (3, .int (nI r)), (4, .int (nI co)), (7, .long (lI (W7 (5 * i + co)))), (9, .int (nI j))]) hx hb d_M_rank_266 hl (k := 5) rfl (nI_add _ _) (by decide) rfl (fun ls hl => ?_)
                                        refine lv_goto (tgt := 177) hx hb d_M_rank_269 (by decide) ?_
                                        have hj9 : j = d := by omega
                                        have hrc : W7 (5 * r + co) ≠ 0 := by rw [(hel r co (by omega) (by omega)).2 (by omega), hsw r co (by omega) (by omega), swp_r]; exact hnz
                                        have hz8 : zEq d (d) (mw W8) (mw W7) := z_op (i0 := i) (r0 := r) (p := W7 (5 * r + co)) (f := W7 (5 * i + co)) hd3 (by omega) (by omega) (by omega) hrc (fun y hy2 => (hin i y (by omega) hy2).1 ⟨rfl, by omega⟩) (fun x y hx2 hne hy2 => (hin x y hx2 hy2).2 (fun z => hne z.1))
                                        exact ih_177 (i + 1) W8 H locs ls (by omega) (by omega) (fun x y hx2 hy2 => by by_cases z : x = i; rw [z, (hin i y (by omega) hy2).1 ⟨rfl, by omega⟩, (hel i y (by omega) hy2).2 (by omega), (hel r co (by omega) (by omega)).2 (by omega), (hel i co (by omega) (by omega)).2 (by omega), (hel r y (by omega) hy2).2 (by omega)]; exact ⟨fun _ => rfl, fun q => absurd ⟨by omega, by omega⟩ q⟩; rw [(hin x y hx2 hy2).2 (fun q => z q.1)]; exact ⟨fun q => (hel x y hx2 hy2).1 (by omega), fun q => (hel x y hx2 hy2).2 (by omega)⟩) (zEq_trans hz8 hz7) (by omega) hP hD hS (lv_sub hl [1, 2, 3, 4, 5, 0] rfl)
                                      · skip
                                        refine lv_aload_n hx hb d_M_rank_209 rfl (lv_at hl 0 rfl) ?_
                                        refine va_get (D := D) (ci := 2) (v := .ref wk) (C := R_M) (T := F_M) (N := 21) hx hb hts iw_M hown hK hP 0 rfl rfl 7 (by decide) (hts _ tw_394) (fun _ h9 => h9) rfl d_M_rank_210 ?_
                                        refine lv_iconst (v := nI 5) hx hb d_M_rank_213 (by decide) ?_
                                        refine lv_iload hx hb d_M_rank_214 (lv_at hl 5 rfl) ?_
                                        refine xn_mul hx hb d_M_rank_216 ?_
                                        refine lv_iload hx hb d_M_rank_217 (lv_at hl 7 rfl) ?_
                                        refine xn_add hx hb d_M_rank_219 ?_
                                        refine lv_aload_n hx hb d_M_rank_220 rfl (lv_at hl 0 rfl) ?_
                                        refine va_get (D := D) (ci := 2) (v := .ref wk) (C := R_M) (T := F_M) (N := 21) hx hb hts iw_M hown hK hP 0 rfl rfl 7 (by decide) (hts _ tw_394) (fun _ h9 => h9) rfl d_M_rank_221 ?_
                                        refine lv_iconst (v := nI 5) hx hb d_M_rank_224 (by decide) ?_
                                        refine lv_iload hx hb d_M_rank_225 (lv_at hl 5 rfl) ?_
                                        refine xn_mul hx hb d_M_rank_227 ?_
                                        refine lv_iload hx hb d_M_rank_228 (lv_at hl 7 rfl) ?_
                                        refine xn_add hx hb d_M_rank_230 ?_
                                        refine xl_ald hx hb hK hP 2 0 rfl rfl (k := (5 * i) + j) (by omega) (by first | decide | omega) d_M_rank_231 ?_
                                        refine lv_aload_n hx hb d_M_rank_232 rfl (lv_at hl 0 rfl) ?_
                                        refine va_get (D := D) (ci := 2) (v := .ref wk) (C := R_M) (T := F_M) (N := 21) hx hb hts iw_M hown hK hP 0 rfl rfl 7 (by decide) (hts _ tw_394) (fun _ h9 => h9) rfl d_M_rank_233 ?_
                                        refine lv_iconst (v := nI 5) hx hb d_M_rank_236 (by decide) ?_
                                        refine lv_iload_n hx hb d_M_rank_237 rfl (lv_at hl 3 rfl) ?_
                                        refine xn_mul hx hb d_M_rank_238 ?_
                                        refine lv_iload hx hb d_M_rank_239 (lv_at hl 4 rfl) ?_
                                        refine xn_add hx hb d_M_rank_241 ?_
                                        refine xl_ald hx hb hK hP 2 0 rfl rfl (k := (5 * r) + co) (by omega) (by first | decide | omega) d_M_rank_242 ?_
                                        refine xl_mul hx hb d_M_rank_243 ?_
                                        refine lv_lload hx hb d_M_rank_244 (lv_at hl 6 rfl) ?_
                                        refine lv_aload_n hx hb d_M_rank_246 rfl (lv_at hl 0 rfl) ?_
                                        refine va_get (D := D) (ci := 2) (v := .ref wk) (C := R_M) (T := F_M) (N := 21) hx hb hts iw_M hown hK hP 0 rfl rfl 7 (by decide) (hts _ tw_394) (fun _ h9 => h9) rfl d_M_rank_247 ?_
                                        refine lv_iconst (v := nI 5) hx hb d_M_rank_250 (by decide) ?_
                                        refine lv_iload_n hx hb d_M_rank_251 rfl (lv_at hl 3 rfl) ?_
                                        refine xn_mul hx hb d_M_rank_252 ?_
                                        refine lv_iload hx hb d_M_rank_253 (lv_at hl 7 rfl) ?_
                                        refine xn_add hx hb d_M_rank_255 ?_
                                        refine xl_ald hx hb hK hP 2 0 rfl rfl (k := (5 * r) + j) (by omega) (by first | decide | omega) d_M_rank_256 ?_
                                        refine xl_mul hx hb d_M_rank_257 ?_
                                        refine xl_sub hx hb d_M_rank_258 ?_
                                        refine xl_ast hx hb hK hP hD hS 2 0 rfl rfl (k := (5 * i) + j) (by omega) (by first | decide | omega) d_M_rank_259 (fun H locs hP hD hS => ?_)
                                        have hP : va_P D vwC [(g, .inr (2, [.int cd, .int (nI d), .ref mm, .int ik, .ref kf, .ref tb, .int rw, .ref wk, .int ab, .int be, .ref pl, .ref sp, .int a0, .int a1, .int b0, .int b1, .ref po, .ref to, .ref ba, .ref li, .int lm])), (mm, IA cI 16 Fm), (wk, LA cJ 20 (upZ W8 ((5 * i) + j) (((W8 ((5 * i) + j)) * (W8 ((5 * r) + co))) - ((W7 (5 * i + co)) * (W8 ((5 * r) + j))))))] H := hP
                                        have hD : va_D A [(g, .inr (2, [.int cd, .int (nI d), .ref mm, .int ik, .ref kf, .ref tb, .int rw, .ref wk, .int ab, .int be, .ref pl, .ref sp, .int a0, .int a1, .int b0, .int b1, .ref po, .ref to, .ref ba, .ref li, .int lm])), (mm, IA cI 16 Fm), (wk, LA cJ 20 (upZ W8 ((5 * i) + j) (((W8 ((5 * i) + j)) * (W8 ((5 * r) + co))) - ((W7 (5 * i + co)) * (W8 ((5 * r) + j))))))] := hD
                                        refine lv_iinc (v := nI (j + 1)) (lv' := [(9, .int (nI (j + 1))), (0, .ref g), (1, .int (nI 0)), (2, .int (nI d)), (3, .int (nI r)), (4, .int (nI co)), (6, .int (nI i)), (7, .long (lI (W7 (5 * i + co))))]) hx hb d_M_rank_260 hl (k := 7) rfl (nI_add _ _) (by decide) rfl (fun ls hl => ?_)
                                        refine lv_goto (tgt := 203) hx hb d_M_rank_263 (by decide) ?_
                                        exact ih_203 (j + 1) (upZ W8 ((5 * i) + j) (((W8 ((5 * i) + j)) * (W8 ((5 * r) + co))) - ((W7 (5 * i + co)) * (W8 ((5 * r) + j))))) H locs ls (by omega) (fun x y hx2 hy2 => by by_cases z : x = i ∧ y = j; obtain ⟨rfl, rfl⟩ := z; rw [upZ_at, (hin x y hx2 hy2).2 (by omega), (hin r co (by omega) (by omega)).2 (by omega), (hin r y (by omega) hy2).2 (by omega)]; exact ⟨fun _ => rfl, fun q => absurd ⟨rfl, by omega⟩ q⟩; rw [upZ_ne (k := 5 * i + j) (j := 5 * x + y) _ _ (by omega)]; exact ⟨fun q => (hin x y hx2 hy2).1 (by omega), fun q => (hin x y hx2 hy2).2 (by omega)⟩) (by omega) hP hD hS (lv_sub hl [1, 2, 3, 4, 5, 6, 7, 0] rfl)
                                  exact lp_203 ((d - 0) + 1) 0 W7 H locs ls (Nat.zero_le _) (fun x y _ _ => ⟨fun q => absurd q.2 (Nat.not_lt_zero _), fun _ => rfl⟩) (by omega) hP hD hS (lv_sub hl [2, 3, 4, 5, 6, 7, 1, 0] rfl)
                            exact lp_177 ((d - (r + 1)) + 1) (r + 1) W6 H locs ls (Nat.le_refl _) (by omega) (fun x y _ _ => ⟨fun q => absurd q.2 (by omega), fun _ => rfl⟩) (zEq_trans (z_swap (M := mw W5) (a := pp) (b := r) hd3 hpd (by omega) (fun x y hx2 hy2 => hsw x y (by omega) (by omega))) hZ) (by omega) hP hD hS (lv_sub hl [1, 2, 3, 4, 5, 0] rfl)
                          · skip
                            refine lv_goto (tgt := 275) hx hb d_M_rank_162 (by decide) ?_
                            refine lv_iinc (v := nI (co + 1)) (lv' := [(4, .int (nI (co + 1))), (0, .ref g), (1, .int (nI 0)), (2, .int (nI d)), (3, .int (nI r)), (5, .int (nI pp))]) hx hb d_M_rank_275 hl (k := 4) rfl (nI_add _ _) (by decide) rfl (fun ls hl => ?_)
                            refine lv_goto (tgt := 104) hx hb d_M_rank_278 (by decide) ?_
                            exact ih_104 (co + 1) r W5 H locs ls (by omega) hr hBd (ech_skip hE (fun x q1 q2 => hp0 x q1 (by omega))) hZ (by omega) hP hD hS (lv_sub hl [1, 2, 3, 4, 0] rfl)
                        · skip
                          refine lv_iinc (v := nI (pp + 1)) (lv' := [(5, .int (nI (pp + 1))), (0, .ref g), (1, .int (nI 0)), (2, .int (nI d)), (3, .int (nI r)), (4, .int (nI co))]) hx hb d_M_rank_147 hl (k := 5) rfl (nI_add _ _) (by decide) rfl (fun ls hl => ?_)
                          refine lv_goto (tgt := 121) hx hb d_M_rank_150 (by decide) ?_
                          exact ih_121 (pp + 1) H locs ls (by omega) (by omega) (fun x q1 q2 => by by_cases z : x = pp; rw [z]; exact c144_10; exact hp0 x q1 (by omega)) (by omega) hP hD hS (lv_sub hl [1, 2, 3, 4, 5, 0] rfl)
                  exact lp_121 ((d - r) + 1) r H locs ls (Nat.le_refl _) (by omega) (fun x q1 q2 => absurd q1 (by omega)) (by omega) hP hD hS (lv_sub hl [1, 2, 3, 4, 5, 0] rfl)
          exact lp_104 ((d - 0) + 1) 0 0 W3 H locs ls (Nat.zero_le _) (Nat.zero_le _) (fun x y hx2 hy2 => by rw [h1 x y (by omega) hy2]; exact rkF_B hd3 hx2 hF) (ech_0 _ _) (zEq_congr (fun x y hx2 hy2 => h1 x y (by omega) hy2)) (by omega) hP hD hS (lv_sub hl [2, 3, 4, 1, 0] rfl)
        · skip
          refine lv_iconst (v := nI 0) hx hb d_M_rank_28 (by decide) ?_
          refine lv_istore (lv' := [(4, .int (nI 0)), (0, .ref g), (1, .int (nI 0)), (2, .int (nI d)), (3, .int (nI i))]) hx hb d_M_rank_29 hl (by decide) rfl (fun ls hl => ?_)
          have lp_31 : ∀ (n_31 : Nat) (j : Nat) (W4 : Nat → Int) (H : Heap) (locs : List Loc) (ls : Array Slot), (j ≤ d) → (∀ x y, (x < i ∧ y < d) ∨ (x = i ∧ y < j) → W4 (5 * x + y) = rkF Fm d x y) → (d - j) < n_31 → va_P D vwC [(g, .inr (2, [.int cd, .int (nI d), .ref mm, .int ik, .ref kf, .ref tb, .int rw, .ref wk, .int ab, .int be, .ref pl, .ref sp, .int a0, .int a1, .int b0, .int b1, .ref po, .ref to, .ref ba, .ref li, .int lm])), (mm, IA cI 16 Fm), (wk, LA cJ 20 W4)] H → va_D A [(g, .inr (2, [.int cd, .int (nI d), .ref mm, .int ik, .ref kf, .ref tb, .int rw, .ref wk, .int ab, .int be, .ref pl, .ref sp, .int a0, .int a1, .int b0, .int b1, .ref po, .ref to, .ref ba, .ref li, .int lm])), (mm, IA cI 16 Fm), (wk, LA cJ 20 W4)] → va_S A s.heap H locs → lv_has ls 10 [(0, .ref g), (1, .int (nI 0)), (2, .int (nI d)), (3, .int (nI i)), (4, .int (nI j))] → W p l e rm_r_rank0 s m args below meth c H locs 0 0 Q (F0 m 31 ls []) := by
            intro n_31
            induction n_31 with
            | zero => intro j W4 H locs ls hj h2 hn_31; exact absurd hn_31 (Nat.not_lt_zero _)
            | succ n_31 ih_31 =>
              intro j W4 H locs ls hj h2 hn_31 hP hD hS hl
              refine lv_iload hx hb d_M_rank_31 (lv_at hl 4 rfl) ?_
              refine lv_iload_n hx hb d_M_rank_33 rfl (lv_at hl 2 rfl) ?_
              refine xn_ge (tgt := 93) hx hb (by omega) (by omega) d_M_rank_34 (by decide) (fun c34_16 => ?_) (fun c34_16 => ?_)
              · skip
                refine lv_iinc (v := nI (i + 1)) (lv' := [(3, .int (nI (i + 1))), (0, .ref g), (1, .int (nI 0)), (2, .int (nI d)), (4, .int (nI j))]) hx hb d_M_rank_93 hl (k := 3) rfl (nI_add _ _) (by decide) rfl (fun ls hl => ?_)
                refine lv_goto (tgt := 20) hx hb d_M_rank_96 (by decide) ?_
                exact ih_20 (i + 1) W4 H locs ls (by omega) (fun x y hx2 hy2 => h2 x y (by omega)) (by omega) hP hD hS (lv_sub hl [1, 2, 3, 0] rfl)
              · skip
                refine lv_aload_n hx hb d_M_rank_37 rfl (lv_at hl 0 rfl) ?_
                refine va_get (D := D) (ci := 2) (v := .ref wk) (C := R_M) (T := F_M) (N := 21) hx hb hts iw_M hown hK hP 0 rfl rfl 7 (by decide) (hts _ tw_394) (fun _ h9 => h9) rfl d_M_rank_38 ?_
                refine lv_iconst (v := nI 5) hx hb d_M_rank_41 (by decide) ?_
                refine lv_iload_n hx hb d_M_rank_42 rfl (lv_at hl 3 rfl) ?_
                refine xn_mul hx hb d_M_rank_43 ?_
                refine lv_iload hx hb d_M_rank_44 (lv_at hl 4 rfl) ?_
                refine xn_add hx hb d_M_rank_46 ?_
                refine lv_iload hx hb d_M_rank_47 (lv_at hl 4 rfl) ?_
                refine lv_aload_n hx hb d_M_rank_49 rfl (lv_at hl 0 rfl) ?_
                refine va_get (D := D) (ci := 2) (v := .int (nI d)) (C := R_M) (T := F_M) (N := 21) hx hb hts iw_M hown hK hP 0 rfl rfl 1 (by decide) (hts _ tw_388) (fun _ h9 => h9) rfl d_M_rank_50 ?_
                refine xn_ge (tgt := 75) hx hb (by omega) (by omega) d_M_rank_53 (by decide) (fun c53_17 => ?_) (fun c53_17 => ?_)
                · skip
                  refine lv_aload_n hx hb d_M_rank_75 rfl (lv_at hl 0 rfl) ?_
                  refine va_get (D := D) (ci := 2) (v := .ref mm) (C := R_M) (T := F_M) (N := 21) hx hb hts iw_M hown hK hP 0 rfl rfl 2 (by decide) (hts _ tw_389) (fun _ h9 => h9) rfl d_M_rank_76 ?_
                  refine lv_iconst (v := nI 4) hx hb d_M_rank_79 (by decide) ?_
                  refine lv_iload_n hx hb d_M_rank_80 rfl (lv_at hl 3 rfl) ?_
                  refine lv_iconst (v := nI 1) hx hb d_M_rank_81 (by decide) ?_
                  refine xn_add hx hb d_M_rank_82 ?_
                  refine xn_mul hx hb d_M_rank_83 ?_
                  refine xi_ald hx hb hK hP 1 1 rfl rfl (k := 4 * (i + 1)) (by omega) (by first | decide | omega) d_M_rank_84 ?_
                  refine lv_i2l (v := lI (Fm (4 * (i + 1)))) hx hb d_M_rank_85 (iI_i2l (iB_of (hF _ (by omega)) (by decide))) ?_
                  refine xl_ast hx hb hK hP hD hS 2 0 rfl rfl (k := (5 * i) + j) (by omega) (by first | decide | omega) d_M_rank_86 (fun H locs hP hD hS => ?_)
                  have hP : va_P D vwC [(g, .inr (2, [.int cd, .int (nI d), .ref mm, .int ik, .ref kf, .ref tb, .int rw, .ref wk, .int ab, .int be, .ref pl, .ref sp, .int a0, .int a1, .int b0, .int b1, .ref po, .ref to, .ref ba, .ref li, .int lm])), (mm, IA cI 16 Fm), (wk, LA cJ 20 (upZ W4 ((5 * i) + j) (Fm (4 * (i + 1)))))] H := hP
                  have hD : va_D A [(g, .inr (2, [.int cd, .int (nI d), .ref mm, .int ik, .ref kf, .ref tb, .int rw, .ref wk, .int ab, .int be, .ref pl, .ref sp, .int a0, .int a1, .int b0, .int b1, .ref po, .ref to, .ref ba, .ref li, .int lm])), (mm, IA cI 16 Fm), (wk, LA cJ 20 (upZ W4 ((5 * i) + j) (Fm (4 * (i + 1)))))] := hD
                  refine lv_iinc (v := nI (j + 1)) (lv' := [(4, .int (nI (j + 1))), (0, .ref g), (1, .int (nI 0)), (2, .int (nI d)), (3, .int (nI i))]) hx hb d_M_rank_87 hl (k := 4) rfl (nI_add _ _) (by decide) rfl (fun ls hl => ?_)
                  refine lv_goto (tgt := 31) hx hb d_M_rank_90 (by decide) ?_
                  exact ih_31 (j + 1) (upZ W4 ((5 * i) + j) (Fm (4 * (i + 1)))) H locs ls (by omega) (fun x y q => by by_cases z : x = i ∧ y = j; obtain ⟨rfl, rfl⟩ := z; rw [upZ_at]; unfold rkF; rw [if_neg (show ¬ y < d from by omega)]; rw [upZ_ne (k := 5 * i + j) (j := 5 * x + y) _ _ (by omega)]; exact h2 x y (by omega)) (by omega) hP hD hS (lv_sub hl [1, 2, 3, 4, 0] rfl)
                · skip
                  refine lv_aload_n hx hb d_M_rank_56 rfl (lv_at hl 0 rfl) ?_
                  refine va_get (D := D) (ci := 2) (v := .ref mm) (C := R_M) (T := F_M) (N := 21) hx hb hts iw_M hown hK hP 0 rfl rfl 2 (by decide) (hts _ tw_389) (fun _ h9 => h9) rfl d_M_rank_57 ?_
                  refine lv_iconst (v := nI 4) hx hb d_M_rank_60 (by decide) ?_
                  refine lv_iload_n hx hb d_M_rank_61 rfl (lv_at hl 3 rfl) ?_
                  refine lv_iconst (v := nI 1) hx hb d_M_rank_62 (by decide) ?_
                  refine xn_add hx hb d_M_rank_63 ?_
                  refine xn_mul hx hb d_M_rank_64 ?_
                  refine lv_iload hx hb d_M_rank_65 (lv_at hl 4 rfl) ?_
                  refine xn_add hx hb d_M_rank_67 ?_
                  refine lv_iconst (v := nI 1) hx hb d_M_rank_68 (by decide) ?_
                  refine xn_add hx hb d_M_rank_69 ?_
                  refine xi_ald hx hb hK hP 1 1 rfl rfl (k := ((4 * (i + 1)) + j) + 1) (by omega) (by first | decide | omega) d_M_rank_70 ?_
                  refine lv_i2l (v := lI (Fm (((4 * (i + 1)) + j) + 1))) hx hb d_M_rank_71 (iI_i2l (iB_of (hF _ (by omega)) (by decide))) ?_
                  refine lv_goto (tgt := 86) hx hb d_M_rank_72 (by decide) ?_
                  refine xl_ast hx hb hK hP hD hS 2 0 rfl rfl (k := (5 * i) + j) (by omega) (by first | decide | omega) d_M_rank_86 (fun H locs hP hD hS => ?_)
                  have hP : va_P D vwC [(g, .inr (2, [.int cd, .int (nI d), .ref mm, .int ik, .ref kf, .ref tb, .int rw, .ref wk, .int ab, .int be, .ref pl, .ref sp, .int a0, .int a1, .int b0, .int b1, .ref po, .ref to, .ref ba, .ref li, .int lm])), (mm, IA cI 16 Fm), (wk, LA cJ 20 (upZ W4 ((5 * i) + j) (Fm (((4 * (i + 1)) + j) + 1))))] H := hP
                  have hD : va_D A [(g, .inr (2, [.int cd, .int (nI d), .ref mm, .int ik, .ref kf, .ref tb, .int rw, .ref wk, .int ab, .int be, .ref pl, .ref sp, .int a0, .int a1, .int b0, .int b1, .ref po, .ref to, .ref ba, .ref li, .int lm])), (mm, IA cI 16 Fm), (wk, LA cJ 20 (upZ W4 ((5 * i) + j) (Fm (((4 * (i + 1)) + j) + 1))))] := hD
                  refine lv_iinc (v := nI (j + 1)) (lv' := [(4, .int (nI (j + 1))), (0, .ref g), (1, .int (nI 0)), (2, .int (nI d)), (3, .int (nI i))]) hx hb d_M_rank_87 hl (k := 4) rfl (nI_add _ _) (by decide) rfl (fun ls hl => ?_)
                  refine lv_goto (tgt := 31) hx hb d_M_rank_90 (by decide) ?_
                  exact ih_31 (j + 1) (upZ W4 ((5 * i) + j) (Fm (((4 * (i + 1)) + j) + 1))) H locs ls (by omega) (fun x y q => by by_cases z : x = i ∧ y = j; obtain ⟨rfl, rfl⟩ := z; rw [upZ_at]; unfold rkF; rw [if_pos (show y < d from by omega)]; rw [upZ_ne (k := 5 * i + j) (j := 5 * x + y) _ _ (by omega)]; exact h2 x y (by omega)) (by omega) hP hD hS (lv_sub hl [1, 2, 3, 4, 0] rfl)
          exact lp_31 ((d - 0) + 1) 0 W3 H locs ls (Nat.zero_le _) (fun x y q => h1 x y (by omega) (by omega)) (by omega) hP hD hS (lv_sub hl [1, 2, 3, 4, 0] rfl)
    exact lp_20 ((d - 0) + 1) 0 W0 H locs ls (Nat.zero_le _) (fun x y q => absurd q (Nat.not_lt_zero _)) (by omega) hP hD hS (lv_sub hl [2, 3, 1, 0] rfl)
  rw [hH, hlc] at key; exact key

def rm_r_middles : Room := { frames := 2, cells := 0, slots := 0, locals := 54 }
set_option maxHeartbeats 4000000 in
set_option maxRecDepth 100000 in
/-- middles -/
theorem r_middles (l : Launch) (D : va_G) (cJ cI : ClassId) (g : Nat) (cd : Int32) (d : Nat) (ik : Int32) (rw : Int32) (ab : Int32) (be : Int32) (a0 : Int32) (a1 : Int32) (b0 : Int32) (b1 : Int32) (lm : Int32) (mm : Nat) (kf : Nat) (tb : Nat) (wk : Nat) (pl : Nat) (sp : Nat) (po : Nat) (to : Nat) (ba : Nat) (li : Nat) (Fm : Nat → Int) (W0 : Nat → Int) (hd2 : 2 ≤ d) (hd3 : d ≤ 3) (hF : ∀ k, k < 16 → inB (Fm k) 20) (sz : Nat) : xMi l y_M_middles (Cond.code y_M_middles b_M_middles 2 (some .int) :: tW) rm_r_middles [.ref g] D vwC [(cJ, .long), (cI, .int)] sz [(g, .inr (2, [.int cd, .int (nI d), .ref mm, .int ik, .ref kf, .ref tb, .int rw, .ref wk, .int ab, .int be, .ref pl, .ref sp, .int a0, .int a1, .int b0, .int b1, .ref po, .ref to, .ref ba, .ref li, .int lm])), (mm, IA cI 16 Fm), (wk, LA cJ 20 W0)] (fun (rv : Int32) (uo : Nat × Nat × (Nat → Int)) => rv = (if uo.1 = uo.2.1 then nI (d - uo.1) else -3) ∧ (rkP (rkF Fm d) d d uo.1 ∧ rkP (rkF Fm d) d (d + 1) uo.2.1)) (fun (uo : Nat × Nat × (Nat → Int)) => [(g, .inr (2, [.int (nI 0), .int (nI d), .ref mm, .int ik, .ref kf, .ref tb, .int rw, .ref wk, .int ab, .int be, .ref pl, .ref sp, .int a0, .int a1, .int b0, .int b1, .ref po, .ref to, .ref ba, .ref li, .int lm])), (mm, IA cI 16 Fm), (wk, LA cJ 20 uo.2.2)]) 0 0 := by
  refine xoi (cc := b_M_middles) (maxL := 2) (by decide) rfl (Nat.le_of_ble_eq_true rfl) ?_
  intro p e s m args below meth c Q A hx hb hml hts hown hN hA hS hP hK hD hret ls hl
  have hl : lv_has ls 2 [(0, .ref g)] := hl
  obtain ⟨H, hH⟩ : ∃ z, z = s.heap := ⟨_, rfl⟩
  obtain ⟨locs, hlc⟩ : ∃ z : List Loc, z = [] := ⟨_, rfl⟩
  rw [← hH] at hP
  have hS : va_S A s.heap H locs := by rw [hH, hlc]; exact hS
  have key : W p l e rm_r_middles s m args below meth c H locs 0 0 Q (F0 m 0 ls []) := by
    refine lv_aload_n hx hb d_M_middles_0 rfl (lv_at hl 0 rfl) ?_
    refine lv_iconst (v := nI 0) hx hb d_M_middles_1 (by decide) ?_
    refine va_put (D := D) (ci := 2) (v := .int (nI 0)) (ty := .int) (C := R_M) (T := F_M) (N := 21) hx hb hts iw_M ft_M ft_M_ok n_M hown hK hP hD hS 0 rfl rfl 0 (by decide) (hts _ tw_387) (fun _ h9 => h9) rfl (by decide +kernel) rfl rfl (Nat.le_of_ble_eq_true rfl) d_M_middles_2 (fun H locs hP hD hS => ?_)
    have hP : va_P D vwC [(g, .inr (2, [.int (nI 0), .int (nI d), .ref mm, .int ik, .ref kf, .ref tb, .int rw, .ref wk, .int ab, .int be, .ref pl, .ref sp, .int a0, .int a1, .int b0, .int b1, .ref po, .ref to, .ref ba, .ref li, .int lm])), (mm, IA cI 16 Fm), (wk, LA cJ 20 W0)] H := hP
    have hD : va_D A [(g, .inr (2, [.int (nI 0), .int (nI d), .ref mm, .int ik, .ref kf, .ref tb, .int rw, .ref wk, .int ab, .int be, .ref pl, .ref sp, .int a0, .int a1, .int b0, .int b1, .ref po, .ref to, .ref ba, .ref li, .int lm])), (mm, IA cI 16 Fm), (wk, LA cJ 20 W0)] := hD
    refine lv_aload_n hx hb d_M_middles_5 rfl (lv_at hl 0 rfl) ?_
    refine lv_iconst (v := nI 0) hx hb d_M_middles_6 (by decide) ?_
    refine xci (wc := [(g, .inr (2, [.int (nI 0), .int (nI d), .ref mm, .int ik, .ref kf, .ref tb, .int rw, .ref wk, .int ab, .int be, .ref pl, .ref sp, .int a0, .int a1, .int b0, .int b1, .ref po, .ref to, .ref ba, .ref li, .int lm])), (mm, IA cI 16 Fm), (wk, LA cJ 20 W0)]) (wr := []) hP hD hS hA [0, 1, 2] [] rfl rfl (by decide) (by decide) (va_runV (As := [.int (nI 0)]) (rest := []) ⟨hx, hb, hml, hown, hts⟩ (r_rank0 l D cJ cI g (nI 0) d ik rw ab be a0 a1 b0 b1 lm mm kf tb wk pl sp po to ba li Fm W0 (by first | assumption | omega) (by first | assumption | omega) (by first | assumption | omega) H.size) (cwV 1 hts (gV tw_523 tw_525 tws_26 tw_3 tw_526) rfl rfl rfl ⟨rfl, hd_M_rank⟩ ⟨Nat.le_of_ble_eq_true rfl, Nat.le_of_ble_eq_true rfl⟩) (xPreV (C := R_M) (T := F_M) (N := 21) (q0 := 0) hN hK (hP.sub (ws' := [(g, .inr (2, [.int (nI 0), .int (nI d), .ref mm, .int ik, .ref kf, .ref tb, .int rw, .ref wk, .int ab, .int be, .ref pl, .ref sp, .int a0, .int a1, .int b0, .int b1, .ref po, .ref to, .ref ba, .ref li, .int lm])), (mm, IA cI 16 Fm), (wk, LA cJ 20 W0)]) [0, 1, 2] rfl) (hD.sub (ws' := [(g, .inr (2, [.int (nI 0), .int (nI d), .ref mm, .int ik, .ref kf, .ref tb, .int rw, .ref wk, .int ab, .int be, .ref pl, .ref sp, .int a0, .int a1, .int b0, .int b1, .ref po, .ref to, .ref ba, .ref li, .int lm])), (mm, IA cI 16 Fm), (wk, LA cJ 20 W0)]) [0, 1, 2] (by decide) rfl) rfl rfl) rfl rfl hl.1 rfl (lv_room (Nat.le_of_ble_eq_true rfl)) d_M_middles_7 ⟨Nat.le_of_ble_eq_true rfl, Nat.le_of_ble_eq_true rfl⟩) (fun r_1 u_2 H locs hk1 hP hD hS => ?_)
    obtain ⟨ra, W2_3⟩ := u_2
    try dsimp only at hk1
    have hP : va_P D vwC [(g, .inr (2, [.int (nI 0), .int (nI d), .ref mm, .int ik, .ref kf, .ref tb, .int rw, .ref wk, .int ab, .int be, .ref pl, .ref sp, .int a0, .int a1, .int b0, .int b1, .ref po, .ref to, .ref ba, .ref li, .int lm])), (mm, IA cI 16 Fm), (wk, LA cJ 20 W2_3)] H := hP
    have hD : va_D A [(g, .inr (2, [.int (nI 0), .int (nI d), .ref mm, .int ik, .ref kf, .ref tb, .int rw, .ref wk, .int ab, .int be, .ref pl, .ref sp, .int a0, .int a1, .int b0, .int b1, .ref po, .ref to, .ref ba, .ref li, .int lm])), (mm, IA cI 16 Fm), (wk, LA cJ 20 W2_3)] := hD
    obtain ⟨rfl, hk1⟩ := hk1
    refine lv_istore_n (lv' := [(1, .int (nI ra)), (0, .ref g)]) hx hb d_M_middles_10 rfl hl (by decide) rfl (fun ls hl => ?_)
    have hra := hk1.1
    refine lv_iload_n hx hb d_M_middles_11 rfl (lv_at hl 0 rfl) ?_
    refine lv_aload_n hx hb d_M_middles_12 rfl (lv_at hl 1 rfl) ?_
    refine lv_iconst (v := nI 1) hx hb d_M_middles_13 (by decide) ?_
    refine xci (wc := [(g, .inr (2, [.int (nI 0), .int (nI d), .ref mm, .int ik, .ref kf, .ref tb, .int rw, .ref wk, .int ab, .int be, .ref pl, .ref sp, .int a0, .int a1, .int b0, .int b1, .ref po, .ref to, .ref ba, .ref li, .int lm])), (mm, IA cI 16 Fm), (wk, LA cJ 20 W2_3)]) (wr := []) hP hD hS hA [0, 1, 2] [] rfl rfl (by decide) (by decide) (va_runV (As := [.int (nI 1)]) (rest := [.int (nI ra)]) ⟨hx, hb, hml, hown, hts⟩ (r_rank1 l D cJ cI g (nI 0) d ik rw ab be a0 a1 b0 b1 lm mm kf tb wk pl sp po to ba li Fm W2_3 (by first | assumption | omega) (by first | assumption | omega) (by first | assumption | omega) H.size) (cwV 1 hts (gV tw_523 tw_525 tws_26 tw_3 tw_526) rfl rfl rfl ⟨rfl, hd_M_rank⟩ ⟨Nat.le_of_ble_eq_true rfl, Nat.le_of_ble_eq_true rfl⟩) (xPreV (C := R_M) (T := F_M) (N := 21) (q0 := 0) hN hK (hP.sub (ws' := [(g, .inr (2, [.int (nI 0), .int (nI d), .ref mm, .int ik, .ref kf, .ref tb, .int rw, .ref wk, .int ab, .int be, .ref pl, .ref sp, .int a0, .int a1, .int b0, .int b1, .ref po, .ref to, .ref ba, .ref li, .int lm])), (mm, IA cI 16 Fm), (wk, LA cJ 20 W2_3)]) [0, 1, 2] rfl) (hD.sub (ws' := [(g, .inr (2, [.int (nI 0), .int (nI d), .ref mm, .int ik, .ref kf, .ref tb, .int rw, .ref wk, .int ab, .int be, .ref pl, .ref sp, .int a0, .int a1, .int b0, .int b1, .ref po, .ref to, .ref ba, .ref li, .int lm])), (mm, IA cI 16 Fm), (wk, LA cJ 20 W2_3)]) [0, 1, 2] (by decide) rfl) rfl rfl) rfl rfl hl.1 rfl (lv_room (Nat.le_of_ble_eq_true rfl)) d_M_middles_14 ⟨Nat.le_of_ble_eq_true rfl, Nat.le_of_ble_eq_true rfl⟩) (fun r_4 u_5 H locs hk2 hP hD hS => ?_)
    obtain ⟨rb, W2_6⟩ := u_5
    try dsimp only at hk2
    have hP : va_P D vwC [(g, .inr (2, [.int (nI 0), .int (nI d), .ref mm, .int ik, .ref kf, .ref tb, .int rw, .ref wk, .int ab, .int be, .ref pl, .ref sp, .int a0, .int a1, .int b0, .int b1, .ref po, .ref to, .ref ba, .ref li, .int lm])), (mm, IA cI 16 Fm), (wk, LA cJ 20 W2_6)] H := hP
    have hD : va_D A [(g, .inr (2, [.int (nI 0), .int (nI d), .ref mm, .int ik, .ref kf, .ref tb, .int rw, .ref wk, .int ab, .int be, .ref pl, .ref sp, .int a0, .int a1, .int b0, .int b1, .ref po, .ref to, .ref ba, .ref li, .int lm])), (mm, IA cI 16 Fm), (wk, LA cJ 20 W2_6)] := hD
    obtain ⟨rfl, hk2⟩ := hk2
    have hrb := hk2.1
    refine xn_ne (tgt := 29) hx hb (by omega) (by omega) d_M_middles_17 (by decide) (fun c17_6 => ?_) (fun c17_6 => ?_)
    · skip
      refine lv_bipush (v := (-3)) hx hb d_M_middles_29 (by decide) ?_
      exact hret H locs _ ls (-3) (ra, rb, W2_6) d_M_middles_31 (by first | exact ⟨(if_neg c17_6).symm, hk1, hk2⟩ | (dsimp only; exact ⟨(if_neg c17_6).symm, hk1, hk2⟩)) hP hD hS
    · skip
      refine lv_aload_n hx hb d_M_middles_20 rfl (lv_at hl 1 rfl) ?_
      refine va_get (D := D) (ci := 2) (v := .int (nI d)) (C := R_M) (T := F_M) (N := 21) hx hb hts iw_M hown hK hP 0 rfl rfl 1 (by decide) (hts _ tw_388) (fun _ h9 => h9) rfl d_M_middles_21 ?_
      refine lv_iload_n hx hb d_M_middles_24 rfl (lv_at hl 0 rfl) ?_
      refine xn_sub hx hb (by omega) d_M_middles_25 ?_
      refine lv_goto (tgt := 31) hx hb d_M_middles_26 (by decide) ?_
      exact hret H locs _ ls (nI (d - ra)) (ra, rb, W2_6) d_M_middles_31 (by first | exact ⟨(if_pos c17_6).symm, hk1, hk2⟩ | (dsimp only; exact ⟨(if_pos c17_6).symm, hk1, hk2⟩)) hP hD hS
  rw [hH, hlc] at key; exact key
