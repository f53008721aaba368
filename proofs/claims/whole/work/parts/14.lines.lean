/-! contracts of ConicKinds: lines (wip/spec_class5.py, specs5) -/
def rtOK (rt : Nat) (z : Int) : Prop := (1 ≤ rt ∧ rt ≤ 28 ∧ (rt : Int) * rt = z) ∨ (rt = 0 ∧ ∀ j : Nat, 1 ≤ j → j ≤ 28 → (j : Int) * j ≠ z)
def crs (p0 p1 p2 : Int) (a b : Nat) : Int := match a, b with
  | 0, 1 => -p2
  | 0, 2 => p1
  | 1, 0 => p2
  | 1, 2 => -p0
  | 2, 0 => -p1
  | 2, 1 => p0
  | _, _ => 0
def jlOK (U : Nat → Int) (kk rt : Nat) : Prop := kk ≤ 2 ∧ (∀ j, j < kk → adjM U 3 j j = 0) ∧ (kk < 2 → adjM U 3 kk kk ≠ 0) ∧ rtOK rt (-(adjM U 3 kk kk))
/-- the table that joinLines makes -/
def crsT (Fm : Nat → Int) (kk rt : Nat) : Nat → Int := fun q => (rt : Int) * Fm q + crs (adjM (prt Fm 0) 3 kk 0) (adjM (prt Fm 0) 3 kk 1) (adjM (prt Fm 0) 3 kk 2) (q / 4) (q % 4)
def rlOK (W : Nat → Int) (ln : Nat) (B1 B2 : Nat → Int) : Prop := ((∀ a b, a < 3 → b < 3 → W (4 * a + b) = 0) → ln = 0) ∧ (¬ (∀ a b, a < 3 → b < 3 → W (4 * a + b) = 0) → ln = 2 ∧ ∃ i j, i < 3 ∧ j < 3 ∧ W (4 * i + j) ≠ 0 ∧ ∀ k, k < 3 → B1 k = woN (fun q => W (4 * i + q)) 3 k ∧ B2 k = woN (fun q => W (4 * q + j)) 3 k)
def lnOne (G : Nat → Int) (ln : Nat) (B : Nat → Int) : Prop := (gcdN G 3 = 0 → ln = 0) ∧ (gcdN G 3 ≠ 0 → ln = 1 ∧ ∀ k, k < 3 → B k = woN G 3 k)
def lnTwo (Fm : Nat → Int) (ln : Nat) (B1 B2 : Nat → Int) : Prop := ∃ kk rt, jlOK (prt Fm 0) kk rt ∧ (rt = 0 → ln = 0) ∧ (rt ≠ 0 → rlOK (crsT Fm kk rt) ln B1 B2)
def row7 (Fm : Nat → Int) : Nat → Int := ptR 2 (Fm 0) (2 * Fm 1) (2 * Fm 2) 0
def row9 (Fm : Nat → Int) : Nat → Int := fun q => Fm (4 * (if Fm 5 ≠ 0 then 1 else 2) + q)
def lnOK (Fm : Nat → Int) (kd ln : Nat) (B1 B2 : Nat → Int) : Prop := (kd = 7 → lnOne (row7 Fm) ln B1) ∧ (kd = 9 → lnOne (row9 Fm) ln B1) ∧ (kd = 5 ∨ kd = 6 → lnTwo Fm ln B1 B2) ∧ (¬ (kd = 5 ∨ kd = 6 ∨ kd = 7 ∨ kd = 9) → ln = 0)
def lexB (L G : Nat → Int) : Prop := L 0 < G 0 ∨ (L 0 = G 0 ∧ (L 1 < G 1 ∨ (L 1 = G 1 ∧ L 2 < G 2)))
theorem crsT_B {Fm : Nat → Int} (hF : ∀ k, k < 16 → inB (Fm k) 20) {kk rt : Nat} (hk : kk ≤ 2) (hr : rt ≤ 28) : ∀ a b, a < 3 → b < 3 → inB (crsT Fm kk rt (4 * a + b)) 50000 := by
  intro a b ha hb
  unfold crsT
  rw [q4d a (show b < 4 by omega), q4m a (show b < 4 by omega)]
  have hA := fun c (hc : c < 3) => adjM_B (U := prt Fm 0) (r := 3) (i := kk) (j := c) (by decide) (by decide) (by omega) hc (enB_f hF (f := 0) (r := 3) (by decide))
  have hC : inB (crs (adjM (prt Fm 0) 3 kk 0) (adjM (prt Fm 0) 3 kk 1) (adjM (prt Fm 0) 3 kk 2) a b) 48000 := by
    have e0 := hA 0 (by decide)
    have e1 := hA 1 (by decide)
    have e2 := hA 2 (by decide)
    have z : inB (0 : Int) 48000 := ⟨by decide, by decide⟩
    have hA' : a = 0 ∨ a = 1 ∨ a = 2 := by omega
    have hB' : b = 0 ∨ b = 1 ∨ b = 2 := by omega
    rcases hA' with rfl | rfl | rfl <;> rcases hB' with rfl | rfl | rfl
    · exact z
    · exact negB e2
    · exact e1
    · exact e2
    · exact z
    · exact negB e0
    · exact negB e1
    · exact e0
    · exact z
  exact leB (addB (mulB (a := (rt : Int)) (A := 28) ⟨by omega, by omega⟩ (hF (4 * a + b) (by omega))) hC) (by decide)
theorem gcd_ne {G : Nat → Int} {n k : Nat} (hk : k < n) (h : G k ≠ 0) : gcdN G n ≠ 0 := by
  induction n with
  | zero => exact absurd hk (Nat.not_lt_zero _)
  | succ n ih =>
    show Nat.gcd (gcdN G n) (G n).natAbs ≠ 0
    intro q
    have q1 := (Nat.gcd_eq_zero_iff.mp q)
    by_cases e : k = n
    · subst e; exact h (Int.natAbs_eq_zero.mp q1.2)
    · exact ih (by omega) q1.1
noncomputable def lnPick (ln : Nat) (L1 L2 : Nat → Int) (k i : Nat) : Int := if k < ln then (@ite Int (ln = 1 ∨ (k = 0 ↔ lexB L1 L2)) (Classical.propDecidable _) (L1 i) (L2 i)) else NOZ
theorem lnPick_n {ln : Nat} {L1 L2 : Nat → Int} {k i : Nat} (h : ¬ k < ln) : lnPick ln L1 L2 k i = NOZ := if_neg h
theorem lnPick_1 {ln : Nat} {L1 L2 : Nat → Int} {k i : Nat} (h : k < ln) (q : ln = 1 ∨ (k = 0 ↔ lexB L1 L2)) : lnPick ln L1 L2 k i = L1 i := (if_pos h).trans (@if_pos _ (Classical.propDecidable _) q _ _ _)
theorem lnPick_2 {ln : Nat} {L1 L2 : Nat → Int} {k i : Nat} (h : k < ln) (q : ¬ (ln = 1 ∨ (k = 0 ↔ lexB L1 L2))) : lnPick ln L1 L2 k i = L2 i := (if_pos h).trans (@if_neg _ (Classical.propDecidable _) q _ _ _)
/-- what line answers -/
def s_line (Fm : Nat → Int) (d : Nat) (k i r : Int) : Prop := (¬ (d = 2 ∧ 0 ≤ k ∧ k ≤ 1 ∧ 0 ≤ i ∧ i ≤ 2) → r = NOZ) ∧ (d = 2 ∧ 0 ≤ k ∧ k ≤ 1 ∧ 0 ≤ i ∧ i ≤ 2 → ∃ (ln : Nat) (L1 L2 : Nat → Int), lnOK Fm (kindN Fm 2) ln L1 L2 ∧ r = lnPick ln L1 L2 k.toNat i.toNat)
theorem kiP_le (k : Nat) : kiP k ≤ 9 := by
  unfold kiP
  repeat' split
  all_goals decide

def rm_c_root : Room := { frames := 0, cells := 0, slots := 0, locals := 0 }
set_option maxHeartbeats 4000000 in
set_option maxRecDepth 100000 in
/-- the root -/
theorem c_root (l : Launch) (D : va_G) (cJ : ClassId) (z : Int) (hz : lB z) (sz : Nat) : xMi l y_K_rootOf (Cond.code y_K_rootOf b_K_rootOf 3 (some .int) :: tW) rm_c_root [.long (lI z)] D vwC [(cJ, .long)] sz [] (fun (rv : Int32) (uo : Nat) => rv = nI uo ∧ (rtOK uo z)) (fun (uo : Nat) => []) 0 0 := by
  refine xoi (cc := b_K_rootOf) (maxL := 3) (by decide) rfl (Nat.le_of_ble_eq_true rfl) ?_
  intro p e s m args below meth c Q A hx hb hml hts hown hN hA hS hP hK hD hret ls hl
  have hl : lv_has ls 3 [(0, .long (lI z))] := hl
  obtain ⟨H, hH⟩ : ∃ z, z = s.heap := ⟨_, rfl⟩
  obtain ⟨locs, hlc⟩ : ∃ z : List Loc, z = [] := ⟨_, rfl⟩
  rw [← hH] at hP
  have hS : va_S A s.heap H locs := by rw [hH, hlc]; exact hS
  have key : W p l e rm_c_root s m args below meth c H locs 0 0 Q (F0 m 0 ls []) := by
    refine lv_iconst (v := nI 1) hx hb d_K_rootOf_0 (by decide) ?_
    refine lv_istore_n (lv' := [(2, .int (nI 1)), (0, .long (lI z))]) hx hb d_K_rootOf_1 rfl hl (by decide) rfl (fun ls hl => ?_)
    have lp_2 : ∀ (n_2 : Nat) (t : Nat) (H : Heap) (locs : List Loc) (ls : Array Slot), (1 ≤ t) → (t ≤ 29) → (∀ j : Nat, 1 ≤ j → j < t → (j : Int) * j ≠ z) → (29 - t) < n_2 → va_P D vwC [] H → va_D A [] → va_S A s.heap H locs → lv_has ls 3 [(0, .long (lI z)), (2, .int (nI t))] → W p l e rm_c_root s m args below meth c H locs 0 0 Q (F0 m 2 ls []) := by
      intro n_2
      induction n_2 with
      | zero => intro t H locs ls ht1 ht2 h1 hn_2; exact absurd hn_2 (Nat.not_lt_zero _)
      | succ n_2 ih_2 =>
        intro t H locs ls ht1 ht2 h1 hn_2 hP hD hS hl
        refine lv_iload_n hx hb d_K_rootOf_2 rfl (lv_at hl 1 rfl) ?_
        refine lv_bipush (v := nI 28) hx hb d_K_rootOf_3 (by decide) ?_
        refine xn_gt (tgt := 26) hx hb (by omega) (by omega) d_K_rootOf_5 (by decide) (fun c5_0 => ?_) (fun c5_0 => ?_)
        · skip
          refine lv_iconst (v := nI 0) hx hb d_K_rootOf_26 (by decide) ?_
          exact hret H locs _ ls (nI 0) 0 d_K_rootOf_27 ⟨rfl, Or.inr ⟨rfl, fun j a b => h1 j a (by omega)⟩⟩ hP hD hS
        · skip
          refine lv_iload_n hx hb d_K_rootOf_8 rfl (lv_at hl 1 rfl) ?_
          refine xn_i2l hx hb (by omega) d_K_rootOf_9 ?_
          refine lv_iload_n hx hb d_K_rootOf_10 rfl (lv_at hl 1 rfl) ?_
          refine xn_i2l hx hb (by omega) d_K_rootOf_11 ?_
          refine xl_mul hx hb d_K_rootOf_12 ?_
          refine lv_lload_n hx hb d_K_rootOf_13 rfl (lv_at hl 0 rfl) ?_
          refine xl_ne (tgt := 20) hx hb (by first | assumption | exact lB_of (mulB (a := (t : Int)) (A := 29) ⟨by omega, by omega⟩ (b := (t : Int)) (B := 29) ⟨by omega, by omega⟩) (by decide)) (by first | assumption | exact lB_of (mulB (a := (t : Int)) (A := 29) ⟨by omega, by omega⟩ (b := (t : Int)) (B := 29) ⟨by omega, by omega⟩) (by decide)) d_K_rootOf_14 d_K_rootOf_15 (by decide) (fun c15_1 => ?_) (fun c15_1 => ?_)
          · skip
            refine lv_iinc (v := nI (t + 1)) (lv' := [(2, .int (nI (t + 1))), (0, .long (lI z))]) hx hb d_K_rootOf_20 hl (k := 1) rfl (nI_add _ _) (by decide) rfl (fun ls hl => ?_)
            refine lv_goto (tgt := 2) hx hb d_K_rootOf_23 (by decide) ?_
            exact ih_2 (t + 1) H locs ls (by omega) (by omega) (fun j a b => by by_cases q : j = t; rw [q]; exact c15_1; exact h1 j a (by omega)) (by omega) hP hD hS (lv_sub hl [1, 0] rfl)
          · skip
            refine lv_iload_n hx hb d_K_rootOf_18 rfl (lv_at hl 1 rfl) ?_
            exact hret H locs _ ls (nI t) t d_K_rootOf_19 ⟨rfl, Or.inl ⟨ht1, by omega, c15_1⟩⟩ hP hD hS
    exact lp_2 ((29 - 1) + 1) 1 H locs ls (Nat.le_refl _) (by decide) (fun j a b => absurd a (by omega)) (by omega) hP hD hS (lv_sub hl [1, 0] rfl)
  rw [hH, hlc] at key; exact key

def rm_c_cross : Room := { frames := 1, cells := 0, slots := 0, locals := 21 }
set_option maxHeartbeats 4000000 in
set_option maxRecDepth 100000 in
/-- crosswise -/
theorem c_cross (l : Launch) (D : va_G) (cJ : ClassId) (h : Nat) (d : Nat) (kb : Int32) (fo : Nat) (ke : Nat) (ht : Nat) (wo : Nat) (fi : Nat) (se : Nat) (Wk : Nat → Int) (p0 : Int) (p1 : Int) (p2 : Int)  (sz : Nat) : xMv l y_K_addCrosswise (Cond.code y_K_addCrosswise b_K_addCrosswise 7 none :: tW) rm_c_cross [.ref h, .long (lI p0), .long (lI p1), .long (lI p2)] D vwC [(cJ, .long)] sz [(h, .inr (1, [.int (nI d), .int kb, .ref fo, .ref ke, .ref ht, .ref wo, .ref fi, .ref se])), (wo, LA cJ 16 Wk)] (fun (uo : (Nat → Int)) => ∀ a b, a < 3 → b < 3 → uo (4 * a + b) = Wk (4 * a + b) + crs p0 p1 p2 a b) (fun (uo : (Nat → Int)) => [(h, .inr (1, [.int (nI d), .int kb, .ref fo, .ref ke, .ref ht, .ref wo, .ref fi, .ref se])), (wo, LA cJ 16 uo)]) 0 0 := by
  refine xov (cc := b_K_addCrosswise) (maxL := 7) (by decide) rfl (Nat.le_of_ble_eq_true rfl) ?_
  intro p e s m args below meth c Q A hx hb hml hts hown hN hA hS hP hK hD hret ls hl
  have hl : lv_has ls 7 [(0, .ref h), (1, .long (lI p0)), (3, .long (lI p1)), (5, .long (lI p2))] := hl
  obtain ⟨H, hH⟩ : ∃ z, z = s.heap := ⟨_, rfl⟩
  obtain ⟨locs, hlc⟩ : ∃ z : List Loc, z = [] := ⟨_, rfl⟩
  rw [← hH] at hP
  have hS : va_S A s.heap H locs := by rw [hH, hlc]; exact hS
  have key : W p l e rm_c_cross s m args below meth c H locs 0 0 Q (F0 m 0 ls []) := by
    refine lv_aload_n hx hb d_K_addCrosswise_0 rfl (lv_at hl 0 rfl) ?_
    refine va_get (D := D) (ci := 1) (v := .ref wo) (C := R_K) (T := F_K) (N := 8) hx hb hts iw_K hown hK hP 0 rfl rfl 5 (by decide) (hts _ tw_47) (fun _ h9 => h9) rfl d_K_addCrosswise_1 ?_
    refine lv_iconst (v := nI 0) hx hb d_K_addCrosswise_4 (by decide) ?_
    refine lv_iconst (v := nI 1) hx hb d_K_addCrosswise_5 (by decide) ?_
    refine xci (wc := []) (wr := [(h, .inr (1, [.int (nI d), .int kb, .ref fo, .ref ke, .ref ht, .ref wo, .ref fi, .ref se])), (wo, LA cJ 16 Wk)]) hP hD hS hA [] [0, 1] rfl rfl (by decide) (by decide) (va_runS (As := [.int (nI 0), .int (nI 1)]) (rest := [.ref wo]) ⟨hx, hb, hml, hown, hts⟩ (c_place l D cJ 0 1 H.size) (cwS 2 hts (gS tw_86 tw_87 tw_1 tw_88) rfl rfl rfl ⟨rfl, hd_K_place⟩ ⟨Nat.le_of_ble_eq_true rfl, Nat.le_of_ble_eq_true rfl⟩) (xPreS hN hK (hP.sub (ws' := []) [] rfl) (hD.sub (ws' := []) [] (by decide) rfl)) rfl rfl hl.1 rfl (lv_room (Nat.le_of_ble_eq_true rfl)) d_K_addCrosswise_6 ⟨Nat.le_of_ble_eq_true rfl, Nat.le_of_ble_eq_true rfl⟩) (fun r_1 u_2 H locs hw_3 hP hD hS => ?_)
    try dsimp only at hw_3
    have hP : va_P D vwC [(h, .inr (1, [.int (nI d), .int kb, .ref fo, .ref ke, .ref ht, .ref wo, .ref fi, .ref se])), (wo, LA cJ 16 Wk)] H := hP
    have hD : va_D A [(h, .inr (1, [.int (nI d), .int kb, .ref fo, .ref ke, .ref ht, .ref wo, .ref fi, .ref se])), (wo, LA cJ 16 Wk)] := hD
    subst hw_3
    refine lv_dup2_11 hx hb d_K_addCrosswise_9 rfl rfl ?_
    refine xl_ald hx hb hK hP 1 0 rfl rfl (k := 4 * 0 + 1) (by omega) (by first | decide | omega) d_K_addCrosswise_10 ?_
    refine lv_lload hx hb d_K_addCrosswise_11 (lv_at hl 3 rfl) ?_
    refine xl_sub hx hb d_K_addCrosswise_13 ?_
    refine xl_ast hx hb hK hP hD hS 1 0 rfl rfl (k := 4 * 0 + 1) (by omega) (by first | decide | omega) d_K_addCrosswise_14 (fun H locs hP hD hS => ?_)
    have hP : va_P D vwC [(h, .inr (1, [.int (nI d), .int kb, .ref fo, .ref ke, .ref ht, .ref wo, .ref fi, .ref se])), (wo, LA cJ 16 (upZ Wk (4 * 0 + 1) ((Wk (4 * 0 + 1)) - p2)))] H := hP
    have hD : va_D A [(h, .inr (1, [.int (nI d), .int kb, .ref fo, .ref ke, .ref ht, .ref wo, .ref fi, .ref se])), (wo, LA cJ 16 (upZ Wk (4 * 0 + 1) ((Wk (4 * 0 + 1)) - p2)))] := hD
    refine lv_aload_n hx hb d_K_addCrosswise_15 rfl (lv_at hl 0 rfl) ?_
    refine va_get (D := D) (ci := 1) (v := .ref wo) (C := R_K) (T := F_K) (N := 8) hx hb hts iw_K hown hK hP 0 rfl rfl 5 (by decide) (hts _ tw_47) (fun _ h9 => h9) rfl d_K_addCrosswise_16 ?_
    refine lv_iconst (v := nI 0) hx hb d_K_addCrosswise_19 (by decide) ?_
    refine lv_iconst (v := nI 2) hx hb d_K_addCrosswise_20 (by decide) ?_
    refine xci (wc := []) (wr := [(h, .inr (1, [.int (nI d), .int kb, .ref fo, .ref ke, .ref ht, .ref wo, .ref fi, .ref se])), (wo, LA cJ 16 (upZ Wk (4 * 0 + 1) ((Wk (4 * 0 + 1)) - p2)))]) hP hD hS hA [] [0, 1] rfl rfl (by decide) (by decide) (va_runS (As := [.int (nI 0), .int (nI 2)]) (rest := [.ref wo]) ⟨hx, hb, hml, hown, hts⟩ (c_place l D cJ 0 2 H.size) (cwS 2 hts (gS tw_86 tw_87 tw_1 tw_88) rfl rfl rfl ⟨rfl, hd_K_place⟩ ⟨Nat.le_of_ble_eq_true rfl, Nat.le_of_ble_eq_true rfl⟩) (xPreS hN hK (hP.sub (ws' := []) [] rfl) (hD.sub (ws' := []) [] (by decide) rfl)) rfl rfl hl.1 rfl (lv_room (Nat.le_of_ble_eq_true rfl)) d_K_addCrosswise_21 ⟨Nat.le_of_ble_eq_true rfl, Nat.le_of_ble_eq_true rfl⟩) (fun r_4 u_5 H locs hw_6 hP hD hS => ?_)
    try dsimp only at hw_6
    have hP : va_P D vwC [(h, .inr (1, [.int (nI d), .int kb, .ref fo, .ref ke, .ref ht, .ref wo, .ref fi, .ref se])), (wo, LA cJ 16 (upZ Wk (4 * 0 + 1) ((Wk (4 * 0 + 1)) - p2)))] H := hP
    have hD : va_D A [(h, .inr (1, [.int (nI d), .int kb, .ref fo, .ref ke, .ref ht, .ref wo, .ref fi, .ref se])), (wo, LA cJ 16 (upZ Wk (4 * 0 + 1) ((Wk (4 * 0 + 1)) - p2)))] := hD
    subst hw_6
    refine lv_dup2_11 hx hb d_K_addCrosswise_24 rfl rfl ?_
    refine xl_ald hx hb hK hP 1 0 rfl rfl (k := 4 * 0 + 2) (by omega) (by first | decide | omega) d_K_addCrosswise_25 ?_
    refine lv_lload_n hx hb d_K_addCrosswise_26 rfl (lv_at hl 2 rfl) ?_
    refine xl_add hx hb d_K_addCrosswise_27 ?_
    refine xl_ast hx hb hK hP hD hS 1 0 rfl rfl (k := 4 * 0 + 2) (by omega) (by first | decide | omega) d_K_addCrosswise_28 (fun H locs hP hD hS => ?_)
    have hP : va_P D vwC [(h, .inr (1, [.int (nI d), .int kb, .ref fo, .ref ke, .ref ht, .ref wo, .ref fi, .ref se])), (wo, LA cJ 16 (upZ (upZ Wk (4 * 0 + 1) ((Wk (4 * 0 + 1)) - p2)) (4 * 0 + 2) (((upZ Wk (4 * 0 + 1) ((Wk (4 * 0 + 1)) - p2)) (4 * 0 + 2)) + p1)))] H := hP
    have hD : va_D A [(h, .inr (1, [.int (nI d), .int kb, .ref fo, .ref ke, .ref ht, .ref wo, .ref fi, .ref se])), (wo, LA cJ 16 (upZ (upZ Wk (4 * 0 + 1) ((Wk (4 * 0 + 1)) - p2)) (4 * 0 + 2) (((upZ Wk (4 * 0 + 1) ((Wk (4 * 0 + 1)) - p2)) (4 * 0 + 2)) + p1)))] := hD
    refine lv_aload_n hx hb d_K_addCrosswise_29 rfl (lv_at hl 0 rfl) ?_
    refine va_get (D := D) (ci := 1) (v := .ref wo) (C := R_K) (T := F_K) (N := 8) hx hb hts iw_K hown hK hP 0 rfl rfl 5 (by decide) (hts _ tw_47) (fun _ h9 => h9) rfl d_K_addCrosswise_30 ?_
    refine lv_iconst (v := nI 1) hx hb d_K_addCrosswise_33 (by decide) ?_
    refine lv_iconst (v := nI 0) hx hb d_K_addCrosswise_34 (by decide) ?_
    refine xci (wc := []) (wr := [(h, .inr (1, [.int (nI d), .int kb, .ref fo, .ref ke, .ref ht, .ref wo, .ref fi, .ref se])), (wo, LA cJ 16 (upZ (upZ Wk (4 * 0 + 1) ((Wk (4 * 0 + 1)) - p2)) (4 * 0 + 2) (((upZ Wk (4 * 0 + 1) ((Wk (4 * 0 + 1)) - p2)) (4 * 0 + 2)) + p1)))]) hP hD hS hA [] [0, 1] rfl rfl (by decide) (by decide) (va_runS (As := [.int (nI 1), .int (nI 0)]) (rest := [.ref wo]) ⟨hx, hb, hml, hown, hts⟩ (c_place l D cJ 1 0 H.size) (cwS 2 hts (gS tw_86 tw_87 tw_1 tw_88) rfl rfl rfl ⟨rfl, hd_K_place⟩ ⟨Nat.le_of_ble_eq_true rfl, Nat.le_of_ble_eq_true rfl⟩) (xPreS hN hK (hP.sub (ws' := []) [] rfl) (hD.sub (ws' := []) [] (by decide) rfl)) rfl rfl hl.1 rfl (lv_room (Nat.le_of_ble_eq_true rfl)) d_K_addCrosswise_35 ⟨Nat.le_of_ble_eq_true rfl, Nat.le_of_ble_eq_true rfl⟩) (fun r_7 u_8 H locs hw_9 hP hD hS => ?_)
    try dsimp only at hw_9
    have hP : va_P D vwC [(h, .inr (1, [.int (nI d), .int kb, .ref fo, .ref ke, .ref ht, .ref wo, .ref fi, .ref se])), (wo, LA cJ 16 (upZ (upZ Wk (4 * 0 + 1) ((Wk (4 * 0 + 1)) - p2)) (4 * 0 + 2) (((upZ Wk (4 * 0 + 1) ((Wk (4 * 0 + 1)) - p2)) (4 * 0 + 2)) + p1)))] H := hP
    have hD : va_D A [(h, .inr (1, [.int (nI d), .int kb, .ref fo, .ref ke, .ref ht, .ref wo, .ref fi, .ref se])), (wo, LA cJ 16 (upZ (upZ Wk (4 * 0 + 1) ((Wk (4 * 0 + 1)) - p2)) (4 * 0 + 2) (((upZ Wk (4 * 0 + 1) ((Wk (4 * 0 + 1)) - p2)) (4 * 0 + 2)) + p1)))] := hD
    subst hw_9
    refine lv_dup2_11 hx hb d_K_addCrosswise_38 rfl rfl ?_
    refine xl_ald hx hb hK hP 1 0 rfl rfl (k := 4 * 1 + 0) (by omega) (by first | decide | omega) d_K_addCrosswise_39 ?_
    refine lv_lload hx hb d_K_addCrosswise_40 (lv_at hl 3 rfl) ?_
    refine xl_add hx hb d_K_addCrosswise_42 ?_
    refine xl_ast hx hb hK hP hD hS 1 0 rfl rfl (k := 4 * 1 + 0) (by omega) (by first | decide | omega) d_K_addCrosswise_43 (fun H locs hP hD hS => ?_)
    have hP : va_P D vwC [(h, .inr (1, [.int (nI d), .int kb, .ref fo, .ref ke, .ref ht, .ref wo, .ref fi, .ref se])), (wo, LA cJ 16 (upZ (upZ (upZ Wk (4 * 0 + 1) ((Wk (4 * 0 + 1)) - p2)) (4 * 0 + 2) (((upZ Wk (4 * 0 + 1) ((Wk (4 * 0 + 1)) - p2)) (4 * 0 + 2)) + p1)) (4 * 1 + 0) (((upZ (upZ Wk (4 * 0 + 1) ((Wk (4 * 0 + 1)) - p2)) (4 * 0 + 2) (((upZ Wk (4 * 0 + 1) ((Wk (4 * 0 + 1)) - p2)) (4 * 0 + 2)) + p1)) (4 * 1 + 0)) + p2)))] H := hP
    have hD : va_D A [(h, .inr (1, [.int (nI d), .int kb, .ref fo, .ref ke, .ref ht, .ref wo, .ref fi, .ref se])), (wo, LA cJ 16 (upZ (upZ (upZ Wk (4 * 0 + 1) ((Wk (4 * 0 + 1)) - p2)) (4 * 0 + 2) (((upZ Wk (4 * 0 + 1) ((Wk (4 * 0 + 1)) - p2)) (4 * 0 + 2)) + p1)) (4 * 1 + 0) (((upZ (upZ Wk (4 * 0 + 1) ((Wk (4 * 0 + 1)) - p2)) (4 * 0 + 2) (((upZ Wk (4 * 0 + 1) ((Wk (4 * 0 + 1)) - p2)) (4 * 0 + 2)) + p1)) (4 * 1 + 0)) + p2)))] := hD
    refine lv_aload_n hx hb d_K_addCrosswise_44 rfl (lv_at hl 0 rfl) ?_
    refine va_get (D := D) (ci := 1) (v := .ref wo) (C := R_K) (T := F_K) (N := 8) hx hb hts iw_K hown hK hP 0 rfl rfl 5 (by decide) (hts _ tw_47) (fun _ h9 => h9) rfl d_K_addCrosswise_45 ?_
    refine lv_iconst (v := nI 1) hx hb d_K_addCrosswise_48 (by decide) ?_
    refine lv_iconst (v := nI 2) hx hb d_K_addCrosswise_49 (by decide) ?_
    refine xci (wc := []) (wr := [(h, .inr (1, [.int (nI d), .int kb, .ref fo, .ref ke, .ref ht, .ref wo, .ref fi, .ref se])), (wo, LA cJ 16 (upZ (upZ (upZ Wk (4 * 0 + 1) ((Wk (4 * 0 + 1)) - p2)) (4 * 0 + 2) (((upZ Wk (4 * 0 + 1) ((Wk (4 * 0 + 1)) - p2)) (4 * 0 + 2)) + p1)) (4 * 1 + 0) (((upZ (upZ Wk (4 * 0 + 1) ((Wk (4 * 0 + 1)) - p2)) (4 * 0 + 2) (((upZ Wk (4 * 0 + 1) ((Wk (4 * 0 + 1)) - p2)) (4 * 0 + 2)) + p1)) (4 * 1 + 0)) + p2)))]) hP hD hS hA [] [0, 1] rfl rfl (by decide) (by decide) (va_runS (As := [.int (nI 1), .int (nI 2)]) (rest := [.ref wo]) ⟨hx, hb, hml, hown, hts⟩ (c_place l D cJ 1 2 H.size) (cwS 2 hts (gS tw_86 tw_87 tw_1 tw_88) rfl rfl rfl ⟨rfl, hd_K_place⟩ ⟨Nat.le_of_ble_eq_true rfl, Nat.le_of_ble_eq_true rfl⟩) (xPreS hN hK (hP.sub (ws' := []) [] rfl) (hD.sub (ws' := []) [] (by decide) rfl)) rfl rfl hl.1 rfl (lv_room (Nat.le_of_ble_eq_true rfl)) d_K_addCrosswise_50 ⟨Nat.le_of_ble_eq_true rfl, Nat.le_of_ble_eq_true rfl⟩) (fun r_10 u_11 H locs hw_12 hP hD hS => ?_)
    try dsimp only at hw_12
    have hP : va_P D vwC [(h, .inr (1, [.int (nI d), .int kb, .ref fo, .ref ke, .ref ht, .ref wo, .ref fi, .ref se])), (wo, LA cJ 16 (upZ (upZ (upZ Wk (4 * 0 + 1) ((Wk (4 * 0 + 1)) - p2)) (4 * 0 + 2) (((upZ Wk (4 * 0 + 1) ((Wk (4 * 0 + 1)) - p2)) (4 * 0 + 2)) + p1)) (4 * 1 + 0) (((upZ (upZ Wk (4 * 0 + 1) ((Wk (4 * 0 + 1)) - p2)) (4 * 0 + 2) (((upZ Wk (4 * 0 + 1) ((Wk (4 * 0 + 1)) - p2)) (4 * 0 + 2)) + p1)) (4 * 1 + 0)) + p2)))] H := hP
    have hD : va_D A [(h, .inr (1, [.int (nI d), .int kb, .ref fo, .ref ke, .ref ht, .ref wo, .ref fi, .ref se])), (wo, LA cJ 16 (upZ (upZ (upZ Wk (4 * 0 + 1) ((Wk (4 * 0 + 1)) - p2)) (4 * 0 + 2) (((upZ Wk (4 * 0 + 1) ((Wk (4 * 0 + 1)) - p2)) (4 * 0 + 2)) + p1)) (4 * 1 + 0) (((upZ (upZ Wk (4 * 0 + 1) ((Wk (4 * 0 + 1)) - p2)) (4 * 0 + 2) (((upZ Wk (4 * 0 + 1) ((Wk (4 * 0 + 1)) - p2)) (4 * 0 + 2)) + p1)) (4 * 1 + 0)) + p2)))] := hD
    subst hw_12
    refine lv_dup2_11 hx hb d_K_addCrosswise_53 rfl rfl ?_
    refine xl_ald hx hb hK hP 1 0 rfl rfl (k := 4 * 1 + 2) (by omega) (by first | decide | omega) d_K_addCrosswise_54 ?_
    refine lv_lload_n hx hb d_K_addCrosswise_55 rfl (lv_at hl 1 rfl) ?_
    refine xl_sub hx hb d_K_addCrosswise_56 ?_
    refine xl_ast hx hb hK hP hD hS 1 0 rfl rfl (k := 4 * 1 + 2) (by omega) (by first | decide | omega) d_K_addCrosswise_57 (fun H locs hP hD hS => ?_)
    have hP : va_P D vwC [(h, .inr (1, [.int (nI d), .int kb, .ref fo, .ref ke, .ref ht, .ref wo, .ref fi, .ref se])), (wo, LA cJ 16 (upZ (upZ (upZ (upZ Wk (4 * 0 + 1) ((Wk (4 * 0 + 1)) - p2)) (4 * 0 + 2) (((upZ Wk (4 * 0 + 1) ((Wk (4 * 0 + 1)) - p2)) (4 * 0 + 2)) + p1)) (4 * 1 + 0) (((upZ (upZ Wk (4 * 0 + 1) ((Wk (4 * 0 + 1)) - p2)) (4 * 0 + 2) (((upZ Wk (4 * 0 + 1) ((Wk (4 * 0 + 1)) - p2)) (4 * 0 + 2)) + p1)) (4 * 1 + 0)) + p2)) (4 * 1 + 2) (((upZ (upZ (upZ Wk (4 * 0 + 1) ((Wk (4 * 0 + 1)) - p2)) (4 * 0 + 2) (((upZ Wk (4 * 0 + 1) ((Wk (4 * 0 + 1)) - p2)) (4 * 0 + 2)) + p1)) (4 * 1 + 0) (((upZ (upZ Wk (4 * 0 + 1) ((Wk (4 * 0 + 1)) - p2)) (4 * 0 + 2) (((upZ Wk (4 * 0 + 1) ((Wk (4 * 0 + 1)) - p2)) (4 * 0 + 2)) + p1)) (4 * 1 + 0)) + p2)) (4 * 1 + 2)) - p0)))] H := hP
    have hD : va_D A [(h, .inr (1, [.int (nI d), .int kb, .ref fo, .ref ke, .ref ht, .ref wo, .ref fi, .ref se])), (wo, LA cJ 16 (upZ (upZ (upZ (upZ Wk (4 * 0 + 1) ((Wk (4 * 0 + 1)) - p2)) (4 * 0 + 2) (((upZ Wk (4 * 0 + 1) ((Wk (4 * 0 + 1)) - p2)) (4 * 0 + 2)) + p1)) (4 * 1 + 0) (((upZ (upZ Wk (4 * 0 + 1) ((Wk (4 * 0 + 1)) - p2)) (4 * 0 + 2) (((upZ Wk (4 * 0 + 1) ((Wk (4 * 0 + 1)) - p2)) (4 * 0 + 2)) + p1)) (4 * 1 + 0)) + p2)) (4 * 1 + 2) (((upZ (upZ (upZ Wk (4 * 0 + 1) ((Wk (4 * 0 + 1)) - p2)) (4 * 0 + 2) (((upZ Wk (4 * 0 + 1) ((Wk (4 * 0 + 1)) - p2)) (4 * 0 + 2)) + p1)) (4 * 1 + 0) (((upZ (upZ Wk (4 * 0 + 1) ((Wk (4 * 0 + 1)) - p2)) (4 * 0 + 2) (((upZ Wk (4 * 0 + 1) ((Wk (4 * 0 + 1)) - p2)) (4 * 0 + 2)) + p1)) (4 * 1 + 0)) + p2)) (4 * 1 + 2)) - p0)))] := hD
    refine lv_aload_n hx hb d_K_addCrosswise_58 rfl (lv_at hl 0 rfl) ?_
    refine va_get (D := D) (ci := 1) (v := .ref wo) (C := R_K) (T := F_K) (N := 8) hx hb hts iw_K hown hK hP 0 rfl rfl 5 (by decide) (hts _ tw_47) (fun _ h9 => h9) rfl d_K_addCrosswise_59 ?_
    refine lv_iconst (v := nI 2) hx hb d_K_addCrosswise_62 (by decide) ?_
    refine lv_iconst (v := nI 0) hx hb d_K_addCrosswise_63 (by decide) ?_
    refine xci (wc := []) (wr := [(h, .inr (1, [.int (nI d), .int kb, .ref fo, .ref ke, .ref ht, .ref wo, .ref fi, .ref se])), (wo, LA cJ 16 (upZ (upZ (upZ (upZ Wk (4 * 0 + 1) ((Wk (4 * 0 + 1)) - p2)) (4 * 0 + 2) (((upZ Wk (4 * 0 + 1) ((Wk (4 * 0 + 1)) - p2)) (4 * 0 + 2)) + p1)) (4 * 1 + 0) (((upZ (upZ Wk (4 * 0 + 1) ((Wk (4 * 0 + 1)) - p2)) (4 * 0 + 2) (((upZ Wk (4 * 0 + 1) ((Wk (4 * 0 + 1)) - p2)) (4 * 0 + 2)) + p1)) (4 * 1 + 0)) + p2)) (4 * 1 + 2) (((upZ (upZ (upZ Wk (4 * 0 + 1) ((Wk (4 * 0 + 1)) - p2)) (4 * 0 + 2) (((upZ Wk (4 * 0 + 1) ((Wk (4 * 0 + 1)) - p2)) (4 * 0 + 2)) + p1)) (4 * 1 + 0) (((upZ (upZ Wk (4 * 0 + 1) ((Wk (4 * 0 + 1)) - p2)) (4 * 0 + 2) (((upZ Wk (4 * 0 + 1) ((Wk (4 * 0 + 1)) - p2)) (4 * 0 + 2)) + p1)) (4 * 1 + 0)) + p2)) (4 * 1 + 2)) - p0)))]) hP hD hS hA [] [0, 1] rfl rfl (by decide) (by decide) (va_runS (As := [.int (nI 2), .int (nI 0)]) (rest := [.ref wo]) ⟨hx, hb, hml, hown, hts⟩ (c_place l D cJ 2 0 H.size) (cwS 2 hts (gS tw_86 tw_87 tw_1 tw_88) rfl rfl rfl ⟨rfl, hd_K_place⟩ ⟨Nat.le_of_ble_eq_true rfl, Nat.le_of_ble_eq_true rfl⟩) (xPreS hN hK (hP.sub (ws' := []) [] rfl) (hD.sub (ws' := []) [] (by decide) rfl)) rfl rfl hl.1 rfl (lv_room (Nat.le_of_ble_eq_true rfl)) d_K_addCrosswise_64 ⟨Nat.le_of_ble_eq_true rfl, Nat.le_of_ble_eq_true rfl⟩) (fun r_13 u_14 H locs hw_15 hP hD hS => ?_)
    try dsimp only at hw_15
    have hP : va_P D vwC [(h, .inr (1, [.int (nI d), .int kb, .ref fo, .ref ke, .ref ht, .ref wo, .ref fi, .ref se])), (wo, LA cJ 16 (upZ (upZ (upZ (upZ Wk (4 * 0 + 1) ((Wk (4 * 0 + 1)) - p2)) (4 * 0 + 2) (((upZ Wk (4 * 0 + 1) ((Wk (4 * 0 + 1)) - p2)) (4 * 0 + 2)) + p1)) (4 * 1 + 0) (((upZ (upZ Wk (4 * 0 + 1) ((Wk (4 * 0 + 1)) - p2)) (4 * 0 + 2) (((upZ Wk (4 * 0 + 1) ((Wk (4 * 0 + 1)) - p2)) (4 * 0 + 2)) + p1)) (4 * 1 + 0)) + p2)) (4 * 1 + 2) (((upZ (upZ (upZ Wk (4 * 0 + 1) ((Wk (4 * 0 + 1)) - p2)) (4 * 0 + 2) (((upZ Wk (4 * 0 + 1) ((Wk (4 * 0 + 1)) - p2)) (4 * 0 + 2)) + p1)) (4 * 1 + 0) (((upZ (upZ Wk (4 * 0 + 1) ((Wk (4 * 0 + 1)) - p2)) (4 * 0 + 2) (((upZ Wk (4 * 0 + 1) ((Wk (4 * 0 + 1)) - p2)) (4 * 0 + 2)) + p1)) (4 * 1 + 0)) + p2)) (4 * 1 + 2)) - p0)))] H := hP
    have hD : va_D A [(h, .inr (1, [.int (nI d), .int kb, .ref fo, .ref ke, .ref ht, .ref wo, .ref fi, .ref se])), (wo, LA cJ 16 (upZ (upZ (upZ (upZ Wk (4 * 0 + 1) ((Wk (4 * 0 + 1)) - p2)) (4 * 0 + 2) (((upZ Wk (4 * 0 + 1) ((Wk (4 * 0 + 1)) - p2)) (4 * 0 + 2)) + p1)) (4 * 1 + 0) (((upZ (upZ Wk (4 * 0 + 1) ((Wk (4 * 0 + 1)) - p2)) (4 * 0 + 2) (((upZ Wk (4 * 0 + 1) ((Wk (4 * 0 + 1)) - p2)) (4 * 0 + 2)) + p1)) (4 * 1 + 0)) + p2)) (4 * 1 + 2) (((upZ (upZ (upZ Wk (4 * 0 + 1) ((Wk (4 * 0 + 1)) - p2)) (4 * 0 + 2) (((upZ Wk (4 * 0 + 1) ((Wk (4 * 0 + 1)) - p2)) (4 * 0 + 2)) + p1)) (4 * 1 + 0) (((upZ (upZ Wk (4 * 0 + 1) ((Wk (4 * 0 + 1)) - p2)) (4 * 0 + 2) (((upZ Wk (4 * 0 + 1) ((Wk (4 * 0 + 1)) - p2)) (4 * 0 + 2)) + p1)) (4 * 1 + 0)) + p2)) (4 * 1 + 2)) - p0)))] := hD
    subst hw_15
    refine lv_dup2_11 hx hb d_K_addCrosswise_67 rfl rfl ?_
    refine xl_ald hx hb hK hP 1 0 rfl rfl (k := 4 * 2 + 0) (by omega) (by first | decide | omega) d_K_addCrosswise_68 ?_
    refine lv_lload_n hx hb d_K_addCrosswise_69 rfl (lv_at hl 2 rfl) ?_
    refine xl_sub hx hb d_K_addCrosswise_70 ?_
    refine xl_ast hx hb hK hP hD hS 1 0 rfl rfl (k := 4 * 2 + 0) (by omega) (by first | decide | omega) d_K_addCrosswise_71 (fun H locs hP hD hS => ?_)
    have hP : va_P D vwC [(h, .inr (1, [.int (nI d), .int kb, .ref fo, .ref ke, .ref ht, .ref wo, .ref fi, .ref se])), (wo, LA cJ 16 (upZ (upZ (upZ (upZ (upZ Wk (4 * 0 + 1) ((Wk (4 * 0 + 1)) - p2)) (4 * 0 + 2) (((upZ Wk (4 * 0 + 1) ((Wk (4 * 0 + 1)) - p2)) (4 * 0 + 2)) + p1)) (4 * 1 + 0) (((upZ (upZ Wk (4 * 0 + 1) ((Wk (4 * 0 + 1)) - p2)) (4 * 0 + 2) (((upZ Wk (4 * 0 + 1) ((Wk (4 * 0 + 1)) - p2)) (4 * 0 + 2)) + p1)) (4 * 1 + 0)) + p2)) (4 * 1 + 2) (((upZ (upZ (upZ Wk (4 * 0 + 1) ((Wk (4 * 0 + 1)) - p2)) (4 * 0 + 2) (((upZ Wk (4 * 0 + 1) ((Wk (4 * 0 + 1)) - p2)) (4 * 0 + 2)) + p1)) (4 * 1 + 0) (((upZ (upZ Wk (4 * 0 + 1) ((Wk (4 * 0 + 1)) - p2)) (4 * 0 + 2) (((upZ Wk (4 * 0 + 1) ((Wk (4 * 0 + 1)) - p2)) (4 * 0 + 2)) + p1)) (4 * 1 + 0)) + p2)) (4 * 1 + 2)) - p0)) (4 * 2 + 0) (((upZ (upZ (upZ (upZ Wk (4 * 0 + 1) ((Wk (4 * 0 + 1)) - p2)) (4 * 0 + 2) (((upZ Wk (4 * 0 + 1) ((Wk (4 * 0 + 1)) - p2)) (4 * 0 + 2)) + p1)) (4 * 1 + 0) (((upZ (upZ Wk (4 * 0 + 1) ((Wk (4 * 0 + 1)) - p2)) (4 * 0 + 2) (((upZ Wk (4 * 0 + 1) ((Wk (4 * 0 + 1)) - p2)) (4 * 0 + 2)) + p1)) (4 * 1 + 0)) + p2)) (4 * 1 + 2) (((upZ (upZ (upZ Wk (4 * 0 + 1) ((Wk (4 * 0 + 1)) - p2)) (4 * 0 + 2) (((upZ Wk (4 * 0 + 1) ((Wk (4 * 0 + 1)) - p2)) (4 * 0 + 2)) + p1)) (4 * 1 + 0) (((upZ (upZ Wk (4 * 0 + 1) ((Wk (4 * 0 + 1)) - p2)) (4 * 0 + 2) (((upZ Wk (4 * 0 + 1) ((Wk (4 * 0 + 1)) - p2)) (4 * 0 + 2)) + p1)) (4 * 1 + 0)) + p2)) (4 * 1 + 2)) - p0)) (4 * 2 + 0)) - p1)))] H := hP
    have hD : va_D A [(h, .inr (1, [.int (nI d), .int kb, .ref fo, .ref ke, .ref ht, .ref wo, .ref fi, .ref se])), (wo, LA cJ 16 (upZ (upZ (upZ (upZ (upZ Wk (4 * 0 + 1) ((Wk (4 * 0 + 1)) - p2)) (4 * 0 + 2) (((upZ Wk (4 * 0 + 1) ((Wk (4 * 0 + 1)) - p2)) (4 * 0 + 2)) + p1)) (4 * 1 + 0) (((upZ (upZ Wk (4 * 0 + 1) ((Wk (4 * 0 + 1)) - p2)) (4 * 0 + 2) (((upZ Wk (4 * 0 + 1) ((Wk (4 * 0 + 1)) - p2)) (4 * 0 + 2)) + p1)) (4 * 1 + 0)) + p2)) (4 * 1 + 2) (((upZ (upZ (upZ Wk (4 * 0 + 1) ((Wk (4 * 0 + 1)) - p2)) (4 * 0 + 2) (((upZ Wk (4 * 0 + 1) ((Wk (4 * 0 + 1)) - p2)) (4 * 0 + 2)) + p1)) (4 * 1 + 0) (((upZ (upZ Wk (4 * 0 + 1) ((Wk (4 * 0 + 1)) - p2)) (4 * 0 + 2) (((upZ Wk (4 * 0 + 1) ((Wk (4 * 0 + 1)) - p2)) (4 * 0 + 2)) + p1)) (4 * 1 + 0)) + p2)) (4 * 1 + 2)) - p0)) (4 * 2 + 0) (((upZ (upZ (upZ (upZ Wk (4 * 0 + 1) ((Wk (4 * 0 + 1)) - p2)) (4 * 0 + 2) (((upZ Wk (4 * 0 + 1) ((Wk (4 * 0 + 1)) - p2)) (4 * 0 + 2)) + p1)) (4 * 1 + 0) (((upZ (upZ Wk (4 * 0 + 1) ((Wk (4 * 0 + 1)) - p2)) (4 * 0 + 2) (((upZ Wk (4 * 0 + 1) ((Wk (4 * 0 + 1)) - p2)) (4 * 0 + 2)) + p1)) (4 * 1 + 0)) + p2)) (4 * 1 + 2) (((upZ (upZ (upZ Wk (4 * 0 + 1) ((Wk (4 * 0 + 1)) - p2)) (4 * 0 + 2) (((upZ Wk (4 * 0 + 1) ((Wk (4 * 0 + 1)) - p2)) (4 * 0 + 2)) + p1)) (4 * 1 + 0) (((upZ (upZ Wk (4 * 0 + 1) ((Wk (4 * 0 + 1)) - p2)) (4 * 0 + 2) (((upZ Wk (4 * 0 + 1) ((Wk (4 * 0 + 1)) - p2)) (4 * 0 + 2)) + p1)) (4 * 1 + 0)) + p2)) (4 * 1 + 2)) - p0)) (4 * 2 + 0)) - p1)))] := hD
    refine lv_aload_n hx hb d_K_addCrosswise_72 rfl (lv_at hl 0 rfl) ?_
    refine va_get (D := D) (ci := 1) (v := .ref wo) (C := R_K) (T := F_K) (N := 8) hx hb hts iw_K hown hK hP 0 rfl rfl 5 (by decide) (hts _ tw_47) (fun _ h9 => h9) rfl d_K_addCrosswise_73 ?_
    refine lv_iconst (v := nI 2) hx hb d_K_addCrosswise_76 (by decide) ?_
    refine lv_iconst (v := nI 1) hx hb d_K_addCrosswise_77 (by decide) ?_
    refine xci (wc := []) (wr := [(h, .inr (1, [.int (nI d), .int kb, .ref fo, .ref ke, .ref ht, .ref wo, .ref fi, .ref se])), (wo, LA cJ 16 (upZ (upZ (upZ (upZ (upZ Wk (4 * 0 + 1) ((Wk (4 * 0 + 1)) - p2)) (4 * 0 + 2) (((upZ Wk (4 * 0 + 1) ((Wk (4 * 0 + 1)) - p2)) (4 * 0 + 2)) + p1)) (4 * 1 + 0) (((upZ (upZ Wk (4 * 0 + 1) ((Wk (4 * 0 + 1)) - p2)) (4 * 0 + 2) (((upZ Wk (4 * 0 + 1) ((Wk (4 * 0 + 1)) - p2)) (4 * 0 + 2)) + p1)) (4 * 1 + 0)) + p2)) (4 * 1 + 2) (((upZ (upZ (upZ Wk (4 * 0 + 1) ((Wk (4 * 0 + 1)) - p2)) (4 * 0 + 2) (((upZ Wk (4 * 0 + 1) ((Wk (4 * 0 + 1)) - p2)) (4 * 0 + 2)) + p1)) (4 * 1 + 0) (((upZ (upZ Wk (4 * 0 + 1) ((Wk (4 * 0 + 1)) - p2)) (4 * 0 + 2) (((upZ Wk (4 * 0 + 1) ((Wk (4 * 0 + 1)) - p2)) (4 * 0 + 2)) + p1)) (4 * 1 + 0)) + p2)) (4 * 1 + 2)) - p0)) (4 * 2 + 0) (((upZ (upZ (upZ (upZ Wk (4 * 0 + 1) ((Wk (4 * 0 + 1)) - p2)) (4 * 0 + 2) (((upZ Wk (4 * 0 + 1) ((Wk (4 * 0 + 1)) - p2)) (4 * 0 + 2)) + p1)) (4 * 1 + 0) (((upZ (upZ Wk (4 * 0 + 1) ((Wk (4 * 0 + 1)) - p2)) (4 * 0 + 2) (((upZ Wk (4 * 0 + 1) ((Wk (4 * 0 + 1)) - p2)) (4 * 0 + 2)) + p1)) (4 * 1 + 0)) + p2)) (4 * 1 + 2) (((upZ (upZ (upZ Wk (4 * 0 + 1) ((Wk (4 * 0 + 1)) - p2)) (4 * 0 + 2) (((upZ Wk (4 * 0 + 1) ((Wk (4 * 0 + 1)) - p2)) (4 * 0 + 2)) + p1)) (4 * 1 + 0) (((upZ (upZ Wk (4 * 0 + 1) ((Wk (4 * 0 + 1)) - p2)) (4 * 0 + 2) (((upZ Wk (4 * 0 + 1) ((Wk (4 * 0 + 1)) - p2)) (4 * 0 + 2)) + p1)) (4 * 1 + 0)) + p2)) (4 * 1 + 2)) - p0)) (4 * 2 + 0)) - p1)))]) hP hD hS hA [] [0, 1] rfl rfl (by decide) (by decide) (va_runS (As := [.int (nI 2), .int (nI 1)]) (rest := [.ref wo]) ⟨hx, hb, hml, hown, hts⟩ (c_place l D cJ 2 1 H.size) (cwS 2 hts (gS tw_86 tw_87 tw_1 tw_88) rfl rfl rfl ⟨rfl, hd_K_place⟩ ⟨Nat.le_of_ble_eq_true rfl, Nat.le_of_ble_eq_true rfl⟩) (xPreS hN hK (hP.sub (ws' := []) [] rfl) (hD.sub (ws' := []) [] (by decide) rfl)) rfl rfl hl.1 rfl (lv_room (Nat.le_of_ble_eq_true rfl)) d_K_addCrosswise_78 ⟨Nat.le_of_ble_eq_true rfl, Nat.le_of_ble_eq_true rfl⟩) (fun r_16 u_17 H locs hw_18 hP hD hS => ?_)
    try dsimp only at hw_18
    have hP : va_P D vwC [(h, .inr (1, [.int (nI d), .int kb, .ref fo, .ref ke, .ref ht, .ref wo, .ref fi, .ref se])), (wo, LA cJ 16 (upZ (upZ (upZ (upZ (upZ Wk (4 * 0 + 1) ((Wk (4 * 0 + 1)) - p2)) (4 * 0 + 2) (((upZ Wk (4 * 0 + 1) ((Wk (4 * 0 + 1)) - p2)) (4 * 0 + 2)) + p1)) (4 * 1 + 0) (((upZ (upZ Wk (4 * 0 + 1) ((Wk (4 * 0 + 1)) - p2)) (4 * 0 + 2) (((upZ Wk (4 * 0 + 1) ((Wk (4 * 0 + 1)) - p2)) (4 * 0 + 2)) + p1)) (4 * 1 + 0)) + p2)) (4 * 1 + 2) (((upZ (upZ (upZ Wk (4 * 0 + 1) ((Wk (4 * 0 + 1)) - p2)) (4 * 0 + 2) (((upZ Wk (4 * 0 + 1) ((Wk (4 * 0 + 1)) - p2)) (4 * 0 + 2)) + p1)) (4 * 1 + 0) (((upZ (upZ Wk (4 * 0 + 1) ((Wk (4 * 0 + 1)) - p2)) (4 * 0 + 2) (((upZ Wk (4 * 0 + 1) ((Wk (4 * 0 + 1)) - p2)) (4 * 0 + 2)) + p1)) (4 * 1 + 0)) + p2)) (4 * 1 + 2)) - p0)) (4 * 2 + 0) (((upZ (upZ (upZ (upZ Wk (4 * 0 + 1) ((Wk (4 * 0 + 1)) - p2)) (4 * 0 + 2) (((upZ Wk (4 * 0 + 1) ((Wk (4 * 0 + 1)) - p2)) (4 * 0 + 2)) + p1)) (4 * 1 + 0) (((upZ (upZ Wk (4 * 0 + 1) ((Wk (4 * 0 + 1)) - p2)) (4 * 0 + 2) (((upZ Wk (4 * 0 + 1) ((Wk (4 * 0 + 1)) - p2)) (4 * 0 + 2)) + p1)) (4 * 1 + 0)) + p2)) (4 * 1 + 2) (((upZ (upZ (upZ Wk (4 * 0 + 1) ((Wk (4 * 0 + 1)) - p2)) (4 * 0 + 2) (((upZ Wk (4 * 0 + 1) ((Wk (4 * 0 + 1)) - p2)) (4 * 0 + 2)) + p1)) (4 * 1 + 0) (((upZ (upZ Wk (4 * 0 + 1) ((Wk (4 * 0 + 1)) - p2)) (4 * 0 + 2) (((upZ Wk (4 * 0 + 1) ((Wk (4 * 0 + 1)) - p2)) (4 * 0 + 2)) + p1)) (4 * 1 + 0)) + p2)) (4 * 1 + 2)) - p0)) (4 * 2 + 0)) - p1)))] H := hP
    have hD : va_D A [(h, .inr (1, [.int (nI d), .int kb, .ref fo, .ref ke, .ref ht, .ref wo, .ref fi, .ref se])), (wo, LA cJ 16 (upZ (upZ (upZ (upZ (upZ Wk (4 * 0 + 1) ((Wk (4 * 0 + 1)) - p2)) (4 * 0 + 2) (((upZ Wk (4 * 0 + 1) ((Wk (4 * 0 + 1)) - p2)) (4 * 0 + 2)) + p1)) (4 * 1 + 0) (((upZ (upZ Wk (4 * 0 + 1) ((Wk (4 * 0 + 1)) - p2)) (4 * 0 + 2) (((upZ Wk (4 * 0 + 1) ((Wk (4 * 0 + 1)) - p2)) (4 * 0 + 2)) + p1)) (4 * 1 + 0)) + p2)) (4 * 1 + 2) (((upZ (upZ (upZ Wk (4 * 0 + 1) ((Wk (4 * 0 + 1)) - p2)) (4 * 0 + 2) (((upZ Wk (4 * 0 + 1) ((Wk (4 * 0 + 1)) - p2)) (4 * 0 + 2)) + p1)) (4 * 1 + 0) (((upZ (upZ Wk (4 * 0 + 1) ((Wk (4 * 0 + 1)) - p2)) (4 * 0 + 2) (((upZ Wk (4 * 0 + 1) ((Wk (4 * 0 + 1)) - p2)) (4 * 0 + 2)) + p1)) (4 * 1 + 0)) + p2)) (4 * 1 + 2)) - p0)) (4 * 2 + 0) (((upZ (upZ (upZ (upZ Wk (4 * 0 + 1) ((Wk (4 * 0 + 1)) - p2)) (4 * 0 + 2) (((upZ Wk (4 * 0 + 1) ((Wk (4 * 0 + 1)) - p2)) (4 * 0 + 2)) + p1)) (4 * 1 + 0) (((upZ (upZ Wk (4 * 0 + 1) ((Wk (4 * 0 + 1)) - p2)) (4 * 0 + 2) (((upZ Wk (4 * 0 + 1) ((Wk (4 * 0 + 1)) - p2)) (4 * 0 + 2)) + p1)) (4 * 1 + 0)) + p2)) (4 * 1 + 2) (((upZ (upZ (upZ Wk (4 * 0 + 1) ((Wk (4 * 0 + 1)) - p2)) (4 * 0 + 2) (((upZ Wk (4 * 0 + 1) ((Wk (4 * 0 + 1)) - p2)) (4 * 0 + 2)) + p1)) (4 * 1 + 0) (((upZ (upZ Wk (4 * 0 + 1) ((Wk (4 * 0 + 1)) - p2)) (4 * 0 + 2) (((upZ Wk (4 * 0 + 1) ((Wk (4 * 0 + 1)) - p2)) (4 * 0 + 2)) + p1)) (4 * 1 + 0)) + p2)) (4 * 1 + 2)) - p0)) (4 * 2 + 0)) - p1)))] := hD
    subst hw_18
    refine lv_dup2_11 hx hb d_K_addCrosswise_81 rfl rfl ?_
    refine xl_ald hx hb hK hP 1 0 rfl rfl (k := 4 * 2 + 1) (by omega) (by first | decide | omega) d_K_addCrosswise_82 ?_
    refine lv_lload_n hx hb d_K_addCrosswise_83 rfl (lv_at hl 1 rfl) ?_
    refine xl_add hx hb d_K_addCrosswise_84 ?_
    refine xl_ast hx hb hK hP hD hS 1 0 rfl rfl (k := 4 * 2 + 1) (by omega) (by first | decide | omega) d_K_addCrosswise_85 (fun H locs hP hD hS => ?_)
    have hP : va_P D vwC [(h, .inr (1, [.int (nI d), .int kb, .ref fo, .ref ke, .ref ht, .ref wo, .ref fi, .ref se])), (wo, LA cJ 16 (upZ (upZ (upZ (upZ (upZ (upZ Wk (4 * 0 + 1) ((Wk (4 * 0 + 1)) - p2)) (4 * 0 + 2) (((upZ Wk (4 * 0 + 1) ((Wk (4 * 0 + 1)) - p2)) (4 * 0 + 2)) + p1)) (4 * 1 + 0) (((upZ (upZ Wk (4 * 0 + 1) ((Wk (4 * 0 + 1)) - p2)) (4 * 0 + 2) (((upZ Wk (4 * 0 + 1) ((Wk (4 * 0 + 1)) - p2)) (4 * 0 + 2)) + p1)) (4 * 1 + 0)) + p2)) (4 * 1 + 2) (((upZ (upZ (upZ Wk (4 * 0 + 1) ((Wk (4 * 0 + 1)) - p2)) (4 * 0 + 2) (((upZ Wk (4 * 0 + 1) ((Wk (4 * 0 + 1)) - p2)) (4 * 0 + 2)) + p1)) (4 * 1 + 0) (((upZ (upZ Wk (4 * 0 + 1) ((Wk (4 * 0 + 1)) - p2)) (4 * 0 + 2) (((upZ Wk (4 * 0 + 1) ((Wk (4 * 0 + 1)) - p2)) (4 * 0 + 2)) + p1)) (4 * 1 + 0)) + p2)) (4 * 1 + 2)) - p0)) (4 * 2 + 0) (((upZ (upZ (upZ (upZ Wk (4 * 0 + 1) ((Wk (4 * 0 + 1)) - p2)) (4 * 0 + 2) (((upZ Wk (4 * 0 + 1) ((Wk (4 * 0 + 1)) - p2)) (4 * 0 + 2)) + p1)) (4 * 1 + 0) (((upZ (upZ Wk (4 * 0 + 1) ((Wk (4 * 0 + 1)) - p2)) (4 * 0 + 2) (((upZ Wk (4 * 0 + 1) ((Wk (4 * 0 + 1)) - p2)) (4 * 0 + 2)) + p1)) (4 * 1 + 0)) + p2)) (4 * 1 + 2) (((upZ (upZ (upZ Wk (4 * 0 + 1) ((Wk (4 * 0 + 1)) - p2)) (4 * 0 + 2) (((upZ Wk (4 * 0 + 1) ((Wk (4 * 0 + 1)) - p2)) (4 * 0 + 2)) + p1)) (4 * 1 + 0) (((upZ (upZ Wk (4 * 0 + 1) ((Wk (4 * 0 + 1)) - p2)) (4 * 0 + 2) (((upZ Wk (4 * 0 + 1) ((Wk (4 * 0 + 1)) - p2)) (4 * 0 + 2)) + p1)) (4 * 1 + 0)) + p2)) (4 * 1 + 2)) - p0)) (4 * 2 + 0)) - p1)) (4 * 2 + 1) (((upZ (upZ (upZ (upZ (upZ Wk (4 * 0 + 1) ((Wk (4 * 0 + 1)) - p2)) (4 * 0 + 2) (((upZ Wk (4 * 0 + 1) ((Wk (4 * 0 + 1)) - p2)) (4 * 0 + 2)) + p1)) (4 * 1 + 0) (((upZ (upZ Wk (4 * 0 + 1) ((Wk (4 * 0 + 1)) - p2)) (4 * 0 + 2) (((upZ Wk (4 * 0 + 1) ((Wk (4 * 0 + 1)) - p2)) (4 * 0 + 2)) + p1)) (4 * 1 + 0)) + p2)) (4 * 1 + 2) (((upZ (upZ (upZ Wk (4 * 0 + 1) ((Wk (4 * 0 + 1)) - p2)) (4 * 0 + 2) (((upZ Wk (4 * 0 + 1) ((Wk (4 * 0 + 1)) - p2)) (4 * 0 + 2)) + p1)) (4 * 1 + 0) (((upZ (upZ Wk (4 * 0 + 1) ((Wk (4 * 0 + 1)) - p2)) (4 * 0 + 2) (((upZ Wk (4 * 0 + 1) ((Wk (4 * 0 + 1)) - p2)) (4 * 0 + 2)) + p1)) (4 * 1 + 0)) + p2)) (4 * 1 + 2)) - p0)) (4 * 2 + 0) (((upZ (upZ (upZ (upZ Wk (4 * 0 + 1) ((Wk (4 * 0 + 1)) - p2)) (4 * 0 + 2) (((upZ Wk (4 * 0 + 1) ((Wk (4 * 0 + 1)) - p2)) (4 * 0 + 2)) + p1)) (4 * 1 + 0) (((upZ (upZ Wk (4 * 0 + 1) ((Wk (4 * 0 + 1)) - p2)) (4 * 0 + 2) (((upZ Wk (4 * 0 + 1) ((Wk (4 * 0 + 1)) - p2)) (4 * 0 + 2)) + p1)) (4 * 1 + 0)) + p2)) (4 * 1 + 2) (((upZ (upZ (upZ Wk (4 * 0 + 1) ((Wk (4 * 0 + 1)) - p2)) (4 * 0 + 2) (((upZ Wk (4 * 0 + 1) ((Wk (4 * 0 + 1)) - p2)) (4 * 0 + 2)) + p1)) (4 * 1 + 0) (((upZ (upZ Wk (4 * 0 + 1) ((Wk (4 * 0 + 1)) - p2)) (4 * 0 + 2) (((upZ Wk (4 * 0 + 1) ((Wk (4 * 0 + 1)) - p2)) (4 * 0 + 2)) + p1)) (4 * 1 + 0)) + p2)) (4 * 1 + 2)) - p0)) (4 * 2 + 0)) - p1)) (4 * 2 + 1)) + p0)))] H := hP
    have hD : va_D A [(h, .inr (1, [.int (nI d), .int kb, .ref fo, .ref ke, .ref ht, .ref wo, .ref fi, .ref se])), (wo, LA cJ 16 (upZ (upZ (upZ (upZ (upZ (upZ Wk (4 * 0 + 1) ((Wk (4 * 0 + 1)) - p2)) (4 * 0 + 2) (((upZ Wk (4 * 0 + 1) ((Wk (4 * 0 + 1)) - p2)) (4 * 0 + 2)) + p1)) (4 * 1 + 0) (((upZ (upZ Wk (4 * 0 + 1) ((Wk (4 * 0 + 1)) - p2)) (4 * 0 + 2) (((upZ Wk (4 * 0 + 1) ((Wk (4 * 0 + 1)) - p2)) (4 * 0 + 2)) + p1)) (4 * 1 + 0)) + p2)) (4 * 1 + 2) (((upZ (upZ (upZ Wk (4 * 0 + 1) ((Wk (4 * 0 + 1)) - p2)) (4 * 0 + 2) (((upZ Wk (4 * 0 + 1) ((Wk (4 * 0 + 1)) - p2)) (4 * 0 + 2)) + p1)) (4 * 1 + 0) (((upZ (upZ Wk (4 * 0 + 1) ((Wk (4 * 0 + 1)) - p2)) (4 * 0 + 2) (((upZ Wk (4 * 0 + 1) ((Wk (4 * 0 + 1)) - p2)) (4 * 0 + 2)) + p1)) (4 * 1 + 0)) + p2)) (4 * 1 + 2)) - p0)) (4 * 2 + 0) (((upZ (upZ (upZ (upZ Wk (4 * 0 + 1) ((Wk (4 * 0 + 1)) - p2)) (4 * 0 + 2) (((upZ Wk (4 * 0 + 1) ((Wk (4 * 0 + 1)) - p2)) (4 * 0 + 2)) + p1)) (4 * 1 + 0) (((upZ (upZ Wk (4 * 0 + 1) ((Wk (4 * 0 + 1)) - p2)) (4 * 0 + 2) (((upZ Wk (4 * 0 + 1) ((Wk (4 * 0 + 1)) - p2)) (4 * 0 + 2)) + p1)) (4 * 1 + 0)) + p2)) (4 * 1 + 2) (((upZ (upZ (upZ Wk (4 * 0 + 1) ((Wk (4 * 0 + 1)) - p2)) (4 * 0 + 2) (((upZ Wk (4 * 0 + 1) ((Wk (4 * 0 + 1)) - p2)) (4 * 0 + 2)) + p1)) (4 * 1 + 0) (((upZ (upZ Wk (4 * 0 + 1) ((Wk (4 * 0 + 1)) - p2)) (4 * 0 + 2) (((upZ Wk (4 * 0 + 1) ((Wk (4 * 0 + 1)) - p2)) (4 * 0 + 2)) + p1)) (4 * 1 + 0)) + p2)) (4 * 1 + 2)) - p0)) (4 * 2 + 0)) - p1)) (4 * 2 + 1) (((upZ (upZ (upZ (upZ (upZ Wk (4 * 0 + 1) ((Wk (4 * 0 + 1)) - p2)) (4 * 0 + 2) (((upZ Wk (4 * 0 + 1) ((Wk (4 * 0 + 1)) - p2)) (4 * 0 + 2)) + p1)) (4 * 1 + 0) (((upZ (upZ Wk (4 * 0 + 1) ((Wk (4 * 0 + 1)) - p2)) (4 * 0 + 2) (((upZ Wk (4 * 0 + 1) ((Wk (4 * 0 + 1)) - p2)) (4 * 0 + 2)) + p1)) (4 * 1 + 0)) + p2)) (4 * 1 + 2) (((upZ (upZ (upZ Wk (4 * 0 + 1) ((Wk (4 * 0 + 1)) - p2)) (4 * 0 + 2) (((upZ Wk (4 * 0 + 1) ((Wk (4 * 0 + 1)) - p2)) (4 * 0 + 2)) + p1)) (4 * 1 + 0) (((upZ (upZ Wk (4 * 0 + 1) ((Wk (4 * 0 + 1)) - p2)) (4 * 0 + 2) (((upZ Wk (4 * 0 + 1) ((Wk (4 * 0 + 1)) - p2)) (4 * 0 + 2)) + p1)) (4 * 1 + 0)) + p2)) (4 * 1 + 2)) - p0)) (4 * 2 + 0) (((upZ (upZ (upZ (upZ Wk (4 * 0 + 1) ((Wk (4 * 0 + 1)) - p2)) (4 * 0 + 2) (((upZ Wk (4 * 0 + 1) ((Wk (4 * 0 + 1)) - p2)) (4 * 0 + 2)) + p1)) (4 * 1 + 0) (((upZ (upZ Wk (4 * 0 + 1) ((Wk (4 * 0 + 1)) - p2)) (4 * 0 + 2) (((upZ Wk (4 * 0 + 1) ((Wk (4 * 0 + 1)) - p2)) (4 * 0 + 2)) + p1)) (4 * 1 + 0)) + p2)) (4 * 1 + 2) (((upZ (upZ (upZ Wk (4 * 0 + 1) ((Wk (4 * 0 + 1)) - p2)) (4 * 0 + 2) (((upZ Wk (4 * 0 + 1) ((Wk (4 * 0 + 1)) - p2)) (4 * 0 + 2)) + p1)) (4 * 1 + 0) (((upZ (upZ Wk (4 * 0 + 1) ((Wk (4 * 0 + 1)) - p2)) (4 * 0 + 2) (((upZ Wk (4 * 0 + 1) ((Wk (4 * 0 + 1)) - p2)) (4 * 0 + 2)) + p1)) (4 * 1 + 0)) + p2)) (4 * 1 + 2)) - p0)) (4 * 2 + 0)) - p1)) (4 * 2 + 1)) + p0)))] := hD
    exact hret H locs _ ls (upZ (upZ (upZ (upZ (upZ (upZ Wk (4 * 0 + 1) ((Wk (4 * 0 + 1)) - p2)) (4 * 0 + 2) (((upZ Wk (4 * 0 + 1) ((Wk (4 * 0 + 1)) - p2)) (4 * 0 + 2)) + p1)) (4 * 1 + 0) (((upZ (upZ Wk (4 * 0 + 1) ((Wk (4 * 0 + 1)) - p2)) (4 * 0 + 2) (((upZ Wk (4 * 0 + 1) ((Wk (4 * 0 + 1)) - p2)) (4 * 0 + 2)) + p1)) (4 * 1 + 0)) + p2)) (4 * 1 + 2) (((upZ (upZ (upZ Wk (4 * 0 + 1) ((Wk (4 * 0 + 1)) - p2)) (4 * 0 + 2) (((upZ Wk (4 * 0 + 1) ((Wk (4 * 0 + 1)) - p2)) (4 * 0 + 2)) + p1)) (4 * 1 + 0) (((upZ (upZ Wk (4 * 0 + 1) ((Wk (4 * 0 + 1)) - p2)) (4 * 0 + 2) (((upZ Wk (4 * 0 + 1) ((Wk (4 * 0 + 1)) - p2)) (4 * 0 + 2)) + p1)) (4 * 1 + 0)) + p2)) (4 * 1 + 2)) - p0)) (4 * 2 + 0) (((upZ (upZ (upZ (upZ Wk (4 * 0 + 1) ((Wk (4 * 0 + 1)) - p2)) (4 * 0 + 2) (((upZ Wk (4 * 0 + 1) ((Wk (4 * 0 + 1)) - p2)) (4 * 0 + 2)) + p1)) (4 * 1 + 0) (((upZ (upZ Wk (4 * 0 + 1) ((Wk (4 * 0 + 1)) - p2)) (4 * 0 + 2) (((upZ Wk (4 * 0 + 1) ((Wk (4 * 0 + 1)) - p2)) (4 * 0 + 2)) + p1)) (4 * 1 + 0)) + p2)) (4 * 1 + 2) (((upZ (upZ (upZ Wk (4 * 0 + 1) ((Wk (4 * 0 + 1)) - p2)) (4 * 0 + 2) (((upZ Wk (4 * 0 + 1) ((Wk (4 * 0 + 1)) - p2)) (4 * 0 + 2)) + p1)) (4 * 1 + 0) (((upZ (upZ Wk (4 * 0 + 1) ((Wk (4 * 0 + 1)) - p2)) (4 * 0 + 2) (((upZ Wk (4 * 0 + 1) ((Wk (4 * 0 + 1)) - p2)) (4 * 0 + 2)) + p1)) (4 * 1 + 0)) + p2)) (4 * 1 + 2)) - p0)) (4 * 2 + 0)) - p1)) (4 * 2 + 1) (((upZ (upZ (upZ (upZ (upZ Wk (4 * 0 + 1) ((Wk (4 * 0 + 1)) - p2)) (4 * 0 + 2) (((upZ Wk (4 * 0 + 1) ((Wk (4 * 0 + 1)) - p2)) (4 * 0 + 2)) + p1)) (4 * 1 + 0) (((upZ (upZ Wk (4 * 0 + 1) ((Wk (4 * 0 + 1)) - p2)) (4 * 0 + 2) (((upZ Wk (4 * 0 + 1) ((Wk (4 * 0 + 1)) - p2)) (4 * 0 + 2)) + p1)) (4 * 1 + 0)) + p2)) (4 * 1 + 2) (((upZ (upZ (upZ Wk (4 * 0 + 1) ((Wk (4 * 0 + 1)) - p2)) (4 * 0 + 2) (((upZ Wk (4 * 0 + 1) ((Wk (4 * 0 + 1)) - p2)) (4 * 0 + 2)) + p1)) (4 * 1 + 0) (((upZ (upZ Wk (4 * 0 + 1) ((Wk (4 * 0 + 1)) - p2)) (4 * 0 + 2) (((upZ Wk (4 * 0 + 1) ((Wk (4 * 0 + 1)) - p2)) (4 * 0 + 2)) + p1)) (4 * 1 + 0)) + p2)) (4 * 1 + 2)) - p0)) (4 * 2 + 0) (((upZ (upZ (upZ (upZ Wk (4 * 0 + 1) ((Wk (4 * 0 + 1)) - p2)) (4 * 0 + 2) (((upZ Wk (4 * 0 + 1) ((Wk (4 * 0 + 1)) - p2)) (4 * 0 + 2)) + p1)) (4 * 1 + 0) (((upZ (upZ Wk (4 * 0 + 1) ((Wk (4 * 0 + 1)) - p2)) (4 * 0 + 2) (((upZ Wk (4 * 0 + 1) ((Wk (4 * 0 + 1)) - p2)) (4 * 0 + 2)) + p1)) (4 * 1 + 0)) + p2)) (4 * 1 + 2) (((upZ (upZ (upZ Wk (4 * 0 + 1) ((Wk (4 * 0 + 1)) - p2)) (4 * 0 + 2) (((upZ Wk (4 * 0 + 1) ((Wk (4 * 0 + 1)) - p2)) (4 * 0 + 2)) + p1)) (4 * 1 + 0) (((upZ (upZ Wk (4 * 0 + 1) ((Wk (4 * 0 + 1)) - p2)) (4 * 0 + 2) (((upZ Wk (4 * 0 + 1) ((Wk (4 * 0 + 1)) - p2)) (4 * 0 + 2)) + p1)) (4 * 1 + 0)) + p2)) (4 * 1 + 2)) - p0)) (4 * 2 + 0)) - p1)) (4 * 2 + 1)) + p0)) d_K_addCrosswise_86 (fun a b ha hb => by have hA : a = 0 ∨ a = 1 ∨ a = 2 := (by omega); have hB : b = 0 ∨ b = 1 ∨ b = 2 := (by omega); rcases hA with rfl | rfl | rfl <;> rcases hB with rfl | rfl | rfl <;> simp [upZ, crs] <;> omega) hP hD hS
  rw [hH, hlc] at key; exact key

def rm_c_join : Room := { frames := 4, cells := 0, slots := 0, locals := 107 }
set_option maxHeartbeats 4000000 in
set_option maxRecDepth 100000 in
/-- the two lines, joined -/
theorem c_join (l : Launch) (D : va_G) (cJ : ClassId) (h : Nat) (d : Nat) (kb : Int32) (fo : Nat) (ke : Nat) (ht : Nat) (wo : Nat) (fi : Nat) (se : Nat) (Fm : Nat → Int) (Wk : Nat → Int) (hc : Nat) (hf : Nat) (hp : Nat) (ho : Nat) (r0 : Int32) (C : Nat → Int) (F : Nat → Int) (P : Nat → Int) (O : Nat → Int) (hF : ∀ k, k < 16 → inB (Fm k) 20) (sz : Nat) : xMz l y_K_joinLines (Cond.code y_K_joinLines b_K_joinLines 5 (some .boolean) :: tW) rm_c_join [.ref h] D vwC [(cJ, .long)] sz [(h, .inr (1, [.int (nI d), .int kb, .ref fo, .ref ke, .ref ht, .ref wo, .ref fi, .ref se])), (fo, LA cJ 16 Fm), (wo, LA cJ 16 Wk), (ht, .inr (0, [.int r0, .ref hc, .ref hf, .ref hp, .ref ho])), (hc, LA cJ 16 C), (hf, LA cJ 16 F), (hp, LA cJ 16 P), (ho, LA cJ 5 O)] (fun (rv : Int32) (uo : Nat × Nat × (Nat → Int) × Int32 × (Nat → Int) × (Nat → Int) × (Nat → Int) × (Nat → Int)) => ((rv = nI 1 ∧ (uo.2.1 ≠ 0)) ∨ (rv = nI 0 ∧ ¬ (uo.2.1 ≠ 0))) ∧ (jlOK (prt Fm 0) uo.1 uo.2.1 ∧ (uo.2.1 ≠ 0 → ∀ a b, a < 3 → b < 3 → uo.2.2.1 (4 * a + b) = crsT Fm uo.1 uo.2.1 (4 * a + b)))) (fun (uo : Nat × Nat × (Nat → Int) × Int32 × (Nat → Int) × (Nat → Int) × (Nat → Int) × (Nat → Int)) => [(h, .inr (1, [.int (nI d), .int kb, .ref fo, .ref ke, .ref ht, .ref wo, .ref fi, .ref se])), (fo, LA cJ 16 Fm), (wo, LA cJ 16 uo.2.2.1), (ht, .inr (0, [.int uo.2.2.2.1, .ref hc, .ref hf, .ref hp, .ref ho])), (hc, LA cJ 16 uo.2.2.2.2.1), (hf, LA cJ 16 uo.2.2.2.2.2.1), (hp, LA cJ 16 uo.2.2.2.2.2.2.1), (ho, LA cJ 5 uo.2.2.2.2.2.2.2)]) 0 0 := by
  refine xoz (cc := b_K_joinLines) (maxL := 5) (by decide) rfl (Nat.le_of_ble_eq_true rfl) (fun r u h => by rcases h.1 with h | h; exact Or.inr h.1; exact Or.inl h.1) ?_
  intro p e s m args below meth c Q A hx hb hml hts hown hN hA hS hP hK hD hret ls hl
  have hl : lv_has ls 5 [(0, .ref h)] := hl
  obtain ⟨H, hH⟩ : ∃ z, z = s.heap := ⟨_, rfl⟩
  obtain ⟨locs, hlc⟩ : ∃ z : List Loc, z = [] := ⟨_, rfl⟩
  rw [← hH] at hP
  have hS : va_S A s.heap H locs := by rw [hH, hlc]; exact hS
  have key : W p l e rm_c_join s m args below meth c H locs 0 0 Q (F0 m 0 ls []) := by
    refine lv_aload_n hx hb d_K_joinLines_0 rfl (lv_at hl 0 rfl) ?_
    refine va_get (D := D) (ci := 1) (v := .ref ht) (C := R_K) (T := F_K) (N := 8) hx hb hts iw_K hown hK hP 0 rfl rfl 4 (by decide) (hts _ tw_46) (fun _ h9 => h9) rfl d_K_joinLines_1 ?_
    refine lv_aload_n hx hb d_K_joinLines_4 rfl (lv_at hl 0 rfl) ?_
    refine va_get (D := D) (ci := 1) (v := .ref fo) (C := R_K) (T := F_K) (N := 8) hx hb hts iw_K hown hK hP 0 rfl rfl 2 (by decide) (hts _ tw_44) (fun _ h9 => h9) rfl d_K_joinLines_5 ?_
    refine lv_iconst (v := nI 0) hx hb d_K_joinLines_8 (by decide) ?_
    refine lv_iconst (v := nI 2) hx hb d_K_joinLines_9 (by decide) ?_
    refine xcv (wc := [(ht, .inr (0, [.int r0, .ref hc, .ref hf, .ref hp, .ref ho])), (hc, LA cJ 16 C), (hf, LA cJ 16 F), (hp, LA cJ 16 P), (ho, LA cJ 5 O), (fo, LA cJ 16 Fm)]) (wr := [(h, .inr (1, [.int (nI d), .int kb, .ref fo, .ref ke, .ref ht, .ref wo, .ref fi, .ref se])), (wo, LA cJ 16 Wk)]) hP hD hS hA [3, 4, 5, 6, 7, 1] [0, 2] rfl rfl (by decide) (by decide) (va_runV (As := [.ref fo, .int (nI 0), .int (nI 2)]) (rest := []) ⟨hx, hb, hml, hown, hts⟩ (c_load l D cJ ht hc hf hp ho fo 0 2 3 r0 C F P O Fm (by first | assumption | omega) (by first | assumption | omega) (by first | assumption | omega) (ld_q (by decide) (by decide) (enB_20 hF (by decide))) H.size) (cwV 3 hts (gV tw_97 tw_98 tw_99 tw_2 tw_100) rfl rfl rfl ⟨rfl, hd_T_load⟩ ⟨Nat.le_of_ble_eq_true rfl, Nat.le_of_ble_eq_true rfl⟩) (xPreV (C := R_T) (T := F_T) (N := 5) (q0 := 0) hN hK (hP.sub (ws' := [(ht, .inr (0, [.int r0, .ref hc, .ref hf, .ref hp, .ref ho])), (hc, LA cJ 16 C), (hf, LA cJ 16 F), (hp, LA cJ 16 P), (ho, LA cJ 5 O), (fo, LA cJ 16 Fm)]) [3, 4, 5, 6, 7, 1] rfl) (hD.sub (ws' := [(ht, .inr (0, [.int r0, .ref hc, .ref hf, .ref hp, .ref ho])), (hc, LA cJ 16 C), (hf, LA cJ 16 F), (hp, LA cJ 16 P), (ho, LA cJ 5 O), (fo, LA cJ 16 Fm)]) [3, 4, 5, 6, 7, 1] (by decide) rfl) rfl rfl) rfl rfl hl.1 rfl (lv_room (Nat.le_of_ble_eq_true rfl)) d_K_joinLines_10 ⟨Nat.le_of_ble_eq_true rfl, Nat.le_of_ble_eq_true rfl⟩) (fun u_2 H locs hw1 hP hD hS => ?_)
    obtain ⟨Ca, Fa, Pa, Oa⟩ := u_2
    try dsimp only at hw1
    have hP : va_P D vwC [(h, .inr (1, [.int (nI d), .int kb, .ref fo, .ref ke, .ref ht, .ref wo, .ref fi, .ref se])), (fo, LA cJ 16 Fm), (wo, LA cJ 16 Wk), (ht, .inr (0, [.int (nI 3), .ref hc, .ref hf, .ref hp, .ref ho])), (hc, LA cJ 16 Ca), (hf, LA cJ 16 Fa), (hp, LA cJ 16 Pa), (ho, LA cJ 5 Oa)] H := hP.sub [0, 7, 1, 2, 3, 4, 5, 6] rfl
    have hD : va_D A [(h, .inr (1, [.int (nI d), .int kb, .ref fo, .ref ke, .ref ht, .ref wo, .ref fi, .ref se])), (fo, LA cJ 16 Fm), (wo, LA cJ 16 Wk), (ht, .inr (0, [.int (nI 3), .ref hc, .ref hf, .ref hp, .ref ho])), (hc, LA cJ 16 Ca), (hf, LA cJ 16 Fa), (hp, LA cJ 16 Pa), (ho, LA cJ 5 Oa)] := hD.sub [0, 7, 1, 2, 3, 4, 5, 6] (by decide) rfl
    have hT := ld_ok (f := 0) (r := 3) (by decide) (by decide) hw1
    refine lv_iconst (v := nI 0) hx hb d_K_joinLines_13 (by decide) ?_
    refine lv_istore_n (lv' := [(1, .int (nI 0)), (0, .ref h)]) hx hb d_K_joinLines_14 rfl hl (by decide) rfl (fun ls hl => ?_)
    have lp_15 : ∀ (n_15 : Nat) (kk : Nat) (H : Heap) (locs : List Loc) (ls : Array Slot), (kk ≤ 2) → (∀ j, j < kk → adjM (prt Fm 0) 3 j j = 0) → (2 - kk) < n_15 → va_P D vwC [(h, .inr (1, [.int (nI d), .int kb, .ref fo, .ref ke, .ref ht, .ref wo, .ref fi, .ref se])), (fo, LA cJ 16 Fm), (wo, LA cJ 16 Wk), (ht, .inr (0, [.int (nI 3), .ref hc, .ref hf, .ref hp, .ref ho])), (hc, LA cJ 16 Ca), (hf, LA cJ 16 Fa), (hp, LA cJ 16 Pa), (ho, LA cJ 5 Oa)] H → va_D A [(h, .inr (1, [.int (nI d), .int kb, .ref fo, .ref ke, .ref ht, .ref wo, .ref fi, .ref se])), (fo, LA cJ 16 Fm), (wo, LA cJ 16 Wk), (ht, .inr (0, [.int (nI 3), .ref hc, .ref hf, .ref hp, .ref ho])), (hc, LA cJ 16 Ca), (hf, LA cJ 16 Fa), (hp, LA cJ 16 Pa), (ho, LA cJ 5 Oa)] → va_S A s.heap H locs → lv_has ls 5 [(0, .ref h), (1, .int (nI kk))] → W p l e rm_c_join s m args below meth c H locs 0 0 Q (F0 m 15 ls []) := by
      intro n_15
      induction n_15 with
      | zero => intro kk H locs ls hk2 h0 hn_15; exact absurd hn_15 (Nat.not_lt_zero _)
      | succ n_15 ih_15 =>
        intro kk H locs ls hk2 h0 hn_15 hP hD hS hl
        refine lv_iload_n hx hb d_K_joinLines_15 rfl (lv_at hl 1 rfl) ?_
        refine lv_iconst (v := nI 2) hx hb d_K_joinLines_16 (by decide) ?_
        refine xn_ge (tgt := 40) hx hb (by omega) (by omega) d_K_joinLines_17 (by decide) (fun c17_2 => ?_) (fun c17_2 => ?_)
        · skip
          have hkk : kk < 2 → adjM (prt Fm 0) 3 kk kk ≠ 0 := fun q => absurd q (by omega)
          refine lv_aload_n hx hb d_K_joinLines_40 rfl (lv_at hl 0 rfl) ?_
          refine va_get (D := D) (ci := 1) (v := .ref ht) (C := R_K) (T := F_K) (N := 8) hx hb hts iw_K hown hK hP 0 rfl rfl 4 (by decide) (hts _ tw_46) (fun _ h9 => h9) rfl d_K_joinLines_41 ?_
          refine lv_iload_n hx hb d_K_joinLines_44 rfl (lv_at hl 1 rfl) ?_
          refine lv_iload_n hx hb d_K_joinLines_45 rfl (lv_at hl 1 rfl) ?_
          refine xcl (wc := [(ht, .inr (0, [.int (nI 3), .ref hc, .ref hf, .ref hp, .ref ho])), (hc, LA cJ 16 Ca), (hf, LA cJ 16 Fa), (hp, LA cJ 16 Pa), (ho, LA cJ 5 Oa)]) (wr := [(h, .inr (1, [.int (nI d), .int kb, .ref fo, .ref ke, .ref ht, .ref wo, .ref fi, .ref se])), (fo, LA cJ 16 Fm), (wo, LA cJ 16 Wk)]) hP hD hS hA [3, 4, 5, 6, 7] [0, 1, 2] rfl rfl (by decide) (by decide) (va_runV (As := [.int (nI kk), .int (nI kk)]) (rest := []) ⟨hx, hb, hml, hown, hts⟩ (c_adjugate l D cJ ht hc hf hp ho 3 Ca Fa Pa Oa kk kk (by first | assumption | omega) (by first | assumption | omega) (by first | assumption | omega) H.size) (cwV 2 hts (gV tw_172 tw_173 tw_174 tw_2 tw_175) rfl rfl rfl ⟨rfl, hd_T_adjugate⟩ ⟨Nat.le_of_ble_eq_true rfl, Nat.le_of_ble_eq_true rfl⟩) (xPreV (C := R_T) (T := F_T) (N := 5) (q0 := 0) hN hK (hP.sub (ws' := [(ht, .inr (0, [.int (nI 3), .ref hc, .ref hf, .ref hp, .ref ho])), (hc, LA cJ 16 Ca), (hf, LA cJ 16 Fa), (hp, LA cJ 16 Pa), (ho, LA cJ 5 Oa)]) [3, 4, 5, 6, 7] rfl) (hD.sub (ws' := [(ht, .inr (0, [.int (nI 3), .ref hc, .ref hf, .ref hp, .ref ho])), (hc, LA cJ 16 Ca), (hf, LA cJ 16 Fa), (hp, LA cJ 16 Pa), (ho, LA cJ 5 Oa)]) [3, 4, 5, 6, 7] (by decide) rfl) rfl rfl) rfl rfl hl.1 rfl (lv_room (Nat.le_of_ble_eq_true rfl)) d_K_joinLines_46 ⟨Nat.le_of_ble_eq_true rfl, Nat.le_of_ble_eq_true rfl⟩) (fun r_4 u_5 H locs hw_6 hP hD hS => ?_)
          try dsimp only at hw_6
          have hP : va_P D vwC [(h, .inr (1, [.int (nI d), .int kb, .ref fo, .ref ke, .ref ht, .ref wo, .ref fi, .ref se])), (fo, LA cJ 16 Fm), (wo, LA cJ 16 Wk), (ht, .inr (0, [.int (nI 3), .ref hc, .ref hf, .ref hp, .ref ho])), (hc, LA cJ 16 Ca), (hf, LA cJ 16 Fa), (hp, LA cJ 16 Pa), (ho, LA cJ 5 Oa)] H := hP
          have hD : va_D A [(h, .inr (1, [.int (nI d), .int kb, .ref fo, .ref ke, .ref ht, .ref wo, .ref fi, .ref se])), (fo, LA cJ 16 Fm), (wo, LA cJ 16 Wk), (ht, .inr (0, [.int (nI 3), .ref hc, .ref hf, .ref hp, .ref ho])), (hc, LA cJ 16 Ca), (hf, LA cJ 16 Fa), (hp, LA cJ 16 Pa), (ho, LA cJ 5 Oa)] := hD
          subst hw_6
          rw [ld_adj (i := kk) (j := kk) hT (by omega) (by omega)]
          refine xl_neg hx hb d_K_joinLines_49 ?_
          refine xci (wc := []) (wr := [(h, .inr (1, [.int (nI d), .int kb, .ref fo, .ref ke, .ref ht, .ref wo, .ref fi, .ref se])), (fo, LA cJ 16 Fm), (wo, LA cJ 16 Wk), (ht, .inr (0, [.int (nI 3), .ref hc, .ref hf, .ref hp, .ref ho])), (hc, LA cJ 16 Ca), (hf, LA cJ 16 Fa), (hp, LA cJ 16 Pa), (ho, LA cJ 5 Oa)]) hP hD hS hA [] [0, 1, 2, 3, 4, 5, 6, 7] rfl rfl (by decide) (by decide) (va_runS (As := [.long (lI (-(adjM (prt Fm 0) 3 kk kk)))]) (rest := []) ⟨hx, hb, hml, hown, hts⟩ (c_root l D cJ (-(adjM (prt Fm 0) 3 kk kk)) (lB_of (negB (adjM_B (by decide) (by decide) (by omega) (by omega) (enB_f hF (f := 0) (r := 3) (by decide)))) (by decide)) H.size) (cwS 1 hts (gS tw_280 tw_281 tw_1 tw_282) rfl rfl rfl ⟨rfl, hd_K_rootOf⟩ ⟨Nat.le_of_ble_eq_true rfl, Nat.le_of_ble_eq_true rfl⟩) (xPreS hN hK (hP.sub (ws' := []) [] rfl) (hD.sub (ws' := []) [] (by decide) rfl)) rfl rfl hl.1 rfl (lv_room (Nat.le_of_ble_eq_true rfl)) d_K_joinLines_50 ⟨Nat.le_of_ble_eq_true rfl, Nat.le_of_ble_eq_true rfl⟩) (fun r_7 u_8 H locs hroot hP hD hS => ?_)
          obtain ⟨rt, rfl⟩ : ∃ z, z = u_8 := ⟨_, rfl⟩
          try dsimp only at hroot
          have hP : va_P D vwC [(h, .inr (1, [.int (nI d), .int kb, .ref fo, .ref ke, .ref ht, .ref wo, .ref fi, .ref se])), (fo, LA cJ 16 Fm), (wo, LA cJ 16 Wk), (ht, .inr (0, [.int (nI 3), .ref hc, .ref hf, .ref hp, .ref ho])), (hc, LA cJ 16 Ca), (hf, LA cJ 16 Fa), (hp, LA cJ 16 Pa), (ho, LA cJ 5 Oa)] H := hP
          have hD : va_D A [(h, .inr (1, [.int (nI d), .int kb, .ref fo, .ref ke, .ref ht, .ref wo, .ref fi, .ref se])), (fo, LA cJ 16 Fm), (wo, LA cJ 16 Wk), (ht, .inr (0, [.int (nI 3), .ref hc, .ref hf, .ref hp, .ref ho])), (hc, LA cJ 16 Ca), (hf, LA cJ 16 Fa), (hp, LA cJ 16 Pa), (ho, LA cJ 5 Oa)] := hD
          obtain ⟨rfl, hroot⟩ := hroot
          have hrb : rt ≤ 28 := by rcases hroot with q | q <;> omega
          refine lv_istore_n (lv' := [(2, .int (nI rt)), (0, .ref h), (1, .int (nI kk))]) hx hb d_K_joinLines_53 rfl hl (by decide) rfl (fun ls hl => ?_)
          refine lv_iload_n hx hb d_K_joinLines_54 rfl (lv_at hl 0 rfl) ?_
          refine xz_ne (tgt := 60) (X := (rt : Nat)) hx hb (nI_toInt (by omega)) d_K_joinLines_55 (by decide) (fun c55_8 => ?_) (fun c55_8 => ?_)
          · skip
            refine lv_iconst (v := nI 0) hx hb d_K_joinLines_60 (by decide) ?_
            refine lv_istore_n (lv' := [(3, .int (nI 0)), (2, .int (nI rt)), (0, .ref h), (1, .int (nI kk))]) hx hb d_K_joinLines_61 rfl hl (by decide) rfl (fun ls hl => ?_)
            have lp_62 : ∀ (n_62 : Nat) (i : Nat) (W3 : Nat → Int) (H : Heap) (locs : List Loc) (ls : Array Slot), (i ≤ 3) → (∀ a b, a < i → b < 3 → W3 (4 * a + b) = ((rt : Nat) : Int) * Fm (4 * a + b)) → (3 - i) < n_62 → va_P D vwC [(h, .inr (1, [.int (nI d), .int kb, .ref fo, .ref ke, .ref ht, .ref wo, .ref fi, .ref se])), (fo, LA cJ 16 Fm), (wo, LA cJ 16 W3), (ht, .inr (0, [.int (nI 3), .ref hc, .ref hf, .ref hp, .ref ho])), (hc, LA cJ 16 Ca), (hf, LA cJ 16 Fa), (hp, LA cJ 16 Pa), (ho, LA cJ 5 Oa)] H → va_D A [(h, .inr (1, [.int (nI d), .int kb, .ref fo, .ref ke, .ref ht, .ref wo, .ref fi, .ref se])), (fo, LA cJ 16 Fm), (wo, LA cJ 16 W3), (ht, .inr (0, [.int (nI 3), .ref hc, .ref hf, .ref hp, .ref ho])), (hc, LA cJ 16 Ca), (hf, LA cJ 16 Fa), (hp, LA cJ 16 Pa), (ho, LA cJ 5 Oa)] → va_S A s.heap H locs → lv_has ls 5 [(0, .ref h), (1, .int (nI kk)), (2, .int (nI rt)), (3, .int (nI i))] → W p l e rm_c_join s m args below meth c H locs 0 0 Q (F0 m 62 ls []) := by
              intro n_62
              induction n_62 with
              | zero => intro i W3 H locs ls hi h1 hn_62; exact absurd hn_62 (Nat.not_lt_zero _)
              | succ n_62 ih_62 =>
                intro i W3 H locs ls hi h1 hn_62 hP hD hS hl
                refine lv_iload_n hx hb d_K_joinLines_62 rfl (lv_at hl 3 rfl) ?_
                refine lv_iconst (v := nI 3) hx hb d_K_joinLines_63 (by decide) ?_
                refine xn_ge (tgt := 113) hx hb (by omega) (by omega) d_K_joinLines_64 (by decide) (fun c64_9 => ?_) (fun c64_9 => ?_)
                · skip
                  refine lv_aload_n hx hb d_K_joinLines_113 rfl (lv_at hl 0 rfl) ?_
                  refine lv_aload_n hx hb d_K_joinLines_114 rfl (lv_at hl 0 rfl) ?_
                  refine va_get (D := D) (ci := 1) (v := .ref ht) (C := R_K) (T := F_K) (N := 8) hx hb hts iw_K hown hK hP 0 rfl rfl 4 (by decide) (hts _ tw_46) (fun _ h9 => h9) rfl d_K_joinLines_115 ?_
                  refine lv_iload_n hx hb d_K_joinLines_118 rfl (lv_at hl 1 rfl) ?_
                  refine lv_iconst (v := nI 0) hx hb d_K_joinLines_119 (by decide) ?_
                  refine xcl (wc := [(ht, .inr (0, [.int (nI 3), .ref hc, .ref hf, .ref hp, .ref ho])), (hc, LA cJ 16 Ca), (hf, LA cJ 16 Fa), (hp, LA cJ 16 Pa), (ho, LA cJ 5 Oa)]) (wr := [(h, .inr (1, [.int (nI d), .int kb, .ref fo, .ref ke, .ref ht, .ref wo, .ref fi, .ref se])), (fo, LA cJ 16 Fm), (wo, LA cJ 16 W3)]) hP hD hS hA [3, 4, 5, 6, 7] [0, 1, 2] rfl rfl (by decide) (by decide) (va_runV (As := [.int (nI kk), .int (nI 0)]) (rest := [.ref h]) ⟨hx, hb, hml, hown, hts⟩ (c_adjugate l D cJ ht hc hf hp ho 3 Ca Fa Pa Oa kk 0 (by first | assumption | omega) (by first | assumption | omega) (by first | assumption | omega) H.size) (cwV 2 hts (gV tw_172 tw_173 tw_174 tw_2 tw_175) rfl rfl rfl ⟨rfl, hd_T_adjugate⟩ ⟨Nat.le_of_ble_eq_true rfl, Nat.le_of_ble_eq_true rfl⟩) (xPreV (C := R_T) (T := F_T) (N := 5) (q0 := 0) hN hK (hP.sub (ws' := [(ht, .inr (0, [.int (nI 3), .ref hc, .ref hf, .ref hp, .ref ho])), (hc, LA cJ 16 Ca), (hf, LA cJ 16 Fa), (hp, LA cJ 16 Pa), (ho, LA cJ 5 Oa)]) [3, 4, 5, 6, 7] rfl) (hD.sub (ws' := [(ht, .inr (0, [.int (nI 3), .ref hc, .ref hf, .ref hp, .ref ho])), (hc, LA cJ 16 Ca), (hf, LA cJ 16 Fa), (hp, LA cJ 16 Pa), (ho, LA cJ 5 Oa)]) [3, 4, 5, 6, 7] (by decide) rfl) rfl rfl) rfl rfl hl.1 rfl (lv_room (Nat.le_of_ble_eq_true rfl)) d_K_joinLines_120 ⟨Nat.le_of_ble_eq_true rfl, Nat.le_of_ble_eq_true rfl⟩) (fun r_11 u_12 H locs hw_13 hP hD hS => ?_)
                  try dsimp only at hw_13
                  have hP : va_P D vwC [(h, .inr (1, [.int (nI d), .int kb, .ref fo, .ref ke, .ref ht, .ref wo, .ref fi, .ref se])), (fo, LA cJ 16 Fm), (wo, LA cJ 16 W3), (ht, .inr (0, [.int (nI 3), .ref hc, .ref hf, .ref hp, .ref ho])), (hc, LA cJ 16 Ca), (hf, LA cJ 16 Fa), (hp, LA cJ 16 Pa), (ho, LA cJ 5 Oa)] H := hP
                  have hD : va_D A [(h, .inr (1, [.int (nI d), .int kb, .ref fo, .ref ke, .ref ht, .ref wo, .ref fi, .ref se])), (fo, LA cJ 16 Fm), (wo, LA cJ 16 W3), (ht, .inr (0, [.int (nI 3), .ref hc, .ref hf, .ref hp, .ref ho])), (hc, LA cJ 16 Ca), (hf, LA cJ 16 Fa), (hp, LA cJ 16 Pa), (ho, LA cJ 5 Oa)] := hD
                  subst hw_13
                  rw [ld_adj (i := kk) (j := 0) hT (by omega) (by omega)]
                  refine lv_aload_n hx hb d_K_joinLines_123 rfl (lv_at hl 0 rfl) ?_
                  refine va_get (D := D) (ci := 1) (v := .ref ht) (C := R_K) (T := F_K) (N := 8) hx hb hts iw_K hown hK hP 0 rfl rfl 4 (by decide) (hts _ tw_46) (fun _ h9 => h9) rfl d_K_joinLines_124 ?_
                  refine lv_iload_n hx hb d_K_joinLines_127 rfl (lv_at hl 1 rfl) ?_
                  refine lv_iconst (v := nI 1) hx hb d_K_joinLines_128 (by decide) ?_
                  refine xcl (wc := [(ht, .inr (0, [.int (nI 3), .ref hc, .ref hf, .ref hp, .ref ho])), (hc, LA cJ 16 Ca), (hf, LA cJ 16 Fa), (hp, LA cJ 16 Pa), (ho, LA cJ 5 Oa)]) (wr := [(h, .inr (1, [.int (nI d), .int kb, .ref fo, .ref ke, .ref ht, .ref wo, .ref fi, .ref se])), (fo, LA cJ 16 Fm), (wo, LA cJ 16 W3)]) hP hD hS hA [3, 4, 5, 6, 7] [0, 1, 2] rfl rfl (by decide) (by decide) (va_runV (As := [.int (nI kk), .int (nI 1)]) (rest := [.long (lI (adjM (prt Fm 0) 3 kk 0)), .ref h]) ⟨hx, hb, hml, hown, hts⟩ (c_adjugate l D cJ ht hc hf hp ho 3 Ca Fa Pa Oa kk 1 (by first | assumption | omega) (by first | assumption | omega) (by first | assumption | omega) H.size) (cwV 2 hts (gV tw_172 tw_173 tw_174 tw_2 tw_175) rfl rfl rfl ⟨rfl, hd_T_adjugate⟩ ⟨Nat.le_of_ble_eq_true rfl, Nat.le_of_ble_eq_true rfl⟩) (xPreV (C := R_T) (T := F_T) (N := 5) (q0 := 0) hN hK (hP.sub (ws' := [(ht, .inr (0, [.int (nI 3), .ref hc, .ref hf, .ref hp, .ref ho])), (hc, LA cJ 16 Ca), (hf, LA cJ 16 Fa), (hp, LA cJ 16 Pa), (ho, LA cJ 5 Oa)]) [3, 4, 5, 6, 7] rfl) (hD.sub (ws' := [(ht, .inr (0, [.int (nI 3), .ref hc, .ref hf, .ref hp, .ref ho])), (hc, LA cJ 16 Ca), (hf, LA cJ 16 Fa), (hp, LA cJ 16 Pa), (ho, LA cJ 5 Oa)]) [3, 4, 5, 6, 7] (by decide) rfl) rfl rfl) rfl rfl hl.1 rfl (lv_room (Nat.le_of_ble_eq_true rfl)) d_K_joinLines_129 ⟨Nat.le_of_ble_eq_true rfl, Nat.le_of_ble_eq_true rfl⟩) (fun r_14 u_15 H locs hw_16 hP hD hS => ?_)
                  try dsimp only at hw_16
                  have hP : va_P D vwC [(h, .inr (1, [.int (nI d), .int kb, .ref fo, .ref ke, .ref ht, .ref wo, .ref fi, .ref se])), (fo, LA cJ 16 Fm), (wo, LA cJ 16 W3), (ht, .inr (0, [.int (nI 3), .ref hc, .ref hf, .ref hp, .ref ho])), (hc, LA cJ 16 Ca), (hf, LA cJ 16 Fa), (hp, LA cJ 16 Pa), (ho, LA cJ 5 Oa)] H := hP
                  have hD : va_D A [(h, .inr (1, [.int (nI d), .int kb, .ref fo, .ref ke, .ref ht, .ref wo, .ref fi, .ref se])), (fo, LA cJ 16 Fm), (wo, LA cJ 16 W3), (ht, .inr (0, [.int (nI 3), .ref hc, .ref hf, .ref hp, .ref ho])), (hc, LA cJ 16 Ca), (hf, LA cJ 16 Fa), (hp, LA cJ 16 Pa), (ho, LA cJ 5 Oa)] := hD
                  subst hw_16
                  rw [ld_adj (i := kk) (j := 1) hT (by omega) (by omega)]
                  refine lv_aload_n hx hb d_K_joinLines_132 rfl (lv_at hl 0 rfl) ?_
                  refine va_get (D := D) (ci := 1) (v := .ref ht) (C := R_K) (T := F_K) (N := 8) hx hb hts iw_K hown hK hP 0 rfl rfl 4 (by decide) (hts _ tw_46) (fun _ h9 => h9) rfl d_K_joinLines_133 ?_
                  refine lv_iload_n hx hb d_K_joinLines_136 rfl (lv_at hl 1 rfl) ?_
                  refine lv_iconst (v := nI 2) hx hb d_K_joinLines_137 (by decide) ?_
                  refine xcl (wc := [(ht, .inr (0, [.int (nI 3), .ref hc, .ref hf, .ref hp, .ref ho])), (hc, LA cJ 16 Ca), (hf, LA cJ 16 Fa), (hp, LA cJ 16 Pa), (ho, LA cJ 5 Oa)]) (wr := [(h, .inr (1, [.int (nI d), .int kb, .ref fo, .ref ke, .ref ht, .ref wo, .ref fi, .ref se])), (fo, LA cJ 16 Fm), (wo, LA cJ 16 W3)]) hP hD hS hA [3, 4, 5, 6, 7] [0, 1, 2] rfl rfl (by decide) (by decide) (va_runV (As := [.int (nI kk), .int (nI 2)]) (rest := [.long (lI (adjM (prt Fm 0) 3 kk 1)), .long (lI (adjM (prt Fm 0) 3 kk 0)), .ref h]) ⟨hx, hb, hml, hown, hts⟩ (c_adjugate l D cJ ht hc hf hp ho 3 Ca Fa Pa Oa kk 2 (by first | assumption | omega) (by first | assumption | omega) (by first | assumption | omega) H.size) (cwV 2 hts (gV tw_172 tw_173 tw_174 tw_2 tw_175) rfl rfl rfl ⟨rfl, hd_T_adjugate⟩ ⟨Nat.le_of_ble_eq_true rfl, Nat.le_of_ble_eq_true rfl⟩) (xPreV (C := R_T) (T := F_T) (N := 5) (q0 := 0) hN hK (hP.sub (ws' := [(ht, .inr (0, [.int (nI 3), .ref hc, .ref hf, .ref hp, .ref ho])), (hc, LA cJ 16 Ca), (hf, LA cJ 16 Fa), (hp, LA cJ 16 Pa), (ho, LA cJ 5 Oa)]) [3, 4, 5, 6, 7] rfl) (hD.sub (ws' := [(ht, .inr (0, [.int (nI 3), .ref hc, .ref hf, .ref hp, .ref ho])), (hc, LA cJ 16 Ca), (hf, LA cJ 16 Fa), (hp, LA cJ 16 Pa), (ho, LA cJ 5 Oa)]) [3, 4, 5, 6, 7] (by decide) rfl) rfl rfl) rfl rfl hl.1 rfl (lv_room (Nat.le_of_ble_eq_true rfl)) d_K_joinLines_138 ⟨Nat.le_of_ble_eq_true rfl, Nat.le_of_ble_eq_true rfl⟩) (fun r_17 u_18 H locs hw_19 hP hD hS => ?_)
                  try dsimp only at hw_19
                  have hP : va_P D vwC [(h, .inr (1, [.int (nI d), .int kb, .ref fo, .ref ke, .ref ht, .ref wo, .ref fi, .ref se])), (fo, LA cJ 16 Fm), (wo, LA cJ 16 W3), (ht, .inr (0, [.int (nI 3), .ref hc, .ref hf, .ref hp, .ref ho])), (hc, LA cJ 16 Ca), (hf, LA cJ 16 Fa), (hp, LA cJ 16 Pa), (ho, LA cJ 5 Oa)] H := hP
                  have hD : va_D A [(h, .inr (1, [.int (nI d), .int kb, .ref fo, .ref ke, .ref ht, .ref wo, .ref fi, .ref se])), (fo, LA cJ 16 Fm), (wo, LA cJ 16 W3), (ht, .inr (0, [.int (nI 3), .ref hc, .ref hf, .ref hp, .ref ho])), (hc, LA cJ 16 Ca), (hf, LA cJ 16 Fa), (hp, LA cJ 16 Pa), (ho, LA cJ 5 Oa)] := hD
                  subst hw_19
                  rw [ld_adj (i := kk) (j := 2) hT (by omega) (by omega)]
                  refine xcv (wc := [(h, .inr (1, [.int (nI d), .int kb, .ref fo, .ref ke, .ref ht, .ref wo, .ref fi, .ref se])), (wo, LA cJ 16 W3)]) (wr := [(fo, LA cJ 16 Fm), (ht, .inr (0, [.int (nI 3), .ref hc, .ref hf, .ref hp, .ref ho])), (hc, LA cJ 16 Ca), (hf, LA cJ 16 Fa), (hp, LA cJ 16 Pa), (ho, LA cJ 5 Oa)]) hP hD hS hA [0, 2] [1, 3, 4, 5, 6, 7] rfl rfl (by decide) (by decide) (va_runV (As := [.long (lI (adjM (prt Fm 0) 3 kk 0)), .long (lI (adjM (prt Fm 0) 3 kk 1)), .long (lI (adjM (prt Fm 0) 3 kk 2))]) (rest := []) ⟨hx, hb, hml, hown, hts⟩ (c_cross l D cJ h d kb fo ke ht wo fi se W3 (adjM (prt Fm 0) 3 kk 0) (adjM (prt Fm 0) 3 kk 1) (adjM (prt Fm 0) 3 kk 2) H.size) (cwV 3 hts (gV tw_283 tw_285 tws_14 tw_1 tw_286) rfl rfl rfl ⟨rfl, hd_K_addCrosswise⟩ ⟨Nat.le_of_ble_eq_true rfl, Nat.le_of_ble_eq_true rfl⟩) (xPreV (C := R_K) (T := F_K) (N := 8) (q0 := 0) hN hK (hP.sub (ws' := [(h, .inr (1, [.int (nI d), .int kb, .ref fo, .ref ke, .ref ht, .ref wo, .ref fi, .ref se])), (wo, LA cJ 16 W3)]) [0, 2] rfl) (hD.sub (ws' := [(h, .inr (1, [.int (nI d), .int kb, .ref fo, .ref ke, .ref ht, .ref wo, .ref fi, .ref se])), (wo, LA cJ 16 W3)]) [0, 2] (by decide) rfl) rfl rfl) rfl rfl hl.1 rfl (lv_room (Nat.le_of_ble_eq_true rfl)) d_K_joinLines_141 ⟨Nat.le_of_ble_eq_true rfl, Nat.le_of_ble_eq_true rfl⟩) (fun u_21 H locs hcr hP hD hS => ?_)
                  obtain ⟨W6, rfl⟩ : ∃ z, z = u_21 := ⟨_, rfl⟩
                  try dsimp only at hcr
                  have hP : va_P D vwC [(h, .inr (1, [.int (nI d), .int kb, .ref fo, .ref ke, .ref ht, .ref wo, .ref fi, .ref se])), (fo, LA cJ 16 Fm), (wo, LA cJ 16 W6), (ht, .inr (0, [.int (nI 3), .ref hc, .ref hf, .ref hp, .ref ho])), (hc, LA cJ 16 Ca), (hf, LA cJ 16 Fa), (hp, LA cJ 16 Pa), (ho, LA cJ 5 Oa)] H := hP.sub [6, 0, 7, 1, 2, 3, 4, 5] rfl
                  have hD : va_D A [(h, .inr (1, [.int (nI d), .int kb, .ref fo, .ref ke, .ref ht, .ref wo, .ref fi, .ref se])), (fo, LA cJ 16 Fm), (wo, LA cJ 16 W6), (ht, .inr (0, [.int (nI 3), .ref hc, .ref hf, .ref hp, .ref ho])), (hc, LA cJ 16 Ca), (hf, LA cJ 16 Fa), (hp, LA cJ 16 Pa), (ho, LA cJ 5 Oa)] := hD.sub [6, 0, 7, 1, 2, 3, 4, 5] (by decide) rfl
                  refine lv_iconst (v := nI 1) hx hb d_K_joinLines_144 (by decide) ?_
                  exact hret H locs _ ls (nI 1) (kk, rt, W6, nI 3, Ca, Fa, Pa, Oa) d_K_joinLines_145 (by first | exact ⟨Or.inl ⟨rfl, by omega⟩, ⟨hk2, h0, hkk, hroot⟩, fun _ a b ha hb => by rw [hcr a b ha hb, h1 a b (by omega) hb]; unfold crsT; rw [q4d a (show b < 4 by omega), q4m a (show b < 4 by omega)]⟩ | (dsimp only; exact ⟨Or.inl ⟨rfl, by omega⟩, ⟨hk2, h0, hkk, hroot⟩, fun _ a b ha hb => by rw [hcr a b ha hb, h1 a b (by omega) hb]; unfold crsT; rw [q4d a (show b < 4 by omega), q4m a (show b < 4 by omega)]⟩)) hP hD hS
                · skip
                  refine lv_iconst (v := nI 0) hx hb d_K_joinLines_67 (by decide) ?_
                  refine lv_istore (lv' := [(4, .int (nI 0)), (0, .ref h), (1, .int (nI kk)), (2, .int (nI rt)), (3, .int (nI i))]) hx hb d_K_joinLines_68 hl (by decide) rfl (fun ls hl => ?_)
                  have lp_70 : ∀ (n_70 : Nat) (j : Nat) (W4 : Nat → Int) (H : Heap) (locs : List Loc) (ls : Array Slot), (j ≤ 3) → (∀ a b, (a < i ∧ b < 3) ∨ (a = i ∧ b < j) → W4 (4 * a + b) = ((rt : Nat) : Int) * Fm (4 * a + b)) → (3 - j) < n_70 → va_P D vwC [(h, .inr (1, [.int (nI d), .int kb, .ref fo, .ref ke, .ref ht, .ref wo, .ref fi, .ref se])), (fo, LA cJ 16 Fm), (wo, LA cJ 16 W4), (ht, .inr (0, [.int (nI 3), .ref hc, .ref hf, .ref hp, .ref ho])), (hc, LA cJ 16 Ca), (hf, LA cJ 16 Fa), (hp, LA cJ 16 Pa), (ho, LA cJ 5 Oa)] H → va_D A [(h, .inr (1, [.int (nI d), .int kb, .ref fo, .ref ke, .ref ht, .ref wo, .ref fi, .ref se])), (fo, LA cJ 16 Fm), (wo, LA cJ 16 W4), (ht, .inr (0, [.int (nI 3), .ref hc, .ref hf, .ref hp, .ref ho])), (hc, LA cJ 16 Ca), (hf, LA cJ 16 Fa), (hp, LA cJ 16 Pa), (ho, LA cJ 5 Oa)] → va_S A s.heap H locs → lv_has ls 5 [(0, .ref h), (1, .int (nI kk)), (2, .int (nI rt)), (3, .int (nI i)), (4, .int (nI j))] → W p l e rm_c_join s m args below meth c H locs 0 0 Q (F0 m 70 ls []) := by
                    intro n_70
                    induction n_70 with
                    | zero => intro j W4 H locs ls hj h2 hn_70; exact absurd hn_70 (Nat.not_lt_zero _)
                    | succ n_70 ih_70 =>
                      intro j W4 H locs ls hj h2 hn_70 hP hD hS hl
                      refine lv_iload hx hb d_K_joinLines_70 (lv_at hl 4 rfl) ?_
                      refine lv_iconst (v := nI 3) hx hb d_K_joinLines_72 (by decide) ?_
                      refine xn_ge (tgt := 107) hx hb (by omega) (by omega) d_K_joinLines_73 (by decide) (fun c73_21 => ?_) (fun c73_21 => ?_)
                      · skip
                        refine lv_iinc (v := nI (i + 1)) (lv' := [(3, .int (nI (i + 1))), (0, .ref h), (1, .int (nI kk)), (2, .int (nI rt)), (4, .int (nI j))]) hx hb d_K_joinLines_107 hl (k := 3) rfl (nI_add _ _) (by decide) rfl (fun ls hl => ?_)
                        refine lv_goto (tgt := 62) hx hb d_K_joinLines_110 (by decide) ?_
                        exact ih_62 (i + 1) W4 H locs ls (by omega) (fun a b ha hb => h2 a b (by omega)) (by omega) hP hD hS (lv_sub hl [1, 2, 3, 0] rfl)
                      · skip
                        refine lv_aload_n hx hb d_K_joinLines_76 rfl (lv_at hl 0 rfl) ?_
                        refine va_get (D := D) (ci := 1) (v := .ref wo) (C := R_K) (T := F_K) (N := 8) hx hb hts iw_K hown hK hP 0 rfl rfl 5 (by decide) (hts _ tw_47) (fun _ h9 => h9) rfl d_K_joinLines_77 ?_
                        refine lv_iload_n hx hb d_K_joinLines_80 rfl (lv_at hl 3 rfl) ?_
                        refine lv_iload hx hb d_K_joinLines_81 (lv_at hl 4 rfl) ?_
                        refine xci (wc := []) (wr := [(h, .inr (1, [.int (nI d), .int kb, .ref fo, .ref ke, .ref ht, .ref wo, .ref fi, .ref se])), (fo, LA cJ 16 Fm), (wo, LA cJ 16 W4), (ht, .inr (0, [.int (nI 3), .ref hc, .ref hf, .ref hp, .ref ho])), (hc, LA cJ 16 Ca), (hf, LA cJ 16 Fa), (hp, LA cJ 16 Pa), (ho, LA cJ 5 Oa)]) hP hD hS hA [] [0, 1, 2, 3, 4, 5, 6, 7] rfl rfl (by decide) (by decide) (va_runS (As := [.int (nI i), .int (nI j)]) (rest := [.ref wo]) ⟨hx, hb, hml, hown, hts⟩ (c_place l D cJ i j H.size) (cwS 2 hts (gS tw_86 tw_87 tw_1 tw_88) rfl rfl rfl ⟨rfl, hd_K_place⟩ ⟨Nat.le_of_ble_eq_true rfl, Nat.le_of_ble_eq_true rfl⟩) (xPreS hN hK (hP.sub (ws' := []) [] rfl) (hD.sub (ws' := []) [] (by decide) rfl)) rfl rfl hl.1 rfl (lv_room (Nat.le_of_ble_eq_true rfl)) d_K_joinLines_83 ⟨Nat.le_of_ble_eq_true rfl, Nat.le_of_ble_eq_true rfl⟩) (fun r_23 u_24 H locs hw_25 hP hD hS => ?_)
                        try dsimp only at hw_25
                        have hP : va_P D vwC [(h, .inr (1, [.int (nI d), .int kb, .ref fo, .ref ke, .ref ht, .ref wo, .ref fi, .ref se])), (fo, LA cJ 16 Fm), (wo, LA cJ 16 W4), (ht, .inr (0, [.int (nI 3), .ref hc, .ref hf, .ref hp, .ref ho])), (hc, LA cJ 16 Ca), (hf, LA cJ 16 Fa), (hp, LA cJ 16 Pa), (ho, LA cJ 5 Oa)] H := hP
                        have hD : va_D A [(h, .inr (1, [.int (nI d), .int kb, .ref fo, .ref ke, .ref ht, .ref wo, .ref fi, .ref se])), (fo, LA cJ 16 Fm), (wo, LA cJ 16 W4), (ht, .inr (0, [.int (nI 3), .ref hc, .ref hf, .ref hp, .ref ho])), (hc, LA cJ 16 Ca), (hf, LA cJ 16 Fa), (hp, LA cJ 16 Pa), (ho, LA cJ 5 Oa)] := hD
                        subst hw_25
                        refine lv_iload_n hx hb d_K_joinLines_86 rfl (lv_at hl 2 rfl) ?_
                        refine xn_i2l hx hb (by omega) d_K_joinLines_87 ?_
                        refine lv_aload_n hx hb d_K_joinLines_88 rfl (lv_at hl 0 rfl) ?_
                        refine va_get (D := D) (ci := 1) (v := .ref fo) (C := R_K) (T := F_K) (N := 8) hx hb hts iw_K hown hK hP 0 rfl rfl 2 (by decide) (hts _ tw_44) (fun _ h9 => h9) rfl d_K_joinLines_89 ?_
                        refine lv_iload_n hx hb d_K_joinLines_92 rfl (lv_at hl 3 rfl) ?_
                        refine lv_iload hx hb d_K_joinLines_93 (lv_at hl 4 rfl) ?_
                        refine xci (wc := []) (wr := [(h, .inr (1, [.int (nI d), .int kb, .ref fo, .ref ke, .ref ht, .ref wo, .ref fi, .ref se])), (fo, LA cJ 16 Fm), (wo, LA cJ 16 W4), (ht, .inr (0, [.int (nI 3), .ref hc, .ref hf, .ref hp, .ref ho])), (hc, LA cJ 16 Ca), (hf, LA cJ 16 Fa), (hp, LA cJ 16 Pa), (ho, LA cJ 5 Oa)]) hP hD hS hA [] [0, 1, 2, 3, 4, 5, 6, 7] rfl rfl (by decide) (by decide) (va_runS (As := [.int (nI i), .int (nI j)]) (rest := [.ref fo, .long (lI ((rt : Nat) : Int)), .int (nI (4 * i + j)), .ref wo]) ⟨hx, hb, hml, hown, hts⟩ (c_place l D cJ i j H.size) (cwS 2 hts (gS tw_86 tw_87 tw_1 tw_88) rfl rfl rfl ⟨rfl, hd_K_place⟩ ⟨Nat.le_of_ble_eq_true rfl, Nat.le_of_ble_eq_true rfl⟩) (xPreS hN hK (hP.sub (ws' := []) [] rfl) (hD.sub (ws' := []) [] (by decide) rfl)) rfl rfl hl.1 rfl (lv_room (Nat.le_of_ble_eq_true rfl)) d_K_joinLines_95 ⟨Nat.le_of_ble_eq_true rfl, Nat.le_of_ble_eq_true rfl⟩) (fun r_26 u_27 H locs hw_28 hP hD hS => ?_)
                        try dsimp only at hw_28
                        have hP : va_P D vwC [(h, .inr (1, [.int (nI d), .int kb, .ref fo, .ref ke, .ref ht, .ref wo, .ref fi, .ref se])), (fo, LA cJ 16 Fm), (wo, LA cJ 16 W4), (ht, .inr (0, [.int (nI 3), .ref hc, .ref hf, .ref hp, .ref ho])), (hc, LA cJ 16 Ca), (hf, LA cJ 16 Fa), (hp, LA cJ 16 Pa), (ho, LA cJ 5 Oa)] H := hP
                        have hD : va_D A [(h, .inr (1, [.int (nI d), .int kb, .ref fo, .ref ke, .ref ht, .ref wo, .ref fi, .ref se])), (fo, LA cJ 16 Fm), (wo, LA cJ 16 W4), (ht, .inr (0, [.int (nI 3), .ref hc, .ref hf, .ref hp, .ref ho])), (hc, LA cJ 16 Ca), (hf, LA cJ 16 Fa), (hp, LA cJ 16 Pa), (ho, LA cJ 5 Oa)] := hD
                        subst hw_28
                        refine xl_ald hx hb hK hP 1 0 rfl rfl (k := 4 * i + j) (by omega) (by first | decide | omega) d_K_joinLines_98 ?_
                        refine xl_mul hx hb d_K_joinLines_99 ?_
                        refine xl_ast hx hb hK hP hD hS 2 0 rfl rfl (k := 4 * i + j) (by omega) (by first | decide | omega) d_K_joinLines_100 (fun H locs hP hD hS => ?_)
                        have hP : va_P D vwC [(h, .inr (1, [.int (nI d), .int kb, .ref fo, .ref ke, .ref ht, .ref wo, .ref fi, .ref se])), (fo, LA cJ 16 Fm), (wo, LA cJ 16 (upZ W4 (4 * i + j) (((rt : Nat) : Int) * (Fm (4 * i + j))))), (ht, .inr (0, [.int (nI 3), .ref hc, .ref hf, .ref hp, .ref ho])), (hc, LA cJ 16 Ca), (hf, LA cJ 16 Fa), (hp, LA cJ 16 Pa), (ho, LA cJ 5 Oa)] H := hP
                        have hD : va_D A [(h, .inr (1, [.int (nI d), .int kb, .ref fo, .ref ke, .ref ht, .ref wo, .ref fi, .ref se])), (fo, LA cJ 16 Fm), (wo, LA cJ 16 (upZ W4 (4 * i + j) (((rt : Nat) : Int) * (Fm (4 * i + j))))), (ht, .inr (0, [.int (nI 3), .ref hc, .ref hf, .ref hp, .ref ho])), (hc, LA cJ 16 Ca), (hf, LA cJ 16 Fa), (hp, LA cJ 16 Pa), (ho, LA cJ 5 Oa)] := hD
                        refine lv_iinc (v := nI (j + 1)) (lv' := [(4, .int (nI (j + 1))), (0, .ref h), (1, .int (nI kk)), (2, .int (nI rt)), (3, .int (nI i))]) hx hb d_K_joinLines_101 hl (k := 4) rfl (nI_add _ _) (by decide) rfl (fun ls hl => ?_)
                        refine lv_goto (tgt := 70) hx hb d_K_joinLines_104 (by decide) ?_
                        exact ih_70 (j + 1) (upZ W4 (4 * i + j) (((rt : Nat) : Int) * (Fm (4 * i + j)))) H locs ls (by omega) (fun a b q => by by_cases z : a = i ∧ b = j; obtain ⟨rfl, rfl⟩ := z; rw [upZ_at]; rw [upZ_ne (k := 4 * i + j) (j := 4 * a + b) _ _ (by omega)]; exact h2 a b (by omega)) (by omega) hP hD hS (lv_sub hl [1, 2, 3, 4, 0] rfl)
                  exact lp_70 ((3 - 0) + 1) 0 W3 H locs ls (Nat.zero_le _) (fun a b q => h1 a b (by omega) (by omega)) (by omega) hP hD hS (lv_sub hl [1, 2, 3, 4, 0] rfl)
            exact lp_62 ((3 - 0) + 1) 0 Wk H locs ls (Nat.zero_le _) (fun a b q => absurd q (Nat.not_lt_zero _)) (by omega) hP hD hS (lv_sub hl [2, 3, 1, 0] rfl)
          · skip
            refine lv_iconst (v := nI 0) hx hb d_K_joinLines_58 (by decide) ?_
            exact hret H locs _ ls (nI 0) (kk, rt, Wk, nI 3, Ca, Fa, Pa, Oa) d_K_joinLines_59 (by first | exact ⟨Or.inr ⟨rfl, by omega⟩, ⟨hk2, h0, hkk, hroot⟩, fun q => absurd q (by omega)⟩ | (dsimp only; exact ⟨Or.inr ⟨rfl, by omega⟩, ⟨hk2, h0, hkk, hroot⟩, fun q => absurd q (by omega)⟩)) hP hD hS
        · skip
          refine lv_aload_n hx hb d_K_joinLines_20 rfl (lv_at hl 0 rfl) ?_
          refine va_get (D := D) (ci := 1) (v := .ref ht) (C := R_K) (T := F_K) (N := 8) hx hb hts iw_K hown hK hP 0 rfl rfl 4 (by decide) (hts _ tw_46) (fun _ h9 => h9) rfl d_K_joinLines_21 ?_
          refine lv_iload_n hx hb d_K_joinLines_24 rfl (lv_at hl 1 rfl) ?_
          refine lv_iload_n hx hb d_K_joinLines_25 rfl (lv_at hl 1 rfl) ?_
          refine xcl (wc := [(ht, .inr (0, [.int (nI 3), .ref hc, .ref hf, .ref hp, .ref ho])), (hc, LA cJ 16 Ca), (hf, LA cJ 16 Fa), (hp, LA cJ 16 Pa), (ho, LA cJ 5 Oa)]) (wr := [(h, .inr (1, [.int (nI d), .int kb, .ref fo, .ref ke, .ref ht, .ref wo, .ref fi, .ref se])), (fo, LA cJ 16 Fm), (wo, LA cJ 16 Wk)]) hP hD hS hA [3, 4, 5, 6, 7] [0, 1, 2] rfl rfl (by decide) (by decide) (va_runV (As := [.int (nI kk), .int (nI kk)]) (rest := []) ⟨hx, hb, hml, hown, hts⟩ (c_adjugate l D cJ ht hc hf hp ho 3 Ca Fa Pa Oa kk kk (by first | assumption | omega) (by first | assumption | omega) (by first | assumption | omega) H.size) (cwV 2 hts (gV tw_172 tw_173 tw_174 tw_2 tw_175) rfl rfl rfl ⟨rfl, hd_T_adjugate⟩ ⟨Nat.le_of_ble_eq_true rfl, Nat.le_of_ble_eq_true rfl⟩) (xPreV (C := R_T) (T := F_T) (N := 5) (q0 := 0) hN hK (hP.sub (ws' := [(ht, .inr (0, [.int (nI 3), .ref hc, .ref hf, .ref hp, .ref ho])), (hc, LA cJ 16 Ca), (hf, LA cJ 16 Fa), (hp, LA cJ 16 Pa), (ho, LA cJ 5 Oa)]) [3, 4, 5, 6, 7] rfl) (hD.sub (ws' := [(ht, .inr (0, [.int (nI 3), .ref hc, .ref hf, .ref hp, .ref ho])), (hc, LA cJ 16 Ca), (hf, LA cJ 16 Fa), (hp, LA cJ 16 Pa), (ho, LA cJ 5 Oa)]) [3, 4, 5, 6, 7] (by decide) rfl) rfl rfl) rfl rfl hl.1 rfl (lv_room (Nat.le_of_ble_eq_true rfl)) d_K_joinLines_26 ⟨Nat.le_of_ble_eq_true rfl, Nat.le_of_ble_eq_true rfl⟩) (fun r_29 u_30 H locs hw_31 hP hD hS => ?_)
          try dsimp only at hw_31
          have hP : va_P D vwC [(h, .inr (1, [.int (nI d), .int kb, .ref fo, .ref ke, .ref ht, .ref wo, .ref fi, .ref se])), (fo, LA cJ 16 Fm), (wo, LA cJ 16 Wk), (ht, .inr (0, [.int (nI 3), .ref hc, .ref hf, .ref hp, .ref ho])), (hc, LA cJ 16 Ca), (hf, LA cJ 16 Fa), (hp, LA cJ 16 Pa), (ho, LA cJ 5 Oa)] H := hP
          have hD : va_D A [(h, .inr (1, [.int (nI d), .int kb, .ref fo, .ref ke, .ref ht, .ref wo, .ref fi, .ref se])), (fo, LA cJ 16 Fm), (wo, LA cJ 16 Wk), (ht, .inr (0, [.int (nI 3), .ref hc, .ref hf, .ref hp, .ref ho])), (hc, LA cJ 16 Ca), (hf, LA cJ 16 Fa), (hp, LA cJ 16 Pa), (ho, LA cJ 5 Oa)] := hD
          subst hw_31
          rw [ld_adj (i := kk) (j := kk) hT (by omega) (by omega)]
          refine lv_lconst (v := lI 0) hx hb d_K_joinLines_29 (by decide) ?_
          refine xl_ne (tgt := 40) hx hb (lB_of (adjM_B (by decide) (by decide) (by omega) (by omega) (enB_f hF (f := 0) (r := 3) (by decide))) (by decide)) ⟨by decide, by decide⟩ d_K_joinLines_30 d_K_joinLines_31 (by decide) (fun c31_31 => ?_) (fun c31_31 => ?_)
          · skip
            have hkk : kk < 2 → adjM (prt Fm 0) 3 kk kk ≠ 0 := fun q => c31_31
            refine lv_aload_n hx hb d_K_joinLines_40 rfl (lv_at hl 0 rfl) ?_
            refine va_get (D := D) (ci := 1) (v := .ref ht) (C := R_K) (T := F_K) (N := 8) hx hb hts iw_K hown hK hP 0 rfl rfl 4 (by decide) (hts _ tw_46) (fun _ h9 => h9) rfl d_K_joinLines_41 ?_
            refine lv_iload_n hx hb d_K_joinLines_44 rfl (lv_at hl 1 rfl) ?_
            refine lv_iload_n hx hb d_K_joinLines_45 rfl (lv_at hl 1 rfl) ?_
            refine xcl (wc := [(ht, .inr (0, [.int (nI 3), .ref hc, .ref hf, .ref hp, .ref ho])), (hc, LA cJ 16 Ca), (hf, LA cJ 16 Fa), (hp, LA cJ 16 Pa), (ho, LA cJ 5 Oa)]) (wr := [(h, .inr (1, [.int (nI d), .int kb, .ref fo, .ref ke, .ref ht, .ref wo, .ref fi, .ref se])), (fo, LA cJ 16 Fm), (wo, LA cJ 16 Wk)]) hP hD hS hA [3, 4, 5, 6, 7] [0, 1, 2] rfl rfl (by decide) (by decide) (va_runV (As := [.int (nI kk), .int (nI kk)]) (rest := []) ⟨hx, hb, hml, hown, hts⟩ (c_adjugate l D cJ ht hc hf hp ho 3 Ca Fa Pa Oa kk kk (by first | assumption | omega) (by first | assumption | omega) (by first | assumption | omega) H.size) (cwV 2 hts (gV tw_172 tw_173 tw_174 tw_2 tw_175) rfl rfl rfl ⟨rfl, hd_T_adjugate⟩ ⟨Nat.le_of_ble_eq_true rfl, Nat.le_of_ble_eq_true rfl⟩) (xPreV (C := R_T) (T := F_T) (N := 5) (q0 := 0) hN hK (hP.sub (ws' := [(ht, .inr (0, [.int (nI 3), .ref hc, .ref hf, .ref hp, .ref ho])), (hc, LA cJ 16 Ca), (hf, LA cJ 16 Fa), (hp, LA cJ 16 Pa), (ho, LA cJ 5 Oa)]) [3, 4, 5, 6, 7] rfl) (hD.sub (ws' := [(ht, .inr (0, [.int (nI 3), .ref hc, .ref hf, .ref hp, .ref ho])), (hc, LA cJ 16 Ca), (hf, LA cJ 16 Fa), (hp, LA cJ 16 Pa), (ho, LA cJ 5 Oa)]) [3, 4, 5, 6, 7] (by decide) rfl) rfl rfl) rfl rfl hl.1 rfl (lv_room (Nat.le_of_ble_eq_true rfl)) d_K_joinLines_46 ⟨Nat.le_of_ble_eq_true rfl, Nat.le_of_ble_eq_true rfl⟩) (fun r_33 u_34 H locs hw_35 hP hD hS => ?_)
            try dsimp only at hw_35
            have hP : va_P D vwC [(h, .inr (1, [.int (nI d), .int kb, .ref fo, .ref ke, .ref ht, .ref wo, .ref fi, .ref se])), (fo, LA cJ 16 Fm), (wo, LA cJ 16 Wk), (ht, .inr (0, [.int (nI 3), .ref hc, .ref hf, .ref hp, .ref ho])), (hc, LA cJ 16 Ca), (hf, LA cJ 16 Fa), (hp, LA cJ 16 Pa), (ho, LA cJ 5 Oa)] H := hP
            have hD : va_D A [(h, .inr (1, [.int (nI d), .int kb, .ref fo, .ref ke, .ref ht, .ref wo, .ref fi, .ref se])), (fo, LA cJ 16 Fm), (wo, LA cJ 16 Wk), (ht, .inr (0, [.int (nI 3), .ref hc, .ref hf, .ref hp, .ref ho])), (hc, LA cJ 16 Ca), (hf, LA cJ 16 Fa), (hp, LA cJ 16 Pa), (ho, LA cJ 5 Oa)] := hD
            subst hw_35
            rw [ld_adj (i := kk) (j := kk) hT (by omega) (by omega)]
            refine xl_neg hx hb d_K_joinLines_49 ?_
            refine xci (wc := []) (wr := [(h, .inr (1, [.int (nI d), .int kb, .ref fo, .ref ke, .ref ht, .ref wo, .ref fi, .ref se])), (fo, LA cJ 16 Fm), (wo, LA cJ 16 Wk), (ht, .inr (0, [.int (nI 3), .ref hc, .ref hf, .ref hp, .ref ho])), (hc, LA cJ 16 Ca), (hf, LA cJ 16 Fa), (hp, LA cJ 16 Pa), (ho, LA cJ 5 Oa)]) hP hD hS hA [] [0, 1, 2, 3, 4, 5, 6, 7] rfl rfl (by decide) (by decide) (va_runS (As := [.long (lI (-(adjM (prt Fm 0) 3 kk kk)))]) (rest := []) ⟨hx, hb, hml, hown, hts⟩ (c_root l D cJ (-(adjM (prt Fm 0) 3 kk kk)) (lB_of (negB (adjM_B (by decide) (by decide) (by omega) (by omega) (enB_f hF (f := 0) (r := 3) (by decide)))) (by decide)) H.size) (cwS 1 hts (gS tw_280 tw_281 tw_1 tw_282) rfl rfl rfl ⟨rfl, hd_K_rootOf⟩ ⟨Nat.le_of_ble_eq_true rfl, Nat.le_of_ble_eq_true rfl⟩) (xPreS hN hK (hP.sub (ws' := []) [] rfl) (hD.sub (ws' := []) [] (by decide) rfl)) rfl rfl hl.1 rfl (lv_room (Nat.le_of_ble_eq_true rfl)) d_K_joinLines_50 ⟨Nat.le_of_ble_eq_true rfl, Nat.le_of_ble_eq_true rfl⟩) (fun r_36 u_37 H locs hroot hP hD hS => ?_)
            obtain ⟨rt, rfl⟩ : ∃ z, z = u_37 := ⟨_, rfl⟩
            try dsimp only at hroot
            have hP : va_P D vwC [(h, .inr (1, [.int (nI d), .int kb, .ref fo, .ref ke, .ref ht, .ref wo, .ref fi, .ref se])), (fo, LA cJ 16 Fm), (wo, LA cJ 16 Wk), (ht, .inr (0, [.int (nI 3), .ref hc, .ref hf, .ref hp, .ref ho])), (hc, LA cJ 16 Ca), (hf, LA cJ 16 Fa), (hp, LA cJ 16 Pa), (ho, LA cJ 5 Oa)] H := hP
            have hD : va_D A [(h, .inr (1, [.int (nI d), .int kb, .ref fo, .ref ke, .ref ht, .ref wo, .ref fi, .ref se])), (fo, LA cJ 16 Fm), (wo, LA cJ 16 Wk), (ht, .inr (0, [.int (nI 3), .ref hc, .ref hf, .ref hp, .ref ho])), (hc, LA cJ 16 Ca), (hf, LA cJ 16 Fa), (hp, LA cJ 16 Pa), (ho, LA cJ 5 Oa)] := hD
            obtain ⟨rfl, hroot⟩ := hroot
            have hrb : rt ≤ 28 := by rcases hroot with q | q <;> omega
            refine lv_istore_n (lv' := [(2, .int (nI rt)), (0, .ref h), (1, .int (nI kk))]) hx hb d_K_joinLines_53 rfl hl (by decide) rfl (fun ls hl => ?_)
            refine lv_iload_n hx hb d_K_joinLines_54 rfl (lv_at hl 0 rfl) ?_
            refine xz_ne (tgt := 60) (X := (rt : Nat)) hx hb (nI_toInt (by omega)) d_K_joinLines_55 (by decide) (fun c55_37 => ?_) (fun c55_37 => ?_)
            · skip
              refine lv_iconst (v := nI 0) hx hb d_K_joinLines_60 (by decide) ?_
              refine lv_istore_n (lv' := [(3, .int (nI 0)), (2, .int (nI rt)), (0, .ref h), (1, .int (nI kk))]) hx hb d_K_joinLines_61 rfl hl (by decide) rfl (fun ls hl => ?_)
              have lp_62 : ∀ (n_62 : Nat) (i : Nat) (W3 : Nat → Int) (H : Heap) (locs : List Loc) (ls : Array Slot), (i ≤ 3) → (∀ a b, a < i → b < 3 → W3 (4 * a + b) = ((rt : Nat) : Int) * Fm (4 * a + b)) → (3 - i) < n_62 → va_P D vwC [(h, .inr (1, [.int (nI d), .int kb, .ref fo, .ref ke, .ref ht, .ref wo, .ref fi, .ref se])), (fo, LA cJ 16 Fm), (wo, LA cJ 16 W3), (ht, .inr (0, [.int (nI 3), .ref hc, .ref hf, .ref hp, .ref ho])), (hc, LA cJ 16 Ca), (hf, LA cJ 16 Fa), (hp, LA cJ 16 Pa), (ho, LA cJ 5 Oa)] H → va_D A [(h, .inr (1, [.int (nI d), .int kb, .ref fo, .ref ke, .ref ht, .ref wo, .ref fi, .ref se])), (fo, LA cJ 16 Fm), (wo, LA cJ 16 W3), (ht, .inr (0, [.int (nI 3), .ref hc, .ref hf, .ref hp, .ref ho])), (hc, LA cJ 16 Ca), (hf, LA cJ 16 Fa), (hp, LA cJ 16 Pa), (ho, LA cJ 5 Oa)] → va_S A s.heap H locs → lv_has ls 5 [(0, .ref h), (1, .int (nI kk)), (2, .int (nI rt)), (3, .int (nI i))] → W p l e rm_c_join s m args below meth c H locs 0 0 Q (F0 m 62 ls []) := by
                intro n_62
                induction n_62 with
                | zero => intro i W3 H locs ls hi h1 hn_62; exact absurd hn_62 (Nat.not_lt_zero _)
                | succ n_62 ih_62 =>
                  intro i W3 H locs ls hi h1 hn_62 hP hD hS hl
                  refine lv_iload_n hx hb d_K_joinLines_62 rfl (lv_at hl 3 rfl) ?_
                  refine lv_iconst (v := nI 3) hx hb d_K_joinLines_63 (by decide) ?_
                  refine xn_ge (tgt := 113) hx hb (by omega) (by omega) d_K_joinLines_64 (by decide) (fun c64_38 => ?_) (fun c64_38 => ?_)
                  · skip
                    refine lv_aload_n hx hb d_K_joinLines_113 rfl (lv_at hl 0 rfl) ?_
                    refine lv_aload_n hx hb d_K_joinLines_114 rfl (lv_at hl 0 rfl) ?_
                    refine va_get (D := D) (ci := 1) (v := .ref ht) (C := R_K) (T := F_K) (N := 8) hx hb hts iw_K hown hK hP 0 rfl rfl 4 (by decide) (hts _ tw_46) (fun _ h9 => h9) rfl d_K_joinLines_115 ?_
                    refine lv_iload_n hx hb d_K_joinLines_118 rfl (lv_at hl 1 rfl) ?_
                    refine lv_iconst (v := nI 0) hx hb d_K_joinLines_119 (by decide) ?_
                    refine xcl (wc := [(ht, .inr (0, [.int (nI 3), .ref hc, .ref hf, .ref hp, .ref ho])), (hc, LA cJ 16 Ca), (hf, LA cJ 16 Fa), (hp, LA cJ 16 Pa), (ho, LA cJ 5 Oa)]) (wr := [(h, .inr (1, [.int (nI d), .int kb, .ref fo, .ref ke, .ref ht, .ref wo, .ref fi, .ref se])), (fo, LA cJ 16 Fm), (wo, LA cJ 16 W3)]) hP hD hS hA [3, 4, 5, 6, 7] [0, 1, 2] rfl rfl (by decide) (by decide) (va_runV (As := [.int (nI kk), .int (nI 0)]) (rest := [.ref h]) ⟨hx, hb, hml, hown, hts⟩ (c_adjugate l D cJ ht hc hf hp ho 3 Ca Fa Pa Oa kk 0 (by first | assumption | omega) (by first | assumption | omega) (by first | assumption | omega) H.size) (cwV 2 hts (gV tw_172 tw_173 tw_174 tw_2 tw_175) rfl rfl rfl ⟨rfl, hd_T_adjugate⟩ ⟨Nat.le_of_ble_eq_true rfl, Nat.le_of_ble_eq_true rfl⟩) (xPreV (C := R_T) (T := F_T) (N := 5) (q0 := 0) hN hK (hP.sub (ws' := [(ht, .inr (0, [.int (nI 3), .ref hc, .ref hf, .ref hp, .ref ho])), (hc, LA cJ 16 Ca), (hf, LA cJ 16 Fa), (hp, LA cJ 16 Pa), (ho, LA cJ 5 Oa)]) [3, 4, 5, 6, 7] rfl) (hD.sub (ws' := [(ht, .inr (0, [.int (nI 3), .ref hc, .ref hf, .ref hp, .ref ho])), (hc, LA cJ 16 Ca), (hf, LA cJ 16 Fa), (hp, LA cJ 16 Pa), (ho, LA cJ 5 Oa)]) [3, 4, 5, 6, 7] (by decide) rfl) rfl rfl) rfl rfl hl.1 rfl (lv_room (Nat.le_of_ble_eq_true rfl)) d_K_joinLines_120 ⟨Nat.le_of_ble_eq_true rfl, Nat.le_of_ble_eq_true rfl⟩) (fun r_40 u_41 H locs hw_42 hP hD hS => ?_)
                    try dsimp only at hw_42
                    have hP : va_P D vwC [(h, .inr (1, [.int (nI d), .int kb, .ref fo, .ref ke, .ref ht, .ref wo, .ref fi, .ref se])), (fo, LA cJ 16 Fm), (wo, LA cJ 16 W3), (ht, .inr (0, [.int (nI 3), .ref hc, .ref hf, .ref hp, .ref ho])), (hc, LA cJ 16 Ca), (hf, LA cJ 16 Fa), (hp, LA cJ 16 Pa), (ho, LA cJ 5 Oa)] H := hP
                    have hD : va_D A [(h, .inr (1, [.int (nI d), .int kb, .ref fo, .ref ke, .ref ht, .ref wo, .ref fi, .ref se])), (fo, LA cJ 16 Fm), (wo, LA cJ 16 W3), (ht, .inr (0, [.int (nI 3), .ref hc, .ref hf, .ref hp, .ref ho])), (hc, LA cJ 16 Ca), (hf, LA cJ 16 Fa), (hp, LA cJ 16 Pa), (ho, LA cJ 5 Oa)] := hD
                    subst hw_42
                    rw [ld_adj (i := kk) (j := 0) hT (by omega) (by omega)]
                    refine lv_aload_n hx hb d_K_joinLines_123 rfl (lv_at hl 0 rfl) ?_
                    refine va_get (D := D) (ci := 1) (v := .ref ht) (C := R_K) (T := F_K) (N := 8) hx hb hts iw_K hown hK hP 0 rfl rfl 4 (by decide) (hts _ tw_46) (fun _ h9 => h9) rfl d_K_joinLines_124 ?_
                    refine lv_iload_n hx hb d_K_joinLines_127 rfl (lv_at hl 1 rfl) ?_
                    refine lv_iconst (v := nI 1) hx hb d_K_joinLines_128 (by decide) ?_
                    refine xcl (wc := [(ht, .inr (0, [.int (nI 3), .ref hc, .ref hf, .ref hp, .ref ho])), (hc, LA cJ 16 Ca), (hf, LA cJ 16 Fa), (hp, LA cJ 16 Pa), (ho, LA cJ 5 Oa)]) (wr := [(h, .inr (1, [.int (nI d), .int kb, .ref fo, .ref ke, .ref ht, .ref wo, .ref fi, .ref se])), (fo, LA cJ 16 Fm), (wo, LA cJ 16 W3)]) hP hD hS hA [3, 4, 5, 6, 7] [0, 1, 2] rfl rfl (by decide) (by decide) (va_runV (As := [.int (nI kk), .int (nI 1)]) (rest := [.long (lI (adjM (prt Fm 0) 3 kk 0)), .ref h]) ⟨hx, hb, hml, hown, hts⟩ (c_adjugate l D cJ ht hc hf hp ho 3 Ca Fa Pa Oa kk 1 (by first | assumption | omega) (by first | assumption | omega) (by first | assumption | omega) H.size) (cwV 2 hts (gV tw_172 tw_173 tw_174 tw_2 tw_175) rfl rfl rfl ⟨rfl, hd_T_adjugate⟩ ⟨Nat.le_of_ble_eq_true rfl, Nat.le_of_ble_eq_true rfl⟩) (xPreV (C := R_T) (T := F_T) (N := 5) (q0 := 0) hN hK (hP.sub (ws' := [(ht, .inr (0, [.int (nI 3), .ref hc, .ref hf, .ref hp, .ref ho])), (hc, LA cJ 16 Ca), (hf, LA cJ 16 Fa), (hp, LA cJ 16 Pa), (ho, LA cJ 5 Oa)]) [3, 4, 5, 6, 7] rfl) (hD.sub (ws' := [(ht, .inr (0, [.int (nI 3), .ref hc, .ref hf, .ref hp, .ref ho])), (hc, LA cJ 16 Ca), (hf, LA cJ 16 Fa), (hp, LA cJ 16 Pa), (ho, LA cJ 5 Oa)]) [3, 4, 5, 6, 7] (by decide) rfl) rfl rfl) rfl rfl hl.1 rfl (lv_room (Nat.le_of_ble_eq_true rfl)) d_K_joinLines_129 ⟨Nat.le_of_ble_eq_true rfl, Nat.le_of_ble_eq_true rfl⟩) (fun r_43 u_44 H locs hw_45 hP hD hS => ?_)
                    try dsimp only at hw_45
                    have hP : va_P D vwC [(h, .inr (1, [.int (nI d), .int kb, .ref fo, .ref ke, .ref ht, .ref wo, .ref fi, .ref se])), (fo, LA cJ 16 Fm), (wo, LA cJ 16 W3), (ht, .inr (0, [.int (nI 3), .ref hc, .ref hf, .ref hp, .ref ho])), (hc, LA cJ 16 Ca), (hf, LA cJ 16 Fa), (hp, LA cJ 16 Pa), (ho, LA cJ 5 Oa)] H := hP
                    have hD : va_D A [(h, .inr (1, [.int (nI d), .int kb, .ref fo, .ref ke, .ref ht, .ref wo, .ref fi, .ref se])), (fo, LA cJ 16 Fm), (wo, LA cJ 16 W3), (ht, .inr (0, [.int (nI 3), .ref hc, .ref hf, .ref hp, .ref ho])), (hc, LA cJ 16 Ca), (hf, LA cJ 16 Fa), (hp, LA cJ 16 Pa), (ho, LA cJ 5 Oa)] := hD
                    subst hw_45
                    rw [ld_adj (i := kk) (j := 1) hT (by omega) (by omega)]
                    refine lv_aload_n hx hb d_K_joinLines_132 rfl (lv_at hl 0 rfl) ?_
                    refine va_get (D := D) (ci := 1) (v := .ref ht) (C := R_K) (T := F_K) (N := 8) hx hb hts iw_K hown hK hP 0 rfl rfl 4 (by decide) (hts _ tw_46) (fun _ h9 => h9) rfl d_K_joinLines_133 ?_
                    refine lv_iload_n hx hb d_K_joinLines_136 rfl (lv_at hl 1 rfl) ?_
                    refine lv_iconst (v := nI 2) hx hb d_K_joinLines_137 (by decide) ?_
                    refine xcl (wc := [(ht, .inr (0, [.int (nI 3), .ref hc, .ref hf, .ref hp, .ref ho])), (hc, LA cJ 16 Ca), (hf, LA cJ 16 Fa), (hp, LA cJ 16 Pa), (ho, LA cJ 5 Oa)]) (wr := [(h, .inr (1, [.int (nI d), .int kb, .ref fo, .ref ke, .ref ht, .ref wo, .ref fi, .ref se])), (fo, LA cJ 16 Fm), (wo, LA cJ 16 W3)]) hP hD hS hA [3, 4, 5, 6, 7] [0, 1, 2] rfl rfl (by decide) (by decide) (va_runV (As := [.int (nI kk), .int (nI 2)]) (rest := [.long (lI (adjM (prt Fm 0) 3 kk 1)), .long (lI (adjM (prt Fm 0) 3 kk 0)), .ref h]) ⟨hx, hb, hml, hown, hts⟩ (c_adjugate l D cJ ht hc hf hp ho 3 Ca Fa Pa Oa kk 2 (by first | assumption | omega) (by first | assumption | omega) (by first | assumption | omega) H.size) (cwV 2 hts (gV tw_172 tw_173 tw_174 tw_2 tw_175) rfl rfl rfl ⟨rfl, hd_T_adjugate⟩ ⟨Nat.le_of_ble_eq_true rfl, Nat.le_of_ble_eq_true rfl⟩) (xPreV (C := R_T) (T := F_T) (N := 5) (q0 := 0) hN hK (hP.sub (ws' := [(ht, .inr (0, [.int (nI 3), .ref hc, .ref hf, .ref hp, .ref ho])), (hc, LA cJ 16 Ca), (hf, LA cJ 16 Fa), (hp, LA cJ 16 Pa), (ho, LA cJ 5 Oa)]) [3, 4, 5, 6, 7] rfl) (hD.sub (ws' := [(ht, .inr (0, [.int (nI 3), .ref hc, .ref hf, .ref hp, .ref ho])), (hc, LA cJ 16 Ca), (hf, LA cJ 16 Fa), (hp, LA cJ 16 Pa), (ho, LA cJ 5 Oa)]) [3, 4, 5, 6, 7] (by decide) rfl) rfl rfl) rfl rfl hl.1 rfl (lv_room (Nat.le_of_ble_eq_true rfl)) d_K_joinLines_138 ⟨Nat.le_of_ble_eq_true rfl, Nat.le_of_ble_eq_true rfl⟩) (fun r_46 u_47 H locs hw_48 hP hD hS => ?_)
                    try dsimp only at hw_48
                    have hP : va_P D vwC [(h, .inr (1, [.int (nI d), .int kb, .ref fo, .ref ke, .ref ht, .ref wo, .ref fi, .ref se])), (fo, LA cJ 16 Fm), (wo, LA cJ 16 W3), (ht, .inr (0, [.int (nI 3), .ref hc, .ref hf, .ref hp, .ref ho])), (hc, LA cJ 16 Ca), (hf, LA cJ 16 Fa), (hp, LA cJ 16 Pa), (ho, LA cJ 5 Oa)] H := hP
                    have hD : va_D A [(h, .inr (1, [.int (nI d), .int kb, .ref fo, .ref ke, .ref ht, .ref wo, .ref fi, .ref se])), (fo, LA cJ 16 Fm), (wo, LA cJ 16 W3), (ht, .inr (0, [.int (nI 3), .ref hc, .ref hf, .ref hp, .ref ho])), (hc, LA cJ 16 Ca), (hf, LA cJ 16 Fa), (hp, LA cJ 16 Pa), (ho, LA cJ 5 Oa)] := hD
                    subst hw_48
                    rw [ld_adj (i := kk) (j := 2) hT (by omega) (by omega)]
                    refine xcv (wc := [(h, .inr (1, [.int (nI d), .int kb, .ref fo, .ref ke, .ref ht, .ref wo, .ref fi, .ref se])), (wo, LA cJ 16 W3)]) (wr := [(fo, LA cJ 16 Fm), (ht, .inr (0, [.int (nI 3), .ref hc, .ref hf, .ref hp, .ref ho])), (hc, LA cJ 16 Ca), (hf, LA cJ 16 Fa), (hp, LA cJ 16 Pa), (ho, LA cJ 5 Oa)]) hP hD hS hA [0, 2] [1, 3, 4, 5, 6, 7] rfl rfl (by decide) (by decide) (va_runV (As := [.long (lI (adjM (prt Fm 0) 3 kk 0)), .long (lI (adjM (prt Fm 0) 3 kk 1)), .long (lI (adjM (prt Fm 0) 3 kk 2))]) (rest := []) ⟨hx, hb, hml, hown, hts⟩ (c_cross l D cJ h d kb fo ke ht wo fi se W3 (adjM (prt Fm 0) 3 kk 0) (adjM (prt Fm 0) 3 kk 1) (adjM (prt Fm 0) 3 kk 2) H.size) (cwV 3 hts (gV tw_283 tw_285 tws_14 tw_1 tw_286) rfl rfl rfl ⟨rfl, hd_K_addCrosswise⟩ ⟨Nat.le_of_ble_eq_true rfl, Nat.le_of_ble_eq_true rfl⟩) (xPreV (C := R_K) (T := F_K) (N := 8) (q0 := 0) hN hK (hP.sub (ws' := [(h, .inr (1, [.int (nI d), .int kb, .ref fo, .ref ke, .ref ht, .ref wo, .ref fi, .ref se])), (wo, LA cJ 16 W3)]) [0, 2] rfl) (hD.sub (ws' := [(h, .inr (1, [.int (nI d), .int kb, .ref fo, .ref ke, .ref ht, .ref wo, .ref fi, .ref se])), (wo, LA cJ 16 W3)]) [0, 2] (by decide) rfl) rfl rfl) rfl rfl hl.1 rfl (lv_room (Nat.le_of_ble_eq_true rfl)) d_K_joinLines_141 ⟨Nat.le_of_ble_eq_true rfl, Nat.le_of_ble_eq_true rfl⟩) (fun u_50 H locs hcr hP hD hS => ?_)
                    obtain ⟨W6, rfl⟩ : ∃ z, z = u_50 := ⟨_, rfl⟩
                    try dsimp only at hcr
                    have hP : va_P D vwC [(h, .inr (1, [.int (nI d), .int kb, .ref fo, .ref ke, .ref ht, .ref wo, .ref fi, .ref se])), (fo, LA cJ 16 Fm), (wo, LA cJ 16 W6), (ht, .inr (0, [.int (nI 3), .ref hc, .ref hf, .ref hp, .ref ho])), (hc, LA cJ 16 Ca), (hf, LA cJ 16 Fa), (hp, LA cJ 16 Pa), (ho, LA cJ 5 Oa)] H := hP.sub [6, 0, 7, 1, 2, 3, 4, 5] rfl
                    have hD : va_D A [(h, .inr (1, [.int (nI d), .int kb, .ref fo, .ref ke, .ref ht, .ref wo, .ref fi, .ref se])), (fo, LA cJ 16 Fm), (wo, LA cJ 16 W6), (ht, .inr (0, [.int (nI 3), .ref hc, .ref hf, .ref hp, .ref ho])), (hc, LA cJ 16 Ca), (hf, LA cJ 16 Fa), (hp, LA cJ 16 Pa), (ho, LA cJ 5 Oa)] := hD.sub [6, 0, 7, 1, 2, 3, 4, 5] (by decide) rfl
                    refine lv_iconst (v := nI 1) hx hb d_K_joinLines_144 (by decide) ?_
                    exact hret H locs _ ls (nI 1) (kk, rt, W6, nI 3, Ca, Fa, Pa, Oa) d_K_joinLines_145 (by first | exact ⟨Or.inl ⟨rfl, by omega⟩, ⟨hk2, h0, hkk, hroot⟩, fun _ a b ha hb => by rw [hcr a b ha hb, h1 a b (by omega) hb]; unfold crsT; rw [q4d a (show b < 4 by omega), q4m a (show b < 4 by omega)]⟩ | (dsimp only; exact ⟨Or.inl ⟨rfl, by omega⟩, ⟨hk2, h0, hkk, hroot⟩, fun _ a b ha hb => by rw [hcr a b ha hb, h1 a b (by omega) hb]; unfold crsT; rw [q4d a (show b < 4 by omega), q4m a (show b < 4 by omega)]⟩)) hP hD hS
                  · skip
                    refine lv_iconst (v := nI 0) hx hb d_K_joinLines_67 (by decide) ?_
                    refine lv_istore (lv' := [(4, .int (nI 0)), (0, .ref h), (1, .int (nI kk)), (2, .int (nI rt)), (3, .int (nI i))]) hx hb d_K_joinLines_68 hl (by decide) rfl (fun ls hl => ?_)
                    have lp_70 : ∀ (n_70 : Nat) (j : Nat) (W4 : Nat → Int) (H : Heap) (locs : List Loc) (ls : Array Slot), (j ≤ 3) → (∀ a b, (a < i ∧ b < 3) ∨ (a = i ∧ b < j) → W4 (4 * a + b) = ((rt : Nat) : Int) * Fm (4 * a + b)) → (3 - j) < n_70 → va_P D vwC [(h, .inr (1, [.int (nI d), .int kb, .ref fo, .ref ke, .ref ht, .ref wo, .ref fi, .ref se])), (fo, LA cJ 16 Fm), (wo, LA cJ 16 W4), (ht, .inr (0, [.int (nI 3), .ref hc, .ref hf, .ref hp, .ref ho])), (hc, LA cJ 16 Ca), (hf, LA cJ 16 Fa), (hp, LA cJ 16 Pa), (ho, LA cJ 5 Oa)] H → va_D A [(h, .inr (1, [.int (nI d), .int kb, .ref fo, .ref ke, .ref ht, .ref wo, .ref fi, .ref se])), (fo, LA cJ 16 Fm), (wo, LA cJ 16 W4), (ht, .inr (0, [.int (nI 3), .ref hc, .ref hf, .ref hp, .ref ho])), (hc, LA cJ 16 Ca), (hf, LA cJ 16 Fa), (hp, LA cJ 16 Pa), (ho, LA cJ 5 Oa)] → va_S A s.heap H locs → lv_has ls 5 [(0, .ref h), (1, .int (nI kk)), (2, .int (nI rt)), (3, .int (nI i)), (4, .int (nI j))] → W p l e rm_c_join s m args below meth c H locs 0 0 Q (F0 m 70 ls []) := by
                      intro n_70
                      induction n_70 with
                      | zero => intro j W4 H locs ls hj h2 hn_70; exact absurd hn_70 (Nat.not_lt_zero _)
                      | succ n_70 ih_70 =>
                        intro j W4 H locs ls hj h2 hn_70 hP hD hS hl
                        refine lv_iload hx hb d_K_joinLines_70 (lv_at hl 4 rfl) ?_
                        refine lv_iconst (v := nI 3) hx hb d_K_joinLines_72 (by decide) ?_
                        refine xn_ge (tgt := 107) hx hb (by omega) (by omega) d_K_joinLines_73 (by decide) (fun c73_50 => ?_) (fun c73_50 => ?_)
                        · skip
                          refine lv_iinc (v := nI (i + 1)) (lv' := [(3, .int (nI (i + 1))), (0, .ref h), (1, .int (nI kk)), (2, .int (nI rt)), (4, .int (nI j))]) hx hb d_K_joinLines_107 hl (k := 3) rfl (nI_add _ _) (by decide) rfl (fun ls hl => ?_)
                          refine lv_goto (tgt := 62) hx hb d_K_joinLines_110 (by decide) ?_
                          exact ih_62 (i + 1) W4 H locs ls (by omega) (fun a b ha hb => h2 a b (by omega)) (by omega) hP hD hS (lv_sub hl [1, 2, 3, 0] rfl)
                        · skip
                          refine lv_aload_n hx hb d_K_joinLines_76 rfl (lv_at hl 0 rfl) ?_
                          refine va_get (D := D) (ci := 1) (v := .ref wo) (C := R_K) (T := F_K) (N := 8) hx hb hts iw_K hown hK hP 0 rfl rfl 5 (by decide) (hts _ tw_47) (fun _ h9 => h9) rfl d_K_joinLines_77 ?_
                          refine lv_iload_n hx hb d_K_joinLines_80 rfl (lv_at hl 3 rfl) ?_
                          refine lv_iload hx hb d_K_joinLines_81 (lv_at hl 4 rfl) ?_
                          refine xci (wc := []) (wr := [(h, .inr (1, [.int (nI d), .int kb, .ref fo, .ref ke, .ref ht, .ref wo, .ref fi, .ref se])), (fo, LA cJ 16 Fm), (wo, LA cJ 16 W4), (ht, .inr (0, [.int (nI 3), .ref hc, .ref hf, .ref hp, .ref ho])), (hc, LA cJ 16 Ca), (hf, LA cJ 16 Fa), (hp, LA cJ 16 Pa), (ho, LA cJ 5 Oa)]) hP hD hS hA [] [0, 1, 2, 3, 4, 5, 6, 7] rfl rfl (by decide) (by decide) (va_runS (As := [.int (nI i), .int (nI j)]) (rest := [.ref wo]) ⟨hx, hb, hml, hown, hts⟩ (c_place l D cJ i j H.size) (cwS 2 hts (gS tw_86 tw_87 tw_1 tw_88) rfl rfl rfl ⟨rfl, hd_K_place⟩ ⟨Nat.le_of_ble_eq_true rfl, Nat.le_of_ble_eq_true rfl⟩) (xPreS hN hK (hP.sub (ws' := []) [] rfl) (hD.sub (ws' := []) [] (by decide) rfl)) rfl rfl hl.1 rfl (lv_room (Nat.le_of_ble_eq_true rfl)) d_K_joinLines_83 ⟨Nat.le_of_ble_eq_true rfl, Nat.le_of_ble_eq_true rfl⟩) (fun r_52 u_53 H locs hw_54 hP hD hS => ?_)
                          try dsimp only at hw_54
                          have hP : va_P D vwC [(h, .inr (1, [.int (nI d), .int kb, .ref fo, .ref ke, .ref ht, .ref wo, .ref fi, .ref se])), (fo, LA cJ 16 Fm), (wo, LA cJ 16 W4), (ht, .inr (0, [.int (nI 3), .ref hc, .ref hf, .ref hp, .ref ho])), (hc, LA cJ 16 Ca), (hf, LA cJ 16 Fa), (hp, LA cJ 16 Pa), (ho, LA cJ 5 Oa)] H := hP
                          have hD : va_D A [(h, .inr (1, [.int (nI d), .int kb, .ref fo, .ref ke, .ref ht, .ref wo, .ref fi, .ref se])), (fo, LA cJ 16 Fm), (wo, LA cJ 16 W4), (ht, .inr (0, [.int (nI 3), .ref hc, .ref hf, .ref hp, .ref ho])), (hc, LA cJ 16 Ca), (hf, LA cJ 16 Fa), (hp, LA cJ 16 Pa), (ho, LA cJ 5 Oa)] := hD
                          subst hw_54
                          refine lv_iload_n hx hb d_K_joinLines_86 rfl (lv_at hl 2 rfl) ?_
                          refine xn_i2l hx hb (by omega) d_K_joinLines_87 ?_
                          refine lv_aload_n hx hb d_K_joinLines_88 rfl (lv_at hl 0 rfl) ?_
                          refine va_get (D := D) (ci := 1) (v := .ref fo) (C := R_K) (T := F_K) (N := 8) hx hb hts iw_K hown hK hP 0 rfl rfl 2 (by decide) (hts _ tw_44) (fun _ h9 => h9) rfl d_K_joinLines_89 ?_
                          refine lv_iload_n hx hb d_K_joinLines_92 rfl (lv_at hl 3 rfl) ?_
                          refine lv_iload hx hb d_K_joinLines_93 (lv_at hl 4 rfl) ?_
                          refine xci (wc := []) (wr := [(h, .inr (1, [.int (nI d), .int kb, .ref fo, .ref ke, .ref ht, .ref wo, .ref fi, .ref se])), (fo, LA cJ 16 Fm), (wo, LA cJ 16 W4), (ht, .inr (0, [.int (nI 3), .ref hc, .ref hf, .ref hp, .ref ho])), (hc, LA cJ 16 Ca), (hf, LA cJ 16 Fa), (hp, LA cJ 16 Pa), (ho, LA cJ 5 Oa)]) hP hD hS hA [] [0, 1, 2, 3, 4, 5, 6, 7] rfl rfl (by decide) (by decide) (va_runS (As := [.int (nI i), .int (nI j)]) (rest := [.ref fo, .long (lI ((rt : Nat) : Int)), .int (nI (4 * i + j)), .ref wo]) ⟨hx, hb, hml, hown, hts⟩ (c_place l D cJ i j H.size) (cwS 2 hts (gS tw_86 tw_87 tw_1 tw_88) rfl rfl rfl ⟨rfl, hd_K_place⟩ ⟨Nat.le_of_ble_eq_true rfl, Nat.le_of_ble_eq_true rfl⟩) (xPreS hN hK (hP.sub (ws' := []) [] rfl) (hD.sub (ws' := []) [] (by decide) rfl)) rfl rfl hl.1 rfl (lv_room (Nat.le_of_ble_eq_true rfl)) d_K_joinLines_95 ⟨Nat.le_of_ble_eq_true rfl, Nat.le_of_ble_eq_true rfl⟩) (fun r_55 u_56 H locs hw_57 hP hD hS => ?_)
                          try dsimp only at hw_57
                          have hP : va_P D vwC [(h, .inr (1, [.int (nI d), .int kb, .ref fo, .ref ke, .ref ht, .ref wo, .ref fi, .ref se])), (fo, LA cJ 16 Fm), (wo, LA cJ 16 W4), (ht, .inr (0, [.int (nI 3), .ref hc, .ref hf, .ref hp, .ref ho])), (hc, LA cJ 16 Ca), (hf, LA cJ 16 Fa), (hp, LA cJ 16 Pa), (ho, LA cJ 5 Oa)] H := hP
                          have hD : va_D A [(h, .inr (1, [.int (nI d), .int kb, .ref fo, .ref ke, .ref ht, .ref wo, .ref fi, .ref se])), (fo, LA cJ 16 Fm), (wo, LA cJ 16 W4), (ht, .inr (0, [.int (nI 3), .ref hc, .ref hf, .ref hp, .ref ho])), (hc, LA cJ 16 Ca), (hf, LA cJ 16 Fa), (hp, LA cJ 16 Pa), (ho, LA cJ 5 Oa)] := hD
                          subst hw_57
                          refine xl_ald hx hb hK hP 1 0 rfl rfl (k := 4 * i + j) (by omega) (by first | decide | omega) d_K_joinLines_98 ?_
                          refine xl_mul hx hb d_K_joinLines_99 ?_
                          refine xl_ast hx hb hK hP hD hS 2 0 rfl rfl (k := 4 * i + j) (by omega) (by first | decide | omega) d_K_joinLines_100 (fun H locs hP hD hS => ?_)
                          have hP : va_P D vwC [(h, .inr (1, [.int (nI d), .int kb, .ref fo, .ref ke, .ref ht, .ref wo, .ref fi, .ref se])), (fo, LA cJ 16 Fm), (wo, LA cJ 16 (upZ W4 (4 * i + j) (((rt : Nat) : Int) * (Fm (4 * i + j))))), (ht, .inr (0, [.int (nI 3), .ref hc, .ref hf, .ref hp, .ref ho])), (hc, LA cJ 16 Ca), (hf, LA cJ 16 Fa), (hp, LA cJ 16 Pa), (ho, LA cJ 5 Oa)] H := hP
                          have hD : va_D A [(h, .inr (1, [.int (nI d), .int kb, .ref fo, .ref ke, .ref ht, .ref wo, .ref fi, .ref se])), (fo, LA cJ 16 Fm), (wo, LA cJ 16 (upZ W4 (4 * i + j) (((rt : Nat) : Int) * (Fm (4 * i + j))))), (ht, .inr (0, [.int (nI 3), .ref hc, .ref hf, .ref hp, .ref ho])), (hc, LA cJ 16 Ca), (hf, LA cJ 16 Fa), (hp, LA cJ 16 Pa), (ho, LA cJ 5 Oa)] := hD
                          refine lv_iinc (v := nI (j + 1)) (lv' := [(4, .int (nI (j + 1))), (0, .ref h), (1, .int (nI kk)), (2, .int (nI rt)), (3, .int (nI i))]) hx hb d_K_joinLines_101 hl (k := 4) rfl (nI_add _ _) (by decide) rfl (fun ls hl => ?_)
                          refine lv_goto (tgt := 70) hx hb d_K_joinLines_104 (by decide) ?_
                          exact ih_70 (j + 1) (upZ W4 (4 * i + j) (((rt : Nat) : Int) * (Fm (4 * i + j)))) H locs ls (by omega) (fun a b q => by by_cases z : a = i ∧ b = j; obtain ⟨rfl, rfl⟩ := z; rw [upZ_at]; rw [upZ_ne (k := 4 * i + j) (j := 4 * a + b) _ _ (by omega)]; exact h2 a b (by omega)) (by omega) hP hD hS (lv_sub hl [1, 2, 3, 4, 0] rfl)
                    exact lp_70 ((3 - 0) + 1) 0 W3 H locs ls (Nat.zero_le _) (fun a b q => h1 a b (by omega) (by omega)) (by omega) hP hD hS (lv_sub hl [1, 2, 3, 4, 0] rfl)
              exact lp_62 ((3 - 0) + 1) 0 Wk H locs ls (Nat.zero_le _) (fun a b q => absurd q (Nat.not_lt_zero _)) (by omega) hP hD hS (lv_sub hl [2, 3, 1, 0] rfl)
            · skip
              refine lv_iconst (v := nI 0) hx hb d_K_joinLines_58 (by decide) ?_
              exact hret H locs _ ls (nI 0) (kk, rt, Wk, nI 3, Ca, Fa, Pa, Oa) d_K_joinLines_59 (by first | exact ⟨Or.inr ⟨rfl, by omega⟩, ⟨hk2, h0, hkk, hroot⟩, fun q => absurd q (by omega)⟩ | (dsimp only; exact ⟨Or.inr ⟨rfl, by omega⟩, ⟨hk2, h0, hkk, hroot⟩, fun q => absurd q (by omega)⟩)) hP hD hS
          · skip
            refine lv_iinc (v := nI (kk + 1)) (lv' := [(1, .int (nI (kk + 1))), (0, .ref h)]) hx hb d_K_joinLines_34 hl (k := 1) rfl (nI_add _ _) (by decide) rfl (fun ls hl => ?_)
            refine lv_goto (tgt := 15) hx hb d_K_joinLines_37 (by decide) ?_
            exact ih_15 (kk + 1) H locs ls (by omega) (fun j q => by by_cases z : j = kk; rw [z]; exact c31_31; exact h0 j (by omega)) (by omega) hP hD hS (lv_sub hl [1, 0] rfl)
    exact lp_15 ((2 - 0) + 1) 0 H locs ls (Nat.zero_le _) (fun j q => absurd q (Nat.not_lt_zero _)) (by omega) hP hD hS (lv_sub hl [1, 0] rfl)
  rw [hH, hlc] at key; exact key

def rm_c_readAt : Room := { frames := 3, cells := 0, slots := 0, locals := 118 }
set_option maxHeartbeats 4000000 in
set_option maxRecDepth 100000 in
/-- a row and a column -/
theorem c_readAt (l : Launch) (D : va_G) (cJ : ClassId) (h : Nat) (d : Nat) (kb : Int32) (fo : Nat) (ke : Nat) (ht : Nat) (wo : Nat) (fi : Nat) (se : Nat) (Wk : Nat → Int) (A1 : Nat → Int) (A2 : Nat → Int) (i : Nat) (j : Nat) (hi : i < 3) (hj : j < 3) (hW : ∀ a b, a < 3 → b < 3 → inB (Wk (4 * a + b)) 50000) (sz : Nat) : xMz l y_K_readLinesAt (Cond.code y_K_readLinesAt b_K_readLinesAt 4 (some .boolean) :: tW) rm_c_readAt [.ref h, .int (nI i), .int (nI j)] D vwC [(cJ, .long)] sz [(h, .inr (1, [.int (nI d), .int kb, .ref fo, .ref ke, .ref ht, .ref wo, .ref fi, .ref se])), (wo, LA cJ 16 Wk), (fi, LA cJ 4 A1), (se, LA cJ 4 A2)] (fun (rv : Int32) (uo : (Nat → Int) × (Nat → Int)) => ((rv = nI 1 ∧ (gcdN (fun q => Wk (4 * i + q)) 3 ≠ 0 ∧ gcdN (fun q => Wk (4 * q + j)) 3 ≠ 0)) ∨ (rv = nI 0 ∧ ¬ (gcdN (fun q => Wk (4 * i + q)) 3 ≠ 0 ∧ gcdN (fun q => Wk (4 * q + j)) 3 ≠ 0))) ∧ (gcdN (fun q => Wk (4 * i + q)) 3 ≠ 0 ∧ gcdN (fun q => Wk (4 * q + j)) 3 ≠ 0 → ∀ k, k < 3 → uo.1 k = woN (fun q => Wk (4 * i + q)) 3 k ∧ uo.2 k = woN (fun q => Wk (4 * q + j)) 3 k)) (fun (uo : (Nat → Int) × (Nat → Int)) => [(h, .inr (1, [.int (nI d), .int kb, .ref fo, .ref ke, .ref ht, .ref wo, .ref fi, .ref se])), (wo, LA cJ 16 Wk), (fi, LA cJ 4 uo.1), (se, LA cJ 4 uo.2)]) 0 0 := by
  refine xoz (cc := b_K_readLinesAt) (maxL := 4) (by decide) rfl (Nat.le_of_ble_eq_true rfl) (fun r u h => by rcases h.1 with h | h; exact Or.inr h.1; exact Or.inl h.1) ?_
  intro p e s m args below meth c Q A hx hb hml hts hown hN hA hS hP hK hD hret ls hl
  have hl : lv_has ls 4 [(0, .ref h), (1, .int (nI i)), (2, .int (nI j))] := hl
  obtain ⟨H, hH⟩ : ∃ z, z = s.heap := ⟨_, rfl⟩
  obtain ⟨locs, hlc⟩ : ∃ z : List Loc, z = [] := ⟨_, rfl⟩
  rw [← hH] at hP
  have hS : va_S A s.heap H locs := by rw [hH, hlc]; exact hS
  have key : W p l e rm_c_readAt s m args below meth c H locs 0 0 Q (F0 m 0 ls []) := by
    refine lv_iconst (v := nI 0) hx hb d_K_readLinesAt_0 (by decide) ?_
    refine lv_istore_n (lv' := [(3, .int (nI 0)), (0, .ref h), (1, .int (nI i)), (2, .int (nI j))]) hx hb d_K_readLinesAt_1 rfl hl (by decide) rfl (fun ls hl => ?_)
    have lp_2 : ∀ (n_2 : Nat) (t : Nat) (B5 : Nat → Int) (E5 : Nat → Int) (H : Heap) (locs : List Loc) (ls : Array Slot), (t ≤ 3) → (∀ k, k < t → B5 k = Wk (4 * i + k) ∧ E5 k = Wk (4 * k + j)) → (3 - t) < n_2 → va_P D vwC [(h, .inr (1, [.int (nI d), .int kb, .ref fo, .ref ke, .ref ht, .ref wo, .ref fi, .ref se])), (wo, LA cJ 16 Wk), (fi, LA cJ 4 B5), (se, LA cJ 4 E5)] H → va_D A [(h, .inr (1, [.int (nI d), .int kb, .ref fo, .ref ke, .ref ht, .ref wo, .ref fi, .ref se])), (wo, LA cJ 16 Wk), (fi, LA cJ 4 B5), (se, LA cJ 4 E5)] → va_S A s.heap H locs → lv_has ls 4 [(0, .ref h), (1, .int (nI i)), (2, .int (nI j)), (3, .int (nI t))] → W p l e rm_c_readAt s m args below meth c H locs 0 0 Q (F0 m 2 ls []) := by
      intro n_2
      induction n_2 with
      | zero => intro t B5 E5 H locs ls ht9 h1 hn_2; exact absurd hn_2 (Nat.not_lt_zero _)
      | succ n_2 ih_2 =>
        intro t B5 E5 H locs ls ht9 h1 hn_2 hP hD hS hl
        refine lv_iload_n hx hb d_K_readLinesAt_2 rfl (lv_at hl 3 rfl) ?_
        refine lv_iconst (v := nI 3) hx hb d_K_readLinesAt_3 (by decide) ?_
        refine xn_ge (tgt := 45) hx hb (by omega) (by omega) d_K_readLinesAt_4 (by decide) (fun c4_0 => ?_) (fun c4_0 => ?_)
        · skip
          have hg1 : ∀ k, k < 3 → B5 k = (fun q => Wk (4 * i + q)) k := fun k hk => (h1 k (by omega)).1
          have hg2 : ∀ k, k < 3 → E5 k = (fun q => Wk (4 * q + j)) k := fun k hk => (h1 k (by omega)).2
          refine lv_aload_n hx hb d_K_readLinesAt_45 rfl (lv_at hl 0 rfl) ?_
          refine va_get (D := D) (ci := 1) (v := .ref fi) (C := R_K) (T := F_K) (N := 8) hx hb hts iw_K hown hK hP 0 rfl rfl 6 (by decide) (hts _ tw_48) (fun _ h9 => h9) rfl d_K_readLinesAt_46 ?_
          refine lv_iconst (v := nI 3) hx hb d_K_readLinesAt_49 (by decide) ?_
          refine xci (wc := [(fi, LA cJ 4 B5)]) (wr := [(h, .inr (1, [.int (nI d), .int kb, .ref fo, .ref ke, .ref ht, .ref wo, .ref fi, .ref se])), (wo, LA cJ 16 Wk), (se, LA cJ 4 E5)]) hP hD hS hA [2] [0, 1, 3] rfl rfl (by decide) (by decide) (va_runS (As := [.ref fi, .int (nI 3)]) (rest := []) ⟨hx, hb, hml, hown, hts⟩ (c_clear l D cJ fi B5 3 (by decide) (fun k hk => by rw [hg1 k hk]; exact nB_of (hW i k hi hk) (by decide)) H.size) (cwS 2 hts (gS tw_237 tw_238 tw_1 tw_239) rfl rfl rfl ⟨rfl, hd_K_clearDivisor⟩ ⟨Nat.le_of_ble_eq_true rfl, Nat.le_of_ble_eq_true rfl⟩) (xPreS hN hK (hP.sub (ws' := [(fi, LA cJ 4 B5)]) [2] rfl) (hD.sub (ws' := [(fi, LA cJ 4 B5)]) [2] (by decide) rfl)) rfl rfl hl.1 rfl (lv_room (Nat.le_of_ble_eq_true rfl)) d_K_readLinesAt_50 ⟨Nat.le_of_ble_eq_true rfl, Nat.le_of_ble_eq_true rfl⟩) (fun r_2 u_3 H locs hwa hP hD hS => ?_)
          obtain ⟨B6, rfl⟩ : ∃ z, z = u_3 := ⟨_, rfl⟩
          try dsimp only at hwa
          have hP : va_P D vwC [(h, .inr (1, [.int (nI d), .int kb, .ref fo, .ref ke, .ref ht, .ref wo, .ref fi, .ref se])), (wo, LA cJ 16 Wk), (fi, LA cJ 4 B6), (se, LA cJ 4 E5)] H := hP.sub [0, 1, 3, 2] rfl
          have hD : va_D A [(h, .inr (1, [.int (nI d), .int kb, .ref fo, .ref ke, .ref ht, .ref wo, .ref fi, .ref se])), (wo, LA cJ 16 Wk), (fi, LA cJ 4 B6), (se, LA cJ 4 E5)] := hD.sub [0, 1, 3, 2] (by decide) rfl
          obtain ⟨hwa, hwap⟩ := hwa
          rcases hwa with ⟨rfl, hwa⟩ | ⟨rfl, hwa⟩
          · skip
            refine xz_eq (tgt := 71) (X := (1 : Nat)) hx hb (nI_toInt (by omega)) d_K_readLinesAt_53 (by decide) (fun c53_3 => absurd c53_3 (by omega)) (fun c53_3 => ?_)
            refine lv_aload_n hx hb d_K_readLinesAt_56 rfl (lv_at hl 0 rfl) ?_
            refine va_get (D := D) (ci := 1) (v := .ref se) (C := R_K) (T := F_K) (N := 8) hx hb hts iw_K hown hK hP 0 rfl rfl 7 (by decide) (hts _ tw_49) (fun _ h9 => h9) rfl d_K_readLinesAt_57 ?_
            refine lv_iconst (v := nI 3) hx hb d_K_readLinesAt_60 (by decide) ?_
            refine xci (wc := [(se, LA cJ 4 E5)]) (wr := [(h, .inr (1, [.int (nI d), .int kb, .ref fo, .ref ke, .ref ht, .ref wo, .ref fi, .ref se])), (wo, LA cJ 16 Wk), (fi, LA cJ 4 B6)]) hP hD hS hA [3] [0, 1, 2] rfl rfl (by decide) (by decide) (va_runS (As := [.ref se, .int (nI 3)]) (rest := []) ⟨hx, hb, hml, hown, hts⟩ (c_clear l D cJ se E5 3 (by decide) (fun k hk => by rw [hg2 k hk]; exact nB_of (hW k j hk hj) (by decide)) H.size) (cwS 2 hts (gS tw_237 tw_238 tw_1 tw_239) rfl rfl rfl ⟨rfl, hd_K_clearDivisor⟩ ⟨Nat.le_of_ble_eq_true rfl, Nat.le_of_ble_eq_true rfl⟩) (xPreS hN hK (hP.sub (ws' := [(se, LA cJ 4 E5)]) [3] rfl) (hD.sub (ws' := [(se, LA cJ 4 E5)]) [3] (by decide) rfl)) rfl rfl hl.1 rfl (lv_room (Nat.le_of_ble_eq_true rfl)) d_K_readLinesAt_61 ⟨Nat.le_of_ble_eq_true rfl, Nat.le_of_ble_eq_true rfl⟩) (fun r_5 u_6 H locs hwb hP hD hS => ?_)
            obtain ⟨E6, rfl⟩ : ∃ z, z = u_6 := ⟨_, rfl⟩
            try dsimp only at hwb
            have hP : va_P D vwC [(h, .inr (1, [.int (nI d), .int kb, .ref fo, .ref ke, .ref ht, .ref wo, .ref fi, .ref se])), (wo, LA cJ 16 Wk), (fi, LA cJ 4 B6), (se, LA cJ 4 E6)] H := hP
            have hD : va_D A [(h, .inr (1, [.int (nI d), .int kb, .ref fo, .ref ke, .ref ht, .ref wo, .ref fi, .ref se])), (wo, LA cJ 16 Wk), (fi, LA cJ 4 B6), (se, LA cJ 4 E6)] := hD
            obtain ⟨hwb, hwbp⟩ := hwb
            rcases hwb with ⟨rfl, hwb⟩ | ⟨rfl, hwb⟩
            · skip
              refine xz_eq (tgt := 71) (X := (1 : Nat)) hx hb (nI_toInt (by omega)) d_K_readLinesAt_64 (by decide) (fun c64_6 => absurd c64_6 (by omega)) (fun c64_6 => ?_)
              refine lv_iconst (v := nI 1) hx hb d_K_readLinesAt_67 (by decide) ?_
              refine lv_goto (tgt := 72) hx hb d_K_readLinesAt_68 (by decide) ?_
              exact hret H locs _ ls (nI 1) (B6, E6) d_K_readLinesAt_72 (by first | exact ⟨Or.inl ⟨rfl, (by rw [← gcdN_congr hg1]; exact hwa), (by rw [← gcdN_congr hg2]; exact hwb)⟩, fun q k hk => ⟨by unfold woN; rw [if_neg q.1, ← dvN_congr hg1, hwap hwa k hk, hg1 k hk], by unfold woN; rw [if_neg q.2, ← dvN_congr hg2, hwbp hwb k hk, hg2 k hk]⟩⟩ | (dsimp only; exact ⟨Or.inl ⟨rfl, (by rw [← gcdN_congr hg1]; exact hwa), (by rw [← gcdN_congr hg2]; exact hwb)⟩, fun q k hk => ⟨by unfold woN; rw [if_neg q.1, ← dvN_congr hg1, hwap hwa k hk, hg1 k hk], by unfold woN; rw [if_neg q.2, ← dvN_congr hg2, hwbp hwb k hk, hg2 k hk]⟩⟩)) hP hD hS
            · skip
              refine xz_eq (tgt := 71) (X := (0 : Nat)) hx hb (nI_toInt (by omega)) d_K_readLinesAt_64 (by decide) (fun c64_7 => ?_) (fun c64_7 => absurd c64_7 (by omega))
              refine lv_iconst (v := nI 0) hx hb d_K_readLinesAt_71 (by decide) ?_
              exact hret H locs _ ls (nI 0) (B6, E6) d_K_readLinesAt_72 (by first | exact ⟨Or.inr ⟨rfl, fun q => hwb (by rw [gcdN_congr hg2]; exact q.2)⟩, fun q => absurd q.2 (fun z => hwb (by rw [gcdN_congr hg2]; exact z))⟩ | (dsimp only; exact ⟨Or.inr ⟨rfl, fun q => hwb (by rw [gcdN_congr hg2]; exact q.2)⟩, fun q => absurd q.2 (fun z => hwb (by rw [gcdN_congr hg2]; exact z))⟩)) hP hD hS
          · skip
            refine xz_eq (tgt := 71) (X := (0 : Nat)) hx hb (nI_toInt (by omega)) d_K_readLinesAt_53 (by decide) (fun c53_8 => ?_) (fun c53_8 => absurd c53_8 (by omega))
            refine lv_iconst (v := nI 0) hx hb d_K_readLinesAt_71 (by decide) ?_
            exact hret H locs _ ls (nI 0) (B6, E5) d_K_readLinesAt_72 (by first | exact ⟨Or.inr ⟨rfl, fun q => hwa (by rw [gcdN_congr hg1]; exact q.1)⟩, fun q => absurd q.1 (fun z => hwa (by rw [gcdN_congr hg1]; exact z))⟩ | (dsimp only; exact ⟨Or.inr ⟨rfl, fun q => hwa (by rw [gcdN_congr hg1]; exact q.1)⟩, fun q => absurd q.1 (fun z => hwa (by rw [gcdN_congr hg1]; exact z))⟩)) hP hD hS
        · skip
          refine lv_aload_n hx hb d_K_readLinesAt_7 rfl (lv_at hl 0 rfl) ?_
          refine va_get (D := D) (ci := 1) (v := .ref fi) (C := R_K) (T := F_K) (N := 8) hx hb hts iw_K hown hK hP 0 rfl rfl 6 (by decide) (hts _ tw_48) (fun _ h9 => h9) rfl d_K_readLinesAt_8 ?_
          refine lv_iload_n hx hb d_K_readLinesAt_11 rfl (lv_at hl 3 rfl) ?_
          refine lv_aload_n hx hb d_K_readLinesAt_12 rfl (lv_at hl 0 rfl) ?_
          refine va_get (D := D) (ci := 1) (v := .ref wo) (C := R_K) (T := F_K) (N := 8) hx hb hts iw_K hown hK hP 0 rfl rfl 5 (by decide) (hts _ tw_47) (fun _ h9 => h9) rfl d_K_readLinesAt_13 ?_
          refine lv_iload_n hx hb d_K_readLinesAt_16 rfl (lv_at hl 1 rfl) ?_
          refine lv_iload_n hx hb d_K_readLinesAt_17 rfl (lv_at hl 3 rfl) ?_
          refine xci (wc := []) (wr := [(h, .inr (1, [.int (nI d), .int kb, .ref fo, .ref ke, .ref ht, .ref wo, .ref fi, .ref se])), (wo, LA cJ 16 Wk), (fi, LA cJ 4 B5), (se, LA cJ 4 E5)]) hP hD hS hA [] [0, 1, 2, 3] rfl rfl (by decide) (by decide) (va_runS (As := [.int (nI i), .int (nI t)]) (rest := [.ref wo, .int (nI t), .ref fi]) ⟨hx, hb, hml, hown, hts⟩ (c_place l D cJ i t H.size) (cwS 2 hts (gS tw_86 tw_87 tw_1 tw_88) rfl rfl rfl ⟨rfl, hd_K_place⟩ ⟨Nat.le_of_ble_eq_true rfl, Nat.le_of_ble_eq_true rfl⟩) (xPreS hN hK (hP.sub (ws' := []) [] rfl) (hD.sub (ws' := []) [] (by decide) rfl)) rfl rfl hl.1 rfl (lv_room (Nat.le_of_ble_eq_true rfl)) d_K_readLinesAt_18 ⟨Nat.le_of_ble_eq_true rfl, Nat.le_of_ble_eq_true rfl⟩) (fun r_10 u_11 H locs hw_12 hP hD hS => ?_)
          try dsimp only at hw_12
          have hP : va_P D vwC [(h, .inr (1, [.int (nI d), .int kb, .ref fo, .ref ke, .ref ht, .ref wo, .ref fi, .ref se])), (wo, LA cJ 16 Wk), (fi, LA cJ 4 B5), (se, LA cJ 4 E5)] H := hP
          have hD : va_D A [(h, .inr (1, [.int (nI d), .int kb, .ref fo, .ref ke, .ref ht, .ref wo, .ref fi, .ref se])), (wo, LA cJ 16 Wk), (fi, LA cJ 4 B5), (se, LA cJ 4 E5)] := hD
          subst hw_12
          refine xl_ald hx hb hK hP 1 0 rfl rfl (k := 4 * i + t) (by omega) (by first | decide | omega) d_K_readLinesAt_21 ?_
          refine xl_ast hx hb hK hP hD hS 2 0 rfl rfl (k := t) (by omega) (by first | decide | omega) d_K_readLinesAt_22 (fun H locs hP hD hS => ?_)
          have hP : va_P D vwC [(h, .inr (1, [.int (nI d), .int kb, .ref fo, .ref ke, .ref ht, .ref wo, .ref fi, .ref se])), (wo, LA cJ 16 Wk), (fi, LA cJ 4 (upZ B5 t (Wk (4 * i + t)))), (se, LA cJ 4 E5)] H := hP
          have hD : va_D A [(h, .inr (1, [.int (nI d), .int kb, .ref fo, .ref ke, .ref ht, .ref wo, .ref fi, .ref se])), (wo, LA cJ 16 Wk), (fi, LA cJ 4 (upZ B5 t (Wk (4 * i + t)))), (se, LA cJ 4 E5)] := hD
          refine lv_aload_n hx hb d_K_readLinesAt_23 rfl (lv_at hl 0 rfl) ?_
          refine va_get (D := D) (ci := 1) (v := .ref se) (C := R_K) (T := F_K) (N := 8) hx hb hts iw_K hown hK hP 0 rfl rfl 7 (by decide) (hts _ tw_49) (fun _ h9 => h9) rfl d_K_readLinesAt_24 ?_
          refine lv_iload_n hx hb d_K_readLinesAt_27 rfl (lv_at hl 3 rfl) ?_
          refine lv_aload_n hx hb d_K_readLinesAt_28 rfl (lv_at hl 0 rfl) ?_
          refine va_get (D := D) (ci := 1) (v := .ref wo) (C := R_K) (T := F_K) (N := 8) hx hb hts iw_K hown hK hP 0 rfl rfl 5 (by decide) (hts _ tw_47) (fun _ h9 => h9) rfl d_K_readLinesAt_29 ?_
          refine lv_iload_n hx hb d_K_readLinesAt_32 rfl (lv_at hl 3 rfl) ?_
          refine lv_iload_n hx hb d_K_readLinesAt_33 rfl (lv_at hl 2 rfl) ?_
          refine xci (wc := []) (wr := [(h, .inr (1, [.int (nI d), .int kb, .ref fo, .ref ke, .ref ht, .ref wo, .ref fi, .ref se])), (wo, LA cJ 16 Wk), (fi, LA cJ 4 (upZ B5 t (Wk (4 * i + t)))), (se, LA cJ 4 E5)]) hP hD hS hA [] [0, 1, 2, 3] rfl rfl (by decide) (by decide) (va_runS (As := [.int (nI t), .int (nI j)]) (rest := [.ref wo, .int (nI t), .ref se]) ⟨hx, hb, hml, hown, hts⟩ (c_place l D cJ t j H.size) (cwS 2 hts (gS tw_86 tw_87 tw_1 tw_88) rfl rfl rfl ⟨rfl, hd_K_place⟩ ⟨Nat.le_of_ble_eq_true rfl, Nat.le_of_ble_eq_true rfl⟩) (xPreS hN hK (hP.sub (ws' := []) [] rfl) (hD.sub (ws' := []) [] (by decide) rfl)) rfl rfl hl.1 rfl (lv_room (Nat.le_of_ble_eq_true rfl)) d_K_readLinesAt_34 ⟨Nat.le_of_ble_eq_true rfl, Nat.le_of_ble_eq_true rfl⟩) (fun r_13 u_14 H locs hw_15 hP hD hS => ?_)
          try dsimp only at hw_15
          have hP : va_P D vwC [(h, .inr (1, [.int (nI d), .int kb, .ref fo, .ref ke, .ref ht, .ref wo, .ref fi, .ref se])), (wo, LA cJ 16 Wk), (fi, LA cJ 4 (upZ B5 t (Wk (4 * i + t)))), (se, LA cJ 4 E5)] H := hP
          have hD : va_D A [(h, .inr (1, [.int (nI d), .int kb, .ref fo, .ref ke, .ref ht, .ref wo, .ref fi, .ref se])), (wo, LA cJ 16 Wk), (fi, LA cJ 4 (upZ B5 t (Wk (4 * i + t)))), (se, LA cJ 4 E5)] := hD
          subst hw_15
          refine xl_ald hx hb hK hP 1 0 rfl rfl (k := 4 * t + j) (by omega) (by first | decide | omega) d_K_readLinesAt_37 ?_
          refine xl_ast hx hb hK hP hD hS 3 0 rfl rfl (k := t) (by omega) (by first | decide | omega) d_K_readLinesAt_38 (fun H locs hP hD hS => ?_)
          have hP : va_P D vwC [(h, .inr (1, [.int (nI d), .int kb, .ref fo, .ref ke, .ref ht, .ref wo, .ref fi, .ref se])), (wo, LA cJ 16 Wk), (fi, LA cJ 4 (upZ B5 t (Wk (4 * i + t)))), (se, LA cJ 4 (upZ E5 t (Wk (4 * t + j))))] H := hP
          have hD : va_D A [(h, .inr (1, [.int (nI d), .int kb, .ref fo, .ref ke, .ref ht, .ref wo, .ref fi, .ref se])), (wo, LA cJ 16 Wk), (fi, LA cJ 4 (upZ B5 t (Wk (4 * i + t)))), (se, LA cJ 4 (upZ E5 t (Wk (4 * t + j))))] := hD
          refine lv_iinc (v := nI (t + 1)) (lv' := [(3, .int (nI (t + 1))), (0, .ref h), (1, .int (nI i)), (2, .int (nI j))]) hx hb d_K_readLinesAt_39 hl (k := 3) rfl (nI_add _ _) (by decide) rfl (fun ls hl => ?_)
          refine lv_goto (tgt := 2) hx hb d_K_readLinesAt_42 (by decide) ?_
          exact ih_2 (t + 1) (upZ B5 t (Wk (4 * i + t))) (upZ E5 t (Wk (4 * t + j))) H locs ls (by omega) (fun k q => by by_cases z : k = t; rw [z, upZ_at, upZ_at]; exact ⟨rfl, rfl⟩; rw [upZ_ne (k := t) (j := k) _ _ z, upZ_ne (k := t) (j := k) _ _ z]; exact h1 k (by omega)) (by omega) hP hD hS (lv_sub hl [1, 2, 3, 0] rfl)
    exact lp_2 ((3 - 0) + 1) 0 A1 A2 H locs ls (Nat.zero_le _) (fun k q => absurd q (Nat.not_lt_zero _)) (by omega) hP hD hS (lv_sub hl [1, 2, 3, 0] rfl)
  rw [hH, hlc] at key; exact key

def rm_c_read : Room := { frames := 4, cells := 0, slots := 0, locals := 141 }
set_option maxHeartbeats 4000000 in
set_option maxRecDepth 100000 in
/-- the lines -/
theorem c_read (l : Launch) (D : va_G) (cJ : ClassId) (h : Nat) (d : Nat) (kb : Int32) (fo : Nat) (ke : Nat) (ht : Nat) (wo : Nat) (fi : Nat) (se : Nat) (Wk : Nat → Int) (A1 : Nat → Int) (A2 : Nat → Int) (hW : ∀ a b, a < 3 → b < 3 → inB (Wk (4 * a + b)) 50000) (sz : Nat) : xMz l y_K_readLines (Cond.code y_K_readLines b_K_readLines 3 (some .boolean) :: tW) rm_c_read [.ref h] D vwC [(cJ, .long)] sz [(h, .inr (1, [.int (nI d), .int kb, .ref fo, .ref ke, .ref ht, .ref wo, .ref fi, .ref se])), (wo, LA cJ 16 Wk), (fi, LA cJ 4 A1), (se, LA cJ 4 A2)] (fun (rv : Int32) (uo : (Nat → Int) × (Nat → Int)) => ((rv = nI 1 ∧ (¬ (∀ a b, a < 3 → b < 3 → Wk (4 * a + b) = 0))) ∨ (rv = nI 0 ∧ ¬ (¬ (∀ a b, a < 3 → b < 3 → Wk (4 * a + b) = 0)))) ∧ (¬ (∀ a b, a < 3 → b < 3 → Wk (4 * a + b) = 0) → ∃ i j, i < 3 ∧ j < 3 ∧ Wk (4 * i + j) ≠ 0 ∧ ∀ k, k < 3 → uo.1 k = woN (fun q => Wk (4 * i + q)) 3 k ∧ uo.2 k = woN (fun q => Wk (4 * q + j)) 3 k)) (fun (uo : (Nat → Int) × (Nat → Int)) => [(h, .inr (1, [.int (nI d), .int kb, .ref fo, .ref ke, .ref ht, .ref wo, .ref fi, .ref se])), (wo, LA cJ 16 Wk), (fi, LA cJ 4 uo.1), (se, LA cJ 4 uo.2)]) 0 0 := by
  refine xoz (cc := b_K_readLines) (maxL := 3) (by decide) rfl (Nat.le_of_ble_eq_true rfl) (fun r u h => by rcases h.1 with h | h; exact Or.inr h.1; exact Or.inl h.1) ?_
  intro p e s m args below meth c Q A hx hb hml hts hown hN hA hS hP hK hD hret ls hl
  have hl : lv_has ls 3 [(0, .ref h)] := hl
  obtain ⟨H, hH⟩ : ∃ z, z = s.heap := ⟨_, rfl⟩
  obtain ⟨locs, hlc⟩ : ∃ z : List Loc, z = [] := ⟨_, rfl⟩
  rw [← hH] at hP
  have hS : va_S A s.heap H locs := by rw [hH, hlc]; exact hS
  have key : W p l e rm_c_read s m args below meth c H locs 0 0 Q (F0 m 0 ls []) := by
    refine lv_iconst (v := nI 0) hx hb d_K_readLines_0 (by decide) ?_
    refine lv_istore_n (lv' := [(1, .int (nI 0)), (0, .ref h)]) hx hb d_K_readLines_1 rfl hl (by decide) rfl (fun ls hl => ?_)
    have lp_2 : ∀ (n_2 : Nat) (i : Nat) (H : Heap) (locs : List Loc) (ls : Array Slot), (i ≤ 3) → (∀ a b, a < i → b < 3 → Wk (4 * a + b) = 0) → (3 - i) < n_2 → va_P D vwC [(h, .inr (1, [.int (nI d), .int kb, .ref fo, .ref ke, .ref ht, .ref wo, .ref fi, .ref se])), (wo, LA cJ 16 Wk), (fi, LA cJ 4 A1), (se, LA cJ 4 A2)] H → va_D A [(h, .inr (1, [.int (nI d), .int kb, .ref fo, .ref ke, .ref ht, .ref wo, .ref fi, .ref se])), (wo, LA cJ 16 Wk), (fi, LA cJ 4 A1), (se, LA cJ 4 A2)] → va_S A s.heap H locs → lv_has ls 3 [(0, .ref h), (1, .int (nI i))] → W p l e rm_c_read s m args below meth c H locs 0 0 Q (F0 m 2 ls []) := by
      intro n_2
      induction n_2 with
      | zero => intro i H locs ls hi h1 hn_2; exact absurd hn_2 (Nat.not_lt_zero _)
      | succ n_2 ih_2 =>
        intro i H locs ls hi h1 hn_2 hP hD hS hl
        refine lv_iload_n hx hb d_K_readLines_2 rfl (lv_at hl 1 rfl) ?_
        refine lv_iconst (v := nI 3) hx hb d_K_readLines_3 (by decide) ?_
        refine xn_ge (tgt := 48) hx hb (by omega) (by omega) d_K_readLines_4 (by decide) (fun c4_0 => ?_) (fun c4_0 => ?_)
        · skip
          refine lv_iconst (v := nI 0) hx hb d_K_readLines_48 (by decide) ?_
          exact hret H locs _ ls (nI 0) (A1, A2) d_K_readLines_49 (by first | exact ⟨Or.inr ⟨rfl, fun q => q (fun a b ha hb => h1 a b (by omega) hb)⟩, fun q => absurd (fun a b ha hb => h1 a b (by omega) hb) q⟩ | (dsimp only; exact ⟨Or.inr ⟨rfl, fun q => q (fun a b ha hb => h1 a b (by omega) hb)⟩, fun q => absurd (fun a b ha hb => h1 a b (by omega) hb) q⟩)) hP hD hS
        · skip
          refine lv_iconst (v := nI 0) hx hb d_K_readLines_7 (by decide) ?_
          refine lv_istore_n (lv' := [(2, .int (nI 0)), (0, .ref h), (1, .int (nI i))]) hx hb d_K_readLines_8 rfl hl (by decide) rfl (fun ls hl => ?_)
          have lp_9 : ∀ (n_9 : Nat) (j : Nat) (H : Heap) (locs : List Loc) (ls : Array Slot), (j ≤ 3) → (∀ a b, (a < i ∧ b < 3) ∨ (a = i ∧ b < j) → Wk (4 * a + b) = 0) → (3 - j) < n_9 → va_P D vwC [(h, .inr (1, [.int (nI d), .int kb, .ref fo, .ref ke, .ref ht, .ref wo, .ref fi, .ref se])), (wo, LA cJ 16 Wk), (fi, LA cJ 4 A1), (se, LA cJ 4 A2)] H → va_D A [(h, .inr (1, [.int (nI d), .int kb, .ref fo, .ref ke, .ref ht, .ref wo, .ref fi, .ref se])), (wo, LA cJ 16 Wk), (fi, LA cJ 4 A1), (se, LA cJ 4 A2)] → va_S A s.heap H locs → lv_has ls 3 [(0, .ref h), (1, .int (nI i)), (2, .int (nI j))] → W p l e rm_c_read s m args below meth c H locs 0 0 Q (F0 m 9 ls []) := by
            intro n_9
            induction n_9 with
            | zero => intro j H locs ls hj h2 hn_9; exact absurd hn_9 (Nat.not_lt_zero _)
            | succ n_9 ih_9 =>
              intro j H locs ls hj h2 hn_9 hP hD hS hl
              refine lv_iload_n hx hb d_K_readLines_9 rfl (lv_at hl 2 rfl) ?_
              refine lv_iconst (v := nI 3) hx hb d_K_readLines_10 (by decide) ?_
              refine xn_ge (tgt := 42) hx hb (by omega) (by omega) d_K_readLines_11 (by decide) (fun c11_1 => ?_) (fun c11_1 => ?_)
              · skip
                refine lv_iinc (v := nI (i + 1)) (lv' := [(1, .int (nI (i + 1))), (0, .ref h), (2, .int (nI j))]) hx hb d_K_readLines_42 hl (k := 1) rfl (nI_add _ _) (by decide) rfl (fun ls hl => ?_)
                refine lv_goto (tgt := 2) hx hb d_K_readLines_45 (by decide) ?_
                exact ih_2 (i + 1) H locs ls (by omega) (fun a b ha hb => h2 a b (by omega)) (by omega) hP hD hS (lv_sub hl [1, 0] rfl)
              · skip
                refine lv_aload_n hx hb d_K_readLines_14 rfl (lv_at hl 0 rfl) ?_
                refine va_get (D := D) (ci := 1) (v := .ref wo) (C := R_K) (T := F_K) (N := 8) hx hb hts iw_K hown hK hP 0 rfl rfl 5 (by decide) (hts _ tw_47) (fun _ h9 => h9) rfl d_K_readLines_15 ?_
                refine lv_iload_n hx hb d_K_readLines_18 rfl (lv_at hl 1 rfl) ?_
                refine lv_iload_n hx hb d_K_readLines_19 rfl (lv_at hl 2 rfl) ?_
                refine xci (wc := []) (wr := [(h, .inr (1, [.int (nI d), .int kb, .ref fo, .ref ke, .ref ht, .ref wo, .ref fi, .ref se])), (wo, LA cJ 16 Wk), (fi, LA cJ 4 A1), (se, LA cJ 4 A2)]) hP hD hS hA [] [0, 1, 2, 3] rfl rfl (by decide) (by decide) (va_runS (As := [.int (nI i), .int (nI j)]) (rest := [.ref wo]) ⟨hx, hb, hml, hown, hts⟩ (c_place l D cJ i j H.size) (cwS 2 hts (gS tw_86 tw_87 tw_1 tw_88) rfl rfl rfl ⟨rfl, hd_K_place⟩ ⟨Nat.le_of_ble_eq_true rfl, Nat.le_of_ble_eq_true rfl⟩) (xPreS hN hK (hP.sub (ws' := []) [] rfl) (hD.sub (ws' := []) [] (by decide) rfl)) rfl rfl hl.1 rfl (lv_room (Nat.le_of_ble_eq_true rfl)) d_K_readLines_20 ⟨Nat.le_of_ble_eq_true rfl, Nat.le_of_ble_eq_true rfl⟩) (fun r_3 u_4 H locs hw_5 hP hD hS => ?_)
                try dsimp only at hw_5
                have hP : va_P D vwC [(h, .inr (1, [.int (nI d), .int kb, .ref fo, .ref ke, .ref ht, .ref wo, .ref fi, .ref se])), (wo, LA cJ 16 Wk), (fi, LA cJ 4 A1), (se, LA cJ 4 A2)] H := hP
                have hD : va_D A [(h, .inr (1, [.int (nI d), .int kb, .ref fo, .ref ke, .ref ht, .ref wo, .ref fi, .ref se])), (wo, LA cJ 16 Wk), (fi, LA cJ 4 A1), (se, LA cJ 4 A2)] := hD
                subst hw_5
                refine xl_ald hx hb hK hP 1 0 rfl rfl (k := 4 * i + j) (by omega) (by first | decide | omega) d_K_readLines_23 ?_
                refine lv_lconst (v := lI 0) hx hb d_K_readLines_24 (by decide) ?_
                refine xl_eq (tgt := 36) hx hb (lB_of (hW i j (by omega) (by omega)) (by decide)) ⟨by decide, by decide⟩ d_K_readLines_25 d_K_readLines_26 (by decide) (fun c26_5 => ?_) (fun c26_5 => ?_)
                · skip
                  refine lv_iinc (v := nI (j + 1)) (lv' := [(2, .int (nI (j + 1))), (0, .ref h), (1, .int (nI i))]) hx hb d_K_readLines_36 hl (k := 2) rfl (nI_add _ _) (by decide) rfl (fun ls hl => ?_)
                  refine lv_goto (tgt := 9) hx hb d_K_readLines_39 (by decide) ?_
                  exact ih_9 (j + 1) H locs ls (by omega) (fun a b q => by by_cases z : a = i ∧ b = j; obtain ⟨rfl, rfl⟩ := z; exact c26_5; exact h2 a b (by omega)) (by omega) hP hD hS (lv_sub hl [1, 2, 0] rfl)
                · skip
                  refine lv_aload_n hx hb d_K_readLines_29 rfl (lv_at hl 0 rfl) ?_
                  refine lv_iload_n hx hb d_K_readLines_30 rfl (lv_at hl 1 rfl) ?_
                  refine lv_iload_n hx hb d_K_readLines_31 rfl (lv_at hl 2 rfl) ?_
                  refine xci (wc := [(h, .inr (1, [.int (nI d), .int kb, .ref fo, .ref ke, .ref ht, .ref wo, .ref fi, .ref se])), (wo, LA cJ 16 Wk), (fi, LA cJ 4 A1), (se, LA cJ 4 A2)]) (wr := []) hP hD hS hA [0, 1, 2, 3] [] rfl rfl (by decide) (by decide) (va_runV (As := [.int (nI i), .int (nI j)]) (rest := []) ⟨hx, hb, hml, hown, hts⟩ (c_readAt l D cJ h d kb fo ke ht wo fi se Wk A1 A2 i j (by first | assumption | omega) (by first | assumption | omega) (by first | assumption | omega) H.size) (cwV 2 hts (gV tw_291 tw_293 tws_16 tw_1 tw_294) rfl rfl rfl ⟨rfl, hd_K_readLinesAt⟩ ⟨Nat.le_of_ble_eq_true rfl, Nat.le_of_ble_eq_true rfl⟩) (xPreV (C := R_K) (T := F_K) (N := 8) (q0 := 0) hN hK (hP.sub (ws' := [(h, .inr (1, [.int (nI d), .int kb, .ref fo, .ref ke, .ref ht, .ref wo, .ref fi, .ref se])), (wo, LA cJ 16 Wk), (fi, LA cJ 4 A1), (se, LA cJ 4 A2)]) [0, 1, 2, 3] rfl) (hD.sub (ws' := [(h, .inr (1, [.int (nI d), .int kb, .ref fo, .ref ke, .ref ht, .ref wo, .ref fi, .ref se])), (wo, LA cJ 16 Wk), (fi, LA cJ 4 A1), (se, LA cJ 4 A2)]) [0, 1, 2, 3] (by decide) rfl) rfl rfl) rfl rfl hl.1 rfl (lv_room (Nat.le_of_ble_eq_true rfl)) d_K_readLines_32 ⟨Nat.le_of_ble_eq_true rfl, Nat.le_of_ble_eq_true rfl⟩) (fun r_7 u_8 H locs hra hP hD hS => ?_)
                  obtain ⟨B6, E6⟩ := u_8
                  try dsimp only at hra
                  have hP : va_P D vwC [(h, .inr (1, [.int (nI d), .int kb, .ref fo, .ref ke, .ref ht, .ref wo, .ref fi, .ref se])), (wo, LA cJ 16 Wk), (fi, LA cJ 4 B6), (se, LA cJ 4 E6)] H := hP
                  have hD : va_D A [(h, .inr (1, [.int (nI d), .int kb, .ref fo, .ref ke, .ref ht, .ref wo, .ref fi, .ref se])), (wo, LA cJ 16 Wk), (fi, LA cJ 4 B6), (se, LA cJ 4 E6)] := hD
                  obtain ⟨hra, hrap⟩ := hra
                  rcases hra with ⟨rfl, hra⟩ | ⟨rfl, hra⟩
                  · skip
                    exact hret H locs _ ls (nI 1) (B6, E6) d_K_readLines_35 (by first | exact ⟨Or.inl ⟨rfl, fun q => c26_5 (q i j (by omega) (by omega))⟩, fun _ => ⟨i, j, by omega, by omega, c26_5, hrap hra⟩⟩ | (dsimp only; exact ⟨Or.inl ⟨rfl, fun q => c26_5 (q i j (by omega) (by omega))⟩, fun _ => ⟨i, j, by omega, by omega, c26_5, hrap hra⟩⟩)) hP hD hS
                  · skip
                    exact hret H locs _ ls (nI 0) (B6, E6) d_K_readLines_35 (by first | exact (absurd ⟨gcd_ne (G := fun q => Wk (4 * i + q)) (k := j) (by omega) c26_5, gcd_ne (G := fun q => Wk (4 * q + j)) (k := i) (by omega) c26_5⟩ hra) | (dsimp only; exact (absurd ⟨gcd_ne (G := fun q => Wk (4 * i + q)) (k := j) (by omega) c26_5, gcd_ne (G := fun q => Wk (4 * q + j)) (k := i) (by omega) c26_5⟩ hra))) hP hD hS
          exact lp_9 ((3 - 0) + 1) 0 H locs ls (Nat.zero_le _) (fun a b q => h1 a b (by omega) (by omega)) (by omega) hP hD hS (lv_sub hl [1, 2, 0] rfl)
    exact lp_2 ((3 - 0) + 1) 0 H locs ls (Nat.zero_le _) (fun a b q => absurd q (Nat.not_lt_zero _)) (by omega) hP hD hS (lv_sub hl [1, 0] rfl)
  rw [hH, hlc] at key; exact key

def rm_c_less : Room := { frames := 0, cells := 0, slots := 0, locals := 0 }
set_option maxHeartbeats 4000000 in
set_option maxRecDepth 100000 in
/-- the lesser row -/
theorem c_less (l : Launch) (D : va_G) (cJ : ClassId) (a : Nat) (L : Nat → Int) (b : Nat) (G : Nat → Int) (hL : ∀ k, k < 3 → lB (L k) ∧ lB (G k)) (sz : Nat) : xMz l y_K_isLess (Cond.code y_K_isLess b_K_isLess 3 (some .boolean) :: tW) rm_c_less [.ref a, .ref b] D vwC [(cJ, .long)] sz [(a, LA cJ 4 L), (b, LA cJ 4 G)] (fun (rv : Int32) (_ : Unit) => ((rv = nI 1 ∧ (lexB L G)) ∨ (rv = nI 0 ∧ ¬ (lexB L G)))) (fun (_ : Unit) => [(a, LA cJ 4 L), (b, LA cJ 4 G)]) 0 0 := by
  refine xoz (cc := b_K_isLess) (maxL := 3) (by decide) rfl (Nat.le_of_ble_eq_true rfl) (fun r u h => by rcases h with h | h; exact Or.inr h.1; exact Or.inl h.1) ?_
  intro p e s m args below meth c Q A hx hb hml hts hown hN hA hS hP hK hD hret ls hl
  have hl : lv_has ls 3 [(0, .ref a), (1, .ref b)] := hl
  obtain ⟨H, hH⟩ : ∃ z, z = s.heap := ⟨_, rfl⟩
  obtain ⟨locs, hlc⟩ : ∃ z : List Loc, z = [] := ⟨_, rfl⟩
  rw [← hH] at hP
  have hS : va_S A s.heap H locs := by rw [hH, hlc]; exact hS
  have key : W p l e rm_c_less s m args below meth c H locs 0 0 Q (F0 m 0 ls []) := by
    refine lv_iconst (v := nI 0) hx hb d_K_isLess_0 (by decide) ?_
    refine lv_istore_n (lv' := [(2, .int (nI 0)), (0, .ref a), (1, .ref b)]) hx hb d_K_isLess_1 rfl hl (by decide) rfl (fun ls hl => ?_)
    refine lv_iload_n hx hb d_K_isLess_2 rfl (lv_at hl 0 rfl) ?_
    refine lv_iconst (v := nI 3) hx hb d_K_isLess_3 (by decide) ?_
    refine xn_ge (tgt := 39) hx hb (by omega) (by omega) d_K_isLess_4 (by decide) (fun c4_0 => absurd c4_0 (by decide)) (fun c4_0 => ?_)
    refine lv_aload_n hx hb d_K_isLess_7 rfl (lv_at hl 1 rfl) ?_
    refine lv_iload_n hx hb d_K_isLess_8 rfl (lv_at hl 0 rfl) ?_
    refine xl_ald hx hb hK hP 0 0 rfl rfl (k := 0) (by omega) (by first | decide | omega) d_K_isLess_9 ?_
    refine lv_aload_n hx hb d_K_isLess_10 rfl (lv_at hl 2 rfl) ?_
    refine lv_iload_n hx hb d_K_isLess_11 rfl (lv_at hl 0 rfl) ?_
    refine xl_ald hx hb hK hP 1 0 rfl rfl (k := 0) (by omega) (by first | decide | omega) d_K_isLess_12 ?_
    refine xl_eq (tgt := 33) hx hb (by first | exact (hL _ (by omega)).1 | exact (hL _ (by omega)).2) (by first | exact (hL _ (by omega)).1 | exact (hL _ (by omega)).2) d_K_isLess_13 d_K_isLess_14 (by decide) (fun c14_1 => ?_) (fun c14_1 => ?_)
    · skip
      refine lv_iinc (v := nI (1)) (lv' := [(2, .int (nI 1)), (0, .ref a), (1, .ref b)]) hx hb d_K_isLess_33 hl (k := 0) rfl (nI_add _ _) (by decide) rfl (fun ls hl => ?_)
      refine lv_goto (tgt := 2) hx hb d_K_isLess_36 (by decide) ?_
      refine lv_iload_n hx hb d_K_isLess_2 rfl (lv_at hl 0 rfl) ?_
      refine lv_iconst (v := nI 3) hx hb d_K_isLess_3 (by decide) ?_
      refine xn_ge (tgt := 39) hx hb (by omega) (by omega) d_K_isLess_4 (by decide) (fun c4_2 => absurd c4_2 (by decide)) (fun c4_2 => ?_)
      refine lv_aload_n hx hb d_K_isLess_7 rfl (lv_at hl 1 rfl) ?_
      refine lv_iload_n hx hb d_K_isLess_8 rfl (lv_at hl 0 rfl) ?_
      refine xl_ald hx hb hK hP 0 0 rfl rfl (k := 1) (by omega) (by first | decide | omega) d_K_isLess_9 ?_
      refine lv_aload_n hx hb d_K_isLess_10 rfl (lv_at hl 2 rfl) ?_
      refine lv_iload_n hx hb d_K_isLess_11 rfl (lv_at hl 0 rfl) ?_
      refine xl_ald hx hb hK hP 1 0 rfl rfl (k := 1) (by omega) (by first | decide | omega) d_K_isLess_12 ?_
      refine xl_eq (tgt := 33) hx hb (by first | exact (hL _ (by omega)).1 | exact (hL _ (by omega)).2) (by first | exact (hL _ (by omega)).1 | exact (hL _ (by omega)).2) d_K_isLess_13 d_K_isLess_14 (by decide) (fun c14_3 => ?_) (fun c14_3 => ?_)
      · skip
        refine lv_iinc (v := nI (2)) (lv' := [(2, .int (nI 2)), (0, .ref a), (1, .ref b)]) hx hb d_K_isLess_33 hl (k := 0) rfl (nI_add _ _) (by decide) rfl (fun ls hl => ?_)
        refine lv_goto (tgt := 2) hx hb d_K_isLess_36 (by decide) ?_
        refine lv_iload_n hx hb d_K_isLess_2 rfl (lv_at hl 0 rfl) ?_
        refine lv_iconst (v := nI 3) hx hb d_K_isLess_3 (by decide) ?_
        refine xn_ge (tgt := 39) hx hb (by omega) (by omega) d_K_isLess_4 (by decide) (fun c4_4 => absurd c4_4 (by decide)) (fun c4_4 => ?_)
        refine lv_aload_n hx hb d_K_isLess_7 rfl (lv_at hl 1 rfl) ?_
        refine lv_iload_n hx hb d_K_isLess_8 rfl (lv_at hl 0 rfl) ?_
        refine xl_ald hx hb hK hP 0 0 rfl rfl (k := 2) (by omega) (by first | decide | omega) d_K_isLess_9 ?_
        refine lv_aload_n hx hb d_K_isLess_10 rfl (lv_at hl 2 rfl) ?_
        refine lv_iload_n hx hb d_K_isLess_11 rfl (lv_at hl 0 rfl) ?_
        refine xl_ald hx hb hK hP 1 0 rfl rfl (k := 2) (by omega) (by first | decide | omega) d_K_isLess_12 ?_
        refine xl_eq (tgt := 33) hx hb (by first | exact (hL _ (by omega)).1 | exact (hL _ (by omega)).2) (by first | exact (hL _ (by omega)).1 | exact (hL _ (by omega)).2) d_K_isLess_13 d_K_isLess_14 (by decide) (fun c14_5 => ?_) (fun c14_5 => ?_)
        · skip
          refine lv_iinc (v := nI (3)) (lv' := [(2, .int (nI 3)), (0, .ref a), (1, .ref b)]) hx hb d_K_isLess_33 hl (k := 0) rfl (nI_add _ _) (by decide) rfl (fun ls hl => ?_)
          refine lv_goto (tgt := 2) hx hb d_K_isLess_36 (by decide) ?_
          refine lv_iload_n hx hb d_K_isLess_2 rfl (lv_at hl 0 rfl) ?_
          refine lv_iconst (v := nI 3) hx hb d_K_isLess_3 (by decide) ?_
          refine xn_ge (tgt := 39) hx hb (by omega) (by omega) d_K_isLess_4 (by decide) (fun c4_6 => ?_) (fun c4_6 => absurd c4_6 (by decide))
          refine lv_iconst (v := nI 0) hx hb d_K_isLess_39 (by decide) ?_
          exact hret H locs _ ls (nI 0) () d_K_isLess_40 (Or.inr ⟨rfl, (by unfold lexB; omega)⟩) hP hD hS
        · skip
          refine lv_aload_n hx hb d_K_isLess_17 rfl (lv_at hl 1 rfl) ?_
          refine lv_iload_n hx hb d_K_isLess_18 rfl (lv_at hl 0 rfl) ?_
          refine xl_ald hx hb hK hP 0 0 rfl rfl (k := 2) (by omega) (by first | decide | omega) d_K_isLess_19 ?_
          refine lv_aload_n hx hb d_K_isLess_20 rfl (lv_at hl 2 rfl) ?_
          refine lv_iload_n hx hb d_K_isLess_21 rfl (lv_at hl 0 rfl) ?_
          refine xl_ald hx hb hK hP 1 0 rfl rfl (k := 2) (by omega) (by first | decide | omega) d_K_isLess_22 ?_
          refine xl_ge (tgt := 31) hx hb (by first | exact (hL _ (by omega)).1 | exact (hL _ (by omega)).2) (by first | exact (hL _ (by omega)).1 | exact (hL _ (by omega)).2) d_K_isLess_23 d_K_isLess_24 (by decide) (fun c24_7 => ?_) (fun c24_7 => ?_)
          · skip
            refine lv_iconst (v := nI 0) hx hb d_K_isLess_31 (by decide) ?_
            exact hret H locs _ ls (nI 0) () d_K_isLess_32 (Or.inr ⟨rfl, (by unfold lexB; omega)⟩) hP hD hS
          · skip
            refine lv_iconst (v := nI 1) hx hb d_K_isLess_27 (by decide) ?_
            refine lv_goto (tgt := 32) hx hb d_K_isLess_28 (by decide) ?_
            exact hret H locs _ ls (nI 1) () d_K_isLess_32 (Or.inl ⟨rfl, (by unfold lexB; omega)⟩) hP hD hS
      · skip
        refine lv_aload_n hx hb d_K_isLess_17 rfl (lv_at hl 1 rfl) ?_
        refine lv_iload_n hx hb d_K_isLess_18 rfl (lv_at hl 0 rfl) ?_
        refine xl_ald hx hb hK hP 0 0 rfl rfl (k := 1) (by omega) (by first | decide | omega) d_K_isLess_19 ?_
        refine lv_aload_n hx hb d_K_isLess_20 rfl (lv_at hl 2 rfl) ?_
        refine lv_iload_n hx hb d_K_isLess_21 rfl (lv_at hl 0 rfl) ?_
        refine xl_ald hx hb hK hP 1 0 rfl rfl (k := 1) (by omega) (by first | decide | omega) d_K_isLess_22 ?_
        refine xl_ge (tgt := 31) hx hb (by first | exact (hL _ (by omega)).1 | exact (hL _ (by omega)).2) (by first | exact (hL _ (by omega)).1 | exact (hL _ (by omega)).2) d_K_isLess_23 d_K_isLess_24 (by decide) (fun c24_8 => ?_) (fun c24_8 => ?_)
        · skip
          refine lv_iconst (v := nI 0) hx hb d_K_isLess_31 (by decide) ?_
          exact hret H locs _ ls (nI 0) () d_K_isLess_32 (Or.inr ⟨rfl, (by unfold lexB; omega)⟩) hP hD hS
        · skip
          refine lv_iconst (v := nI 1) hx hb d_K_isLess_27 (by decide) ?_
          refine lv_goto (tgt := 32) hx hb d_K_isLess_28 (by decide) ?_
          exact hret H locs _ ls (nI 1) () d_K_isLess_32 (Or.inl ⟨rfl, (by unfold lexB; omega)⟩) hP hD hS
    · skip
      refine lv_aload_n hx hb d_K_isLess_17 rfl (lv_at hl 1 rfl) ?_
      refine lv_iload_n hx hb d_K_isLess_18 rfl (lv_at hl 0 rfl) ?_
      refine xl_ald hx hb hK hP 0 0 rfl rfl (k := 0) (by omega) (by first | decide | omega) d_K_isLess_19 ?_
      refine lv_aload_n hx hb d_K_isLess_20 rfl (lv_at hl 2 rfl) ?_
      refine lv_iload_n hx hb d_K_isLess_21 rfl (lv_at hl 0 rfl) ?_
      refine xl_ald hx hb hK hP 1 0 rfl rfl (k := 0) (by omega) (by first | decide | omega) d_K_isLess_22 ?_
      refine xl_ge (tgt := 31) hx hb (by first | exact (hL _ (by omega)).1 | exact (hL _ (by omega)).2) (by first | exact (hL _ (by omega)).1 | exact (hL _ (by omega)).2) d_K_isLess_23 d_K_isLess_24 (by decide) (fun c24_9 => ?_) (fun c24_9 => ?_)
      · skip
        refine lv_iconst (v := nI 0) hx hb d_K_isLess_31 (by decide) ?_
        exact hret H locs _ ls (nI 0) () d_K_isLess_32 (Or.inr ⟨rfl, (by unfold lexB; omega)⟩) hP hD hS
      · skip
        refine lv_iconst (v := nI 1) hx hb d_K_isLess_27 (by decide) ?_
        refine lv_goto (tgt := 32) hx hb d_K_isLess_28 (by decide) ?_
        exact hret H locs _ ls (nI 1) () d_K_isLess_32 (Or.inl ⟨rfl, (by unfold lexB; omega)⟩) hP hD hS
  rw [hH, hlc] at key; exact key

def rm_c_takeRow : Room := { frames := 1, cells := 0, slots := 0, locals := 29 }
set_option maxHeartbeats 4000000 in
set_option maxRecDepth 100000 in
/-- a row of the form -/
theorem c_takeRow (l : Launch) (D : va_G) (cJ : ClassId) (h : Nat) (d : Nat) (kb : Int32) (fo : Nat) (ke : Nat) (ht : Nat) (wo : Nat) (fi : Nat) (se : Nat) (Fm : Nat → Int) (A1 : Nat → Int) (i : Nat) (hd : d ≤ 3) (hi : i ≤ 3) (sz : Nat) : xMv l y_K_takeFormRow (Cond.code y_K_takeFormRow b_K_takeFormRow 2 none :: tW) rm_c_takeRow [.ref h, .int (nI i)] D vwC [(cJ, .long)] sz [(h, .inr (1, [.int (nI d), .int kb, .ref fo, .ref ke, .ref ht, .ref wo, .ref fi, .ref se])), (fo, LA cJ 16 Fm), (fi, LA cJ 4 A1)] (fun (uo : (Nat → Int)) => uo 0 = Fm (4 * i + 0) ∧ uo 1 = Fm (4 * i + 1) ∧ uo 2 = Fm (4 * i + 2) ∧ uo 3 = (if d = 3 then 0 else 0)) (fun (uo : (Nat → Int)) => [(h, .inr (1, [.int (nI d), .int kb, .ref fo, .ref ke, .ref ht, .ref wo, .ref fi, .ref se])), (fo, LA cJ 16 Fm), (fi, LA cJ 4 uo)]) 0 0 := by
  refine xov (cc := b_K_takeFormRow) (maxL := 2) (by decide) rfl (Nat.le_of_ble_eq_true rfl) ?_
  intro p e s m args below meth c Q A hx hb hml hts hown hN hA hS hP hK hD hret ls hl
  have hl : lv_has ls 2 [(0, .ref h), (1, .int (nI i))] := hl
  obtain ⟨H, hH⟩ : ∃ z, z = s.heap := ⟨_, rfl⟩
  obtain ⟨locs, hlc⟩ : ∃ z : List Loc, z = [] := ⟨_, rfl⟩
  rw [← hH] at hP
  have hS : va_S A s.heap H locs := by rw [hH, hlc]; exact hS
  have key : W p l e rm_c_takeRow s m args below meth c H locs 0 0 Q (F0 m 0 ls []) := by
    refine lv_aload_n hx hb d_K_takeFormRow_0 rfl (lv_at hl 0 rfl) ?_
    refine lv_aload_n hx hb d_K_takeFormRow_1 rfl (lv_at hl 0 rfl) ?_
    refine va_get (D := D) (ci := 1) (v := .ref fi) (C := R_K) (T := F_K) (N := 8) hx hb hts iw_K hown hK hP 0 rfl rfl 6 (by decide) (hts _ tw_48) (fun _ h9 => h9) rfl d_K_takeFormRow_2 ?_
    refine lv_aload_n hx hb d_K_takeFormRow_5 rfl (lv_at hl 0 rfl) ?_
    refine va_get (D := D) (ci := 1) (v := .ref fo) (C := R_K) (T := F_K) (N := 8) hx hb hts iw_K hown hK hP 0 rfl rfl 2 (by decide) (hts _ tw_44) (fun _ h9 => h9) rfl d_K_takeFormRow_6 ?_
    refine lv_iload_n hx hb d_K_takeFormRow_9 rfl (lv_at hl 1 rfl) ?_
    refine lv_iconst (v := nI 0) hx hb d_K_takeFormRow_10 (by decide) ?_
    refine xci (wc := []) (wr := [(h, .inr (1, [.int (nI d), .int kb, .ref fo, .ref ke, .ref ht, .ref wo, .ref fi, .ref se])), (fo, LA cJ 16 Fm), (fi, LA cJ 4 A1)]) hP hD hS hA [] [0, 1, 2] rfl rfl (by decide) (by decide) (va_runS (As := [.int (nI i), .int (nI 0)]) (rest := [.ref fo, .ref fi, .ref h]) ⟨hx, hb, hml, hown, hts⟩ (c_place l D cJ i 0 H.size) (cwS 2 hts (gS tw_86 tw_87 tw_1 tw_88) rfl rfl rfl ⟨rfl, hd_K_place⟩ ⟨Nat.le_of_ble_eq_true rfl, Nat.le_of_ble_eq_true rfl⟩) (xPreS hN hK (hP.sub (ws' := []) [] rfl) (hD.sub (ws' := []) [] (by decide) rfl)) rfl rfl hl.1 rfl (lv_room (Nat.le_of_ble_eq_true rfl)) d_K_takeFormRow_11 ⟨Nat.le_of_ble_eq_true rfl, Nat.le_of_ble_eq_true rfl⟩) (fun r_1 u_2 H locs hw_3 hP hD hS => ?_)
    try dsimp only at hw_3
    have hP : va_P D vwC [(h, .inr (1, [.int (nI d), .int kb, .ref fo, .ref ke, .ref ht, .ref wo, .ref fi, .ref se])), (fo, LA cJ 16 Fm), (fi, LA cJ 4 A1)] H := hP
    have hD : va_D A [(h, .inr (1, [.int (nI d), .int kb, .ref fo, .ref ke, .ref ht, .ref wo, .ref fi, .ref se])), (fo, LA cJ 16 Fm), (fi, LA cJ 4 A1)] := hD
    subst hw_3
    refine xl_ald hx hb hK hP 1 0 rfl rfl (k := 4 * i + 0) (by omega) (by first | decide | omega) d_K_takeFormRow_14 ?_
    refine lv_aload_n hx hb d_K_takeFormRow_15 rfl (lv_at hl 0 rfl) ?_
    refine va_get (D := D) (ci := 1) (v := .ref fo) (C := R_K) (T := F_K) (N := 8) hx hb hts iw_K hown hK hP 0 rfl rfl 2 (by decide) (hts _ tw_44) (fun _ h9 => h9) rfl d_K_takeFormRow_16 ?_
    refine lv_iload_n hx hb d_K_takeFormRow_19 rfl (lv_at hl 1 rfl) ?_
    refine lv_iconst (v := nI 1) hx hb d_K_takeFormRow_20 (by decide) ?_
    refine xci (wc := []) (wr := [(h, .inr (1, [.int (nI d), .int kb, .ref fo, .ref ke, .ref ht, .ref wo, .ref fi, .ref se])), (fo, LA cJ 16 Fm), (fi, LA cJ 4 A1)]) hP hD hS hA [] [0, 1, 2] rfl rfl (by decide) (by decide) (va_runS (As := [.int (nI i), .int (nI 1)]) (rest := [.ref fo, .long (lI (Fm (4 * i + 0))), .ref fi, .ref h]) ⟨hx, hb, hml, hown, hts⟩ (c_place l D cJ i 1 H.size) (cwS 2 hts (gS tw_86 tw_87 tw_1 tw_88) rfl rfl rfl ⟨rfl, hd_K_place⟩ ⟨Nat.le_of_ble_eq_true rfl, Nat.le_of_ble_eq_true rfl⟩) (xPreS hN hK (hP.sub (ws' := []) [] rfl) (hD.sub (ws' := []) [] (by decide) rfl)) rfl rfl hl.1 rfl (lv_room (Nat.le_of_ble_eq_true rfl)) d_K_takeFormRow_21 ⟨Nat.le_of_ble_eq_true rfl, Nat.le_of_ble_eq_true rfl⟩) (fun r_4 u_5 H locs hw_6 hP hD hS => ?_)
    try dsimp only at hw_6
    have hP : va_P D vwC [(h, .inr (1, [.int (nI d), .int kb, .ref fo, .ref ke, .ref ht, .ref wo, .ref fi, .ref se])), (fo, LA cJ 16 Fm), (fi, LA cJ 4 A1)] H := hP
    have hD : va_D A [(h, .inr (1, [.int (nI d), .int kb, .ref fo, .ref ke, .ref ht, .ref wo, .ref fi, .ref se])), (fo, LA cJ 16 Fm), (fi, LA cJ 4 A1)] := hD
    subst hw_6
    refine xl_ald hx hb hK hP 1 0 rfl rfl (k := 4 * i + 1) (by omega) (by first | decide | omega) d_K_takeFormRow_24 ?_
    refine lv_aload_n hx hb d_K_takeFormRow_25 rfl (lv_at hl 0 rfl) ?_
    refine va_get (D := D) (ci := 1) (v := .ref fo) (C := R_K) (T := F_K) (N := 8) hx hb hts iw_K hown hK hP 0 rfl rfl 2 (by decide) (hts _ tw_44) (fun _ h9 => h9) rfl d_K_takeFormRow_26 ?_
    refine lv_iload_n hx hb d_K_takeFormRow_29 rfl (lv_at hl 1 rfl) ?_
    refine lv_iconst (v := nI 2) hx hb d_K_takeFormRow_30 (by decide) ?_
    refine xci (wc := []) (wr := [(h, .inr (1, [.int (nI d), .int kb, .ref fo, .ref ke, .ref ht, .ref wo, .ref fi, .ref se])), (fo, LA cJ 16 Fm), (fi, LA cJ 4 A1)]) hP hD hS hA [] [0, 1, 2] rfl rfl (by decide) (by decide) (va_runS (As := [.int (nI i), .int (nI 2)]) (rest := [.ref fo, .long (lI (Fm (4 * i + 1))), .long (lI (Fm (4 * i + 0))), .ref fi, .ref h]) ⟨hx, hb, hml, hown, hts⟩ (c_place l D cJ i 2 H.size) (cwS 2 hts (gS tw_86 tw_87 tw_1 tw_88) rfl rfl rfl ⟨rfl, hd_K_place⟩ ⟨Nat.le_of_ble_eq_true rfl, Nat.le_of_ble_eq_true rfl⟩) (xPreS hN hK (hP.sub (ws' := []) [] rfl) (hD.sub (ws' := []) [] (by decide) rfl)) rfl rfl hl.1 rfl (lv_room (Nat.le_of_ble_eq_true rfl)) d_K_takeFormRow_31 ⟨Nat.le_of_ble_eq_true rfl, Nat.le_of_ble_eq_true rfl⟩) (fun r_7 u_8 H locs hw_9 hP hD hS => ?_)
    try dsimp only at hw_9
    have hP : va_P D vwC [(h, .inr (1, [.int (nI d), .int kb, .ref fo, .ref ke, .ref ht, .ref wo, .ref fi, .ref se])), (fo, LA cJ 16 Fm), (fi, LA cJ 4 A1)] H := hP
    have hD : va_D A [(h, .inr (1, [.int (nI d), .int kb, .ref fo, .ref ke, .ref ht, .ref wo, .ref fi, .ref se])), (fo, LA cJ 16 Fm), (fi, LA cJ 4 A1)] := hD
    subst hw_9
    refine xl_ald hx hb hK hP 1 0 rfl rfl (k := 4 * i + 2) (by omega) (by first | decide | omega) d_K_takeFormRow_34 ?_
    refine lv_lconst (v := lI 0) hx hb d_K_takeFormRow_35 (by decide) ?_
    refine xcv (wc := [(h, .inr (1, [.int (nI d), .int kb, .ref fo, .ref ke, .ref ht, .ref wo, .ref fi, .ref se])), (fi, LA cJ 4 A1)]) (wr := [(fo, LA cJ 16 Fm)]) hP hD hS hA [0, 2] [1] rfl rfl (by decide) (by decide) (va_runV (As := [.ref fi, .long (lI (Fm (4 * i + 0))), .long (lI (Fm (4 * i + 1))), .long (lI (Fm (4 * i + 2))), .long (lI 0)]) (rest := []) ⟨hx, hb, hml, hown, hts⟩ (c_setRow l D cJ h d kb fo ke ht wo fi se fi A1 (Fm (4 * i + 0)) (Fm (4 * i + 1)) (Fm (4 * i + 2)) 0 (by first | assumption | omega) H.size) (cwV 5 hts (gV tw_215 tw_217 tws_6 tw_1 tw_218) rfl rfl rfl ⟨rfl, hd_K_setRow⟩ ⟨Nat.le_of_ble_eq_true rfl, Nat.le_of_ble_eq_true rfl⟩) (xPreV (C := R_K) (T := F_K) (N := 8) (q0 := 0) hN hK (hP.sub (ws' := [(h, .inr (1, [.int (nI d), .int kb, .ref fo, .ref ke, .ref ht, .ref wo, .ref fi, .ref se])), (fi, LA cJ 4 A1)]) [0, 2] rfl) (hD.sub (ws' := [(h, .inr (1, [.int (nI d), .int kb, .ref fo, .ref ke, .ref ht, .ref wo, .ref fi, .ref se])), (fi, LA cJ 4 A1)]) [0, 2] (by decide) rfl) rfl rfl) rfl rfl hl.1 rfl (lv_room (Nat.le_of_ble_eq_true rfl)) d_K_takeFormRow_36 ⟨Nat.le_of_ble_eq_true rfl, Nat.le_of_ble_eq_true rfl⟩) (fun u_11 H locs hrow hP hD hS => ?_)
    obtain ⟨G2_12, rfl⟩ : ∃ z, z = u_11 := ⟨_, rfl⟩
    try dsimp only at hrow
    have hP : va_P D vwC [(h, .inr (1, [.int (nI d), .int kb, .ref fo, .ref ke, .ref ht, .ref wo, .ref fi, .ref se])), (fo, LA cJ 16 Fm), (fi, LA cJ 4 G2_12)] H := hP.sub [1, 0, 2] rfl
    have hD : va_D A [(h, .inr (1, [.int (nI d), .int kb, .ref fo, .ref ke, .ref ht, .ref wo, .ref fi, .ref se])), (fo, LA cJ 16 Fm), (fi, LA cJ 4 G2_12)] := hD.sub [1, 0, 2] (by decide) rfl
    exact hret H locs _ ls G2_12 d_K_takeFormRow_39 hrow hP hD hS
  rw [hH, hlc] at key; exact key
