/-! contracts of ConicKinds: takeLines, line (wip/spec_class6.py, specs6) -/
theorem lnOK_7 {Fm B1 B2 : Nat → Int} {ln : Nat} (h : lnOne (row7 Fm) ln B1) : lnOK Fm 7 ln B1 B2 := ⟨fun _ => h, fun q => absurd q (by decide), fun q => absurd q (by decide), fun q => absurd q (by decide)⟩
theorem lnOK_9 {Fm B1 B2 : Nat → Int} {ln : Nat} (h : lnOne (row9 Fm) ln B1) : lnOK Fm 9 ln B1 B2 := ⟨fun q => absurd q (by decide), fun _ => h, fun q => absurd q (by decide), fun q => absurd q (by decide)⟩
theorem lnOK_2 {Fm B1 B2 : Nat → Int} {kd ln : Nat} (hk : kd = 5 ∨ kd = 6) (h : lnTwo Fm ln B1 B2) : lnOK Fm kd ln B1 B2 := ⟨fun q => absurd q (by omega), fun q => absurd q (by omega), fun _ => h, fun q => absurd q (by omega)⟩
theorem lnOK_0 {Fm B1 B2 : Nat → Int} {kd : Nat} (hk : ¬ (kd = 5 ∨ kd = 6 ∨ kd = 7 ∨ kd = 9)) : lnOK Fm kd 0 B1 B2 := ⟨fun q => absurd q (by omega), fun q => absurd q (by omega), fun q => absurd q (by omega), fun _ => rfl⟩
theorem lnOne_t {G B B2 : Nat → Int} (hg : ∀ k, k < 3 → B k = G k) (hc : gcdN B 3 ≠ 0) (hB : gcdN B 3 ≠ 0 → ∀ k, k < 3 → B2 k = (B k).tdiv (dvN B 3)) : lnOne G 1 B2 := by
  refine ⟨fun q => absurd q (by rw [← gcdN_congr hg]; exact hc), fun q => ⟨rfl, fun k hk => ?_⟩⟩
  unfold woN
  rw [if_neg q, hB hc k hk, hg k hk, dvN_congr hg]
theorem lnOne_f {G B B2 : Nat → Int} (hg : ∀ k, k < 3 → B k = G k) (hc : ¬ gcdN B 3 ≠ 0) : lnOne G 0 B2 := ⟨fun _ => rfl, fun q => absurd q (by rw [← gcdN_congr hg]; exact hc)⟩
theorem row7_eq {Fm B : Nat → Int} {d : Nat} (h : B 0 = Fm (4 * 0 + 0) ∧ B 1 = 2 * Fm (4 * 0 + 1) ∧ B 2 = 2 * Fm (4 * 0 + 2) ∧ B 3 = (if d = 3 then 0 else 0)) : ∀ k, k < 3 → B k = row7 Fm k := by
  intro k hk
  match k, hk with
  | 0, _ => exact h.1
  | 1, _ => exact h.2.1
  | 2, _ => exact h.2.2.1
theorem row9_eq {Fm B : Nat → Int} {d i : Nat} (hi : i = if Fm 5 ≠ 0 then 1 else 2) (h : B 0 = Fm (4 * i + 0) ∧ B 1 = Fm (4 * i + 1) ∧ B 2 = Fm (4 * i + 2) ∧ B 3 = (if d = 3 then 0 else 0)) : ∀ k, k < 3 → B k = row9 Fm k := by
  intro k hk
  unfold row9
  rw [← hi]
  match k, hk with
  | 0, _ => exact h.1
  | 1, _ => exact h.2.1
  | 2, _ => exact h.2.2.1
theorem r7_B {Fm : Nat → Int} (hF : ∀ k, k < 16 → inB (Fm k) 20) : ∀ k, k < 3 → inB (row7 Fm k) 40 := by
  intro k hk
  have h0 := hF 0 (by decide)
  have h1 := hF 1 (by decide)
  have h2 := hF 2 (by decide)
  unfold inB at *
  match k, hk with
  | 0, _ => exact ⟨show -40 ≤ Fm 0 by omega, show Fm 0 ≤ 40 by omega⟩
  | 1, _ => exact ⟨show -40 ≤ 2 * Fm 1 by omega, show 2 * Fm 1 ≤ 40 by omega⟩
  | 2, _ => exact ⟨show -40 ≤ 2 * Fm 2 by omega, show 2 * Fm 2 ≤ 40 by omega⟩
theorem r9_B {Fm : Nat → Int} (hF : ∀ k, k < 16 → inB (Fm k) 20) : ∀ k, k < 3 → inB (row9 Fm k) 20 := by
  intro k hk
  unfold row9
  split <;> exact hF _ (by omega)
theorem tdiv_B {x y B : Int} (h : inB x B) : inB (x.tdiv y) B := by
  have e : (x.tdiv y).natAbs ≤ x.natAbs := by rw [Int.natAbs_tdiv]; exact Nat.div_le_self _ _
  unfold inB at *
  omega
theorem woN_lB {G : Nat → Int} {n k : Nat} (h : inB (G k) 50000) : lB (woN G n k) := by
  unfold woN
  split
  · exact ⟨by decide, by decide⟩
  · exact lB_of (tdiv_B h) (by decide)
theorem rl_lB {W B1 B2 : Nat → Int} (hW : ∀ a b, a < 3 → b < 3 → inB (W (4 * a + b)) 50000) (h : ∃ i j, i < 3 ∧ j < 3 ∧ W (4 * i + j) ≠ 0 ∧ ∀ k, k < 3 → B1 k = woN (fun q => W (4 * i + q)) 3 k ∧ B2 k = woN (fun q => W (4 * q + j)) 3 k) : ∀ k, k < 3 → lB (B1 k) ∧ lB (B2 k) := by
  obtain ⟨i, j, hi, hj, -, h⟩ := h
  intro k hk
  rw [(h k hk).1, (h k hk).2]
  exact ⟨woN_lB (hW i k hi hk), woN_lB (hW k j hk hj)⟩
theorem rlOK_congr {W V B1 B2 : Nat → Int} {ln : Nat} (h : ∀ a b, a < 3 → b < 3 → W (4 * a + b) = V (4 * a + b)) (hr : rlOK W ln B1 B2) : rlOK V ln B1 B2 := by
  have e : (∀ a b, a < 3 → b < 3 → W (4 * a + b) = 0) ↔ ∀ a b, a < 3 → b < 3 → V (4 * a + b) = 0 := ⟨fun q a b ha hb => by rw [← h a b ha hb]; exact q a b ha hb, fun q a b ha hb => by rw [h a b ha hb]; exact q a b ha hb⟩
  refine ⟨fun q => hr.1 (e.mpr q), fun q => ?_⟩
  obtain ⟨h1, i, j, hi, hj, hne, h2⟩ := hr.2 (fun z => q (e.mp z))
  refine ⟨h1, i, j, hi, hj, by rw [← h i j hi hj]; exact hne, fun k hk => ?_⟩
  rw [(h2 k hk).1, (h2 k hk).2]
  exact ⟨woN_congr hk (fun q hq => h i q hi hq), woN_congr hk (fun q hq => h q j hq hj)⟩

def rm_c_takeLines : Room := { frames := 5, cells := 0, slots := 0, locals := 163 }
set_option maxHeartbeats 4000000 in
set_option maxRecDepth 100000 in
/-- the lines of a kind -/
theorem c_takeLines (l : Launch) (D : va_G) (cJ : ClassId) (h : Nat) (d : Nat) (kb : Int32) (fo : Nat) (ke : Nat) (ht : Nat) (wo : Nat) (fi : Nat) (se : Nat) (Fm : Nat → Int) (Wk : Nat → Int) (A1 : Nat → Int) (A2 : Nat → Int) (hc : Nat) (hf : Nat) (hp : Nat) (ho : Nat) (r0 : Int32) (C : Nat → Int) (F : Nat → Int) (P : Nat → Int) (O : Nat → Int) (kd : Nat) (hd : d ≤ 3) (hkd : kd ≤ 30) (hF : ∀ k, k < 16 → inB (Fm k) 20) (sz : Nat) : xMi l y_K_takeLines (Cond.code y_K_takeLines b_K_takeLines 2 (some .int) :: tW) rm_c_takeLines [.ref h, .int (nI kd)] D vwC [(cJ, .long)] sz [(h, .inr (1, [.int (nI d), .int kb, .ref fo, .ref ke, .ref ht, .ref wo, .ref fi, .ref se])), (fo, LA cJ 16 Fm), (wo, LA cJ 16 Wk), (fi, LA cJ 4 A1), (se, LA cJ 4 A2), (ht, .inr (0, [.int r0, .ref hc, .ref hf, .ref hp, .ref ho])), (hc, LA cJ 16 C), (hf, LA cJ 16 F), (hp, LA cJ 16 P), (ho, LA cJ 5 O)] (fun (rv : Int32) (uo : Nat × (Nat → Int) × (Nat → Int) × (Nat → Int) × Int32 × (Nat → Int) × (Nat → Int) × (Nat → Int) × (Nat → Int)) => rv = nI uo.1 ∧ (uo.1 ≤ 2 ∧ lnOK Fm kd uo.1 uo.2.1 uo.2.2.1 ∧ (uo.1 = 2 → ∀ k, k < 3 → lB (uo.2.1 k) ∧ lB (uo.2.2.1 k)))) (fun (uo : Nat × (Nat → Int) × (Nat → Int) × (Nat → Int) × Int32 × (Nat → Int) × (Nat → Int) × (Nat → Int) × (Nat → Int)) => [(h, .inr (1, [.int (nI d), .int kb, .ref fo, .ref ke, .ref ht, .ref wo, .ref fi, .ref se])), (fo, LA cJ 16 Fm), (wo, LA cJ 16 uo.2.2.2.1), (fi, LA cJ 4 uo.2.1), (se, LA cJ 4 uo.2.2.1), (ht, .inr (0, [.int uo.2.2.2.2.1, .ref hc, .ref hf, .ref hp, .ref ho])), (hc, LA cJ 16 uo.2.2.2.2.2.1), (hf, LA cJ 16 uo.2.2.2.2.2.2.1), (hp, LA cJ 16 uo.2.2.2.2.2.2.2.1), (ho, LA cJ 5 uo.2.2.2.2.2.2.2.2)]) 0 0 := by
  refine xoi (cc := b_K_takeLines) (maxL := 2) (by decide) rfl (Nat.le_of_ble_eq_true rfl) ?_
  intro p e s m args below meth c Q A hx hb hml hts hown hN hA hS hP hK hD hret ls hl
  have hl : lv_has ls 2 [(0, .ref h), (1, .int (nI kd))] := hl
  obtain ⟨H, hH⟩ : ∃ z, z = s.heap := ⟨_, rfl⟩
  obtain ⟨locs, hlc⟩ : ∃ z : List Loc, z = [] := ⟨_, rfl⟩
  rw [← hH] at hP
  have hS : va_S A s.heap H locs := by rw [hH, hlc]; exact hS
  have key : W p l e rm_c_takeLines s m args below meth c H locs 0 0 Q (F0 m 0 ls []) := by
    refine lv_iload_n hx hb d_K_takeLines_0 rfl (lv_at hl 1 rfl) ?_
    by_cases h5 : kd = 5
    · subst h5
      refine lv_tableIn (tgt := 141) (off := 140) hx hb d_K_takeLines_1 (by decide +kernel) (by decide +kernel) (by decide +kernel) (by decide) ?_
      refine lv_aload_n hx hb d_K_takeLines_141 rfl (lv_at hl 0 rfl) ?_
      refine xci (wc := [(h, .inr (1, [.int (nI d), .int kb, .ref fo, .ref ke, .ref ht, .ref wo, .ref fi, .ref se])), (fo, LA cJ 16 Fm), (wo, LA cJ 16 Wk), (ht, .inr (0, [.int r0, .ref hc, .ref hf, .ref hp, .ref ho])), (hc, LA cJ 16 C), (hf, LA cJ 16 F), (hp, LA cJ 16 P), (ho, LA cJ 5 O)]) (wr := [(fi, LA cJ 4 A1), (se, LA cJ 4 A2)]) hP hD hS hA [0, 1, 2, 5, 6, 7, 8, 9] [3, 4] rfl rfl (by decide) (by decide) (va_runV (As := []) (rest := []) ⟨hx, hb, hml, hown, hts⟩ (c_join l D cJ h d kb fo ke ht wo fi se Fm Wk hc hf hp ho r0 C F P O (by first | assumption | omega) H.size) (cwV 0 hts (gV tw_276 tw_278 tws_13 tw_1 tw_279) rfl rfl rfl ⟨rfl, hd_K_joinLines⟩ ⟨Nat.le_of_ble_eq_true rfl, Nat.le_of_ble_eq_true rfl⟩) (xPreV (C := R_K) (T := F_K) (N := 8) (q0 := 0) hN hK (hP.sub (ws' := [(h, .inr (1, [.int (nI d), .int kb, .ref fo, .ref ke, .ref ht, .ref wo, .ref fi, .ref se])), (fo, LA cJ 16 Fm), (wo, LA cJ 16 Wk), (ht, .inr (0, [.int r0, .ref hc, .ref hf, .ref hp, .ref ho])), (hc, LA cJ 16 C), (hf, LA cJ 16 F), (hp, LA cJ 16 P), (ho, LA cJ 5 O)]) [0, 1, 2, 5, 6, 7, 8, 9] rfl) (hD.sub (ws' := [(h, .inr (1, [.int (nI d), .int kb, .ref fo, .ref ke, .ref ht, .ref wo, .ref fi, .ref se])), (fo, LA cJ 16 Fm), (wo, LA cJ 16 Wk), (ht, .inr (0, [.int r0, .ref hc, .ref hf, .ref hp, .ref ho])), (hc, LA cJ 16 C), (hf, LA cJ 16 F), (hp, LA cJ 16 P), (ho, LA cJ 5 O)]) [0, 1, 2, 5, 6, 7, 8, 9] (by decide) rfl) rfl rfl) rfl rfl hl.1 rfl (lv_room (Nat.le_of_ble_eq_true rfl)) d_K_takeLines_142 ⟨Nat.le_of_ble_eq_true rfl, Nat.le_of_ble_eq_true rfl⟩) (fun r_1 u_2 H locs hjl hP hD hS => ?_)
      obtain ⟨kk, rt, W6, r2_3, C2_4, F2_5, P2_6, O2_7⟩ := u_2
      try dsimp only at hjl
      have hP : va_P D vwC [(h, .inr (1, [.int (nI d), .int kb, .ref fo, .ref ke, .ref ht, .ref wo, .ref fi, .ref se])), (fo, LA cJ 16 Fm), (wo, LA cJ 16 W6), (fi, LA cJ 4 A1), (se, LA cJ 4 A2), (ht, .inr (0, [.int r2_3, .ref hc, .ref hf, .ref hp, .ref ho])), (hc, LA cJ 16 C2_4), (hf, LA cJ 16 F2_5), (hp, LA cJ 16 P2_6), (ho, LA cJ 5 O2_7)] H := hP.sub [2, 3, 4, 0, 1, 5, 6, 7, 8, 9] rfl
      have hD : va_D A [(h, .inr (1, [.int (nI d), .int kb, .ref fo, .ref ke, .ref ht, .ref wo, .ref fi, .ref se])), (fo, LA cJ 16 Fm), (wo, LA cJ 16 W6), (fi, LA cJ 4 A1), (se, LA cJ 4 A2), (ht, .inr (0, [.int r2_3, .ref hc, .ref hf, .ref hp, .ref ho])), (hc, LA cJ 16 C2_4), (hf, LA cJ 16 F2_5), (hp, LA cJ 16 P2_6), (ho, LA cJ 5 O2_7)] := hD.sub [2, 3, 4, 0, 1, 5, 6, 7, 8, 9] (by decide) rfl
      obtain ⟨hjl, hjlp⟩ := hjl
      rcases hjl with ⟨rfl, hjl⟩ | ⟨rfl, hjl⟩
      · skip
        refine xz_eq (tgt := 159) (X := (1 : Nat)) hx hb (nI_toInt (by omega)) d_K_takeLines_145 (by decide) (fun c145_7 => absurd c145_7 (by omega)) (fun c145_7 => ?_)
        have hW6 : ∀ a b, a < 3 → b < 3 → inB (W6 (4 * a + b)) 50000 := fun a b ha hb => by rw [hjlp.2 hjl a b ha hb]; exact crsT_B hF hjlp.1.1 (by rcases hjlp.1.2.2.2 with q | q <;> omega) a b ha hb
        refine lv_aload_n hx hb d_K_takeLines_148 rfl (lv_at hl 0 rfl) ?_
        refine xci (wc := [(h, .inr (1, [.int (nI d), .int kb, .ref fo, .ref ke, .ref ht, .ref wo, .ref fi, .ref se])), (wo, LA cJ 16 W6), (fi, LA cJ 4 A1), (se, LA cJ 4 A2)]) (wr := [(fo, LA cJ 16 Fm), (ht, .inr (0, [.int r2_3, .ref hc, .ref hf, .ref hp, .ref ho])), (hc, LA cJ 16 C2_4), (hf, LA cJ 16 F2_5), (hp, LA cJ 16 P2_6), (ho, LA cJ 5 O2_7)]) hP hD hS hA [0, 2, 3, 4] [1, 5, 6, 7, 8, 9] rfl rfl (by decide) (by decide) (va_runV (As := []) (rest := []) ⟨hx, hb, hml, hown, hts⟩ (c_read l D cJ h d kb fo ke ht wo fi se W6 A1 A2 hW6 H.size) (cwV 0 hts (gV tw_287 tw_289 tws_15 tw_1 tw_290) rfl rfl rfl ⟨rfl, hd_K_readLines⟩ ⟨Nat.le_of_ble_eq_true rfl, Nat.le_of_ble_eq_true rfl⟩) (xPreV (C := R_K) (T := F_K) (N := 8) (q0 := 0) hN hK (hP.sub (ws' := [(h, .inr (1, [.int (nI d), .int kb, .ref fo, .ref ke, .ref ht, .ref wo, .ref fi, .ref se])), (wo, LA cJ 16 W6), (fi, LA cJ 4 A1), (se, LA cJ 4 A2)]) [0, 2, 3, 4] rfl) (hD.sub (ws' := [(h, .inr (1, [.int (nI d), .int kb, .ref fo, .ref ke, .ref ht, .ref wo, .ref fi, .ref se])), (wo, LA cJ 16 W6), (fi, LA cJ 4 A1), (se, LA cJ 4 A2)]) [0, 2, 3, 4] (by decide) rfl) rfl rfl) rfl rfl hl.1 rfl (lv_room (Nat.le_of_ble_eq_true rfl)) d_K_takeLines_149 ⟨Nat.le_of_ble_eq_true rfl, Nat.le_of_ble_eq_true rfl⟩) (fun r_9 u_10 H locs hrl hP hD hS => ?_)
        obtain ⟨B6, E6⟩ := u_10
        try dsimp only at hrl
        have hP : va_P D vwC [(h, .inr (1, [.int (nI d), .int kb, .ref fo, .ref ke, .ref ht, .ref wo, .ref fi, .ref se])), (fo, LA cJ 16 Fm), (wo, LA cJ 16 W6), (fi, LA cJ 4 B6), (se, LA cJ 4 E6), (ht, .inr (0, [.int r2_3, .ref hc, .ref hf, .ref hp, .ref ho])), (hc, LA cJ 16 C2_4), (hf, LA cJ 16 F2_5), (hp, LA cJ 16 P2_6), (ho, LA cJ 5 O2_7)] H := hP.sub [6, 0, 7, 8, 9, 1, 2, 3, 4, 5] rfl
        have hD : va_D A [(h, .inr (1, [.int (nI d), .int kb, .ref fo, .ref ke, .ref ht, .ref wo, .ref fi, .ref se])), (fo, LA cJ 16 Fm), (wo, LA cJ 16 W6), (fi, LA cJ 4 B6), (se, LA cJ 4 E6), (ht, .inr (0, [.int r2_3, .ref hc, .ref hf, .ref hp, .ref ho])), (hc, LA cJ 16 C2_4), (hf, LA cJ 16 F2_5), (hp, LA cJ 16 P2_6), (ho, LA cJ 5 O2_7)] := hD.sub [6, 0, 7, 8, 9, 1, 2, 3, 4, 5] (by decide) rfl
        obtain ⟨hrl, hrlp⟩ := hrl
        rcases hrl with ⟨rfl, hrl⟩ | ⟨rfl, hrl⟩
        · skip
          refine xz_eq (tgt := 159) (X := (1 : Nat)) hx hb (nI_toInt (by omega)) d_K_takeLines_152 (by decide) (fun c152_10 => absurd c152_10 (by omega)) (fun c152_10 => ?_)
          refine lv_iconst (v := nI 2) hx hb d_K_takeLines_155 (by decide) ?_
          refine lv_goto (tgt := 160) hx hb d_K_takeLines_156 (by decide) ?_
          exact hret H locs _ ls (nI 2) (2, B6, E6, W6, r2_3, C2_4, F2_5, P2_6, O2_7) d_K_takeLines_160 (by first | exact ⟨rfl, by decide, lnOK_2 (by decide) ⟨kk, rt, hjlp.1, fun q => absurd q hjl, fun _ => rlOK_congr (hjlp.2 hjl) ⟨fun q => absurd q hrl, fun _ => ⟨rfl, hrlp hrl⟩⟩⟩, fun _ => rl_lB hW6 (hrlp hrl)⟩ | (dsimp only; exact ⟨rfl, by decide, lnOK_2 (by decide) ⟨kk, rt, hjlp.1, fun q => absurd q hjl, fun _ => rlOK_congr (hjlp.2 hjl) ⟨fun q => absurd q hrl, fun _ => ⟨rfl, hrlp hrl⟩⟩⟩, fun _ => rl_lB hW6 (hrlp hrl)⟩)) hP hD hS
        · skip
          refine xz_eq (tgt := 159) (X := (0 : Nat)) hx hb (nI_toInt (by omega)) d_K_takeLines_152 (by decide) (fun c152_11 => ?_) (fun c152_11 => absurd c152_11 (by omega))
          refine lv_iconst (v := nI 0) hx hb d_K_takeLines_159 (by decide) ?_
          exact hret H locs _ ls (nI 0) (0, B6, E6, W6, r2_3, C2_4, F2_5, P2_6, O2_7) d_K_takeLines_160 (by first | exact ⟨rfl, by decide, lnOK_2 (by decide) ⟨kk, rt, hjlp.1, fun _ => rfl, fun _ => rlOK_congr (hjlp.2 hjl) ⟨fun _ => rfl, fun q => absurd q hrl⟩⟩, fun q => absurd q (by decide)⟩ | (dsimp only; exact ⟨rfl, by decide, lnOK_2 (by decide) ⟨kk, rt, hjlp.1, fun _ => rfl, fun _ => rlOK_congr (hjlp.2 hjl) ⟨fun _ => rfl, fun q => absurd q hrl⟩⟩, fun q => absurd q (by decide)⟩)) hP hD hS
      · skip
        refine xz_eq (tgt := 159) (X := (0 : Nat)) hx hb (nI_toInt (by omega)) d_K_takeLines_145 (by decide) (fun c145_12 => ?_) (fun c145_12 => absurd c145_12 (by omega))
        refine lv_iconst (v := nI 0) hx hb d_K_takeLines_159 (by decide) ?_
        exact hret H locs _ ls (nI 0) (0, A1, A2, W6, r2_3, C2_4, F2_5, P2_6, O2_7) d_K_takeLines_160 (by first | exact ⟨rfl, by decide, lnOK_2 (by decide) ⟨kk, rt, hjlp.1, fun _ => rfl, fun q => absurd q hjl⟩, fun q => absurd q (by decide)⟩ | (dsimp only; exact ⟨rfl, by decide, lnOK_2 (by decide) ⟨kk, rt, hjlp.1, fun _ => rfl, fun q => absurd q hjl⟩, fun q => absurd q (by decide)⟩)) hP hD hS
    by_cases h6 : kd = 6
    · subst h6
      refine lv_tableIn (tgt := 141) (off := 140) hx hb d_K_takeLines_1 (by decide +kernel) (by decide +kernel) (by decide +kernel) (by decide) ?_
      refine lv_aload_n hx hb d_K_takeLines_141 rfl (lv_at hl 0 rfl) ?_
      refine xci (wc := [(h, .inr (1, [.int (nI d), .int kb, .ref fo, .ref ke, .ref ht, .ref wo, .ref fi, .ref se])), (fo, LA cJ 16 Fm), (wo, LA cJ 16 Wk), (ht, .inr (0, [.int r0, .ref hc, .ref hf, .ref hp, .ref ho])), (hc, LA cJ 16 C), (hf, LA cJ 16 F), (hp, LA cJ 16 P), (ho, LA cJ 5 O)]) (wr := [(fi, LA cJ 4 A1), (se, LA cJ 4 A2)]) hP hD hS hA [0, 1, 2, 5, 6, 7, 8, 9] [3, 4] rfl rfl (by decide) (by decide) (va_runV (As := []) (rest := []) ⟨hx, hb, hml, hown, hts⟩ (c_join l D cJ h d kb fo ke ht wo fi se Fm Wk hc hf hp ho r0 C F P O (by first | assumption | omega) H.size) (cwV 0 hts (gV tw_276 tw_278 tws_13 tw_1 tw_279) rfl rfl rfl ⟨rfl, hd_K_joinLines⟩ ⟨Nat.le_of_ble_eq_true rfl, Nat.le_of_ble_eq_true rfl⟩) (xPreV (C := R_K) (T := F_K) (N := 8) (q0 := 0) hN hK (hP.sub (ws' := [(h, .inr (1, [.int (nI d), .int kb, .ref fo, .ref ke, .ref ht, .ref wo, .ref fi, .ref se])), (fo, LA cJ 16 Fm), (wo, LA cJ 16 Wk), (ht, .inr (0, [.int r0, .ref hc, .ref hf, .ref hp, .ref ho])), (hc, LA cJ 16 C), (hf, LA cJ 16 F), (hp, LA cJ 16 P), (ho, LA cJ 5 O)]) [0, 1, 2, 5, 6, 7, 8, 9] rfl) (hD.sub (ws' := [(h, .inr (1, [.int (nI d), .int kb, .ref fo, .ref ke, .ref ht, .ref wo, .ref fi, .ref se])), (fo, LA cJ 16 Fm), (wo, LA cJ 16 Wk), (ht, .inr (0, [.int r0, .ref hc, .ref hf, .ref hp, .ref ho])), (hc, LA cJ 16 C), (hf, LA cJ 16 F), (hp, LA cJ 16 P), (ho, LA cJ 5 O)]) [0, 1, 2, 5, 6, 7, 8, 9] (by decide) rfl) rfl rfl) rfl rfl hl.1 rfl (lv_room (Nat.le_of_ble_eq_true rfl)) d_K_takeLines_142 ⟨Nat.le_of_ble_eq_true rfl, Nat.le_of_ble_eq_true rfl⟩) (fun r_14 u_15 H locs hjl hP hD hS => ?_)
      obtain ⟨kk, rt, W6, r2_16, C2_17, F2_18, P2_19, O2_20⟩ := u_15
      try dsimp only at hjl
      have hP : va_P D vwC [(h, .inr (1, [.int (nI d), .int kb, .ref fo, .ref ke, .ref ht, .ref wo, .ref fi, .ref se])), (fo, LA cJ 16 Fm), (wo, LA cJ 16 W6), (fi, LA cJ 4 A1), (se, LA cJ 4 A2), (ht, .inr (0, [.int r2_16, .ref hc, .ref hf, .ref hp, .ref ho])), (hc, LA cJ 16 C2_17), (hf, LA cJ 16 F2_18), (hp, LA cJ 16 P2_19), (ho, LA cJ 5 O2_20)] H := hP.sub [2, 3, 4, 0, 1, 5, 6, 7, 8, 9] rfl
      have hD : va_D A [(h, .inr (1, [.int (nI d), .int kb, .ref fo, .ref ke, .ref ht, .ref wo, .ref fi, .ref se])), (fo, LA cJ 16 Fm), (wo, LA cJ 16 W6), (fi, LA cJ 4 A1), (se, LA cJ 4 A2), (ht, .inr (0, [.int r2_16, .ref hc, .ref hf, .ref hp, .ref ho])), (hc, LA cJ 16 C2_17), (hf, LA cJ 16 F2_18), (hp, LA cJ 16 P2_19), (ho, LA cJ 5 O2_20)] := hD.sub [2, 3, 4, 0, 1, 5, 6, 7, 8, 9] (by decide) rfl
      obtain ⟨hjl, hjlp⟩ := hjl
      rcases hjl with ⟨rfl, hjl⟩ | ⟨rfl, hjl⟩
      · skip
        refine xz_eq (tgt := 159) (X := (1 : Nat)) hx hb (nI_toInt (by omega)) d_K_takeLines_145 (by decide) (fun c145_20 => absurd c145_20 (by omega)) (fun c145_20 => ?_)
        have hW6 : ∀ a b, a < 3 → b < 3 → inB (W6 (4 * a + b)) 50000 := fun a b ha hb => by rw [hjlp.2 hjl a b ha hb]; exact crsT_B hF hjlp.1.1 (by rcases hjlp.1.2.2.2 with q | q <;> omega) a b ha hb
        refine lv_aload_n hx hb d_K_takeLines_148 rfl (lv_at hl 0 rfl) ?_
        refine xci (wc := [(h, .inr (1, [.int (nI d), .int kb, .ref fo, .ref ke, .ref ht, .ref wo, .ref fi, .ref se])), (wo, LA cJ 16 W6), (fi, LA cJ 4 A1), (se, LA cJ 4 A2)]) (wr := [(fo, LA cJ 16 Fm), (ht, .inr (0, [.int r2_16, .ref hc, .ref hf, .ref hp, .ref ho])), (hc, LA cJ 16 C2_17), (hf, LA cJ 16 F2_18), (hp, LA cJ 16 P2_19), (ho, LA cJ 5 O2_20)]) hP hD hS hA [0, 2, 3, 4] [1, 5, 6, 7, 8, 9] rfl rfl (by decide) (by decide) (va_runV (As := []) (rest := []) ⟨hx, hb, hml, hown, hts⟩ (c_read l D cJ h d kb fo ke ht wo fi se W6 A1 A2 hW6 H.size) (cwV 0 hts (gV tw_287 tw_289 tws_15 tw_1 tw_290) rfl rfl rfl ⟨rfl, hd_K_readLines⟩ ⟨Nat.le_of_ble_eq_true rfl, Nat.le_of_ble_eq_true rfl⟩) (xPreV (C := R_K) (T := F_K) (N := 8) (q0 := 0) hN hK (hP.sub (ws' := [(h, .inr (1, [.int (nI d), .int kb, .ref fo, .ref ke, .ref ht, .ref wo, .ref fi, .ref se])), (wo, LA cJ 16 W6), (fi, LA cJ 4 A1), (se, LA cJ 4 A2)]) [0, 2, 3, 4] rfl) (hD.sub (ws' := [(h, .inr (1, [.int (nI d), .int kb, .ref fo, .ref ke, .ref ht, .ref wo, .ref fi, .ref se])), (wo, LA cJ 16 W6), (fi, LA cJ 4 A1), (se, LA cJ 4 A2)]) [0, 2, 3, 4] (by decide) rfl) rfl rfl) rfl rfl hl.1 rfl (lv_room (Nat.le_of_ble_eq_true rfl)) d_K_takeLines_149 ⟨Nat.le_of_ble_eq_true rfl, Nat.le_of_ble_eq_true rfl⟩) (fun r_22 u_23 H locs hrl hP hD hS => ?_)
        obtain ⟨B6, E6⟩ := u_23
        try dsimp only at hrl
        have hP : va_P D vwC [(h, .inr (1, [.int (nI d), .int kb, .ref fo, .ref ke, .ref ht, .ref wo, .ref fi, .ref se])), (fo, LA cJ 16 Fm), (wo, LA cJ 16 W6), (fi, LA cJ 4 B6), (se, LA cJ 4 E6), (ht, .inr (0, [.int r2_16, .ref hc, .ref hf, .ref hp, .ref ho])), (hc, LA cJ 16 C2_17), (hf, LA cJ 16 F2_18), (hp, LA cJ 16 P2_19), (ho, LA cJ 5 O2_20)] H := hP.sub [6, 0, 7, 8, 9, 1, 2, 3, 4, 5] rfl
        have hD : va_D A [(h, .inr (1, [.int (nI d), .int kb, .ref fo, .ref ke, .ref ht, .ref wo, .ref fi, .ref se])), (fo, LA cJ 16 Fm), (wo, LA cJ 16 W6), (fi, LA cJ 4 B6), (se, LA cJ 4 E6), (ht, .inr (0, [.int r2_16, .ref hc, .ref hf, .ref hp, .ref ho])), (hc, LA cJ 16 C2_17), (hf, LA cJ 16 F2_18), (hp, LA cJ 16 P2_19), (ho, LA cJ 5 O2_20)] := hD.sub [6, 0, 7, 8, 9, 1, 2, 3, 4, 5] (by decide) rfl
        obtain ⟨hrl, hrlp⟩ := hrl
        rcases hrl with ⟨rfl, hrl⟩ | ⟨rfl, hrl⟩
        · skip
          refine xz_eq (tgt := 159) (X := (1 : Nat)) hx hb (nI_toInt (by omega)) d_K_takeLines_152 (by decide) (fun c152_23 => absurd c152_23 (by omega)) (fun c152_23 => ?_)
          refine lv_iconst (v := nI 2) hx hb d_K_takeLines_155 (by decide) ?_
          refine lv_goto (tgt := 160) hx hb d_K_takeLines_156 (by decide) ?_
          exact hret H locs _ ls (nI 2) (2, B6, E6, W6, r2_16, C2_17, F2_18, P2_19, O2_20) d_K_takeLines_160 (by first | exact ⟨rfl, by decide, lnOK_2 (by decide) ⟨kk, rt, hjlp.1, fun q => absurd q hjl, fun _ => rlOK_congr (hjlp.2 hjl) ⟨fun q => absurd q hrl, fun _ => ⟨rfl, hrlp hrl⟩⟩⟩, fun _ => rl_lB hW6 (hrlp hrl)⟩ | (dsimp only; exact ⟨rfl, by decide, lnOK_2 (by decide) ⟨kk, rt, hjlp.1, fun q => absurd q hjl, fun _ => rlOK_congr (hjlp.2 hjl) ⟨fun q => absurd q hrl, fun _ => ⟨rfl, hrlp hrl⟩⟩⟩, fun _ => rl_lB hW6 (hrlp hrl)⟩)) hP hD hS
        · skip
          refine xz_eq (tgt := 159) (X := (0 : Nat)) hx hb (nI_toInt (by omega)) d_K_takeLines_152 (by decide) (fun c152_24 => ?_) (fun c152_24 => absurd c152_24 (by omega))
          refine lv_iconst (v := nI 0) hx hb d_K_takeLines_159 (by decide) ?_
          exact hret H locs _ ls (nI 0) (0, B6, E6, W6, r2_16, C2_17, F2_18, P2_19, O2_20) d_K_takeLines_160 (by first | exact ⟨rfl, by decide, lnOK_2 (by decide) ⟨kk, rt, hjlp.1, fun _ => rfl, fun _ => rlOK_congr (hjlp.2 hjl) ⟨fun _ => rfl, fun q => absurd q hrl⟩⟩, fun q => absurd q (by decide)⟩ | (dsimp only; exact ⟨rfl, by decide, lnOK_2 (by decide) ⟨kk, rt, hjlp.1, fun _ => rfl, fun _ => rlOK_congr (hjlp.2 hjl) ⟨fun _ => rfl, fun q => absurd q hrl⟩⟩, fun q => absurd q (by decide)⟩)) hP hD hS
      · skip
        refine xz_eq (tgt := 159) (X := (0 : Nat)) hx hb (nI_toInt (by omega)) d_K_takeLines_145 (by decide) (fun c145_25 => ?_) (fun c145_25 => absurd c145_25 (by omega))
        refine lv_iconst (v := nI 0) hx hb d_K_takeLines_159 (by decide) ?_
        exact hret H locs _ ls (nI 0) (0, A1, A2, W6, r2_16, C2_17, F2_18, P2_19, O2_20) d_K_takeLines_160 (by first | exact ⟨rfl, by decide, lnOK_2 (by decide) ⟨kk, rt, hjlp.1, fun _ => rfl, fun q => absurd q hjl⟩, fun q => absurd q (by decide)⟩ | (dsimp only; exact ⟨rfl, by decide, lnOK_2 (by decide) ⟨kk, rt, hjlp.1, fun _ => rfl, fun q => absurd q hjl⟩, fun q => absurd q (by decide)⟩)) hP hD hS
    by_cases h7 : kd = 7
    · subst h7
      refine lv_tableIn (tgt := 36) (off := 35) hx hb d_K_takeLines_1 (by decide +kernel) (by decide +kernel) (by decide +kernel) (by decide) ?_
      refine lv_aload_n hx hb d_K_takeLines_36 rfl (lv_at hl 0 rfl) ?_
      refine lv_aload_n hx hb d_K_takeLines_37 rfl (lv_at hl 0 rfl) ?_
      refine va_get (D := D) (ci := 1) (v := .ref fi) (C := R_K) (T := F_K) (N := 8) hx hb hts iw_K hown hK hP 0 rfl rfl 6 (by decide) (hts _ tw_48) (fun _ h9 => h9) rfl d_K_takeLines_38 ?_
      refine lv_aload_n hx hb d_K_takeLines_41 rfl (lv_at hl 0 rfl) ?_
      refine va_get (D := D) (ci := 1) (v := .ref fo) (C := R_K) (T := F_K) (N := 8) hx hb hts iw_K hown hK hP 0 rfl rfl 2 (by decide) (hts _ tw_44) (fun _ h9 => h9) rfl d_K_takeLines_42 ?_
      refine lv_iconst (v := nI 0) hx hb d_K_takeLines_45 (by decide) ?_
      refine lv_iconst (v := nI 0) hx hb d_K_takeLines_46 (by decide) ?_
      refine xci (wc := []) (wr := [(h, .inr (1, [.int (nI d), .int kb, .ref fo, .ref ke, .ref ht, .ref wo, .ref fi, .ref se])), (fo, LA cJ 16 Fm), (wo, LA cJ 16 Wk), (fi, LA cJ 4 A1), (se, LA cJ 4 A2), (ht, .inr (0, [.int r0, .ref hc, .ref hf, .ref hp, .ref ho])), (hc, LA cJ 16 C), (hf, LA cJ 16 F), (hp, LA cJ 16 P), (ho, LA cJ 5 O)]) hP hD hS hA [] [0, 1, 2, 3, 4, 5, 6, 7, 8, 9] rfl rfl (by decide) (by decide) (va_runS (As := [.int (nI 0), .int (nI 0)]) (rest := [.ref fo, .ref fi, .ref h]) ⟨hx, hb, hml, hown, hts⟩ (c_place l D cJ 0 0 H.size) (cwS 2 hts (gS tw_86 tw_87 tw_1 tw_88) rfl rfl rfl ⟨rfl, hd_K_place⟩ ⟨Nat.le_of_ble_eq_true rfl, Nat.le_of_ble_eq_true rfl⟩) (xPreS hN hK (hP.sub (ws' := []) [] rfl) (hD.sub (ws' := []) [] (by decide) rfl)) rfl rfl hl.1 rfl (lv_room (Nat.le_of_ble_eq_true rfl)) d_K_takeLines_47 ⟨Nat.le_of_ble_eq_true rfl, Nat.le_of_ble_eq_true rfl⟩) (fun r_27 u_28 H locs hw_29 hP hD hS => ?_)
      try dsimp only at hw_29
      have hP : va_P D vwC [(h, .inr (1, [.int (nI d), .int kb, .ref fo, .ref ke, .ref ht, .ref wo, .ref fi, .ref se])), (fo, LA cJ 16 Fm), (wo, LA cJ 16 Wk), (fi, LA cJ 4 A1), (se, LA cJ 4 A2), (ht, .inr (0, [.int r0, .ref hc, .ref hf, .ref hp, .ref ho])), (hc, LA cJ 16 C), (hf, LA cJ 16 F), (hp, LA cJ 16 P), (ho, LA cJ 5 O)] H := hP
      have hD : va_D A [(h, .inr (1, [.int (nI d), .int kb, .ref fo, .ref ke, .ref ht, .ref wo, .ref fi, .ref se])), (fo, LA cJ 16 Fm), (wo, LA cJ 16 Wk), (fi, LA cJ 4 A1), (se, LA cJ 4 A2), (ht, .inr (0, [.int r0, .ref hc, .ref hf, .ref hp, .ref ho])), (hc, LA cJ 16 C), (hf, LA cJ 16 F), (hp, LA cJ 16 P), (ho, LA cJ 5 O)] := hD
      subst hw_29
      refine xl_ald hx hb hK hP 1 0 rfl rfl (k := 4 * 0 + 0) (by omega) (by first | decide | omega) d_K_takeLines_50 ?_
      refine lv_ldc2 (v := lI (2)) hx hb hown (hts _ tw_271) d_K_takeLines_51 ?_
      refine lv_aload_n hx hb d_K_takeLines_54 rfl (lv_at hl 0 rfl) ?_
      refine va_get (D := D) (ci := 1) (v := .ref fo) (C := R_K) (T := F_K) (N := 8) hx hb hts iw_K hown hK hP 0 rfl rfl 2 (by decide) (hts _ tw_44) (fun _ h9 => h9) rfl d_K_takeLines_55 ?_
      refine lv_iconst (v := nI 0) hx hb d_K_takeLines_58 (by decide) ?_
      refine lv_iconst (v := nI 1) hx hb d_K_takeLines_59 (by decide) ?_
      refine xci (wc := []) (wr := [(h, .inr (1, [.int (nI d), .int kb, .ref fo, .ref ke, .ref ht, .ref wo, .ref fi, .ref se])), (fo, LA cJ 16 Fm), (wo, LA cJ 16 Wk), (fi, LA cJ 4 A1), (se, LA cJ 4 A2), (ht, .inr (0, [.int r0, .ref hc, .ref hf, .ref hp, .ref ho])), (hc, LA cJ 16 C), (hf, LA cJ 16 F), (hp, LA cJ 16 P), (ho, LA cJ 5 O)]) hP hD hS hA [] [0, 1, 2, 3, 4, 5, 6, 7, 8, 9] rfl rfl (by decide) (by decide) (va_runS (As := [.int (nI 0), .int (nI 1)]) (rest := [.ref fo, .long (lI (2)), .long (lI (Fm (4 * 0 + 0))), .ref fi, .ref h]) ⟨hx, hb, hml, hown, hts⟩ (c_place l D cJ 0 1 H.size) (cwS 2 hts (gS tw_86 tw_87 tw_1 tw_88) rfl rfl rfl ⟨rfl, hd_K_place⟩ ⟨Nat.le_of_ble_eq_true rfl, Nat.le_of_ble_eq_true rfl⟩) (xPreS hN hK (hP.sub (ws' := []) [] rfl) (hD.sub (ws' := []) [] (by decide) rfl)) rfl rfl hl.1 rfl (lv_room (Nat.le_of_ble_eq_true rfl)) d_K_takeLines_60 ⟨Nat.le_of_ble_eq_true rfl, Nat.le_of_ble_eq_true rfl⟩) (fun r_30 u_31 H locs hw_32 hP hD hS => ?_)
      try dsimp only at hw_32
      have hP : va_P D vwC [(h, .inr (1, [.int (nI d), .int kb, .ref fo, .ref ke, .ref ht, .ref wo, .ref fi, .ref se])), (fo, LA cJ 16 Fm), (wo, LA cJ 16 Wk), (fi, LA cJ 4 A1), (se, LA cJ 4 A2), (ht, .inr (0, [.int r0, .ref hc, .ref hf, .ref hp, .ref ho])), (hc, LA cJ 16 C), (hf, LA cJ 16 F), (hp, LA cJ 16 P), (ho, LA cJ 5 O)] H := hP
      have hD : va_D A [(h, .inr (1, [.int (nI d), .int kb, .ref fo, .ref ke, .ref ht, .ref wo, .ref fi, .ref se])), (fo, LA cJ 16 Fm), (wo, LA cJ 16 Wk), (fi, LA cJ 4 A1), (se, LA cJ 4 A2), (ht, .inr (0, [.int r0, .ref hc, .ref hf, .ref hp, .ref ho])), (hc, LA cJ 16 C), (hf, LA cJ 16 F), (hp, LA cJ 16 P), (ho, LA cJ 5 O)] := hD
      subst hw_32
      refine xl_ald hx hb hK hP 1 0 rfl rfl (k := 4 * 0 + 1) (by omega) (by first | decide | omega) d_K_takeLines_63 ?_
      refine xl_mul hx hb d_K_takeLines_64 ?_
      refine lv_ldc2 (v := lI (2)) hx hb hown (hts _ tw_271) d_K_takeLines_65 ?_
      refine lv_aload_n hx hb d_K_takeLines_68 rfl (lv_at hl 0 rfl) ?_
      refine va_get (D := D) (ci := 1) (v := .ref fo) (C := R_K) (T := F_K) (N := 8) hx hb hts iw_K hown hK hP 0 rfl rfl 2 (by decide) (hts _ tw_44) (fun _ h9 => h9) rfl d_K_takeLines_69 ?_
      refine lv_iconst (v := nI 0) hx hb d_K_takeLines_72 (by decide) ?_
      refine lv_iconst (v := nI 2) hx hb d_K_takeLines_73 (by decide) ?_
      refine xci (wc := []) (wr := [(h, .inr (1, [.int (nI d), .int kb, .ref fo, .ref ke, .ref ht, .ref wo, .ref fi, .ref se])), (fo, LA cJ 16 Fm), (wo, LA cJ 16 Wk), (fi, LA cJ 4 A1), (se, LA cJ 4 A2), (ht, .inr (0, [.int r0, .ref hc, .ref hf, .ref hp, .ref ho])), (hc, LA cJ 16 C), (hf, LA cJ 16 F), (hp, LA cJ 16 P), (ho, LA cJ 5 O)]) hP hD hS hA [] [0, 1, 2, 3, 4, 5, 6, 7, 8, 9] rfl rfl (by decide) (by decide) (xrunS (As := [.int (nI 0), .int (nI 2)]) (rest := [.ref fo, .long (lI (2)), .long (lI ((2) * (Fm (4 * 0 + 1)))), .long (lI (Fm (4 * 0 + 0))), .ref fi, .ref h]) ⟨hx, hb, hml, hown, hts⟩ (c_place l D cJ 0 2 H.size) (cwS 2 hts (gS tw_86 tw_87 tw_1 tw_88) rfl rfl rfl ⟨rfl, hd_K_place⟩ ⟨Nat.le_of_ble_eq_true rfl, Nat.le_of_ble_eq_true rfl⟩) (Nat.le_of_ble_eq_true rfl) (xPreS hN hK (hP.sub (ws' := []) [] rfl) (hD.sub (ws' := []) [] (by decide) rfl)) rfl rfl hl.1 rfl (lv_room16 (Nat.le_of_ble_eq_true rfl)) d_K_takeLines_74 ⟨Nat.le_of_ble_eq_true rfl, Nat.le_of_ble_eq_true rfl⟩) (fun r_33 u_34 H locs hw_35 hP hD hS => ?_)
      try dsimp only at hw_35
      have hP : va_P D vwC [(h, .inr (1, [.int (nI d), .int kb, .ref fo, .ref ke, .ref ht, .ref wo, .ref fi, .ref se])), (fo, LA cJ 16 Fm), (wo, LA cJ 16 Wk), (fi, LA cJ 4 A1), (se, LA cJ 4 A2), (ht, .inr (0, [.int r0, .ref hc, .ref hf, .ref hp, .ref ho])), (hc, LA cJ 16 C), (hf, LA cJ 16 F), (hp, LA cJ 16 P), (ho, LA cJ 5 O)] H := hP
      have hD : va_D A [(h, .inr (1, [.int (nI d), .int kb, .ref fo, .ref ke, .ref ht, .ref wo, .ref fi, .ref se])), (fo, LA cJ 16 Fm), (wo, LA cJ 16 Wk), (fi, LA cJ 4 A1), (se, LA cJ 4 A2), (ht, .inr (0, [.int r0, .ref hc, .ref hf, .ref hp, .ref ho])), (hc, LA cJ 16 C), (hf, LA cJ 16 F), (hp, LA cJ 16 P), (ho, LA cJ 5 O)] := hD
      subst hw_35
      refine xl_ald hx hb hK hP 1 0 rfl rfl (k := 4 * 0 + 2) (by omega) (by first | decide | omega) d_K_takeLines_77 ?_
      refine xl_mul hx hb d_K_takeLines_78 ?_
      refine lv_lconst (v := lI 0) hx hb d_K_takeLines_79 (by decide) ?_
      refine xcv (wc := [(h, .inr (1, [.int (nI d), .int kb, .ref fo, .ref ke, .ref ht, .ref wo, .ref fi, .ref se])), (fi, LA cJ 4 A1)]) (wr := [(fo, LA cJ 16 Fm), (wo, LA cJ 16 Wk), (se, LA cJ 4 A2), (ht, .inr (0, [.int r0, .ref hc, .ref hf, .ref hp, .ref ho])), (hc, LA cJ 16 C), (hf, LA cJ 16 F), (hp, LA cJ 16 P), (ho, LA cJ 5 O)]) hP hD hS hA [0, 3] [1, 2, 4, 5, 6, 7, 8, 9] rfl rfl (by decide) (by decide) (va_runV (As := [.ref fi, .long (lI (Fm (4 * 0 + 0))), .long (lI ((2) * (Fm (4 * 0 + 1)))), .long (lI ((2) * (Fm (4 * 0 + 2)))), .long (lI 0)]) (rest := []) ⟨hx, hb, hml, hown, hts⟩ (c_setRow l D cJ h d kb fo ke ht wo fi se fi A1 (Fm (4 * 0 + 0)) ((2) * (Fm (4 * 0 + 1))) ((2) * (Fm (4 * 0 + 2))) 0 (by first | assumption | omega) H.size) (cwV 5 hts (gV tw_215 tw_217 tws_6 tw_1 tw_218) rfl rfl rfl ⟨rfl, hd_K_setRow⟩ ⟨Nat.le_of_ble_eq_true rfl, Nat.le_of_ble_eq_true rfl⟩) (xPreV (C := R_K) (T := F_K) (N := 8) (q0 := 0) hN hK (hP.sub (ws' := [(h, .inr (1, [.int (nI d), .int kb, .ref fo, .ref ke, .ref ht, .ref wo, .ref fi, .ref se])), (fi, LA cJ 4 A1)]) [0, 3] rfl) (hD.sub (ws' := [(h, .inr (1, [.int (nI d), .int kb, .ref fo, .ref ke, .ref ht, .ref wo, .ref fi, .ref se])), (fi, LA cJ 4 A1)]) [0, 3] (by decide) rfl) rfl rfl) rfl rfl hl.1 rfl (lv_room (Nat.le_of_ble_eq_true rfl)) d_K_takeLines_80 ⟨Nat.le_of_ble_eq_true rfl, Nat.le_of_ble_eq_true rfl⟩) (fun u_37 H locs hrow hP hD hS => ?_)
      obtain ⟨B5, rfl⟩ : ∃ z, z = u_37 := ⟨_, rfl⟩
      try dsimp only at hrow
      have hP : va_P D vwC [(h, .inr (1, [.int (nI d), .int kb, .ref fo, .ref ke, .ref ht, .ref wo, .ref fi, .ref se])), (fo, LA cJ 16 Fm), (wo, LA cJ 16 Wk), (fi, LA cJ 4 B5), (se, LA cJ 4 A2), (ht, .inr (0, [.int r0, .ref hc, .ref hf, .ref hp, .ref ho])), (hc, LA cJ 16 C), (hf, LA cJ 16 F), (hp, LA cJ 16 P), (ho, LA cJ 5 O)] H := hP.sub [8, 0, 1, 9, 2, 3, 4, 5, 6, 7] rfl
      have hD : va_D A [(h, .inr (1, [.int (nI d), .int kb, .ref fo, .ref ke, .ref ht, .ref wo, .ref fi, .ref se])), (fo, LA cJ 16 Fm), (wo, LA cJ 16 Wk), (fi, LA cJ 4 B5), (se, LA cJ 4 A2), (ht, .inr (0, [.int r0, .ref hc, .ref hf, .ref hp, .ref ho])), (hc, LA cJ 16 C), (hf, LA cJ 16 F), (hp, LA cJ 16 P), (ho, LA cJ 5 O)] := hD.sub [8, 0, 1, 9, 2, 3, 4, 5, 6, 7] (by decide) rfl
      refine lv_aload_n hx hb d_K_takeLines_83 rfl (lv_at hl 0 rfl) ?_
      refine va_get (D := D) (ci := 1) (v := .ref fi) (C := R_K) (T := F_K) (N := 8) hx hb hts iw_K hown hK hP 0 rfl rfl 6 (by decide) (hts _ tw_48) (fun _ h9 => h9) rfl d_K_takeLines_84 ?_
      refine lv_iconst (v := nI 3) hx hb d_K_takeLines_87 (by decide) ?_
      refine xci (wc := [(fi, LA cJ 4 B5)]) (wr := [(h, .inr (1, [.int (nI d), .int kb, .ref fo, .ref ke, .ref ht, .ref wo, .ref fi, .ref se])), (fo, LA cJ 16 Fm), (wo, LA cJ 16 Wk), (se, LA cJ 4 A2), (ht, .inr (0, [.int r0, .ref hc, .ref hf, .ref hp, .ref ho])), (hc, LA cJ 16 C), (hf, LA cJ 16 F), (hp, LA cJ 16 P), (ho, LA cJ 5 O)]) hP hD hS hA [3] [0, 1, 2, 4, 5, 6, 7, 8, 9] rfl rfl (by decide) (by decide) (va_runS (As := [.ref fi, .int (nI 3)]) (rest := []) ⟨hx, hb, hml, hown, hts⟩ (c_clear l D cJ fi B5 3 (by decide) (fun k hk => by rw [row7_eq hrow k hk]; exact nB_of (A := 40) (r7_B hF k hk) (by decide)) H.size) (cwS 2 hts (gS tw_237 tw_238 tw_1 tw_239) rfl rfl rfl ⟨rfl, hd_K_clearDivisor⟩ ⟨Nat.le_of_ble_eq_true rfl, Nat.le_of_ble_eq_true rfl⟩) (xPreS hN hK (hP.sub (ws' := [(fi, LA cJ 4 B5)]) [3] rfl) (hD.sub (ws' := [(fi, LA cJ 4 B5)]) [3] (by decide) rfl)) rfl rfl hl.1 rfl (lv_room (Nat.le_of_ble_eq_true rfl)) d_K_takeLines_88 ⟨Nat.le_of_ble_eq_true rfl, Nat.le_of_ble_eq_true rfl⟩) (fun r_38 u_39 H locs hwc hP hD hS => ?_)
      obtain ⟨B6, rfl⟩ : ∃ z, z = u_39 := ⟨_, rfl⟩
      try dsimp only at hwc
      have hP : va_P D vwC [(h, .inr (1, [.int (nI d), .int kb, .ref fo, .ref ke, .ref ht, .ref wo, .ref fi, .ref se])), (fo, LA cJ 16 Fm), (wo, LA cJ 16 Wk), (fi, LA cJ 4 B6), (se, LA cJ 4 A2), (ht, .inr (0, [.int r0, .ref hc, .ref hf, .ref hp, .ref ho])), (hc, LA cJ 16 C), (hf, LA cJ 16 F), (hp, LA cJ 16 P), (ho, LA cJ 5 O)] H := hP.sub [0, 1, 2, 9, 3, 4, 5, 6, 7, 8] rfl
      have hD : va_D A [(h, .inr (1, [.int (nI d), .int kb, .ref fo, .ref ke, .ref ht, .ref wo, .ref fi, .ref se])), (fo, LA cJ 16 Fm), (wo, LA cJ 16 Wk), (fi, LA cJ 4 B6), (se, LA cJ 4 A2), (ht, .inr (0, [.int r0, .ref hc, .ref hf, .ref hp, .ref ho])), (hc, LA cJ 16 C), (hf, LA cJ 16 F), (hp, LA cJ 16 P), (ho, LA cJ 5 O)] := hD.sub [0, 1, 2, 9, 3, 4, 5, 6, 7, 8] (by decide) rfl
      obtain ⟨hwc, hwcp⟩ := hwc
      rcases hwc with ⟨rfl, hwc⟩ | ⟨rfl, hwc⟩
      · skip
        refine xz_eq (tgt := 98) (X := (1 : Nat)) hx hb (nI_toInt (by omega)) d_K_takeLines_91 (by decide) (fun c91_39 => absurd c91_39 (by omega)) (fun c91_39 => ?_)
        refine lv_iconst (v := nI 1) hx hb d_K_takeLines_94 (by decide) ?_
        refine lv_goto (tgt := 99) hx hb d_K_takeLines_95 (by decide) ?_
        exact hret H locs _ ls (nI 1) (1, B6, A2, Wk, r0, C, F, P, O) d_K_takeLines_99 (by first | exact ⟨rfl, by decide, lnOK_7 (lnOne_t (row7_eq hrow) hwc hwcp), fun q => absurd q (by decide)⟩ | (dsimp only; exact ⟨rfl, by decide, lnOK_7 (lnOne_t (row7_eq hrow) hwc hwcp), fun q => absurd q (by decide)⟩)) hP hD hS
      · skip
        refine xz_eq (tgt := 98) (X := (0 : Nat)) hx hb (nI_toInt (by omega)) d_K_takeLines_91 (by decide) (fun c91_40 => ?_) (fun c91_40 => absurd c91_40 (by omega))
        refine lv_iconst (v := nI 0) hx hb d_K_takeLines_98 (by decide) ?_
        exact hret H locs _ ls (nI 0) (0, B6, A2, Wk, r0, C, F, P, O) d_K_takeLines_99 (by first | exact ⟨rfl, by decide, lnOK_7 (lnOne_f (row7_eq hrow) hwc), fun q => absurd q (by decide)⟩ | (dsimp only; exact ⟨rfl, by decide, lnOK_7 (lnOne_f (row7_eq hrow) hwc), fun q => absurd q (by decide)⟩)) hP hD hS
    by_cases h8 : kd = 8
    · subst h8
      refine lv_tableIn (tgt := 161) (off := 160) hx hb d_K_takeLines_1 (by decide +kernel) (by decide +kernel) (by decide +kernel) (by decide) ?_
      refine lv_iconst (v := nI 0) hx hb d_K_takeLines_161 (by decide) ?_
      exact hret H locs _ ls (nI 0) (0, A1, A2, Wk, r0, C, F, P, O) d_K_takeLines_162 (by first | exact ⟨rfl, by decide, lnOK_0 (by decide), fun q => absurd q (by decide)⟩ | (dsimp only; exact ⟨rfl, by decide, lnOK_0 (by decide), fun q => absurd q (by decide)⟩)) hP hD hS
    by_cases h9 : kd = 9
    · subst h9
      refine lv_tableIn (tgt := 100) (off := 99) hx hb d_K_takeLines_1 (by decide +kernel) (by decide +kernel) (by decide +kernel) (by decide) ?_
      refine lv_aload_n hx hb d_K_takeLines_100 rfl (lv_at hl 0 rfl) ?_
      refine lv_aload_n hx hb d_K_takeLines_101 rfl (lv_at hl 0 rfl) ?_
      refine va_get (D := D) (ci := 1) (v := .ref fo) (C := R_K) (T := F_K) (N := 8) hx hb hts iw_K hown hK hP 0 rfl rfl 2 (by decide) (hts _ tw_44) (fun _ h9 => h9) rfl d_K_takeLines_102 ?_
      refine lv_iconst (v := nI 1) hx hb d_K_takeLines_105 (by decide) ?_
      refine lv_iconst (v := nI 1) hx hb d_K_takeLines_106 (by decide) ?_
      refine xci (wc := []) (wr := [(h, .inr (1, [.int (nI d), .int kb, .ref fo, .ref ke, .ref ht, .ref wo, .ref fi, .ref se])), (fo, LA cJ 16 Fm), (wo, LA cJ 16 Wk), (fi, LA cJ 4 A1), (se, LA cJ 4 A2), (ht, .inr (0, [.int r0, .ref hc, .ref hf, .ref hp, .ref ho])), (hc, LA cJ 16 C), (hf, LA cJ 16 F), (hp, LA cJ 16 P), (ho, LA cJ 5 O)]) hP hD hS hA [] [0, 1, 2, 3, 4, 5, 6, 7, 8, 9] rfl rfl (by decide) (by decide) (va_runS (As := [.int (nI 1), .int (nI 1)]) (rest := [.ref fo, .ref h]) ⟨hx, hb, hml, hown, hts⟩ (c_place l D cJ 1 1 H.size) (cwS 2 hts (gS tw_86 tw_87 tw_1 tw_88) rfl rfl rfl ⟨rfl, hd_K_place⟩ ⟨Nat.le_of_ble_eq_true rfl, Nat.le_of_ble_eq_true rfl⟩) (xPreS hN hK (hP.sub (ws' := []) [] rfl) (hD.sub (ws' := []) [] (by decide) rfl)) rfl rfl hl.1 rfl (lv_room (Nat.le_of_ble_eq_true rfl)) d_K_takeLines_107 ⟨Nat.le_of_ble_eq_true rfl, Nat.le_of_ble_eq_true rfl⟩) (fun r_42 u_43 H locs hw_44 hP hD hS => ?_)
      try dsimp only at hw_44
      have hP : va_P D vwC [(h, .inr (1, [.int (nI d), .int kb, .ref fo, .ref ke, .ref ht, .ref wo, .ref fi, .ref se])), (fo, LA cJ 16 Fm), (wo, LA cJ 16 Wk), (fi, LA cJ 4 A1), (se, LA cJ 4 A2), (ht, .inr (0, [.int r0, .ref hc, .ref hf, .ref hp, .ref ho])), (hc, LA cJ 16 C), (hf, LA cJ 16 F), (hp, LA cJ 16 P), (ho, LA cJ 5 O)] H := hP
      have hD : va_D A [(h, .inr (1, [.int (nI d), .int kb, .ref fo, .ref ke, .ref ht, .ref wo, .ref fi, .ref se])), (fo, LA cJ 16 Fm), (wo, LA cJ 16 Wk), (fi, LA cJ 4 A1), (se, LA cJ 4 A2), (ht, .inr (0, [.int r0, .ref hc, .ref hf, .ref hp, .ref ho])), (hc, LA cJ 16 C), (hf, LA cJ 16 F), (hp, LA cJ 16 P), (ho, LA cJ 5 O)] := hD
      subst hw_44
      refine xl_ald hx hb hK hP 1 0 rfl rfl (k := 4 * 1 + 1) (by omega) (by first | decide | omega) d_K_takeLines_110 ?_
      refine lv_lconst (v := lI 0) hx hb d_K_takeLines_111 (by decide) ?_
      refine xl_eq (tgt := 120) hx hb (lB_of (hF _ (by omega)) (by decide)) ⟨by decide, by decide⟩ d_K_takeLines_112 d_K_takeLines_113 (by decide) (fun c113_44 => ?_) (fun c113_44 => ?_)
      · skip
        refine lv_iconst (v := nI 2) hx hb d_K_takeLines_120 (by decide) ?_
        have hi9 : 2 = if Fm 5 ≠ 0 then 1 else 2 := (if_neg (fun q => q c113_44)).symm
        refine xcv (wc := [(h, .inr (1, [.int (nI d), .int kb, .ref fo, .ref ke, .ref ht, .ref wo, .ref fi, .ref se])), (fo, LA cJ 16 Fm), (fi, LA cJ 4 A1)]) (wr := [(wo, LA cJ 16 Wk), (se, LA cJ 4 A2), (ht, .inr (0, [.int r0, .ref hc, .ref hf, .ref hp, .ref ho])), (hc, LA cJ 16 C), (hf, LA cJ 16 F), (hp, LA cJ 16 P), (ho, LA cJ 5 O)]) hP hD hS hA [0, 1, 3] [2, 4, 5, 6, 7, 8, 9] rfl rfl (by decide) (by decide) (va_runV (As := [.int (nI 2)]) (rest := []) ⟨hx, hb, hml, hown, hts⟩ (c_takeRow l D cJ h d kb fo ke ht wo fi se Fm A1 2 (by first | assumption | omega) (by first | assumption | omega) H.size) (cwV 1 hts (gV tw_272 tw_274 tws_12 tw_1 tw_275) rfl rfl rfl ⟨rfl, hd_K_takeFormRow⟩ ⟨Nat.le_of_ble_eq_true rfl, Nat.le_of_ble_eq_true rfl⟩) (xPreV (C := R_K) (T := F_K) (N := 8) (q0 := 0) hN hK (hP.sub (ws' := [(h, .inr (1, [.int (nI d), .int kb, .ref fo, .ref ke, .ref ht, .ref wo, .ref fi, .ref se])), (fo, LA cJ 16 Fm), (fi, LA cJ 4 A1)]) [0, 1, 3] rfl) (hD.sub (ws' := [(h, .inr (1, [.int (nI d), .int kb, .ref fo, .ref ke, .ref ht, .ref wo, .ref fi, .ref se])), (fo, LA cJ 16 Fm), (fi, LA cJ 4 A1)]) [0, 1, 3] (by decide) rfl) rfl rfl) rfl rfl hl.1 rfl (lv_room (Nat.le_of_ble_eq_true rfl)) d_K_takeLines_121 ⟨Nat.le_of_ble_eq_true rfl, Nat.le_of_ble_eq_true rfl⟩) (fun u_47 H locs hrow hP hD hS => ?_)
        obtain ⟨B5, rfl⟩ : ∃ z, z = u_47 := ⟨_, rfl⟩
        try dsimp only at hrow
        have hP : va_P D vwC [(h, .inr (1, [.int (nI d), .int kb, .ref fo, .ref ke, .ref ht, .ref wo, .ref fi, .ref se])), (fo, LA cJ 16 Fm), (wo, LA cJ 16 Wk), (fi, LA cJ 4 B5), (se, LA cJ 4 A2), (ht, .inr (0, [.int r0, .ref hc, .ref hf, .ref hp, .ref ho])), (hc, LA cJ 16 C), (hf, LA cJ 16 F), (hp, LA cJ 16 P), (ho, LA cJ 5 O)] H := hP.sub [7, 8, 0, 9, 1, 2, 3, 4, 5, 6] rfl
        have hD : va_D A [(h, .inr (1, [.int (nI d), .int kb, .ref fo, .ref ke, .ref ht, .ref wo, .ref fi, .ref se])), (fo, LA cJ 16 Fm), (wo, LA cJ 16 Wk), (fi, LA cJ 4 B5), (se, LA cJ 4 A2), (ht, .inr (0, [.int r0, .ref hc, .ref hf, .ref hp, .ref ho])), (hc, LA cJ 16 C), (hf, LA cJ 16 F), (hp, LA cJ 16 P), (ho, LA cJ 5 O)] := hD.sub [7, 8, 0, 9, 1, 2, 3, 4, 5, 6] (by decide) rfl
        refine lv_aload_n hx hb d_K_takeLines_124 rfl (lv_at hl 0 rfl) ?_
        refine va_get (D := D) (ci := 1) (v := .ref fi) (C := R_K) (T := F_K) (N := 8) hx hb hts iw_K hown hK hP 0 rfl rfl 6 (by decide) (hts _ tw_48) (fun _ h9 => h9) rfl d_K_takeLines_125 ?_
        refine lv_iconst (v := nI 3) hx hb d_K_takeLines_128 (by decide) ?_
        refine xci (wc := [(fi, LA cJ 4 B5)]) (wr := [(h, .inr (1, [.int (nI d), .int kb, .ref fo, .ref ke, .ref ht, .ref wo, .ref fi, .ref se])), (fo, LA cJ 16 Fm), (wo, LA cJ 16 Wk), (se, LA cJ 4 A2), (ht, .inr (0, [.int r0, .ref hc, .ref hf, .ref hp, .ref ho])), (hc, LA cJ 16 C), (hf, LA cJ 16 F), (hp, LA cJ 16 P), (ho, LA cJ 5 O)]) hP hD hS hA [3] [0, 1, 2, 4, 5, 6, 7, 8, 9] rfl rfl (by decide) (by decide) (va_runS (As := [.ref fi, .int (nI 3)]) (rest := []) ⟨hx, hb, hml, hown, hts⟩ (c_clear l D cJ fi B5 3 (by decide) (fun k hk => by rw [row9_eq hi9 hrow k hk]; exact nB_of (A := 20) (r9_B hF k hk) (by decide)) H.size) (cwS 2 hts (gS tw_237 tw_238 tw_1 tw_239) rfl rfl rfl ⟨rfl, hd_K_clearDivisor⟩ ⟨Nat.le_of_ble_eq_true rfl, Nat.le_of_ble_eq_true rfl⟩) (xPreS hN hK (hP.sub (ws' := [(fi, LA cJ 4 B5)]) [3] rfl) (hD.sub (ws' := [(fi, LA cJ 4 B5)]) [3] (by decide) rfl)) rfl rfl hl.1 rfl (lv_room (Nat.le_of_ble_eq_true rfl)) d_K_takeLines_129 ⟨Nat.le_of_ble_eq_true rfl, Nat.le_of_ble_eq_true rfl⟩) (fun r_48 u_49 H locs hwc hP hD hS => ?_)
        obtain ⟨B6, rfl⟩ : ∃ z, z = u_49 := ⟨_, rfl⟩
        try dsimp only at hwc
        have hP : va_P D vwC [(h, .inr (1, [.int (nI d), .int kb, .ref fo, .ref ke, .ref ht, .ref wo, .ref fi, .ref se])), (fo, LA cJ 16 Fm), (wo, LA cJ 16 Wk), (fi, LA cJ 4 B6), (se, LA cJ 4 A2), (ht, .inr (0, [.int r0, .ref hc, .ref hf, .ref hp, .ref ho])), (hc, LA cJ 16 C), (hf, LA cJ 16 F), (hp, LA cJ 16 P), (ho, LA cJ 5 O)] H := hP.sub [0, 1, 2, 9, 3, 4, 5, 6, 7, 8] rfl
        have hD : va_D A [(h, .inr (1, [.int (nI d), .int kb, .ref fo, .ref ke, .ref ht, .ref wo, .ref fi, .ref se])), (fo, LA cJ 16 Fm), (wo, LA cJ 16 Wk), (fi, LA cJ 4 B6), (se, LA cJ 4 A2), (ht, .inr (0, [.int r0, .ref hc, .ref hf, .ref hp, .ref ho])), (hc, LA cJ 16 C), (hf, LA cJ 16 F), (hp, LA cJ 16 P), (ho, LA cJ 5 O)] := hD.sub [0, 1, 2, 9, 3, 4, 5, 6, 7, 8] (by decide) rfl
        obtain ⟨hwc, hwcp⟩ := hwc
        rcases hwc with ⟨rfl, hwc⟩ | ⟨rfl, hwc⟩
        · skip
          refine xz_eq (tgt := 139) (X := (1 : Nat)) hx hb (nI_toInt (by omega)) d_K_takeLines_132 (by decide) (fun c132_49 => absurd c132_49 (by omega)) (fun c132_49 => ?_)
          refine lv_iconst (v := nI 1) hx hb d_K_takeLines_135 (by decide) ?_
          refine lv_goto (tgt := 140) hx hb d_K_takeLines_136 (by decide) ?_
          exact hret H locs _ ls (nI 1) (1, B6, A2, Wk, r0, C, F, P, O) d_K_takeLines_140 (by first | exact ⟨rfl, by decide, lnOK_9 (lnOne_t (row9_eq hi9 hrow) hwc hwcp), fun q => absurd q (by decide)⟩ | (dsimp only; exact ⟨rfl, by decide, lnOK_9 (lnOne_t (row9_eq hi9 hrow) hwc hwcp), fun q => absurd q (by decide)⟩)) hP hD hS
        · skip
          refine xz_eq (tgt := 139) (X := (0 : Nat)) hx hb (nI_toInt (by omega)) d_K_takeLines_132 (by decide) (fun c132_50 => ?_) (fun c132_50 => absurd c132_50 (by omega))
          refine lv_iconst (v := nI 0) hx hb d_K_takeLines_139 (by decide) ?_
          exact hret H locs _ ls (nI 0) (0, B6, A2, Wk, r0, C, F, P, O) d_K_takeLines_140 (by first | exact ⟨rfl, by decide, lnOK_9 (lnOne_f (row9_eq hi9 hrow) hwc), fun q => absurd q (by decide)⟩ | (dsimp only; exact ⟨rfl, by decide, lnOK_9 (lnOne_f (row9_eq hi9 hrow) hwc), fun q => absurd q (by decide)⟩)) hP hD hS
      · skip
        refine lv_iconst (v := nI 1) hx hb d_K_takeLines_116 (by decide) ?_
        refine lv_goto (tgt := 121) hx hb d_K_takeLines_117 (by decide) ?_
        have hi9 : 1 = if Fm 5 ≠ 0 then 1 else 2 := (if_pos c113_44).symm
        refine xcv (wc := [(h, .inr (1, [.int (nI d), .int kb, .ref fo, .ref ke, .ref ht, .ref wo, .ref fi, .ref se])), (fo, LA cJ 16 Fm), (fi, LA cJ 4 A1)]) (wr := [(wo, LA cJ 16 Wk), (se, LA cJ 4 A2), (ht, .inr (0, [.int r0, .ref hc, .ref hf, .ref hp, .ref ho])), (hc, LA cJ 16 C), (hf, LA cJ 16 F), (hp, LA cJ 16 P), (ho, LA cJ 5 O)]) hP hD hS hA [0, 1, 3] [2, 4, 5, 6, 7, 8, 9] rfl rfl (by decide) (by decide) (va_runV (As := [.int (nI 1)]) (rest := []) ⟨hx, hb, hml, hown, hts⟩ (c_takeRow l D cJ h d kb fo ke ht wo fi se Fm A1 1 (by first | assumption | omega) (by first | assumption | omega) H.size) (cwV 1 hts (gV tw_272 tw_274 tws_12 tw_1 tw_275) rfl rfl rfl ⟨rfl, hd_K_takeFormRow⟩ ⟨Nat.le_of_ble_eq_true rfl, Nat.le_of_ble_eq_true rfl⟩) (xPreV (C := R_K) (T := F_K) (N := 8) (q0 := 0) hN hK (hP.sub (ws' := [(h, .inr (1, [.int (nI d), .int kb, .ref fo, .ref ke, .ref ht, .ref wo, .ref fi, .ref se])), (fo, LA cJ 16 Fm), (fi, LA cJ 4 A1)]) [0, 1, 3] rfl) (hD.sub (ws' := [(h, .inr (1, [.int (nI d), .int kb, .ref fo, .ref ke, .ref ht, .ref wo, .ref fi, .ref se])), (fo, LA cJ 16 Fm), (fi, LA cJ 4 A1)]) [0, 1, 3] (by decide) rfl) rfl rfl) rfl rfl hl.1 rfl (lv_room (Nat.le_of_ble_eq_true rfl)) d_K_takeLines_121 ⟨Nat.le_of_ble_eq_true rfl, Nat.le_of_ble_eq_true rfl⟩) (fun u_53 H locs hrow hP hD hS => ?_)
        obtain ⟨B5, rfl⟩ : ∃ z, z = u_53 := ⟨_, rfl⟩
        try dsimp only at hrow
        have hP : va_P D vwC [(h, .inr (1, [.int (nI d), .int kb, .ref fo, .ref ke, .ref ht, .ref wo, .ref fi, .ref se])), (fo, LA cJ 16 Fm), (wo, LA cJ 16 Wk), (fi, LA cJ 4 B5), (se, LA cJ 4 A2), (ht, .inr (0, [.int r0, .ref hc, .ref hf, .ref hp, .ref ho])), (hc, LA cJ 16 C), (hf, LA cJ 16 F), (hp, LA cJ 16 P), (ho, LA cJ 5 O)] H := hP.sub [7, 8, 0, 9, 1, 2, 3, 4, 5, 6] rfl
        have hD : va_D A [(h, .inr (1, [.int (nI d), .int kb, .ref fo, .ref ke, .ref ht, .ref wo, .ref fi, .ref se])), (fo, LA cJ 16 Fm), (wo, LA cJ 16 Wk), (fi, LA cJ 4 B5), (se, LA cJ 4 A2), (ht, .inr (0, [.int r0, .ref hc, .ref hf, .ref hp, .ref ho])), (hc, LA cJ 16 C), (hf, LA cJ 16 F), (hp, LA cJ 16 P), (ho, LA cJ 5 O)] := hD.sub [7, 8, 0, 9, 1, 2, 3, 4, 5, 6] (by decide) rfl
        refine lv_aload_n hx hb d_K_takeLines_124 rfl (lv_at hl 0 rfl) ?_
        refine va_get (D := D) (ci := 1) (v := .ref fi) (C := R_K) (T := F_K) (N := 8) hx hb hts iw_K hown hK hP 0 rfl rfl 6 (by decide) (hts _ tw_48) (fun _ h9 => h9) rfl d_K_takeLines_125 ?_
        refine lv_iconst (v := nI 3) hx hb d_K_takeLines_128 (by decide) ?_
        refine xci (wc := [(fi, LA cJ 4 B5)]) (wr := [(h, .inr (1, [.int (nI d), .int kb, .ref fo, .ref ke, .ref ht, .ref wo, .ref fi, .ref se])), (fo, LA cJ 16 Fm), (wo, LA cJ 16 Wk), (se, LA cJ 4 A2), (ht, .inr (0, [.int r0, .ref hc, .ref hf, .ref hp, .ref ho])), (hc, LA cJ 16 C), (hf, LA cJ 16 F), (hp, LA cJ 16 P), (ho, LA cJ 5 O)]) hP hD hS hA [3] [0, 1, 2, 4, 5, 6, 7, 8, 9] rfl rfl (by decide) (by decide) (va_runS (As := [.ref fi, .int (nI 3)]) (rest := []) ⟨hx, hb, hml, hown, hts⟩ (c_clear l D cJ fi B5 3 (by decide) (fun k hk => by rw [row9_eq hi9 hrow k hk]; exact nB_of (A := 20) (r9_B hF k hk) (by decide)) H.size) (cwS 2 hts (gS tw_237 tw_238 tw_1 tw_239) rfl rfl rfl ⟨rfl, hd_K_clearDivisor⟩ ⟨Nat.le_of_ble_eq_true rfl, Nat.le_of_ble_eq_true rfl⟩) (xPreS hN hK (hP.sub (ws' := [(fi, LA cJ 4 B5)]) [3] rfl) (hD.sub (ws' := [(fi, LA cJ 4 B5)]) [3] (by decide) rfl)) rfl rfl hl.1 rfl (lv_room (Nat.le_of_ble_eq_true rfl)) d_K_takeLines_129 ⟨Nat.le_of_ble_eq_true rfl, Nat.le_of_ble_eq_true rfl⟩) (fun r_54 u_55 H locs hwc hP hD hS => ?_)
        obtain ⟨B6, rfl⟩ : ∃ z, z = u_55 := ⟨_, rfl⟩
        try dsimp only at hwc
        have hP : va_P D vwC [(h, .inr (1, [.int (nI d), .int kb, .ref fo, .ref ke, .ref ht, .ref wo, .ref fi, .ref se])), (fo, LA cJ 16 Fm), (wo, LA cJ 16 Wk), (fi, LA cJ 4 B6), (se, LA cJ 4 A2), (ht, .inr (0, [.int r0, .ref hc, .ref hf, .ref hp, .ref ho])), (hc, LA cJ 16 C), (hf, LA cJ 16 F), (hp, LA cJ 16 P), (ho, LA cJ 5 O)] H := hP.sub [0, 1, 2, 9, 3, 4, 5, 6, 7, 8] rfl
        have hD : va_D A [(h, .inr (1, [.int (nI d), .int kb, .ref fo, .ref ke, .ref ht, .ref wo, .ref fi, .ref se])), (fo, LA cJ 16 Fm), (wo, LA cJ 16 Wk), (fi, LA cJ 4 B6), (se, LA cJ 4 A2), (ht, .inr (0, [.int r0, .ref hc, .ref hf, .ref hp, .ref ho])), (hc, LA cJ 16 C), (hf, LA cJ 16 F), (hp, LA cJ 16 P), (ho, LA cJ 5 O)] := hD.sub [0, 1, 2, 9, 3, 4, 5, 6, 7, 8] (by decide) rfl
        obtain ⟨hwc, hwcp⟩ := hwc
        rcases hwc with ⟨rfl, hwc⟩ | ⟨rfl, hwc⟩
        · skip
          refine xz_eq (tgt := 139) (X := (1 : Nat)) hx hb (nI_toInt (by omega)) d_K_takeLines_132 (by decide) (fun c132_55 => absurd c132_55 (by omega)) (fun c132_55 => ?_)
          refine lv_iconst (v := nI 1) hx hb d_K_takeLines_135 (by decide) ?_
          refine lv_goto (tgt := 140) hx hb d_K_takeLines_136 (by decide) ?_
          exact hret H locs _ ls (nI 1) (1, B6, A2, Wk, r0, C, F, P, O) d_K_takeLines_140 (by first | exact ⟨rfl, by decide, lnOK_9 (lnOne_t (row9_eq hi9 hrow) hwc hwcp), fun q => absurd q (by decide)⟩ | (dsimp only; exact ⟨rfl, by decide, lnOK_9 (lnOne_t (row9_eq hi9 hrow) hwc hwcp), fun q => absurd q (by decide)⟩)) hP hD hS
        · skip
          refine xz_eq (tgt := 139) (X := (0 : Nat)) hx hb (nI_toInt (by omega)) d_K_takeLines_132 (by decide) (fun c132_56 => ?_) (fun c132_56 => absurd c132_56 (by omega))
          refine lv_iconst (v := nI 0) hx hb d_K_takeLines_139 (by decide) ?_
          exact hret H locs _ ls (nI 0) (0, B6, A2, Wk, r0, C, F, P, O) d_K_takeLines_140 (by first | exact ⟨rfl, by decide, lnOK_9 (lnOne_f (row9_eq hi9 hrow) hwc), fun q => absurd q (by decide)⟩ | (dsimp only; exact ⟨rfl, by decide, lnOK_9 (lnOne_f (row9_eq hi9 hrow) hwc), fun q => absurd q (by decide)⟩)) hP hD hS
    refine lv_tableOut (tgt := 161) hx hb d_K_takeLines_1 (by rw [nI_toInt (by omega)]; omega) (by decide) ?_
    refine lv_iconst (v := nI 0) hx hb d_K_takeLines_161 (by decide) ?_
    exact hret H locs _ ls (nI 0) (0, A1, A2, Wk, r0, C, F, P, O) d_K_takeLines_162 (by first | exact ⟨rfl, by decide, lnOK_0 (by omega), fun q => absurd q (by decide)⟩ | (dsimp only; exact ⟨rfl, by decide, lnOK_0 (by omega), fun q => absurd q (by decide)⟩)) hP hD hS
  rw [hH, hlc] at key; exact key

def rm_k_line : Room := { frames := 6, cells := 0, slots := 0, locals := 184 }
set_option maxHeartbeats 4000000 in
set_option maxRecDepth 100000 in
/-- line -/
theorem k_line (l : Launch) (D : va_G) (cJ : ClassId) (h : Nat) (d : Nat) (kb : Int32) (fo : Nat) (ke : Nat) (ht : Nat) (wo : Nat) (fi : Nat) (se : Nat) (Fm : Nat → Int) (Wk : Nat → Int) (A1 : Nat → Int) (A2 : Nat → Int) (hc : Nat) (hf : Nat) (hp : Nat) (ho : Nat) (r0 : Int32) (C : Nat → Int) (F : Nat → Int) (P : Nat → Int) (O : Nat → Int) (vk : Int32) (vi : Int32) (hd2 : 2 ≤ d) (hd3 : d ≤ 3) (hF : ∀ k, k < 16 → inB (Fm k) 20) (sz : Nat) : xMl l y_K_line (Cond.code y_K_line b_K_line 5 (some .long) :: tW) rm_k_line [.ref h, .int vk, .int vi] D vwC [(cJ, .long)] sz [(h, .inr (1, [.int (nI d), .int kb, .ref fo, .ref ke, .ref ht, .ref wo, .ref fi, .ref se])), (fo, LA cJ 16 Fm), (wo, LA cJ 16 Wk), (fi, LA cJ 4 A1), (se, LA cJ 4 A2), (ht, .inr (0, [.int r0, .ref hc, .ref hf, .ref hp, .ref ho])), (hc, LA cJ 16 C), (hf, LA cJ 16 F), (hp, LA cJ 16 P), (ho, LA cJ 5 O)] (fun (rv : Int64) (uo : Int × (Nat → Int) × (Nat → Int) × (Nat → Int) × Int32 × (Nat → Int) × (Nat → Int) × (Nat → Int) × (Nat → Int)) => rv = lI uo.1 ∧ (s_line Fm d vk.toInt vi.toInt uo.1)) (fun (uo : Int × (Nat → Int) × (Nat → Int) × (Nat → Int) × Int32 × (Nat → Int) × (Nat → Int) × (Nat → Int) × (Nat → Int)) => [(h, .inr (1, [.int (nI d), .int kb, .ref fo, .ref ke, .ref ht, .ref wo, .ref fi, .ref se])), (fo, LA cJ 16 Fm), (wo, LA cJ 16 uo.2.2.2.1), (fi, LA cJ 4 uo.2.1), (se, LA cJ 4 uo.2.2.1), (ht, .inr (0, [.int uo.2.2.2.2.1, .ref hc, .ref hf, .ref hp, .ref ho])), (hc, LA cJ 16 uo.2.2.2.2.2.1), (hf, LA cJ 16 uo.2.2.2.2.2.2.1), (hp, LA cJ 16 uo.2.2.2.2.2.2.2.1), (ho, LA cJ 5 uo.2.2.2.2.2.2.2.2)]) 0 0 := by
  refine xol (cc := b_K_line) (maxL := 5) (by decide) rfl (Nat.le_of_ble_eq_true rfl) ?_
  intro p e s m args below meth c Q A hx hb hml hts hown hN hA hS hP hK hD hret ls hl
  have hl : lv_has ls 5 [(0, .ref h), (1, .int vk), (2, .int vi)] := hl
  obtain ⟨H, hH⟩ : ∃ z, z = s.heap := ⟨_, rfl⟩
  obtain ⟨locs, hlc⟩ : ∃ z : List Loc, z = [] := ⟨_, rfl⟩
  rw [← hH] at hP
  have hS : va_S A s.heap H locs := by rw [hH, hlc]; exact hS
  have key : W p l e rm_k_line s m args below meth c H locs 0 0 Q (F0 m 0 ls []) := by
    refine lv_aload_n hx hb d_K_line_0 rfl (lv_at hl 0 rfl) ?_
    refine va_get (D := D) (ci := 1) (v := .int (nI d)) (C := R_K) (T := F_K) (N := 8) hx hb hts iw_K hown hK hP 0 rfl rfl 0 (by decide) (hts _ tw_42) (fun _ h9 => h9) rfl d_K_line_1 ?_
    refine lv_iconst (v := nI 2) hx hb d_K_line_4 (by decide) ?_
    refine xn_ne (tgt := 26) hx hb (by omega) (by omega) d_K_line_5 (by decide) (fun c5_0 => ?_) (fun c5_0 => ?_)
    · skip
      refine lv_ldc2 (v := lI (-1000000000000000000)) hx hb hown (hts _ tw_85) d_K_line_26 ?_
      exact hret H locs _ ls (lI (-1000000000000000000)) ((-1000000000000000000), A1, A2, Wk, r0, C, F, P, O) d_K_line_29 (by first | exact ⟨rfl, fun _ => rfl, fun q => absurd q (by omega)⟩ | (dsimp only; exact ⟨rfl, fun _ => rfl, fun q => absurd q (by omega)⟩)) hP hD hS
    · skip
      refine lv_iload_n hx hb d_K_line_8 rfl (lv_at hl 1 rfl) ?_
      refine xz_lt (tgt := 26) (X := vk.toInt) hx hb rfl d_K_line_9 (by decide) (fun c9_1 => ?_) (fun c9_1 => ?_)
      · skip
        refine lv_ldc2 (v := lI (-1000000000000000000)) hx hb hown (hts _ tw_85) d_K_line_26 ?_
        exact hret H locs _ ls (lI (-1000000000000000000)) ((-1000000000000000000), A1, A2, Wk, r0, C, F, P, O) d_K_line_29 (by first | exact ⟨rfl, fun _ => rfl, fun q => absurd q (by omega)⟩ | (dsimp only; exact ⟨rfl, fun _ => rfl, fun q => absurd q (by omega)⟩)) hP hD hS
      · skip
        refine lv_iload_n hx hb d_K_line_12 rfl (lv_at hl 1 rfl) ?_
        refine lv_iconst (v := nI 1) hx hb d_K_line_13 (by decide) ?_
        refine xi_gt (tgt := 26) (X := vk.toInt) (Y := (1 : Nat)) hx hb rfl (nI_toInt (by omega)) d_K_line_14 (by decide) (fun c14_2 => ?_) (fun c14_2 => ?_)
        · skip
          refine lv_ldc2 (v := lI (-1000000000000000000)) hx hb hown (hts _ tw_85) d_K_line_26 ?_
          exact hret H locs _ ls (lI (-1000000000000000000)) ((-1000000000000000000), A1, A2, Wk, r0, C, F, P, O) d_K_line_29 (by first | exact ⟨rfl, fun _ => rfl, fun q => absurd q (by omega)⟩ | (dsimp only; exact ⟨rfl, fun _ => rfl, fun q => absurd q (by omega)⟩)) hP hD hS
        · skip
          refine lv_iload_n hx hb d_K_line_17 rfl (lv_at hl 2 rfl) ?_
          refine xz_lt (tgt := 26) (X := vi.toInt) hx hb rfl d_K_line_18 (by decide) (fun c18_3 => ?_) (fun c18_3 => ?_)
          · skip
            refine lv_ldc2 (v := lI (-1000000000000000000)) hx hb hown (hts _ tw_85) d_K_line_26 ?_
            exact hret H locs _ ls (lI (-1000000000000000000)) ((-1000000000000000000), A1, A2, Wk, r0, C, F, P, O) d_K_line_29 (by first | exact ⟨rfl, fun _ => rfl, fun q => absurd q (by omega)⟩ | (dsimp only; exact ⟨rfl, fun _ => rfl, fun q => absurd q (by omega)⟩)) hP hD hS
          · skip
            refine lv_iload_n hx hb d_K_line_21 rfl (lv_at hl 2 rfl) ?_
            refine lv_iconst (v := nI 2) hx hb d_K_line_22 (by decide) ?_
            refine xi_le (tgt := 30) (X := vi.toInt) (Y := (2 : Nat)) hx hb rfl (nI_toInt (by omega)) d_K_line_23 (by decide) (fun c23_4 => ?_) (fun c23_4 => ?_)
            · skip
              obtain rfl : d = 2 := by omega
              obtain ⟨k, hk, rfl⟩ := nI_range (v := vk) (d := 1) (by omega)
              obtain ⟨i, hi, rfl⟩ := nI_range (v := vi) (d := 2) (by omega)
              have hkt : (nI k).toInt = (k : Int) := nI_toInt (by omega)
              have hit : (nI i).toInt = (i : Int) := nI_toInt (by omega)
              refine lv_aload_n hx hb d_K_line_30 rfl (lv_at hl 0 rfl) ?_
              refine lv_aload_n hx hb d_K_line_31 rfl (lv_at hl 0 rfl) ?_
              refine lv_aload_n hx hb d_K_line_32 rfl (lv_at hl 0 rfl) ?_
              refine va_get (D := D) (ci := 1) (v := .ref fo) (C := R_K) (T := F_K) (N := 8) hx hb hts iw_K hown hK hP 0 rfl rfl 2 (by decide) (hts _ tw_44) (fun _ h9 => h9) rfl d_K_line_33 ?_
              refine lv_aload_n hx hb d_K_line_36 rfl (lv_at hl 0 rfl) ?_
              refine va_get (D := D) (ci := 1) (v := .int (nI 2)) (C := R_K) (T := F_K) (N := 8) hx hb hts iw_K hown hK hP 0 rfl rfl 0 (by decide) (hts _ tw_42) (fun _ h9 => h9) rfl d_K_line_37 ?_
              refine xci (wc := [(h, .inr (1, [.int (nI 2), .int kb, .ref fo, .ref ke, .ref ht, .ref wo, .ref fi, .ref se])), (fo, LA cJ 16 Fm), (ht, .inr (0, [.int r0, .ref hc, .ref hf, .ref hp, .ref ho])), (hc, LA cJ 16 C), (hf, LA cJ 16 F), (hp, LA cJ 16 P), (ho, LA cJ 5 O)]) (wr := [(wo, LA cJ 16 Wk), (fi, LA cJ 4 A1), (se, LA cJ 4 A2)]) hP hD hS hA [0, 1, 5, 6, 7, 8, 9] [2, 3, 4] rfl rfl (by decide) (by decide) (va_runV (As := [.ref fo, .int (nI 2)]) (rest := [.ref h]) ⟨hx, hb, hml, hown, hts⟩ (c_kindOf l D cJ h 2 kb fo ke ht wo fi se hc hf hp ho r0 C F P O fo Fm 2 (by first | assumption | omega) (by first | assumption | omega) (enB_20 hF (by omega)) (enB_20 hF (by omega)) H.size) (cwV 2 hts (gV tw_93 tw_95 tws_1 tw_1 tw_96) rfl rfl rfl ⟨rfl, hd_K_kindOf⟩ ⟨Nat.le_of_ble_eq_true rfl, Nat.le_of_ble_eq_true rfl⟩) (xPreV (C := R_K) (T := F_K) (N := 8) (q0 := 0) hN hK (hP.sub (ws' := [(h, .inr (1, [.int (nI 2), .int kb, .ref fo, .ref ke, .ref ht, .ref wo, .ref fi, .ref se])), (fo, LA cJ 16 Fm), (ht, .inr (0, [.int r0, .ref hc, .ref hf, .ref hp, .ref ho])), (hc, LA cJ 16 C), (hf, LA cJ 16 F), (hp, LA cJ 16 P), (ho, LA cJ 5 O)]) [0, 1, 5, 6, 7, 8, 9] rfl) (hD.sub (ws' := [(h, .inr (1, [.int (nI 2), .int kb, .ref fo, .ref ke, .ref ht, .ref wo, .ref fi, .ref se])), (fo, LA cJ 16 Fm), (ht, .inr (0, [.int r0, .ref hc, .ref hf, .ref hp, .ref ho])), (hc, LA cJ 16 C), (hf, LA cJ 16 F), (hp, LA cJ 16 P), (ho, LA cJ 5 O)]) [0, 1, 5, 6, 7, 8, 9] (by decide) rfl) rfl rfl) rfl rfl hl.1 rfl (lv_room (Nat.le_of_ble_eq_true rfl)) d_K_line_40 ⟨Nat.le_of_ble_eq_true rfl, Nat.le_of_ble_eq_true rfl⟩) (fun r_6 u_7 H locs hw_8 hP hD hS => ?_)
              obtain ⟨r2_9, C2_10, F2_11, P2_12, O2_13⟩ := u_7
              try dsimp only at hw_8
              have hP : va_P D vwC [(h, .inr (1, [.int (nI 2), .int kb, .ref fo, .ref ke, .ref ht, .ref wo, .ref fi, .ref se])), (fo, LA cJ 16 Fm), (wo, LA cJ 16 Wk), (fi, LA cJ 4 A1), (se, LA cJ 4 A2), (ht, .inr (0, [.int r2_9, .ref hc, .ref hf, .ref hp, .ref ho])), (hc, LA cJ 16 C2_10), (hf, LA cJ 16 F2_11), (hp, LA cJ 16 P2_12), (ho, LA cJ 5 O2_13)] H := hP.sub [3, 4, 0, 1, 2, 5, 6, 7, 8, 9] rfl
              have hD : va_D A [(h, .inr (1, [.int (nI 2), .int kb, .ref fo, .ref ke, .ref ht, .ref wo, .ref fi, .ref se])), (fo, LA cJ 16 Fm), (wo, LA cJ 16 Wk), (fi, LA cJ 4 A1), (se, LA cJ 4 A2), (ht, .inr (0, [.int r2_9, .ref hc, .ref hf, .ref hp, .ref ho])), (hc, LA cJ 16 C2_10), (hf, LA cJ 16 F2_11), (hp, LA cJ 16 P2_12), (ho, LA cJ 5 O2_13)] := hD.sub [3, 4, 0, 1, 2, 5, 6, 7, 8, 9] (by decide) rfl
              obtain ⟨rfl, hw_8⟩ := hw_8
              refine xci (wc := [(h, .inr (1, [.int (nI 2), .int kb, .ref fo, .ref ke, .ref ht, .ref wo, .ref fi, .ref se])), (fo, LA cJ 16 Fm), (wo, LA cJ 16 Wk), (fi, LA cJ 4 A1), (se, LA cJ 4 A2), (ht, .inr (0, [.int r2_9, .ref hc, .ref hf, .ref hp, .ref ho])), (hc, LA cJ 16 C2_10), (hf, LA cJ 16 F2_11), (hp, LA cJ 16 P2_12), (ho, LA cJ 5 O2_13)]) (wr := []) hP hD hS hA [0, 1, 2, 3, 4, 5, 6, 7, 8, 9] [] rfl rfl (by decide) (by decide) (va_runV (As := [.int (nI (kindN Fm 2))]) (rest := []) ⟨hx, hb, hml, hown, hts⟩ (c_takeLines l D cJ h 2 kb fo ke ht wo fi se Fm Wk A1 A2 hc hf hp ho r2_9 C2_10 F2_11 P2_12 O2_13 (kindN Fm 2) (by first | assumption | omega) (Nat.le_trans (kiP_le _) (by decide)) (by first | assumption | omega) H.size) (cwV 1 hts (gV tw_267 tw_269 tws_11 tw_1 tw_270) rfl rfl rfl ⟨rfl, hd_K_takeLines⟩ ⟨Nat.le_of_ble_eq_true rfl, Nat.le_of_ble_eq_true rfl⟩) (xPreV (C := R_K) (T := F_K) (N := 8) (q0 := 0) hN hK (hP.sub (ws' := [(h, .inr (1, [.int (nI 2), .int kb, .ref fo, .ref ke, .ref ht, .ref wo, .ref fi, .ref se])), (fo, LA cJ 16 Fm), (wo, LA cJ 16 Wk), (fi, LA cJ 4 A1), (se, LA cJ 4 A2), (ht, .inr (0, [.int r2_9, .ref hc, .ref hf, .ref hp, .ref ho])), (hc, LA cJ 16 C2_10), (hf, LA cJ 16 F2_11), (hp, LA cJ 16 P2_12), (ho, LA cJ 5 O2_13)]) [0, 1, 2, 3, 4, 5, 6, 7, 8, 9] rfl) (hD.sub (ws' := [(h, .inr (1, [.int (nI 2), .int kb, .ref fo, .ref ke, .ref ht, .ref wo, .ref fi, .ref se])), (fo, LA cJ 16 Fm), (wo, LA cJ 16 Wk), (fi, LA cJ 4 A1), (se, LA cJ 4 A2), (ht, .inr (0, [.int r2_9, .ref hc, .ref hf, .ref hp, .ref ho])), (hc, LA cJ 16 C2_10), (hf, LA cJ 16 F2_11), (hp, LA cJ 16 P2_12), (ho, LA cJ 5 O2_13)]) [0, 1, 2, 3, 4, 5, 6, 7, 8, 9] (by decide) rfl) rfl rfl) rfl rfl hl.1 rfl (lv_room (Nat.le_of_ble_eq_true rfl)) d_K_line_43 ⟨Nat.le_of_ble_eq_true rfl, Nat.le_of_ble_eq_true rfl⟩) (fun r_14 u_15 H locs hln hP hD hS => ?_)
              obtain ⟨ln, L1, L2, W2_16, r2_17, C2_18, F2_19, P2_20, O2_21⟩ := u_15
              try dsimp only at hln
              have hP : va_P D vwC [(h, .inr (1, [.int (nI 2), .int kb, .ref fo, .ref ke, .ref ht, .ref wo, .ref fi, .ref se])), (fo, LA cJ 16 Fm), (wo, LA cJ 16 W2_16), (fi, LA cJ 4 L1), (se, LA cJ 4 L2), (ht, .inr (0, [.int r2_17, .ref hc, .ref hf, .ref hp, .ref ho])), (hc, LA cJ 16 C2_18), (hf, LA cJ 16 F2_19), (hp, LA cJ 16 P2_20), (ho, LA cJ 5 O2_21)] H := hP
              have hD : va_D A [(h, .inr (1, [.int (nI 2), .int kb, .ref fo, .ref ke, .ref ht, .ref wo, .ref fi, .ref se])), (fo, LA cJ 16 Fm), (wo, LA cJ 16 W2_16), (fi, LA cJ 4 L1), (se, LA cJ 4 L2), (ht, .inr (0, [.int r2_17, .ref hc, .ref hf, .ref hp, .ref ho])), (hc, LA cJ 16 C2_18), (hf, LA cJ 16 F2_19), (hp, LA cJ 16 P2_20), (ho, LA cJ 5 O2_21)] := hD
              obtain ⟨rfl, hln⟩ := hln
              refine lv_istore_n (lv' := [(3, .int (nI ln)), (0, .ref h), (1, .int (nI k)), (2, .int (nI i))]) hx hb d_K_line_46 rfl hl (by decide) rfl (fun ls hl => ?_)
              refine lv_iload_n hx hb d_K_line_47 rfl (lv_at hl 2 rfl) ?_
              refine lv_iload_n hx hb d_K_line_48 rfl (lv_at hl 0 rfl) ?_
              refine xn_lt (tgt := 56) hx hb (by omega) (by omega) d_K_line_49 (by decide) (fun c49_21 => ?_) (fun c49_21 => ?_)
              · skip
                refine lv_iload_n hx hb d_K_line_56 rfl (lv_at hl 0 rfl) ?_
                refine lv_iconst (v := nI 1) hx hb d_K_line_57 (by decide) ?_
                refine xn_eq (tgt := 84) hx hb (by omega) (by omega) d_K_line_58 (by decide) (fun c58_22 => ?_) (fun c58_22 => ?_)
                · skip
                  refine lv_iconst (v := nI 1) hx hb d_K_line_84 (by decide) ?_
                  refine lv_goto (tgt := 89) hx hb d_K_line_85 (by decide) ?_
                  refine lv_istore (lv' := [(4, .int (nI 1)), (3, .int (nI ln)), (0, .ref h), (1, .int (nI k)), (2, .int (nI i))]) hx hb d_K_line_89 hl (by decide) rfl (fun ls hl => ?_)
                  refine lv_iload hx hb d_K_line_91 (lv_at hl 0 rfl) ?_
                  refine xz_eq (tgt := 105) (X := (1 : Nat)) hx hb (nI_toInt (by omega)) d_K_line_93 (by decide) (fun c93_23 => absurd c93_23 (by omega)) (fun c93_23 => ?_)
                  refine lv_aload_n hx hb d_K_line_96 rfl (lv_at hl 2 rfl) ?_
                  refine va_get (D := D) (ci := 1) (v := .ref fi) (C := R_K) (T := F_K) (N := 8) hx hb hts iw_K hown hK hP 0 rfl rfl 6 (by decide) (hts _ tw_48) (fun _ h9 => h9) rfl d_K_line_97 ?_
                  refine lv_iload_n hx hb d_K_line_100 rfl (lv_at hl 4 rfl) ?_
                  refine xl_ald hx hb hK hP 3 0 rfl rfl (k := i) (by omega) (by first | decide | omega) d_K_line_101 ?_
                  refine lv_goto (tgt := 111) hx hb d_K_line_102 (by decide) ?_
                  exact hret H locs _ ls (lI (L1 i)) (L1 i, L1, L2, W2_16, r2_17, C2_18, F2_19, P2_20, O2_21) d_K_line_111 (by first | exact ⟨rfl, fun q => absurd ⟨rfl, by omega⟩ q, fun _ => ⟨ln, L1, L2, hln.2.1, by rw [hkt, hit]; exact (lnPick_1 (by omega) (Or.inl c58_22)).symm⟩⟩ | (dsimp only; exact ⟨rfl, fun q => absurd ⟨rfl, by omega⟩ q, fun _ => ⟨ln, L1, L2, hln.2.1, by rw [hkt, hit]; exact (lnPick_1 (by omega) (Or.inl c58_22)).symm⟩⟩)) hP hD hS
                · skip
                  refine lv_iload_n hx hb d_K_line_61 rfl (lv_at hl 2 rfl) ?_
                  refine xz_ne (tgt := 69) (X := (k : Nat)) hx hb (nI_toInt (by omega)) d_K_line_62 (by decide) (fun c62_24 => ?_) (fun c62_24 => ?_)
                  · skip
                    refine lv_iconst (v := nI 0) hx hb d_K_line_69 (by decide) ?_
                    refine lv_aload_n hx hb d_K_line_70 rfl (lv_at hl 1 rfl) ?_
                    refine va_get (D := D) (ci := 1) (v := .ref fi) (C := R_K) (T := F_K) (N := 8) hx hb hts iw_K hown hK hP 0 rfl rfl 6 (by decide) (hts _ tw_48) (fun _ h9 => h9) rfl d_K_line_71 ?_
                    refine lv_aload_n hx hb d_K_line_74 rfl (lv_at hl 1 rfl) ?_
                    refine va_get (D := D) (ci := 1) (v := .ref se) (C := R_K) (T := F_K) (N := 8) hx hb hts iw_K hown hK hP 0 rfl rfl 7 (by decide) (hts _ tw_49) (fun _ h9 => h9) rfl d_K_line_75 ?_
                    refine xci (wc := [(fi, LA cJ 4 L1), (se, LA cJ 4 L2)]) (wr := [(h, .inr (1, [.int (nI 2), .int kb, .ref fo, .ref ke, .ref ht, .ref wo, .ref fi, .ref se])), (fo, LA cJ 16 Fm), (wo, LA cJ 16 W2_16), (ht, .inr (0, [.int r2_17, .ref hc, .ref hf, .ref hp, .ref ho])), (hc, LA cJ 16 C2_18), (hf, LA cJ 16 F2_19), (hp, LA cJ 16 P2_20), (ho, LA cJ 5 O2_21)]) hP hD hS hA [3, 4] [0, 1, 2, 5, 6, 7, 8, 9] rfl rfl (by decide) (by decide) (va_runS (As := [.ref fi, .ref se]) (rest := [.int (nI 0)]) ⟨hx, hb, hml, hown, hts⟩ (c_less l D cJ fi L1 se L2 (hln.2.2 (by omega)) H.size) (cwS 2 hts (gS tw_295 tw_296 tw_1 tw_297) rfl rfl rfl ⟨rfl, hd_K_isLess⟩ ⟨Nat.le_of_ble_eq_true rfl, Nat.le_of_ble_eq_true rfl⟩) (xPreS hN hK (hP.sub (ws' := [(fi, LA cJ 4 L1), (se, LA cJ 4 L2)]) [3, 4] rfl) (hD.sub (ws' := [(fi, LA cJ 4 L1), (se, LA cJ 4 L2)]) [3, 4] (by decide) rfl)) rfl rfl hl.1 rfl (lv_room (Nat.le_of_ble_eq_true rfl)) d_K_line_78 ⟨Nat.le_of_ble_eq_true rfl, Nat.le_of_ble_eq_true rfl⟩) (fun r_26 u_27 H locs hls hP hD hS => ?_)
                    try dsimp only at hls
                    have hP : va_P D vwC [(h, .inr (1, [.int (nI 2), .int kb, .ref fo, .ref ke, .ref ht, .ref wo, .ref fi, .ref se])), (fo, LA cJ 16 Fm), (wo, LA cJ 16 W2_16), (fi, LA cJ 4 L1), (se, LA cJ 4 L2), (ht, .inr (0, [.int r2_17, .ref hc, .ref hf, .ref hp, .ref ho])), (hc, LA cJ 16 C2_18), (hf, LA cJ 16 F2_19), (hp, LA cJ 16 P2_20), (ho, LA cJ 5 O2_21)] H := hP.sub [0, 1, 2, 8, 9, 3, 4, 5, 6, 7] rfl
                    have hD : va_D A [(h, .inr (1, [.int (nI 2), .int kb, .ref fo, .ref ke, .ref ht, .ref wo, .ref fi, .ref se])), (fo, LA cJ 16 Fm), (wo, LA cJ 16 W2_16), (fi, LA cJ 4 L1), (se, LA cJ 4 L2), (ht, .inr (0, [.int r2_17, .ref hc, .ref hf, .ref hp, .ref ho])), (hc, LA cJ 16 C2_18), (hf, LA cJ 16 F2_19), (hp, LA cJ 16 P2_20), (ho, LA cJ 5 O2_21)] := hD.sub [0, 1, 2, 8, 9, 3, 4, 5, 6, 7] (by decide) rfl
                    rcases hls with ⟨rfl, hls⟩ | ⟨rfl, hls⟩
                    · skip
                      refine xn_ne (tgt := 88) hx hb (by omega) (by omega) d_K_line_81 (by decide) (fun c81_27 => ?_) (fun c81_27 => absurd c81_27 (by decide))
                      refine lv_iconst (v := nI 0) hx hb d_K_line_88 (by decide) ?_
                      refine lv_istore (lv' := [(4, .int (nI 0)), (3, .int (nI ln)), (0, .ref h), (1, .int (nI k)), (2, .int (nI i))]) hx hb d_K_line_89 hl (by decide) rfl (fun ls hl => ?_)
                      refine lv_iload hx hb d_K_line_91 (lv_at hl 0 rfl) ?_
                      refine xz_eq (tgt := 105) (X := (0 : Nat)) hx hb (nI_toInt (by omega)) d_K_line_93 (by decide) (fun c93_28 => ?_) (fun c93_28 => absurd c93_28 (by omega))
                      refine lv_aload_n hx hb d_K_line_105 rfl (lv_at hl 2 rfl) ?_
                      refine va_get (D := D) (ci := 1) (v := .ref se) (C := R_K) (T := F_K) (N := 8) hx hb hts iw_K hown hK hP 0 rfl rfl 7 (by decide) (hts _ tw_49) (fun _ h9 => h9) rfl d_K_line_106 ?_
                      refine lv_iload_n hx hb d_K_line_109 rfl (lv_at hl 4 rfl) ?_
                      refine xl_ald hx hb hK hP 4 0 rfl rfl (k := i) (by omega) (by first | decide | omega) d_K_line_110 ?_
                      exact hret H locs _ ls (lI (L2 i)) (L2 i, L1, L2, W2_16, r2_17, C2_18, F2_19, P2_20, O2_21) d_K_line_111 (by first | exact ⟨rfl, fun q => absurd ⟨rfl, by omega⟩ q, fun _ => ⟨ln, L1, L2, hln.2.1, by rw [hkt, hit]; exact (lnPick_2 (by omega) (fun q => q.elim (fun z => c58_22 z) (fun z => absurd (z.mpr hls) (by omega)))).symm⟩⟩ | (dsimp only; exact ⟨rfl, fun q => absurd ⟨rfl, by omega⟩ q, fun _ => ⟨ln, L1, L2, hln.2.1, by rw [hkt, hit]; exact (lnPick_2 (by omega) (fun q => q.elim (fun z => c58_22 z) (fun z => absurd (z.mpr hls) (by omega)))).symm⟩⟩)) hP hD hS
                    · skip
                      refine xn_ne (tgt := 88) hx hb (by omega) (by omega) d_K_line_81 (by decide) (fun c81_29 => absurd c81_29 (by decide)) (fun c81_29 => ?_)
                      refine lv_iconst (v := nI 1) hx hb d_K_line_84 (by decide) ?_
                      refine lv_goto (tgt := 89) hx hb d_K_line_85 (by decide) ?_
                      refine lv_istore (lv' := [(4, .int (nI 1)), (3, .int (nI ln)), (0, .ref h), (1, .int (nI k)), (2, .int (nI i))]) hx hb d_K_line_89 hl (by decide) rfl (fun ls hl => ?_)
                      refine lv_iload hx hb d_K_line_91 (lv_at hl 0 rfl) ?_
                      refine xz_eq (tgt := 105) (X := (1 : Nat)) hx hb (nI_toInt (by omega)) d_K_line_93 (by decide) (fun c93_30 => absurd c93_30 (by omega)) (fun c93_30 => ?_)
                      refine lv_aload_n hx hb d_K_line_96 rfl (lv_at hl 2 rfl) ?_
                      refine va_get (D := D) (ci := 1) (v := .ref fi) (C := R_K) (T := F_K) (N := 8) hx hb hts iw_K hown hK hP 0 rfl rfl 6 (by decide) (hts _ tw_48) (fun _ h9 => h9) rfl d_K_line_97 ?_
                      refine lv_iload_n hx hb d_K_line_100 rfl (lv_at hl 4 rfl) ?_
                      refine xl_ald hx hb hK hP 3 0 rfl rfl (k := i) (by omega) (by first | decide | omega) d_K_line_101 ?_
                      refine lv_goto (tgt := 111) hx hb d_K_line_102 (by decide) ?_
                      exact hret H locs _ ls (lI (L1 i)) (L1 i, L1, L2, W2_16, r2_17, C2_18, F2_19, P2_20, O2_21) d_K_line_111 (by first | exact ⟨rfl, fun q => absurd ⟨rfl, by omega⟩ q, fun _ => ⟨ln, L1, L2, hln.2.1, by rw [hkt, hit]; exact (lnPick_1 (by omega) (Or.inr ⟨fun q => absurd q (by omega), fun q => absurd q hls⟩)).symm⟩⟩ | (dsimp only; exact ⟨rfl, fun q => absurd ⟨rfl, by omega⟩ q, fun _ => ⟨ln, L1, L2, hln.2.1, by rw [hkt, hit]; exact (lnPick_1 (by omega) (Or.inr ⟨fun q => absurd q (by omega), fun q => absurd q hls⟩)).symm⟩⟩)) hP hD hS
                  · skip
                    refine lv_iconst (v := nI 1) hx hb d_K_line_65 (by decide) ?_
                    refine lv_goto (tgt := 70) hx hb d_K_line_66 (by decide) ?_
                    refine lv_aload_n hx hb d_K_line_70 rfl (lv_at hl 1 rfl) ?_
                    refine va_get (D := D) (ci := 1) (v := .ref fi) (C := R_K) (T := F_K) (N := 8) hx hb hts iw_K hown hK hP 0 rfl rfl 6 (by decide) (hts _ tw_48) (fun _ h9 => h9) rfl d_K_line_71 ?_
                    refine lv_aload_n hx hb d_K_line_74 rfl (lv_at hl 1 rfl) ?_
                    refine va_get (D := D) (ci := 1) (v := .ref se) (C := R_K) (T := F_K) (N := 8) hx hb hts iw_K hown hK hP 0 rfl rfl 7 (by decide) (hts _ tw_49) (fun _ h9 => h9) rfl d_K_line_75 ?_
                    refine xci (wc := [(fi, LA cJ 4 L1), (se, LA cJ 4 L2)]) (wr := [(h, .inr (1, [.int (nI 2), .int kb, .ref fo, .ref ke, .ref ht, .ref wo, .ref fi, .ref se])), (fo, LA cJ 16 Fm), (wo, LA cJ 16 W2_16), (ht, .inr (0, [.int r2_17, .ref hc, .ref hf, .ref hp, .ref ho])), (hc, LA cJ 16 C2_18), (hf, LA cJ 16 F2_19), (hp, LA cJ 16 P2_20), (ho, LA cJ 5 O2_21)]) hP hD hS hA [3, 4] [0, 1, 2, 5, 6, 7, 8, 9] rfl rfl (by decide) (by decide) (va_runS (As := [.ref fi, .ref se]) (rest := [.int (nI 1)]) ⟨hx, hb, hml, hown, hts⟩ (c_less l D cJ fi L1 se L2 (hln.2.2 (by omega)) H.size) (cwS 2 hts (gS tw_295 tw_296 tw_1 tw_297) rfl rfl rfl ⟨rfl, hd_K_isLess⟩ ⟨Nat.le_of_ble_eq_true rfl, Nat.le_of_ble_eq_true rfl⟩) (xPreS hN hK (hP.sub (ws' := [(fi, LA cJ 4 L1), (se, LA cJ 4 L2)]) [3, 4] rfl) (hD.sub (ws' := [(fi, LA cJ 4 L1), (se, LA cJ 4 L2)]) [3, 4] (by decide) rfl)) rfl rfl hl.1 rfl (lv_room (Nat.le_of_ble_eq_true rfl)) d_K_line_78 ⟨Nat.le_of_ble_eq_true rfl, Nat.le_of_ble_eq_true rfl⟩) (fun r_32 u_33 H locs hls hP hD hS => ?_)
                    try dsimp only at hls
                    have hP : va_P D vwC [(h, .inr (1, [.int (nI 2), .int kb, .ref fo, .ref ke, .ref ht, .ref wo, .ref fi, .ref se])), (fo, LA cJ 16 Fm), (wo, LA cJ 16 W2_16), (fi, LA cJ 4 L1), (se, LA cJ 4 L2), (ht, .inr (0, [.int r2_17, .ref hc, .ref hf, .ref hp, .ref ho])), (hc, LA cJ 16 C2_18), (hf, LA cJ 16 F2_19), (hp, LA cJ 16 P2_20), (ho, LA cJ 5 O2_21)] H := hP.sub [0, 1, 2, 8, 9, 3, 4, 5, 6, 7] rfl
                    have hD : va_D A [(h, .inr (1, [.int (nI 2), .int kb, .ref fo, .ref ke, .ref ht, .ref wo, .ref fi, .ref se])), (fo, LA cJ 16 Fm), (wo, LA cJ 16 W2_16), (fi, LA cJ 4 L1), (se, LA cJ 4 L2), (ht, .inr (0, [.int r2_17, .ref hc, .ref hf, .ref hp, .ref ho])), (hc, LA cJ 16 C2_18), (hf, LA cJ 16 F2_19), (hp, LA cJ 16 P2_20), (ho, LA cJ 5 O2_21)] := hD.sub [0, 1, 2, 8, 9, 3, 4, 5, 6, 7] (by decide) rfl
                    rcases hls with ⟨rfl, hls⟩ | ⟨rfl, hls⟩
                    · skip
                      refine xn_ne (tgt := 88) hx hb (by omega) (by omega) d_K_line_81 (by decide) (fun c81_33 => absurd c81_33 (by decide)) (fun c81_33 => ?_)
                      refine lv_iconst (v := nI 1) hx hb d_K_line_84 (by decide) ?_
                      refine lv_goto (tgt := 89) hx hb d_K_line_85 (by decide) ?_
                      refine lv_istore (lv' := [(4, .int (nI 1)), (3, .int (nI ln)), (0, .ref h), (1, .int (nI k)), (2, .int (nI i))]) hx hb d_K_line_89 hl (by decide) rfl (fun ls hl => ?_)
                      refine lv_iload hx hb d_K_line_91 (lv_at hl 0 rfl) ?_
                      refine xz_eq (tgt := 105) (X := (1 : Nat)) hx hb (nI_toInt (by omega)) d_K_line_93 (by decide) (fun c93_34 => absurd c93_34 (by omega)) (fun c93_34 => ?_)
                      refine lv_aload_n hx hb d_K_line_96 rfl (lv_at hl 2 rfl) ?_
                      refine va_get (D := D) (ci := 1) (v := .ref fi) (C := R_K) (T := F_K) (N := 8) hx hb hts iw_K hown hK hP 0 rfl rfl 6 (by decide) (hts _ tw_48) (fun _ h9 => h9) rfl d_K_line_97 ?_
                      refine lv_iload_n hx hb d_K_line_100 rfl (lv_at hl 4 rfl) ?_
                      refine xl_ald hx hb hK hP 3 0 rfl rfl (k := i) (by omega) (by first | decide | omega) d_K_line_101 ?_
                      refine lv_goto (tgt := 111) hx hb d_K_line_102 (by decide) ?_
                      exact hret H locs _ ls (lI (L1 i)) (L1 i, L1, L2, W2_16, r2_17, C2_18, F2_19, P2_20, O2_21) d_K_line_111 (by first | exact ⟨rfl, fun q => absurd ⟨rfl, by omega⟩ q, fun _ => ⟨ln, L1, L2, hln.2.1, by rw [hkt, hit]; exact (lnPick_1 (by omega) (Or.inr ⟨fun _ => hls, fun _ => by omega⟩)).symm⟩⟩ | (dsimp only; exact ⟨rfl, fun q => absurd ⟨rfl, by omega⟩ q, fun _ => ⟨ln, L1, L2, hln.2.1, by rw [hkt, hit]; exact (lnPick_1 (by omega) (Or.inr ⟨fun _ => hls, fun _ => by omega⟩)).symm⟩⟩)) hP hD hS
                    · skip
                      refine xn_ne (tgt := 88) hx hb (by omega) (by omega) d_K_line_81 (by decide) (fun c81_35 => ?_) (fun c81_35 => absurd c81_35 (by decide))
                      refine lv_iconst (v := nI 0) hx hb d_K_line_88 (by decide) ?_
                      refine lv_istore (lv' := [(4, .int (nI 0)), (3, .int (nI ln)), (0, .ref h), (1, .int (nI k)), (2, .int (nI i))]) hx hb d_K_line_89 hl (by decide) rfl (fun ls hl => ?_)
                      refine lv_iload hx hb d_K_line_91 (lv_at hl 0 rfl) ?_
                      refine xz_eq (tgt := 105) (X := (0 : Nat)) hx hb (nI_toInt (by omega)) d_K_line_93 (by decide) (fun c93_36 => ?_) (fun c93_36 => absurd c93_36 (by omega))
                      refine lv_aload_n hx hb d_K_line_105 rfl (lv_at hl 2 rfl) ?_
                      refine va_get (D := D) (ci := 1) (v := .ref se) (C := R_K) (T := F_K) (N := 8) hx hb hts iw_K hown hK hP 0 rfl rfl 7 (by decide) (hts _ tw_49) (fun _ h9 => h9) rfl d_K_line_106 ?_
                      refine lv_iload_n hx hb d_K_line_109 rfl (lv_at hl 4 rfl) ?_
                      refine xl_ald hx hb hK hP 4 0 rfl rfl (k := i) (by omega) (by first | decide | omega) d_K_line_110 ?_
                      exact hret H locs _ ls (lI (L2 i)) (L2 i, L1, L2, W2_16, r2_17, C2_18, F2_19, P2_20, O2_21) d_K_line_111 (by first | exact ⟨rfl, fun q => absurd ⟨rfl, by omega⟩ q, fun _ => ⟨ln, L1, L2, hln.2.1, by rw [hkt, hit]; exact (lnPick_2 (by omega) (fun q => q.elim (fun z => c58_22 z) (fun z => hls (z.mp (by omega))))).symm⟩⟩ | (dsimp only; exact ⟨rfl, fun q => absurd ⟨rfl, by omega⟩ q, fun _ => ⟨ln, L1, L2, hln.2.1, by rw [hkt, hit]; exact (lnPick_2 (by omega) (fun q => q.elim (fun z => c58_22 z) (fun z => hls (z.mp (by omega))))).symm⟩⟩)) hP hD hS
              · skip
                refine lv_ldc2 (v := lI (-1000000000000000000)) hx hb hown (hts _ tw_85) d_K_line_52 ?_
                exact hret H locs _ ls (lI (-1000000000000000000)) ((-1000000000000000000), L1, L2, W2_16, r2_17, C2_18, F2_19, P2_20, O2_21) d_K_line_55 (by first | exact ⟨rfl, fun q => absurd ⟨rfl, by omega⟩ q, fun _ => ⟨ln, L1, L2, hln.2.1, by rw [hkt, hit]; exact (lnPick_n (by omega)).symm⟩⟩ | (dsimp only; exact ⟨rfl, fun q => absurd ⟨rfl, by omega⟩ q, fun _ => ⟨ln, L1, L2, hln.2.1, by rw [hkt, hit]; exact (lnPick_n (by omega)).symm⟩⟩)) hP hD hS
            · skip
              refine lv_ldc2 (v := lI (-1000000000000000000)) hx hb hown (hts _ tw_85) d_K_line_26 ?_
              exact hret H locs _ ls (lI (-1000000000000000000)) ((-1000000000000000000), A1, A2, Wk, r0, C, F, P, O) d_K_line_29 (by first | exact ⟨rfl, fun _ => rfl, fun q => absurd q (by omega)⟩ | (dsimp only; exact ⟨rfl, fun _ => rfl, fun q => absurd q (by omega)⟩)) hP hD hS
  rw [hH, hlc] at key; exact key
