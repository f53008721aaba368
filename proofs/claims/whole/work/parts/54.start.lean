/-! the law's start (wip/gen_law.py) -/
theorem x_arr {a : Array Value} {s : State} {ty : FieldType} (hty : ∀ C, ty ≠ .object C) (h : (Cond.arrayClass ty).before a s = true) : ∃ cA, ArrOfT s cA ty ∧ va_RA s cA ty := by
  obtain ⟨cA, kA, comp, h1, h2, h3⟩ := Cond.arrayClass_spec h
  refine ⟨cA, fun n z => ⟨fun k h => (by cases h), kA, h2, comp, h3⟩, ?_⟩
  cases ty with
  | object C => exact absurd rfl (hty C)
  | _ => exact h1
set_option maxHeartbeats 4000000 in
set_option maxRecDepth 100000 in
theorem whole_start {p : Program} {e : Env} {s : State} {m : MethodId} {below : List Frame} {meth : Method} {c : Code} (l : Launch) (hl0 : l.stackTraces = false) {b L : Nat} {xs : Nat → Int32} (hL : L ≤ 3584) (C0 : lw_At p s m meth c b L xs) : W p l e room_1 s m #[Value.ref b] below meth c s.heap [] 0 0 (lw_Z below #[Value.ref b] s) (entryFrame m ([Value.ref b] : List Value).toArray 8) := by
  obtain ⟨hx, hb, hr, hml, hown, hts0, hX, hbl, hlocks, hgv⟩ := id C0
  have hts : ∀ w ∈ tW, w.before #[Value.ref b] s = true := fun w h => hts0 w (List.mem_filter.mp h).1
  obtain ⟨A, hAe⟩ : ∃ z : Nat → Prop, z = fun q => s.heap.size ≤ q := ⟨_, rfl⟩
  have hA : ∀ q : Nat, s.heap.size ≤ q → A q := fun q h => by rw [hAe]; exact h
  have hAo : ∀ q : Nat, A q → s.heap.size ≤ q := fun q h => by rw [hAe] at h; exact h
  have hbA : ¬ A b := fun z => Nat.not_le.mpr hbl (hAo b z)
  obtain ⟨k0, i0, hKn0⟩ := u_known (C := R_T) (T := F_T) (N := 5) (n := 5) hts iw_T (hts _ tw_20)
  obtain ⟨k1, i1, hKn1⟩ := u_known (C := R_K) (T := F_K) (N := 8) (n := 8) hts iw_K (hts _ tw_12)
  obtain ⟨k2, i2, hKn2⟩ := u_known (C := R_M) (T := F_M) (N := 21) (n := 21) hts iw_M (hts _ tw_382)
  obtain ⟨dC, dI, hKc⟩ : ∃ (dC : Nat → ClassId) (dI : Nat → Nat → Nat), ∀ (k : Nat) (q : vw_C), vwC[k]? = some q → u_Kn s q.1 q.2.1 q.2.2 (dC k) (dI k) := by
    refine ⟨fun k => if k = 0 then k0 else if k = 1 then k1 else k2, fun k => if k = 0 then i0 else if k = 1 then i1 else i2, ?_⟩
    intro k q hq
    match k, hq with
    | 0, hq => cases hq; exact hKn0
    | 1, hq => cases hq; exact hKn1
    | 2, hq => cases hq; exact hKn2
    | k + 3, hq => simp at hq
  obtain ⟨D, hDe⟩ : ∃ z : va_G, z = (dC, dI) := ⟨_, rfl⟩
  obtain ⟨cJ, aj1, aj2⟩ := x_arr (ty := .long) (fun C h => by cases h) (hts _ tw_41)
  obtain ⟨cI, ai1, ai2⟩ := x_arr (ty := .int) (fun C h => by cases h) (hts _ tw_451)
  have hK : va_K D vwC [(cJ, .long), (cI, .int)] s := by
    subst hDe
    refine ⟨hKc, fun k q h => ?_⟩
    match k, h with
    | 0, h => cases h; exact ⟨aj1, aj2⟩
    | 1, h => cases h; exact ⟨ai1, ai2⟩
    | k + 2, h => simp at h
  have hK1 := hK.sub (tys' := [(cJ, .long)]) [0] rfl
  have hN : xN s := x_nest hts0
  obtain ⟨sa, hxh⟩ : ∃ sa, xH sa s := x_heap hts0 hgv (hK.1 1 _ rfl).2.1
  have hown : s.vm.findClass R_L = some m.cls := hown
  obtain ⟨H, hH⟩ : ∃ z, z = s.heap := ⟨_, rfl⟩
  obtain ⟨locs, hlc⟩ : ∃ z : List Loc, z = [] := ⟨_, rfl⟩
  have hS : va_S A s.heap H locs := by rw [hH, hlc]; exact va_S.rf
  have hP : va_P D vwC [] H := fun k q h => by simp at h
  have hD : va_D A [] := ⟨fun i j p q h => by simp at h, fun k q h => by simp at h⟩
  have hl := lv_entry ([.ref b]) (n := 8) (Nat.le_of_ble_eq_true rfl)
  rw [lg_entry_eq]
  generalize (lg_sl ([.ref b]) ++ List.replicate (8 - (lg_sl ([.ref b])).length) Slot.unset).toArray = ls at hl ⊢
  have hl : lv_has ls 8 [(0, .ref b)] := hl
  have key : W p l e room_1 s m #[Value.ref b] below meth c H locs 0 0 (lw_Z below #[Value.ref b] s) (F0 m 0 ls []) := by
    refine va_new (ci := 1) (fs := [.int (nI 0), .int (nI 0), .null, .null, .null, .null, .null, .null]) (C := R_K) (T := F_K) (N := 8) hx hb hts iw_K ft_K ft_K_ok hown (hts _ tw_11) (hts _ tw_12) (hts _ tw_1) hK hP hD hS hA rfl (fun j hj => by rcases (show j = 0 ∨ j = 1 ∨ j = 2 ∨ j = 3 ∨ j = 4 ∨ j = 5 ∨ j = 6 ∨ j = 7 by omega) with rfl | rfl | rfl | rfl | rfl | rfl | rfl | rfl <;> rfl) (Nat.le_of_ble_eq_true rfl) (Nat.le_of_ble_eq_true rfl) d_law_0 (fun h H hP hD hS => ?_)
    have hP : va_P D vwC [(h, .inr (1, [.int (nI 0), .int (nI 0), .null, .null, .null, .null, .null, .null]))] H := hP
    have hD : va_D A [(h, .inr (1, [.int (nI 0), .int (nI 0), .null, .null, .null, .null, .null, .null]))] := hD
    refine lv_dup hx hb d_law_3 rfl ?_
    refine xcvN (wc := [(h, .inr (1, [.int (nI 0), .int (nI 0), .null, .null, .null, .null, .null, .null]))]) (wr := []) hP hD hS hA [0] [] rfl rfl (by decide) (by decide) (va_runI (As := []) (rest := [.ref h]) ⟨hx, hb, hml, hown, hts⟩ (k_init l D cJ h H.size) (cwI 0 hts (gN tw_15) rfl rfl rfl (hts _ tw_1) (hts _ tw_13) (hts _ tw_14) rfl hd_K_init ⟨Nat.le_of_ble_eq_true rfl, Nat.le_of_ble_eq_true rfl⟩) (xPreS hN hK1 (hP.sub (ws' := [(h, .inr (1, [.int (nI 0), .int (nI 0), .null, .null, .null, .null, .null, .null]))]) [0] rfl) (hD.sub (ws' := [(h, .inr (1, [.int (nI 0), .int (nI 0), .null, .null, .null, .null, .null, .null]))]) [0] (by decide) rfl)) rfl rfl hl.1 rfl (lv_room (Nat.le_of_ble_eq_true rfl)) d_law_4 ⟨Nat.le_of_ble_eq_true rfl, Nat.le_of_ble_eq_true rfl⟩) (fun u_2 H locs hw_3 hP hD hS => ?_)
    obtain ⟨fo, ke, ht, hc, hf, hp, ho, wo, fi, se⟩ := u_2
    try dsimp only at hw_3
    have hP : va_P D vwC [(h, .inr (1, [.int (nI 2), .int (nI 0), .ref fo, .ref ke, .ref ht, .ref wo, .ref fi, .ref se])), (fo, LA cJ 16 (fun _ => 0)), (ke, LA cJ 16 (fun _ => 0)), (ht, .inr (0, [.int (nI 0), .ref hc, .ref hf, .ref hp, .ref ho])), (hc, LA cJ 16 (fun _ => 0)), (hf, LA cJ 16 (fun _ => 0)), (hp, LA cJ 16 (fun _ => 0)), (ho, LA cJ 5 (fun _ => 0)), (wo, LA cJ 16 (fun _ => 0)), (fi, LA cJ 4 (fun _ => 0)), (se, LA cJ 4 (fun _ => 0))] H := hP
    have hD : va_D A [(h, .inr (1, [.int (nI 2), .int (nI 0), .ref fo, .ref ke, .ref ht, .ref wo, .ref fi, .ref se])), (fo, LA cJ 16 (fun _ => 0)), (ke, LA cJ 16 (fun _ => 0)), (ht, .inr (0, [.int (nI 0), .ref hc, .ref hf, .ref hp, .ref ho])), (hc, LA cJ 16 (fun _ => 0)), (hf, LA cJ 16 (fun _ => 0)), (hp, LA cJ 16 (fun _ => 0)), (ho, LA cJ 5 (fun _ => 0)), (wo, LA cJ 16 (fun _ => 0)), (fi, LA cJ 4 (fun _ => 0)), (se, LA cJ 4 (fun _ => 0))] := hD
    refine lv_astore_n (lv' := [(1, .ref h), (0, .ref b)]) hx hb d_law_7 rfl hl (by decide) rfl (fun ls hl => ?_)
    refine va_new (ci := 2) (fs := [.int (nI 0), .int (nI 0), .null, .int (nI 0), .null, .null, .int (nI 0), .null, .int (nI 0), .int (nI 0), .null, .null, .int (nI 0), .int (nI 0), .int (nI 0), .int (nI 0), .null, .null, .null, .null, .int (nI 0)]) (C := R_M) (T := F_M) (N := 21) hx hb hts iw_M ft_M ft_M_ok hown (hts _ tw_381) (hts _ tw_382) (hts _ tw_3) hK hP hD hS hA rfl (fun j hj => by rcases (show j = 0 ∨ j = 1 ∨ j = 2 ∨ j = 3 ∨ j = 4 ∨ j = 5 ∨ j = 6 ∨ j = 7 ∨ j = 8 ∨ j = 9 ∨ j = 10 ∨ j = 11 ∨ j = 12 ∨ j = 13 ∨ j = 14 ∨ j = 15 ∨ j = 16 ∨ j = 17 ∨ j = 18 ∨ j = 19 ∨ j = 20 by omega) with rfl | rfl | rfl | rfl | rfl | rfl | rfl | rfl | rfl | rfl | rfl | rfl | rfl | rfl | rfl | rfl | rfl | rfl | rfl | rfl | rfl <;> rfl) (Nat.le_of_ble_eq_true rfl) (Nat.le_of_ble_eq_true rfl) d_law_8 (fun g H hP hD hS => ?_)
    have hP : va_P D vwC [(h, .inr (1, [.int (nI 2), .int (nI 0), .ref fo, .ref ke, .ref ht, .ref wo, .ref fi, .ref se])), (fo, LA cJ 16 (fun _ => 0)), (ke, LA cJ 16 (fun _ => 0)), (ht, .inr (0, [.int (nI 0), .ref hc, .ref hf, .ref hp, .ref ho])), (hc, LA cJ 16 (fun _ => 0)), (hf, LA cJ 16 (fun _ => 0)), (hp, LA cJ 16 (fun _ => 0)), (ho, LA cJ 5 (fun _ => 0)), (wo, LA cJ 16 (fun _ => 0)), (fi, LA cJ 4 (fun _ => 0)), (se, LA cJ 4 (fun _ => 0)), (g, .inr (2, [.int (nI 0), .int (nI 0), .null, .int (nI 0), .null, .null, .int (nI 0), .null, .int (nI 0), .int (nI 0), .null, .null, .int (nI 0), .int (nI 0), .int (nI 0), .int (nI 0), .null, .null, .null, .null, .int (nI 0)]))] H := hP
    have hD : va_D A [(h, .inr (1, [.int (nI 2), .int (nI 0), .ref fo, .ref ke, .ref ht, .ref wo, .ref fi, .ref se])), (fo, LA cJ 16 (fun _ => 0)), (ke, LA cJ 16 (fun _ => 0)), (ht, .inr (0, [.int (nI 0), .ref hc, .ref hf, .ref hp, .ref ho])), (hc, LA cJ 16 (fun _ => 0)), (hf, LA cJ 16 (fun _ => 0)), (hp, LA cJ 16 (fun _ => 0)), (ho, LA cJ 5 (fun _ => 0)), (wo, LA cJ 16 (fun _ => 0)), (fi, LA cJ 4 (fun _ => 0)), (se, LA cJ 4 (fun _ => 0)), (g, .inr (2, [.int (nI 0), .int (nI 0), .null, .int (nI 0), .null, .null, .int (nI 0), .null, .int (nI 0), .int (nI 0), .null, .null, .int (nI 0), .int (nI 0), .int (nI 0), .int (nI 0), .null, .null, .null, .null, .int (nI 0)]))] := hD
    refine lv_dup hx hb d_law_11 rfl ?_
    refine xcvN (wc := [(g, .inr (2, [.int (nI 0), .int (nI 0), .null, .int (nI 0), .null, .null, .int (nI 0), .null, .int (nI 0), .int (nI 0), .null, .null, .int (nI 0), .int (nI 0), .int (nI 0), .int (nI 0), .null, .null, .null, .null, .int (nI 0)]))]) (wr := [(h, .inr (1, [.int (nI 2), .int (nI 0), .ref fo, .ref ke, .ref ht, .ref wo, .ref fi, .ref se])), (fo, LA cJ 16 (fun _ => 0)), (ke, LA cJ 16 (fun _ => 0)), (ht, .inr (0, [.int (nI 0), .ref hc, .ref hf, .ref hp, .ref ho])), (hc, LA cJ 16 (fun _ => 0)), (hf, LA cJ 16 (fun _ => 0)), (hp, LA cJ 16 (fun _ => 0)), (ho, LA cJ 5 (fun _ => 0)), (wo, LA cJ 16 (fun _ => 0)), (fi, LA cJ 4 (fun _ => 0)), (se, LA cJ 4 (fun _ => 0))]) hP hD hS hA [11] [0, 1, 2, 3, 4, 5, 6, 7, 8, 9, 10] rfl rfl (by decide) (by decide) (va_runI (As := []) (rest := [.ref g]) ⟨hx, hb, hml, hown, hts⟩ (r_init l D cJ cI g H.size) (cwI 0 hts (gN tw_385) rfl rfl rfl (hts _ tw_3) (hts _ tw_383) (hts _ tw_384) rfl hd_M_init ⟨Nat.le_of_ble_eq_true rfl, Nat.le_of_ble_eq_true rfl⟩) (xPreS hN hK (hP.sub (ws' := [(g, .inr (2, [.int (nI 0), .int (nI 0), .null, .int (nI 0), .null, .null, .int (nI 0), .null, .int (nI 0), .int (nI 0), .null, .null, .int (nI 0), .int (nI 0), .int (nI 0), .int (nI 0), .null, .null, .null, .null, .int (nI 0)]))]) [11] rfl) (hD.sub (ws' := [(g, .inr (2, [.int (nI 0), .int (nI 0), .null, .int (nI 0), .null, .null, .int (nI 0), .null, .int (nI 0), .int (nI 0), .null, .null, .int (nI 0), .int (nI 0), .int (nI 0), .int (nI 0), .null, .null, .null, .null, .int (nI 0)]))]) [11] (by decide) rfl)) rfl rfl hl.1 rfl (lv_room (Nat.le_of_ble_eq_true rfl)) d_law_12 ⟨Nat.le_of_ble_eq_true rfl, Nat.le_of_ble_eq_true rfl⟩) (fun u_5 H locs hw_6 hP hD hS => ?_)
    obtain ⟨mm, kf, tb, wk, pl, sp, po, to, ba, li⟩ := u_5
    try dsimp only at hw_6
    have hP : va_P D vwC [(h, .inr (1, [.int (nI 2), .int (nI 0), .ref fo, .ref ke, .ref ht, .ref wo, .ref fi, .ref se])), (fo, LA cJ 16 (fun _ => 0)), (ke, LA cJ 16 (fun _ => 0)), (ht, .inr (0, [.int (nI 0), .ref hc, .ref hf, .ref hp, .ref ho])), (hc, LA cJ 16 (fun _ => 0)), (hf, LA cJ 16 (fun _ => 0)), (hp, LA cJ 16 (fun _ => 0)), (ho, LA cJ 5 (fun _ => 0)), (wo, LA cJ 16 (fun _ => 0)), (fi, LA cJ 4 (fun _ => 0)), (se, LA cJ 4 (fun _ => 0)), (g, .inr (2, [.int (nI 0), .int (nI 2), .ref mm, .int (nI 0), .ref kf, .ref tb, .int (nI 0), .ref wk, .int (nI 0), .int (nI 0), .ref pl, .ref sp, .int (nI 0), .int (nI 0), .int (nI 0), .int (nI 0), .ref po, .ref to, .ref ba, .ref li, .int (nI 0)])), (mm, IA cI 16 (fun _ => 0)), (kf, IA cI 16 (fun _ => 0)), (tb, LA cJ 16 (fun _ => 0)), (wk, LA cJ 20 (fun _ => 0)), (pl, IA cI 24 plF), (sp, IA cI 40 spF), (po, LA cJ 4 (fun _ => 0)), (to, LA cJ 4 (fun _ => 0)), (ba, LA cJ 12 (fun _ => 0)), (li, LA cJ 6 (fun _ => 0))] H := hP
    have hD : va_D A [(h, .inr (1, [.int (nI 2), .int (nI 0), .ref fo, .ref ke, .ref ht, .ref wo, .ref fi, .ref se])), (fo, LA cJ 16 (fun _ => 0)), (ke, LA cJ 16 (fun _ => 0)), (ht, .inr (0, [.int (nI 0), .ref hc, .ref hf, .ref hp, .ref ho])), (hc, LA cJ 16 (fun _ => 0)), (hf, LA cJ 16 (fun _ => 0)), (hp, LA cJ 16 (fun _ => 0)), (ho, LA cJ 5 (fun _ => 0)), (wo, LA cJ 16 (fun _ => 0)), (fi, LA cJ 4 (fun _ => 0)), (se, LA cJ 4 (fun _ => 0)), (g, .inr (2, [.int (nI 0), .int (nI 2), .ref mm, .int (nI 0), .ref kf, .ref tb, .int (nI 0), .ref wk, .int (nI 0), .int (nI 0), .ref pl, .ref sp, .int (nI 0), .int (nI 0), .int (nI 0), .int (nI 0), .ref po, .ref to, .ref ba, .ref li, .int (nI 0)])), (mm, IA cI 16 (fun _ => 0)), (kf, IA cI 16 (fun _ => 0)), (tb, LA cJ 16 (fun _ => 0)), (wk, LA cJ 20 (fun _ => 0)), (pl, IA cI 24 plF), (sp, IA cI 40 spF), (po, LA cJ 4 (fun _ => 0)), (to, LA cJ 4 (fun _ => 0)), (ba, LA cJ 12 (fun _ => 0)), (li, LA cJ 6 (fun _ => 0))] := hD
    refine lv_astore_n (lv' := [(2, .ref g), (1, .ref h), (0, .ref b)]) hx hb d_law_15 rfl hl (by decide) rfl (fun ls hl => ?_)
    refine lv_iconst (v := nI 1) hx hb d_law_16 (by decide) ?_
    refine x_newJ hx hb (hts _ tw_41) hK hP hD hS hA 0 rfl (N := 1) (by decide) (Nat.le_of_ble_eq_true rfl) (Nat.le_of_ble_eq_true rfl) d_law_17 (fun ou H hP hD hS => ?_)
    have hP : va_P D vwC [(h, .inr (1, [.int (nI 2), .int (nI 0), .ref fo, .ref ke, .ref ht, .ref wo, .ref fi, .ref se])), (fo, LA cJ 16 (fun _ => 0)), (ke, LA cJ 16 (fun _ => 0)), (ht, .inr (0, [.int (nI 0), .ref hc, .ref hf, .ref hp, .ref ho])), (hc, LA cJ 16 (fun _ => 0)), (hf, LA cJ 16 (fun _ => 0)), (hp, LA cJ 16 (fun _ => 0)), (ho, LA cJ 5 (fun _ => 0)), (wo, LA cJ 16 (fun _ => 0)), (fi, LA cJ 4 (fun _ => 0)), (se, LA cJ 4 (fun _ => 0)), (g, .inr (2, [.int (nI 0), .int (nI 2), .ref mm, .int (nI 0), .ref kf, .ref tb, .int (nI 0), .ref wk, .int (nI 0), .int (nI 0), .ref pl, .ref sp, .int (nI 0), .int (nI 0), .int (nI 0), .int (nI 0), .ref po, .ref to, .ref ba, .ref li, .int (nI 0)])), (mm, IA cI 16 (fun _ => 0)), (kf, IA cI 16 (fun _ => 0)), (tb, LA cJ 16 (fun _ => 0)), (wk, LA cJ 20 (fun _ => 0)), (pl, IA cI 24 plF), (sp, IA cI 40 spF), (po, LA cJ 4 (fun _ => 0)), (to, LA cJ 4 (fun _ => 0)), (ba, LA cJ 12 (fun _ => 0)), (li, LA cJ 6 (fun _ => 0)), (ou, LA cJ 1 (fun _ => 0))] H := hP
    have hD : va_D A [(h, .inr (1, [.int (nI 2), .int (nI 0), .ref fo, .ref ke, .ref ht, .ref wo, .ref fi, .ref se])), (fo, LA cJ 16 (fun _ => 0)), (ke, LA cJ 16 (fun _ => 0)), (ht, .inr (0, [.int (nI 0), .ref hc, .ref hf, .ref hp, .ref ho])), (hc, LA cJ 16 (fun _ => 0)), (hf, LA cJ 16 (fun _ => 0)), (hp, LA cJ 16 (fun _ => 0)), (ho, LA cJ 5 (fun _ => 0)), (wo, LA cJ 16 (fun _ => 0)), (fi, LA cJ 4 (fun _ => 0)), (se, LA cJ 4 (fun _ => 0)), (g, .inr (2, [.int (nI 0), .int (nI 2), .ref mm, .int (nI 0), .ref kf, .ref tb, .int (nI 0), .ref wk, .int (nI 0), .int (nI 0), .ref pl, .ref sp, .int (nI 0), .int (nI 0), .int (nI 0), .int (nI 0), .ref po, .ref to, .ref ba, .ref li, .int (nI 0)])), (mm, IA cI 16 (fun _ => 0)), (kf, IA cI 16 (fun _ => 0)), (tb, LA cJ 16 (fun _ => 0)), (wk, LA cJ 20 (fun _ => 0)), (pl, IA cI 24 plF), (sp, IA cI 40 spF), (po, LA cJ 4 (fun _ => 0)), (to, LA cJ 4 (fun _ => 0)), (ba, LA cJ 12 (fun _ => 0)), (li, LA cJ 6 (fun _ => 0)), (ou, LA cJ 1 (fun _ => 0))] := hD
    refine lv_astore_n (lv' := [(3, .ref ou), (2, .ref g), (1, .ref h), (0, .ref b)]) hx hb d_law_19 rfl hl (by decide) rfl (fun ls hl => ?_)
    refine lv_iconst (v := nI 0) hx hb d_law_20 (by decide) ?_
    refine lv_istore (lv' := [(4, .int (nI 0)), (3, .ref ou), (2, .ref g), (1, .ref h), (0, .ref b)]) hx hb d_law_21 hl (by decide) rfl (fun ls hl => ?_)
    refine W.widen (k := 23 + 0) (n := 302 + 6 * 0) (by decide) (by decide) ?_
    exact l_loop hx hb hr hlocks hml hown hts hX hbl hL hN hA hAo hK hl0 hxh 514 0 (by decide) (by decide) _ H locs ls ⟨2, nI 0, nI 0, nI 0, nI 0, nI 0, nI 0, nI 0, nI 0, nI 0, nI 0, nI 0, fun _ => 0, fun _ => 0, fun _ => 0, fun _ => 0, fun _ => 0, fun _ => 0, fun _ => 0, fun _ => 0, fun _ => 0, fun _ => 0, fun _ => 0, fun _ => 0, fun _ => 0, fun _ => 0, fun _ => 0, fun _ => 0, ok_0 2 (by decide) (by decide), fun _ _ => in0, rfl⟩ hP hD hS (lv_sub hl [4, 3, 2, 1, 0] rfl)
  rw [hH, hlc] at key; exact key
