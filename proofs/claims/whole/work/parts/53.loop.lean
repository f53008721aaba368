/-! the law's loop (wip/gen_law.py) -/
set_option maxHeartbeats 4000000 in
set_option maxRecDepth 100000 in
theorem l_loop {p : Program} {l : Launch} {e : Env} {s : State} {m : MethodId} {below : List Frame} {meth : Method} {c : Code} {D : va_G} {cJ cI : ClassId} {A : Nat → Prop} {b L : Nat} {xs : Nat → Int32} {h fo ke ht hc hf hp ho wo fi se g mm kf tb wk pl sp po to ba li ou : Nat} (hx : p.tables.exec = Jvm.exec) (hb : c.code = code) (hr : meth.sig.returnType = ret) (hlocks : meth.locks = false) (hml : c.maxLocals = 8) (hown : s.vm.findClass R_L = some m.cls) (hts : ∀ w ∈ tW, w.before #[Value.ref b] s = true) (hX : va_X b L xs s s.heap) (hbl : b < s.heap.size) (hL : L ≤ 3584) (hN : xN s) (hA : ∀ q, s.heap.size ≤ q → A q) (hAo : ∀ q, A q → s.heap.size ≤ q) (hK : va_K D vwC [(cJ, .long), (cI, .int)] s) (hl0 : l.stackTraces = false) {sa : Nat} (hxh : xH sa s) :
    ∀ (n t : Nat), t ≤ 512 → 513 - t < n → ∀ (ws : va_W) (H : Heap) (locs : List Loc) (ls : Array Slot), lwS cJ cI h fo ke ht hc hf hp ho wo fi se g mm kf tb wk pl sp po to ba li ou ws → va_P D vwC ws H → va_D A ws → va_S A s.heap H locs → lv_has ls 8 [(0, .ref b), (1, .ref h), (2, .ref g), (3, .ref ou), (4, .int (nI (7 * t)))] → W p l e room_1 s m #[Value.ref b] below meth c H locs (23 + t) (302 + 6 * t) (lw_Z below #[Value.ref b] s) (F0 m 23 ls []) := by
  have hbA : ¬ A b := fun z => Nat.not_le.mpr hbl (hAo b z)
  intro n
  induction n with
  | zero => intro t h1 h2; exact absurd h2 (Nat.not_lt_zero _)
  | succ n ih =>
    intro t ht5 hn ws H locs ls hw hP hD hS hl
    refine lv_iload hx hb d_law_23 (lv_at hl 4 rfl) ?_
    refine lv_aload_n hx hb d_law_25 rfl (lv_at hl 0 rfl) ?_
    refine va_slen hx hb hX hbl hbA hS d_law_26 ?_
    refine lv_bipush (v := nI 7) hx hb d_law_27 (by decide) ?_
    refine lv_isub hx hb d_law_29 ?_
    refine xi_gt (tgt := 837) (X := ((7 * t : Nat) : Int)) (Y := (L : Int) - (7 : Nat)) hx hb (nI_toInt (by omega)) (pk_sub_toInt (a := L) (b := 7) (by omega) (by omega)) d_law_30 (by decide) (fun c1 => ?_) (fun c1 => ?_)
    · refine lv_iconst (v := 1) hx hb d_law_837 (by decide) ?_
      refine va_forget (fun q hq => hAo _ (hS.2.2 q hq)) ?_
      refine W.widen (k := 1048) (n := 8500) (by omega) (by omega) ?_
      exact lw_ret hx hb hr hlocks d_law_838
    · have hi : 7 * t + 7 ≤ L := by omega
      have tl : ∀ (ws : va_W) (H : Heap) (locs : List Loc) (ls : Array Slot), lwS cJ cI h fo ke ht hc hf hp ho wo fi se g mm kf tb wk pl sp po to ba li ou ws → va_P D vwC ws H → va_D A ws → va_S A s.heap H locs → lv_has ls 8 [(0, .ref b), (1, .ref h), (2, .ref g), (3, .ref ou), (4, .int (nI (7 * t)))] → W p l e room_1 s m #[Value.ref b] below meth c H locs (23 + t + 1) (302 + 6 * t + 6) (lw_Z below #[Value.ref b] s) (F0 m 831 ls []) := by
        intro ws H locs ls hw hP hD hS hl
        refine lv_iinc (v := nI (7 * (t + 1))) (lv' := [(4, .int (nI (7 * (t + 1)))), (0, .ref b), (1, .ref h), (2, .ref g), (3, .ref ou)]) hx hb d_law_831 hl (k := 4) rfl (nI_add _ _) (by decide) rfl (fun ls hl => ?_)
        refine lv_goto (tgt := 23) hx hb d_law_834 (by decide) ?_
        refine W.widen (k := 23 + (t + 1)) (n := 302 + 6 * (t + 1)) (by omega) (by omega) ?_
        exact ih (t + 1) (by omega) (by omega) ws H locs ls hw hP hD hS (lv_sub hl [1, 2, 3, 4, 0] rfl)
      refine lv_aload_n hx hb d_law_33 rfl (lv_at hl 0 rfl) ?_
      refine lv_iload hx hb d_law_34 (lv_at hl 4 rfl) ?_
      refine x_sld hx hb hX hbl hbA hS (k := 7 * t) (by omega) (by omega) d_law_36 ?_
      refine lv_bipush (v := nI 31) hx hb d_law_37 (by decide) ?_
      refine lv_iand hx hb d_law_39 ?_
      obtain ⟨j, hj, ej⟩ := pk_andE (xs (7 * t)) (m := nI 31) 5 (by decide)
      rw [ej]
      by_cases hj2 : j ≤ 17
      · rcases (show j = 0 ∨ j = 1 ∨ j = 2 ∨ j = 3 ∨ j = 4 ∨ j = 5 ∨ j = 6 ∨ j = 7 ∨ j = 8 ∨ j = 9 ∨ j = 10 ∨ j = 11 ∨ j = 12 ∨ j = 13 ∨ j = 14 ∨ j = 15 ∨ j = 16 ∨ j = 17 by omega) with rfl | rfl | rfl | rfl | rfl | rfl | rfl | rfl | rfl | rfl | rfl | rfl | rfl | rfl | rfl | rfl | rfl | rfl
        · refine lv_tableIn (tgt := 128) (off := 88) hx hb d_law_40 (by decide) (by decide) (by decide) (by decide) ?_
          refine W.widen (k := 23 + t + 1) (n := 302 + 6 * t + 6) (by omega) (by omega) ?_
          exact l_0 hx hb hml hown hts hX hbl hL hi hN hA hbA hK (Nat.le_of_lt_succ (by show 23 + t + 1 < 1048 + 1; omega)) (Nat.le_of_lt_succ (by show 302 + 6 * t + 6 < 8500 + 1; omega)) tl ws H locs ls hw hP hD hS hl
        · refine lv_tableIn (tgt := 153) (off := 113) hx hb d_law_40 (by decide) (by decide) (by decide) (by decide) ?_
          refine W.widen (k := 23 + t + 1) (n := 302 + 6 * t + 6) (by omega) (by omega) ?_
          exact l_1 hx hb hml hown hts hX hbl hL hi hN hA hbA hK (Nat.le_of_lt_succ (by show 23 + t + 1 < 1048 + 1; omega)) (Nat.le_of_lt_succ (by show 302 + 6 * t + 6 < 8500 + 1; omega)) tl ws H locs ls hw hP hD hS hl
        · refine lv_tableIn (tgt := 203) (off := 163) hx hb d_law_40 (by decide) (by decide) (by decide) (by decide) ?_
          refine W.widen (k := 23 + t + 1) (n := 302 + 6 * t + 6) (by omega) (by omega) ?_
          exact l_2 hx hb hml hown hts hX hbl hL hi hN hA hbA hK (Nat.le_of_lt_succ (by show 23 + t + 1 < 1048 + 1; omega)) (Nat.le_of_lt_succ (by show 302 + 6 * t + 6 < 8500 + 1; omega)) tl ws H locs ls hw hP hD hS hl
        · refine lv_tableIn (tgt := 216) (off := 176) hx hb d_law_40 (by decide) (by decide) (by decide) (by decide) ?_
          refine W.widen (k := 23 + t + 1) (n := 302 + 6 * t + 6) (by omega) (by omega) ?_
          exact l_3 hx hb hml hown hts hX hbl hL hi hN hA hbA hK (Nat.le_of_lt_succ (by show 23 + t + 1 < 1048 + 1; omega)) (Nat.le_of_lt_succ (by show 302 + 6 * t + 6 < 8500 + 1; omega)) tl ws H locs ls hw hP hD hS hl
        · refine lv_tableIn (tgt := 241) (off := 201) hx hb d_law_40 (by decide) (by decide) (by decide) (by decide) ?_
          refine W.widen (k := 23 + t + 1) (n := 302 + 6 * t + 6) (by omega) (by omega) ?_
          exact l_4 hx hb hml hown hts hX hbl hL hi hN hA hbA hK (Nat.le_of_lt_succ (by show 23 + t + 1 < 1048 + 1; omega)) (Nat.le_of_lt_succ (by show 302 + 6 * t + 6 < 8500 + 1; omega)) tl ws H locs ls hw hP hD hS hl
        · refine lv_tableIn (tgt := 267) (off := 227) hx hb d_law_40 (by decide) (by decide) (by decide) (by decide) ?_
          refine W.widen (k := 23 + t + 1) (n := 302 + 6 * t + 6) (by omega) (by omega) ?_
          exact l_5 hx hb hml hown hts hX hbl hL hi hN hA hbA hK (Nat.le_of_lt_succ (by show 23 + t + 1 < 1048 + 1; omega)) (Nat.le_of_lt_succ (by show 302 + 6 * t + 6 < 8500 + 1; omega)) tl ws H locs ls hw hP hD hS hl
        · refine lv_tableIn (tgt := 280) (off := 240) hx hb d_law_40 (by decide) (by decide) (by decide) (by decide) ?_
          refine W.widen (k := 23 + t + 1) (n := 302 + 6 * t + 6) (by omega) (by omega) ?_
          exact l_6 hx hb hml hown hts hX hbl hL hi hN hA hbA hK (Nat.le_of_lt_succ (by show 23 + t + 1 < 1048 + 1; omega)) (Nat.le_of_lt_succ (by show 302 + 6 * t + 6 < 8500 + 1; omega)) tl ws H locs ls hw hP hD hS hl
        · refine lv_tableIn (tgt := 318) (off := 278) hx hb d_law_40 (by decide) (by decide) (by decide) (by decide) ?_
          exact l_7 hx hb hml hown hts hX hbl hL hi hN hA hbA hK (Nat.le_of_lt_succ (by show 23 + t + 1 < 1048 + 1; omega)) (Nat.le_of_lt_succ (by show 302 + 6 * t + 6 < 8500 + 1; omega)) hl0 hxh hAo tl ws H locs ls hw hP hD hS hl
        · refine lv_tableIn (tgt := 373) (off := 333) hx hb d_law_40 (by decide) (by decide) (by decide) (by decide) ?_
          refine W.widen (k := 23 + t + 1) (n := 302 + 6 * t + 6) (by omega) (by omega) ?_
          exact l_8 hx hb hml hown hts hX hbl hL hi hN hA hbA hK (Nat.le_of_lt_succ (by show 23 + t + 1 < 1048 + 1; omega)) (Nat.le_of_lt_succ (by show 302 + 6 * t + 6 < 8500 + 1; omega)) tl ws H locs ls hw hP hD hS hl
        · refine lv_tableIn (tgt := 410) (off := 370) hx hb d_law_40 (by decide) (by decide) (by decide) (by decide) ?_
          refine W.widen (k := 23 + t + 1) (n := 302 + 6 * t + 6) (by omega) (by omega) ?_
          exact l_9 hx hb hml hown hts hX hbl hL hi hN hA hbA hK (Nat.le_of_lt_succ (by show 23 + t + 1 < 1048 + 1; omega)) (Nat.le_of_lt_succ (by show 302 + 6 * t + 6 < 8500 + 1; omega)) tl ws H locs ls hw hP hD hS hl
        · refine lv_tableIn (tgt := 423) (off := 383) hx hb d_law_40 (by decide) (by decide) (by decide) (by decide) ?_
          refine W.widen (k := 23 + t + 1) (n := 302 + 6 * t + 6) (by omega) (by omega) ?_
          exact l_10 hx hb hml hown hts hX hbl hL hi hN hA hbA hK (Nat.le_of_lt_succ (by show 23 + t + 1 < 1048 + 1; omega)) (Nat.le_of_lt_succ (by show 302 + 6 * t + 6 < 8500 + 1; omega)) tl ws H locs ls hw hP hD hS hl
        · refine lv_tableIn (tgt := 484) (off := 444) hx hb d_law_40 (by decide) (by decide) (by decide) (by decide) ?_
          refine W.widen (k := 23 + t + 1) (n := 302 + 6 * t + 6) (by omega) (by omega) ?_
          exact l_11 hx hb hml hown hts hX hbl hL hi hN hA hbA hK (Nat.le_of_lt_succ (by show 23 + t + 1 < 1048 + 1; omega)) (Nat.le_of_lt_succ (by show 302 + 6 * t + 6 < 8500 + 1; omega)) tl ws H locs ls hw hP hD hS hl
        · refine lv_tableIn (tgt := 558) (off := 518) hx hb d_law_40 (by decide) (by decide) (by decide) (by decide) ?_
          refine W.widen (k := 23 + t + 1) (n := 302 + 6 * t + 6) (by omega) (by omega) ?_
          exact l_12 hx hb hml hown hts hX hbl hL hi hN hA hbA hK (Nat.le_of_lt_succ (by show 23 + t + 1 < 1048 + 1; omega)) (Nat.le_of_lt_succ (by show 302 + 6 * t + 6 < 8500 + 1; omega)) tl ws H locs ls hw hP hD hS hl
        · refine lv_tableIn (tgt := 619) (off := 579) hx hb d_law_40 (by decide) (by decide) (by decide) (by decide) ?_
          refine W.widen (k := 23 + t + 1) (n := 302 + 6 * t + 6) (by omega) (by omega) ?_
          exact l_13 hx hb hml hown hts hX hbl hL hi hN hA hbA hK (Nat.le_of_lt_succ (by show 23 + t + 1 < 1048 + 1; omega)) (Nat.le_of_lt_succ (by show 302 + 6 * t + 6 < 8500 + 1; omega)) tl ws H locs ls hw hP hD hS hl
        · refine lv_tableIn (tgt := 680) (off := 640) hx hb d_law_40 (by decide) (by decide) (by decide) (by decide) ?_
          refine W.widen (k := 23 + t + 1) (n := 302 + 6 * t + 6) (by omega) (by omega) ?_
          exact l_14 hx hb hml hown hts hX hbl hL hi hN hA hbA hK (Nat.le_of_lt_succ (by show 23 + t + 1 < 1048 + 1; omega)) (Nat.le_of_lt_succ (by show 302 + 6 * t + 6 < 8500 + 1; omega)) tl ws H locs ls hw hP hD hS hl
        · refine lv_tableIn (tgt := 767) (off := 727) hx hb d_law_40 (by decide) (by decide) (by decide) (by decide) ?_
          refine W.widen (k := 23 + t + 1) (n := 302 + 6 * t + 6) (by omega) (by omega) ?_
          exact l_15 hx hb hml hown hts hX hbl hL hi hN hA hbA hK (Nat.le_of_lt_succ (by show 23 + t + 1 < 1048 + 1; omega)) (Nat.le_of_lt_succ (by show 302 + 6 * t + 6 < 8500 + 1; omega)) tl ws H locs ls hw hP hD hS hl
        · refine lv_tableIn (tgt := 805) (off := 765) hx hb d_law_40 (by decide) (by decide) (by decide) (by decide) ?_
          refine W.widen (k := 23 + t + 1) (n := 302 + 6 * t + 6) (by omega) (by omega) ?_
          exact l_16 hx hb hml hown hts hX hbl hL hi hN hA hbA hK (Nat.le_of_lt_succ (by show 23 + t + 1 < 1048 + 1; omega)) (Nat.le_of_lt_succ (by show 302 + 6 * t + 6 < 8500 + 1; omega)) tl ws H locs ls hw hP hD hS hl
        · refine lv_tableIn (tgt := 818) (off := 778) hx hb d_law_40 (by decide) (by decide) (by decide) (by decide) ?_
          refine W.widen (k := 23 + t + 1) (n := 302 + 6 * t + 6) (by omega) (by omega) ?_
          exact l_17 hx hb hml hown hts hX hbl hL hi hN hA hbA hK (Nat.le_of_lt_succ (by show 23 + t + 1 < 1048 + 1; omega)) (Nat.le_of_lt_succ (by show 302 + 6 * t + 6 < 8500 + 1; omega)) tl ws H locs ls hw hP hD hS hl
      · refine lv_tableOut (tgt := 831) hx hb d_law_40 (Or.inr (by rw [nI_toInt (by omega)]; omega)) (by decide) ?_
        refine W.widen (k := 23 + t + 1) (n := 302 + 6 * t + 6) (by omega) (by omega) ?_
        exact tl ws H locs ls hw hP hD hS hl
