/-! contracts of ConicKindsModel: divisors, middle, height, below (wip/spec_model5.py, modelE) -/
theorem colZ_B {Fm : Nat → Int} {d a : Nat} (h3 : d ≤ 3) (hF : ∀ k, k < 16 → inB (Fm k) 20) : enB (colZ Fm a) d 20 := by
  intro x y hx hy
  unfold colZ
  rw [q4d x (show y < 4 by omega), q4m x (show y < 4 by omega)]
  split
  · exact negB (hF _ (by omega))
  · exact enB_f hF (f := 1) (r := d) (by omega) x y hx hy

def rm_r_gcd : Room := { frames := 0, cells := 0, slots := 0, locals := 0 }
set_option maxHeartbeats 4000000 in
set_option maxRecDepth 100000 in
/-- Euclid -/
theorem r_gcd (l : Launch) (D : va_G) (cJ cI : ClassId) (a : Int) (b : Int) (ha : a.natAbs < 2 ^ 40) (hb2 : b.natAbs < 2 ^ 40) (sz : Nat) : xMl l y_M_divisor (Cond.code y_M_divisor b_M_divisor 10 (some .long) :: tW) rm_r_gcd [.long (lI a), .long (lI b)] D vwC [(cJ, .long), (cI, .int)] sz [] (fun (rv : Int64) (_ : Unit) => rv = lI ((Nat.gcd a.natAbs b.natAbs : Nat) : Int)) (fun (_ : Unit) => []) 0 0 := by
  refine xol (cc := b_M_divisor) (maxL := 10) (by decide) rfl (Nat.le_of_ble_eq_true rfl) ?_
  intro p e s m args below meth c Q A hx hb hml hts hown hN hA hS hP hK hD hret ls hl
  have hl : lv_has ls 10 [(0, .long (lI a)), (2, .long (lI b))] := hl
  obtain ⟨H, hH⟩ : ∃ z, z = s.heap := ⟨_, rfl⟩
  obtain ⟨locs, hlc⟩ : ∃ z : List Loc, z = [] := ⟨_, rfl⟩
  rw [← hH] at hP
  have hS : va_S A s.heap H locs := by rw [hH, hlc]; exact hS
  have key : W p l e rm_r_gcd s m args below meth c H locs 0 0 Q (F0 m 0 ls []) := by
    refine lv_lload_n hx hb d_M_divisor_0 rfl (lv_at hl 0 rfl) ?_
    refine lv_lconst (v := lI 0) hx hb d_M_divisor_1 (by decide) ?_
    refine xl_ge (tgt := 11) hx hb (by first | assumption | (unfold lB; omega)) ⟨by decide, by decide⟩ d_M_divisor_2 d_M_divisor_3 (by decide) (fun c3_0 => ?_) (fun c3_0 => ?_)
    · skip
      refine lv_lload_n hx hb d_M_divisor_11 rfl (lv_at hl 0 rfl) ?_
      rw [show a = ((a.natAbs : Nat) : Int) from by omega]
      refine lv_lstore (lv' := [(4, .long (lI ((a.natAbs : Nat) : Int))), (0, .long (lI a)), (2, .long (lI b))]) hx hb d_M_divisor_12 hl (by decide) rfl (fun ls hl => ?_)
      refine lv_lload_n hx hb d_M_divisor_14 rfl (lv_at hl 2 rfl) ?_
      refine lv_lconst (v := lI 0) hx hb d_M_divisor_15 (by decide) ?_
      refine xl_ge (tgt := 25) hx hb (by first | assumption | (unfold lB; omega)) ⟨by decide, by decide⟩ d_M_divisor_16 d_M_divisor_17 (by decide) (fun c17_1 => ?_) (fun c17_1 => ?_)
      · skip
        refine lv_lload_n hx hb d_M_divisor_25 rfl (lv_at hl 2 rfl) ?_
        rw [show b = ((b.natAbs : Nat) : Int) from by omega]
        refine lv_lstore (lv' := [(6, .long (lI ((b.natAbs : Nat) : Int))), (4, .long (lI ((a.natAbs : Nat) : Int))), (0, .long (lI a)), (2, .long (lI b))]) hx hb d_M_divisor_26 hl (by decide) rfl (fun ls hl => ?_)
        have lp_28 : ∀ (n_28 : Nat) (u : Nat) (v : Nat) (H : Heap) (locs : List Loc) (ls : Array Slot), (u < 2 ^ 40) → (v < 2 ^ 40) → (Nat.gcd u v = Nat.gcd a.natAbs b.natAbs) → v < n_28 → va_P D vwC [] H → va_D A [] → va_S A s.heap H locs → lv_has ls 10 [(4, .long (lI ((u : Nat) : Int))), (6, .long (lI ((v : Nat) : Int)))] → W p l e rm_r_gcd s m args below meth c H locs 0 0 Q (F0 m 28 ls []) := by
          intro n_28
          induction n_28 with
          | zero => intro u v H locs ls hu hv hg hn_28; exact absurd hn_28 (Nat.not_lt_zero _)
          | succ n_28 ih_28 =>
            intro u v H locs ls hu hv hg hn_28 hP hD hS hl
            refine lv_lload hx hb d_M_divisor_28 (lv_at hl 1 rfl) ?_
            refine lv_lconst (v := lI 0) hx hb d_M_divisor_30 (by decide) ?_
            refine xl_eq (tgt := 53) hx hb (by first | assumption | (unfold lB; omega)) ⟨by decide, by decide⟩ d_M_divisor_31 d_M_divisor_32 (by decide) (fun c32_2 => ?_) (fun c32_2 => ?_)
            · skip
              refine lv_lload hx hb d_M_divisor_53 (lv_at hl 0 rfl) ?_
              exact hret H locs _ ls (lI ((u : Nat) : Int)) () d_M_divisor_55 (by rw [← hg, show v = 0 from by omega, Nat.gcd_zero_right]) hP hD hS
            · skip
              refine lv_lload hx hb d_M_divisor_35 (lv_at hl 0 rfl) ?_
              refine lv_lload hx hb d_M_divisor_37 (lv_at hl 1 rfl) ?_
              refine xl_rem hx hb (by first | assumption | (unfold lB; omega)) (by first | assumption | (unfold lB; omega)) (by omega) (by omega) d_M_divisor_39 ?_
              rw [show ((u : Nat) : Int).tmod ((v : Nat) : Int) = ((u % v : Nat) : Int) from rfl]
              refine lv_lstore (lv' := [(8, .long (lI ((u % v : Nat) : Int))), (4, .long (lI ((u : Nat) : Int))), (6, .long (lI ((v : Nat) : Int)))]) hx hb d_M_divisor_40 hl (by decide) rfl (fun ls hl => ?_)
              refine lv_lload hx hb d_M_divisor_42 (lv_at hl 2 rfl) ?_
              refine lv_lstore (lv' := [(4, .long (lI ((v : Nat) : Int))), (8, .long (lI ((u % v : Nat) : Int))), (6, .long (lI ((v : Nat) : Int)))]) hx hb d_M_divisor_44 hl (by decide) rfl (fun ls hl => ?_)
              refine lv_lload hx hb d_M_divisor_46 (lv_at hl 1 rfl) ?_
              refine lv_lstore (lv' := [(6, .long (lI ((u % v : Nat) : Int))), (4, .long (lI ((v : Nat) : Int))), (8, .long (lI ((u % v : Nat) : Int)))]) hx hb d_M_divisor_48 hl (by decide) rfl (fun ls hl => ?_)
              refine lv_goto (tgt := 28) hx hb d_M_divisor_50 (by decide) ?_
              have hm9 := Nat.mod_lt u (show 0 < v by omega)
              exact ih_28 v (u % v) H locs ls hv (by omega) (by rw [← hg, Nat.gcd_comm u v, Nat.gcd_rec v u, Nat.gcd_comm]) (by omega) hP hD hS (lv_sub hl [1, 0] rfl)
        exact lp_28 (b.natAbs + 1) a.natAbs b.natAbs H locs ls ha hb2 rfl (by omega) hP hD hS (lv_sub hl [1, 0] rfl)
      · skip
        refine lv_lload_n hx hb d_M_divisor_20 rfl (lv_at hl 2 rfl) ?_
        refine xl_neg hx hb d_M_divisor_21 ?_
        refine lv_goto (tgt := 26) hx hb d_M_divisor_22 (by decide) ?_
        rw [show (-b) = ((b.natAbs : Nat) : Int) from by omega]
        refine lv_lstore (lv' := [(6, .long (lI ((b.natAbs : Nat) : Int))), (4, .long (lI ((a.natAbs : Nat) : Int))), (0, .long (lI a)), (2, .long (lI b))]) hx hb d_M_divisor_26 hl (by decide) rfl (fun ls hl => ?_)
        have lp_28 : ∀ (n_28 : Nat) (u : Nat) (v : Nat) (H : Heap) (locs : List Loc) (ls : Array Slot), (u < 2 ^ 40) → (v < 2 ^ 40) → (Nat.gcd u v = Nat.gcd a.natAbs b.natAbs) → v < n_28 → va_P D vwC [] H → va_D A [] → va_S A s.heap H locs → lv_has ls 10 [(4, .long (lI ((u : Nat) : Int))), (6, .long (lI ((v : Nat) : Int)))] → W p l e rm_r_gcd s m args below meth c H locs 0 0 Q (F0 m 28 ls []) := by
          intro n_28
          induction n_28 with
          | zero => intro u v H locs ls hu hv hg hn_28; exact absurd hn_28 (Nat.not_lt_zero _)
          | succ n_28 ih_28 =>
            intro u v H locs ls hu hv hg hn_28 hP hD hS hl
            refine lv_lload hx hb d_M_divisor_28 (lv_at hl 1 rfl) ?_
            refine lv_lconst (v := lI 0) hx hb d_M_divisor_30 (by decide) ?_
            refine xl_eq (tgt := 53) hx hb (by first | assumption | (unfold lB; omega)) ⟨by decide, by decide⟩ d_M_divisor_31 d_M_divisor_32 (by decide) (fun c32_3 => ?_) (fun c32_3 => ?_)
            · skip
              refine lv_lload hx hb d_M_divisor_53 (lv_at hl 0 rfl) ?_
              exact hret H locs _ ls (lI ((u : Nat) : Int)) () d_M_divisor_55 (by rw [← hg, show v = 0 from by omega, Nat.gcd_zero_right]) hP hD hS
            · skip
              refine lv_lload hx hb d_M_divisor_35 (lv_at hl 0 rfl) ?_
              refine lv_lload hx hb d_M_divisor_37 (lv_at hl 1 rfl) ?_
              refine xl_rem hx hb (by first | assumption | (unfold lB; omega)) (by first | assumption | (unfold lB; omega)) (by omega) (by omega) d_M_divisor_39 ?_
              rw [show ((u : Nat) : Int).tmod ((v : Nat) : Int) = ((u % v : Nat) : Int) from rfl]
              refine lv_lstore (lv' := [(8, .long (lI ((u % v : Nat) : Int))), (4, .long (lI ((u : Nat) : Int))), (6, .long (lI ((v : Nat) : Int)))]) hx hb d_M_divisor_40 hl (by decide) rfl (fun ls hl => ?_)
              refine lv_lload hx hb d_M_divisor_42 (lv_at hl 2 rfl) ?_
              refine lv_lstore (lv' := [(4, .long (lI ((v : Nat) : Int))), (8, .long (lI ((u % v : Nat) : Int))), (6, .long (lI ((v : Nat) : Int)))]) hx hb d_M_divisor_44 hl (by decide) rfl (fun ls hl => ?_)
              refine lv_lload hx hb d_M_divisor_46 (lv_at hl 1 rfl) ?_
              refine lv_lstore (lv' := [(6, .long (lI ((u % v : Nat) : Int))), (4, .long (lI ((v : Nat) : Int))), (8, .long (lI ((u % v : Nat) : Int)))]) hx hb d_M_divisor_48 hl (by decide) rfl (fun ls hl => ?_)
              refine lv_goto (tgt := 28) hx hb d_M_divisor_50 (by decide) ?_
              have hm9 := Nat.mod_lt u (show 0 < v by omega)
              exact ih_28 v (u % v) H locs ls hv (by omega) (by rw [← hg, Nat.gcd_comm u v, Nat.gcd_rec v u, Nat.gcd_comm]) (by omega) hP hD hS (lv_sub hl [1, 0] rfl)
        exact lp_28 (b.natAbs + 1) a.natAbs b.natAbs H locs ls ha hb2 rfl (by omega) hP hD hS (lv_sub hl [1, 0] rfl)
    · skip
      refine lv_lload_n hx hb d_M_divisor_6 rfl (lv_at hl 0 rfl) ?_
      refine xl_neg hx hb d_M_divisor_7 ?_
      refine lv_goto (tgt := 12) hx hb d_M_divisor_8 (by decide) ?_
      rw [show (-a) = ((a.natAbs : Nat) : Int) from by omega]
      refine lv_lstore (lv' := [(4, .long (lI ((a.natAbs : Nat) : Int))), (0, .long (lI a)), (2, .long (lI b))]) hx hb d_M_divisor_12 hl (by decide) rfl (fun ls hl => ?_)
      refine lv_lload_n hx hb d_M_divisor_14 rfl (lv_at hl 2 rfl) ?_
      refine lv_lconst (v := lI 0) hx hb d_M_divisor_15 (by decide) ?_
      refine xl_ge (tgt := 25) hx hb (by first | assumption | (unfold lB; omega)) ⟨by decide, by decide⟩ d_M_divisor_16 d_M_divisor_17 (by decide) (fun c17_4 => ?_) (fun c17_4 => ?_)
      · skip
        refine lv_lload_n hx hb d_M_divisor_25 rfl (lv_at hl 2 rfl) ?_
        rw [show b = ((b.natAbs : Nat) : Int) from by omega]
        refine lv_lstore (lv' := [(6, .long (lI ((b.natAbs : Nat) : Int))), (4, .long (lI ((a.natAbs : Nat) : Int))), (0, .long (lI a)), (2, .long (lI b))]) hx hb d_M_divisor_26 hl (by decide) rfl (fun ls hl => ?_)
        have lp_28 : ∀ (n_28 : Nat) (u : Nat) (v : Nat) (H : Heap) (locs : List Loc) (ls : Array Slot), (u < 2 ^ 40) → (v < 2 ^ 40) → (Nat.gcd u v = Nat.gcd a.natAbs b.natAbs) → v < n_28 → va_P D vwC [] H → va_D A [] → va_S A s.heap H locs → lv_has ls 10 [(4, .long (lI ((u : Nat) : Int))), (6, .long (lI ((v : Nat) : Int)))] → W p l e rm_r_gcd s m args below meth c H locs 0 0 Q (F0 m 28 ls []) := by
          intro n_28
          induction n_28 with
          | zero => intro u v H locs ls hu hv hg hn_28; exact absurd hn_28 (Nat.not_lt_zero _)
          | succ n_28 ih_28 =>
            intro u v H locs ls hu hv hg hn_28 hP hD hS hl
            refine lv_lload hx hb d_M_divisor_28 (lv_at hl 1 rfl) ?_
            refine lv_lconst (v := lI 0) hx hb d_M_divisor_30 (by decide) ?_
            refine xl_eq (tgt := 53) hx hb (by first | assumption | (unfold lB; omega)) ⟨by decide, by decide⟩ d_M_divisor_31 d_M_divisor_32 (by decide) (fun c32_5 => ?_) (fun c32_5 => ?_)
            · skip
              refine lv_lload hx hb d_M_divisor_53 (lv_at hl 0 rfl) ?_
              exact hret H locs _ ls (lI ((u : Nat) : Int)) () d_M_divisor_55 (by rw [← hg, show v = 0 from by omega, Nat.gcd_zero_right]) hP hD hS
            · skip
              refine lv_lload hx hb d_M_divisor_35 (lv_at hl 0 rfl) ?_
              refine lv_lload hx hb d_M_divisor_37 (lv_at hl 1 rfl) ?_
              refine xl_rem hx hb (by first | assumption | (unfold lB; omega)) (by first | assumption | (unfold lB; omega)) (by omega) (by omega) d_M_divisor_39 ?_
              rw [show ((u : Nat) : Int).tmod ((v : Nat) : Int) = ((u % v : Nat) : Int) from rfl]
              refine lv_lstore (lv' := [(8, .long (lI ((u % v : Nat) : Int))), (4, .long (lI ((u : Nat) : Int))), (6, .long (lI ((v : Nat) : Int)))]) hx hb d_M_divisor_40 hl (by decide) rfl (fun ls hl => ?_)
              refine lv_lload hx hb d_M_divisor_42 (lv_at hl 2 rfl) ?_
              refine lv_lstore (lv' := [(4, .long (lI ((v : Nat) : Int))), (8, .long (lI ((u % v : Nat) : Int))), (6, .long (lI ((v : Nat) : Int)))]) hx hb d_M_divisor_44 hl (by decide) rfl (fun ls hl => ?_)
              refine lv_lload hx hb d_M_divisor_46 (lv_at hl 1 rfl) ?_
              refine lv_lstore (lv' := [(6, .long (lI ((u % v : Nat) : Int))), (4, .long (lI ((v : Nat) : Int))), (8, .long (lI ((u % v : Nat) : Int)))]) hx hb d_M_divisor_48 hl (by decide) rfl (fun ls hl => ?_)
              refine lv_goto (tgt := 28) hx hb d_M_divisor_50 (by decide) ?_
              have hm9 := Nat.mod_lt u (show 0 < v by omega)
              exact ih_28 v (u % v) H locs ls hv (by omega) (by rw [← hg, Nat.gcd_comm u v, Nat.gcd_rec v u, Nat.gcd_comm]) (by omega) hP hD hS (lv_sub hl [1, 0] rfl)
        exact lp_28 (b.natAbs + 1) a.natAbs b.natAbs H locs ls ha hb2 rfl (by omega) hP hD hS (lv_sub hl [1, 0] rfl)
      · skip
        refine lv_lload_n hx hb d_M_divisor_20 rfl (lv_at hl 2 rfl) ?_
        refine xl_neg hx hb d_M_divisor_21 ?_
        refine lv_goto (tgt := 26) hx hb d_M_divisor_22 (by decide) ?_
        rw [show (-b) = ((b.natAbs : Nat) : Int) from by omega]
        refine lv_lstore (lv' := [(6, .long (lI ((b.natAbs : Nat) : Int))), (4, .long (lI ((a.natAbs : Nat) : Int))), (0, .long (lI a)), (2, .long (lI b))]) hx hb d_M_divisor_26 hl (by decide) rfl (fun ls hl => ?_)
        have lp_28 : ∀ (n_28 : Nat) (u : Nat) (v : Nat) (H : Heap) (locs : List Loc) (ls : Array Slot), (u < 2 ^ 40) → (v < 2 ^ 40) → (Nat.gcd u v = Nat.gcd a.natAbs b.natAbs) → v < n_28 → va_P D vwC [] H → va_D A [] → va_S A s.heap H locs → lv_has ls 10 [(4, .long (lI ((u : Nat) : Int))), (6, .long (lI ((v : Nat) : Int)))] → W p l e rm_r_gcd s m args below meth c H locs 0 0 Q (F0 m 28 ls []) := by
          intro n_28
          induction n_28 with
          | zero => intro u v H locs ls hu hv hg hn_28; exact absurd hn_28 (Nat.not_lt_zero _)
          | succ n_28 ih_28 =>
            intro u v H locs ls hu hv hg hn_28 hP hD hS hl
            refine lv_lload hx hb d_M_divisor_28 (lv_at hl 1 rfl) ?_
            refine lv_lconst (v := lI 0) hx hb d_M_divisor_30 (by decide) ?_
            refine xl_eq (tgt := 53) hx hb (by first | assumption | (unfold lB; omega)) ⟨by decide, by decide⟩ d_M_divisor_31 d_M_divisor_32 (by decide) (fun c32_6 => ?_) (fun c32_6 => ?_)
            · skip
              refine lv_lload hx hb d_M_divisor_53 (lv_at hl 0 rfl) ?_
              exact hret H locs _ ls (lI ((u : Nat) : Int)) () d_M_divisor_55 (by rw [← hg, show v = 0 from by omega, Nat.gcd_zero_right]) hP hD hS
            · skip
              refine lv_lload hx hb d_M_divisor_35 (lv_at hl 0 rfl) ?_
              refine lv_lload hx hb d_M_divisor_37 (lv_at hl 1 rfl) ?_
              refine xl_rem hx hb (by first | assumption | (unfold lB; omega)) (by first | assumption | (unfold lB; omega)) (by omega) (by omega) d_M_divisor_39 ?_
              rw [show ((u : Nat) : Int).tmod ((v : Nat) : Int) = ((u % v : Nat) : Int) from rfl]
              refine lv_lstore (lv' := [(8, .long (lI ((u % v : Nat) : Int))), (4, .long (lI ((u : Nat) : Int))), (6, .long (lI ((v : Nat) : Int)))]) hx hb d_M_divisor_40 hl (by decide) rfl (fun ls hl => ?_)
              refine lv_lload hx hb d_M_divisor_42 (lv_at hl 2 rfl) ?_
              refine lv_lstore (lv' := [(4, .long (lI ((v : Nat) : Int))), (8, .long (lI ((u % v : Nat) : Int))), (6, .long (lI ((v : Nat) : Int)))]) hx hb d_M_divisor_44 hl (by decide) rfl (fun ls hl => ?_)
              refine lv_lload hx hb d_M_divisor_46 (lv_at hl 1 rfl) ?_
              refine lv_lstore (lv' := [(6, .long (lI ((u % v : Nat) : Int))), (4, .long (lI ((v : Nat) : Int))), (8, .long (lI ((u % v : Nat) : Int)))]) hx hb d_M_divisor_48 hl (by decide) rfl (fun ls hl => ?_)
              refine lv_goto (tgt := 28) hx hb d_M_divisor_50 (by decide) ?_
              have hm9 := Nat.mod_lt u (show 0 < v by omega)
              exact ih_28 v (u % v) H locs ls hv (by omega) (by rw [← hg, Nat.gcd_comm u v, Nat.gcd_rec v u, Nat.gcd_comm]) (by omega) hP hD hS (lv_sub hl [1, 0] rfl)
        exact lp_28 (b.natAbs + 1) a.natAbs b.natAbs H locs ls ha hb2 rfl (by omega) hP hD hS (lv_sub hl [1, 0] rfl)
  rw [hH, hlc] at key; exact key

def rm_r_part : Room := { frames := 1, cells := 0, slots := 0, locals := 29 }
set_option maxHeartbeats 4000000 in
set_option maxRecDepth 100000 in
/-- a part of a fraction -/
theorem r_part (l : Launch) (D : va_G) (cJ cI : ClassId) (up : Int) (dn : Int) (pt : Int32) (hu : up.natAbs < 2 ^ 40) (hd : dn.natAbs < 2 ^ 40) (hd0 : ¬ dn = 0) (sz : Nat) : xMl l y_M_part (Cond.code y_M_part b_M_part 7 (some .long) :: tW) rm_r_part [.long (lI up), .long (lI dn), .int pt] D vwC [(cJ, .long), (cI, .int)] sz [] (fun (rv : Int64) (_ : Unit) => rv = lI (pfr up dn pt.toInt)) (fun (_ : Unit) => []) 0 0 := by
  refine xol (cc := b_M_part) (maxL := 7) (by decide) rfl (Nat.le_of_ble_eq_true rfl) ?_
  intro p e s m args below meth c Q A hx hb hml hts hown hN hA hS hP hK hD hret ls hl
  have hl : lv_has ls 7 [(0, .long (lI up)), (2, .long (lI dn)), (4, .int pt)] := hl
  obtain ⟨H, hH⟩ : ∃ z, z = s.heap := ⟨_, rfl⟩
  obtain ⟨locs, hlc⟩ : ∃ z : List Loc, z = [] := ⟨_, rfl⟩
  rw [← hH] at hP
  have hS : va_S A s.heap H locs := by rw [hH, hlc]; exact hS
  have key : W p l e rm_r_part s m args below meth c H locs 0 0 Q (F0 m 0 ls []) := by
    have hg0 : 0 < Nat.gcd up.natAbs dn.natAbs := Nat.gcd_pos_of_pos_right _ (by omega)
    have hg1 : Nat.gcd up.natAbs dn.natAbs ≤ dn.natAbs := Nat.gcd_le_right _ (by omega)
    refine lv_lload_n hx hb d_M_part_0 rfl (lv_at hl 1 rfl) ?_
    refine lv_lconst (v := lI 0) hx hb d_M_part_1 (by decide) ?_
    refine xl_ge (tgt := 15) hx hb (by first | assumption | (unfold lB; omega)) ⟨by decide, by decide⟩ d_M_part_2 d_M_part_3 (by decide) (fun c3_0 => ?_) (fun c3_0 => ?_)
    · skip
      refine lv_lload_n hx hb d_M_part_15 rfl (lv_at hl 0 rfl) ?_
      refine lv_lload_n hx hb d_M_part_16 rfl (lv_at hl 1 rfl) ?_
      refine xcl (wc := []) (wr := []) hP hD hS hA [] [] rfl rfl (by decide) (by decide) (va_runS (As := [.long (lI up), .long (lI dn)]) (rest := []) ⟨hx, hb, hml, hown, hts⟩ (r_gcd l D cJ cI up dn (by first | assumption | omega) (by first | assumption | omega) H.size) (cwS 2 hts (gS tw_534 tw_535 tw_3 tw_536) rfl rfl rfl ⟨rfl, hd_M_divisor⟩ ⟨Nat.le_of_ble_eq_true rfl, Nat.le_of_ble_eq_true rfl⟩) (xPreS hN hK (hP.sub (ws' := []) [] rfl) (hD.sub (ws' := []) [] (by decide) rfl)) rfl rfl hl.1 rfl (lv_room (Nat.le_of_ble_eq_true rfl)) d_M_part_17 ⟨Nat.le_of_ble_eq_true rfl, Nat.le_of_ble_eq_true rfl⟩) (fun r_2 u_3 H locs hw_4 hP hD hS => ?_)
      try dsimp only at hw_4
      have hP : va_P D vwC [] H := hP
      have hD : va_D A [] := hD
      subst hw_4
      refine lv_lstore (lv' := [(5, .long (lI ((Nat.gcd up.natAbs dn.natAbs : Nat) : Int))), (0, .long (lI up)), (2, .long (lI dn)), (4, .int pt)]) hx hb d_M_part_20 hl (by decide) rfl (fun ls hl => ?_)
      refine lv_iload hx hb d_M_part_22 (lv_at hl 3 rfl) ?_
      refine xz_ne (tgt := 34) (X := pt.toInt) hx hb rfl d_M_part_24 (by decide) (fun c24_4 => ?_) (fun c24_4 => ?_)
      · skip
        refine lv_lload_n hx hb d_M_part_34 rfl (lv_at hl 2 rfl) ?_
        refine lv_lload hx hb d_M_part_35 (lv_at hl 0 rfl) ?_
        refine xl_div hx hb (by unfold lB; omega) (by unfold lB; omega) (by omega) (by omega) d_M_part_37 ?_
        exact hret H locs _ ls (lI (dn.tdiv ((Nat.gcd up.natAbs dn.natAbs : Nat) : Int))) () d_M_part_38 (by rw [part_of hd0, if_neg (show ¬ dn < 0 from by omega), if_neg (show ¬ pt.toInt = 0 from by omega)]) hP hD hS
      · skip
        refine lv_lload_n hx hb d_M_part_27 rfl (lv_at hl 1 rfl) ?_
        refine lv_lload hx hb d_M_part_28 (lv_at hl 0 rfl) ?_
        refine xl_div hx hb (by unfold lB; omega) (by unfold lB; omega) (by omega) (by omega) d_M_part_30 ?_
        refine lv_goto (tgt := 38) hx hb d_M_part_31 (by decide) ?_
        exact hret H locs _ ls (lI (up.tdiv ((Nat.gcd up.natAbs dn.natAbs : Nat) : Int))) () d_M_part_38 (by rw [part_of hd0, if_neg (show ¬ dn < 0 from by omega), if_pos (show pt.toInt = 0 from by omega)]) hP hD hS
    · skip
      refine lv_lload_n hx hb d_M_part_6 rfl (lv_at hl 0 rfl) ?_
      refine lv_lload_n hx hb d_M_part_7 rfl (lv_at hl 1 rfl) ?_
      refine xcl (wc := []) (wr := []) hP hD hS hA [] [] rfl rfl (by decide) (by decide) (va_runS (As := [.long (lI up), .long (lI dn)]) (rest := []) ⟨hx, hb, hml, hown, hts⟩ (r_gcd l D cJ cI up dn (by first | assumption | omega) (by first | assumption | omega) H.size) (cwS 2 hts (gS tw_534 tw_535 tw_3 tw_536) rfl rfl rfl ⟨rfl, hd_M_divisor⟩ ⟨Nat.le_of_ble_eq_true rfl, Nat.le_of_ble_eq_true rfl⟩) (xPreS hN hK (hP.sub (ws' := []) [] rfl) (hD.sub (ws' := []) [] (by decide) rfl)) rfl rfl hl.1 rfl (lv_room (Nat.le_of_ble_eq_true rfl)) d_M_part_8 ⟨Nat.le_of_ble_eq_true rfl, Nat.le_of_ble_eq_true rfl⟩) (fun r_6 u_7 H locs hw_8 hP hD hS => ?_)
      try dsimp only at hw_8
      have hP : va_P D vwC [] H := hP
      have hD : va_D A [] := hD
      subst hw_8
      refine xl_neg hx hb d_M_part_11 ?_
      refine lv_goto (tgt := 20) hx hb d_M_part_12 (by decide) ?_
      refine lv_lstore (lv' := [(5, .long (lI (-((Nat.gcd up.natAbs dn.natAbs : Nat) : Int)))), (0, .long (lI up)), (2, .long (lI dn)), (4, .int pt)]) hx hb d_M_part_20 hl (by decide) rfl (fun ls hl => ?_)
      refine lv_iload hx hb d_M_part_22 (lv_at hl 3 rfl) ?_
      refine xz_ne (tgt := 34) (X := pt.toInt) hx hb rfl d_M_part_24 (by decide) (fun c24_8 => ?_) (fun c24_8 => ?_)
      · skip
        refine lv_lload_n hx hb d_M_part_34 rfl (lv_at hl 2 rfl) ?_
        refine lv_lload hx hb d_M_part_35 (lv_at hl 0 rfl) ?_
        refine xl_div hx hb (by unfold lB; omega) (by unfold lB; omega) (by omega) (by omega) d_M_part_37 ?_
        exact hret H locs _ ls (lI (dn.tdiv (-((Nat.gcd up.natAbs dn.natAbs : Nat) : Int)))) () d_M_part_38 (by rw [part_of hd0, if_pos (show dn < 0 from by omega), if_neg (show ¬ pt.toInt = 0 from by omega)]) hP hD hS
      · skip
        refine lv_lload_n hx hb d_M_part_27 rfl (lv_at hl 1 rfl) ?_
        refine lv_lload hx hb d_M_part_28 (lv_at hl 0 rfl) ?_
        refine xl_div hx hb (by unfold lB; omega) (by unfold lB; omega) (by omega) (by omega) d_M_part_30 ?_
        refine lv_goto (tgt := 38) hx hb d_M_part_31 (by decide) ?_
        exact hret H locs _ ls (lI (up.tdiv (-((Nat.gcd up.natAbs dn.natAbs : Nat) : Int)))) () d_M_part_38 (by rw [part_of hd0, if_pos (show dn < 0 from by omega), if_pos (show pt.toInt = 0 from by omega)]) hP hD hS
  rw [hH, hlc] at key; exact key

def rm_r_middle : Room := { frames := 4, cells := 0, slots := 0, locals := 103 }
set_option maxHeartbeats 4000000 in
set_option maxRecDepth 100000 in
/-- middle -/
theorem r_middle (l : Launch) (D : va_G) (cJ cI : ClassId) (g : Nat) (cd : Int32) (d : Nat) (ik : Int32) (rw : Int32) (ab : Int32) (be : Int32) (a0 : Int32) (a1 : Int32) (b0 : Int32) (b1 : Int32) (lm : Int32) (mm : Nat) (kf : Nat) (tb : Nat) (wk : Nat) (pl : Nat) (sp : Nat) (po : Nat) (to : Nat) (ba : Nat) (li : Nat) (Fm : Nat → Int) (T : Nat → Int) (W0 : Nat → Int) (va : Int32) (vp : Int32) (hd2 : 2 ≤ d) (hd3 : d ≤ 3) (hF : ∀ k, k < 16 → inB (Fm k) 20) (sz : Nat) : xMl l y_M_middle (Cond.code y_M_middle b_M_middle 6 (some .long) :: tW) rm_r_middle [.ref g, .int va, .int vp] D vwC [(cJ, .long), (cI, .int)] sz [(g, .inr (2, [.int cd, .int (nI d), .ref mm, .int ik, .ref kf, .ref tb, .int rw, .ref wk, .int ab, .int be, .ref pl, .ref sp, .int a0, .int a1, .int b0, .int b1, .ref po, .ref to, .ref ba, .ref li, .int lm])), (mm, IA cI 16 Fm), (tb, LA cJ 16 T), (wk, LA cJ 20 W0)] (fun (rv : Int64) (uo : Int32 × (Nat → Int) × (Nat → Int)) => rv = lI (s_mdl Fm d va.toInt vp.toInt)) (fun (uo : Int32 × (Nat → Int) × (Nat → Int)) => [(g, .inr (2, [.int (nI 0), .int (nI d), .ref mm, .int ik, .ref kf, .ref tb, .int uo.1, .ref wk, .int ab, .int be, .ref pl, .ref sp, .int a0, .int a1, .int b0, .int b1, .ref po, .ref to, .ref ba, .ref li, .int lm])), (mm, IA cI 16 Fm), (tb, LA cJ 16 uo.2.1), (wk, LA cJ 20 uo.2.2)]) 0 0 := by
  refine xol (cc := b_M_middle) (maxL := 6) (by decide) rfl (Nat.le_of_ble_eq_true rfl) ?_
  intro p e s m args below meth c Q A hx hb hml hts hown hN hA hS hP hK hD hret ls hl
  have hl : lv_has ls 6 [(0, .ref g), (1, .int va), (2, .int vp)] := hl
  obtain ⟨H, hH⟩ : ∃ z, z = s.heap := ⟨_, rfl⟩
  obtain ⟨locs, hlc⟩ : ∃ z : List Loc, z = [] := ⟨_, rfl⟩
  rw [← hH] at hP
  have hS : va_S A s.heap H locs := by rw [hH, hlc]; exact hS
  have key : W p l e rm_r_middle s m args below meth c H locs 0 0 Q (F0 m 0 ls []) := by
    refine lv_aload_n hx hb d_M_middle_0 rfl (lv_at hl 0 rfl) ?_
    refine lv_iconst (v := nI 0) hx hb d_M_middle_1 (by decide) ?_
    refine va_put (D := D) (ci := 2) (v := .int (nI 0)) (ty := .int) (C := R_M) (T := F_M) (N := 21) hx hb hts iw_M ft_M ft_M_ok n_M hown hK hP hD hS 0 rfl rfl 0 (by decide) (hts _ tw_387) (fun _ h9 => h9) rfl (by decide +kernel) rfl rfl (Nat.le_of_ble_eq_true rfl) d_M_middle_2 (fun H locs hP hD hS => ?_)
    have hP : va_P D vwC [(g, .inr (2, [.int (nI 0), .int (nI d), .ref mm, .int ik, .ref kf, .ref tb, .int rw, .ref wk, .int ab, .int be, .ref pl, .ref sp, .int a0, .int a1, .int b0, .int b1, .ref po, .ref to, .ref ba, .ref li, .int lm])), (mm, IA cI 16 Fm), (tb, LA cJ 16 T), (wk, LA cJ 20 W0)] H := hP
    have hD : va_D A [(g, .inr (2, [.int (nI 0), .int (nI d), .ref mm, .int ik, .ref kf, .ref tb, .int rw, .ref wk, .int ab, .int be, .ref pl, .ref sp, .int a0, .int a1, .int b0, .int b1, .ref po, .ref to, .ref ba, .ref li, .int lm])), (mm, IA cI 16 Fm), (tb, LA cJ 16 T), (wk, LA cJ 20 W0)] := hD
    refine lv_iload_n hx hb d_M_middle_5 rfl (lv_at hl 1 rfl) ?_
    refine lv_i2l (v := lI va.toInt) hx hb d_M_middle_6 rfl ?_
    refine lv_iconst (v := nI 1) hx hb d_M_middle_7 (by decide) ?_
    refine lv_aload_n hx hb d_M_middle_8 rfl (lv_at hl 0 rfl) ?_
    refine va_get (D := D) (ci := 2) (v := .int (nI d)) (C := R_M) (T := F_M) (N := 21) hx hb hts iw_M hown hK hP 0 rfl rfl 1 (by decide) (hts _ tw_388) (fun _ h9 => h9) rfl d_M_middle_9 ?_
    refine xci (wc := []) (wr := [(g, .inr (2, [.int (nI 0), .int (nI d), .ref mm, .int ik, .ref kf, .ref tb, .int rw, .ref wk, .int ab, .int be, .ref pl, .ref sp, .int a0, .int a1, .int b0, .int b1, .ref po, .ref to, .ref ba, .ref li, .int lm])), (mm, IA cI 16 Fm), (tb, LA cJ 16 T), (wk, LA cJ 20 W0)]) hP hD hS hA [] [0, 1, 2, 3] rfl rfl (by decide) (by decide) (va_runS (As := [.long (lI va.toInt), .int (nI 1), .int (nI d)]) (rest := []) ⟨hx, hb, hml, hown, hts⟩ (r_in l D cJ cI va.toInt (nI 1) (nI d) (lB_i _) H.size) (cwS 3 hts (gS tw_464 tw_465 tw_3 tw_466) rfl rfl rfl ⟨rfl, hd_M_in⟩ ⟨Nat.le_of_ble_eq_true rfl, Nat.le_of_ble_eq_true rfl⟩) (xPreS hN hK (hP.sub (ws' := []) [] rfl) (hD.sub (ws' := []) [] (by decide) rfl)) rfl rfl hl.1 rfl (lv_room (Nat.le_of_ble_eq_true rfl)) d_M_middle_12 ⟨Nat.le_of_ble_eq_true rfl, Nat.le_of_ble_eq_true rfl⟩) (fun r_1 u_2 H locs hwa hP hD hS => ?_)
    try dsimp only at hwa
    have hP : va_P D vwC [(g, .inr (2, [.int (nI 0), .int (nI d), .ref mm, .int ik, .ref kf, .ref tb, .int rw, .ref wk, .int ab, .int be, .ref pl, .ref sp, .int a0, .int a1, .int b0, .int b1, .ref po, .ref to, .ref ba, .ref li, .int lm])), (mm, IA cI 16 Fm), (tb, LA cJ 16 T), (wk, LA cJ 20 W0)] H := hP
    have hD : va_D A [(g, .inr (2, [.int (nI 0), .int (nI d), .ref mm, .int ik, .ref kf, .ref tb, .int rw, .ref wk, .int ab, .int be, .ref pl, .ref sp, .int a0, .int a1, .int b0, .int b1, .ref po, .ref to, .ref ba, .ref li, .int lm])), (mm, IA cI 16 Fm), (tb, LA cJ 16 T), (wk, LA cJ 20 W0)] := hD
    rcases hwa with ⟨rfl, hwa⟩ | ⟨rfl, hwa⟩
    · skip
      refine xz_eq (tgt := 28) (X := (1 : Nat)) hx hb (nI_toInt (by omega)) d_M_middle_15 (by decide) (fun c15_2 => absurd c15_2 (by omega)) (fun c15_2 => ?_)
      refine lv_iload_n hx hb d_M_middle_18 rfl (lv_at hl 2 rfl) ?_
      refine lv_i2l (v := lI vp.toInt) hx hb d_M_middle_19 rfl ?_
      refine lv_iconst (v := nI 0) hx hb d_M_middle_20 (by decide) ?_
      refine lv_iconst (v := nI 1) hx hb d_M_middle_21 (by decide) ?_
      refine xci (wc := []) (wr := [(g, .inr (2, [.int (nI 0), .int (nI d), .ref mm, .int ik, .ref kf, .ref tb, .int rw, .ref wk, .int ab, .int be, .ref pl, .ref sp, .int a0, .int a1, .int b0, .int b1, .ref po, .ref to, .ref ba, .ref li, .int lm])), (mm, IA cI 16 Fm), (tb, LA cJ 16 T), (wk, LA cJ 20 W0)]) hP hD hS hA [] [0, 1, 2, 3] rfl rfl (by decide) (by decide) (va_runS (As := [.long (lI vp.toInt), .int (nI 0), .int (nI 1)]) (rest := []) ⟨hx, hb, hml, hown, hts⟩ (r_in l D cJ cI vp.toInt (nI 0) (nI 1) (lB_i _) H.size) (cwS 3 hts (gS tw_464 tw_465 tw_3 tw_466) rfl rfl rfl ⟨rfl, hd_M_in⟩ ⟨Nat.le_of_ble_eq_true rfl, Nat.le_of_ble_eq_true rfl⟩) (xPreS hN hK (hP.sub (ws' := []) [] rfl) (hD.sub (ws' := []) [] (by decide) rfl)) rfl rfl hl.1 rfl (lv_room (Nat.le_of_ble_eq_true rfl)) d_M_middle_22 ⟨Nat.le_of_ble_eq_true rfl, Nat.le_of_ble_eq_true rfl⟩) (fun r_4 u_5 H locs hwp hP hD hS => ?_)
      try dsimp only at hwp
      have hP : va_P D vwC [(g, .inr (2, [.int (nI 0), .int (nI d), .ref mm, .int ik, .ref kf, .ref tb, .int rw, .ref wk, .int ab, .int be, .ref pl, .ref sp, .int a0, .int a1, .int b0, .int b1, .ref po, .ref to, .ref ba, .ref li, .int lm])), (mm, IA cI 16 Fm), (tb, LA cJ 16 T), (wk, LA cJ 20 W0)] H := hP
      have hD : va_D A [(g, .inr (2, [.int (nI 0), .int (nI d), .ref mm, .int ik, .ref kf, .ref tb, .int rw, .ref wk, .int ab, .int be, .ref pl, .ref sp, .int a0, .int a1, .int b0, .int b1, .ref po, .ref to, .ref ba, .ref li, .int lm])), (mm, IA cI 16 Fm), (tb, LA cJ 16 T), (wk, LA cJ 20 W0)] := hD
      rcases hwp with ⟨rfl, hwp⟩ | ⟨rfl, hwp⟩
      · skip
        refine xz_ne (tgt := 32) (X := (1 : Nat)) hx hb (nI_toInt (by omega)) d_M_middle_25 (by decide) (fun c25_5 => ?_) (fun c25_5 => absurd c25_5 (by omega))
        have e00 : (nI 0).toInt = 0 := rfl
        have e11 : (nI 1).toInt = 1 := rfl
        have edd : (nI d).toInt = (d : Int) := nI_toInt (by omega)
        obtain ⟨a, ha, rfl⟩ := mid_ax (v := va) (d := d) (by omega) (by omega)
        have eaa : (nI (a + 1)).toInt = ((a + 1 : Nat) : Int) := nI_toInt (by omega)
        refine lv_aload_n hx hb d_M_middle_32 rfl (lv_at hl 0 rfl) ?_
        refine lv_iconst (v := nI 0) hx hb d_M_middle_33 (by decide) ?_
        refine xcv (wc := [(g, .inr (2, [.int (nI 0), .int (nI d), .ref mm, .int ik, .ref kf, .ref tb, .int rw, .ref wk, .int ab, .int be, .ref pl, .ref sp, .int a0, .int a1, .int b0, .int b1, .ref po, .ref to, .ref ba, .ref li, .int lm])), (mm, IA cI 16 Fm), (tb, LA cJ 16 T)]) (wr := [(wk, LA cJ 20 W0)]) hP hD hS hA [0, 1, 2] [3] rfl rfl (by decide) (by decide) (va_runV (As := [.int (nI 0)]) (rest := []) ⟨hx, hb, hml, hown, hts⟩ (r_take0 l D cJ cI g (nI 0) d ik rw ab be a0 a1 b0 b1 lm mm kf tb wk pl sp po to ba li Fm T (by first | assumption | omega) (by first | assumption | omega) H.size) (cwV 1 hts (gV tw_480 tw_482 tws_19 tw_3 tw_483) rfl rfl rfl ⟨rfl, hd_M_take⟩ ⟨Nat.le_of_ble_eq_true rfl, Nat.le_of_ble_eq_true rfl⟩) (xPreV (C := R_M) (T := F_M) (N := 21) (q0 := 0) hN hK (hP.sub (ws' := [(g, .inr (2, [.int (nI 0), .int (nI d), .ref mm, .int ik, .ref kf, .ref tb, .int rw, .ref wk, .int ab, .int be, .ref pl, .ref sp, .int a0, .int a1, .int b0, .int b1, .ref po, .ref to, .ref ba, .ref li, .int lm])), (mm, IA cI 16 Fm), (tb, LA cJ 16 T)]) [0, 1, 2] rfl) (hD.sub (ws' := [(g, .inr (2, [.int (nI 0), .int (nI d), .ref mm, .int ik, .ref kf, .ref tb, .int rw, .ref wk, .int ab, .int be, .ref pl, .ref sp, .int a0, .int a1, .int b0, .int b1, .ref po, .ref to, .ref ba, .ref li, .int lm])), (mm, IA cI 16 Fm), (tb, LA cJ 16 T)]) [0, 1, 2] (by decide) rfl) rfl rfl) rfl rfl hl.1 rfl (lv_room (Nat.le_of_ble_eq_true rfl)) d_M_middle_34 ⟨Nat.le_of_ble_eq_true rfl, Nat.le_of_ble_eq_true rfl⟩) (fun u_8 H locs ht5 hP hD hS => ?_)
        obtain ⟨T5, rfl⟩ : ∃ z, z = u_8 := ⟨_, rfl⟩
        try dsimp only at ht5
        have hP : va_P D vwC [(g, .inr (2, [.int (nI 0), .int (nI d), .ref mm, .int ik, .ref kf, .ref tb, .int (nI d), .ref wk, .int ab, .int be, .ref pl, .ref sp, .int a0, .int a1, .int b0, .int b1, .ref po, .ref to, .ref ba, .ref li, .int lm])), (mm, IA cI 16 Fm), (tb, LA cJ 16 T5), (wk, LA cJ 20 W0)] H := hP.sub [1, 2, 3, 0] rfl
        have hD : va_D A [(g, .inr (2, [.int (nI 0), .int (nI d), .ref mm, .int ik, .ref kf, .ref tb, .int (nI d), .ref wk, .int ab, .int be, .ref pl, .ref sp, .int a0, .int a1, .int b0, .int b1, .ref po, .ref to, .ref ba, .ref li, .int lm])), (mm, IA cI 16 Fm), (tb, LA cJ 16 T5), (wk, LA cJ 20 W0)] := hD.sub [1, 2, 3, 0] (by decide) rfl
        refine lv_aload_n hx hb d_M_middle_37 rfl (lv_at hl 0 rfl) ?_
        refine lv_aload_n hx hb d_M_middle_38 rfl (lv_at hl 0 rfl) ?_
        refine va_get (D := D) (ci := 2) (v := .int (nI d)) (C := R_M) (T := F_M) (N := 21) hx hb hts iw_M hown hK hP 0 rfl rfl 1 (by decide) (hts _ tw_388) (fun _ h9 => h9) rfl d_M_middle_39 ?_
        refine xcl (wc := [(g, .inr (2, [.int (nI 0), .int (nI d), .ref mm, .int ik, .ref kf, .ref tb, .int (nI d), .ref wk, .int ab, .int be, .ref pl, .ref sp, .int a0, .int a1, .int b0, .int b1, .ref po, .ref to, .ref ba, .ref li, .int lm])), (tb, LA cJ 16 T5), (wk, LA cJ 20 W0)]) (wr := [(mm, IA cI 16 Fm)]) hP hD hS hA [0, 2, 3] [1] rfl rfl (by decide) (by decide) (va_runV (As := [.int (nI d)]) (rest := []) ⟨hx, hb, hml, hown, hts⟩ (r_sums l D cJ cI g (nI 0) d ik ab be a0 a1 b0 b1 lm mm kf tb wk pl sp po to ba li d T5 W0 d (by first | assumption | omega) (by first | assumption | omega) (by first | assumption | omega) (by first | assumption | omega) (enB_congr (prt_eq (by omega) ht5) (enB_20 hF (f := 1) (r := d) (by omega))) H.size) (cwV 1 hts (gV tw_488 tw_490 tws_21 tw_3 tw_491) rfl rfl rfl ⟨rfl, hd_M_sums⟩ ⟨Nat.le_of_ble_eq_true rfl, Nat.le_of_ble_eq_true rfl⟩) (xPreV (C := R_M) (T := F_M) (N := 21) (q0 := 0) hN hK (hP.sub (ws' := [(g, .inr (2, [.int (nI 0), .int (nI d), .ref mm, .int ik, .ref kf, .ref tb, .int (nI d), .ref wk, .int ab, .int be, .ref pl, .ref sp, .int a0, .int a1, .int b0, .int b1, .ref po, .ref to, .ref ba, .ref li, .int lm])), (tb, LA cJ 16 T5), (wk, LA cJ 20 W0)]) [0, 2, 3] rfl) (hD.sub (ws' := [(g, .inr (2, [.int (nI 0), .int (nI d), .ref mm, .int ik, .ref kf, .ref tb, .int (nI d), .ref wk, .int ab, .int be, .ref pl, .ref sp, .int a0, .int a1, .int b0, .int b1, .ref po, .ref to, .ref ba, .ref li, .int lm])), (tb, LA cJ 16 T5), (wk, LA cJ 20 W0)]) [0, 2, 3] (by decide) rfl) rfl rfl) rfl rfl hl.1 rfl (lv_room (Nat.le_of_ble_eq_true rfl)) d_M_middle_42 ⟨Nat.le_of_ble_eq_true rfl, Nat.le_of_ble_eq_true rfl⟩) (fun r_9 u_10 H locs hw_11 hP hD hS => ?_)
        obtain ⟨W5, rfl⟩ : ∃ z, z = u_10 := ⟨_, rfl⟩
        try dsimp only at hw_11
        have hP : va_P D vwC [(g, .inr (2, [.int (nI 0), .int (nI d), .ref mm, .int ik, .ref kf, .ref tb, .int (nI d), .ref wk, .int ab, .int be, .ref pl, .ref sp, .int a0, .int a1, .int b0, .int b1, .ref po, .ref to, .ref ba, .ref li, .int lm])), (mm, IA cI 16 Fm), (tb, LA cJ 16 T5), (wk, LA cJ 20 W5)] H := hP.sub [1, 0, 2, 3] rfl
        have hD : va_D A [(g, .inr (2, [.int (nI 0), .int (nI d), .ref mm, .int ik, .ref kf, .ref tb, .int (nI d), .ref wk, .int ab, .int be, .ref pl, .ref sp, .int a0, .int a1, .int b0, .int b1, .ref po, .ref to, .ref ba, .ref li, .int lm])), (mm, IA cI 16 Fm), (tb, LA cJ 16 T5), (wk, LA cJ 20 W5)] := hD.sub [1, 0, 2, 3] (by decide) rfl
        subst hw_11
        have hdt : eS T5 d d = det (prt Fm 1) d := eS_congr hd2 (by omega) (prt_eq (by omega) ht5) d (Nat.le_refl _)
        refine lv_lstore_n (lv' := [(3, .long (lI (eS T5 d d))), (0, .ref g), (1, .int (nI (a + 1))), (2, .int vp)]) hx hb d_M_middle_45 rfl hl (by decide) rfl (fun ls hl => ?_)
        refine lv_lload_n hx hb d_M_middle_46 rfl (lv_at hl 0 rfl) ?_
        refine lv_lconst (v := lI 0) hx hb d_M_middle_47 (by decide) ?_
        refine xl_ne (tgt := 56) hx hb (lB_of (eS_B hd2 (by omega) (enB_congr (prt_eq (by omega) ht5) (enB_20 hF (f := 1) (r := d) (by omega))) d (Nat.le_refl _)) (by decide)) ⟨by decide, by decide⟩ d_M_middle_48 d_M_middle_49 (by decide) (fun c49_11 => ?_) (fun c49_11 => ?_)
        · skip
          refine lv_iconst (v := nI 0) hx hb d_M_middle_56 (by decide) ?_
          refine lv_istore (lv' := [(5, .int (nI 0)), (3, .long (lI (eS T5 d d))), (0, .ref g), (1, .int (nI (a + 1))), (2, .int vp)]) hx hb d_M_middle_57 hl (by decide) rfl (fun ls hl => ?_)
          have lp_59 : ∀ (n_59 : Nat) (i : Nat) (T6 : Nat → Int) (H : Heap) (locs : List Loc) (ls : Array Slot), (i ≤ d) → (∀ x y, x < d → y < d → ((y = a ∧ x < i) → T6 (4 * x + y) = -(Fm (4 * (x + 1)))) ∧ (¬ (y = a ∧ x < i) → T6 (4 * x + y) = T5 (4 * x + y))) → (d - i) < n_59 → va_P D vwC [(g, .inr (2, [.int (nI 0), .int (nI d), .ref mm, .int ik, .ref kf, .ref tb, .int (nI d), .ref wk, .int ab, .int be, .ref pl, .ref sp, .int a0, .int a1, .int b0, .int b1, .ref po, .ref to, .ref ba, .ref li, .int lm])), (mm, IA cI 16 Fm), (tb, LA cJ 16 T6), (wk, LA cJ 20 W5)] H → va_D A [(g, .inr (2, [.int (nI 0), .int (nI d), .ref mm, .int ik, .ref kf, .ref tb, .int (nI d), .ref wk, .int ab, .int be, .ref pl, .ref sp, .int a0, .int a1, .int b0, .int b1, .ref po, .ref to, .ref ba, .ref li, .int lm])), (mm, IA cI 16 Fm), (tb, LA cJ 16 T6), (wk, LA cJ 20 W5)] → va_S A s.heap H locs → lv_has ls 6 [(0, .ref g), (1, .int (nI (a + 1))), (2, .int vp), (3, .long (lI (eS T5 d d))), (5, .int (nI i))] → W p l e rm_r_middle s m args below meth c H locs 0 0 Q (F0 m 59 ls []) := by
            intro n_59
            induction n_59 with
            | zero => intro i T6 H locs ls hi h1 hn_59; exact absurd hn_59 (Nat.not_lt_zero _)
            | succ n_59 ih_59 =>
              intro i T6 H locs ls hi h1 hn_59 hP hD hS hl
              refine lv_iload hx hb d_M_middle_59 (lv_at hl 4 rfl) ?_
              refine lv_aload_n hx hb d_M_middle_61 rfl (lv_at hl 0 rfl) ?_
              refine va_get (D := D) (ci := 2) (v := .int (nI d)) (C := R_M) (T := F_M) (N := 21) hx hb hts iw_M hown hK hP 0 rfl rfl 1 (by decide) (hts _ tw_388) (fun _ h9 => h9) rfl d_M_middle_62 ?_
              refine xn_ge (tgt := 100) hx hb (by omega) (by omega) d_M_middle_65 (by decide) (fun c65_12 => ?_) (fun c65_12 => ?_)
              · skip
                have hcz : ∀ x y, x < d → y < d → T6 (4 * x + y) = colZ Fm a (4 * x + y) := by
                  intro x y hx2 hy2
                  unfold colZ
                  rw [q4d x (show y < 4 by omega), q4m x (show y < 4 by omega)]
                  by_cases q : y = a
                  · rw [if_pos q, q]; exact (h1 x a hx2 ha).1 ⟨rfl, by omega⟩
                  · rw [if_neg q, (h1 x y hx2 hy2).2 (fun z => q z.1)]; exact prt_eq (by omega) ht5 x y hx2 hy2
                refine lv_aload_n hx hb d_M_middle_100 rfl (lv_at hl 0 rfl) ?_
                refine lv_aload_n hx hb d_M_middle_101 rfl (lv_at hl 0 rfl) ?_
                refine va_get (D := D) (ci := 2) (v := .int (nI d)) (C := R_M) (T := F_M) (N := 21) hx hb hts iw_M hown hK hP 0 rfl rfl 1 (by decide) (hts _ tw_388) (fun _ h9 => h9) rfl d_M_middle_102 ?_
                refine xcl (wc := [(g, .inr (2, [.int (nI 0), .int (nI d), .ref mm, .int ik, .ref kf, .ref tb, .int (nI d), .ref wk, .int ab, .int be, .ref pl, .ref sp, .int a0, .int a1, .int b0, .int b1, .ref po, .ref to, .ref ba, .ref li, .int lm])), (tb, LA cJ 16 T6), (wk, LA cJ 20 W5)]) (wr := [(mm, IA cI 16 Fm)]) hP hD hS hA [0, 2, 3] [1] rfl rfl (by decide) (by decide) (va_runV (As := [.int (nI d)]) (rest := []) ⟨hx, hb, hml, hown, hts⟩ (r_sums l D cJ cI g (nI 0) d ik ab be a0 a1 b0 b1 lm mm kf tb wk pl sp po to ba li d T6 W5 d (by first | assumption | omega) (by first | assumption | omega) (by first | assumption | omega) (by first | assumption | omega) (enB_congr hcz (tab_20 (colZ_B hd3 hF))) H.size) (cwV 1 hts (gV tw_488 tw_490 tws_21 tw_3 tw_491) rfl rfl rfl ⟨rfl, hd_M_sums⟩ ⟨Nat.le_of_ble_eq_true rfl, Nat.le_of_ble_eq_true rfl⟩) (xPreV (C := R_M) (T := F_M) (N := 21) (q0 := 0) hN hK (hP.sub (ws' := [(g, .inr (2, [.int (nI 0), .int (nI d), .ref mm, .int ik, .ref kf, .ref tb, .int (nI d), .ref wk, .int ab, .int be, .ref pl, .ref sp, .int a0, .int a1, .int b0, .int b1, .ref po, .ref to, .ref ba, .ref li, .int lm])), (tb, LA cJ 16 T6), (wk, LA cJ 20 W5)]) [0, 2, 3] rfl) (hD.sub (ws' := [(g, .inr (2, [.int (nI 0), .int (nI d), .ref mm, .int ik, .ref kf, .ref tb, .int (nI d), .ref wk, .int ab, .int be, .ref pl, .ref sp, .int a0, .int a1, .int b0, .int b1, .ref po, .ref to, .ref ba, .ref li, .int lm])), (tb, LA cJ 16 T6), (wk, LA cJ 20 W5)]) [0, 2, 3] (by decide) rfl) rfl rfl) rfl rfl hl.1 rfl (lv_room (Nat.le_of_ble_eq_true rfl)) d_M_middle_105 ⟨Nat.le_of_ble_eq_true rfl, Nat.le_of_ble_eq_true rfl⟩) (fun r_14 u_15 H locs hw_16 hP hD hS => ?_)
                obtain ⟨W2_17, rfl⟩ : ∃ z, z = u_15 := ⟨_, rfl⟩
                try dsimp only at hw_16
                have hP : va_P D vwC [(g, .inr (2, [.int (nI 0), .int (nI d), .ref mm, .int ik, .ref kf, .ref tb, .int (nI d), .ref wk, .int ab, .int be, .ref pl, .ref sp, .int a0, .int a1, .int b0, .int b1, .ref po, .ref to, .ref ba, .ref li, .int lm])), (mm, IA cI 16 Fm), (tb, LA cJ 16 T6), (wk, LA cJ 20 W2_17)] H := hP.sub [1, 0, 2, 3] rfl
                have hD : va_D A [(g, .inr (2, [.int (nI 0), .int (nI d), .ref mm, .int ik, .ref kf, .ref tb, .int (nI d), .ref wk, .int ab, .int be, .ref pl, .ref sp, .int a0, .int a1, .int b0, .int b1, .ref po, .ref to, .ref ba, .ref li, .int lm])), (mm, IA cI 16 Fm), (tb, LA cJ 16 T6), (wk, LA cJ 20 W2_17)] := hD.sub [1, 0, 2, 3] (by decide) rfl
                subst hw_16
                have hde : eS T6 d d = eS (colZ Fm a) d d := eS_congr hd2 (by omega) hcz d (Nat.le_refl _)
                refine lv_lload_n hx hb d_M_middle_108 rfl (lv_at hl 3 rfl) ?_
                refine lv_iload_n hx hb d_M_middle_109 rfl (lv_at hl 2 rfl) ?_
                refine xcl (wc := []) (wr := [(g, .inr (2, [.int (nI 0), .int (nI d), .ref mm, .int ik, .ref kf, .ref tb, .int (nI d), .ref wk, .int ab, .int be, .ref pl, .ref sp, .int a0, .int a1, .int b0, .int b1, .ref po, .ref to, .ref ba, .ref li, .int lm])), (mm, IA cI 16 Fm), (tb, LA cJ 16 T6), (wk, LA cJ 20 W2_17)]) hP hD hS hA [] [0, 1, 2, 3] rfl rfl (by decide) (by decide) (va_runS (As := [.long (lI (eS T6 d d)), .long (lI (eS T5 d d)), .int vp]) (rest := []) ⟨hx, hb, hml, hown, hts⟩ (r_part l D cJ cI (eS T6 d d) (eS T5 d d) vp (by rw [hde]; exact eS_20 hd2 (by omega) (colZ_B hd3 hF)) (by rw [hdt]; exact eS_20 hd2 (by omega) (enB_f hF (by omega))) (by first | assumption | omega) H.size) (cwS 3 hts (gS tw_531 tw_532 tw_3 tw_533) rfl rfl rfl ⟨rfl, hd_M_part⟩ ⟨Nat.le_of_ble_eq_true rfl, Nat.le_of_ble_eq_true rfl⟩) (xPreS hN hK (hP.sub (ws' := []) [] rfl) (hD.sub (ws' := []) [] (by decide) rfl)) rfl rfl hl.1 rfl (lv_room (Nat.le_of_ble_eq_true rfl)) d_M_middle_110 ⟨Nat.le_of_ble_eq_true rfl, Nat.le_of_ble_eq_true rfl⟩) (fun r_18 u_19 H locs hw_20 hP hD hS => ?_)
                try dsimp only at hw_20
                have hP : va_P D vwC [(g, .inr (2, [.int (nI 0), .int (nI d), .ref mm, .int ik, .ref kf, .ref tb, .int (nI d), .ref wk, .int ab, .int be, .ref pl, .ref sp, .int a0, .int a1, .int b0, .int b1, .ref po, .ref to, .ref ba, .ref li, .int lm])), (mm, IA cI 16 Fm), (tb, LA cJ 16 T6), (wk, LA cJ 20 W2_17)] H := hP
                have hD : va_D A [(g, .inr (2, [.int (nI 0), .int (nI d), .ref mm, .int ik, .ref kf, .ref tb, .int (nI d), .ref wk, .int ab, .int be, .ref pl, .ref sp, .int a0, .int a1, .int b0, .int b1, .ref po, .ref to, .ref ba, .ref li, .int lm])), (mm, IA cI 16 Fm), (tb, LA cJ 16 T6), (wk, LA cJ 20 W2_17)] := hD
                subst hw_20
                exact hret H locs _ ls (lI (pfr (eS T6 d d) (eS T5 d d) vp.toInt)) (nI d, T6, W2_17) d_M_middle_113 (by first | exact (by unfold s_mdl; rw [eaa, if_neg (show ¬ (((a + 1 : Nat) : Int) < 1 ∨ (d : Int) < ((a + 1 : Nat) : Int) ∨ (vp.toInt ≠ 0 ∧ vp.toInt ≠ 1)) from by omega), if_neg (show ¬ det (prt Fm 1) d = 0 from hdt ▸ c49_11), hde, hdt]; rfl) | (dsimp only; exact (by unfold s_mdl; rw [eaa, if_neg (show ¬ (((a + 1 : Nat) : Int) < 1 ∨ (d : Int) < ((a + 1 : Nat) : Int) ∨ (vp.toInt ≠ 0 ∧ vp.toInt ≠ 1)) from by omega), if_neg (show ¬ det (prt Fm 1) d = 0 from hdt ▸ c49_11), hde, hdt]; rfl))) hP hD hS
              · skip
                refine lv_aload_n hx hb d_M_middle_68 rfl (lv_at hl 0 rfl) ?_
                refine va_get (D := D) (ci := 2) (v := .ref tb) (C := R_M) (T := F_M) (N := 21) hx hb hts iw_M hown hK hP 0 rfl rfl 5 (by decide) (hts _ tw_392) (fun _ h9 => h9) rfl d_M_middle_69 ?_
                refine lv_iconst (v := nI 4) hx hb d_M_middle_72 (by decide) ?_
                refine lv_iload hx hb d_M_middle_73 (lv_at hl 4 rfl) ?_
                refine xn_mul hx hb d_M_middle_75 ?_
                refine lv_iload_n hx hb d_M_middle_76 rfl (lv_at hl 1 rfl) ?_
                refine xn_add hx hb d_M_middle_77 ?_
                refine lv_iconst (v := nI 1) hx hb d_M_middle_78 (by decide) ?_
                refine xn_sub hx hb (by omega) d_M_middle_79 ?_
                rw [show 4 * i + (a + 1) - 1 = 4 * i + a from rfl]
                refine lv_aload_n hx hb d_M_middle_80 rfl (lv_at hl 0 rfl) ?_
                refine va_get (D := D) (ci := 2) (v := .ref mm) (C := R_M) (T := F_M) (N := 21) hx hb hts iw_M hown hK hP 0 rfl rfl 2 (by decide) (hts _ tw_389) (fun _ h9 => h9) rfl d_M_middle_81 ?_
                refine lv_iconst (v := nI 4) hx hb d_M_middle_84 (by decide) ?_
                refine lv_iload hx hb d_M_middle_85 (lv_at hl 4 rfl) ?_
                refine lv_iconst (v := nI 1) hx hb d_M_middle_87 (by decide) ?_
                refine xn_add hx hb d_M_middle_88 ?_
                refine xn_mul hx hb d_M_middle_89 ?_
                refine xi_ald hx hb hK hP 1 1 rfl rfl (k := 4 * (i + 1)) (by omega) (by first | decide | omega) d_M_middle_90 ?_
                refine xq_neg hx hb d_M_middle_91 ?_
                refine lv_i2l (v := lI (-(Fm (4 * (i + 1))))) hx hb d_M_middle_92 (iI_i2l (iB_of (negB (hF _ (by omega))) (by decide))) ?_
                refine xl_ast hx hb hK hP hD hS 2 0 rfl rfl (k := 4 * i + a) (by omega) (by first | decide | omega) d_M_middle_93 (fun H locs hP hD hS => ?_)
                have hP : va_P D vwC [(g, .inr (2, [.int (nI 0), .int (nI d), .ref mm, .int ik, .ref kf, .ref tb, .int (nI d), .ref wk, .int ab, .int be, .ref pl, .ref sp, .int a0, .int a1, .int b0, .int b1, .ref po, .ref to, .ref ba, .ref li, .int lm])), (mm, IA cI 16 Fm), (tb, LA cJ 16 (upZ T6 (4 * i + a) (-(Fm (4 * (i + 1)))))), (wk, LA cJ 20 W5)] H := hP
                have hD : va_D A [(g, .inr (2, [.int (nI 0), .int (nI d), .ref mm, .int ik, .ref kf, .ref tb, .int (nI d), .ref wk, .int ab, .int be, .ref pl, .ref sp, .int a0, .int a1, .int b0, .int b1, .ref po, .ref to, .ref ba, .ref li, .int lm])), (mm, IA cI 16 Fm), (tb, LA cJ 16 (upZ T6 (4 * i + a) (-(Fm (4 * (i + 1)))))), (wk, LA cJ 20 W5)] := hD
                refine lv_iinc (v := nI (i + 1)) (lv' := [(5, .int (nI (i + 1))), (0, .ref g), (1, .int (nI (a + 1))), (2, .int vp), (3, .long (lI (eS T5 d d)))]) hx hb d_M_middle_94 hl (k := 4) rfl (nI_add _ _) (by decide) rfl (fun ls hl => ?_)
                refine lv_goto (tgt := 59) hx hb d_M_middle_97 (by decide) ?_
                exact ih_59 (i + 1) (upZ T6 (4 * i + a) (-(Fm (4 * (i + 1))))) H locs ls (by omega) (fun x y hx2 hy2 => by by_cases q : y = a ∧ x = i; obtain ⟨rfl, rfl⟩ := q; exact ⟨fun _ => upZ_at _ _ _, fun z => absurd ⟨rfl, by omega⟩ z⟩; rw [upZ_ne (k := 4 * i + a) (j := 4 * x + y) _ _ (by omega)]; exact ⟨fun z => (h1 x y hx2 hy2).1 (by omega), fun z => (h1 x y hx2 hy2).2 (by omega)⟩) (by omega) hP hD hS (lv_sub hl [1, 2, 3, 4, 0] rfl)
          exact lp_59 ((d - 0) + 1) 0 T5 H locs ls (Nat.zero_le _) (fun x y _ _ => ⟨fun q => absurd q.2 (Nat.not_lt_zero _), fun _ => rfl⟩) (by omega) hP hD hS (lv_sub hl [2, 3, 4, 1, 0] rfl)
        · skip
          refine lv_ldc2 (v := lI (-1000000000000000000)) hx hb hown (hts _ tw_467) d_M_middle_52 ?_
          exact hret H locs _ ls (lI (-1000000000000000000)) (nI d, T5, W5) d_M_middle_55 (by first | exact (by unfold s_mdl; rw [eaa, if_neg (show ¬ (((a + 1 : Nat) : Int) < 1 ∨ (d : Int) < ((a + 1 : Nat) : Int) ∨ (vp.toInt ≠ 0 ∧ vp.toInt ≠ 1)) from by omega), if_pos (show det (prt Fm 1) d = 0 from hdt ▸ c49_11)]; rfl) | (dsimp only; exact (by unfold s_mdl; rw [eaa, if_neg (show ¬ (((a + 1 : Nat) : Int) < 1 ∨ (d : Int) < ((a + 1 : Nat) : Int) ∨ (vp.toInt ≠ 0 ∧ vp.toInt ≠ 1)) from by omega), if_pos (show det (prt Fm 1) d = 0 from hdt ▸ c49_11)]; rfl))) hP hD hS
      · skip
        refine xz_ne (tgt := 32) (X := (0 : Nat)) hx hb (nI_toInt (by omega)) d_M_middle_25 (by decide) (fun c25_20 => absurd c25_20 (by omega)) (fun c25_20 => ?_)
        refine lv_ldc2 (v := lI (-1000000000000000000)) hx hb hown (hts _ tw_467) d_M_middle_28 ?_
        exact hret H locs _ ls (lI (-1000000000000000000)) (rw, T, W0) d_M_middle_31 (by first | exact (by have e00 : (nI 0).toInt = 0 := rfl; have e11 : (nI 1).toInt = 1 := rfl; have edd : (nI d).toInt = (d : Int) := nI_toInt (by omega); unfold s_mdl; rw [if_pos (show va.toInt < 1 ∨ (d : Int) < va.toInt ∨ (vp.toInt ≠ 0 ∧ vp.toInt ≠ 1) from by omega)]; rfl) | (dsimp only; exact (by have e00 : (nI 0).toInt = 0 := rfl; have e11 : (nI 1).toInt = 1 := rfl; have edd : (nI d).toInt = (d : Int) := nI_toInt (by omega); unfold s_mdl; rw [if_pos (show va.toInt < 1 ∨ (d : Int) < va.toInt ∨ (vp.toInt ≠ 0 ∧ vp.toInt ≠ 1) from by omega)]; rfl))) hP hD hS
    · skip
      refine xz_eq (tgt := 28) (X := (0 : Nat)) hx hb (nI_toInt (by omega)) d_M_middle_15 (by decide) (fun c15_21 => ?_) (fun c15_21 => absurd c15_21 (by omega))
      refine lv_ldc2 (v := lI (-1000000000000000000)) hx hb hown (hts _ tw_467) d_M_middle_28 ?_
      exact hret H locs _ ls (lI (-1000000000000000000)) (rw, T, W0) d_M_middle_31 (by first | exact (by have e00 : (nI 0).toInt = 0 := rfl; have e11 : (nI 1).toInt = 1 := rfl; have edd : (nI d).toInt = (d : Int) := nI_toInt (by omega); unfold s_mdl; rw [if_pos (show va.toInt < 1 ∨ (d : Int) < va.toInt ∨ (vp.toInt ≠ 0 ∧ vp.toInt ≠ 1) from by omega)]; rfl) | (dsimp only; exact (by have e00 : (nI 0).toInt = 0 := rfl; have e11 : (nI 1).toInt = 1 := rfl; have edd : (nI d).toInt = (d : Int) := nI_toInt (by omega); unfold s_mdl; rw [if_pos (show va.toInt < 1 ∨ (d : Int) < va.toInt ∨ (vp.toInt ≠ 0 ∧ vp.toInt ≠ 1) from by omega)]; rfl))) hP hD hS
  rw [hH, hlc] at key; exact key

def rm_r_height : Room := { frames := 4, cells := 0, slots := 0, locals := 103 }
set_option maxHeartbeats 4000000 in
set_option maxRecDepth 100000 in
/-- height -/
theorem r_height (l : Launch) (D : va_G) (cJ cI : ClassId) (g : Nat) (cd : Int32) (d : Nat) (ik : Int32) (rw : Int32) (ab : Int32) (be : Int32) (a0 : Int32) (a1 : Int32) (b0 : Int32) (b1 : Int32) (lm : Int32) (mm : Nat) (kf : Nat) (tb : Nat) (wk : Nat) (pl : Nat) (sp : Nat) (po : Nat) (to : Nat) (ba : Nat) (li : Nat) (Fm : Nat → Int) (T : Nat → Int) (W0 : Nat → Int) (vp : Int32) (hd2 : 2 ≤ d) (hd3 : d ≤ 3) (hF : ∀ k, k < 16 → inB (Fm k) 20) (sz : Nat) : xMl l y_M_height (Cond.code y_M_height b_M_height 4 (some .long) :: tW) rm_r_height [.ref g, .int vp] D vwC [(cJ, .long), (cI, .int)] sz [(g, .inr (2, [.int cd, .int (nI d), .ref mm, .int ik, .ref kf, .ref tb, .int rw, .ref wk, .int ab, .int be, .ref pl, .ref sp, .int a0, .int a1, .int b0, .int b1, .ref po, .ref to, .ref ba, .ref li, .int lm])), (mm, IA cI 16 Fm), (tb, LA cJ 16 T), (wk, LA cJ 20 W0)] (fun (rv : Int64) (uo : Int32 × Int32 × (Nat → Int) × (Nat → Int)) => rv = lI (s_hgt Fm d vp.toInt) ∧ (uo.1 = nI (s_hcd Fm d vp.toInt))) (fun (uo : Int32 × Int32 × (Nat → Int) × (Nat → Int)) => [(g, .inr (2, [.int uo.1, .int (nI d), .ref mm, .int ik, .ref kf, .ref tb, .int uo.2.1, .ref wk, .int ab, .int be, .ref pl, .ref sp, .int a0, .int a1, .int b0, .int b1, .ref po, .ref to, .ref ba, .ref li, .int lm])), (mm, IA cI 16 Fm), (tb, LA cJ 16 uo.2.2.1), (wk, LA cJ 20 uo.2.2.2)]) 0 0 := by
  refine xol (cc := b_M_height) (maxL := 4) (by decide) rfl (Nat.le_of_ble_eq_true rfl) ?_
  intro p e s m args below meth c Q A hx hb hml hts hown hN hA hS hP hK hD hret ls hl
  have hl : lv_has ls 4 [(0, .ref g), (1, .int vp)] := hl
  obtain ⟨H, hH⟩ : ∃ z, z = s.heap := ⟨_, rfl⟩
  obtain ⟨locs, hlc⟩ : ∃ z : List Loc, z = [] := ⟨_, rfl⟩
  rw [← hH] at hP
  have hS : va_S A s.heap H locs := by rw [hH, hlc]; exact hS
  have key : W p l e rm_r_height s m args below meth c H locs 0 0 Q (F0 m 0 ls []) := by
    refine lv_aload_n hx hb d_M_height_0 rfl (lv_at hl 0 rfl) ?_
    refine lv_iconst (v := nI 0) hx hb d_M_height_1 (by decide) ?_
    refine va_put (D := D) (ci := 2) (v := .int (nI 0)) (ty := .int) (C := R_M) (T := F_M) (N := 21) hx hb hts iw_M ft_M ft_M_ok n_M hown hK hP hD hS 0 rfl rfl 0 (by decide) (hts _ tw_387) (fun _ h9 => h9) rfl (by decide +kernel) rfl rfl (Nat.le_of_ble_eq_true rfl) d_M_height_2 (fun H locs hP hD hS => ?_)
    have hP : va_P D vwC [(g, .inr (2, [.int (nI 0), .int (nI d), .ref mm, .int ik, .ref kf, .ref tb, .int rw, .ref wk, .int ab, .int be, .ref pl, .ref sp, .int a0, .int a1, .int b0, .int b1, .ref po, .ref to, .ref ba, .ref li, .int lm])), (mm, IA cI 16 Fm), (tb, LA cJ 16 T), (wk, LA cJ 20 W0)] H := hP
    have hD : va_D A [(g, .inr (2, [.int (nI 0), .int (nI d), .ref mm, .int ik, .ref kf, .ref tb, .int rw, .ref wk, .int ab, .int be, .ref pl, .ref sp, .int a0, .int a1, .int b0, .int b1, .ref po, .ref to, .ref ba, .ref li, .int lm])), (mm, IA cI 16 Fm), (tb, LA cJ 16 T), (wk, LA cJ 20 W0)] := hD
    refine lv_iload_n hx hb d_M_height_5 rfl (lv_at hl 1 rfl) ?_
    refine lv_i2l (v := lI vp.toInt) hx hb d_M_height_6 rfl ?_
    refine lv_iconst (v := nI 0) hx hb d_M_height_7 (by decide) ?_
    refine lv_iconst (v := nI 1) hx hb d_M_height_8 (by decide) ?_
    refine xci (wc := []) (wr := [(g, .inr (2, [.int (nI 0), .int (nI d), .ref mm, .int ik, .ref kf, .ref tb, .int rw, .ref wk, .int ab, .int be, .ref pl, .ref sp, .int a0, .int a1, .int b0, .int b1, .ref po, .ref to, .ref ba, .ref li, .int lm])), (mm, IA cI 16 Fm), (tb, LA cJ 16 T), (wk, LA cJ 20 W0)]) hP hD hS hA [] [0, 1, 2, 3] rfl rfl (by decide) (by decide) (va_runS (As := [.long (lI vp.toInt), .int (nI 0), .int (nI 1)]) (rest := []) ⟨hx, hb, hml, hown, hts⟩ (r_in l D cJ cI vp.toInt (nI 0) (nI 1) (lB_i _) H.size) (cwS 3 hts (gS tw_464 tw_465 tw_3 tw_466) rfl rfl rfl ⟨rfl, hd_M_in⟩ ⟨Nat.le_of_ble_eq_true rfl, Nat.le_of_ble_eq_true rfl⟩) (xPreS hN hK (hP.sub (ws' := []) [] rfl) (hD.sub (ws' := []) [] (by decide) rfl)) rfl rfl hl.1 rfl (lv_room (Nat.le_of_ble_eq_true rfl)) d_M_height_9 ⟨Nat.le_of_ble_eq_true rfl, Nat.le_of_ble_eq_true rfl⟩) (fun r_1 u_2 H locs hwp hP hD hS => ?_)
    try dsimp only at hwp
    have hP : va_P D vwC [(g, .inr (2, [.int (nI 0), .int (nI d), .ref mm, .int ik, .ref kf, .ref tb, .int rw, .ref wk, .int ab, .int be, .ref pl, .ref sp, .int a0, .int a1, .int b0, .int b1, .ref po, .ref to, .ref ba, .ref li, .int lm])), (mm, IA cI 16 Fm), (tb, LA cJ 16 T), (wk, LA cJ 20 W0)] H := hP
    have hD : va_D A [(g, .inr (2, [.int (nI 0), .int (nI d), .ref mm, .int ik, .ref kf, .ref tb, .int rw, .ref wk, .int ab, .int be, .ref pl, .ref sp, .int a0, .int a1, .int b0, .int b1, .ref po, .ref to, .ref ba, .ref li, .int lm])), (mm, IA cI 16 Fm), (tb, LA cJ 16 T), (wk, LA cJ 20 W0)] := hD
    rcases hwp with ⟨rfl, hwp⟩ | ⟨rfl, hwp⟩
    · skip
      refine xz_ne (tgt := 19) (X := (1 : Nat)) hx hb (nI_toInt (by omega)) d_M_height_12 (by decide) (fun c12_2 => ?_) (fun c12_2 => absurd c12_2 (by omega))
      refine lv_aload_n hx hb d_M_height_19 rfl (lv_at hl 0 rfl) ?_
      refine lv_iconst (v := nI 0) hx hb d_M_height_20 (by decide) ?_
      refine xcv (wc := [(g, .inr (2, [.int (nI 0), .int (nI d), .ref mm, .int ik, .ref kf, .ref tb, .int rw, .ref wk, .int ab, .int be, .ref pl, .ref sp, .int a0, .int a1, .int b0, .int b1, .ref po, .ref to, .ref ba, .ref li, .int lm])), (mm, IA cI 16 Fm), (tb, LA cJ 16 T)]) (wr := [(wk, LA cJ 20 W0)]) hP hD hS hA [0, 1, 2] [3] rfl rfl (by decide) (by decide) (va_runV (As := [.int (nI 0)]) (rest := []) ⟨hx, hb, hml, hown, hts⟩ (r_take0 l D cJ cI g (nI 0) d ik rw ab be a0 a1 b0 b1 lm mm kf tb wk pl sp po to ba li Fm T (by first | assumption | omega) (by first | assumption | omega) H.size) (cwV 1 hts (gV tw_480 tw_482 tws_19 tw_3 tw_483) rfl rfl rfl ⟨rfl, hd_M_take⟩ ⟨Nat.le_of_ble_eq_true rfl, Nat.le_of_ble_eq_true rfl⟩) (xPreV (C := R_M) (T := F_M) (N := 21) (q0 := 0) hN hK (hP.sub (ws' := [(g, .inr (2, [.int (nI 0), .int (nI d), .ref mm, .int ik, .ref kf, .ref tb, .int rw, .ref wk, .int ab, .int be, .ref pl, .ref sp, .int a0, .int a1, .int b0, .int b1, .ref po, .ref to, .ref ba, .ref li, .int lm])), (mm, IA cI 16 Fm), (tb, LA cJ 16 T)]) [0, 1, 2] rfl) (hD.sub (ws' := [(g, .inr (2, [.int (nI 0), .int (nI d), .ref mm, .int ik, .ref kf, .ref tb, .int rw, .ref wk, .int ab, .int be, .ref pl, .ref sp, .int a0, .int a1, .int b0, .int b1, .ref po, .ref to, .ref ba, .ref li, .int lm])), (mm, IA cI 16 Fm), (tb, LA cJ 16 T)]) [0, 1, 2] (by decide) rfl) rfl rfl) rfl rfl hl.1 rfl (lv_room (Nat.le_of_ble_eq_true rfl)) d_M_height_21 ⟨Nat.le_of_ble_eq_true rfl, Nat.le_of_ble_eq_true rfl⟩) (fun u_5 H locs ht5 hP hD hS => ?_)
      obtain ⟨T5, rfl⟩ : ∃ z, z = u_5 := ⟨_, rfl⟩
      try dsimp only at ht5
      have hP : va_P D vwC [(g, .inr (2, [.int (nI 0), .int (nI d), .ref mm, .int ik, .ref kf, .ref tb, .int (nI d), .ref wk, .int ab, .int be, .ref pl, .ref sp, .int a0, .int a1, .int b0, .int b1, .ref po, .ref to, .ref ba, .ref li, .int lm])), (mm, IA cI 16 Fm), (tb, LA cJ 16 T5), (wk, LA cJ 20 W0)] H := hP.sub [1, 2, 3, 0] rfl
      have hD : va_D A [(g, .inr (2, [.int (nI 0), .int (nI d), .ref mm, .int ik, .ref kf, .ref tb, .int (nI d), .ref wk, .int ab, .int be, .ref pl, .ref sp, .int a0, .int a1, .int b0, .int b1, .ref po, .ref to, .ref ba, .ref li, .int lm])), (mm, IA cI 16 Fm), (tb, LA cJ 16 T5), (wk, LA cJ 20 W0)] := hD.sub [1, 2, 3, 0] (by decide) rfl
      refine lv_aload_n hx hb d_M_height_24 rfl (lv_at hl 0 rfl) ?_
      refine lv_aload_n hx hb d_M_height_25 rfl (lv_at hl 0 rfl) ?_
      refine va_get (D := D) (ci := 2) (v := .int (nI d)) (C := R_M) (T := F_M) (N := 21) hx hb hts iw_M hown hK hP 0 rfl rfl 1 (by decide) (hts _ tw_388) (fun _ h9 => h9) rfl d_M_height_26 ?_
      refine xcl (wc := [(g, .inr (2, [.int (nI 0), .int (nI d), .ref mm, .int ik, .ref kf, .ref tb, .int (nI d), .ref wk, .int ab, .int be, .ref pl, .ref sp, .int a0, .int a1, .int b0, .int b1, .ref po, .ref to, .ref ba, .ref li, .int lm])), (tb, LA cJ 16 T5), (wk, LA cJ 20 W0)]) (wr := [(mm, IA cI 16 Fm)]) hP hD hS hA [0, 2, 3] [1] rfl rfl (by decide) (by decide) (va_runV (As := [.int (nI d)]) (rest := []) ⟨hx, hb, hml, hown, hts⟩ (r_sums l D cJ cI g (nI 0) d ik ab be a0 a1 b0 b1 lm mm kf tb wk pl sp po to ba li d T5 W0 d (by first | assumption | omega) (by first | assumption | omega) (by first | assumption | omega) (by first | assumption | omega) (enB_congr (prt_eq (by omega) ht5) (enB_20 hF (f := 1) (r := d) (by omega))) H.size) (cwV 1 hts (gV tw_488 tw_490 tws_21 tw_3 tw_491) rfl rfl rfl ⟨rfl, hd_M_sums⟩ ⟨Nat.le_of_ble_eq_true rfl, Nat.le_of_ble_eq_true rfl⟩) (xPreV (C := R_M) (T := F_M) (N := 21) (q0 := 0) hN hK (hP.sub (ws' := [(g, .inr (2, [.int (nI 0), .int (nI d), .ref mm, .int ik, .ref kf, .ref tb, .int (nI d), .ref wk, .int ab, .int be, .ref pl, .ref sp, .int a0, .int a1, .int b0, .int b1, .ref po, .ref to, .ref ba, .ref li, .int lm])), (tb, LA cJ 16 T5), (wk, LA cJ 20 W0)]) [0, 2, 3] rfl) (hD.sub (ws' := [(g, .inr (2, [.int (nI 0), .int (nI d), .ref mm, .int ik, .ref kf, .ref tb, .int (nI d), .ref wk, .int ab, .int be, .ref pl, .ref sp, .int a0, .int a1, .int b0, .int b1, .ref po, .ref to, .ref ba, .ref li, .int lm])), (tb, LA cJ 16 T5), (wk, LA cJ 20 W0)]) [0, 2, 3] (by decide) rfl) rfl rfl) rfl rfl hl.1 rfl (lv_room (Nat.le_of_ble_eq_true rfl)) d_M_height_29 ⟨Nat.le_of_ble_eq_true rfl, Nat.le_of_ble_eq_true rfl⟩) (fun r_6 u_7 H locs hw_8 hP hD hS => ?_)
      obtain ⟨W2_9, rfl⟩ : ∃ z, z = u_7 := ⟨_, rfl⟩
      try dsimp only at hw_8
      have hP : va_P D vwC [(g, .inr (2, [.int (nI 0), .int (nI d), .ref mm, .int ik, .ref kf, .ref tb, .int (nI d), .ref wk, .int ab, .int be, .ref pl, .ref sp, .int a0, .int a1, .int b0, .int b1, .ref po, .ref to, .ref ba, .ref li, .int lm])), (mm, IA cI 16 Fm), (tb, LA cJ 16 T5), (wk, LA cJ 20 W2_9)] H := hP.sub [1, 0, 2, 3] rfl
      have hD : va_D A [(g, .inr (2, [.int (nI 0), .int (nI d), .ref mm, .int ik, .ref kf, .ref tb, .int (nI d), .ref wk, .int ab, .int be, .ref pl, .ref sp, .int a0, .int a1, .int b0, .int b1, .ref po, .ref to, .ref ba, .ref li, .int lm])), (mm, IA cI 16 Fm), (tb, LA cJ 16 T5), (wk, LA cJ 20 W2_9)] := hD.sub [1, 0, 2, 3] (by decide) rfl
      subst hw_8
      have hdt : eS T5 d d = det (prt Fm 1) d := eS_congr hd2 (by omega) (prt_eq (by omega) ht5) d (Nat.le_refl _)
      refine lv_lstore_n (lv' := [(2, .long (lI (eS T5 d d))), (0, .ref g), (1, .int vp)]) hx hb d_M_height_32 rfl hl (by decide) rfl (fun ls hl => ?_)
      refine lv_lload_n hx hb d_M_height_33 rfl (lv_at hl 0 rfl) ?_
      refine lv_lconst (v := lI 0) hx hb d_M_height_34 (by decide) ?_
      refine xl_ne (tgt := 46) hx hb (lB_of (eS_B hd2 (by omega) (enB_congr (prt_eq (by omega) ht5) (enB_20 hF (f := 1) (r := d) (by omega))) d (Nat.le_refl _)) (by decide)) ⟨by decide, by decide⟩ d_M_height_35 d_M_height_36 (by decide) (fun c36_9 => ?_) (fun c36_9 => ?_)
      · skip
        refine lv_aload_n hx hb d_M_height_46 rfl (lv_at hl 1 rfl) ?_
        refine lv_iconst (v := nI 1) hx hb d_M_height_47 (by decide) ?_
        refine xcv (wc := [(g, .inr (2, [.int (nI 0), .int (nI d), .ref mm, .int ik, .ref kf, .ref tb, .int (nI d), .ref wk, .int ab, .int be, .ref pl, .ref sp, .int a0, .int a1, .int b0, .int b1, .ref po, .ref to, .ref ba, .ref li, .int lm])), (mm, IA cI 16 Fm), (tb, LA cJ 16 T5)]) (wr := [(wk, LA cJ 20 W2_9)]) hP hD hS hA [0, 1, 2] [3] rfl rfl (by decide) (by decide) (va_runV (As := [.int (nI 1)]) (rest := []) ⟨hx, hb, hml, hown, hts⟩ (r_take1 l D cJ cI g (nI 0) d ik (nI d) ab be a0 a1 b0 b1 lm mm kf tb wk pl sp po to ba li Fm T5 (by first | assumption | omega) (by first | assumption | omega) H.size) (cwV 1 hts (gV tw_480 tw_482 tws_19 tw_3 tw_483) rfl rfl rfl ⟨rfl, hd_M_take⟩ ⟨Nat.le_of_ble_eq_true rfl, Nat.le_of_ble_eq_true rfl⟩) (xPreV (C := R_M) (T := F_M) (N := 21) (q0 := 0) hN hK (hP.sub (ws' := [(g, .inr (2, [.int (nI 0), .int (nI d), .ref mm, .int ik, .ref kf, .ref tb, .int (nI d), .ref wk, .int ab, .int be, .ref pl, .ref sp, .int a0, .int a1, .int b0, .int b1, .ref po, .ref to, .ref ba, .ref li, .int lm])), (mm, IA cI 16 Fm), (tb, LA cJ 16 T5)]) [0, 1, 2] rfl) (hD.sub (ws' := [(g, .inr (2, [.int (nI 0), .int (nI d), .ref mm, .int ik, .ref kf, .ref tb, .int (nI d), .ref wk, .int ab, .int be, .ref pl, .ref sp, .int a0, .int a1, .int b0, .int b1, .ref po, .ref to, .ref ba, .ref li, .int lm])), (mm, IA cI 16 Fm), (tb, LA cJ 16 T5)]) [0, 1, 2] (by decide) rfl) rfl rfl) rfl rfl hl.1 rfl (lv_room (Nat.le_of_ble_eq_true rfl)) d_M_height_48 ⟨Nat.le_of_ble_eq_true rfl, Nat.le_of_ble_eq_true rfl⟩) (fun u_12 H locs ht6 hP hD hS => ?_)
        obtain ⟨T6, rfl⟩ : ∃ z, z = u_12 := ⟨_, rfl⟩
        try dsimp only at ht6
        have hP : va_P D vwC [(g, .inr (2, [.int (nI 0), .int (nI d), .ref mm, .int ik, .ref kf, .ref tb, .int (nI (d + 1)), .ref wk, .int ab, .int be, .ref pl, .ref sp, .int a0, .int a1, .int b0, .int b1, .ref po, .ref to, .ref ba, .ref li, .int lm])), (mm, IA cI 16 Fm), (tb, LA cJ 16 T6), (wk, LA cJ 20 W2_9)] H := hP.sub [1, 2, 3, 0] rfl
        have hD : va_D A [(g, .inr (2, [.int (nI 0), .int (nI d), .ref mm, .int ik, .ref kf, .ref tb, .int (nI (d + 1)), .ref wk, .int ab, .int be, .ref pl, .ref sp, .int a0, .int a1, .int b0, .int b1, .ref po, .ref to, .ref ba, .ref li, .int lm])), (mm, IA cI 16 Fm), (tb, LA cJ 16 T6), (wk, LA cJ 20 W2_9)] := hD.sub [1, 2, 3, 0] (by decide) rfl
        refine lv_aload_n hx hb d_M_height_51 rfl (lv_at hl 1 rfl) ?_
        refine lv_aload_n hx hb d_M_height_52 rfl (lv_at hl 1 rfl) ?_
        refine va_get (D := D) (ci := 2) (v := .int (nI d)) (C := R_M) (T := F_M) (N := 21) hx hb hts iw_M hown hK hP 0 rfl rfl 1 (by decide) (hts _ tw_388) (fun _ h9 => h9) rfl d_M_height_53 ?_
        refine lv_iconst (v := nI 1) hx hb d_M_height_56 (by decide) ?_
        refine xn_add hx hb d_M_height_57 ?_
        refine xcl (wc := [(g, .inr (2, [.int (nI 0), .int (nI d), .ref mm, .int ik, .ref kf, .ref tb, .int (nI (d + 1)), .ref wk, .int ab, .int be, .ref pl, .ref sp, .int a0, .int a1, .int b0, .int b1, .ref po, .ref to, .ref ba, .ref li, .int lm])), (tb, LA cJ 16 T6), (wk, LA cJ 20 W2_9)]) (wr := [(mm, IA cI 16 Fm)]) hP hD hS hA [0, 2, 3] [1] rfl rfl (by decide) (by decide) (va_runV (As := [.int (nI (d + 1))]) (rest := []) ⟨hx, hb, hml, hown, hts⟩ (r_sums l D cJ cI g (nI 0) d ik ab be a0 a1 b0 b1 lm mm kf tb wk pl sp po to ba li (d + 1) T6 W2_9 (d + 1) (by first | assumption | omega) (by first | assumption | omega) (by first | assumption | omega) (by first | assumption | omega) (enB_congr (prt_eq (by omega) ht6) (enB_20 hF (f := 0) (r := d + 1) (by omega))) H.size) (cwV 1 hts (gV tw_488 tw_490 tws_21 tw_3 tw_491) rfl rfl rfl ⟨rfl, hd_M_sums⟩ ⟨Nat.le_of_ble_eq_true rfl, Nat.le_of_ble_eq_true rfl⟩) (xPreV (C := R_M) (T := F_M) (N := 21) (q0 := 0) hN hK (hP.sub (ws' := [(g, .inr (2, [.int (nI 0), .int (nI d), .ref mm, .int ik, .ref kf, .ref tb, .int (nI (d + 1)), .ref wk, .int ab, .int be, .ref pl, .ref sp, .int a0, .int a1, .int b0, .int b1, .ref po, .ref to, .ref ba, .ref li, .int lm])), (tb, LA cJ 16 T6), (wk, LA cJ 20 W2_9)]) [0, 2, 3] rfl) (hD.sub (ws' := [(g, .inr (2, [.int (nI 0), .int (nI d), .ref mm, .int ik, .ref kf, .ref tb, .int (nI (d + 1)), .ref wk, .int ab, .int be, .ref pl, .ref sp, .int a0, .int a1, .int b0, .int b1, .ref po, .ref to, .ref ba, .ref li, .int lm])), (tb, LA cJ 16 T6), (wk, LA cJ 20 W2_9)]) [0, 2, 3] (by decide) rfl) rfl rfl) rfl rfl hl.1 rfl (lv_room (Nat.le_of_ble_eq_true rfl)) d_M_height_58 ⟨Nat.le_of_ble_eq_true rfl, Nat.le_of_ble_eq_true rfl⟩) (fun r_13 u_14 H locs hw_15 hP hD hS => ?_)
        obtain ⟨W2_16, rfl⟩ : ∃ z, z = u_14 := ⟨_, rfl⟩
        try dsimp only at hw_15
        have hP : va_P D vwC [(g, .inr (2, [.int (nI 0), .int (nI d), .ref mm, .int ik, .ref kf, .ref tb, .int (nI (d + 1)), .ref wk, .int ab, .int be, .ref pl, .ref sp, .int a0, .int a1, .int b0, .int b1, .ref po, .ref to, .ref ba, .ref li, .int lm])), (mm, IA cI 16 Fm), (tb, LA cJ 16 T6), (wk, LA cJ 20 W2_16)] H := hP.sub [1, 0, 2, 3] rfl
        have hD : va_D A [(g, .inr (2, [.int (nI 0), .int (nI d), .ref mm, .int ik, .ref kf, .ref tb, .int (nI (d + 1)), .ref wk, .int ab, .int be, .ref pl, .ref sp, .int a0, .int a1, .int b0, .int b1, .ref po, .ref to, .ref ba, .ref li, .int lm])), (mm, IA cI 16 Fm), (tb, LA cJ 16 T6), (wk, LA cJ 20 W2_16)] := hD.sub [1, 0, 2, 3] (by decide) rfl
        subst hw_15
        have hdu : eS T6 (d + 1) (d + 1) = det (prt Fm 0) (d + 1) := eS_congr (by omega) (by omega) (prt_eq (by omega) ht6) (d + 1) (Nat.le_refl _)
        refine lv_lload_n hx hb d_M_height_61 rfl (lv_at hl 0 rfl) ?_
        refine lv_iload_n hx hb d_M_height_62 rfl (lv_at hl 2 rfl) ?_
        refine xcl (wc := []) (wr := [(g, .inr (2, [.int (nI 0), .int (nI d), .ref mm, .int ik, .ref kf, .ref tb, .int (nI (d + 1)), .ref wk, .int ab, .int be, .ref pl, .ref sp, .int a0, .int a1, .int b0, .int b1, .ref po, .ref to, .ref ba, .ref li, .int lm])), (mm, IA cI 16 Fm), (tb, LA cJ 16 T6), (wk, LA cJ 20 W2_16)]) hP hD hS hA [] [0, 1, 2, 3] rfl rfl (by decide) (by decide) (va_runS (As := [.long (lI (eS T6 (d + 1) (d + 1))), .long (lI (eS T5 d d)), .int vp]) (rest := []) ⟨hx, hb, hml, hown, hts⟩ (r_part l D cJ cI (eS T6 (d + 1) (d + 1)) (eS T5 d d) vp (by rw [hdu]; exact eS_20 (by omega) (by omega) (enB_f hF (by omega))) (by rw [hdt]; exact eS_20 hd2 (by omega) (enB_f hF (by omega))) (by first | assumption | omega) H.size) (cwS 3 hts (gS tw_531 tw_532 tw_3 tw_533) rfl rfl rfl ⟨rfl, hd_M_part⟩ ⟨Nat.le_of_ble_eq_true rfl, Nat.le_of_ble_eq_true rfl⟩) (xPreS hN hK (hP.sub (ws' := []) [] rfl) (hD.sub (ws' := []) [] (by decide) rfl)) rfl rfl hl.1 rfl (lv_room (Nat.le_of_ble_eq_true rfl)) d_M_height_63 ⟨Nat.le_of_ble_eq_true rfl, Nat.le_of_ble_eq_true rfl⟩) (fun r_17 u_18 H locs hw_19 hP hD hS => ?_)
        try dsimp only at hw_19
        have hP : va_P D vwC [(g, .inr (2, [.int (nI 0), .int (nI d), .ref mm, .int ik, .ref kf, .ref tb, .int (nI (d + 1)), .ref wk, .int ab, .int be, .ref pl, .ref sp, .int a0, .int a1, .int b0, .int b1, .ref po, .ref to, .ref ba, .ref li, .int lm])), (mm, IA cI 16 Fm), (tb, LA cJ 16 T6), (wk, LA cJ 20 W2_16)] H := hP
        have hD : va_D A [(g, .inr (2, [.int (nI 0), .int (nI d), .ref mm, .int ik, .ref kf, .ref tb, .int (nI (d + 1)), .ref wk, .int ab, .int be, .ref pl, .ref sp, .int a0, .int a1, .int b0, .int b1, .ref po, .ref to, .ref ba, .ref li, .int lm])), (mm, IA cI 16 Fm), (tb, LA cJ 16 T6), (wk, LA cJ 20 W2_16)] := hD
        subst hw_19
        exact hret H locs _ ls (lI (pfr (eS T6 (d + 1) (d + 1)) (eS T5 d d) vp.toInt)) (nI 0, nI (d + 1), T6, W2_16) d_M_height_66 (by first | exact (by unfold s_hgt s_hcd; rw [if_neg (show ¬ (vp.toInt ≠ 0 ∧ vp.toInt ≠ 1) from by have e00 : (nI 0).toInt = 0 := rfl; have e11 : (nI 1).toInt = 1 := rfl; omega), if_neg (show ¬ (vp.toInt ≠ 0 ∧ vp.toInt ≠ 1) from by have e00 : (nI 0).toInt = 0 := rfl; have e11 : (nI 1).toInt = 1 := rfl; omega), if_neg (show ¬ det (prt Fm 1) d = 0 from hdt ▸ c36_9), if_neg (show ¬ det (prt Fm 1) d = 0 from hdt ▸ c36_9), hdu, hdt]; exact ⟨rfl, rfl⟩) | (dsimp only; exact (by unfold s_hgt s_hcd; rw [if_neg (show ¬ (vp.toInt ≠ 0 ∧ vp.toInt ≠ 1) from by have e00 : (nI 0).toInt = 0 := rfl; have e11 : (nI 1).toInt = 1 := rfl; omega), if_neg (show ¬ (vp.toInt ≠ 0 ∧ vp.toInt ≠ 1) from by have e00 : (nI 0).toInt = 0 := rfl; have e11 : (nI 1).toInt = 1 := rfl; omega), if_neg (show ¬ det (prt Fm 1) d = 0 from hdt ▸ c36_9), if_neg (show ¬ det (prt Fm 1) d = 0 from hdt ▸ c36_9), hdu, hdt]; exact ⟨rfl, rfl⟩))) hP hD hS
      · skip
        refine lv_aload_n hx hb d_M_height_39 rfl (lv_at hl 1 rfl) ?_
        refine lv_iconst (v := nI 1) hx hb d_M_height_40 (by decide) ?_
        refine va_put (D := D) (ci := 2) (v := .int (nI 1)) (ty := .int) (C := R_M) (T := F_M) (N := 21) hx hb hts iw_M ft_M ft_M_ok n_M hown hK hP hD hS 0 rfl rfl 0 (by decide) (hts _ tw_387) (fun _ h9 => h9) rfl (by decide +kernel) rfl rfl (Nat.le_of_ble_eq_true rfl) d_M_height_41 (fun H locs hP hD hS => ?_)
        have hP : va_P D vwC [(g, .inr (2, [.int (nI 1), .int (nI d), .ref mm, .int ik, .ref kf, .ref tb, .int (nI d), .ref wk, .int ab, .int be, .ref pl, .ref sp, .int a0, .int a1, .int b0, .int b1, .ref po, .ref to, .ref ba, .ref li, .int lm])), (mm, IA cI 16 Fm), (tb, LA cJ 16 T5), (wk, LA cJ 20 W2_9)] H := hP
        have hD : va_D A [(g, .inr (2, [.int (nI 1), .int (nI d), .ref mm, .int ik, .ref kf, .ref tb, .int (nI d), .ref wk, .int ab, .int be, .ref pl, .ref sp, .int a0, .int a1, .int b0, .int b1, .ref po, .ref to, .ref ba, .ref li, .int lm])), (mm, IA cI 16 Fm), (tb, LA cJ 16 T5), (wk, LA cJ 20 W2_9)] := hD
        refine lv_lconst (v := lI 0) hx hb d_M_height_44 (by decide) ?_
        exact hret H locs _ ls (lI 0) (nI 1, nI d, T5, W2_9) d_M_height_45 (by first | exact (by unfold s_hgt s_hcd; rw [if_neg (show ¬ (vp.toInt ≠ 0 ∧ vp.toInt ≠ 1) from by have e00 : (nI 0).toInt = 0 := rfl; have e11 : (nI 1).toInt = 1 := rfl; omega), if_neg (show ¬ (vp.toInt ≠ 0 ∧ vp.toInt ≠ 1) from by have e00 : (nI 0).toInt = 0 := rfl; have e11 : (nI 1).toInt = 1 := rfl; omega), if_pos (show det (prt Fm 1) d = 0 from hdt ▸ c36_9), if_pos (show det (prt Fm 1) d = 0 from hdt ▸ c36_9)]; exact ⟨rfl, rfl⟩) | (dsimp only; exact (by unfold s_hgt s_hcd; rw [if_neg (show ¬ (vp.toInt ≠ 0 ∧ vp.toInt ≠ 1) from by have e00 : (nI 0).toInt = 0 := rfl; have e11 : (nI 1).toInt = 1 := rfl; omega), if_neg (show ¬ (vp.toInt ≠ 0 ∧ vp.toInt ≠ 1) from by have e00 : (nI 0).toInt = 0 := rfl; have e11 : (nI 1).toInt = 1 := rfl; omega), if_pos (show det (prt Fm 1) d = 0 from hdt ▸ c36_9), if_pos (show det (prt Fm 1) d = 0 from hdt ▸ c36_9)]; exact ⟨rfl, rfl⟩))) hP hD hS
    · skip
      refine xz_ne (tgt := 19) (X := (0 : Nat)) hx hb (nI_toInt (by omega)) d_M_height_12 (by decide) (fun c12_19 => absurd c12_19 (by omega)) (fun c12_19 => ?_)
      refine lv_ldc2 (v := lI (-1000000000000000000)) hx hb hown (hts _ tw_467) d_M_height_15 ?_
      exact hret H locs _ ls (lI (-1000000000000000000)) (nI 0, rw, T, W0) d_M_height_18 (by first | exact (by have e00 : (nI 0).toInt = 0 := rfl; have e11 : (nI 1).toInt = 1 := rfl; unfold s_hgt s_hcd; rw [if_pos (show vp.toInt ≠ 0 ∧ vp.toInt ≠ 1 from by omega), if_pos (show vp.toInt ≠ 0 ∧ vp.toInt ≠ 1 from by omega)]; exact ⟨rfl, rfl⟩) | (dsimp only; exact (by have e00 : (nI 0).toInt = 0 := rfl; have e11 : (nI 1).toInt = 1 := rfl; unfold s_hgt s_hcd; rw [if_pos (show vp.toInt ≠ 0 ∧ vp.toInt ≠ 1 from by omega), if_pos (show vp.toInt ≠ 0 ∧ vp.toInt ≠ 1 from by omega)]; exact ⟨rfl, rfl⟩))) hP hD hS
  rw [hH, hlc] at key; exact key

def rm_r_below : Room := { frames := 5, cells := 0, slots := 0, locals := 132 }
set_option maxHeartbeats 4000000 in
set_option maxRecDepth 100000 in
/-- below -/
theorem r_below (l : Launch) (D : va_G) (cJ cI : ClassId) (g : Nat) (cd : Int32) (d : Nat) (ik : Int32) (rw : Int32) (ab : Int32) (be : Int32) (a0 : Int32) (a1 : Int32) (b0 : Int32) (b1 : Int32) (lm : Int32) (mm : Nat) (kf : Nat) (tb : Nat) (wk : Nat) (pl : Nat) (sp : Nat) (po : Nat) (to : Nat) (ba : Nat) (li : Nat) (Fm : Nat → Int) (T : Nat → Int) (W0 : Nat → Int) (vu : Int32) (vd : Int32) (hd2 : 2 ≤ d) (hd3 : d ≤ 3) (hF : ∀ k, k < 16 → inB (Fm k) 20) (sz : Nat) : xMi l y_M_below (Cond.code y_M_below b_M_below 5 (some .int) :: tW) rm_r_below [.ref g, .int vu, .int vd] D vwC [(cJ, .long), (cI, .int)] sz [(g, .inr (2, [.int cd, .int (nI d), .ref mm, .int ik, .ref kf, .ref tb, .int rw, .ref wk, .int ab, .int be, .ref pl, .ref sp, .int a0, .int a1, .int b0, .int b1, .ref po, .ref to, .ref ba, .ref li, .int lm])), (mm, IA cI 16 Fm), (tb, LA cJ 16 T), (wk, LA cJ 20 W0)] (fun (rv : Int32) (uo : Int32 × Int32 × Int32 × (Nat → Int) × (Nat → Int)) => rv = s_blw Fm d vu.toInt vd.toInt) (fun (uo : Int32 × Int32 × Int32 × (Nat → Int) × (Nat → Int)) => [(g, .inr (2, [.int (nI 0), .int (nI d), .ref mm, .int ik, .ref kf, .ref tb, .int uo.1, .ref wk, .int uo.2.1, .int uo.2.2.1, .ref pl, .ref sp, .int a0, .int a1, .int b0, .int b1, .ref po, .ref to, .ref ba, .ref li, .int lm])), (mm, IA cI 16 Fm), (tb, LA cJ 16 uo.2.2.2.1), (wk, LA cJ 20 uo.2.2.2.2)]) 0 0 := by
  refine xoi (cc := b_M_below) (maxL := 5) (by decide) rfl (Nat.le_of_ble_eq_true rfl) ?_
  intro p e s m args below meth c Q A hx hb hml hts hown hN hA hS hP hK hD hret ls hl
  have hl : lv_has ls 5 [(0, .ref g), (1, .int vu), (2, .int vd)] := hl
  obtain ⟨H, hH⟩ : ∃ z, z = s.heap := ⟨_, rfl⟩
  obtain ⟨locs, hlc⟩ : ∃ z : List Loc, z = [] := ⟨_, rfl⟩
  rw [← hH] at hP
  have hS : va_S A s.heap H locs := by rw [hH, hlc]; exact hS
  have key : W p l e rm_r_below s m args below meth c H locs 0 0 Q (F0 m 0 ls []) := by
    refine lv_aload_n hx hb d_M_below_0 rfl (lv_at hl 0 rfl) ?_
    refine lv_iconst (v := nI 0) hx hb d_M_below_1 (by decide) ?_
    refine va_put (D := D) (ci := 2) (v := .int (nI 0)) (ty := .int) (C := R_M) (T := F_M) (N := 21) hx hb hts iw_M ft_M ft_M_ok n_M hown hK hP hD hS 0 rfl rfl 0 (by decide) (hts _ tw_387) (fun _ h9 => h9) rfl (by decide +kernel) rfl rfl (Nat.le_of_ble_eq_true rfl) d_M_below_2 (fun H locs hP hD hS => ?_)
    have hP : va_P D vwC [(g, .inr (2, [.int (nI 0), .int (nI d), .ref mm, .int ik, .ref kf, .ref tb, .int rw, .ref wk, .int ab, .int be, .ref pl, .ref sp, .int a0, .int a1, .int b0, .int b1, .ref po, .ref to, .ref ba, .ref li, .int lm])), (mm, IA cI 16 Fm), (tb, LA cJ 16 T), (wk, LA cJ 20 W0)] H := hP
    have hD : va_D A [(g, .inr (2, [.int (nI 0), .int (nI d), .ref mm, .int ik, .ref kf, .ref tb, .int rw, .ref wk, .int ab, .int be, .ref pl, .ref sp, .int a0, .int a1, .int b0, .int b1, .ref po, .ref to, .ref ba, .ref li, .int lm])), (mm, IA cI 16 Fm), (tb, LA cJ 16 T), (wk, LA cJ 20 W0)] := hD
    refine lv_iload_n hx hb d_M_below_5 rfl (lv_at hl 1 rfl) ?_
    refine lv_i2l (v := lI vu.toInt) hx hb d_M_below_6 rfl ?_
    refine lv_sipush (v := (-2000)) hx hb d_M_below_7 (by decide) ?_
    refine lv_sipush (v := nI 2000) hx hb d_M_below_10 (by decide) ?_
    refine xci (wc := []) (wr := [(g, .inr (2, [.int (nI 0), .int (nI d), .ref mm, .int ik, .ref kf, .ref tb, .int rw, .ref wk, .int ab, .int be, .ref pl, .ref sp, .int a0, .int a1, .int b0, .int b1, .ref po, .ref to, .ref ba, .ref li, .int lm])), (mm, IA cI 16 Fm), (tb, LA cJ 16 T), (wk, LA cJ 20 W0)]) hP hD hS hA [] [0, 1, 2, 3] rfl rfl (by decide) (by decide) (va_runS (As := [.long (lI vu.toInt), .int (-2000), .int (nI 2000)]) (rest := []) ⟨hx, hb, hml, hown, hts⟩ (r_in l D cJ cI vu.toInt (-2000) (nI 2000) (lB_i _) H.size) (cwS 3 hts (gS tw_464 tw_465 tw_3 tw_466) rfl rfl rfl ⟨rfl, hd_M_in⟩ ⟨Nat.le_of_ble_eq_true rfl, Nat.le_of_ble_eq_true rfl⟩) (xPreS hN hK (hP.sub (ws' := []) [] rfl) (hD.sub (ws' := []) [] (by decide) rfl)) rfl rfl hl.1 rfl (lv_room (Nat.le_of_ble_eq_true rfl)) d_M_below_13 ⟨Nat.le_of_ble_eq_true rfl, Nat.le_of_ble_eq_true rfl⟩) (fun r_1 u_2 H locs hwu hP hD hS => ?_)
    try dsimp only at hwu
    have hP : va_P D vwC [(g, .inr (2, [.int (nI 0), .int (nI d), .ref mm, .int ik, .ref kf, .ref tb, .int rw, .ref wk, .int ab, .int be, .ref pl, .ref sp, .int a0, .int a1, .int b0, .int b1, .ref po, .ref to, .ref ba, .ref li, .int lm])), (mm, IA cI 16 Fm), (tb, LA cJ 16 T), (wk, LA cJ 20 W0)] H := hP
    have hD : va_D A [(g, .inr (2, [.int (nI 0), .int (nI d), .ref mm, .int ik, .ref kf, .ref tb, .int rw, .ref wk, .int ab, .int be, .ref pl, .ref sp, .int a0, .int a1, .int b0, .int b1, .ref po, .ref to, .ref ba, .ref li, .int lm])), (mm, IA cI 16 Fm), (tb, LA cJ 16 T), (wk, LA cJ 20 W0)] := hD
    rcases hwu with ⟨rfl, hwu⟩ | ⟨rfl, hwu⟩
    · skip
      refine xz_eq (tgt := 30) (X := (1 : Nat)) hx hb (nI_toInt (by omega)) d_M_below_16 (by decide) (fun c16_2 => absurd c16_2 (by omega)) (fun c16_2 => ?_)
      refine lv_iload_n hx hb d_M_below_19 rfl (lv_at hl 2 rfl) ?_
      refine lv_i2l (v := lI vd.toInt) hx hb d_M_below_20 rfl ?_
      refine lv_iconst (v := nI 1) hx hb d_M_below_21 (by decide) ?_
      refine lv_bipush (v := nI 100) hx hb d_M_below_22 (by decide) ?_
      refine xci (wc := []) (wr := [(g, .inr (2, [.int (nI 0), .int (nI d), .ref mm, .int ik, .ref kf, .ref tb, .int rw, .ref wk, .int ab, .int be, .ref pl, .ref sp, .int a0, .int a1, .int b0, .int b1, .ref po, .ref to, .ref ba, .ref li, .int lm])), (mm, IA cI 16 Fm), (tb, LA cJ 16 T), (wk, LA cJ 20 W0)]) hP hD hS hA [] [0, 1, 2, 3] rfl rfl (by decide) (by decide) (va_runS (As := [.long (lI vd.toInt), .int (nI 1), .int (nI 100)]) (rest := []) ⟨hx, hb, hml, hown, hts⟩ (r_in l D cJ cI vd.toInt (nI 1) (nI 100) (lB_i _) H.size) (cwS 3 hts (gS tw_464 tw_465 tw_3 tw_466) rfl rfl rfl ⟨rfl, hd_M_in⟩ ⟨Nat.le_of_ble_eq_true rfl, Nat.le_of_ble_eq_true rfl⟩) (xPreS hN hK (hP.sub (ws' := []) [] rfl) (hD.sub (ws' := []) [] (by decide) rfl)) rfl rfl hl.1 rfl (lv_room (Nat.le_of_ble_eq_true rfl)) d_M_below_24 ⟨Nat.le_of_ble_eq_true rfl, Nat.le_of_ble_eq_true rfl⟩) (fun r_4 u_5 H locs hwd hP hD hS => ?_)
      try dsimp only at hwd
      have hP : va_P D vwC [(g, .inr (2, [.int (nI 0), .int (nI d), .ref mm, .int ik, .ref kf, .ref tb, .int rw, .ref wk, .int ab, .int be, .ref pl, .ref sp, .int a0, .int a1, .int b0, .int b1, .ref po, .ref to, .ref ba, .ref li, .int lm])), (mm, IA cI 16 Fm), (tb, LA cJ 16 T), (wk, LA cJ 20 W0)] H := hP
      have hD : va_D A [(g, .inr (2, [.int (nI 0), .int (nI d), .ref mm, .int ik, .ref kf, .ref tb, .int rw, .ref wk, .int ab, .int be, .ref pl, .ref sp, .int a0, .int a1, .int b0, .int b1, .ref po, .ref to, .ref ba, .ref li, .int lm])), (mm, IA cI 16 Fm), (tb, LA cJ 16 T), (wk, LA cJ 20 W0)] := hD
      rcases hwd with ⟨rfl, hwd⟩ | ⟨rfl, hwd⟩
      · skip
        refine xz_ne (tgt := 33) (X := (1 : Nat)) hx hb (nI_toInt (by omega)) d_M_below_27 (by decide) (fun c27_5 => ?_) (fun c27_5 => absurd c27_5 (by omega))
        refine lv_aload_n hx hb d_M_below_33 rfl (lv_at hl 0 rfl) ?_
        refine lv_iconst (v := nI 0) hx hb d_M_below_34 (by decide) ?_
        refine xcv (wc := [(g, .inr (2, [.int (nI 0), .int (nI d), .ref mm, .int ik, .ref kf, .ref tb, .int rw, .ref wk, .int ab, .int be, .ref pl, .ref sp, .int a0, .int a1, .int b0, .int b1, .ref po, .ref to, .ref ba, .ref li, .int lm])), (mm, IA cI 16 Fm), (tb, LA cJ 16 T)]) (wr := [(wk, LA cJ 20 W0)]) hP hD hS hA [0, 1, 2] [3] rfl rfl (by decide) (by decide) (va_runV (As := [.int (nI 0)]) (rest := []) ⟨hx, hb, hml, hown, hts⟩ (r_take0 l D cJ cI g (nI 0) d ik rw ab be a0 a1 b0 b1 lm mm kf tb wk pl sp po to ba li Fm T (by first | assumption | omega) (by first | assumption | omega) H.size) (cwV 1 hts (gV tw_480 tw_482 tws_19 tw_3 tw_483) rfl rfl rfl ⟨rfl, hd_M_take⟩ ⟨Nat.le_of_ble_eq_true rfl, Nat.le_of_ble_eq_true rfl⟩) (xPreV (C := R_M) (T := F_M) (N := 21) (q0 := 0) hN hK (hP.sub (ws' := [(g, .inr (2, [.int (nI 0), .int (nI d), .ref mm, .int ik, .ref kf, .ref tb, .int rw, .ref wk, .int ab, .int be, .ref pl, .ref sp, .int a0, .int a1, .int b0, .int b1, .ref po, .ref to, .ref ba, .ref li, .int lm])), (mm, IA cI 16 Fm), (tb, LA cJ 16 T)]) [0, 1, 2] rfl) (hD.sub (ws' := [(g, .inr (2, [.int (nI 0), .int (nI d), .ref mm, .int ik, .ref kf, .ref tb, .int rw, .ref wk, .int ab, .int be, .ref pl, .ref sp, .int a0, .int a1, .int b0, .int b1, .ref po, .ref to, .ref ba, .ref li, .int lm])), (mm, IA cI 16 Fm), (tb, LA cJ 16 T)]) [0, 1, 2] (by decide) rfl) rfl rfl) rfl rfl hl.1 rfl (lv_room (Nat.le_of_ble_eq_true rfl)) d_M_below_35 ⟨Nat.le_of_ble_eq_true rfl, Nat.le_of_ble_eq_true rfl⟩) (fun u_8 H locs ht5 hP hD hS => ?_)
        obtain ⟨T5, rfl⟩ : ∃ z, z = u_8 := ⟨_, rfl⟩
        try dsimp only at ht5
        have hP : va_P D vwC [(g, .inr (2, [.int (nI 0), .int (nI d), .ref mm, .int ik, .ref kf, .ref tb, .int (nI d), .ref wk, .int ab, .int be, .ref pl, .ref sp, .int a0, .int a1, .int b0, .int b1, .ref po, .ref to, .ref ba, .ref li, .int lm])), (mm, IA cI 16 Fm), (tb, LA cJ 16 T5), (wk, LA cJ 20 W0)] H := hP.sub [1, 2, 3, 0] rfl
        have hD : va_D A [(g, .inr (2, [.int (nI 0), .int (nI d), .ref mm, .int ik, .ref kf, .ref tb, .int (nI d), .ref wk, .int ab, .int be, .ref pl, .ref sp, .int a0, .int a1, .int b0, .int b1, .ref po, .ref to, .ref ba, .ref li, .int lm])), (mm, IA cI 16 Fm), (tb, LA cJ 16 T5), (wk, LA cJ 20 W0)] := hD.sub [1, 2, 3, 0] (by decide) rfl
        refine lv_iconst (v := nI 0) hx hb d_M_below_38 (by decide) ?_
        refine lv_istore_n (lv' := [(3, .int (nI 0)), (0, .ref g), (1, .int vu), (2, .int vd)]) hx hb d_M_below_39 rfl hl (by decide) rfl (fun ls hl => ?_)
        have lp_40 : ∀ (n_40 : Nat) (i : Nat) (T6 : Nat → Int) (H : Heap) (locs : List Loc) (ls : Array Slot), (i ≤ d) → (∀ x y, x < d → y < d → (x < i → T6 (4 * x + y) = vd.toInt * Fm (4 * (1 + x) + (1 + y)) - (if x = y then vu.toInt else 0)) ∧ (¬ (x < i) → T6 (4 * x + y) = T5 (4 * x + y))) → (d - i) < n_40 → va_P D vwC [(g, .inr (2, [.int (nI 0), .int (nI d), .ref mm, .int ik, .ref kf, .ref tb, .int (nI d), .ref wk, .int ab, .int be, .ref pl, .ref sp, .int a0, .int a1, .int b0, .int b1, .ref po, .ref to, .ref ba, .ref li, .int lm])), (mm, IA cI 16 Fm), (tb, LA cJ 16 T6), (wk, LA cJ 20 W0)] H → va_D A [(g, .inr (2, [.int (nI 0), .int (nI d), .ref mm, .int ik, .ref kf, .ref tb, .int (nI d), .ref wk, .int ab, .int be, .ref pl, .ref sp, .int a0, .int a1, .int b0, .int b1, .ref po, .ref to, .ref ba, .ref li, .int lm])), (mm, IA cI 16 Fm), (tb, LA cJ 16 T6), (wk, LA cJ 20 W0)] → va_S A s.heap H locs → lv_has ls 5 [(0, .ref g), (1, .int vu), (2, .int vd), (3, .int (nI i))] → W p l e rm_r_below s m args below meth c H locs 0 0 Q (F0 m 40 ls []) := by
          intro n_40
          induction n_40 with
          | zero => intro i T6 H locs ls hi h1 hn_40; exact absurd hn_40 (Nat.not_lt_zero _)
          | succ n_40 ih_40 =>
            intro i T6 H locs ls hi h1 hn_40 hP hD hS hl
            refine lv_iload_n hx hb d_M_below_40 rfl (lv_at hl 3 rfl) ?_
            refine lv_aload_n hx hb d_M_below_41 rfl (lv_at hl 0 rfl) ?_
            refine va_get (D := D) (ci := 2) (v := .int (nI d)) (C := R_M) (T := F_M) (N := 21) hx hb hts iw_M hown hK hP 0 rfl rfl 1 (by decide) (hts _ tw_388) (fun _ h9 => h9) rfl d_M_below_42 ?_
            refine xn_ge (tgt := 110) hx hb (by omega) (by omega) d_M_below_45 (by decide) (fun c45_8 => ?_) (fun c45_8 => ?_)
            · skip
              have hsh : ∀ x y, x < d → y < d → T6 (4 * x + y) = prt (shZ Fm vu.toInt vd.toInt) 1 (4 * x + y) := by
                intro x y hx2 hy2
                rw [(h1 x y hx2 hy2).1 (by omega)]
                unfold prt shZ
                rw [q4d x (show y < 4 by omega), q4m x (show y < 4 by omega), q4d (1 + x) (show 1 + y < 4 by omega), q4m (1 + x) (show 1 + y < 4 by omega)]
                by_cases q : x = y
                · rw [if_pos q, if_pos (by omega)]
                · rw [if_neg q, if_neg (by omega)]
              have hBW : enB T6 d (tabB d) := enB_congr hsh (sh_B hd3 hF ⟨by have e1 : (nI 1).toInt = 1 := rfl; have e2 : (nI 100).toInt = 100 := rfl; have e3 : (nI 2000).toInt = 2000 := rfl; have e4 : (-2000 : Int32).toInt = -2000 := rfl; omega, by have e1 : (nI 1).toInt = 1 := rfl; have e2 : (nI 100).toInt = 100 := rfl; have e3 : (nI 2000).toInt = 2000 := rfl; have e4 : (-2000 : Int32).toInt = -2000 := rfl; omega⟩ ⟨by have e1 : (nI 1).toInt = 1 := rfl; have e2 : (nI 100).toInt = 100 := rfl; have e3 : (nI 2000).toInt = 2000 := rfl; have e4 : (-2000 : Int32).toInt = -2000 := rfl; omega, by have e1 : (nI 1).toInt = 1 := rfl; have e2 : (nI 100).toInt = 100 := rfl; have e3 : (nI 2000).toInt = 2000 := rfl; have e4 : (-2000 : Int32).toInt = -2000 := rfl; omega⟩)
              refine lv_aload_n hx hb d_M_below_110 rfl (lv_at hl 0 rfl) ?_
              refine xcv (wc := [(g, .inr (2, [.int (nI 0), .int (nI d), .ref mm, .int ik, .ref kf, .ref tb, .int (nI d), .ref wk, .int ab, .int be, .ref pl, .ref sp, .int a0, .int a1, .int b0, .int b1, .ref po, .ref to, .ref ba, .ref li, .int lm])), (tb, LA cJ 16 T6), (wk, LA cJ 20 W0)]) (wr := [(mm, IA cI 16 Fm)]) hP hD hS hA [0, 2, 3] [1] rfl rfl (by decide) (by decide) (va_runV (As := []) (rest := []) ⟨hx, hb, hml, hown, hts⟩ (r_findSigns l D cJ cI g (nI 0) d ik a0 a1 b0 b1 lm mm kf tb wk pl sp po to ba li d ab be T6 W0 (by first | assumption | omega) (by first | assumption | omega) hBW H.size) (cwV 0 hts (gV tw_484 tw_486 tws_20 tw_3 tw_487) rfl rfl rfl ⟨rfl, hd_M_findSigns⟩ ⟨Nat.le_of_ble_eq_true rfl, Nat.le_of_ble_eq_true rfl⟩) (xPreV (C := R_M) (T := F_M) (N := 21) (q0 := 0) hN hK (hP.sub (ws' := [(g, .inr (2, [.int (nI 0), .int (nI d), .ref mm, .int ik, .ref kf, .ref tb, .int (nI d), .ref wk, .int ab, .int be, .ref pl, .ref sp, .int a0, .int a1, .int b0, .int b1, .ref po, .ref to, .ref ba, .ref li, .int lm])), (tb, LA cJ 16 T6), (wk, LA cJ 20 W0)]) [0, 2, 3] rfl) (hD.sub (ws' := [(g, .inr (2, [.int (nI 0), .int (nI d), .ref mm, .int ik, .ref kf, .ref tb, .int (nI d), .ref wk, .int ab, .int be, .ref pl, .ref sp, .int a0, .int a1, .int b0, .int b1, .ref po, .ref to, .ref ba, .ref li, .int lm])), (tb, LA cJ 16 T6), (wk, LA cJ 20 W0)]) [0, 2, 3] (by decide) rfl) rfl rfl) rfl rfl hl.1 rfl (lv_room (Nat.le_of_ble_eq_true rfl)) d_M_below_111 ⟨Nat.le_of_ble_eq_true rfl, Nat.le_of_ble_eq_true rfl⟩) (fun u_11 H locs hw_12 hP hD hS => ?_)
              obtain ⟨W2_13, rfl⟩ : ∃ z, z = u_11 := ⟨_, rfl⟩
              try dsimp only at hw_12
              have hP : va_P D vwC [(g, .inr (2, [.int (nI 0), .int (nI d), .ref mm, .int ik, .ref kf, .ref tb, .int (nI d), .ref wk, .int (nI (abN T6 d)), .int (nI (beN T6 d)), .ref pl, .ref sp, .int a0, .int a1, .int b0, .int b1, .ref po, .ref to, .ref ba, .ref li, .int lm])), (mm, IA cI 16 Fm), (tb, LA cJ 16 T6), (wk, LA cJ 20 W2_13)] H := hP.sub [1, 0, 2, 3] rfl
              have hD : va_D A [(g, .inr (2, [.int (nI 0), .int (nI d), .ref mm, .int ik, .ref kf, .ref tb, .int (nI d), .ref wk, .int (nI (abN T6 d)), .int (nI (beN T6 d)), .ref pl, .ref sp, .int a0, .int a1, .int b0, .int b1, .ref po, .ref to, .ref ba, .ref li, .int lm])), (mm, IA cI 16 Fm), (tb, LA cJ 16 T6), (wk, LA cJ 20 W2_13)] := hD.sub [1, 0, 2, 3] (by decide) rfl
              refine lv_aload_n hx hb d_M_below_114 rfl (lv_at hl 0 rfl) ?_
              refine va_get (D := D) (ci := 2) (v := .int (nI (beN T6 d))) (C := R_M) (T := F_M) (N := 21) hx hb hts iw_M hown hK hP 0 rfl rfl 9 (by decide) (hts _ tw_396) (fun _ h9 => h9) rfl d_M_below_115 ?_
              exact hret H locs _ ls (nI (beN T6 d)) (nI d, nI (abN T6 d), nI (beN T6 d), T6, W2_13) d_M_below_118 (by first | exact (by unfold s_blw; rw [if_neg (show ¬ ((vu.toInt < -2000 ∨ 2000 < vu.toInt) ∨ vd.toInt < 1 ∨ 100 < vd.toInt) from by have e1 : (nI 1).toInt = 1 := rfl; have e2 : (nI 100).toInt = 100 := rfl; have e3 : (nI 2000).toInt = 2000 := rfl; have e4 : (-2000 : Int32).toInt = -2000 := rfl; omega), beN_congr hd2 (by omega) hsh]) | (dsimp only; exact (by unfold s_blw; rw [if_neg (show ¬ ((vu.toInt < -2000 ∨ 2000 < vu.toInt) ∨ vd.toInt < 1 ∨ 100 < vd.toInt) from by have e1 : (nI 1).toInt = 1 := rfl; have e2 : (nI 100).toInt = 100 := rfl; have e3 : (nI 2000).toInt = 2000 := rfl; have e4 : (-2000 : Int32).toInt = -2000 := rfl; omega), beN_congr hd2 (by omega) hsh]))) hP hD hS
            · skip
              refine lv_iconst (v := nI 0) hx hb d_M_below_48 (by decide) ?_
              refine lv_istore (lv' := [(4, .int (nI 0)), (0, .ref g), (1, .int vu), (2, .int vd), (3, .int (nI i))]) hx hb d_M_below_49 hl (by decide) rfl (fun ls hl => ?_)
              have lp_51 : ∀ (n_51 : Nat) (j : Nat) (T7 : Nat → Int) (H : Heap) (locs : List Loc) (ls : Array Slot), (j ≤ d) → (∀ x y, x < d → y < d → (x < i ∨ (x = i ∧ y < j) → T7 (4 * x + y) = vd.toInt * Fm (4 * (1 + x) + (1 + y)) - (if x = y then vu.toInt else 0)) ∧ (¬ (x < i ∨ (x = i ∧ y < j)) → T7 (4 * x + y) = T5 (4 * x + y))) → (d - j) < n_51 → va_P D vwC [(g, .inr (2, [.int (nI 0), .int (nI d), .ref mm, .int ik, .ref kf, .ref tb, .int (nI d), .ref wk, .int ab, .int be, .ref pl, .ref sp, .int a0, .int a1, .int b0, .int b1, .ref po, .ref to, .ref ba, .ref li, .int lm])), (mm, IA cI 16 Fm), (tb, LA cJ 16 T7), (wk, LA cJ 20 W0)] H → va_D A [(g, .inr (2, [.int (nI 0), .int (nI d), .ref mm, .int ik, .ref kf, .ref tb, .int (nI d), .ref wk, .int ab, .int be, .ref pl, .ref sp, .int a0, .int a1, .int b0, .int b1, .ref po, .ref to, .ref ba, .ref li, .int lm])), (mm, IA cI 16 Fm), (tb, LA cJ 16 T7), (wk, LA cJ 20 W0)] → va_S A s.heap H locs → lv_has ls 5 [(0, .ref g), (1, .int vu), (2, .int vd), (3, .int (nI i)), (4, .int (nI j))] → W p l e rm_r_below s m args below meth c H locs 0 0 Q (F0 m 51 ls []) := by
                intro n_51
                induction n_51 with
                | zero => intro j T7 H locs ls hj h2 hn_51; exact absurd hn_51 (Nat.not_lt_zero _)
                | succ n_51 ih_51 =>
                  intro j T7 H locs ls hj h2 hn_51 hP hD hS hl
                  refine lv_iload hx hb d_M_below_51 (lv_at hl 4 rfl) ?_
                  refine lv_aload_n hx hb d_M_below_53 rfl (lv_at hl 0 rfl) ?_
                  refine va_get (D := D) (ci := 2) (v := .int (nI d)) (C := R_M) (T := F_M) (N := 21) hx hb hts iw_M hown hK hP 0 rfl rfl 1 (by decide) (hts _ tw_388) (fun _ h9 => h9) rfl d_M_below_54 ?_
                  refine xn_ge (tgt := 104) hx hb (by omega) (by omega) d_M_below_57 (by decide) (fun c57_13 => ?_) (fun c57_13 => ?_)
                  · skip
                    refine lv_iinc (v := nI (i + 1)) (lv' := [(3, .int (nI (i + 1))), (0, .ref g), (1, .int vu), (2, .int vd), (4, .int (nI j))]) hx hb d_M_below_104 hl (k := 3) rfl (nI_add _ _) (by decide) rfl (fun ls hl => ?_)
                    refine lv_goto (tgt := 40) hx hb d_M_below_107 (by decide) ?_
                    exact ih_40 (i + 1) T7 H locs ls (by omega) (fun x y hx2 hy2 => ⟨fun z => (h2 x y hx2 hy2).1 (by omega), fun z => (h2 x y hx2 hy2).2 (by omega)⟩) (by omega) hP hD hS (lv_sub hl [1, 2, 3, 0] rfl)
                  · skip
                    refine lv_aload_n hx hb d_M_below_60 rfl (lv_at hl 0 rfl) ?_
                    refine va_get (D := D) (ci := 2) (v := .ref tb) (C := R_M) (T := F_M) (N := 21) hx hb hts iw_M hown hK hP 0 rfl rfl 5 (by decide) (hts _ tw_392) (fun _ h9 => h9) rfl d_M_below_61 ?_
                    refine lv_iconst (v := nI 4) hx hb d_M_below_64 (by decide) ?_
                    refine lv_iload_n hx hb d_M_below_65 rfl (lv_at hl 3 rfl) ?_
                    refine xn_mul hx hb d_M_below_66 ?_
                    refine lv_iload hx hb d_M_below_67 (lv_at hl 4 rfl) ?_
                    refine xn_add hx hb d_M_below_69 ?_
                    refine lv_iload_n hx hb d_M_below_70 rfl (lv_at hl 2 rfl) ?_
                    refine lv_i2l (v := lI vd.toInt) hx hb d_M_below_71 rfl ?_
                    refine lv_aload_n hx hb d_M_below_72 rfl (lv_at hl 0 rfl) ?_
                    refine va_get (D := D) (ci := 2) (v := .ref tb) (C := R_M) (T := F_M) (N := 21) hx hb hts iw_M hown hK hP 0 rfl rfl 5 (by decide) (hts _ tw_392) (fun _ h9 => h9) rfl d_M_below_73 ?_
                    refine lv_iconst (v := nI 4) hx hb d_M_below_76 (by decide) ?_
                    refine lv_iload_n hx hb d_M_below_77 rfl (lv_at hl 3 rfl) ?_
                    refine xn_mul hx hb d_M_below_78 ?_
                    refine lv_iload hx hb d_M_below_79 (lv_at hl 4 rfl) ?_
                    refine xn_add hx hb d_M_below_81 ?_
                    refine xl_ald hx hb hK hP 2 0 rfl rfl (k := (4 * i) + j) (by omega) (by first | decide | omega) d_M_below_82 ?_
                    refine xl_mul hx hb d_M_below_83 ?_
                    refine lv_iload_n hx hb d_M_below_84 rfl (lv_at hl 3 rfl) ?_
                    refine lv_iload hx hb d_M_below_85 (lv_at hl 4 rfl) ?_
                    refine xn_ne (tgt := 94) hx hb (by omega) (by omega) d_M_below_87 (by decide) (fun c87_14 => ?_) (fun c87_14 => ?_)
                    · skip
                      refine lv_iconst (v := nI 0) hx hb d_M_below_94 (by decide) ?_
                      refine xn_i2l hx hb (by omega) d_M_below_95 ?_
                      refine xl_sub hx hb d_M_below_96 ?_
                      refine xl_ast hx hb hK hP hD hS 2 0 rfl rfl (k := (4 * i) + j) (by omega) (by first | decide | omega) d_M_below_97 (fun H locs hP hD hS => ?_)
                      have hP : va_P D vwC [(g, .inr (2, [.int (nI 0), .int (nI d), .ref mm, .int ik, .ref kf, .ref tb, .int (nI d), .ref wk, .int ab, .int be, .ref pl, .ref sp, .int a0, .int a1, .int b0, .int b1, .ref po, .ref to, .ref ba, .ref li, .int lm])), (mm, IA cI 16 Fm), (tb, LA cJ 16 (upZ T7 ((4 * i) + j) ((vd.toInt * (T7 ((4 * i) + j))) - ((0 : Nat) : Int)))), (wk, LA cJ 20 W0)] H := hP
                      have hD : va_D A [(g, .inr (2, [.int (nI 0), .int (nI d), .ref mm, .int ik, .ref kf, .ref tb, .int (nI d), .ref wk, .int ab, .int be, .ref pl, .ref sp, .int a0, .int a1, .int b0, .int b1, .ref po, .ref to, .ref ba, .ref li, .int lm])), (mm, IA cI 16 Fm), (tb, LA cJ 16 (upZ T7 ((4 * i) + j) ((vd.toInt * (T7 ((4 * i) + j))) - ((0 : Nat) : Int)))), (wk, LA cJ 20 W0)] := hD
                      refine lv_iinc (v := nI (j + 1)) (lv' := [(4, .int (nI (j + 1))), (0, .ref g), (1, .int vu), (2, .int vd), (3, .int (nI i))]) hx hb d_M_below_98 hl (k := 4) rfl (nI_add _ _) (by decide) rfl (fun ls hl => ?_)
                      refine lv_goto (tgt := 51) hx hb d_M_below_101 (by decide) ?_
                      exact ih_51 (j + 1) (upZ T7 ((4 * i) + j) ((vd.toInt * (T7 ((4 * i) + j))) - ((0 : Nat) : Int))) H locs ls (by omega) (fun x y hx2 hy2 => by by_cases q : x = i ∧ y = j; obtain ⟨rfl, rfl⟩ := q; refine ⟨fun _ => ?_, fun z => absurd z (by omega)⟩; rw [upZ_at, (h2 x y hx2 hy2).2 (by omega), ht5 x y hx2 hy2, if_neg (show ¬ x = y from by omega)]; rfl; rw [upZ_ne (k := 4 * i + j) (j := 4 * x + y) _ _ (by omega)]; exact ⟨fun z => (h2 x y hx2 hy2).1 (by omega), fun z => (h2 x y hx2 hy2).2 (by omega)⟩) (by omega) hP hD hS (lv_sub hl [1, 2, 3, 4, 0] rfl)
                    · skip
                      refine lv_iload_n hx hb d_M_below_90 rfl (lv_at hl 1 rfl) ?_
                      refine lv_goto (tgt := 95) hx hb d_M_below_91 (by decide) ?_
                      refine lv_i2l (v := lI vu.toInt) hx hb d_M_below_95 rfl ?_
                      refine xl_sub hx hb d_M_below_96 ?_
                      refine xl_ast hx hb hK hP hD hS 2 0 rfl rfl (k := (4 * i) + j) (by omega) (by first | decide | omega) d_M_below_97 (fun H locs hP hD hS => ?_)
                      have hP : va_P D vwC [(g, .inr (2, [.int (nI 0), .int (nI d), .ref mm, .int ik, .ref kf, .ref tb, .int (nI d), .ref wk, .int ab, .int be, .ref pl, .ref sp, .int a0, .int a1, .int b0, .int b1, .ref po, .ref to, .ref ba, .ref li, .int lm])), (mm, IA cI 16 Fm), (tb, LA cJ 16 (upZ T7 ((4 * i) + j) ((vd.toInt * (T7 ((4 * i) + j))) - vu.toInt))), (wk, LA cJ 20 W0)] H := hP
                      have hD : va_D A [(g, .inr (2, [.int (nI 0), .int (nI d), .ref mm, .int ik, .ref kf, .ref tb, .int (nI d), .ref wk, .int ab, .int be, .ref pl, .ref sp, .int a0, .int a1, .int b0, .int b1, .ref po, .ref to, .ref ba, .ref li, .int lm])), (mm, IA cI 16 Fm), (tb, LA cJ 16 (upZ T7 ((4 * i) + j) ((vd.toInt * (T7 ((4 * i) + j))) - vu.toInt))), (wk, LA cJ 20 W0)] := hD
                      refine lv_iinc (v := nI (j + 1)) (lv' := [(4, .int (nI (j + 1))), (0, .ref g), (1, .int vu), (2, .int vd), (3, .int (nI i))]) hx hb d_M_below_98 hl (k := 4) rfl (nI_add _ _) (by decide) rfl (fun ls hl => ?_)
                      refine lv_goto (tgt := 51) hx hb d_M_below_101 (by decide) ?_
                      exact ih_51 (j + 1) (upZ T7 ((4 * i) + j) ((vd.toInt * (T7 ((4 * i) + j))) - vu.toInt)) H locs ls (by omega) (fun x y hx2 hy2 => by by_cases q : x = i ∧ y = j; obtain ⟨rfl, rfl⟩ := q; refine ⟨fun _ => ?_, fun z => absurd z (by omega)⟩; rw [upZ_at, (h2 x y hx2 hy2).2 (by omega), ht5 x y hx2 hy2, if_pos (show x = y from by omega)]; rw [upZ_ne (k := 4 * i + j) (j := 4 * x + y) _ _ (by omega)]; exact ⟨fun z => (h2 x y hx2 hy2).1 (by omega), fun z => (h2 x y hx2 hy2).2 (by omega)⟩) (by omega) hP hD hS (lv_sub hl [1, 2, 3, 4, 0] rfl)
              exact lp_51 ((d - 0) + 1) 0 T6 H locs ls (Nat.zero_le _) (fun x y hx2 hy2 => ⟨fun z => (h1 x y hx2 hy2).1 (by omega), fun z => (h1 x y hx2 hy2).2 (by omega)⟩) (by omega) hP hD hS (lv_sub hl [1, 2, 3, 4, 0] rfl)
        exact lp_40 ((d - 0) + 1) 0 T5 H locs ls (Nat.zero_le _) (fun x y _ _ => ⟨fun q => absurd q (Nat.not_lt_zero _), fun _ => rfl⟩) (by omega) hP hD hS (lv_sub hl [1, 2, 3, 0] rfl)
      · skip
        refine xz_ne (tgt := 33) (X := (0 : Nat)) hx hb (nI_toInt (by omega)) d_M_below_27 (by decide) (fun c27_15 => absurd c27_15 (by omega)) (fun c27_15 => ?_)
        refine lv_bipush (v := (-2)) hx hb d_M_below_30 (by decide) ?_
        exact hret H locs _ ls (-2) (rw, ab, be, T, W0) d_M_below_32 (by first | exact (by have e1 : (nI 1).toInt = 1 := rfl; have e2 : (nI 100).toInt = 100 := rfl; have e3 : (nI 2000).toInt = 2000 := rfl; have e4 : (-2000 : Int32).toInt = -2000 := rfl; unfold s_blw; rw [if_pos (show (vu.toInt < -2000 ∨ 2000 < vu.toInt) ∨ vd.toInt < 1 ∨ 100 < vd.toInt from by omega)]) | (dsimp only; exact (by have e1 : (nI 1).toInt = 1 := rfl; have e2 : (nI 100).toInt = 100 := rfl; have e3 : (nI 2000).toInt = 2000 := rfl; have e4 : (-2000 : Int32).toInt = -2000 := rfl; unfold s_blw; rw [if_pos (show (vu.toInt < -2000 ∨ 2000 < vu.toInt) ∨ vd.toInt < 1 ∨ 100 < vd.toInt from by omega)]))) hP hD hS
    · skip
      refine xz_eq (tgt := 30) (X := (0 : Nat)) hx hb (nI_toInt (by omega)) d_M_below_16 (by decide) (fun c16_16 => ?_) (fun c16_16 => absurd c16_16 (by omega))
      refine lv_bipush (v := (-2)) hx hb d_M_below_30 (by decide) ?_
      exact hret H locs _ ls (-2) (rw, ab, be, T, W0) d_M_below_32 (by first | exact (by have e1 : (nI 1).toInt = 1 := rfl; have e2 : (nI 100).toInt = 100 := rfl; have e3 : (nI 2000).toInt = 2000 := rfl; have e4 : (-2000 : Int32).toInt = -2000 := rfl; unfold s_blw; rw [if_pos (show (vu.toInt < -2000 ∨ 2000 < vu.toInt) ∨ vd.toInt < 1 ∨ 100 < vd.toInt from by omega)]) | (dsimp only; exact (by have e1 : (nI 1).toInt = 1 := rfl; have e2 : (nI 100).toInt = 100 := rfl; have e3 : (nI 2000).toInt = 2000 := rfl; have e4 : (-2000 : Int32).toInt = -2000 := rfl; unfold s_blw; rw [if_pos (show (vu.toInt < -2000 ∨ 2000 < vu.toInt) ∨ vd.toInt < 1 ∨ 100 < vd.toInt from by omega)]))) hP hD hS
  rw [hH, hlc] at key; exact key
