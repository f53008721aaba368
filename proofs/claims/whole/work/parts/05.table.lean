/-! contracts of the table (laid by wip/walk.py out of wip/spec_table.py) -/
/-- one less, perhaps below 0 -/
def dI (n : Nat) : Int32 := nI n - nI 1
theorem dI_of (n : Nat) : nI n + Int32.ofInt (-1) = dI n := by
  unfold dI
  rw [show Int32.ofInt (-1) = -(nI 1) from by decide, Int32.sub_eq_add_neg]
theorem dI_succ (n : Nat) : dI (n + 1) = nI n := nI_pred n
theorem dI_toInt {n : Nat} (h : n < 2 ^ 31) : (dI n).toInt = (n : Int) - 1 := by
  match n with
  | 0 => decide
  | k + 1 => rw [dI_succ, nI_toInt (by omega)]; omega
def dotN (C F : Nat → Int) (i j : Nat) : Nat → Int
  | 0 => 0
  | k + 1 => dotN C F i j k + C (4 * i + k) * F (4 * k + j)
def diaN (P : Nat → Int) : Nat → Int
  | 0 => 0
  | k + 1 => diaN P k + P (4 * k + k)
theorem dotN_congr {C F G : Nat → Int} {i j : Nat} : ∀ {n : Nat}, (∀ t, t < n → F (4 * t + j) = G (4 * t + j)) → dotN C F i j n = dotN C G i j n
  | 0, _ => rfl
  | n + 1, h => by
    show dotN C F i j n + _ = dotN C G i j n + _
    rw [dotN_congr (n := n) (fun t ht => h t (by omega)), h n (by omega)]
theorem diaN_congr {P G : Nat → Int} : ∀ {n : Nat}, (∀ t, t < n → P (4 * t + t) = G (4 * t + t)) → diaN P n = diaN G n
  | 0, _ => rfl
  | n + 1, h => by
    show diaN P n + _ = diaN G n + _
    rw [diaN_congr (n := n) (fun t ht => h t (by omega)), h n (by omega)]
/-- Faddeev and LeVerrier: the product and the coefficient behind k steps -/
def flM (C : Nat → Int) (r : Nat) : Nat → (Nat → Int) × Int
  | 0 => (fun _ => 0, 1)
  | k + 1 => (fun q => dotN C (fun q => (flM C r k).1 q + (if q / 4 = q % 4 then (flM C r k).2 else 0)) (q / 4) (q % 4) r, (-(diaN (fun q => dotN C (fun q => (flM C r k).1 q + (if q / 4 = q % 4 then (flM C r k).2 else 0)) (q / 4) (q % 4) r) r)).tdiv ((k + 1 : Nat) : Int))
/-- the factor of step k + 1 -/
def flF (C : Nat → Int) (r k : Nat) : Nat → Int := fun q => (flM C r k).1 q + (if q / 4 = q % 4 then (flM C r k).2 else 0)
theorem flM_1 (C : Nat → Int) (r k : Nat) : (flM C r (k + 1)).1 = fun q => dotN C (flF C r k) (q / 4) (q % 4) r := rfl
theorem flM_2 (C : Nat → Int) (r k : Nat) : (flM C r (k + 1)).2 = (-(diaN (flM C r (k + 1)).1 r)).tdiv ((k + 1 : Nat) : Int) := rfl
theorem q4d (a : Nat) {b : Nat} (h : b < 4) : (4 * a + b) / 4 = a := by omega
theorem q4m (a : Nat) {b : Nat} (h : b < 4) : (4 * a + b) % 4 = b := by omega
/-- the coefficients, lowest first, hold C's polynomial; the factor is the last one -/
def flOK (C : Nat → Int) (r : Nat) (F O : Nat → Int) : Prop := (∀ i, i ≤ r → O (r - i) = (flM C r i).2) ∧ ∀ a b, a < r → b < r → F (4 * a + b) = flF C r (r - 1) (4 * a + b)
/-- sign changes below the power n, the last sign seen being that of x -/
def chgA (O : Nat → Int) : Nat → Int → Nat
  | 0, _ => 0
  | n + 1, x => if O n = 0 then chgA O n x else if (O n < 0) = (x < 0) then chgA O n (O n) else chgA O n (O n) + 1
theorem chgA_z {O : Nat → Int} {n : Nat} {x : Int} (h : O n = 0) : chgA O (n + 1) x = chgA O n x := if_pos h
theorem chgA_s {O : Nat → Int} {n : Nat} {x : Int} (h : ¬ O n = 0) (e : O n < 0 ↔ x < 0) : chgA O (n + 1) x = chgA O n (O n) := (if_neg h).trans (if_pos (propext e))
theorem chgA_d {O : Nat → Int} {n : Nat} {x : Int} (h : ¬ O n = 0) (e : ¬ (O n < 0 ↔ x < 0)) : chgA O (n + 1) x = chgA O n (O n) + 1 := (if_neg h).trans (if_neg (fun q => e (by rw [q])))
/-- the first power with a coefficient that is not 0, from r - n on -/
def zerN (O : Nat → Int) (r : Nat) : Nat → Nat
  | 0 => r
  | n + 1 => if O (r - (n + 1)) = 0 then zerN O r n else r - (n + 1)
theorem zerN_z {O : Nat → Int} {r z : Nat} (h : z < r) (e : O z = 0) : zerN O r (r - z) = zerN O r (r - (z + 1)) := by
  rw [show r - z = (r - (z + 1)) + 1 from by omega]
  unfold zerN
  rw [show r - (r - (z + 1) + 1) = z from by omega, if_pos e]
  cases r - (z + 1) <;> rfl
theorem zerN_n {O : Nat → Int} {r z : Nat} (h : z < r) (e : ¬ O z = 0) : zerN O r (r - z) = z := by
  rw [show r - z = (r - (z + 1)) + 1 from by omega]
  unfold zerN
  rw [show r - (r - (z + 1) + 1) = z from by omega, if_neg e]
theorem zerN_le (O : Nat → Int) (r : Nat) : ∀ n, n ≤ r → zerN O r n ≤ r ∧ r - n ≤ zerN O r n ∧ (∀ k, r - n ≤ k → k < zerN O r n → O k = 0)
  | 0, _ => ⟨Nat.le_refl _, by show r - 0 ≤ r; omega, fun k h1 h2 => by exact absurd h2 (by show ¬ k < r; omega)⟩
  | n + 1, h => by
    unfold zerN
    obtain ⟨i1, i2, i3⟩ := zerN_le O r n (by omega)
    by_cases q : O (r - (n + 1)) = 0
    · rw [if_pos q]
      refine ⟨i1, by omega, fun k h1 h2 => ?_⟩
      by_cases q2 : k = r - (n + 1)
      · rw [q2]; exact q
      · exact i3 k (by omega) h2
    · rw [if_neg q]
      exact ⟨by omega, Nat.le_refl _, fun k h1 h2 => absurd h2 (by omega)⟩
theorem chg_lez (O : Nat → Int) (z : Nat) (h : ∀ k, k < z → O k = 0) : ∀ (n : Nat) (x : Int), chgA O n x ≤ n - z
  | 0, x => by show 0 ≤ 0 - z; omega
  | n + 1, x => by
    by_cases q : O n = 0
    · rw [chgA_z q]; have := chg_lez O z h n x; omega
    · have hz : z ≤ n := by
        rcases Nat.lt_or_ge n z with w | w
        · exact absurd (h n w) q
        · exact w
      have := chg_lez O z h n (O n)
      by_cases e : (O n < 0 ↔ x < 0)
      · rw [chgA_s q e]; omega
      · rw [chgA_d q e]; omega
theorem chg_le (O : Nat → Int) (r : Nat) (x : Int) : chgA O r x ≤ r - zerN O r r := by
  obtain ⟨i1, i2, i3⟩ := zerN_le O r r (Nat.le_refl _)
  exact chg_lez O (zerN O r r) (fun k h => i3 k (by omega) h) r x
def discZ (su pa al : Int) : Int := su * su * pa * pa - 4 * pa * pa * pa - 4 * su * su * su * al + 18 * su * pa * al - 27 * al * al
def unlZ (r : Nat) (su pa al : Int) : Nat := if r = 2 then (if su * su = 4 * pa then 1 else 2) else if su * su = 3 * pa then 1 else if discZ su pa al = 0 then 2 else 3

def rm_c_place : Room := { frames := 0, cells := 0, slots := 0, locals := 0 }
set_option maxHeartbeats 4000000 in
set_option maxRecDepth 100000 in
/-- place: four to a row -/
theorem c_place (l : Launch) (D : va_G) (cJ : ClassId) (i : Nat) (j : Nat)  (sz : Nat) : xMi l y_K_place (Cond.code y_K_place b_K_place 2 (some .int) :: tW) rm_c_place [.int (nI i), .int (nI j)] D vwC [(cJ, .long)] sz [] (fun (rv : Int32) (_ : Unit) => rv = nI (4 * i + j)) (fun (_ : Unit) => []) 0 0 := by
  refine xoi (cc := b_K_place) (maxL := 2) (by decide) rfl (Nat.le_of_ble_eq_true rfl) ?_
  intro p e s m args below meth c Q A hx hb hml hts hown hN hA hS hP hK hD hret ls hl
  have hl : lv_has ls 2 [(0, .int (nI i)), (1, .int (nI j))] := hl
  obtain ⟨H, hH⟩ : ∃ z, z = s.heap := ⟨_, rfl⟩
  obtain ⟨locs, hlc⟩ : ∃ z : List Loc, z = [] := ⟨_, rfl⟩
  rw [← hH] at hP
  have hS : va_S A s.heap H locs := by rw [hH, hlc]; exact hS
  have key : W p l e rm_c_place s m args below meth c H locs 0 0 Q (F0 m 0 ls []) := by
    refine lv_iconst (v := nI 4) hx hb d_K_place_0 (by decide) ?_
    refine lv_iload_n hx hb d_K_place_1 rfl (lv_at hl 0 rfl) ?_
    refine xn_mul hx hb d_K_place_2 ?_
    refine lv_iload_n hx hb d_K_place_3 rfl (lv_at hl 1 rfl) ?_
    refine xn_add hx hb d_K_place_4 ?_
    exact hret H locs _ ls (nI ((4 * i) + j)) () d_K_place_5 rfl hP hD hS
  rw [hH, hlc] at key; exact key

def rm_c_fill : Room := { frames := 0, cells := 0, slots := 0, locals := 0 }
set_option maxHeartbeats 4000000 in
set_option maxRecDepth 100000 in
/-- fill: all of it -/
theorem c_fill (l : Launch) (D : va_G) (cJ : ClassId) (a : Nat) (n : Nat) (G : Nat → Int) (x : Int) (hn : n < 1000) (sz : Nat) : xMv l y_A_fill (Cond.code y_A_fill b_A_fill 5 none :: tW) rm_c_fill [.ref a, .long (lI x)] D vwC [(cJ, .long)] sz [(a, LA cJ n G)] (fun (uo : (Nat → Int)) => ∀ k, k < n → uo k = x) (fun (uo : (Nat → Int)) => [(a, LA cJ n uo)]) 0 0 := by
  refine xov (cc := b_A_fill) (maxL := 5) (by decide) rfl (Nat.le_of_ble_eq_true rfl) ?_
  intro p e s m args below meth c Q A hx hb hml hts hown hN hA hS hP hK hD hret ls hl
  have hl : lv_has ls 5 [(0, .ref a), (1, .long (lI x))] := hl
  obtain ⟨H, hH⟩ : ∃ z, z = s.heap := ⟨_, rfl⟩
  obtain ⟨locs, hlc⟩ : ∃ z : List Loc, z = [] := ⟨_, rfl⟩
  rw [← hH] at hP
  have hS : va_S A s.heap H locs := by rw [hH, hlc]; exact hS
  have key : W p l e rm_c_fill s m args below meth c H locs 0 0 Q (F0 m 0 ls []) := by
    refine lv_iconst (v := nI 0) hx hb d_A_fill_0 (by decide) ?_
    refine lv_istore_n (lv' := [(3, .int (nI 0)), (0, .ref a), (1, .long (lI x))]) hx hb d_A_fill_1 rfl hl (by decide) rfl (fun ls hl => ?_)
    refine lv_aload_n hx hb d_A_fill_2 rfl (lv_at hl 1 rfl) ?_
    refine va_alen (v := nI n) hx hb hK hP 0 0 rfl rfl rfl d_A_fill_3 ?_
    refine lv_istore (lv' := [(4, .int (nI n)), (3, .int (nI 0)), (0, .ref a), (1, .long (lI x))]) hx hb d_A_fill_4 hl (by decide) rfl (fun ls hl => ?_)
    have lp_6 : ∀ (n_6 : Nat) (i : Nat) (G2 : Nat → Int) (H : Heap) (locs : List Loc) (ls : Array Slot), (i ≤ n) → (∀ k, k < i → G2 k = x) → (n - i) < n_6 → va_P D vwC [(a, LA cJ n G2)] H → va_D A [(a, LA cJ n G2)] → va_S A s.heap H locs → lv_has ls 5 [(0, .ref a), (1, .long (lI x)), (3, .int (nI i)), (4, .int (nI n))] → W p l e rm_c_fill s m args below meth c H locs 0 0 Q (F0 m 6 ls []) := by
      intro n_6
      induction n_6 with
      | zero => intro i G2 H locs ls hi hG hn_6; exact absurd hn_6 (Nat.not_lt_zero _)
      | succ n_6 ih_6 =>
        intro i G2 H locs ls hi hG hn_6 hP hD hS hl
        refine lv_iload_n hx hb d_A_fill_6 rfl (lv_at hl 2 rfl) ?_
        refine lv_iload hx hb d_A_fill_7 (lv_at hl 3 rfl) ?_
        refine xn_ge (tgt := 22) hx hb (by omega) (by omega) d_A_fill_9 (by decide) (fun c9_0 => ?_) (fun c9_0 => ?_)
        · skip
          exact hret H locs _ ls G2 d_A_fill_22 (fun k h => hG k (by omega)) hP hD hS
        · skip
          refine lv_aload_n hx hb d_A_fill_12 rfl (lv_at hl 0 rfl) ?_
          refine lv_iload_n hx hb d_A_fill_13 rfl (lv_at hl 2 rfl) ?_
          refine lv_lload_n hx hb d_A_fill_14 rfl (lv_at hl 1 rfl) ?_
          refine xl_ast hx hb hK hP hD hS 0 0 rfl rfl (k := i) (by omega) (by first | decide | omega) d_A_fill_15 (fun H locs hP hD hS => ?_)
          have hP : va_P D vwC [(a, LA cJ n (upZ G2 i x))] H := hP
          have hD : va_D A [(a, LA cJ n (upZ G2 i x))] := hD
          refine lv_iinc (v := nI (i + 1)) (lv' := [(3, .int (nI (i + 1))), (0, .ref a), (1, .long (lI x)), (4, .int (nI n))]) hx hb d_A_fill_16 hl (k := 2) rfl (nI_add _ _) (by decide) rfl (fun ls hl => ?_)
          refine lv_goto (tgt := 6) hx hb d_A_fill_19 (by decide) ?_
          exact ih_6 (i + 1) (upZ G2 i x) H locs ls (by omega) (fun k h => by unfold upZ; split; rfl; exact hG k (by omega)) (by omega) hP hD hS (lv_sub hl [1, 2, 0, 3] rfl)
    exact lp_6 ((n - 0) + 1) 0 G H locs ls (Nat.zero_le _) (fun k h => absurd h (Nat.not_lt_zero _)) (by omega) hP hD hS (lv_sub hl [2, 3, 1, 0] rfl)
  rw [hH, hlc] at key; exact key

def rm_c_diagonal : Room := { frames := 1, cells := 0, slots := 0, locals := 21 }
set_option maxHeartbeats 4000000 in
set_option maxRecDepth 100000 in
/-- the sum along the diagonal of the product -/
theorem c_diagonal (l : Launch) (D : va_G) (cJ : ClassId) (ht : Nat) (hc : Nat) (hf : Nat) (hp : Nat) (ho : Nat) (r : Nat) (C : Nat → Int) (F : Nat → Int) (P : Nat → Int) (O : Nat → Int) (hr : r ≤ 4) (sz : Nat) : xMl l y_T_diagonal (Cond.code y_T_diagonal b_T_diagonal 4 (some .long) :: tW) rm_c_diagonal [.ref ht] D vwC [(cJ, .long)] sz [(ht, .inr (0, [.int (nI r), .ref hc, .ref hf, .ref hp, .ref ho])), (hc, LA cJ 16 C), (hf, LA cJ 16 F), (hp, LA cJ 16 P), (ho, LA cJ 5 O)] (fun (rv : Int64) (_ : Unit) => rv = lI (diaN P r)) (fun (_ : Unit) => [(ht, .inr (0, [.int (nI r), .ref hc, .ref hf, .ref hp, .ref ho])), (hc, LA cJ 16 C), (hf, LA cJ 16 F), (hp, LA cJ 16 P), (ho, LA cJ 5 O)]) 0 0 := by
  refine xol (cc := b_T_diagonal) (maxL := 4) (by decide) rfl (Nat.le_of_ble_eq_true rfl) ?_
  intro p e s m args below meth c Q A hx hb hml hts hown hN hA hS hP hK hD hret ls hl
  have hl : lv_has ls 4 [(0, .ref ht)] := hl
  obtain ⟨H, hH⟩ : ∃ z, z = s.heap := ⟨_, rfl⟩
  obtain ⟨locs, hlc⟩ : ∃ z : List Loc, z = [] := ⟨_, rfl⟩
  rw [← hH] at hP
  have hS : va_S A s.heap H locs := by rw [hH, hlc]; exact hS
  have key : W p l e rm_c_diagonal s m args below meth c H locs 0 0 Q (F0 m 0 ls []) := by
    refine lv_lconst (v := lI 0) hx hb d_T_diagonal_0 (by decide) ?_
    refine lv_lstore_n (lv' := [(1, .long (lI 0)), (0, .ref ht)]) hx hb d_T_diagonal_1 rfl hl (by decide) rfl (fun ls hl => ?_)
    refine lv_iconst (v := nI 0) hx hb d_T_diagonal_2 (by decide) ?_
    refine lv_istore_n (lv' := [(3, .int (nI 0)), (1, .long (lI 0)), (0, .ref ht)]) hx hb d_T_diagonal_3 rfl hl (by decide) rfl (fun ls hl => ?_)
    have lp_4 : ∀ (n_4 : Nat) (i : Nat) (H : Heap) (locs : List Loc) (ls : Array Slot), (i ≤ r) → (r - i) < n_4 → va_P D vwC [(ht, .inr (0, [.int (nI r), .ref hc, .ref hf, .ref hp, .ref ho])), (hc, LA cJ 16 C), (hf, LA cJ 16 F), (hp, LA cJ 16 P), (ho, LA cJ 5 O)] H → va_D A [(ht, .inr (0, [.int (nI r), .ref hc, .ref hf, .ref hp, .ref ho])), (hc, LA cJ 16 C), (hf, LA cJ 16 F), (hp, LA cJ 16 P), (ho, LA cJ 5 O)] → va_S A s.heap H locs → lv_has ls 4 [(0, .ref ht), (1, .long (lI (diaN P i))), (3, .int (nI i))] → W p l e rm_c_diagonal s m args below meth c H locs 0 0 Q (F0 m 4 ls []) := by
      intro n_4
      induction n_4 with
      | zero => intro i H locs ls hi hn_4; exact absurd hn_4 (Nat.not_lt_zero _)
      | succ n_4 ih_4 =>
        intro i H locs ls hi hn_4 hP hD hS hl
        refine lv_iload_n hx hb d_T_diagonal_4 rfl (lv_at hl 2 rfl) ?_
        refine lv_aload_n hx hb d_T_diagonal_5 rfl (lv_at hl 0 rfl) ?_
        refine va_get (D := D) (ci := 0) (v := .int (nI r)) (C := R_T) (T := F_T) (N := 5) hx hb hts iw_T hown hK hP 0 rfl rfl 0 (by decide) (hts _ tw_25) (fun _ h9 => h9) rfl d_T_diagonal_6 ?_
        refine xn_ge (tgt := 31) hx hb (by omega) (by omega) d_T_diagonal_9 (by decide) (fun c9_0 => ?_) (fun c9_0 => ?_)
        · skip
          refine lv_lload_n hx hb d_T_diagonal_31 rfl (lv_at hl 1 rfl) ?_
          exact hret H locs _ ls (lI (diaN P i)) () d_T_diagonal_32 (by rw [show r = i from by omega]) hP hD hS
        · skip
          refine lv_lload_n hx hb d_T_diagonal_12 rfl (lv_at hl 1 rfl) ?_
          refine lv_aload_n hx hb d_T_diagonal_13 rfl (lv_at hl 0 rfl) ?_
          refine va_get (D := D) (ci := 0) (v := .ref hp) (C := R_T) (T := F_T) (N := 5) hx hb hts iw_T hown hK hP 0 rfl rfl 3 (by decide) (hts _ tw_28) (fun _ h9 => h9) rfl d_T_diagonal_14 ?_
          refine lv_iload_n hx hb d_T_diagonal_17 rfl (lv_at hl 2 rfl) ?_
          refine lv_iload_n hx hb d_T_diagonal_18 rfl (lv_at hl 2 rfl) ?_
          refine xci (wc := []) (wr := [(ht, .inr (0, [.int (nI r), .ref hc, .ref hf, .ref hp, .ref ho])), (hc, LA cJ 16 C), (hf, LA cJ 16 F), (hp, LA cJ 16 P), (ho, LA cJ 5 O)]) hP hD hS hA [] [0, 1, 2, 3, 4] rfl rfl (by decide) (by decide) (va_runSN (As := [.int (nI i), .int (nI i)]) (rest := [.ref hp, .long (lI (diaN P i))]) ⟨hx, hb, hml, hown, hts⟩ (c_place l D cJ i i H.size) ⟨va_cnB 2 hts (gN tw_88) rfl rfl rfl hN.1 (hts _ tw_1) hd_K_place ⟨Nat.le_of_ble_eq_true rfl, Nat.le_of_ble_eq_true rfl⟩, (hts _ tw_87), trivial⟩ (xPreS hN hK (hP.sub (ws' := []) [] rfl) (hD.sub (ws' := []) [] (by decide) rfl)) rfl rfl hl.1 rfl (lv_room (Nat.le_of_ble_eq_true rfl)) d_T_diagonal_19 ⟨Nat.le_of_ble_eq_true rfl, Nat.le_of_ble_eq_true rfl⟩) (fun r_2 u_3 H locs hw_4 hP hD hS => ?_)
          try dsimp only at hw_4
          have hP : va_P D vwC [(ht, .inr (0, [.int (nI r), .ref hc, .ref hf, .ref hp, .ref ho])), (hc, LA cJ 16 C), (hf, LA cJ 16 F), (hp, LA cJ 16 P), (ho, LA cJ 5 O)] H := hP
          have hD : va_D A [(ht, .inr (0, [.int (nI r), .ref hc, .ref hf, .ref hp, .ref ho])), (hc, LA cJ 16 C), (hf, LA cJ 16 F), (hp, LA cJ 16 P), (ho, LA cJ 5 O)] := hD
          subst hw_4
          refine xl_ald hx hb hK hP 3 0 rfl rfl (k := 4 * i + i) (by omega) (by first | decide | omega) d_T_diagonal_22 ?_
          refine xl_add hx hb d_T_diagonal_23 ?_
          refine lv_lstore_n (lv' := [(1, .long (lI ((diaN P i) + (P (4 * i + i))))), (0, .ref ht), (3, .int (nI i))]) hx hb d_T_diagonal_24 rfl hl (by decide) rfl (fun ls hl => ?_)
          refine lv_iinc (v := nI (i + 1)) (lv' := [(3, .int (nI (i + 1))), (1, .long (lI ((diaN P i) + (P (4 * i + i))))), (0, .ref ht)]) hx hb d_T_diagonal_25 hl (k := 2) rfl (nI_add _ _) (by decide) rfl (fun ls hl => ?_)
          refine lv_goto (tgt := 4) hx hb d_T_diagonal_28 (by decide) ?_
          exact ih_4 (i + 1) H locs ls (by omega) (by omega) hP hD hS (lv_sub hl [2, 1, 0] rfl)
    exact lp_4 ((r - 0) + 1) 0 H locs ls (Nat.zero_le _) (by omega) hP hD hS (lv_sub hl [2, 1, 0] rfl)
  rw [hH, hlc] at key; exact key

def rm_c_multiply : Room := { frames := 1, cells := 0, slots := 0, locals := 21 }
set_option maxHeartbeats 4000000 in
set_option maxRecDepth 100000 in
/-- product = cells times factor -/
theorem c_multiply (l : Launch) (D : va_G) (cJ : ClassId) (ht : Nat) (hc : Nat) (hf : Nat) (hp : Nat) (ho : Nat) (r : Nat) (C : Nat → Int) (F : Nat → Int) (P : Nat → Int) (O : Nat → Int) (hr : r ≤ 4) (sz : Nat) : xMv l y_T_multiply (Cond.code y_T_multiply b_T_multiply 6 none :: tW) rm_c_multiply [.ref ht] D vwC [(cJ, .long)] sz [(ht, .inr (0, [.int (nI r), .ref hc, .ref hf, .ref hp, .ref ho])), (hc, LA cJ 16 C), (hf, LA cJ 16 F), (hp, LA cJ 16 P), (ho, LA cJ 5 O)] (fun (uo : (Nat → Int)) => ∀ a b, a < r → b < r → uo (4 * a + b) = dotN C F a b r) (fun (uo : (Nat → Int)) => [(ht, .inr (0, [.int (nI r), .ref hc, .ref hf, .ref hp, .ref ho])), (hc, LA cJ 16 C), (hf, LA cJ 16 F), (hp, LA cJ 16 uo), (ho, LA cJ 5 O)]) 0 0 := by
  refine xov (cc := b_T_multiply) (maxL := 6) (by decide) rfl (Nat.le_of_ble_eq_true rfl) ?_
  intro p e s m args below meth c Q A hx hb hml hts hown hN hA hS hP hK hD hret ls hl
  have hl : lv_has ls 6 [(0, .ref ht)] := hl
  obtain ⟨H, hH⟩ : ∃ z, z = s.heap := ⟨_, rfl⟩
  obtain ⟨locs, hlc⟩ : ∃ z : List Loc, z = [] := ⟨_, rfl⟩
  rw [← hH] at hP
  have hS : va_S A s.heap H locs := by rw [hH, hlc]; exact hS
  have key : W p l e rm_c_multiply s m args below meth c H locs 0 0 Q (F0 m 0 ls []) := by
    refine lv_iconst (v := nI 0) hx hb d_T_multiply_0 (by decide) ?_
    refine lv_istore_n (lv' := [(1, .int (nI 0)), (0, .ref ht)]) hx hb d_T_multiply_1 rfl hl (by decide) rfl (fun ls hl => ?_)
    have lp_2 : ∀ (n_2 : Nat) (i : Nat) (P2 : Nat → Int) (H : Heap) (locs : List Loc) (ls : Array Slot), (i ≤ r) → (∀ a b, a < i → b < r → P2 (4 * a + b) = dotN C F a b r) → (r - i) < n_2 → va_P D vwC [(ht, .inr (0, [.int (nI r), .ref hc, .ref hf, .ref hp, .ref ho])), (hc, LA cJ 16 C), (hf, LA cJ 16 F), (hp, LA cJ 16 P2), (ho, LA cJ 5 O)] H → va_D A [(ht, .inr (0, [.int (nI r), .ref hc, .ref hf, .ref hp, .ref ho])), (hc, LA cJ 16 C), (hf, LA cJ 16 F), (hp, LA cJ 16 P2), (ho, LA cJ 5 O)] → va_S A s.heap H locs → lv_has ls 6 [(0, .ref ht), (1, .int (nI i))] → W p l e rm_c_multiply s m args below meth c H locs 0 0 Q (F0 m 2 ls []) := by
      intro n_2
      induction n_2 with
      | zero => intro i P2 H locs ls hi h1 hn_2; exact absurd hn_2 (Nat.not_lt_zero _)
      | succ n_2 ih_2 =>
        intro i P2 H locs ls hi h1 hn_2 hP hD hS hl
        refine lv_iload_n hx hb d_T_multiply_2 rfl (lv_at hl 1 rfl) ?_
        refine lv_aload_n hx hb d_T_multiply_3 rfl (lv_at hl 0 rfl) ?_
        refine va_get (D := D) (ci := 0) (v := .int (nI r)) (C := R_T) (T := F_T) (N := 5) hx hb hts iw_T hown hK hP 0 rfl rfl 0 (by decide) (hts _ tw_25) (fun _ h9 => h9) rfl d_T_multiply_4 ?_
        refine xn_ge (tgt := 89) hx hb (by omega) (by omega) d_T_multiply_7 (by decide) (fun c7_0 => ?_) (fun c7_0 => ?_)
        · skip
          exact hret H locs _ ls P2 d_T_multiply_89 (fun a b ha hb => h1 a b (by omega) hb) hP hD hS
        · skip
          refine lv_iconst (v := nI 0) hx hb d_T_multiply_10 (by decide) ?_
          refine lv_istore_n (lv' := [(2, .int (nI 0)), (0, .ref ht), (1, .int (nI i))]) hx hb d_T_multiply_11 rfl hl (by decide) rfl (fun ls hl => ?_)
          have lp_12 : ∀ (n_12 : Nat) (j : Nat) (P3 : Nat → Int) (H : Heap) (locs : List Loc) (ls : Array Slot), (j ≤ r) → (∀ a b, (a < i ∧ b < r) ∨ (a = i ∧ b < j) → P3 (4 * a + b) = dotN C F a b r) → (r - j) < n_12 → va_P D vwC [(ht, .inr (0, [.int (nI r), .ref hc, .ref hf, .ref hp, .ref ho])), (hc, LA cJ 16 C), (hf, LA cJ 16 F), (hp, LA cJ 16 P3), (ho, LA cJ 5 O)] H → va_D A [(ht, .inr (0, [.int (nI r), .ref hc, .ref hf, .ref hp, .ref ho])), (hc, LA cJ 16 C), (hf, LA cJ 16 F), (hp, LA cJ 16 P3), (ho, LA cJ 5 O)] → va_S A s.heap H locs → lv_has ls 6 [(0, .ref ht), (1, .int (nI i)), (2, .int (nI j))] → W p l e rm_c_multiply s m args below meth c H locs 0 0 Q (F0 m 12 ls []) := by
            intro n_12
            induction n_12 with
            | zero => intro j P3 H locs ls hj h2 hn_12; exact absurd hn_12 (Nat.not_lt_zero _)
            | succ n_12 ih_12 =>
              intro j P3 H locs ls hj h2 hn_12 hP hD hS hl
              refine lv_iload_n hx hb d_T_multiply_12 rfl (lv_at hl 2 rfl) ?_
              refine lv_aload_n hx hb d_T_multiply_13 rfl (lv_at hl 0 rfl) ?_
              refine va_get (D := D) (ci := 0) (v := .int (nI r)) (C := R_T) (T := F_T) (N := 5) hx hb hts iw_T hown hK hP 0 rfl rfl 0 (by decide) (hts _ tw_25) (fun _ h9 => h9) rfl d_T_multiply_14 ?_
              refine xn_ge (tgt := 83) hx hb (by omega) (by omega) d_T_multiply_17 (by decide) (fun c17_1 => ?_) (fun c17_1 => ?_)
              · skip
                refine lv_iinc (v := nI (i + 1)) (lv' := [(1, .int (nI (i + 1))), (0, .ref ht), (2, .int (nI j))]) hx hb d_T_multiply_83 hl (k := 1) rfl (nI_add _ _) (by decide) rfl (fun ls hl => ?_)
                refine lv_goto (tgt := 2) hx hb d_T_multiply_86 (by decide) ?_
                exact ih_2 (i + 1) P3 H locs ls (by omega) (fun a b ha hb => h2 a b (by omega)) (by omega) hP hD hS (lv_sub hl [1, 0] rfl)
              · skip
                refine lv_lconst (v := lI 0) hx hb d_T_multiply_20 (by decide) ?_
                refine lv_lstore_n (lv' := [(3, .long (lI 0)), (0, .ref ht), (1, .int (nI i)), (2, .int (nI j))]) hx hb d_T_multiply_21 rfl hl (by decide) rfl (fun ls hl => ?_)
                refine lv_iconst (v := nI 0) hx hb d_T_multiply_22 (by decide) ?_
                refine lv_istore (lv' := [(5, .int (nI 0)), (3, .long (lI 0)), (0, .ref ht), (1, .int (nI i)), (2, .int (nI j))]) hx hb d_T_multiply_23 hl (by decide) rfl (fun ls hl => ?_)
                have lp_25 : ∀ (n_25 : Nat) (t : Nat) (H : Heap) (locs : List Loc) (ls : Array Slot), (t ≤ r) → (r - t) < n_25 → va_P D vwC [(ht, .inr (0, [.int (nI r), .ref hc, .ref hf, .ref hp, .ref ho])), (hc, LA cJ 16 C), (hf, LA cJ 16 F), (hp, LA cJ 16 P3), (ho, LA cJ 5 O)] H → va_D A [(ht, .inr (0, [.int (nI r), .ref hc, .ref hf, .ref hp, .ref ho])), (hc, LA cJ 16 C), (hf, LA cJ 16 F), (hp, LA cJ 16 P3), (ho, LA cJ 5 O)] → va_S A s.heap H locs → lv_has ls 6 [(0, .ref ht), (1, .int (nI i)), (2, .int (nI j)), (3, .long (lI (dotN C F i j t))), (5, .int (nI t))] → W p l e rm_c_multiply s m args below meth c H locs 0 0 Q (F0 m 25 ls []) := by
                  intro n_25
                  induction n_25 with
                  | zero => intro t H locs ls hk hn_25; exact absurd hn_25 (Nat.not_lt_zero _)
                  | succ n_25 ih_25 =>
                    intro t H locs ls hk hn_25 hP hD hS hl
                    refine lv_iload hx hb d_T_multiply_25 (lv_at hl 4 rfl) ?_
                    refine lv_aload_n hx hb d_T_multiply_27 rfl (lv_at hl 0 rfl) ?_
                    refine va_get (D := D) (ci := 0) (v := .int (nI r)) (C := R_T) (T := F_T) (N := 5) hx hb hts iw_T hown hK hP 0 rfl rfl 0 (by decide) (hts _ tw_25) (fun _ h9 => h9) rfl d_T_multiply_28 ?_
                    refine xn_ge (tgt := 66) hx hb (by omega) (by omega) d_T_multiply_31 (by decide) (fun c31_2 => ?_) (fun c31_2 => ?_)
                    · skip
                      refine lv_aload_n hx hb d_T_multiply_66 rfl (lv_at hl 0 rfl) ?_
                      refine va_get (D := D) (ci := 0) (v := .ref hp) (C := R_T) (T := F_T) (N := 5) hx hb hts iw_T hown hK hP 0 rfl rfl 3 (by decide) (hts _ tw_28) (fun _ h9 => h9) rfl d_T_multiply_67 ?_
                      refine lv_iload_n hx hb d_T_multiply_70 rfl (lv_at hl 1 rfl) ?_
                      refine lv_iload_n hx hb d_T_multiply_71 rfl (lv_at hl 2 rfl) ?_
                      refine xci (wc := []) (wr := [(ht, .inr (0, [.int (nI r), .ref hc, .ref hf, .ref hp, .ref ho])), (hc, LA cJ 16 C), (hf, LA cJ 16 F), (hp, LA cJ 16 P3), (ho, LA cJ 5 O)]) hP hD hS hA [] [0, 1, 2, 3, 4] rfl rfl (by decide) (by decide) (va_runSN (As := [.int (nI i), .int (nI j)]) (rest := [.ref hp]) ⟨hx, hb, hml, hown, hts⟩ (c_place l D cJ i j H.size) ⟨va_cnB 2 hts (gN tw_88) rfl rfl rfl hN.1 (hts _ tw_1) hd_K_place ⟨Nat.le_of_ble_eq_true rfl, Nat.le_of_ble_eq_true rfl⟩, (hts _ tw_87), trivial⟩ (xPreS hN hK (hP.sub (ws' := []) [] rfl) (hD.sub (ws' := []) [] (by decide) rfl)) rfl rfl hl.1 rfl (lv_room (Nat.le_of_ble_eq_true rfl)) d_T_multiply_72 ⟨Nat.le_of_ble_eq_true rfl, Nat.le_of_ble_eq_true rfl⟩) (fun r_4 u_5 H locs hw_6 hP hD hS => ?_)
                      try dsimp only at hw_6
                      have hP : va_P D vwC [(ht, .inr (0, [.int (nI r), .ref hc, .ref hf, .ref hp, .ref ho])), (hc, LA cJ 16 C), (hf, LA cJ 16 F), (hp, LA cJ 16 P3), (ho, LA cJ 5 O)] H := hP
                      have hD : va_D A [(ht, .inr (0, [.int (nI r), .ref hc, .ref hf, .ref hp, .ref ho])), (hc, LA cJ 16 C), (hf, LA cJ 16 F), (hp, LA cJ 16 P3), (ho, LA cJ 5 O)] := hD
                      subst hw_6
                      refine lv_lload_n hx hb d_T_multiply_75 rfl (lv_at hl 3 rfl) ?_
                      refine xl_ast hx hb hK hP hD hS 3 0 rfl rfl (k := 4 * i + j) (by omega) (by first | decide | omega) d_T_multiply_76 (fun H locs hP hD hS => ?_)
                      have hP : va_P D vwC [(ht, .inr (0, [.int (nI r), .ref hc, .ref hf, .ref hp, .ref ho])), (hc, LA cJ 16 C), (hf, LA cJ 16 F), (hp, LA cJ 16 (upZ P3 (4 * i + j) (dotN C F i j t))), (ho, LA cJ 5 O)] H := hP
                      have hD : va_D A [(ht, .inr (0, [.int (nI r), .ref hc, .ref hf, .ref hp, .ref ho])), (hc, LA cJ 16 C), (hf, LA cJ 16 F), (hp, LA cJ 16 (upZ P3 (4 * i + j) (dotN C F i j t))), (ho, LA cJ 5 O)] := hD
                      refine lv_iinc (v := nI (j + 1)) (lv' := [(2, .int (nI (j + 1))), (0, .ref ht), (1, .int (nI i)), (3, .long (lI (dotN C F i j t))), (5, .int (nI t))]) hx hb d_T_multiply_77 hl (k := 2) rfl (nI_add _ _) (by decide) rfl (fun ls hl => ?_)
                      refine lv_goto (tgt := 12) hx hb d_T_multiply_80 (by decide) ?_
                      exact ih_12 (j + 1) (upZ P3 (4 * i + j) (dotN C F i j t)) H locs ls (by omega) (fun a b h => by by_cases q : a = i ∧ b = j; obtain ⟨rfl, rfl⟩ := q; rw [upZ_at, show r = t from by omega]; rw [upZ_ne (k := 4 * i + j) (j := 4 * a + b) _ _ (by omega)]; exact h2 a b (by omega)) (by omega) hP hD hS (lv_sub hl [1, 2, 0] rfl)
                    · skip
                      refine lv_lload_n hx hb d_T_multiply_34 rfl (lv_at hl 3 rfl) ?_
                      refine lv_aload_n hx hb d_T_multiply_35 rfl (lv_at hl 0 rfl) ?_
                      refine va_get (D := D) (ci := 0) (v := .ref hc) (C := R_T) (T := F_T) (N := 5) hx hb hts iw_T hown hK hP 0 rfl rfl 1 (by decide) (hts _ tw_26) (fun _ h9 => h9) rfl d_T_multiply_36 ?_
                      refine lv_iload_n hx hb d_T_multiply_39 rfl (lv_at hl 1 rfl) ?_
                      refine lv_iload hx hb d_T_multiply_40 (lv_at hl 4 rfl) ?_
                      refine xci (wc := []) (wr := [(ht, .inr (0, [.int (nI r), .ref hc, .ref hf, .ref hp, .ref ho])), (hc, LA cJ 16 C), (hf, LA cJ 16 F), (hp, LA cJ 16 P3), (ho, LA cJ 5 O)]) hP hD hS hA [] [0, 1, 2, 3, 4] rfl rfl (by decide) (by decide) (va_runSN (As := [.int (nI i), .int (nI t)]) (rest := [.ref hc, .long (lI (dotN C F i j t))]) ⟨hx, hb, hml, hown, hts⟩ (c_place l D cJ i t H.size) ⟨va_cnB 2 hts (gN tw_88) rfl rfl rfl hN.1 (hts _ tw_1) hd_K_place ⟨Nat.le_of_ble_eq_true rfl, Nat.le_of_ble_eq_true rfl⟩, (hts _ tw_87), trivial⟩ (xPreS hN hK (hP.sub (ws' := []) [] rfl) (hD.sub (ws' := []) [] (by decide) rfl)) rfl rfl hl.1 rfl (lv_room (Nat.le_of_ble_eq_true rfl)) d_T_multiply_42 ⟨Nat.le_of_ble_eq_true rfl, Nat.le_of_ble_eq_true rfl⟩) (fun r_7 u_8 H locs hw_9 hP hD hS => ?_)
                      try dsimp only at hw_9
                      have hP : va_P D vwC [(ht, .inr (0, [.int (nI r), .ref hc, .ref hf, .ref hp, .ref ho])), (hc, LA cJ 16 C), (hf, LA cJ 16 F), (hp, LA cJ 16 P3), (ho, LA cJ 5 O)] H := hP
                      have hD : va_D A [(ht, .inr (0, [.int (nI r), .ref hc, .ref hf, .ref hp, .ref ho])), (hc, LA cJ 16 C), (hf, LA cJ 16 F), (hp, LA cJ 16 P3), (ho, LA cJ 5 O)] := hD
                      subst hw_9
                      refine xl_ald hx hb hK hP 1 0 rfl rfl (k := 4 * i + t) (by omega) (by first | decide | omega) d_T_multiply_45 ?_
                      refine lv_aload_n hx hb d_T_multiply_46 rfl (lv_at hl 0 rfl) ?_
                      refine va_get (D := D) (ci := 0) (v := .ref hf) (C := R_T) (T := F_T) (N := 5) hx hb hts iw_T hown hK hP 0 rfl rfl 2 (by decide) (hts _ tw_27) (fun _ h9 => h9) rfl d_T_multiply_47 ?_
                      refine lv_iload hx hb d_T_multiply_50 (lv_at hl 4 rfl) ?_
                      refine lv_iload_n hx hb d_T_multiply_52 rfl (lv_at hl 2 rfl) ?_
                      refine xci (wc := []) (wr := [(ht, .inr (0, [.int (nI r), .ref hc, .ref hf, .ref hp, .ref ho])), (hc, LA cJ 16 C), (hf, LA cJ 16 F), (hp, LA cJ 16 P3), (ho, LA cJ 5 O)]) hP hD hS hA [] [0, 1, 2, 3, 4] rfl rfl (by decide) (by decide) (va_runSN (As := [.int (nI t), .int (nI j)]) (rest := [.ref hf, .long (lI (C (4 * i + t))), .long (lI (dotN C F i j t))]) ⟨hx, hb, hml, hown, hts⟩ (c_place l D cJ t j H.size) ⟨va_cnB 2 hts (gN tw_88) rfl rfl rfl hN.1 (hts _ tw_1) hd_K_place ⟨Nat.le_of_ble_eq_true rfl, Nat.le_of_ble_eq_true rfl⟩, (hts _ tw_87), trivial⟩ (xPreS hN hK (hP.sub (ws' := []) [] rfl) (hD.sub (ws' := []) [] (by decide) rfl)) rfl rfl hl.1 rfl (lv_room (Nat.le_of_ble_eq_true rfl)) d_T_multiply_53 ⟨Nat.le_of_ble_eq_true rfl, Nat.le_of_ble_eq_true rfl⟩) (fun r_10 u_11 H locs hw_12 hP hD hS => ?_)
                      try dsimp only at hw_12
                      have hP : va_P D vwC [(ht, .inr (0, [.int (nI r), .ref hc, .ref hf, .ref hp, .ref ho])), (hc, LA cJ 16 C), (hf, LA cJ 16 F), (hp, LA cJ 16 P3), (ho, LA cJ 5 O)] H := hP
                      have hD : va_D A [(ht, .inr (0, [.int (nI r), .ref hc, .ref hf, .ref hp, .ref ho])), (hc, LA cJ 16 C), (hf, LA cJ 16 F), (hp, LA cJ 16 P3), (ho, LA cJ 5 O)] := hD
                      subst hw_12
                      refine xl_ald hx hb hK hP 2 0 rfl rfl (k := 4 * t + j) (by omega) (by first | decide | omega) d_T_multiply_56 ?_
                      refine xl_mul hx hb d_T_multiply_57 ?_
                      refine xl_add hx hb d_T_multiply_58 ?_
                      refine lv_lstore_n (lv' := [(3, .long (lI ((dotN C F i j t) + ((C (4 * i + t)) * (F (4 * t + j)))))), (0, .ref ht), (1, .int (nI i)), (2, .int (nI j)), (5, .int (nI t))]) hx hb d_T_multiply_59 rfl hl (by decide) rfl (fun ls hl => ?_)
                      refine lv_iinc (v := nI (t + 1)) (lv' := [(5, .int (nI (t + 1))), (3, .long (lI ((dotN C F i j t) + ((C (4 * i + t)) * (F (4 * t + j)))))), (0, .ref ht), (1, .int (nI i)), (2, .int (nI j))]) hx hb d_T_multiply_60 hl (k := 4) rfl (nI_add _ _) (by decide) rfl (fun ls hl => ?_)
                      refine lv_goto (tgt := 25) hx hb d_T_multiply_63 (by decide) ?_
                      exact ih_25 (t + 1) H locs ls (by omega) (by omega) hP hD hS (lv_sub hl [2, 3, 4, 1, 0] rfl)
                exact lp_25 ((r - 0) + 1) 0 H locs ls (Nat.zero_le _) (by omega) hP hD hS (lv_sub hl [2, 3, 4, 1, 0] rfl)
          exact lp_12 ((r - 0) + 1) 0 P2 H locs ls (Nat.zero_le _) (fun a b h => h1 a b (by omega) (by omega)) (by omega) hP hD hS (lv_sub hl [1, 2, 0] rfl)
    exact lp_2 ((r - 0) + 1) 0 P H locs ls (Nat.zero_le _) (fun a b h => absurd h (Nat.not_lt_zero _)) (by omega) hP hD hS (lv_sub hl [1, 0] rfl)
  rw [hH, hlc] at key; exact key

def rm_c_expand : Room := { frames := 2, cells := 0, slots := 0, locals := 60 }
set_option maxHeartbeats 4000000 in
set_option maxRecDepth 100000 in
/-- the polynomial and the adjugate -/
theorem c_expand (l : Launch) (D : va_G) (cJ : ClassId) (ht : Nat) (hc : Nat) (hf : Nat) (hp : Nat) (ho : Nat) (r : Nat) (C : Nat → Int) (F : Nat → Int) (P : Nat → Int) (O : Nat → Int) (hr1 : 1 ≤ r) (hr : r ≤ 4) (hq : ∀ k, k < r → lB (-(diaN (flM C r (k + 1)).1 r))) (sz : Nat) : xMv l y_T_expand (Cond.code y_T_expand b_T_expand 3 none :: tW) rm_c_expand [.ref ht] D vwC [(cJ, .long)] sz [(ht, .inr (0, [.int (nI r), .ref hc, .ref hf, .ref hp, .ref ho])), (hc, LA cJ 16 C), (hf, LA cJ 16 F), (hp, LA cJ 16 P), (ho, LA cJ 5 O)] (fun (uo : (Nat → Int) × (Nat → Int) × (Nat → Int)) => flOK C r uo.1 uo.2.2) (fun (uo : (Nat → Int) × (Nat → Int) × (Nat → Int)) => [(ht, .inr (0, [.int (nI r), .ref hc, .ref hf, .ref hp, .ref ho])), (hc, LA cJ 16 C), (hf, LA cJ 16 uo.1), (hp, LA cJ 16 uo.2.1), (ho, LA cJ 5 uo.2.2)]) 0 0 := by
  refine xov (cc := b_T_expand) (maxL := 3) (by decide) rfl (Nat.le_of_ble_eq_true rfl) ?_
  intro p e s m args below meth c Q A hx hb hml hts hown hN hA hS hP hK hD hret ls hl
  have hl : lv_has ls 3 [(0, .ref ht)] := hl
  obtain ⟨H, hH⟩ : ∃ z, z = s.heap := ⟨_, rfl⟩
  obtain ⟨locs, hlc⟩ : ∃ z : List Loc, z = [] := ⟨_, rfl⟩
  rw [← hH] at hP
  have hS : va_S A s.heap H locs := by rw [hH, hlc]; exact hS
  have key : W p l e rm_c_expand s m args below meth c H locs 0 0 Q (F0 m 0 ls []) := by
    refine lv_aload_n hx hb d_T_expand_0 rfl (lv_at hl 0 rfl) ?_
    refine va_get (D := D) (ci := 0) (v := .ref hp) (C := R_T) (T := F_T) (N := 5) hx hb hts iw_T hown hK hP 0 rfl rfl 3 (by decide) (hts _ tw_28) (fun _ h9 => h9) rfl d_T_expand_1 ?_
    refine lv_lconst (v := lI 0) hx hb d_T_expand_4 (by decide) ?_
    refine xcv (wc := [(hp, LA cJ 16 P)]) (wr := [(ht, .inr (0, [.int (nI r), .ref hc, .ref hf, .ref hp, .ref ho])), (hc, LA cJ 16 C), (hf, LA cJ 16 F), (ho, LA cJ 5 O)]) hP hD hS hA [3] [0, 1, 2, 4] rfl rfl (by decide) (by decide) (va_runS (As := [.ref hp, .long (lI 0)]) (rest := []) ⟨hx, hb, hml, hown, hts⟩ (c_fill l D cJ hp 16 P 0 (by first | assumption | omega) H.size) (va_cwS 2 hts (gSJ tw_106 tw_72 tw_4 tw_73) rfl rfl rfl hd_A_fill ⟨Nat.le_of_ble_eq_true rfl, Nat.le_of_ble_eq_true rfl⟩) (xPreS hN hK (hP.sub (ws' := [(hp, LA cJ 16 P)]) [3] rfl) (hD.sub (ws' := [(hp, LA cJ 16 P)]) [3] (by decide) rfl)) rfl rfl hl.1 rfl (lv_room (Nat.le_of_ble_eq_true rfl)) d_T_expand_5 ⟨Nat.le_of_ble_eq_true rfl, Nat.le_of_ble_eq_true rfl⟩) (fun u_2 H locs hfill hP hD hS => ?_)
    obtain ⟨P0, rfl⟩ : ∃ z, z = u_2 := ⟨_, rfl⟩
    try dsimp only at hfill
    have hP : va_P D vwC [(ht, .inr (0, [.int (nI r), .ref hc, .ref hf, .ref hp, .ref ho])), (hc, LA cJ 16 C), (hf, LA cJ 16 F), (hp, LA cJ 16 P0), (ho, LA cJ 5 O)] H := hP.sub [0, 1, 2, 4, 3] rfl
    have hD : va_D A [(ht, .inr (0, [.int (nI r), .ref hc, .ref hf, .ref hp, .ref ho])), (hc, LA cJ 16 C), (hf, LA cJ 16 F), (hp, LA cJ 16 P0), (ho, LA cJ 5 O)] := hD.sub [0, 1, 2, 4, 3] (by decide) rfl
    refine lv_aload_n hx hb d_T_expand_8 rfl (lv_at hl 0 rfl) ?_
    refine va_get (D := D) (ci := 0) (v := .ref ho) (C := R_T) (T := F_T) (N := 5) hx hb hts iw_T hown hK hP 0 rfl rfl 4 (by decide) (hts _ tw_29) (fun _ h9 => h9) rfl d_T_expand_9 ?_
    refine lv_aload_n hx hb d_T_expand_12 rfl (lv_at hl 0 rfl) ?_
    refine va_get (D := D) (ci := 0) (v := .int (nI r)) (C := R_T) (T := F_T) (N := 5) hx hb hts iw_T hown hK hP 0 rfl rfl 0 (by decide) (hts _ tw_25) (fun _ h9 => h9) rfl d_T_expand_13 ?_
    refine lv_lconst (v := lI 1) hx hb d_T_expand_16 (by decide) ?_
    refine xl_ast hx hb hK hP hD hS 4 0 rfl rfl (k := r) (by omega) (by first | decide | omega) d_T_expand_17 (fun H locs hP hD hS => ?_)
    have hP : va_P D vwC [(ht, .inr (0, [.int (nI r), .ref hc, .ref hf, .ref hp, .ref ho])), (hc, LA cJ 16 C), (hf, LA cJ 16 F), (hp, LA cJ 16 P0), (ho, LA cJ 5 (upZ O r 1))] H := hP
    have hD : va_D A [(ht, .inr (0, [.int (nI r), .ref hc, .ref hf, .ref hp, .ref ho])), (hc, LA cJ 16 C), (hf, LA cJ 16 F), (hp, LA cJ 16 P0), (ho, LA cJ 5 (upZ O r 1))] := hD
    refine lv_iconst (v := nI 1) hx hb d_T_expand_18 (by decide) ?_
    refine lv_istore_n (lv' := [(1, .int (nI 1)), (0, .ref ht)]) hx hb d_T_expand_19 rfl hl (by decide) rfl (fun ls hl => ?_)
    have lp_20 : ∀ (n_20 : Nat) (j : Nat) (F1 : Nat → Int) (P1 : Nat → Int) (O1 : Nat → Int) (H : Heap) (locs : List Loc) (ls : Array Slot), (j ≤ r) → (∀ a b, a < r → b < r → P1 (4 * a + b) = (flM C r j).1 (4 * a + b)) → (∀ i, i ≤ j → O1 (r - i) = (flM C r i).2) → (1 ≤ j → ∀ a b, a < r → b < r → F1 (4 * a + b) = flF C r (j - 1) (4 * a + b)) → (r - j) < n_20 → va_P D vwC [(ht, .inr (0, [.int (nI r), .ref hc, .ref hf, .ref hp, .ref ho])), (hc, LA cJ 16 C), (hf, LA cJ 16 F1), (hp, LA cJ 16 P1), (ho, LA cJ 5 O1)] H → va_D A [(ht, .inr (0, [.int (nI r), .ref hc, .ref hf, .ref hp, .ref ho])), (hc, LA cJ 16 C), (hf, LA cJ 16 F1), (hp, LA cJ 16 P1), (ho, LA cJ 5 O1)] → va_S A s.heap H locs → lv_has ls 3 [(0, .ref ht), (1, .int (nI (j + 1)))] → W p l e rm_c_expand s m args below meth c H locs 0 0 Q (F0 m 20 ls []) := by
      intro n_20
      induction n_20 with
      | zero => intro j F1 P1 O1 H locs ls hj hP1 hO1 hF1 hn_20; exact absurd hn_20 (Nat.not_lt_zero _)
      | succ n_20 ih_20 =>
        intro j F1 P1 O1 H locs ls hj hP1 hO1 hF1 hn_20 hP hD hS hl
        refine lv_iload_n hx hb d_T_expand_20 rfl (lv_at hl 1 rfl) ?_
        refine lv_aload_n hx hb d_T_expand_21 rfl (lv_at hl 0 rfl) ?_
        refine va_get (D := D) (ci := 0) (v := .int (nI r)) (C := R_T) (T := F_T) (N := 5) hx hb hts iw_T hown hK hP 0 rfl rfl 0 (by decide) (hts _ tw_25) (fun _ h9 => h9) rfl d_T_expand_22 ?_
        refine xn_gt (tgt := 114) hx hb (by omega) (by omega) d_T_expand_25 (by decide) (fun c25_2 => ?_) (fun c25_2 => ?_)
        · skip
          exact hret H locs _ ls (F1, P1, O1) d_T_expand_114 ⟨fun i hi => hO1 i (by omega), fun a b ha hb => (hF1 (by omega) a b ha hb).trans (by rw [show j = r from by omega])⟩ hP hD hS
        · skip
          refine lv_aload_n hx hb d_T_expand_28 rfl (lv_at hl 0 rfl) ?_
          refine va_get (D := D) (ci := 0) (v := .ref hp) (C := R_T) (T := F_T) (N := 5) hx hb hts iw_T hown hK hP 0 rfl rfl 3 (by decide) (hts _ tw_28) (fun _ h9 => h9) rfl d_T_expand_29 ?_
          refine lv_iconst (v := nI 0) hx hb d_T_expand_32 (by decide) ?_
          refine lv_aload_n hx hb d_T_expand_33 rfl (lv_at hl 0 rfl) ?_
          refine va_get (D := D) (ci := 0) (v := .ref hf) (C := R_T) (T := F_T) (N := 5) hx hb hts iw_T hown hK hP 0 rfl rfl 2 (by decide) (hts _ tw_27) (fun _ h9 => h9) rfl d_T_expand_34 ?_
          refine lv_iconst (v := nI 0) hx hb d_T_expand_37 (by decide) ?_
          refine lv_bipush (v := nI 16) hx hb d_T_expand_38 (by decide) ?_
          refine xl_copy hx hb (by rw [hml]; exact hl.1.symm) hown (hts _ tw_107) (hts _ tw_109) (hts _ tw_108) (hts _ tw_5) hK hP hD hS 3 2 0 rfl rfl rfl (n := 16) (by omega) (by omega) (by omega) (Nat.le_of_ble_eq_true rfl) (by decide +kernel) d_T_expand_40 (fun H locs hP hD hS => ?_)
          have hP : va_P D vwC [(ht, .inr (0, [.int (nI r), .ref hc, .ref hf, .ref hp, .ref ho])), (hc, LA cJ 16 C), (hf, LA cJ 16 (cpZ P1 F1 16)), (hp, LA cJ 16 P1), (ho, LA cJ 5 O1)] H := hP
          have hD : va_D A [(ht, .inr (0, [.int (nI r), .ref hc, .ref hf, .ref hp, .ref ho])), (hc, LA cJ 16 C), (hf, LA cJ 16 (cpZ P1 F1 16)), (hp, LA cJ 16 P1), (ho, LA cJ 5 O1)] := hD
          refine lv_iconst (v := nI 0) hx hb d_T_expand_43 (by decide) ?_
          refine lv_istore_n (lv' := [(2, .int (nI 0)), (0, .ref ht), (1, .int (nI (j + 1)))]) hx hb d_T_expand_44 rfl hl (by decide) rfl (fun ls hl => ?_)
          have lp_45 : ∀ (n_45 : Nat) (i : Nat) (F3 : Nat → Int) (H : Heap) (locs : List Loc) (ls : Array Slot), (i ≤ r) → (∀ a b, a < r → b < r → F3 (4 * a + b) = P1 (4 * a + b) + (if a = b ∧ a < i then (flM C r j).2 else 0)) → (r - i) < n_45 → va_P D vwC [(ht, .inr (0, [.int (nI r), .ref hc, .ref hf, .ref hp, .ref ho])), (hc, LA cJ 16 C), (hf, LA cJ 16 F3), (hp, LA cJ 16 P1), (ho, LA cJ 5 O1)] H → va_D A [(ht, .inr (0, [.int (nI r), .ref hc, .ref hf, .ref hp, .ref ho])), (hc, LA cJ 16 C), (hf, LA cJ 16 F3), (hp, LA cJ 16 P1), (ho, LA cJ 5 O1)] → va_S A s.heap H locs → lv_has ls 3 [(0, .ref ht), (1, .int (nI (j + 1))), (2, .int (nI i))] → W p l e rm_c_expand s m args below meth c H locs 0 0 Q (F0 m 45 ls []) := by
            intro n_45
            induction n_45 with
            | zero => intro i F3 H locs ls hi hF3 hn_45; exact absurd hn_45 (Nat.not_lt_zero _)
            | succ n_45 ih_45 =>
              intro i F3 H locs ls hi hF3 hn_45 hP hD hS hl
              refine lv_iload_n hx hb d_T_expand_45 rfl (lv_at hl 2 rfl) ?_
              refine lv_aload_n hx hb d_T_expand_46 rfl (lv_at hl 0 rfl) ?_
              refine va_get (D := D) (ci := 0) (v := .int (nI r)) (C := R_T) (T := F_T) (N := 5) hx hb hts iw_T hown hK hP 0 rfl rfl 0 (by decide) (hts _ tw_25) (fun _ h9 => h9) rfl d_T_expand_47 ?_
              refine xn_ge (tgt := 85) hx hb (by omega) (by omega) d_T_expand_50 (by decide) (fun c50_3 => ?_) (fun c50_3 => ?_)
              · skip
                refine lv_aload_n hx hb d_T_expand_85 rfl (lv_at hl 0 rfl) ?_
                refine xcv (wc := [(ht, .inr (0, [.int (nI r), .ref hc, .ref hf, .ref hp, .ref ho])), (hc, LA cJ 16 C), (hf, LA cJ 16 F3), (hp, LA cJ 16 P1), (ho, LA cJ 5 O1)]) (wr := []) hP hD hS hA [0, 1, 2, 3, 4] [] rfl rfl (by decide) (by decide) (va_runV (As := []) (rest := []) ⟨hx, hb, hml, hown, hts⟩ (c_multiply l D cJ ht hc hf hp ho r C F3 P1 O1 (by first | assumption | omega) H.size) (cwV 0 hts (gV tw_110 tw_112 tws_3 tw_2 tw_113) rfl rfl rfl ⟨rfl, hd_T_multiply⟩ ⟨Nat.le_of_ble_eq_true rfl, Nat.le_of_ble_eq_true rfl⟩) (xPreV (C := R_T) (T := F_T) (N := 5) (q0 := 0) hN hK (hP.sub (ws' := [(ht, .inr (0, [.int (nI r), .ref hc, .ref hf, .ref hp, .ref ho])), (hc, LA cJ 16 C), (hf, LA cJ 16 F3), (hp, LA cJ 16 P1), (ho, LA cJ 5 O1)]) [0, 1, 2, 3, 4] rfl) (hD.sub (ws' := [(ht, .inr (0, [.int (nI r), .ref hc, .ref hf, .ref hp, .ref ho])), (hc, LA cJ 16 C), (hf, LA cJ 16 F3), (hp, LA cJ 16 P1), (ho, LA cJ 5 O1)]) [0, 1, 2, 3, 4] (by decide) rfl) rfl rfl) rfl rfl hl.1 rfl (lv_room (Nat.le_of_ble_eq_true rfl)) d_T_expand_86 ⟨Nat.le_of_ble_eq_true rfl, Nat.le_of_ble_eq_true rfl⟩) (fun u_6 H locs hmul hP hD hS => ?_)
                obtain ⟨P4, rfl⟩ : ∃ z, z = u_6 := ⟨_, rfl⟩
                try dsimp only at hmul
                have hP : va_P D vwC [(ht, .inr (0, [.int (nI r), .ref hc, .ref hf, .ref hp, .ref ho])), (hc, LA cJ 16 C), (hf, LA cJ 16 F3), (hp, LA cJ 16 P4), (ho, LA cJ 5 O1)] H := hP
                have hD : va_D A [(ht, .inr (0, [.int (nI r), .ref hc, .ref hf, .ref hp, .ref ho])), (hc, LA cJ 16 C), (hf, LA cJ 16 F3), (hp, LA cJ 16 P4), (ho, LA cJ 5 O1)] := hD
                have hF4 : ∀ a b, a < r → b < r → F3 (4 * a + b) = flF C r j (4 * a + b) := by
                  intro a b ha hb
                  rw [hF3 a b ha hb, hP1 a b ha hb]
                  unfold flF
                  congr 1
                  rw [q4d a (show b < 4 from by omega), q4m a (show b < 4 from by omega)]
                  by_cases q : a = b
                  · rw [if_pos ⟨q, by omega⟩, if_pos q]
                  · rw [if_neg (fun z => q z.1), if_neg q]
                have hP4 : ∀ a b, a < r → b < r → P4 (4 * a + b) = (flM C r (j + 1)).1 (4 * a + b) := by
                  intro a b ha hb
                  rw [hmul a b ha hb, flM_1]
                  show _ = dotN C (flF C r j) ((4 * a + b) / 4) ((4 * a + b) % 4) r
                  rw [q4d a (show b < 4 from by omega), q4m a (show b < 4 from by omega)]
                  exact dotN_congr (fun t ht => hF4 t b ht hb)
                have hdia : diaN P4 r = diaN (flM C r (j + 1)).1 r := diaN_congr (fun t ht => hP4 t t ht ht)
                refine lv_aload_n hx hb d_T_expand_89 rfl (lv_at hl 0 rfl) ?_
                refine va_get (D := D) (ci := 0) (v := .ref ho) (C := R_T) (T := F_T) (N := 5) hx hb hts iw_T hown hK hP 0 rfl rfl 4 (by decide) (hts _ tw_29) (fun _ h9 => h9) rfl d_T_expand_90 ?_
                refine lv_aload_n hx hb d_T_expand_93 rfl (lv_at hl 0 rfl) ?_
                refine va_get (D := D) (ci := 0) (v := .int (nI r)) (C := R_T) (T := F_T) (N := 5) hx hb hts iw_T hown hK hP 0 rfl rfl 0 (by decide) (hts _ tw_25) (fun _ h9 => h9) rfl d_T_expand_94 ?_
                refine lv_iload_n hx hb d_T_expand_97 rfl (lv_at hl 1 rfl) ?_
                refine xn_sub hx hb (by omega) d_T_expand_98 ?_
                refine lv_aload_n hx hb d_T_expand_99 rfl (lv_at hl 0 rfl) ?_
                refine xcl (wc := [(ht, .inr (0, [.int (nI r), .ref hc, .ref hf, .ref hp, .ref ho])), (hc, LA cJ 16 C), (hf, LA cJ 16 F3), (hp, LA cJ 16 P4), (ho, LA cJ 5 O1)]) (wr := []) hP hD hS hA [0, 1, 2, 3, 4] [] rfl rfl (by decide) (by decide) (va_runV (As := []) (rest := [.int (nI (r - (j + 1))), .ref ho]) ⟨hx, hb, hml, hown, hts⟩ (c_diagonal l D cJ ht hc hf hp ho r C F3 P4 O1 (by first | assumption | omega) H.size) (cwV 0 hts (gV tw_114 tw_116 tws_4 tw_2 tw_117) rfl rfl rfl ⟨rfl, hd_T_diagonal⟩ ⟨Nat.le_of_ble_eq_true rfl, Nat.le_of_ble_eq_true rfl⟩) (xPreV (C := R_T) (T := F_T) (N := 5) (q0 := 0) hN hK (hP.sub (ws' := [(ht, .inr (0, [.int (nI r), .ref hc, .ref hf, .ref hp, .ref ho])), (hc, LA cJ 16 C), (hf, LA cJ 16 F3), (hp, LA cJ 16 P4), (ho, LA cJ 5 O1)]) [0, 1, 2, 3, 4] rfl) (hD.sub (ws' := [(ht, .inr (0, [.int (nI r), .ref hc, .ref hf, .ref hp, .ref ho])), (hc, LA cJ 16 C), (hf, LA cJ 16 F3), (hp, LA cJ 16 P4), (ho, LA cJ 5 O1)]) [0, 1, 2, 3, 4] (by decide) rfl) rfl rfl) rfl rfl hl.1 rfl (lv_room (Nat.le_of_ble_eq_true rfl)) d_T_expand_100 ⟨Nat.le_of_ble_eq_true rfl, Nat.le_of_ble_eq_true rfl⟩) (fun r_7 u_8 H locs hw_9 hP hD hS => ?_)
                try dsimp only at hw_9
                have hP : va_P D vwC [(ht, .inr (0, [.int (nI r), .ref hc, .ref hf, .ref hp, .ref ho])), (hc, LA cJ 16 C), (hf, LA cJ 16 F3), (hp, LA cJ 16 P4), (ho, LA cJ 5 O1)] H := hP
                have hD : va_D A [(ht, .inr (0, [.int (nI r), .ref hc, .ref hf, .ref hp, .ref ho])), (hc, LA cJ 16 C), (hf, LA cJ 16 F3), (hp, LA cJ 16 P4), (ho, LA cJ 5 O1)] := hD
                subst hw_9
                refine xl_neg hx hb d_T_expand_103 ?_
                refine lv_iload_n hx hb d_T_expand_104 rfl (lv_at hl 1 rfl) ?_
                refine xn_i2l hx hb (by omega) d_T_expand_105 ?_
                refine xl_div hx hb (by rw [hdia]; exact hq j (by omega)) ⟨by omega, by omega⟩ (by omega) (by omega) d_T_expand_106 ?_
                refine xl_ast hx hb hK hP hD hS 4 0 rfl rfl (k := r - (j + 1)) (by omega) (by first | decide | omega) d_T_expand_107 (fun H locs hP hD hS => ?_)
                have hP : va_P D vwC [(ht, .inr (0, [.int (nI r), .ref hc, .ref hf, .ref hp, .ref ho])), (hc, LA cJ 16 C), (hf, LA cJ 16 F3), (hp, LA cJ 16 P4), (ho, LA cJ 5 (upZ O1 (r - (j + 1)) ((-(diaN P4 r)).tdiv ((j + 1 : Nat) : Int))))] H := hP
                have hD : va_D A [(ht, .inr (0, [.int (nI r), .ref hc, .ref hf, .ref hp, .ref ho])), (hc, LA cJ 16 C), (hf, LA cJ 16 F3), (hp, LA cJ 16 P4), (ho, LA cJ 5 (upZ O1 (r - (j + 1)) ((-(diaN P4 r)).tdiv ((j + 1 : Nat) : Int))))] := hD
                have hO4 : ∀ i, i ≤ j + 1 → (upZ O1 (r - (j + 1)) ((-(diaN P4 r)).tdiv ((j + 1 : Nat) : Int))) (r - i) = (flM C r i).2 := by
                  intro i hi
                  by_cases q : i = j + 1
                  · rw [q, upZ_at, hdia]; rfl
                  · rw [upZ_ne (k := r - (j + 1)) (j := r - i) _ _ (by omega)]; exact hO1 i (by omega)
                refine lv_iinc (v := nI ((j + 1) + 1)) (lv' := [(1, .int (nI ((j + 1) + 1))), (0, .ref ht), (2, .int (nI i))]) hx hb d_T_expand_108 hl (k := 1) rfl (nI_add _ _) (by decide) rfl (fun ls hl => ?_)
                refine lv_goto (tgt := 20) hx hb d_T_expand_111 (by decide) ?_
                exact ih_20 (j + 1) F3 P4 (upZ O1 (r - (j + 1)) ((-(diaN P4 r)).tdiv ((j + 1 : Nat) : Int))) H locs ls (by omega) (fun a b ha hb => hP4 a b ha hb) (fun i hi => hO4 i hi) (fun _ a b ha hb => hF4 a b ha hb) (by omega) hP hD hS (lv_sub hl [1, 0] rfl)
              · skip
                refine lv_aload_n hx hb d_T_expand_53 rfl (lv_at hl 0 rfl) ?_
                refine va_get (D := D) (ci := 0) (v := .ref hf) (C := R_T) (T := F_T) (N := 5) hx hb hts iw_T hown hK hP 0 rfl rfl 2 (by decide) (hts _ tw_27) (fun _ h9 => h9) rfl d_T_expand_54 ?_
                refine lv_iload_n hx hb d_T_expand_57 rfl (lv_at hl 2 rfl) ?_
                refine lv_iload_n hx hb d_T_expand_58 rfl (lv_at hl 2 rfl) ?_
                refine xci (wc := []) (wr := [(ht, .inr (0, [.int (nI r), .ref hc, .ref hf, .ref hp, .ref ho])), (hc, LA cJ 16 C), (hf, LA cJ 16 F3), (hp, LA cJ 16 P1), (ho, LA cJ 5 O1)]) hP hD hS hA [] [0, 1, 2, 3, 4] rfl rfl (by decide) (by decide) (va_runSN (As := [.int (nI i), .int (nI i)]) (rest := [.ref hf]) ⟨hx, hb, hml, hown, hts⟩ (c_place l D cJ i i H.size) ⟨va_cnB 2 hts (gN tw_88) rfl rfl rfl hN.1 (hts _ tw_1) hd_K_place ⟨Nat.le_of_ble_eq_true rfl, Nat.le_of_ble_eq_true rfl⟩, (hts _ tw_87), trivial⟩ (xPreS hN hK (hP.sub (ws' := []) [] rfl) (hD.sub (ws' := []) [] (by decide) rfl)) rfl rfl hl.1 rfl (lv_room (Nat.le_of_ble_eq_true rfl)) d_T_expand_59 ⟨Nat.le_of_ble_eq_true rfl, Nat.le_of_ble_eq_true rfl⟩) (fun r_10 u_11 H locs hw_12 hP hD hS => ?_)
                try dsimp only at hw_12
                have hP : va_P D vwC [(ht, .inr (0, [.int (nI r), .ref hc, .ref hf, .ref hp, .ref ho])), (hc, LA cJ 16 C), (hf, LA cJ 16 F3), (hp, LA cJ 16 P1), (ho, LA cJ 5 O1)] H := hP
                have hD : va_D A [(ht, .inr (0, [.int (nI r), .ref hc, .ref hf, .ref hp, .ref ho])), (hc, LA cJ 16 C), (hf, LA cJ 16 F3), (hp, LA cJ 16 P1), (ho, LA cJ 5 O1)] := hD
                subst hw_12
                refine lv_dup2_11 hx hb d_T_expand_62 rfl rfl ?_
                refine xl_ald hx hb hK hP 2 0 rfl rfl (k := 4 * i + i) (by omega) (by first | decide | omega) d_T_expand_63 ?_
                refine lv_aload_n hx hb d_T_expand_64 rfl (lv_at hl 0 rfl) ?_
                refine va_get (D := D) (ci := 0) (v := .ref ho) (C := R_T) (T := F_T) (N := 5) hx hb hts iw_T hown hK hP 0 rfl rfl 4 (by decide) (hts _ tw_29) (fun _ h9 => h9) rfl d_T_expand_65 ?_
                refine lv_aload_n hx hb d_T_expand_68 rfl (lv_at hl 0 rfl) ?_
                refine va_get (D := D) (ci := 0) (v := .int (nI r)) (C := R_T) (T := F_T) (N := 5) hx hb hts iw_T hown hK hP 0 rfl rfl 0 (by decide) (hts _ tw_25) (fun _ h9 => h9) rfl d_T_expand_69 ?_
                refine lv_iload_n hx hb d_T_expand_72 rfl (lv_at hl 1 rfl) ?_
                refine xn_sub hx hb (by omega) d_T_expand_73 ?_
                refine lv_iconst (v := nI 1) hx hb d_T_expand_74 (by decide) ?_
                refine xn_add hx hb d_T_expand_75 ?_
                refine xl_ald hx hb hK hP 4 0 rfl rfl (k := (r - (j + 1)) + 1) (by omega) (by first | decide | omega) d_T_expand_76 ?_
                refine xl_add hx hb d_T_expand_77 ?_
                refine xl_ast hx hb hK hP hD hS 2 0 rfl rfl (k := 4 * i + i) (by omega) (by first | decide | omega) d_T_expand_78 (fun H locs hP hD hS => ?_)
                have hP : va_P D vwC [(ht, .inr (0, [.int (nI r), .ref hc, .ref hf, .ref hp, .ref ho])), (hc, LA cJ 16 C), (hf, LA cJ 16 (upZ F3 (4 * i + i) ((F3 (4 * i + i)) + (O1 ((r - (j + 1)) + 1))))), (hp, LA cJ 16 P1), (ho, LA cJ 5 O1)] H := hP
                have hD : va_D A [(ht, .inr (0, [.int (nI r), .ref hc, .ref hf, .ref hp, .ref ho])), (hc, LA cJ 16 C), (hf, LA cJ 16 (upZ F3 (4 * i + i) ((F3 (4 * i + i)) + (O1 ((r - (j + 1)) + 1))))), (hp, LA cJ 16 P1), (ho, LA cJ 5 O1)] := hD
                have hF3s : ∀ a b, a < r → b < r → (upZ F3 (4 * i + i) ((F3 (4 * i + i)) + (O1 ((r - (j + 1)) + 1)))) (4 * a + b) = P1 (4 * a + b) + (if a = b ∧ a < i + 1 then (flM C r j).2 else 0) := by
                  intro a b ha hb
                  by_cases q : a = i ∧ b = i
                  · obtain ⟨rfl, rfl⟩ := q
                    rw [upZ_at, if_pos (by omega), hF3 _ _ ha hb, if_neg (by omega), Int.add_zero, ← hO1 j (Nat.le_refl _), show r - (j + 1) + 1 = r - j from by omega]
                  · rw [upZ_ne (k := 4 * i + i) (j := 4 * a + b) _ _ (by omega), hF3 a b ha hb]
                    congr 1
                    by_cases q2 : a = b ∧ a < i
                    · rw [if_pos q2, if_pos ⟨q2.1, by omega⟩]
                    · rw [if_neg q2, if_neg (by omega)]
                refine lv_iinc (v := nI (i + 1)) (lv' := [(2, .int (nI (i + 1))), (0, .ref ht), (1, .int (nI (j + 1)))]) hx hb d_T_expand_79 hl (k := 2) rfl (nI_add _ _) (by decide) rfl (fun ls hl => ?_)
                refine lv_goto (tgt := 45) hx hb d_T_expand_82 (by decide) ?_
                exact ih_45 (i + 1) (upZ F3 (4 * i + i) ((F3 (4 * i + i)) + (O1 ((r - (j + 1)) + 1)))) H locs ls (by omega) (fun a b ha hb => by exact hF3s a b ha hb) (by omega) hP hD hS (lv_sub hl [1, 2, 0] rfl)
          exact lp_45 ((r - 0) + 1) 0 (cpZ P1 F1 16) H locs ls (Nat.zero_le _) (fun a b ha hb => by rw [cpZ_lt _ _ (show 4 * a + b < 16 from by omega), if_neg (by omega), Int.add_zero]) (by omega) hP hD hS (lv_sub hl [1, 2, 0] rfl)
    exact lp_20 ((r - 0) + 1) 0 F P0 (upZ O r 1) H locs ls (Nat.zero_le _) (fun a b ha hb => hfill _ (by omega)) (fun i hi => by rw [show i = 0 from by omega]; exact upZ_at _ _ _) (fun h => absurd h (by decide)) (by omega) hP hD hS (lv_sub hl [1, 0] rfl)
  rw [hH, hlc] at key; exact key

def rm_c_load : Room := { frames := 3, cells := 0, slots := 0, locals := 82 }
set_option maxHeartbeats 4000000 in
set_option maxRecDepth 100000 in
/-- a part of the source, its polynomial, its adjugate -/
theorem c_load (l : Launch) (D : va_G) (cJ : ClassId) (ht : Nat) (hc : Nat) (hf : Nat) (hp : Nat) (ho : Nat) (hs : Nat) (f : Nat) (g : Nat) (r : Nat) (r0 : Int32) (C : Nat → Int) (F : Nat → Int) (P : Nat → Int) (O : Nat → Int) (S : Nat → Int) (hg : g + 1 = f + r) (hr1 : 1 ≤ r) (hg3 : g ≤ 3) (hq : ∀ C2 : Nat → Int, (∀ a b, a < r → b < r → C2 (4 * a + b) = S (4 * (f + a) + (f + b))) → ∀ k, k < r → lB (-(diaN (flM C2 r (k + 1)).1 r))) (sz : Nat) : xMv l y_T_load (Cond.code y_T_load b_T_load 6 none :: tW) rm_c_load [.ref ht, .ref hs, .int (nI f), .int (nI g)] D vwC [(cJ, .long)] sz [(ht, .inr (0, [.int r0, .ref hc, .ref hf, .ref hp, .ref ho])), (hc, LA cJ 16 C), (hf, LA cJ 16 F), (hp, LA cJ 16 P), (ho, LA cJ 5 O), (hs, LA cJ 16 S)] (fun (uo : (Nat → Int) × (Nat → Int) × (Nat → Int) × (Nat → Int)) => (∀ a b, a < r → b < r → uo.1 (4 * a + b) = S (4 * (f + a) + (f + b))) ∧ flOK uo.1 r uo.2.1 uo.2.2.2) (fun (uo : (Nat → Int) × (Nat → Int) × (Nat → Int) × (Nat → Int)) => [(ht, .inr (0, [.int (nI r), .ref hc, .ref hf, .ref hp, .ref ho])), (hc, LA cJ 16 uo.1), (hf, LA cJ 16 uo.2.1), (hp, LA cJ 16 uo.2.2.1), (ho, LA cJ 5 uo.2.2.2), (hs, LA cJ 16 S)]) 0 0 := by
  refine xov (cc := b_T_load) (maxL := 6) (by decide) rfl (Nat.le_of_ble_eq_true rfl) ?_
  intro p e s m args below meth c Q A hx hb hml hts hown hN hA hS hP hK hD hret ls hl
  have hl : lv_has ls 6 [(0, .ref ht), (1, .ref hs), (2, .int (nI f)), (3, .int (nI g))] := hl
  obtain ⟨H, hH⟩ : ∃ z, z = s.heap := ⟨_, rfl⟩
  obtain ⟨locs, hlc⟩ : ∃ z : List Loc, z = [] := ⟨_, rfl⟩
  rw [← hH] at hP
  have hS : va_S A s.heap H locs := by rw [hH, hlc]; exact hS
  have key : W p l e rm_c_load s m args below meth c H locs 0 0 Q (F0 m 0 ls []) := by
    refine lv_aload_n hx hb d_T_load_0 rfl (lv_at hl 0 rfl) ?_
    refine lv_iload_n hx hb d_T_load_1 rfl (lv_at hl 3 rfl) ?_
    refine lv_iload_n hx hb d_T_load_2 rfl (lv_at hl 2 rfl) ?_
    refine xn_sub hx hb (by omega) d_T_load_3 ?_
    refine lv_iconst (v := nI 1) hx hb d_T_load_4 (by decide) ?_
    refine xn_add hx hb d_T_load_5 ?_
    rw [show g - f + 1 = r from by omega]
    refine va_put (D := D) (ci := 0) (v := .int (nI r)) (ty := .int) (C := R_T) (T := F_T) (N := 5) hx hb hts iw_T ft_T ft_T_ok n_T hown hK hP hD hS 0 rfl rfl 0 (by decide) (hts _ tw_25) (fun _ h9 => h9) rfl (by decide +kernel) rfl rfl (Nat.le_of_ble_eq_true rfl) d_T_load_6 (fun H locs hP hD hS => ?_)
    have hP : va_P D vwC [(ht, .inr (0, [.int (nI r), .ref hc, .ref hf, .ref hp, .ref ho])), (hc, LA cJ 16 C), (hf, LA cJ 16 F), (hp, LA cJ 16 P), (ho, LA cJ 5 O), (hs, LA cJ 16 S)] H := hP
    have hD : va_D A [(ht, .inr (0, [.int (nI r), .ref hc, .ref hf, .ref hp, .ref ho])), (hc, LA cJ 16 C), (hf, LA cJ 16 F), (hp, LA cJ 16 P), (ho, LA cJ 5 O), (hs, LA cJ 16 S)] := hD
    refine lv_iconst (v := nI 0) hx hb d_T_load_9 (by decide) ?_
    refine lv_istore (lv' := [(4, .int (nI 0)), (0, .ref ht), (1, .ref hs), (2, .int (nI f)), (3, .int (nI g))]) hx hb d_T_load_10 hl (by decide) rfl (fun ls hl => ?_)
    have lp_12 : ∀ (n_12 : Nat) (i : Nat) (C1 : Nat → Int) (H : Heap) (locs : List Loc) (ls : Array Slot), (i ≤ r) → (∀ a b, a < i → b < r → C1 (4 * a + b) = S (4 * (f + a) + (f + b))) → (r - i) < n_12 → va_P D vwC [(ht, .inr (0, [.int (nI r), .ref hc, .ref hf, .ref hp, .ref ho])), (hc, LA cJ 16 C1), (hf, LA cJ 16 F), (hp, LA cJ 16 P), (ho, LA cJ 5 O), (hs, LA cJ 16 S)] H → va_D A [(ht, .inr (0, [.int (nI r), .ref hc, .ref hf, .ref hp, .ref ho])), (hc, LA cJ 16 C1), (hf, LA cJ 16 F), (hp, LA cJ 16 P), (ho, LA cJ 5 O), (hs, LA cJ 16 S)] → va_S A s.heap H locs → lv_has ls 6 [(0, .ref ht), (1, .ref hs), (2, .int (nI f)), (3, .int (nI g)), (4, .int (nI i))] → W p l e rm_c_load s m args below meth c H locs 0 0 Q (F0 m 12 ls []) := by
      intro n_12
      induction n_12 with
      | zero => intro i C1 H locs ls hi h1 hn_12; exact absurd hn_12 (Nat.not_lt_zero _)
      | succ n_12 ih_12 =>
        intro i C1 H locs ls hi h1 hn_12 hP hD hS hl
        refine lv_iload hx hb d_T_load_12 (lv_at hl 4 rfl) ?_
        refine lv_aload_n hx hb d_T_load_14 rfl (lv_at hl 0 rfl) ?_
        refine va_get (D := D) (ci := 0) (v := .int (nI r)) (C := R_T) (T := F_T) (N := 5) hx hb hts iw_T hown hK hP 0 rfl rfl 0 (by decide) (hts _ tw_25) (fun _ h9 => h9) rfl d_T_load_15 ?_
        refine xn_ge (tgt := 70) hx hb (by omega) (by omega) d_T_load_18 (by decide) (fun c18_0 => ?_) (fun c18_0 => ?_)
        · skip
          refine lv_aload_n hx hb d_T_load_70 rfl (lv_at hl 0 rfl) ?_
          refine xcv (wc := [(ht, .inr (0, [.int (nI r), .ref hc, .ref hf, .ref hp, .ref ho])), (hc, LA cJ 16 C1), (hf, LA cJ 16 F), (hp, LA cJ 16 P), (ho, LA cJ 5 O)]) (wr := [(hs, LA cJ 16 S)]) hP hD hS hA [0, 1, 2, 3, 4] [5] rfl rfl (by decide) (by decide) (va_runV (As := []) (rest := []) ⟨hx, hb, hml, hown, hts⟩ (c_expand l D cJ ht hc hf hp ho r C1 F P O (by first | assumption | omega) (by first | assumption | omega) (hq C1 (fun a b ha hb => h1 a b (by omega) hb)) H.size) (cwV 0 hts (gV tw_102 tw_104 tws_2 tw_2 tw_105) rfl rfl rfl ⟨rfl, hd_T_expand⟩ ⟨Nat.le_of_ble_eq_true rfl, Nat.le_of_ble_eq_true rfl⟩) (xPreV (C := R_T) (T := F_T) (N := 5) (q0 := 0) hN hK (hP.sub (ws' := [(ht, .inr (0, [.int (nI r), .ref hc, .ref hf, .ref hp, .ref ho])), (hc, LA cJ 16 C1), (hf, LA cJ 16 F), (hp, LA cJ 16 P), (ho, LA cJ 5 O)]) [0, 1, 2, 3, 4] rfl) (hD.sub (ws' := [(ht, .inr (0, [.int (nI r), .ref hc, .ref hf, .ref hp, .ref ho])), (hc, LA cJ 16 C1), (hf, LA cJ 16 F), (hp, LA cJ 16 P), (ho, LA cJ 5 O)]) [0, 1, 2, 3, 4] (by decide) rfl) rfl rfl) rfl rfl hl.1 rfl (lv_room (Nat.le_of_ble_eq_true rfl)) d_T_load_71 ⟨Nat.le_of_ble_eq_true rfl, Nat.le_of_ble_eq_true rfl⟩) (fun u_3 H locs hexp hP hD hS => ?_)
          obtain ⟨F5, P5, O5⟩ := u_3
          try dsimp only at hexp
          have hP : va_P D vwC [(ht, .inr (0, [.int (nI r), .ref hc, .ref hf, .ref hp, .ref ho])), (hc, LA cJ 16 C1), (hf, LA cJ 16 F5), (hp, LA cJ 16 P5), (ho, LA cJ 5 O5), (hs, LA cJ 16 S)] H := hP.sub [1, 2, 3, 4, 5, 0] rfl
          have hD : va_D A [(ht, .inr (0, [.int (nI r), .ref hc, .ref hf, .ref hp, .ref ho])), (hc, LA cJ 16 C1), (hf, LA cJ 16 F5), (hp, LA cJ 16 P5), (ho, LA cJ 5 O5), (hs, LA cJ 16 S)] := hD.sub [1, 2, 3, 4, 5, 0] (by decide) rfl
          exact hret H locs _ ls (C1, F5, P5, O5) d_T_load_74 ⟨fun a b ha hb => h1 a b (by omega) hb, hexp⟩ hP hD hS
        · skip
          refine lv_iconst (v := nI 0) hx hb d_T_load_21 (by decide) ?_
          refine lv_istore (lv' := [(5, .int (nI 0)), (0, .ref ht), (1, .ref hs), (2, .int (nI f)), (3, .int (nI g)), (4, .int (nI i))]) hx hb d_T_load_22 hl (by decide) rfl (fun ls hl => ?_)
          have lp_24 : ∀ (n_24 : Nat) (j : Nat) (C3 : Nat → Int) (H : Heap) (locs : List Loc) (ls : Array Slot), (j ≤ r) → (∀ a b, (a < i ∧ b < r) ∨ (a = i ∧ b < j) → C3 (4 * a + b) = S (4 * (f + a) + (f + b))) → (r - j) < n_24 → va_P D vwC [(ht, .inr (0, [.int (nI r), .ref hc, .ref hf, .ref hp, .ref ho])), (hc, LA cJ 16 C3), (hf, LA cJ 16 F), (hp, LA cJ 16 P), (ho, LA cJ 5 O), (hs, LA cJ 16 S)] H → va_D A [(ht, .inr (0, [.int (nI r), .ref hc, .ref hf, .ref hp, .ref ho])), (hc, LA cJ 16 C3), (hf, LA cJ 16 F), (hp, LA cJ 16 P), (ho, LA cJ 5 O), (hs, LA cJ 16 S)] → va_S A s.heap H locs → lv_has ls 6 [(0, .ref ht), (1, .ref hs), (2, .int (nI f)), (3, .int (nI g)), (4, .int (nI i)), (5, .int (nI j))] → W p l e rm_c_load s m args below meth c H locs 0 0 Q (F0 m 24 ls []) := by
            intro n_24
            induction n_24 with
            | zero => intro j C3 H locs ls hj h2 hn_24; exact absurd hn_24 (Nat.not_lt_zero _)
            | succ n_24 ih_24 =>
              intro j C3 H locs ls hj h2 hn_24 hP hD hS hl
              refine lv_iload hx hb d_T_load_24 (lv_at hl 5 rfl) ?_
              refine lv_aload_n hx hb d_T_load_26 rfl (lv_at hl 0 rfl) ?_
              refine va_get (D := D) (ci := 0) (v := .int (nI r)) (C := R_T) (T := F_T) (N := 5) hx hb hts iw_T hown hK hP 0 rfl rfl 0 (by decide) (hts _ tw_25) (fun _ h9 => h9) rfl d_T_load_27 ?_
              refine xn_ge (tgt := 64) hx hb (by omega) (by omega) d_T_load_30 (by decide) (fun c30_3 => ?_) (fun c30_3 => ?_)
              · skip
                refine lv_iinc (v := nI (i + 1)) (lv' := [(4, .int (nI (i + 1))), (0, .ref ht), (1, .ref hs), (2, .int (nI f)), (3, .int (nI g)), (5, .int (nI j))]) hx hb d_T_load_64 hl (k := 4) rfl (nI_add _ _) (by decide) rfl (fun ls hl => ?_)
                refine lv_goto (tgt := 12) hx hb d_T_load_67 (by decide) ?_
                exact ih_12 (i + 1) C3 H locs ls (by omega) (fun a b ha hb => h2 a b (by omega)) (by omega) hP hD hS (lv_sub hl [1, 2, 3, 4, 0] rfl)
              · skip
                refine lv_aload_n hx hb d_T_load_33 rfl (lv_at hl 0 rfl) ?_
                refine va_get (D := D) (ci := 0) (v := .ref hc) (C := R_T) (T := F_T) (N := 5) hx hb hts iw_T hown hK hP 0 rfl rfl 1 (by decide) (hts _ tw_26) (fun _ h9 => h9) rfl d_T_load_34 ?_
                refine lv_iload hx hb d_T_load_37 (lv_at hl 4 rfl) ?_
                refine lv_iload hx hb d_T_load_39 (lv_at hl 5 rfl) ?_
                refine xci (wc := []) (wr := [(ht, .inr (0, [.int (nI r), .ref hc, .ref hf, .ref hp, .ref ho])), (hc, LA cJ 16 C3), (hf, LA cJ 16 F), (hp, LA cJ 16 P), (ho, LA cJ 5 O), (hs, LA cJ 16 S)]) hP hD hS hA [] [0, 1, 2, 3, 4, 5] rfl rfl (by decide) (by decide) (va_runSN (As := [.int (nI i), .int (nI j)]) (rest := [.ref hc]) ⟨hx, hb, hml, hown, hts⟩ (c_place l D cJ i j H.size) ⟨va_cnB 2 hts (gN tw_88) rfl rfl rfl hN.1 (hts _ tw_1) hd_K_place ⟨Nat.le_of_ble_eq_true rfl, Nat.le_of_ble_eq_true rfl⟩, (hts _ tw_87), trivial⟩ (xPreS hN hK (hP.sub (ws' := []) [] rfl) (hD.sub (ws' := []) [] (by decide) rfl)) rfl rfl hl.1 rfl (lv_room (Nat.le_of_ble_eq_true rfl)) d_T_load_41 ⟨Nat.le_of_ble_eq_true rfl, Nat.le_of_ble_eq_true rfl⟩) (fun r_5 u_6 H locs hw_7 hP hD hS => ?_)
                try dsimp only at hw_7
                have hP : va_P D vwC [(ht, .inr (0, [.int (nI r), .ref hc, .ref hf, .ref hp, .ref ho])), (hc, LA cJ 16 C3), (hf, LA cJ 16 F), (hp, LA cJ 16 P), (ho, LA cJ 5 O), (hs, LA cJ 16 S)] H := hP
                have hD : va_D A [(ht, .inr (0, [.int (nI r), .ref hc, .ref hf, .ref hp, .ref ho])), (hc, LA cJ 16 C3), (hf, LA cJ 16 F), (hp, LA cJ 16 P), (ho, LA cJ 5 O), (hs, LA cJ 16 S)] := hD
                subst hw_7
                refine lv_aload_n hx hb d_T_load_44 rfl (lv_at hl 1 rfl) ?_
                refine lv_iload_n hx hb d_T_load_45 rfl (lv_at hl 2 rfl) ?_
                refine lv_iload hx hb d_T_load_46 (lv_at hl 4 rfl) ?_
                refine xn_add hx hb d_T_load_48 ?_
                refine lv_iload_n hx hb d_T_load_49 rfl (lv_at hl 2 rfl) ?_
                refine lv_iload hx hb d_T_load_50 (lv_at hl 5 rfl) ?_
                refine xn_add hx hb d_T_load_52 ?_
                refine xci (wc := []) (wr := [(ht, .inr (0, [.int (nI r), .ref hc, .ref hf, .ref hp, .ref ho])), (hc, LA cJ 16 C3), (hf, LA cJ 16 F), (hp, LA cJ 16 P), (ho, LA cJ 5 O), (hs, LA cJ 16 S)]) hP hD hS hA [] [0, 1, 2, 3, 4, 5] rfl rfl (by decide) (by decide) (va_runSN (As := [.int (nI (f + i)), .int (nI (f + j))]) (rest := [.ref hs, .int (nI (4 * i + j)), .ref hc]) ⟨hx, hb, hml, hown, hts⟩ (c_place l D cJ (f + i) (f + j) H.size) ⟨va_cnB 2 hts (gN tw_88) rfl rfl rfl hN.1 (hts _ tw_1) hd_K_place ⟨Nat.le_of_ble_eq_true rfl, Nat.le_of_ble_eq_true rfl⟩, (hts _ tw_87), trivial⟩ (xPreS hN hK (hP.sub (ws' := []) [] rfl) (hD.sub (ws' := []) [] (by decide) rfl)) rfl rfl hl.1 rfl (lv_room (Nat.le_of_ble_eq_true rfl)) d_T_load_53 ⟨Nat.le_of_ble_eq_true rfl, Nat.le_of_ble_eq_true rfl⟩) (fun r_8 u_9 H locs hw_10 hP hD hS => ?_)
                try dsimp only at hw_10
                have hP : va_P D vwC [(ht, .inr (0, [.int (nI r), .ref hc, .ref hf, .ref hp, .ref ho])), (hc, LA cJ 16 C3), (hf, LA cJ 16 F), (hp, LA cJ 16 P), (ho, LA cJ 5 O), (hs, LA cJ 16 S)] H := hP
                have hD : va_D A [(ht, .inr (0, [.int (nI r), .ref hc, .ref hf, .ref hp, .ref ho])), (hc, LA cJ 16 C3), (hf, LA cJ 16 F), (hp, LA cJ 16 P), (ho, LA cJ 5 O), (hs, LA cJ 16 S)] := hD
                subst hw_10
                refine xl_ald hx hb hK hP 5 0 rfl rfl (k := 4 * (f + i) + (f + j)) (by omega) (by first | decide | omega) d_T_load_56 ?_
                refine xl_ast hx hb hK hP hD hS 1 0 rfl rfl (k := 4 * i + j) (by omega) (by first | decide | omega) d_T_load_57 (fun H locs hP hD hS => ?_)
                have hP : va_P D vwC [(ht, .inr (0, [.int (nI r), .ref hc, .ref hf, .ref hp, .ref ho])), (hc, LA cJ 16 (upZ C3 (4 * i + j) (S (4 * (f + i) + (f + j))))), (hf, LA cJ 16 F), (hp, LA cJ 16 P), (ho, LA cJ 5 O), (hs, LA cJ 16 S)] H := hP
                have hD : va_D A [(ht, .inr (0, [.int (nI r), .ref hc, .ref hf, .ref hp, .ref ho])), (hc, LA cJ 16 (upZ C3 (4 * i + j) (S (4 * (f + i) + (f + j))))), (hf, LA cJ 16 F), (hp, LA cJ 16 P), (ho, LA cJ 5 O), (hs, LA cJ 16 S)] := hD
                refine lv_iinc (v := nI (j + 1)) (lv' := [(5, .int (nI (j + 1))), (0, .ref ht), (1, .ref hs), (2, .int (nI f)), (3, .int (nI g)), (4, .int (nI i))]) hx hb d_T_load_58 hl (k := 5) rfl (nI_add _ _) (by decide) rfl (fun ls hl => ?_)
                refine lv_goto (tgt := 24) hx hb d_T_load_61 (by decide) ?_
                exact ih_24 (j + 1) (upZ C3 (4 * i + j) (S (4 * (f + i) + (f + j)))) H locs ls (by omega) (fun a b h => by by_cases q : a = i ∧ b = j; obtain ⟨rfl, rfl⟩ := q; rw [upZ_at]; rw [upZ_ne (k := 4 * i + j) (j := 4 * a + b) _ _ (by omega)]; exact h2 a b (by omega)) (by omega) hP hD hS (lv_sub hl [1, 2, 3, 4, 5, 0] rfl)
          exact lp_24 ((r - 0) + 1) 0 C1 H locs ls (Nat.zero_le _) (fun a b h => h1 a b (by omega) (by omega)) (by omega) hP hD hS (lv_sub hl [1, 2, 3, 4, 5, 0] rfl)
    exact lp_12 ((r - 0) + 1) 0 C H locs ls (Nat.zero_le _) (fun a b h => absurd h (Nat.not_lt_zero _)) (by omega) hP hD hS (lv_sub hl [1, 2, 3, 4, 0] rfl)
  rw [hH, hlc] at key; exact key

def rm_c_adjugate : Room := { frames := 1, cells := 0, slots := 0, locals := 21 }
set_option maxHeartbeats 4000000 in
set_option maxRecDepth 100000 in
/-- the factor but for its sign -/
theorem c_adjugate (l : Launch) (D : va_G) (cJ : ClassId) (ht : Nat) (hc : Nat) (hf : Nat) (hp : Nat) (ho : Nat) (r : Nat) (C : Nat → Int) (F : Nat → Int) (P : Nat → Int) (O : Nat → Int) (i : Nat) (j : Nat) (hr : r ≤ 4) (hi : i < 4) (hj : j < 4) (sz : Nat) : xMl l y_T_adjugate (Cond.code y_T_adjugate b_T_adjugate 3 (some .long) :: tW) rm_c_adjugate [.ref ht, .int (nI i), .int (nI j)] D vwC [(cJ, .long)] sz [(ht, .inr (0, [.int (nI r), .ref hc, .ref hf, .ref hp, .ref ho])), (hc, LA cJ 16 C), (hf, LA cJ 16 F), (hp, LA cJ 16 P), (ho, LA cJ 5 O)] (fun (rv : Int64) (_ : Unit) => rv = lI (if r % 2 = 0 then -(F (4 * i + j)) else F (4 * i + j))) (fun (_ : Unit) => [(ht, .inr (0, [.int (nI r), .ref hc, .ref hf, .ref hp, .ref ho])), (hc, LA cJ 16 C), (hf, LA cJ 16 F), (hp, LA cJ 16 P), (ho, LA cJ 5 O)]) 0 0 := by
  refine xol (cc := b_T_adjugate) (maxL := 3) (by decide) rfl (Nat.le_of_ble_eq_true rfl) ?_
  intro p e s m args below meth c Q A hx hb hml hts hown hN hA hS hP hK hD hret ls hl
  have hl : lv_has ls 3 [(0, .ref ht), (1, .int (nI i)), (2, .int (nI j))] := hl
  obtain ⟨H, hH⟩ : ∃ z, z = s.heap := ⟨_, rfl⟩
  obtain ⟨locs, hlc⟩ : ∃ z : List Loc, z = [] := ⟨_, rfl⟩
  rw [← hH] at hP
  have hS : va_S A s.heap H locs := by rw [hH, hlc]; exact hS
  have key : W p l e rm_c_adjugate s m args below meth c H locs 0 0 Q (F0 m 0 ls []) := by
    refine lv_aload_n hx hb d_T_adjugate_0 rfl (lv_at hl 0 rfl) ?_
    refine va_get (D := D) (ci := 0) (v := .int (nI r)) (C := R_T) (T := F_T) (N := 5) hx hb hts iw_T hown hK hP 0 rfl rfl 0 (by decide) (hts _ tw_25) (fun _ h9 => h9) rfl d_T_adjugate_1 ?_
    refine lv_iconst (v := nI 2) hx hb d_T_adjugate_4 (by decide) ?_
    refine xn_rem hx hb (by omega) (by omega) (by omega) d_T_adjugate_5 ?_
    refine xz_ne (tgt := 23) (X := (r % 2 : Nat)) hx hb (nI_toInt (by omega)) d_T_adjugate_6 (by decide) (fun c6_0 => ?_) (fun c6_0 => ?_)
    · skip
      refine lv_aload_n hx hb d_T_adjugate_23 rfl (lv_at hl 0 rfl) ?_
      refine va_get (D := D) (ci := 0) (v := .ref hf) (C := R_T) (T := F_T) (N := 5) hx hb hts iw_T hown hK hP 0 rfl rfl 2 (by decide) (hts _ tw_27) (fun _ h9 => h9) rfl d_T_adjugate_24 ?_
      refine lv_iload_n hx hb d_T_adjugate_27 rfl (lv_at hl 1 rfl) ?_
      refine lv_iload_n hx hb d_T_adjugate_28 rfl (lv_at hl 2 rfl) ?_
      refine xci (wc := []) (wr := [(ht, .inr (0, [.int (nI r), .ref hc, .ref hf, .ref hp, .ref ho])), (hc, LA cJ 16 C), (hf, LA cJ 16 F), (hp, LA cJ 16 P), (ho, LA cJ 5 O)]) hP hD hS hA [] [0, 1, 2, 3, 4] rfl rfl (by decide) (by decide) (va_runSN (As := [.int (nI i), .int (nI j)]) (rest := [.ref hf]) ⟨hx, hb, hml, hown, hts⟩ (c_place l D cJ i j H.size) ⟨va_cnB 2 hts (gN tw_88) rfl rfl rfl hN.1 (hts _ tw_1) hd_K_place ⟨Nat.le_of_ble_eq_true rfl, Nat.le_of_ble_eq_true rfl⟩, (hts _ tw_87), trivial⟩ (xPreS hN hK (hP.sub (ws' := []) [] rfl) (hD.sub (ws' := []) [] (by decide) rfl)) rfl rfl hl.1 rfl (lv_room (Nat.le_of_ble_eq_true rfl)) d_T_adjugate_29 ⟨Nat.le_of_ble_eq_true rfl, Nat.le_of_ble_eq_true rfl⟩) (fun r_2 u_3 H locs hw_4 hP hD hS => ?_)
      try dsimp only at hw_4
      have hP : va_P D vwC [(ht, .inr (0, [.int (nI r), .ref hc, .ref hf, .ref hp, .ref ho])), (hc, LA cJ 16 C), (hf, LA cJ 16 F), (hp, LA cJ 16 P), (ho, LA cJ 5 O)] H := hP
      have hD : va_D A [(ht, .inr (0, [.int (nI r), .ref hc, .ref hf, .ref hp, .ref ho])), (hc, LA cJ 16 C), (hf, LA cJ 16 F), (hp, LA cJ 16 P), (ho, LA cJ 5 O)] := hD
      subst hw_4
      refine xl_ald hx hb hK hP 2 0 rfl rfl (k := 4 * i + j) (by omega) (by first | decide | omega) d_T_adjugate_32 ?_
      exact hret H locs _ ls (lI (F (4 * i + j))) () d_T_adjugate_33 (by first | rw [if_pos (show r % 2 = 0 from by omega)] | rw [if_neg (show ¬ r % 2 = 0 from by omega)]) hP hD hS
    · skip
      refine lv_aload_n hx hb d_T_adjugate_9 rfl (lv_at hl 0 rfl) ?_
      refine va_get (D := D) (ci := 0) (v := .ref hf) (C := R_T) (T := F_T) (N := 5) hx hb hts iw_T hown hK hP 0 rfl rfl 2 (by decide) (hts _ tw_27) (fun _ h9 => h9) rfl d_T_adjugate_10 ?_
      refine lv_iload_n hx hb d_T_adjugate_13 rfl (lv_at hl 1 rfl) ?_
      refine lv_iload_n hx hb d_T_adjugate_14 rfl (lv_at hl 2 rfl) ?_
      refine xci (wc := []) (wr := [(ht, .inr (0, [.int (nI r), .ref hc, .ref hf, .ref hp, .ref ho])), (hc, LA cJ 16 C), (hf, LA cJ 16 F), (hp, LA cJ 16 P), (ho, LA cJ 5 O)]) hP hD hS hA [] [0, 1, 2, 3, 4] rfl rfl (by decide) (by decide) (va_runSN (As := [.int (nI i), .int (nI j)]) (rest := [.ref hf]) ⟨hx, hb, hml, hown, hts⟩ (c_place l D cJ i j H.size) ⟨va_cnB 2 hts (gN tw_88) rfl rfl rfl hN.1 (hts _ tw_1) hd_K_place ⟨Nat.le_of_ble_eq_true rfl, Nat.le_of_ble_eq_true rfl⟩, (hts _ tw_87), trivial⟩ (xPreS hN hK (hP.sub (ws' := []) [] rfl) (hD.sub (ws' := []) [] (by decide) rfl)) rfl rfl hl.1 rfl (lv_room (Nat.le_of_ble_eq_true rfl)) d_T_adjugate_15 ⟨Nat.le_of_ble_eq_true rfl, Nat.le_of_ble_eq_true rfl⟩) (fun r_5 u_6 H locs hw_7 hP hD hS => ?_)
      try dsimp only at hw_7
      have hP : va_P D vwC [(ht, .inr (0, [.int (nI r), .ref hc, .ref hf, .ref hp, .ref ho])), (hc, LA cJ 16 C), (hf, LA cJ 16 F), (hp, LA cJ 16 P), (ho, LA cJ 5 O)] H := hP
      have hD : va_D A [(ht, .inr (0, [.int (nI r), .ref hc, .ref hf, .ref hp, .ref ho])), (hc, LA cJ 16 C), (hf, LA cJ 16 F), (hp, LA cJ 16 P), (ho, LA cJ 5 O)] := hD
      subst hw_7
      refine xl_ald hx hb hK hP 2 0 rfl rfl (k := 4 * i + j) (by omega) (by first | decide | omega) d_T_adjugate_18 ?_
      refine xl_neg hx hb d_T_adjugate_19 ?_
      refine lv_goto (tgt := 33) hx hb d_T_adjugate_20 (by decide) ?_
      exact hret H locs _ ls (lI (-(F (4 * i + j)))) () d_T_adjugate_33 (by first | rw [if_pos (show r % 2 = 0 from by omega)] | rw [if_neg (show ¬ r % 2 = 0 from by omega)]) hP hD hS
  rw [hH, hlc] at key; exact key

def rm_c_product : Room := { frames := 0, cells := 0, slots := 0, locals := 0 }
set_option maxHeartbeats 4000000 in
set_option maxRecDepth 100000 in
/-- the determinant -/
theorem c_product (l : Launch) (D : va_G) (cJ : ClassId) (ht : Nat) (hc : Nat) (hf : Nat) (hp : Nat) (ho : Nat) (r : Nat) (C : Nat → Int) (F : Nat → Int) (P : Nat → Int) (O : Nat → Int) (hr : r ≤ 4) (sz : Nat) : xMl l y_T_productOfValues (Cond.code y_T_productOfValues b_T_productOfValues 1 (some .long) :: tW) rm_c_product [.ref ht] D vwC [(cJ, .long)] sz [(ht, .inr (0, [.int (nI r), .ref hc, .ref hf, .ref hp, .ref ho])), (hc, LA cJ 16 C), (hf, LA cJ 16 F), (hp, LA cJ 16 P), (ho, LA cJ 5 O)] (fun (rv : Int64) (_ : Unit) => rv = lI (if r % 2 = 0 then O 0 else -(O 0))) (fun (_ : Unit) => [(ht, .inr (0, [.int (nI r), .ref hc, .ref hf, .ref hp, .ref ho])), (hc, LA cJ 16 C), (hf, LA cJ 16 F), (hp, LA cJ 16 P), (ho, LA cJ 5 O)]) 0 0 := by
  refine xol (cc := b_T_productOfValues) (maxL := 1) (by decide) rfl (Nat.le_of_ble_eq_true rfl) ?_
  intro p e s m args below meth c Q A hx hb hml hts hown hN hA hS hP hK hD hret ls hl
  have hl : lv_has ls 1 [(0, .ref ht)] := hl
  obtain ⟨H, hH⟩ : ∃ z, z = s.heap := ⟨_, rfl⟩
  obtain ⟨locs, hlc⟩ : ∃ z : List Loc, z = [] := ⟨_, rfl⟩
  rw [← hH] at hP
  have hS : va_S A s.heap H locs := by rw [hH, hlc]; exact hS
  have key : W p l e rm_c_product s m args below meth c H locs 0 0 Q (F0 m 0 ls []) := by
    refine lv_aload_n hx hb d_T_productOfValues_0 rfl (lv_at hl 0 rfl) ?_
    refine va_get (D := D) (ci := 0) (v := .int (nI r)) (C := R_T) (T := F_T) (N := 5) hx hb hts iw_T hown hK hP 0 rfl rfl 0 (by decide) (hts _ tw_25) (fun _ h9 => h9) rfl d_T_productOfValues_1 ?_
    refine lv_iconst (v := nI 2) hx hb d_T_productOfValues_4 (by decide) ?_
    refine xn_rem hx hb (by omega) (by omega) (by omega) d_T_productOfValues_5 ?_
    refine xz_ne (tgt := 18) (X := (r % 2 : Nat)) hx hb (nI_toInt (by omega)) d_T_productOfValues_6 (by decide) (fun c6_0 => ?_) (fun c6_0 => ?_)
    · skip
      refine lv_aload_n hx hb d_T_productOfValues_18 rfl (lv_at hl 0 rfl) ?_
      refine va_get (D := D) (ci := 0) (v := .ref ho) (C := R_T) (T := F_T) (N := 5) hx hb hts iw_T hown hK hP 0 rfl rfl 4 (by decide) (hts _ tw_29) (fun _ h9 => h9) rfl d_T_productOfValues_19 ?_
      refine lv_iconst (v := nI 0) hx hb d_T_productOfValues_22 (by decide) ?_
      refine xl_ald hx hb hK hP 4 0 rfl rfl (k := 0) (by omega) (by first | decide | omega) d_T_productOfValues_23 ?_
      refine xl_neg hx hb d_T_productOfValues_24 ?_
      exact hret H locs _ ls (lI (-(O 0))) () d_T_productOfValues_25 (by first | rw [if_pos (show r % 2 = 0 from by omega)] | rw [if_neg (show ¬ r % 2 = 0 from by omega)]) hP hD hS
    · skip
      refine lv_aload_n hx hb d_T_productOfValues_9 rfl (lv_at hl 0 rfl) ?_
      refine va_get (D := D) (ci := 0) (v := .ref ho) (C := R_T) (T := F_T) (N := 5) hx hb hts iw_T hown hK hP 0 rfl rfl 4 (by decide) (hts _ tw_29) (fun _ h9 => h9) rfl d_T_productOfValues_10 ?_
      refine lv_iconst (v := nI 0) hx hb d_T_productOfValues_13 (by decide) ?_
      refine xl_ald hx hb hK hP 4 0 rfl rfl (k := 0) (by omega) (by first | decide | omega) d_T_productOfValues_14 ?_
      refine lv_goto (tgt := 25) hx hb d_T_productOfValues_15 (by decide) ?_
      exact hret H locs _ ls (lI (O 0)) () d_T_productOfValues_25 (by first | rw [if_pos (show r % 2 = 0 from by omega)] | rw [if_neg (show ¬ r % 2 = 0 from by omega)]) hP hD hS
  rw [hH, hlc] at key; exact key

def rm_c_sum : Room := { frames := 0, cells := 0, slots := 0, locals := 0 }
set_option maxHeartbeats 4000000 in
set_option maxRecDepth 100000 in
/-- the sum -/
theorem c_sum (l : Launch) (D : va_G) (cJ : ClassId) (ht : Nat) (hc : Nat) (hf : Nat) (hp : Nat) (ho : Nat) (r : Nat) (C : Nat → Int) (F : Nat → Int) (P : Nat → Int) (O : Nat → Int) (hr1 : 1 ≤ r) (hr : r ≤ 4) (sz : Nat) : xMl l y_T_sumOfValues (Cond.code y_T_sumOfValues b_T_sumOfValues 1 (some .long) :: tW) rm_c_sum [.ref ht] D vwC [(cJ, .long)] sz [(ht, .inr (0, [.int (nI r), .ref hc, .ref hf, .ref hp, .ref ho])), (hc, LA cJ 16 C), (hf, LA cJ 16 F), (hp, LA cJ 16 P), (ho, LA cJ 5 O)] (fun (rv : Int64) (_ : Unit) => rv = lI (-(O (r - 1)))) (fun (_ : Unit) => [(ht, .inr (0, [.int (nI r), .ref hc, .ref hf, .ref hp, .ref ho])), (hc, LA cJ 16 C), (hf, LA cJ 16 F), (hp, LA cJ 16 P), (ho, LA cJ 5 O)]) 0 0 := by
  refine xol (cc := b_T_sumOfValues) (maxL := 1) (by decide) rfl (Nat.le_of_ble_eq_true rfl) ?_
  intro p e s m args below meth c Q A hx hb hml hts hown hN hA hS hP hK hD hret ls hl
  have hl : lv_has ls 1 [(0, .ref ht)] := hl
  obtain ⟨H, hH⟩ : ∃ z, z = s.heap := ⟨_, rfl⟩
  obtain ⟨locs, hlc⟩ : ∃ z : List Loc, z = [] := ⟨_, rfl⟩
  rw [← hH] at hP
  have hS : va_S A s.heap H locs := by rw [hH, hlc]; exact hS
  have key : W p l e rm_c_sum s m args below meth c H locs 0 0 Q (F0 m 0 ls []) := by
    refine lv_aload_n hx hb d_T_sumOfValues_0 rfl (lv_at hl 0 rfl) ?_
    refine va_get (D := D) (ci := 0) (v := .int (nI r)) (C := R_T) (T := F_T) (N := 5) hx hb hts iw_T hown hK hP 0 rfl rfl 0 (by decide) (hts _ tw_25) (fun _ h9 => h9) rfl d_T_sumOfValues_1 ?_
    refine lv_iconst (v := nI 1) hx hb d_T_sumOfValues_4 (by decide) ?_
    refine xn_ge (tgt := 12) hx hb (by omega) (by omega) d_T_sumOfValues_5 (by decide) (fun c5_0 => ?_) (fun c5_0 => absurd c5_0 (by omega))
    refine lv_aload_n hx hb d_T_sumOfValues_12 rfl (lv_at hl 0 rfl) ?_
    refine va_get (D := D) (ci := 0) (v := .ref ho) (C := R_T) (T := F_T) (N := 5) hx hb hts iw_T hown hK hP 0 rfl rfl 4 (by decide) (hts _ tw_29) (fun _ h9 => h9) rfl d_T_sumOfValues_13 ?_
    refine lv_aload_n hx hb d_T_sumOfValues_16 rfl (lv_at hl 0 rfl) ?_
    refine va_get (D := D) (ci := 0) (v := .int (nI r)) (C := R_T) (T := F_T) (N := 5) hx hb hts iw_T hown hK hP 0 rfl rfl 0 (by decide) (hts _ tw_25) (fun _ h9 => h9) rfl d_T_sumOfValues_17 ?_
    refine lv_iconst (v := nI 1) hx hb d_T_sumOfValues_20 (by decide) ?_
    refine xn_sub hx hb (by omega) d_T_sumOfValues_21 ?_
    refine xl_ald hx hb hK hP 4 0 rfl rfl (k := r - 1) (by omega) (by first | decide | omega) d_T_sumOfValues_22 ?_
    refine xl_neg hx hb d_T_sumOfValues_23 ?_
    exact hret H locs _ ls (lI (-(O (r - 1)))) () d_T_sumOfValues_24 rfl hP hD hS
  rw [hH, hlc] at key; exact key

def rm_c_pairs : Room := { frames := 0, cells := 0, slots := 0, locals := 0 }
set_option maxHeartbeats 4000000 in
set_option maxRecDepth 100000 in
/-- the sum over pairs -/
theorem c_pairs (l : Launch) (D : va_G) (cJ : ClassId) (ht : Nat) (hc : Nat) (hf : Nat) (hp : Nat) (ho : Nat) (r : Nat) (C : Nat → Int) (F : Nat → Int) (P : Nat → Int) (O : Nat → Int) (hr1 : 2 ≤ r) (hr : r ≤ 4) (sz : Nat) : xMl l y_T_sumOfPairs (Cond.code y_T_sumOfPairs b_T_sumOfPairs 1 (some .long) :: tW) rm_c_pairs [.ref ht] D vwC [(cJ, .long)] sz [(ht, .inr (0, [.int (nI r), .ref hc, .ref hf, .ref hp, .ref ho])), (hc, LA cJ 16 C), (hf, LA cJ 16 F), (hp, LA cJ 16 P), (ho, LA cJ 5 O)] (fun (rv : Int64) (_ : Unit) => rv = lI (O (r - 2))) (fun (_ : Unit) => [(ht, .inr (0, [.int (nI r), .ref hc, .ref hf, .ref hp, .ref ho])), (hc, LA cJ 16 C), (hf, LA cJ 16 F), (hp, LA cJ 16 P), (ho, LA cJ 5 O)]) 0 0 := by
  refine xol (cc := b_T_sumOfPairs) (maxL := 1) (by decide) rfl (Nat.le_of_ble_eq_true rfl) ?_
  intro p e s m args below meth c Q A hx hb hml hts hown hN hA hS hP hK hD hret ls hl
  have hl : lv_has ls 1 [(0, .ref ht)] := hl
  obtain ⟨H, hH⟩ : ∃ z, z = s.heap := ⟨_, rfl⟩
  obtain ⟨locs, hlc⟩ : ∃ z : List Loc, z = [] := ⟨_, rfl⟩
  rw [← hH] at hP
  have hS : va_S A s.heap H locs := by rw [hH, hlc]; exact hS
  have key : W p l e rm_c_pairs s m args below meth c H locs 0 0 Q (F0 m 0 ls []) := by
    refine lv_aload_n hx hb d_T_sumOfPairs_0 rfl (lv_at hl 0 rfl) ?_
    refine va_get (D := D) (ci := 0) (v := .int (nI r)) (C := R_T) (T := F_T) (N := 5) hx hb hts iw_T hown hK hP 0 rfl rfl 0 (by decide) (hts _ tw_25) (fun _ h9 => h9) rfl d_T_sumOfPairs_1 ?_
    refine lv_iconst (v := nI 2) hx hb d_T_sumOfPairs_4 (by decide) ?_
    refine xn_ge (tgt := 12) hx hb (by omega) (by omega) d_T_sumOfPairs_5 (by decide) (fun c5_0 => ?_) (fun c5_0 => absurd c5_0 (by omega))
    refine lv_aload_n hx hb d_T_sumOfPairs_12 rfl (lv_at hl 0 rfl) ?_
    refine va_get (D := D) (ci := 0) (v := .ref ho) (C := R_T) (T := F_T) (N := 5) hx hb hts iw_T hown hK hP 0 rfl rfl 4 (by decide) (hts _ tw_29) (fun _ h9 => h9) rfl d_T_sumOfPairs_13 ?_
    refine lv_aload_n hx hb d_T_sumOfPairs_16 rfl (lv_at hl 0 rfl) ?_
    refine va_get (D := D) (ci := 0) (v := .int (nI r)) (C := R_T) (T := F_T) (N := 5) hx hb hts iw_T hown hK hP 0 rfl rfl 0 (by decide) (hts _ tw_25) (fun _ h9 => h9) rfl d_T_sumOfPairs_17 ?_
    refine lv_iconst (v := nI 2) hx hb d_T_sumOfPairs_20 (by decide) ?_
    refine xn_sub hx hb (by omega) d_T_sumOfPairs_21 ?_
    refine xl_ald hx hb hK hP 4 0 rfl rfl (k := r - 2) (by omega) (by first | decide | omega) d_T_sumOfPairs_22 ?_
    exact hret H locs _ ls (lI (O (r - 2))) () d_T_sumOfPairs_23 rfl hP hD hS
  rw [hH, hlc] at key; exact key

def rm_c_rank : Room := { frames := 0, cells := 0, slots := 0, locals := 0 }
set_option maxHeartbeats 4000000 in
set_option maxRecDepth 100000 in
/-- rows less the zeros at the low end -/
theorem c_rank (l : Launch) (D : va_G) (cJ : ClassId) (ht : Nat) (hc : Nat) (hf : Nat) (hp : Nat) (ho : Nat) (r : Nat) (C : Nat → Int) (F : Nat → Int) (P : Nat → Int) (O : Nat → Int) (hr : r ≤ 4) (hO : ∀ k, k < r → lB (O k)) (sz : Nat) : xMi l y_T_rank (Cond.code y_T_rank b_T_rank 2 (some .int) :: tW) rm_c_rank [.ref ht] D vwC [(cJ, .long)] sz [(ht, .inr (0, [.int (nI r), .ref hc, .ref hf, .ref hp, .ref ho])), (hc, LA cJ 16 C), (hf, LA cJ 16 F), (hp, LA cJ 16 P), (ho, LA cJ 5 O)] (fun (rv : Int32) (_ : Unit) => rv = nI (r - zerN O r r)) (fun (_ : Unit) => [(ht, .inr (0, [.int (nI r), .ref hc, .ref hf, .ref hp, .ref ho])), (hc, LA cJ 16 C), (hf, LA cJ 16 F), (hp, LA cJ 16 P), (ho, LA cJ 5 O)]) 0 0 := by
  refine xoi (cc := b_T_rank) (maxL := 2) (by decide) rfl (Nat.le_of_ble_eq_true rfl) ?_
  intro p e s m args below meth c Q A hx hb hml hts hown hN hA hS hP hK hD hret ls hl
  have hl : lv_has ls 2 [(0, .ref ht)] := hl
  obtain ⟨H, hH⟩ : ∃ z, z = s.heap := ⟨_, rfl⟩
  obtain ⟨locs, hlc⟩ : ∃ z : List Loc, z = [] := ⟨_, rfl⟩
  rw [← hH] at hP
  have hS : va_S A s.heap H locs := by rw [hH, hlc]; exact hS
  have key : W p l e rm_c_rank s m args below meth c H locs 0 0 Q (F0 m 0 ls []) := by
    refine lv_iconst (v := nI 0) hx hb d_T_rank_0 (by decide) ?_
    refine lv_istore_n (lv' := [(1, .int (nI 0)), (0, .ref ht)]) hx hb d_T_rank_1 rfl hl (by decide) rfl (fun ls hl => ?_)
    have lp_2 : ∀ (n_2 : Nat) (z : Nat) (H : Heap) (locs : List Loc) (ls : Array Slot), (z ≤ r) → (zerN O r (r - z) = zerN O r r) → (r - z) < n_2 → va_P D vwC [(ht, .inr (0, [.int (nI r), .ref hc, .ref hf, .ref hp, .ref ho])), (hc, LA cJ 16 C), (hf, LA cJ 16 F), (hp, LA cJ 16 P), (ho, LA cJ 5 O)] H → va_D A [(ht, .inr (0, [.int (nI r), .ref hc, .ref hf, .ref hp, .ref ho])), (hc, LA cJ 16 C), (hf, LA cJ 16 F), (hp, LA cJ 16 P), (ho, LA cJ 5 O)] → va_S A s.heap H locs → lv_has ls 2 [(0, .ref ht), (1, .int (nI z))] → W p l e rm_c_rank s m args below meth c H locs 0 0 Q (F0 m 2 ls []) := by
      intro n_2
      induction n_2 with
      | zero => intro z H locs ls hz hzz hn_2; exact absurd hn_2 (Nat.not_lt_zero _)
      | succ n_2 ih_2 =>
        intro z H locs ls hz hzz hn_2 hP hD hS hl
        refine lv_iload_n hx hb d_T_rank_2 rfl (lv_at hl 1 rfl) ?_
        refine lv_aload_n hx hb d_T_rank_3 rfl (lv_at hl 0 rfl) ?_
        refine va_get (D := D) (ci := 0) (v := .int (nI r)) (C := R_T) (T := F_T) (N := 5) hx hb hts iw_T hown hK hP 0 rfl rfl 0 (by decide) (hts _ tw_25) (fun _ h9 => h9) rfl d_T_rank_4 ?_
        refine xn_ge (tgt := 27) hx hb (by omega) (by omega) d_T_rank_7 (by decide) (fun c7_0 => ?_) (fun c7_0 => ?_)
        · skip
          refine lv_aload_n hx hb d_T_rank_27 rfl (lv_at hl 0 rfl) ?_
          refine va_get (D := D) (ci := 0) (v := .int (nI r)) (C := R_T) (T := F_T) (N := 5) hx hb hts iw_T hown hK hP 0 rfl rfl 0 (by decide) (hts _ tw_25) (fun _ h9 => h9) rfl d_T_rank_28 ?_
          refine lv_iload_n hx hb d_T_rank_31 rfl (lv_at hl 1 rfl) ?_
          refine xn_sub hx hb (by omega) d_T_rank_32 ?_
          exact hret H locs _ ls (nI (r - z)) () d_T_rank_33 (by rw [← hzz, show r - z = 0 from by omega]; show nI 0 = nI (r - r); rw [Nat.sub_self]) hP hD hS
        · skip
          refine lv_aload_n hx hb d_T_rank_10 rfl (lv_at hl 0 rfl) ?_
          refine va_get (D := D) (ci := 0) (v := .ref ho) (C := R_T) (T := F_T) (N := 5) hx hb hts iw_T hown hK hP 0 rfl rfl 4 (by decide) (hts _ tw_29) (fun _ h9 => h9) rfl d_T_rank_11 ?_
          refine lv_iload_n hx hb d_T_rank_14 rfl (lv_at hl 1 rfl) ?_
          refine xl_ald hx hb hK hP 4 0 rfl rfl (k := z) (by omega) (by first | decide | omega) d_T_rank_15 ?_
          refine lv_lconst (v := lI 0) hx hb d_T_rank_16 (by decide) ?_
          refine xl_ne (tgt := 27) hx hb (hO _ (by omega)) ⟨by decide, by decide⟩ d_T_rank_17 d_T_rank_18 (by decide) (fun c18_1 => ?_) (fun c18_1 => ?_)
          · skip
            refine lv_aload_n hx hb d_T_rank_27 rfl (lv_at hl 0 rfl) ?_
            refine va_get (D := D) (ci := 0) (v := .int (nI r)) (C := R_T) (T := F_T) (N := 5) hx hb hts iw_T hown hK hP 0 rfl rfl 0 (by decide) (hts _ tw_25) (fun _ h9 => h9) rfl d_T_rank_28 ?_
            refine lv_iload_n hx hb d_T_rank_31 rfl (lv_at hl 1 rfl) ?_
            refine xn_sub hx hb (by omega) d_T_rank_32 ?_
            exact hret H locs _ ls (nI (r - z)) () d_T_rank_33 (by rw [← hzz, zerN_n (by omega) c18_1]) hP hD hS
          · skip
            refine lv_iinc (v := nI (z + 1)) (lv' := [(1, .int (nI (z + 1))), (0, .ref ht)]) hx hb d_T_rank_21 hl (k := 1) rfl (nI_add _ _) (by decide) rfl (fun ls hl => ?_)
            refine lv_goto (tgt := 2) hx hb d_T_rank_24 (by decide) ?_
            exact ih_2 (z + 1) H locs ls (by omega) (by rw [← hzz, zerN_z (by omega) c18_1]) (by omega) hP hD hS (lv_sub hl [1, 0] rfl)
    exact lp_2 ((r - 0) + 1) 0 H locs ls (Nat.zero_le _) rfl (by omega) hP hD hS (lv_sub hl [1, 0] rfl)
  rw [hH, hlc] at key; exact key

def rm_c_above : Room := { frames := 0, cells := 0, slots := 0, locals := 0 }
set_option maxHeartbeats 4000000 in
set_option maxRecDepth 100000 in
/-- sign changes -/
theorem c_above (l : Launch) (D : va_G) (cJ : ClassId) (ht : Nat) (hc : Nat) (hf : Nat) (hp : Nat) (ho : Nat) (r : Nat) (C : Nat → Int) (F : Nat → Int) (P : Nat → Int) (O : Nat → Int) (hr1 : 1 ≤ r) (hr : r ≤ 4) (hO : ∀ k, k < r → lB (O k)) (sz : Nat) : xMi l y_T_countAbove (Cond.code y_T_countAbove b_T_countAbove 7 (some .int) :: tW) rm_c_above [.ref ht] D vwC [(cJ, .long)] sz [(ht, .inr (0, [.int (nI r), .ref hc, .ref hf, .ref hp, .ref ho])), (hc, LA cJ 16 C), (hf, LA cJ 16 F), (hp, LA cJ 16 P), (ho, LA cJ 5 O)] (fun (rv : Int32) (_ : Unit) => rv = nI (chgA O r 1)) (fun (_ : Unit) => [(ht, .inr (0, [.int (nI r), .ref hc, .ref hf, .ref hp, .ref ho])), (hc, LA cJ 16 C), (hf, LA cJ 16 F), (hp, LA cJ 16 P), (ho, LA cJ 5 O)]) 0 0 := by
  refine xoi (cc := b_T_countAbove) (maxL := 7) (by decide) rfl (Nat.le_of_ble_eq_true rfl) ?_
  intro p e s m args below meth c Q A hx hb hml hts hown hN hA hS hP hK hD hret ls hl
  have hl : lv_has ls 7 [(0, .ref ht)] := hl
  obtain ⟨H, hH⟩ : ∃ z, z = s.heap := ⟨_, rfl⟩
  obtain ⟨locs, hlc⟩ : ∃ z : List Loc, z = [] := ⟨_, rfl⟩
  rw [← hH] at hP
  have hS : va_S A s.heap H locs := by rw [hH, hlc]; exact hS
  have key : W p l e rm_c_above s m args below meth c H locs 0 0 Q (F0 m 0 ls []) := by
    refine lv_iconst (v := nI 0) hx hb d_T_countAbove_0 (by decide) ?_
    refine lv_istore_n (lv' := [(1, .int (nI 0)), (0, .ref ht)]) hx hb d_T_countAbove_1 rfl hl (by decide) rfl (fun ls hl => ?_)
    refine lv_lconst (v := lI 1) hx hb d_T_countAbove_2 (by decide) ?_
    refine lv_lstore_n (lv' := [(2, .long (lI 1)), (1, .int (nI 0)), (0, .ref ht)]) hx hb d_T_countAbove_3 rfl hl (by decide) rfl (fun ls hl => ?_)
    refine lv_aload_n hx hb d_T_countAbove_4 rfl (lv_at hl 2 rfl) ?_
    refine va_get (D := D) (ci := 0) (v := .int (nI r)) (C := R_T) (T := F_T) (N := 5) hx hb hts iw_T hown hK hP 0 rfl rfl 0 (by decide) (hts _ tw_25) (fun _ h9 => h9) rfl d_T_countAbove_5 ?_
    refine lv_iconst (v := nI 1) hx hb d_T_countAbove_8 (by decide) ?_
    refine lv_isub hx hb d_T_countAbove_9 ?_
    show W _ _ _ _ _ _ _ _ _ _ _ _ _ _ _ (F0 m _ ls [.int (dI r)])
    refine lv_istore (lv' := [(4, .int (dI r)), (2, .long (lI 1)), (1, .int (nI 0)), (0, .ref ht)]) hx hb d_T_countAbove_10 hl (by decide) rfl (fun ls hl => ?_)
    have lp_12 : ∀ (n_12 : Nat) (n : Nat) (ch : Nat) (x : Int) (H : Heap) (locs : List Loc) (ls : Array Slot), (n ≤ r) → (lB x) → (ch + chgA O n x = chgA O r 1) → n < n_12 → va_P D vwC [(ht, .inr (0, [.int (nI r), .ref hc, .ref hf, .ref hp, .ref ho])), (hc, LA cJ 16 C), (hf, LA cJ 16 F), (hp, LA cJ 16 P), (ho, LA cJ 5 O)] H → va_D A [(ht, .inr (0, [.int (nI r), .ref hc, .ref hf, .ref hp, .ref ho])), (hc, LA cJ 16 C), (hf, LA cJ 16 F), (hp, LA cJ 16 P), (ho, LA cJ 5 O)] → va_S A s.heap H locs → lv_has ls 7 [(0, .ref ht), (1, .int (nI ch)), (2, .long (lI x)), (4, .int (dI n))] → W p l e rm_c_above s m args below meth c H locs 0 0 Q (F0 m 12 ls []) := by
      intro n_12
      induction n_12 with
      | zero => intro n ch x H locs ls hn hla hch hn_12; exact absurd hn_12 (Nat.not_lt_zero _)
      | succ n_12 ih_12 =>
        intro n ch x H locs ls hn hla hch hn_12 hP hD hS hl
        refine lv_iload hx hb d_T_countAbove_12 (lv_at hl 3 rfl) ?_
        refine xz_lt (tgt := 76) (X := (n : Int) - 1) hx hb (dI_toInt (by omega)) d_T_countAbove_14 (by decide) (fun c14 => ?_) (fun c14 => ?_)
        · skip
          refine lv_iload_n hx hb d_T_countAbove_76 rfl (lv_at hl 1 rfl) ?_
          exact hret H locs _ ls (nI ch) () d_T_countAbove_77 (by rw [← hch, show n = 0 from by omega]; rfl) hP hD hS
        · skip
          obtain ⟨k, rfl⟩ : ∃ k, n = k + 1 := ⟨n - 1, by omega⟩
          rw [dI_succ] at hl
          refine lv_aload_n hx hb d_T_countAbove_17 rfl (lv_at hl 0 rfl) ?_
          refine va_get (D := D) (ci := 0) (v := .ref ho) (C := R_T) (T := F_T) (N := 5) hx hb hts iw_T hown hK hP 0 rfl rfl 4 (by decide) (hts _ tw_29) (fun _ h9 => h9) rfl d_T_countAbove_18 ?_
          refine lv_iload hx hb d_T_countAbove_21 (lv_at hl 3 rfl) ?_
          refine xl_ald hx hb hK hP 4 0 rfl rfl (k := k) (by omega) (by first | decide | omega) d_T_countAbove_23 ?_
          refine lv_lstore (lv' := [(5, .long (lI (O k))), (0, .ref ht), (1, .int (nI ch)), (2, .long (lI x)), (4, .int (nI k))]) hx hb d_T_countAbove_24 hl (by decide) rfl (fun ls hl => ?_)
          refine lv_lload hx hb d_T_countAbove_26 (lv_at hl 0 rfl) ?_
          refine lv_lconst (v := lI 0) hx hb d_T_countAbove_28 (by decide) ?_
          refine xl_eq (tgt := 70) hx hb (hO _ (by omega)) ⟨by decide, by decide⟩ d_T_countAbove_29 d_T_countAbove_30 (by decide) (fun c30_0 => ?_) (fun c30_0 => ?_)
          · skip
            refine lv_iinc (v := dI k) (lv' := [(4, .int (dI k)), (5, .long (lI (O k))), (0, .ref ht), (1, .int (nI ch)), (2, .long (lI x))]) hx hb d_T_countAbove_70 hl (k := 4) rfl (dI_of _) (by decide) rfl (fun ls hl => ?_)
            refine lv_goto (tgt := 12) hx hb d_T_countAbove_73 (by decide) ?_
            exact ih_12 k ch x H locs ls (by omega) hla (by rw [← hch, chgA_z c30_0]) (by omega) hP hD hS (lv_sub hl [2, 3, 4, 0] rfl)
          · skip
            refine lv_iload_n hx hb d_T_countAbove_33 rfl (lv_at hl 2 rfl) ?_
            refine lv_lload hx hb d_T_countAbove_34 (lv_at hl 0 rfl) ?_
            refine lv_lconst (v := lI 0) hx hb d_T_countAbove_36 (by decide) ?_
            refine xl_ge (tgt := 45) hx hb (hO _ (by omega)) ⟨by decide, by decide⟩ d_T_countAbove_37 d_T_countAbove_38 (by decide) (fun c38_1 => ?_) (fun c38_1 => ?_)
            · skip
              refine lv_iconst (v := nI 0) hx hb d_T_countAbove_45 (by decide) ?_
              refine lv_lload_n hx hb d_T_countAbove_46 rfl (lv_at hl 3 rfl) ?_
              refine lv_lconst (v := lI 0) hx hb d_T_countAbove_47 (by decide) ?_
              refine xl_ge (tgt := 56) hx hb hla ⟨by decide, by decide⟩ d_T_countAbove_48 d_T_countAbove_49 (by decide) (fun c49_2 => ?_) (fun c49_2 => ?_)
              · skip
                refine lv_iconst (v := nI 0) hx hb d_T_countAbove_56 (by decide) ?_
                refine xn_eq (tgt := 64) hx hb (by omega) (by omega) d_T_countAbove_57 (by decide) (fun c57_3 => ?_) (fun c57_3 => absurd c57_3 (by decide))
                refine lv_iconst (v := nI 0) hx hb d_T_countAbove_64 (by decide) ?_
                refine xn_add hx hb d_T_countAbove_65 ?_
                refine lv_istore_n (lv' := [(1, .int (nI (ch + 0))), (5, .long (lI (O k))), (0, .ref ht), (2, .long (lI x)), (4, .int (nI k))]) hx hb d_T_countAbove_66 rfl hl (by decide) rfl (fun ls hl => ?_)
                refine lv_lload hx hb d_T_countAbove_67 (lv_at hl 1 rfl) ?_
                refine lv_lstore_n (lv' := [(2, .long (lI (O k))), (1, .int (nI (ch + 0))), (5, .long (lI (O k))), (0, .ref ht), (4, .int (nI k))]) hx hb d_T_countAbove_69 rfl hl (by decide) rfl (fun ls hl => ?_)
                refine lv_iinc (v := dI k) (lv' := [(4, .int (dI k)), (2, .long (lI (O k))), (1, .int (nI (ch + 0))), (5, .long (lI (O k))), (0, .ref ht)]) hx hb d_T_countAbove_70 hl (k := 4) rfl (dI_of _) (by decide) rfl (fun ls hl => ?_)
                refine lv_goto (tgt := 12) hx hb d_T_countAbove_73 (by decide) ?_
                exact ih_12 k (ch + 0) (O k) H locs ls (by omega) (hO _ (by omega)) (by rw [← hch, chgA_s c30_0 (by omega)]; omega) (by omega) hP hD hS (lv_sub hl [4, 2, 1, 0] rfl)
              · skip
                refine lv_iconst (v := nI 1) hx hb d_T_countAbove_52 (by decide) ?_
                refine lv_goto (tgt := 57) hx hb d_T_countAbove_53 (by decide) ?_
                refine xn_eq (tgt := 64) hx hb (by omega) (by omega) d_T_countAbove_57 (by decide) (fun c57_4 => absurd c57_4 (by decide)) (fun c57_4 => ?_)
                refine lv_iconst (v := nI 1) hx hb d_T_countAbove_60 (by decide) ?_
                refine lv_goto (tgt := 65) hx hb d_T_countAbove_61 (by decide) ?_
                refine xn_add hx hb d_T_countAbove_65 ?_
                refine lv_istore_n (lv' := [(1, .int (nI (ch + 1))), (5, .long (lI (O k))), (0, .ref ht), (2, .long (lI x)), (4, .int (nI k))]) hx hb d_T_countAbove_66 rfl hl (by decide) rfl (fun ls hl => ?_)
                refine lv_lload hx hb d_T_countAbove_67 (lv_at hl 1 rfl) ?_
                refine lv_lstore_n (lv' := [(2, .long (lI (O k))), (1, .int (nI (ch + 1))), (5, .long (lI (O k))), (0, .ref ht), (4, .int (nI k))]) hx hb d_T_countAbove_69 rfl hl (by decide) rfl (fun ls hl => ?_)
                refine lv_iinc (v := dI k) (lv' := [(4, .int (dI k)), (2, .long (lI (O k))), (1, .int (nI (ch + 1))), (5, .long (lI (O k))), (0, .ref ht)]) hx hb d_T_countAbove_70 hl (k := 4) rfl (dI_of _) (by decide) rfl (fun ls hl => ?_)
                refine lv_goto (tgt := 12) hx hb d_T_countAbove_73 (by decide) ?_
                exact ih_12 k (ch + 1) (O k) H locs ls (by omega) (hO _ (by omega)) (by rw [← hch, chgA_d c30_0 (by omega)]; omega) (by omega) hP hD hS (lv_sub hl [4, 2, 1, 0] rfl)
            · skip
              refine lv_iconst (v := nI 1) hx hb d_T_countAbove_41 (by decide) ?_
              refine lv_goto (tgt := 46) hx hb d_T_countAbove_42 (by decide) ?_
              refine lv_lload_n hx hb d_T_countAbove_46 rfl (lv_at hl 3 rfl) ?_
              refine lv_lconst (v := lI 0) hx hb d_T_countAbove_47 (by decide) ?_
              refine xl_ge (tgt := 56) hx hb hla ⟨by decide, by decide⟩ d_T_countAbove_48 d_T_countAbove_49 (by decide) (fun c49_5 => ?_) (fun c49_5 => ?_)
              · skip
                refine lv_iconst (v := nI 0) hx hb d_T_countAbove_56 (by decide) ?_
                refine xn_eq (tgt := 64) hx hb (by omega) (by omega) d_T_countAbove_57 (by decide) (fun c57_6 => absurd c57_6 (by decide)) (fun c57_6 => ?_)
                refine lv_iconst (v := nI 1) hx hb d_T_countAbove_60 (by decide) ?_
                refine lv_goto (tgt := 65) hx hb d_T_countAbove_61 (by decide) ?_
                refine xn_add hx hb d_T_countAbove_65 ?_
                refine lv_istore_n (lv' := [(1, .int (nI (ch + 1))), (5, .long (lI (O k))), (0, .ref ht), (2, .long (lI x)), (4, .int (nI k))]) hx hb d_T_countAbove_66 rfl hl (by decide) rfl (fun ls hl => ?_)
                refine lv_lload hx hb d_T_countAbove_67 (lv_at hl 1 rfl) ?_
                refine lv_lstore_n (lv' := [(2, .long (lI (O k))), (1, .int (nI (ch + 1))), (5, .long (lI (O k))), (0, .ref ht), (4, .int (nI k))]) hx hb d_T_countAbove_69 rfl hl (by decide) rfl (fun ls hl => ?_)
                refine lv_iinc (v := dI k) (lv' := [(4, .int (dI k)), (2, .long (lI (O k))), (1, .int (nI (ch + 1))), (5, .long (lI (O k))), (0, .ref ht)]) hx hb d_T_countAbove_70 hl (k := 4) rfl (dI_of _) (by decide) rfl (fun ls hl => ?_)
                refine lv_goto (tgt := 12) hx hb d_T_countAbove_73 (by decide) ?_
                exact ih_12 k (ch + 1) (O k) H locs ls (by omega) (hO _ (by omega)) (by rw [← hch, chgA_d c30_0 (by omega)]; omega) (by omega) hP hD hS (lv_sub hl [4, 2, 1, 0] rfl)
              · skip
                refine lv_iconst (v := nI 1) hx hb d_T_countAbove_52 (by decide) ?_
                refine lv_goto (tgt := 57) hx hb d_T_countAbove_53 (by decide) ?_
                refine xn_eq (tgt := 64) hx hb (by omega) (by omega) d_T_countAbove_57 (by decide) (fun c57_7 => ?_) (fun c57_7 => absurd c57_7 (by decide))
                refine lv_iconst (v := nI 0) hx hb d_T_countAbove_64 (by decide) ?_
                refine xn_add hx hb d_T_countAbove_65 ?_
                refine lv_istore_n (lv' := [(1, .int (nI (ch + 0))), (5, .long (lI (O k))), (0, .ref ht), (2, .long (lI x)), (4, .int (nI k))]) hx hb d_T_countAbove_66 rfl hl (by decide) rfl (fun ls hl => ?_)
                refine lv_lload hx hb d_T_countAbove_67 (lv_at hl 1 rfl) ?_
                refine lv_lstore_n (lv' := [(2, .long (lI (O k))), (1, .int (nI (ch + 0))), (5, .long (lI (O k))), (0, .ref ht), (4, .int (nI k))]) hx hb d_T_countAbove_69 rfl hl (by decide) rfl (fun ls hl => ?_)
                refine lv_iinc (v := dI k) (lv' := [(4, .int (dI k)), (2, .long (lI (O k))), (1, .int (nI (ch + 0))), (5, .long (lI (O k))), (0, .ref ht)]) hx hb d_T_countAbove_70 hl (k := 4) rfl (dI_of _) (by decide) rfl (fun ls hl => ?_)
                refine lv_goto (tgt := 12) hx hb d_T_countAbove_73 (by decide) ?_
                exact ih_12 k (ch + 0) (O k) H locs ls (by omega) (hO _ (by omega)) (by rw [← hch, chgA_s c30_0 (by omega)]; omega) (by omega) hP hD hS (lv_sub hl [4, 2, 1, 0] rfl)
    exact lp_12 (r + 1) r 0 1 H locs ls (Nat.le_refl _) (⟨by decide, by decide⟩) (Nat.zero_add _) (by omega) hP hD hS (lv_sub hl [3, 2, 1, 0] rfl)
  rw [hH, hlc] at key; exact key

def rm_c_below : Room := { frames := 1, cells := 0, slots := 0, locals := 26 }
set_option maxHeartbeats 4000000 in
set_option maxRecDepth 100000 in
/-- rank less those above -/
theorem c_below (l : Launch) (D : va_G) (cJ : ClassId) (ht : Nat) (hc : Nat) (hf : Nat) (hp : Nat) (ho : Nat) (r : Nat) (C : Nat → Int) (F : Nat → Int) (P : Nat → Int) (O : Nat → Int) (hr1 : 1 ≤ r) (hr : r ≤ 4) (hO : ∀ k, k < r → lB (O k)) (sz : Nat) : xMi l y_T_countBelow (Cond.code y_T_countBelow b_T_countBelow 1 (some .int) :: tW) rm_c_below [.ref ht] D vwC [(cJ, .long)] sz [(ht, .inr (0, [.int (nI r), .ref hc, .ref hf, .ref hp, .ref ho])), (hc, LA cJ 16 C), (hf, LA cJ 16 F), (hp, LA cJ 16 P), (ho, LA cJ 5 O)] (fun (rv : Int32) (_ : Unit) => rv = nI (r - zerN O r r - chgA O r 1)) (fun (_ : Unit) => [(ht, .inr (0, [.int (nI r), .ref hc, .ref hf, .ref hp, .ref ho])), (hc, LA cJ 16 C), (hf, LA cJ 16 F), (hp, LA cJ 16 P), (ho, LA cJ 5 O)]) 0 0 := by
  refine xoi (cc := b_T_countBelow) (maxL := 1) (by decide) rfl (Nat.le_of_ble_eq_true rfl) ?_
  intro p e s m args below meth c Q A hx hb hml hts hown hN hA hS hP hK hD hret ls hl
  have hl : lv_has ls 1 [(0, .ref ht)] := hl
  obtain ⟨H, hH⟩ : ∃ z, z = s.heap := ⟨_, rfl⟩
  obtain ⟨locs, hlc⟩ : ∃ z : List Loc, z = [] := ⟨_, rfl⟩
  rw [← hH] at hP
  have hS : va_S A s.heap H locs := by rw [hH, hlc]; exact hS
  have key : W p l e rm_c_below s m args below meth c H locs 0 0 Q (F0 m 0 ls []) := by
    refine lv_aload_n hx hb d_T_countBelow_0 rfl (lv_at hl 0 rfl) ?_
    refine xci (wc := [(ht, .inr (0, [.int (nI r), .ref hc, .ref hf, .ref hp, .ref ho])), (hc, LA cJ 16 C), (hf, LA cJ 16 F), (hp, LA cJ 16 P), (ho, LA cJ 5 O)]) (wr := []) hP hD hS hA [0, 1, 2, 3, 4] [] rfl rfl (by decide) (by decide) (va_runV (As := []) (rest := []) ⟨hx, hb, hml, hown, hts⟩ (c_rank l D cJ ht hc hf hp ho r C F P O (by first | assumption | omega) (by first | assumption | omega) H.size) (cwV 0 hts (gV tw_126 tw_127 tw_128 tw_2 tw_129) rfl rfl rfl ⟨rfl, hd_T_rank⟩ ⟨Nat.le_of_ble_eq_true rfl, Nat.le_of_ble_eq_true rfl⟩) (xPreV (C := R_T) (T := F_T) (N := 5) (q0 := 0) hN hK (hP.sub (ws' := [(ht, .inr (0, [.int (nI r), .ref hc, .ref hf, .ref hp, .ref ho])), (hc, LA cJ 16 C), (hf, LA cJ 16 F), (hp, LA cJ 16 P), (ho, LA cJ 5 O)]) [0, 1, 2, 3, 4] rfl) (hD.sub (ws' := [(ht, .inr (0, [.int (nI r), .ref hc, .ref hf, .ref hp, .ref ho])), (hc, LA cJ 16 C), (hf, LA cJ 16 F), (hp, LA cJ 16 P), (ho, LA cJ 5 O)]) [0, 1, 2, 3, 4] (by decide) rfl) rfl rfl) rfl rfl hl.1 rfl (lv_room (Nat.le_of_ble_eq_true rfl)) d_T_countBelow_1 ⟨Nat.le_of_ble_eq_true rfl, Nat.le_of_ble_eq_true rfl⟩) (fun r_1 u_2 H locs hw_3 hP hD hS => ?_)
    try dsimp only at hw_3
    have hP : va_P D vwC [(ht, .inr (0, [.int (nI r), .ref hc, .ref hf, .ref hp, .ref ho])), (hc, LA cJ 16 C), (hf, LA cJ 16 F), (hp, LA cJ 16 P), (ho, LA cJ 5 O)] H := hP
    have hD : va_D A [(ht, .inr (0, [.int (nI r), .ref hc, .ref hf, .ref hp, .ref ho])), (hc, LA cJ 16 C), (hf, LA cJ 16 F), (hp, LA cJ 16 P), (ho, LA cJ 5 O)] := hD
    subst hw_3
    refine lv_aload_n hx hb d_T_countBelow_4 rfl (lv_at hl 0 rfl) ?_
    refine xci (wc := [(ht, .inr (0, [.int (nI r), .ref hc, .ref hf, .ref hp, .ref ho])), (hc, LA cJ 16 C), (hf, LA cJ 16 F), (hp, LA cJ 16 P), (ho, LA cJ 5 O)]) (wr := []) hP hD hS hA [0, 1, 2, 3, 4] [] rfl rfl (by decide) (by decide) (va_runV (As := []) (rest := [.int (nI (r - zerN O r r))]) ⟨hx, hb, hml, hown, hts⟩ (c_above l D cJ ht hc hf hp ho r C F P O (by first | assumption | omega) (by first | assumption | omega) (by first | assumption | omega) H.size) (cwV 0 hts (gV tw_130 tw_119 tw_120 tw_2 tw_121) rfl rfl rfl ⟨rfl, hd_T_countAbove⟩ ⟨Nat.le_of_ble_eq_true rfl, Nat.le_of_ble_eq_true rfl⟩) (xPreV (C := R_T) (T := F_T) (N := 5) (q0 := 0) hN hK (hP.sub (ws' := [(ht, .inr (0, [.int (nI r), .ref hc, .ref hf, .ref hp, .ref ho])), (hc, LA cJ 16 C), (hf, LA cJ 16 F), (hp, LA cJ 16 P), (ho, LA cJ 5 O)]) [0, 1, 2, 3, 4] rfl) (hD.sub (ws' := [(ht, .inr (0, [.int (nI r), .ref hc, .ref hf, .ref hp, .ref ho])), (hc, LA cJ 16 C), (hf, LA cJ 16 F), (hp, LA cJ 16 P), (ho, LA cJ 5 O)]) [0, 1, 2, 3, 4] (by decide) rfl) rfl rfl) rfl rfl hl.1 rfl (lv_room (Nat.le_of_ble_eq_true rfl)) d_T_countBelow_5 ⟨Nat.le_of_ble_eq_true rfl, Nat.le_of_ble_eq_true rfl⟩) (fun r_4 u_5 H locs hw_6 hP hD hS => ?_)
    try dsimp only at hw_6
    have hP : va_P D vwC [(ht, .inr (0, [.int (nI r), .ref hc, .ref hf, .ref hp, .ref ho])), (hc, LA cJ 16 C), (hf, LA cJ 16 F), (hp, LA cJ 16 P), (ho, LA cJ 5 O)] H := hP
    have hD : va_D A [(ht, .inr (0, [.int (nI r), .ref hc, .ref hf, .ref hp, .ref ho])), (hc, LA cJ 16 C), (hf, LA cJ 16 F), (hp, LA cJ 16 P), (ho, LA cJ 5 O)] := hD
    subst hw_6
    have hle := chg_le O r 1
    refine xn_sub hx hb (by omega) d_T_countBelow_8 ?_
    exact hret H locs _ ls (nI ((r - zerN O r r) - (chgA O r 1))) () d_T_countBelow_9 rfl hP hD hS
  rw [hH, hlc] at key; exact key

def rm_c_disc : Room := { frames := 0, cells := 0, slots := 0, locals := 0 }
set_option maxHeartbeats 4000000 in
set_option maxRecDepth 100000 in
/-- the discriminant -/
theorem c_disc (l : Launch) (D : va_G) (cJ : ClassId) (su : Int) (pa : Int) (al : Int)  (sz : Nat) : xMl l y_T_discriminant (Cond.code y_T_discriminant b_T_discriminant 6 (some .long) :: tW) rm_c_disc [.long (lI su), .long (lI pa), .long (lI al)] D vwC [(cJ, .long)] sz [] (fun (rv : Int64) (_ : Unit) => rv = lI (discZ su pa al)) (fun (_ : Unit) => []) 0 0 := by
  refine xol (cc := b_T_discriminant) (maxL := 6) (by decide) rfl (Nat.le_of_ble_eq_true rfl) ?_
  intro p e s m args below meth c Q A hx hb hml hts hown hN hA hS hP hK hD hret ls hl
  have hl : lv_has ls 6 [(0, .long (lI su)), (2, .long (lI pa)), (4, .long (lI al))] := hl
  obtain ⟨H, hH⟩ : ∃ z, z = s.heap := ⟨_, rfl⟩
  obtain ⟨locs, hlc⟩ : ∃ z : List Loc, z = [] := ⟨_, rfl⟩
  rw [← hH] at hP
  have hS : va_S A s.heap H locs := by rw [hH, hlc]; exact hS
  have key : W p l e rm_c_disc s m args below meth c H locs 0 0 Q (F0 m 0 ls []) := by
    refine lv_lload_n hx hb d_T_discriminant_0 rfl (lv_at hl 0 rfl) ?_
    refine lv_lload_n hx hb d_T_discriminant_1 rfl (lv_at hl 0 rfl) ?_
    refine xl_mul hx hb d_T_discriminant_2 ?_
    refine lv_lload_n hx hb d_T_discriminant_3 rfl (lv_at hl 1 rfl) ?_
    refine xl_mul hx hb d_T_discriminant_4 ?_
    refine lv_lload_n hx hb d_T_discriminant_5 rfl (lv_at hl 1 rfl) ?_
    refine xl_mul hx hb d_T_discriminant_6 ?_
    refine lv_ldc2 (v := lI (4)) hx hb hown (hts _ tw_199) d_T_discriminant_7 ?_
    refine lv_lload_n hx hb d_T_discriminant_10 rfl (lv_at hl 1 rfl) ?_
    refine xl_mul hx hb d_T_discriminant_11 ?_
    refine lv_lload_n hx hb d_T_discriminant_12 rfl (lv_at hl 1 rfl) ?_
    refine xl_mul hx hb d_T_discriminant_13 ?_
    refine lv_lload_n hx hb d_T_discriminant_14 rfl (lv_at hl 1 rfl) ?_
    refine xl_mul hx hb d_T_discriminant_15 ?_
    refine xl_sub hx hb d_T_discriminant_16 ?_
    refine lv_ldc2 (v := lI (4)) hx hb hown (hts _ tw_199) d_T_discriminant_17 ?_
    refine lv_lload_n hx hb d_T_discriminant_20 rfl (lv_at hl 0 rfl) ?_
    refine xl_mul hx hb d_T_discriminant_21 ?_
    refine lv_lload_n hx hb d_T_discriminant_22 rfl (lv_at hl 0 rfl) ?_
    refine xl_mul hx hb d_T_discriminant_23 ?_
    refine lv_lload_n hx hb d_T_discriminant_24 rfl (lv_at hl 0 rfl) ?_
    refine xl_mul hx hb d_T_discriminant_25 ?_
    refine lv_lload hx hb d_T_discriminant_26 (lv_at hl 2 rfl) ?_
    refine xl_mul hx hb d_T_discriminant_28 ?_
    refine xl_sub hx hb d_T_discriminant_29 ?_
    refine lv_ldc2 (v := lI (18)) hx hb hown (hts _ tw_205) d_T_discriminant_30 ?_
    refine lv_lload_n hx hb d_T_discriminant_33 rfl (lv_at hl 0 rfl) ?_
    refine xl_mul hx hb d_T_discriminant_34 ?_
    refine lv_lload_n hx hb d_T_discriminant_35 rfl (lv_at hl 1 rfl) ?_
    refine xl_mul hx hb d_T_discriminant_36 ?_
    refine lv_lload hx hb d_T_discriminant_37 (lv_at hl 2 rfl) ?_
    refine xl_mul hx hb d_T_discriminant_39 ?_
    refine xl_add hx hb d_T_discriminant_40 ?_
    refine lv_ldc2 (v := lI (27)) hx hb hown (hts _ tw_206) d_T_discriminant_41 ?_
    refine lv_lload hx hb d_T_discriminant_44 (lv_at hl 2 rfl) ?_
    refine xl_mul hx hb d_T_discriminant_46 ?_
    refine lv_lload hx hb d_T_discriminant_47 (lv_at hl 2 rfl) ?_
    refine xl_mul hx hb d_T_discriminant_49 ?_
    refine xl_sub hx hb d_T_discriminant_50 ?_
    exact hret H locs _ ls (lI (((((((su * su) * pa) * pa) - ((((4) * pa) * pa) * pa)) - (((((4) * su) * su) * su) * al)) + ((((18) * su) * pa) * al)) - (((27) * al) * al))) () d_T_discriminant_51 rfl hP hD hS
  rw [hH, hlc] at key; exact key

def rm_c_unlike : Room := { frames := 1, cells := 0, slots := 0, locals := 25 }
set_option maxHeartbeats 4000000 in
set_option maxRecDepth 100000 in
/-- how many unlike values -/
theorem c_unlike (l : Launch) (D : va_G) (cJ : ClassId) (ht : Nat) (hc : Nat) (hf : Nat) (hp : Nat) (ho : Nat) (r : Nat) (C : Nat → Int) (F : Nat → Int) (P : Nat → Int) (O : Nat → Int) (hr1 : 2 ≤ r) (hr : r ≤ 3) (h1 : lB (-(O (r - 1)) * -(O (r - 1)))) (h2 : lB (4 * O (r - 2))) (h3 : lB (3 * O (r - 2))) (h4 : lB (discZ (-(O (r - 1))) (O (r - 2)) (-(O 0)))) (sz : Nat) : xMi l y_T_countUnlike (Cond.code y_T_countUnlike b_T_countUnlike 5 (some .int) :: tW) rm_c_unlike [.ref ht] D vwC [(cJ, .long)] sz [(ht, .inr (0, [.int (nI r), .ref hc, .ref hf, .ref hp, .ref ho])), (hc, LA cJ 16 C), (hf, LA cJ 16 F), (hp, LA cJ 16 P), (ho, LA cJ 5 O)] (fun (rv : Int32) (_ : Unit) => rv = nI (unlZ r (-(O (r - 1))) (O (r - 2)) (-(O 0)))) (fun (_ : Unit) => [(ht, .inr (0, [.int (nI r), .ref hc, .ref hf, .ref hp, .ref ho])), (hc, LA cJ 16 C), (hf, LA cJ 16 F), (hp, LA cJ 16 P), (ho, LA cJ 5 O)]) 0 0 := by
  refine xoi (cc := b_T_countUnlike) (maxL := 5) (by decide) rfl (Nat.le_of_ble_eq_true rfl) ?_
  intro p e s m args below meth c Q A hx hb hml hts hown hN hA hS hP hK hD hret ls hl
  have hl : lv_has ls 5 [(0, .ref ht)] := hl
  obtain ⟨H, hH⟩ : ∃ z, z = s.heap := ⟨_, rfl⟩
  obtain ⟨locs, hlc⟩ : ∃ z : List Loc, z = [] := ⟨_, rfl⟩
  rw [← hH] at hP
  have hS : va_S A s.heap H locs := by rw [hH, hlc]; exact hS
  have key : W p l e rm_c_unlike s m args below meth c H locs 0 0 Q (F0 m 0 ls []) := by
    refine lv_aload_n hx hb d_T_countUnlike_0 rfl (lv_at hl 0 rfl) ?_
    refine xcl (wc := [(ht, .inr (0, [.int (nI r), .ref hc, .ref hf, .ref hp, .ref ho])), (hc, LA cJ 16 C), (hf, LA cJ 16 F), (hp, LA cJ 16 P), (ho, LA cJ 5 O)]) (wr := []) hP hD hS hA [0, 1, 2, 3, 4] [] rfl rfl (by decide) (by decide) (va_runV (As := []) (rest := []) ⟨hx, hb, hml, hown, hts⟩ (c_sum l D cJ ht hc hf hp ho r C F P O (by first | assumption | omega) (by first | assumption | omega) H.size) (cwV 0 hts (gV tw_197 tw_149 tw_150 tw_2 tw_151) rfl rfl rfl ⟨rfl, hd_T_sumOfValues⟩ ⟨Nat.le_of_ble_eq_true rfl, Nat.le_of_ble_eq_true rfl⟩) (xPreV (C := R_T) (T := F_T) (N := 5) (q0 := 0) hN hK (hP.sub (ws' := [(ht, .inr (0, [.int (nI r), .ref hc, .ref hf, .ref hp, .ref ho])), (hc, LA cJ 16 C), (hf, LA cJ 16 F), (hp, LA cJ 16 P), (ho, LA cJ 5 O)]) [0, 1, 2, 3, 4] rfl) (hD.sub (ws' := [(ht, .inr (0, [.int (nI r), .ref hc, .ref hf, .ref hp, .ref ho])), (hc, LA cJ 16 C), (hf, LA cJ 16 F), (hp, LA cJ 16 P), (ho, LA cJ 5 O)]) [0, 1, 2, 3, 4] (by decide) rfl) rfl rfl) rfl rfl hl.1 rfl (lv_room (Nat.le_of_ble_eq_true rfl)) d_T_countUnlike_1 ⟨Nat.le_of_ble_eq_true rfl, Nat.le_of_ble_eq_true rfl⟩) (fun r_1 u_2 H locs hw_3 hP hD hS => ?_)
    try dsimp only at hw_3
    have hP : va_P D vwC [(ht, .inr (0, [.int (nI r), .ref hc, .ref hf, .ref hp, .ref ho])), (hc, LA cJ 16 C), (hf, LA cJ 16 F), (hp, LA cJ 16 P), (ho, LA cJ 5 O)] H := hP
    have hD : va_D A [(ht, .inr (0, [.int (nI r), .ref hc, .ref hf, .ref hp, .ref ho])), (hc, LA cJ 16 C), (hf, LA cJ 16 F), (hp, LA cJ 16 P), (ho, LA cJ 5 O)] := hD
    subst hw_3
    refine lv_lstore_n (lv' := [(1, .long (lI (-(O (r - 1))))), (0, .ref ht)]) hx hb d_T_countUnlike_4 rfl hl (by decide) rfl (fun ls hl => ?_)
    refine lv_aload_n hx hb d_T_countUnlike_5 rfl (lv_at hl 1 rfl) ?_
    refine xcl (wc := [(ht, .inr (0, [.int (nI r), .ref hc, .ref hf, .ref hp, .ref ho])), (hc, LA cJ 16 C), (hf, LA cJ 16 F), (hp, LA cJ 16 P), (ho, LA cJ 5 O)]) (wr := []) hP hD hS hA [0, 1, 2, 3, 4] [] rfl rfl (by decide) (by decide) (va_runV (As := []) (rest := []) ⟨hx, hb, hml, hown, hts⟩ (c_pairs l D cJ ht hc hf hp ho r C F P O (by first | assumption | omega) (by first | assumption | omega) H.size) (cwV 0 hts (gV tw_198 tw_153 tw_154 tw_2 tw_155) rfl rfl rfl ⟨rfl, hd_T_sumOfPairs⟩ ⟨Nat.le_of_ble_eq_true rfl, Nat.le_of_ble_eq_true rfl⟩) (xPreV (C := R_T) (T := F_T) (N := 5) (q0 := 0) hN hK (hP.sub (ws' := [(ht, .inr (0, [.int (nI r), .ref hc, .ref hf, .ref hp, .ref ho])), (hc, LA cJ 16 C), (hf, LA cJ 16 F), (hp, LA cJ 16 P), (ho, LA cJ 5 O)]) [0, 1, 2, 3, 4] rfl) (hD.sub (ws' := [(ht, .inr (0, [.int (nI r), .ref hc, .ref hf, .ref hp, .ref ho])), (hc, LA cJ 16 C), (hf, LA cJ 16 F), (hp, LA cJ 16 P), (ho, LA cJ 5 O)]) [0, 1, 2, 3, 4] (by decide) rfl) rfl rfl) rfl rfl hl.1 rfl (lv_room (Nat.le_of_ble_eq_true rfl)) d_T_countUnlike_6 ⟨Nat.le_of_ble_eq_true rfl, Nat.le_of_ble_eq_true rfl⟩) (fun r_4 u_5 H locs hw_6 hP hD hS => ?_)
    try dsimp only at hw_6
    have hP : va_P D vwC [(ht, .inr (0, [.int (nI r), .ref hc, .ref hf, .ref hp, .ref ho])), (hc, LA cJ 16 C), (hf, LA cJ 16 F), (hp, LA cJ 16 P), (ho, LA cJ 5 O)] H := hP
    have hD : va_D A [(ht, .inr (0, [.int (nI r), .ref hc, .ref hf, .ref hp, .ref ho])), (hc, LA cJ 16 C), (hf, LA cJ 16 F), (hp, LA cJ 16 P), (ho, LA cJ 5 O)] := hD
    subst hw_6
    refine lv_lstore_n (lv' := [(3, .long (lI (O (r - 2)))), (1, .long (lI (-(O (r - 1))))), (0, .ref ht)]) hx hb d_T_countUnlike_9 rfl hl (by decide) rfl (fun ls hl => ?_)
    refine lv_aload_n hx hb d_T_countUnlike_10 rfl (lv_at hl 2 rfl) ?_
    refine va_get (D := D) (ci := 0) (v := .int (nI r)) (C := R_T) (T := F_T) (N := 5) hx hb hts iw_T hown hK hP 0 rfl rfl 0 (by decide) (hts _ tw_25) (fun _ h9 => h9) rfl d_T_countUnlike_11 ?_
    refine lv_iconst (v := nI 2) hx hb d_T_countUnlike_14 (by decide) ?_
    refine xn_ne (tgt := 36) hx hb (by omega) (by omega) d_T_countUnlike_15 (by decide) (fun c15_6 => ?_) (fun c15_6 => ?_)
    · skip
      refine lv_lload_n hx hb d_T_countUnlike_36 rfl (lv_at hl 1 rfl) ?_
      refine lv_lload_n hx hb d_T_countUnlike_37 rfl (lv_at hl 1 rfl) ?_
      refine xl_mul hx hb d_T_countUnlike_38 ?_
      refine lv_ldc2 (v := lI (3)) hx hb hown (hts _ tw_200) d_T_countUnlike_39 ?_
      refine lv_lload_n hx hb d_T_countUnlike_42 rfl (lv_at hl 0 rfl) ?_
      refine xl_mul hx hb d_T_countUnlike_43 ?_
      refine xl_ne (tgt := 50) hx hb (by first | assumption | (unfold lB; omega)) (by first | assumption | (unfold lB; omega)) d_T_countUnlike_44 d_T_countUnlike_45 (by decide) (fun c45_7 => ?_) (fun c45_7 => ?_)
      · skip
        refine lv_lload_n hx hb d_T_countUnlike_50 rfl (lv_at hl 1 rfl) ?_
        refine lv_lload_n hx hb d_T_countUnlike_51 rfl (lv_at hl 0 rfl) ?_
        refine lv_aload_n hx hb d_T_countUnlike_52 rfl (lv_at hl 2 rfl) ?_
        refine xcl (wc := [(ht, .inr (0, [.int (nI r), .ref hc, .ref hf, .ref hp, .ref ho])), (hc, LA cJ 16 C), (hf, LA cJ 16 F), (hp, LA cJ 16 P), (ho, LA cJ 5 O)]) (wr := []) hP hD hS hA [0, 1, 2, 3, 4] [] rfl rfl (by decide) (by decide) (va_runV (As := []) (rest := [.long (lI (O (r - 2))), .long (lI (-(O (r - 1))))]) ⟨hx, hb, hml, hown, hts⟩ (c_product l D cJ ht hc hf hp ho r C F P O (by first | assumption | omega) H.size) (cwV 0 hts (gV tw_201 tw_157 tw_158 tw_2 tw_159) rfl rfl rfl ⟨rfl, hd_T_productOfValues⟩ ⟨Nat.le_of_ble_eq_true rfl, Nat.le_of_ble_eq_true rfl⟩) (xPreV (C := R_T) (T := F_T) (N := 5) (q0 := 0) hN hK (hP.sub (ws' := [(ht, .inr (0, [.int (nI r), .ref hc, .ref hf, .ref hp, .ref ho])), (hc, LA cJ 16 C), (hf, LA cJ 16 F), (hp, LA cJ 16 P), (ho, LA cJ 5 O)]) [0, 1, 2, 3, 4] rfl) (hD.sub (ws' := [(ht, .inr (0, [.int (nI r), .ref hc, .ref hf, .ref hp, .ref ho])), (hc, LA cJ 16 C), (hf, LA cJ 16 F), (hp, LA cJ 16 P), (ho, LA cJ 5 O)]) [0, 1, 2, 3, 4] (by decide) rfl) rfl rfl) rfl rfl hl.1 rfl (lv_room (Nat.le_of_ble_eq_true rfl)) d_T_countUnlike_53 ⟨Nat.le_of_ble_eq_true rfl, Nat.le_of_ble_eq_true rfl⟩) (fun r_9 u_10 H locs hw_11 hP hD hS => ?_)
        try dsimp only at hw_11
        have hP : va_P D vwC [(ht, .inr (0, [.int (nI r), .ref hc, .ref hf, .ref hp, .ref ho])), (hc, LA cJ 16 C), (hf, LA cJ 16 F), (hp, LA cJ 16 P), (ho, LA cJ 5 O)] H := hP
        have hD : va_D A [(ht, .inr (0, [.int (nI r), .ref hc, .ref hf, .ref hp, .ref ho])), (hc, LA cJ 16 C), (hf, LA cJ 16 F), (hp, LA cJ 16 P), (ho, LA cJ 5 O)] := hD
        subst hw_11
        rw [if_neg (show ¬ r % 2 = 0 from by omega)]
        refine xcl (wc := []) (wr := [(ht, .inr (0, [.int (nI r), .ref hc, .ref hf, .ref hp, .ref ho])), (hc, LA cJ 16 C), (hf, LA cJ 16 F), (hp, LA cJ 16 P), (ho, LA cJ 5 O)]) hP hD hS hA [] [0, 1, 2, 3, 4] rfl rfl (by decide) (by decide) (va_runS (As := [.long (lI (-(O (r - 1)))), .long (lI (O (r - 2))), .long (lI (-(O 0)))]) (rest := []) ⟨hx, hb, hml, hown, hts⟩ (c_disc l D cJ (-(O (r - 1))) (O (r - 2)) (-(O 0)) H.size) (cwS 3 hts (gS tw_202 tw_203 tw_2 tw_204) rfl rfl rfl ⟨rfl, hd_T_discriminant⟩ ⟨Nat.le_of_ble_eq_true rfl, Nat.le_of_ble_eq_true rfl⟩) (xPreS hN hK (hP.sub (ws' := []) [] rfl) (hD.sub (ws' := []) [] (by decide) rfl)) rfl rfl hl.1 rfl (lv_room (Nat.le_of_ble_eq_true rfl)) d_T_countUnlike_56 ⟨Nat.le_of_ble_eq_true rfl, Nat.le_of_ble_eq_true rfl⟩) (fun r_12 u_13 H locs hw_14 hP hD hS => ?_)
        try dsimp only at hw_14
        have hP : va_P D vwC [(ht, .inr (0, [.int (nI r), .ref hc, .ref hf, .ref hp, .ref ho])), (hc, LA cJ 16 C), (hf, LA cJ 16 F), (hp, LA cJ 16 P), (ho, LA cJ 5 O)] H := hP
        have hD : va_D A [(ht, .inr (0, [.int (nI r), .ref hc, .ref hf, .ref hp, .ref ho])), (hc, LA cJ 16 C), (hf, LA cJ 16 F), (hp, LA cJ 16 P), (ho, LA cJ 5 O)] := hD
        subst hw_14
        refine lv_lconst (v := lI 0) hx hb d_T_countUnlike_59 (by decide) ?_
        refine xl_ne (tgt := 68) hx hb (by first | assumption | (unfold lB; omega)) ⟨by decide, by decide⟩ d_T_countUnlike_60 d_T_countUnlike_61 (by decide) (fun c61_14 => ?_) (fun c61_14 => ?_)
        · skip
          refine lv_iconst (v := nI 3) hx hb d_T_countUnlike_68 (by decide) ?_
          exact hret H locs _ ls (nI 3) () d_T_countUnlike_69 (by unfold unlZ; rw [if_neg c15_6]; rw [if_neg c45_7]; rw [if_neg c61_14]) hP hD hS
        · skip
          refine lv_iconst (v := nI 2) hx hb d_T_countUnlike_64 (by decide) ?_
          refine lv_goto (tgt := 69) hx hb d_T_countUnlike_65 (by decide) ?_
          exact hret H locs _ ls (nI 2) () d_T_countUnlike_69 (by unfold unlZ; rw [if_neg c15_6]; rw [if_neg c45_7]; rw [if_pos c61_14]) hP hD hS
      · skip
        refine lv_iconst (v := nI 1) hx hb d_T_countUnlike_48 (by decide) ?_
        exact hret H locs _ ls (nI 1) () d_T_countUnlike_49 (by unfold unlZ; rw [if_neg c15_6]; rw [if_pos c45_7]) hP hD hS
    · skip
      refine lv_lload_n hx hb d_T_countUnlike_18 rfl (lv_at hl 1 rfl) ?_
      refine lv_lload_n hx hb d_T_countUnlike_19 rfl (lv_at hl 1 rfl) ?_
      refine xl_mul hx hb d_T_countUnlike_20 ?_
      refine lv_ldc2 (v := lI (4)) hx hb hown (hts _ tw_199) d_T_countUnlike_21 ?_
      refine lv_lload_n hx hb d_T_countUnlike_24 rfl (lv_at hl 0 rfl) ?_
      refine xl_mul hx hb d_T_countUnlike_25 ?_
      refine xl_ne (tgt := 34) hx hb (by first | assumption | (unfold lB; omega)) (by first | assumption | (unfold lB; omega)) d_T_countUnlike_26 d_T_countUnlike_27 (by decide) (fun c27_15 => ?_) (fun c27_15 => ?_)
      · skip
        refine lv_iconst (v := nI 2) hx hb d_T_countUnlike_34 (by decide) ?_
        exact hret H locs _ ls (nI 2) () d_T_countUnlike_35 (by unfold unlZ; rw [if_pos c15_6]; rw [if_neg c27_15]) hP hD hS
      · skip
        refine lv_iconst (v := nI 1) hx hb d_T_countUnlike_30 (by decide) ?_
        refine lv_goto (tgt := 35) hx hb d_T_countUnlike_31 (by decide) ?_
        exact hret H locs _ ls (nI 1) () d_T_countUnlike_35 (by unfold unlZ; rw [if_pos c15_6]; rw [if_pos c27_15]) hP hD hS
  rw [hH, hlc] at key; exact key
