/-! contracts of ConicKinds: helpers (wip/spec_class.py, specs1) -/
theorem neg_i2l {n : Nat} (h : n < 2 ^ 31) : (-nI n).toInt64 = lI (-((n : Nat) : Int)) := by
  show Int64.ofInt (-nI n).toInt = _
  rw [sb_negT h]; rfl
theorem nI_range {v : Int32} {d : Nat} (h : ¬ (v.toInt < 0 ∨ (d : Int) < v.toInt)) : ∃ k, k ≤ d ∧ v = nI k := by
  refine ⟨v.toInt.toNat, by omega, ?_⟩
  have h2 := Int32.toInt_lt v
  rw [← Int32.toInt_inj, nI_toInt (by omega)]
  omega
/-- 2 above 0, 1 at 0, 0 below -/
def sgc (z : Int) : Nat := if z = 0 then 1 else if 0 < z then 2 else 0
def inB (v b : Int) : Prop := -b ≤ v ∧ v ≤ b
theorem tp_lB {B : Nat → Int} {d : Nat} {x y z dn : Int32} (h : B 0 = dn.toInt ∧ B 1 = x.toInt ∧ B 2 = y.toInt ∧ B 3 = (if d = 3 then z.toInt else 0)) : ∀ k, k < 4 → lB (B k) := by
  obtain ⟨h0, h1, h2, h3⟩ := h
  intro k hk
  match k, hk with
  | 0, _ => rw [h0]; exact lB_i _
  | 1, _ => rw [h1]; exact lB_i _
  | 2, _ => rw [h2]; exact lB_i _
  | 3, _ => rw [h3]; split; exact lB_i _; exact lB_0
theorem tp_iff {B : Nat → Int} {d : Nat} {x y z dn : Int32} (h : B 0 = dn.toInt ∧ B 1 = x.toInt ∧ B 2 = y.toInt ∧ B 3 = (if d = 3 then z.toInt else 0)) (q : ∀ k, k < 4 → inB (B k) (1000 : Nat)) : inB x.toInt 1000 ∧ inB y.toInt 1000 ∧ (d = 3 → inB z.toInt 1000) := by
  obtain ⟨h0, h1, h2, h3⟩ := h
  refine ⟨?_, ?_, fun e => ?_⟩
  · have := q 1 (by decide); rw [h1] at this; exact this
  · have := q 2 (by decide); rw [h2] at this; exact this
  · have := q 3 (by decide); rw [h3, if_pos e] at this; exact this
theorem tp_fi {B : Nat → Int} {d : Nat} {x y z dn : Int32} (h : B 0 = dn.toInt ∧ B 1 = x.toInt ∧ B 2 = y.toInt ∧ B 3 = (if d = 3 then z.toInt else 0)) (q : (1 ≤ dn.toInt ∧ dn.toInt ≤ 100) ∧ inB x.toInt 1000 ∧ inB y.toInt 1000 ∧ (d = 3 → inB z.toInt 1000)) : ∀ k, k < 4 → inB (B k) (1000 : Nat) := by
  obtain ⟨h0, h1, h2, h3⟩ := h
  obtain ⟨q0, q1, q2, q3⟩ := q
  intro k hk
  match k, hk with
  | 0, _ => rw [h0]; exact ⟨by omega, by omega⟩
  | 1, _ => rw [h1]; exact q1
  | 2, _ => rw [h2]; exact q2
  | 3, _ =>
    rw [h3]
    by_cases e : d = 3
    · rw [if_pos e]; exact q3 e
    · rw [if_neg e]; exact ⟨by omega, by omega⟩
def rowN (Fm G : Nat → Int) (i : Nat) : Nat → Int
  | 0 => 0
  | j + 1 => rowN Fm G i j + Fm (4 * i + j) * G j
def frmN (Fm L G : Nat → Int) (d : Nat) : Nat → Int
  | 0 => 0
  | i + 1 => frmN Fm L G d i + L i * rowN Fm G i (d + 1)
theorem gcd_half {u v : Nat} (h0 : 0 < v) (h : v ≤ u) : 2 * (u % v) ≤ u := by
  have h1 := Nat.div_add_mod u v
  have h2 := Nat.mod_lt u h0
  have h3 : 1 ≤ u / v := Nat.div_pos h h0
  have h4 : v * 1 ≤ v * (u / v) := Nat.mul_le_mul_left v h3
  omega
/-- Euclid's measure -/
def euI (t u v : Nat) : Prop := (t = 0 ∧ u * v < 2 ^ 80) ∨ (v ≤ u ∧ u * v * 2 ^ t < 2 ^ 81)
theorem euI_step {t u v : Nat} (h0 : 0 < v) (h : euI t u v) : euI (t + 1) v (u % v) := by
  have hm := Nat.mod_lt u h0
  have hc : v * (u % v) = (u % v) * v := Nat.mul_comm _ _
  rcases Nat.lt_or_ge u v with hlt | hge
  · rcases h with ⟨rfl, h⟩ | ⟨h, _⟩
    · refine Or.inr ⟨Nat.le_of_lt hm, ?_⟩
      rw [Nat.mod_eq_of_lt hlt, Nat.mul_comm v u, Nat.zero_add, Nat.pow_one]
      omega
    · omega
  · refine Or.inr ⟨Nat.le_of_lt hm, ?_⟩
    have h2 := gcd_half h0 hge
    have h3 : v * (2 * (u % v)) ≤ v * u := Nat.mul_le_mul_left v h2
    have h4 : v * (u % v) * 2 ^ (t + 1) = v * (2 * (u % v)) * 2 ^ t := by
      rw [Nat.pow_succ]
      simp only [Nat.mul_assoc, Nat.mul_comm, Nat.mul_left_comm]
    have h5 : v * (2 * (u % v)) * 2 ^ t ≤ v * u * 2 ^ t := Nat.mul_le_mul_right _ h3
    rw [h4]
    rw [Nat.mul_comm v u] at h5
    rcases h with ⟨rfl, h⟩ | ⟨_, h⟩
    · omega
    · exact Nat.lt_of_le_of_lt h5 h
theorem euI_end {t u v : Nat} (ht : t = 100) (h : euI t u v) : v = 0 := by
  subst ht
  rcases h with ⟨h, _⟩ | ⟨h1, h2⟩
  · exact absurd h (by decide)
  · rcases Nat.eq_zero_or_pos v with q | q
    · exact q
    · have h3 : 1 * 1 ≤ u * v := Nat.mul_le_mul (by omega) q
      omega
theorem euI_0 {a b : Nat} (ha : a < 2 ^ 40) (hb : b < 2 ^ 40) : euI 0 a b := by
  refine Or.inl ⟨rfl, ?_⟩
  have h1 : a * b ≤ (2 ^ 40 - 1) * (2 ^ 40 - 1) := Nat.mul_le_mul (by omega) (by omega)
  exact Nat.lt_of_le_of_lt h1 (by decide)
def NOZ : Int := -1000000000000000000
/-- a fraction's part in lowest terms -/
def pfr (up dn pt : Int) : Int := if dn = 0 then NOZ else (if pt = 0 then up else dn).tdiv (if dn < 0 then -((Nat.gcd up.natAbs dn.natAbs : Nat) : Int) else ((Nat.gcd up.natAbs dn.natAbs : Nat) : Int))
def gcdN (G : Nat → Int) : Nat → Nat
  | 0 => 0
  | n + 1 => Nat.gcd (gcdN G n) (G n).natAbs
def leadN (G : Nat → Int) : Nat → Int
  | 0 => 0
  | n + 1 => if leadN G n = 0 then G n else leadN G n
/-- the divisor with its sign -/
def dvN (G : Nat → Int) (n : Nat) : Int := if leadN G n < 0 then -((gcdN G n : Nat) : Int) else ((gcdN G n : Nat) : Int)
theorem gcdN_lt {G : Nat → Int} {B : Nat} (hB : 0 < B) : ∀ {n : Nat}, (∀ k, k < n → (G k).natAbs < B) → gcdN G n < B
  | 0, _ => hB
  | n + 1, h => by
    show Nat.gcd (gcdN G n) (G n).natAbs < B
    have i := gcdN_lt hB (n := n) (fun k hk => h k (by omega))
    rcases Nat.eq_zero_or_pos (gcdN G n) with q | q
    · rw [q, Nat.gcd_zero_left]; exact h n (by omega)
    · exact Nat.lt_of_le_of_lt (Nat.gcd_le_left _ q) i
theorem leadN_lt {G : Nat → Int} {B : Nat} (hB : 0 < B) : ∀ {n : Nat}, (∀ k, k < n → (G k).natAbs < B) → (leadN G n).natAbs < B
  | 0, _ => hB
  | n + 1, h => by
    have i := leadN_lt hB (n := n) (fun k hk => h k (by omega))
    show (if leadN G n = 0 then G n else leadN G n).natAbs < B
    split
    · exact h n (by omega)
    · exact i

def rm_c_noPlace : Room := { frames := 0, cells := 0, slots := 0, locals := 0 }
set_option maxHeartbeats 4000000 in
set_option maxRecDepth 100000 in
/-- no place -/
theorem c_noPlace (l : Launch) (D : va_G) (cJ : ClassId) (h : Nat) (d : Nat) (kb : Int32) (fo : Nat) (ke : Nat) (ht : Nat) (wo : Nat) (fi : Nat) (se : Nat) (v : Int32) (hd : d ≤ 3) (sz : Nat) : xMz l y_K_isNoPlace (Cond.code y_K_isNoPlace b_K_isNoPlace 2 (some .boolean) :: tW) rm_c_noPlace [.ref h, .int v] D vwC [(cJ, .long)] sz [(h, .inr (1, [.int (nI d), .int kb, .ref fo, .ref ke, .ref ht, .ref wo, .ref fi, .ref se]))] (fun (rv : Int32) (_ : Unit) => ((rv = nI 1 ∧ (v.toInt < 0 ∨ (d : Int) < v.toInt)) ∨ (rv = nI 0 ∧ ¬ (v.toInt < 0 ∨ (d : Int) < v.toInt)))) (fun (_ : Unit) => [(h, .inr (1, [.int (nI d), .int kb, .ref fo, .ref ke, .ref ht, .ref wo, .ref fi, .ref se]))]) 0 0 := by
  refine xoz (cc := b_K_isNoPlace) (maxL := 2) (by decide) rfl (Nat.le_of_ble_eq_true rfl) (fun r u h => by rcases h with h | h; exact Or.inr h.1; exact Or.inl h.1) ?_
  intro p e s m args below meth c Q A hx hb hml hts hown hN hA hS hP hK hD hret ls hl
  have hl : lv_has ls 2 [(0, .ref h), (1, .int v)] := hl
  obtain ⟨H, hH⟩ : ∃ z, z = s.heap := ⟨_, rfl⟩
  obtain ⟨locs, hlc⟩ : ∃ z : List Loc, z = [] := ⟨_, rfl⟩
  rw [← hH] at hP
  have hS : va_S A s.heap H locs := by rw [hH, hlc]; exact hS
  have key : W p l e rm_c_noPlace s m args below meth c H locs 0 0 Q (F0 m 0 ls []) := by
    refine lv_iload_n hx hb d_K_isNoPlace_0 rfl (lv_at hl 1 rfl) ?_
    refine xz_lt (tgt := 12) (X := v.toInt) hx hb rfl d_K_isNoPlace_1 (by decide) (fun c1_0 => ?_) (fun c1_0 => ?_)
    · skip
      refine lv_iconst (v := nI 1) hx hb d_K_isNoPlace_12 (by decide) ?_
      refine lv_goto (tgt := 17) hx hb d_K_isNoPlace_13 (by decide) ?_
      exact hret H locs _ ls (nI 1) () d_K_isNoPlace_17 (Or.inl ⟨rfl, (by omega)⟩) hP hD hS
    · skip
      refine lv_iload_n hx hb d_K_isNoPlace_4 rfl (lv_at hl 1 rfl) ?_
      refine lv_aload_n hx hb d_K_isNoPlace_5 rfl (lv_at hl 0 rfl) ?_
      refine va_get (D := D) (ci := 1) (v := .int (nI d)) (C := R_K) (T := F_K) (N := 8) hx hb hts iw_K hown hK hP 0 rfl rfl 0 (by decide) (hts _ tw_42) (fun _ h9 => h9) rfl d_K_isNoPlace_6 ?_
      refine xi_le (tgt := 16) (X := v.toInt) (Y := (d : Nat)) hx hb rfl (nI_toInt (by omega)) d_K_isNoPlace_9 (by decide) (fun c9_1 => ?_) (fun c9_1 => ?_)
      · skip
        refine lv_iconst (v := nI 0) hx hb d_K_isNoPlace_16 (by decide) ?_
        exact hret H locs _ ls (nI 0) () d_K_isNoPlace_17 (Or.inr ⟨rfl, (by omega)⟩) hP hD hS
      · skip
        refine lv_iconst (v := nI 1) hx hb d_K_isNoPlace_12 (by decide) ?_
        refine lv_goto (tgt := 17) hx hb d_K_isNoPlace_13 (by decide) ?_
        exact hret H locs _ ls (nI 1) () d_K_isNoPlace_17 (Or.inl ⟨rfl, (by omega)⟩) hP hD hS
  rw [hH, hlc] at key; exact key

def rm_c_noPart : Room := { frames := 0, cells := 0, slots := 0, locals := 0 }
set_option maxHeartbeats 4000000 in
set_option maxRecDepth 100000 in
/-- no part -/
theorem c_noPart (l : Launch) (D : va_G) (cJ : ClassId) (v : Int32)  (sz : Nat) : xMz l y_K_isNoPart (Cond.code y_K_isNoPart b_K_isNoPart 1 (some .boolean) :: tW) rm_c_noPart [.int v] D vwC [(cJ, .long)] sz [] (fun (rv : Int32) (_ : Unit) => ((rv = nI 1 ∧ (v.toInt ≠ 0 ∧ v.toInt ≠ 1)) ∨ (rv = nI 0 ∧ ¬ (v.toInt ≠ 0 ∧ v.toInt ≠ 1)))) (fun (_ : Unit) => []) 0 0 := by
  refine xoz (cc := b_K_isNoPart) (maxL := 1) (by decide) rfl (Nat.le_of_ble_eq_true rfl) (fun r u h => by rcases h with h | h; exact Or.inr h.1; exact Or.inl h.1) ?_
  intro p e s m args below meth c Q A hx hb hml hts hown hN hA hS hP hK hD hret ls hl
  have hl : lv_has ls 1 [(0, .int v)] := hl
  obtain ⟨H, hH⟩ : ∃ z, z = s.heap := ⟨_, rfl⟩
  obtain ⟨locs, hlc⟩ : ∃ z : List Loc, z = [] := ⟨_, rfl⟩
  rw [← hH] at hP
  have hS : va_S A s.heap H locs := by rw [hH, hlc]; exact hS
  have key : W p l e rm_c_noPart s m args below meth c H locs 0 0 Q (F0 m 0 ls []) := by
    refine lv_iload_n hx hb d_K_isNoPart_0 rfl (lv_at hl 0 rfl) ?_
    refine xz_eq (tgt := 13) (X := v.toInt) hx hb rfl d_K_isNoPart_1 (by decide) (fun c1_0 => ?_) (fun c1_0 => ?_)
    · skip
      refine lv_iconst (v := nI 0) hx hb d_K_isNoPart_13 (by decide) ?_
      exact hret H locs _ ls (nI 0) () d_K_isNoPart_14 (Or.inr ⟨rfl, (by omega)⟩) hP hD hS
    · skip
      refine lv_iload_n hx hb d_K_isNoPart_4 rfl (lv_at hl 0 rfl) ?_
      refine lv_iconst (v := nI 1) hx hb d_K_isNoPart_5 (by decide) ?_
      refine xi_eq (tgt := 13) (X := v.toInt) (Y := (1 : Nat)) hx hb rfl (nI_toInt (by omega)) d_K_isNoPart_6 (by decide) (fun c6_1 => ?_) (fun c6_1 => ?_)
      · skip
        refine lv_iconst (v := nI 0) hx hb d_K_isNoPart_13 (by decide) ?_
        exact hret H locs _ ls (nI 0) () d_K_isNoPart_14 (Or.inr ⟨rfl, (by omega)⟩) hP hD hS
      · skip
        refine lv_iconst (v := nI 1) hx hb d_K_isNoPart_9 (by decide) ?_
        refine lv_goto (tgt := 14) hx hb d_K_isNoPart_10 (by decide) ?_
        exact hret H locs _ ls (nI 1) () d_K_isNoPart_14 (Or.inl ⟨rfl, (by omega)⟩) hP hD hS
  rw [hH, hlc] at key; exact key

def rm_c_beyond : Room := { frames := 0, cells := 0, slots := 0, locals := 0 }
set_option maxHeartbeats 4000000 in
set_option maxRecDepth 100000 in
/-- beyond its bound -/
theorem c_beyond (l : Launch) (D : va_G) (cJ : ClassId) (z : Int) (mo : Nat) (hz : lB z) (hmo : mo ≤ 10000) (sz : Nat) : xMz l y_K_isBeyond (Cond.code y_K_isBeyond b_K_isBeyond 3 (some .boolean) :: tW) rm_c_beyond [.long (lI z), .int (nI mo)] D vwC [(cJ, .long)] sz [] (fun (rv : Int32) (_ : Unit) => ((rv = nI 1 ∧ (z < -(mo : Int) ∨ (mo : Int) < z)) ∨ (rv = nI 0 ∧ ¬ (z < -(mo : Int) ∨ (mo : Int) < z)))) (fun (_ : Unit) => []) 0 0 := by
  refine xoz (cc := b_K_isBeyond) (maxL := 3) (by decide) rfl (Nat.le_of_ble_eq_true rfl) (fun r u h => by rcases h with h | h; exact Or.inr h.1; exact Or.inl h.1) ?_
  intro p e s m args below meth c Q A hx hb hml hts hown hN hA hS hP hK hD hret ls hl
  have hl : lv_has ls 3 [(0, .long (lI z)), (2, .int (nI mo))] := hl
  obtain ⟨H, hH⟩ : ∃ z, z = s.heap := ⟨_, rfl⟩
  obtain ⟨locs, hlc⟩ : ∃ z : List Loc, z = [] := ⟨_, rfl⟩
  rw [← hH] at hP
  have hS : va_S A s.heap H locs := by rw [hH, hlc]; exact hS
  have key : W p l e rm_c_beyond s m args below meth c H locs 0 0 Q (F0 m 0 ls []) := by
    refine lv_lload_n hx hb d_K_isBeyond_0 rfl (lv_at hl 0 rfl) ?_
    refine lv_iload_n hx hb d_K_isBeyond_1 rfl (lv_at hl 1 rfl) ?_
    refine lv_ineg hx hb d_K_isBeyond_2 ?_
    refine lv_i2l (v := lI (-((mo : Nat) : Int))) hx hb d_K_isBeyond_3 (neg_i2l (by omega)) ?_
    refine xl_lt (tgt := 15) hx hb (by first | assumption | (unfold lB; omega)) (by first | assumption | (unfold lB; omega)) d_K_isBeyond_4 d_K_isBeyond_5 (by decide) (fun c5_0 => ?_) (fun c5_0 => ?_)
    · skip
      refine lv_iconst (v := nI 1) hx hb d_K_isBeyond_15 (by decide) ?_
      refine lv_goto (tgt := 20) hx hb d_K_isBeyond_16 (by decide) ?_
      exact hret H locs _ ls (nI 1) () d_K_isBeyond_20 (Or.inl ⟨rfl, (by omega)⟩) hP hD hS
    · skip
      refine lv_lload_n hx hb d_K_isBeyond_8 rfl (lv_at hl 0 rfl) ?_
      refine lv_iload_n hx hb d_K_isBeyond_9 rfl (lv_at hl 1 rfl) ?_
      refine xn_i2l hx hb (by omega) d_K_isBeyond_10 ?_
      refine xl_le (tgt := 19) hx hb (by first | assumption | (unfold lB; omega)) (by first | assumption | (unfold lB; omega)) d_K_isBeyond_11 d_K_isBeyond_12 (by decide) (fun c12_1 => ?_) (fun c12_1 => ?_)
      · skip
        refine lv_iconst (v := nI 0) hx hb d_K_isBeyond_19 (by decide) ?_
        exact hret H locs _ ls (nI 0) () d_K_isBeyond_20 (Or.inr ⟨rfl, (by omega)⟩) hP hD hS
      · skip
        refine lv_iconst (v := nI 1) hx hb d_K_isBeyond_15 (by decide) ?_
        refine lv_goto (tgt := 20) hx hb d_K_isBeyond_16 (by decide) ?_
        exact hret H locs _ ls (nI 1) () d_K_isBeyond_20 (Or.inl ⟨rfl, (by omega)⟩) hP hD hS
  rw [hH, hlc] at key; exact key

def rm_c_sign : Room := { frames := 0, cells := 0, slots := 0, locals := 0 }
set_option maxHeartbeats 4000000 in
set_option maxRecDepth 100000 in
/-- the sign, told -/
theorem c_sign (l : Launch) (D : va_G) (cJ : ClassId) (z : Int) (hz : lB z) (sz : Nat) : xMi l y_K_signCode (Cond.code y_K_signCode b_K_signCode 2 (some .int) :: tW) rm_c_sign [.long (lI z)] D vwC [(cJ, .long)] sz [] (fun (rv : Int32) (_ : Unit) => rv = nI (sgc z)) (fun (_ : Unit) => []) 0 0 := by
  refine xoi (cc := b_K_signCode) (maxL := 2) (by decide) rfl (Nat.le_of_ble_eq_true rfl) ?_
  intro p e s m args below meth c Q A hx hb hml hts hown hN hA hS hP hK hD hret ls hl
  have hl : lv_has ls 2 [(0, .long (lI z))] := hl
  obtain ⟨H, hH⟩ : ∃ z, z = s.heap := ⟨_, rfl⟩
  obtain ⟨locs, hlc⟩ : ∃ z : List Loc, z = [] := ⟨_, rfl⟩
  rw [← hH] at hP
  have hS : va_S A s.heap H locs := by rw [hH, hlc]; exact hS
  have key : W p l e rm_c_sign s m args below meth c H locs 0 0 Q (F0 m 0 ls []) := by
    refine lv_lload_n hx hb d_K_signCode_0 rfl (lv_at hl 0 rfl) ?_
    refine lv_lconst (v := lI 0) hx hb d_K_signCode_1 (by decide) ?_
    refine xl_ne (tgt := 8) hx hb (by first | assumption | (unfold lB; omega)) ⟨by decide, by decide⟩ d_K_signCode_2 d_K_signCode_3 (by decide) (fun c3_0 => ?_) (fun c3_0 => ?_)
    · skip
      refine lv_lload_n hx hb d_K_signCode_8 rfl (lv_at hl 0 rfl) ?_
      refine lv_lconst (v := lI 0) hx hb d_K_signCode_9 (by decide) ?_
      refine xl_le (tgt := 18) hx hb (by first | assumption | (unfold lB; omega)) ⟨by decide, by decide⟩ d_K_signCode_10 d_K_signCode_11 (by decide) (fun c11_1 => ?_) (fun c11_1 => ?_)
      · skip
        refine lv_iconst (v := nI 0) hx hb d_K_signCode_18 (by decide) ?_
        exact hret H locs _ ls (nI 0) () d_K_signCode_19 (by unfold sgc; split <;> (try split) <;> first | rfl | omega) hP hD hS
      · skip
        refine lv_iconst (v := nI 2) hx hb d_K_signCode_14 (by decide) ?_
        refine lv_goto (tgt := 19) hx hb d_K_signCode_15 (by decide) ?_
        exact hret H locs _ ls (nI 2) () d_K_signCode_19 (by unfold sgc; split <;> (try split) <;> first | rfl | omega) hP hD hS
    · skip
      refine lv_iconst (v := nI 1) hx hb d_K_signCode_6 (by decide) ?_
      exact hret H locs _ ls (nI 1) () d_K_signCode_7 (by unfold sgc; split <;> (try split) <;> first | rfl | omega) hP hD hS
  rw [hH, hlc] at key; exact key

def rm_c_setRow : Room := { frames := 0, cells := 0, slots := 0, locals := 0 }
set_option maxHeartbeats 4000000 in
set_option maxRecDepth 100000 in
/-- a row of four -/
theorem c_setRow (l : Launch) (D : va_G) (cJ : ClassId) (h : Nat) (d : Nat) (kb : Int32) (fo : Nat) (ke : Nat) (ht : Nat) (wo : Nat) (fi : Nat) (se : Nat) (a : Nat) (G : Nat → Int) (v0 : Int) (v1 : Int) (v2 : Int) (v3 : Int) (hd : d ≤ 3) (sz : Nat) : xMv l y_K_setRow (Cond.code y_K_setRow b_K_setRow 10 none :: tW) rm_c_setRow [.ref h, .ref a, .long (lI v0), .long (lI v1), .long (lI v2), .long (lI v3)] D vwC [(cJ, .long)] sz [(h, .inr (1, [.int (nI d), .int kb, .ref fo, .ref ke, .ref ht, .ref wo, .ref fi, .ref se])), (a, LA cJ 4 G)] (fun (uo : (Nat → Int)) => uo 0 = v0 ∧ uo 1 = v1 ∧ uo 2 = v2 ∧ uo 3 = (if d = 3 then v3 else 0)) (fun (uo : (Nat → Int)) => [(h, .inr (1, [.int (nI d), .int kb, .ref fo, .ref ke, .ref ht, .ref wo, .ref fi, .ref se])), (a, LA cJ 4 uo)]) 0 0 := by
  refine xov (cc := b_K_setRow) (maxL := 10) (by decide) rfl (Nat.le_of_ble_eq_true rfl) ?_
  intro p e s m args below meth c Q A hx hb hml hts hown hN hA hS hP hK hD hret ls hl
  have hl : lv_has ls 10 [(0, .ref h), (1, .ref a), (2, .long (lI v0)), (4, .long (lI v1)), (6, .long (lI v2)), (8, .long (lI v3))] := hl
  obtain ⟨H, hH⟩ : ∃ z, z = s.heap := ⟨_, rfl⟩
  obtain ⟨locs, hlc⟩ : ∃ z : List Loc, z = [] := ⟨_, rfl⟩
  rw [← hH] at hP
  have hS : va_S A s.heap H locs := by rw [hH, hlc]; exact hS
  have key : W p l e rm_c_setRow s m args below meth c H locs 0 0 Q (F0 m 0 ls []) := by
    refine lv_aload_n hx hb d_K_setRow_0 rfl (lv_at hl 1 rfl) ?_
    refine lv_iconst (v := nI 0) hx hb d_K_setRow_1 (by decide) ?_
    refine lv_lload_n hx hb d_K_setRow_2 rfl (lv_at hl 2 rfl) ?_
    refine xl_ast hx hb hK hP hD hS 1 0 rfl rfl (k := 0) (by omega) (by first | decide | omega) d_K_setRow_3 (fun H locs hP hD hS => ?_)
    have hP : va_P D vwC [(h, .inr (1, [.int (nI d), .int kb, .ref fo, .ref ke, .ref ht, .ref wo, .ref fi, .ref se])), (a, LA cJ 4 (upZ G 0 v0))] H := hP
    have hD : va_D A [(h, .inr (1, [.int (nI d), .int kb, .ref fo, .ref ke, .ref ht, .ref wo, .ref fi, .ref se])), (a, LA cJ 4 (upZ G 0 v0))] := hD
    refine lv_aload_n hx hb d_K_setRow_4 rfl (lv_at hl 1 rfl) ?_
    refine lv_iconst (v := nI 1) hx hb d_K_setRow_5 (by decide) ?_
    refine lv_lload hx hb d_K_setRow_6 (lv_at hl 3 rfl) ?_
    refine xl_ast hx hb hK hP hD hS 1 0 rfl rfl (k := 1) (by omega) (by first | decide | omega) d_K_setRow_8 (fun H locs hP hD hS => ?_)
    have hP : va_P D vwC [(h, .inr (1, [.int (nI d), .int kb, .ref fo, .ref ke, .ref ht, .ref wo, .ref fi, .ref se])), (a, LA cJ 4 (upZ (upZ G 0 v0) 1 v1))] H := hP
    have hD : va_D A [(h, .inr (1, [.int (nI d), .int kb, .ref fo, .ref ke, .ref ht, .ref wo, .ref fi, .ref se])), (a, LA cJ 4 (upZ (upZ G 0 v0) 1 v1))] := hD
    refine lv_aload_n hx hb d_K_setRow_9 rfl (lv_at hl 1 rfl) ?_
    refine lv_iconst (v := nI 2) hx hb d_K_setRow_10 (by decide) ?_
    refine lv_lload hx hb d_K_setRow_11 (lv_at hl 4 rfl) ?_
    refine xl_ast hx hb hK hP hD hS 1 0 rfl rfl (k := 2) (by omega) (by first | decide | omega) d_K_setRow_13 (fun H locs hP hD hS => ?_)
    have hP : va_P D vwC [(h, .inr (1, [.int (nI d), .int kb, .ref fo, .ref ke, .ref ht, .ref wo, .ref fi, .ref se])), (a, LA cJ 4 (upZ (upZ (upZ G 0 v0) 1 v1) 2 v2))] H := hP
    have hD : va_D A [(h, .inr (1, [.int (nI d), .int kb, .ref fo, .ref ke, .ref ht, .ref wo, .ref fi, .ref se])), (a, LA cJ 4 (upZ (upZ (upZ G 0 v0) 1 v1) 2 v2))] := hD
    refine lv_aload_n hx hb d_K_setRow_14 rfl (lv_at hl 1 rfl) ?_
    refine lv_iconst (v := nI 3) hx hb d_K_setRow_15 (by decide) ?_
    refine lv_aload_n hx hb d_K_setRow_16 rfl (lv_at hl 0 rfl) ?_
    refine va_get (D := D) (ci := 1) (v := .int (nI d)) (C := R_K) (T := F_K) (N := 8) hx hb hts iw_K hown hK hP 0 rfl rfl 0 (by decide) (hts _ tw_42) (fun _ h9 => h9) rfl d_K_setRow_17 ?_
    refine lv_iconst (v := nI 3) hx hb d_K_setRow_20 (by decide) ?_
    refine xn_ne (tgt := 29) hx hb (by omega) (by omega) d_K_setRow_21 (by decide) (fun c21_0 => ?_) (fun c21_0 => ?_)
    · skip
      refine lv_lconst (v := lI 0) hx hb d_K_setRow_29 (by decide) ?_
      refine xl_ast hx hb hK hP hD hS 1 0 rfl rfl (k := 3) (by omega) (by first | decide | omega) d_K_setRow_30 (fun H locs hP hD hS => ?_)
      have hP : va_P D vwC [(h, .inr (1, [.int (nI d), .int kb, .ref fo, .ref ke, .ref ht, .ref wo, .ref fi, .ref se])), (a, LA cJ 4 (upZ (upZ (upZ (upZ G 0 v0) 1 v1) 2 v2) 3 0))] H := hP
      have hD : va_D A [(h, .inr (1, [.int (nI d), .int kb, .ref fo, .ref ke, .ref ht, .ref wo, .ref fi, .ref se])), (a, LA cJ 4 (upZ (upZ (upZ (upZ G 0 v0) 1 v1) 2 v2) 3 0))] := hD
      exact hret H locs _ ls (upZ (upZ (upZ (upZ G 0 v0) 1 v1) 2 v2) 3 0) d_K_setRow_31 ⟨rfl, rfl, rfl, (if_neg c21_0).symm⟩ hP hD hS
    · skip
      refine lv_lload hx hb d_K_setRow_24 (lv_at hl 5 rfl) ?_
      refine lv_goto (tgt := 30) hx hb d_K_setRow_26 (by decide) ?_
      refine xl_ast hx hb hK hP hD hS 1 0 rfl rfl (k := 3) (by omega) (by first | decide | omega) d_K_setRow_30 (fun H locs hP hD hS => ?_)
      have hP : va_P D vwC [(h, .inr (1, [.int (nI d), .int kb, .ref fo, .ref ke, .ref ht, .ref wo, .ref fi, .ref se])), (a, LA cJ 4 (upZ (upZ (upZ (upZ G 0 v0) 1 v1) 2 v2) 3 v3))] H := hP
      have hD : va_D A [(h, .inr (1, [.int (nI d), .int kb, .ref fo, .ref ke, .ref ht, .ref wo, .ref fi, .ref se])), (a, LA cJ 4 (upZ (upZ (upZ (upZ G 0 v0) 1 v1) 2 v2) 3 v3))] := hD
      exact hret H locs _ ls (upZ (upZ (upZ (upZ G 0 v0) 1 v1) 2 v2) 3 v3) d_K_setRow_31 ⟨rfl, rfl, rfl, (if_pos c21_0).symm⟩ hP hD hS
  rw [hH, hlc] at key; exact key

def rm_c_rowBeyond : Room := { frames := 1, cells := 0, slots := 0, locals := 22 }
set_option maxHeartbeats 4000000 in
set_option maxRecDepth 100000 in
/-- one of a row beyond -/
theorem c_rowBeyond (l : Launch) (D : va_G) (cJ : ClassId) (a : Nat) (G : Nat → Int) (mo : Nat) (hG : ∀ k, k < 4 → lB (G k)) (hmo : mo ≤ 10000) (sz : Nat) : xMz l y_K_isRowBeyond (Cond.code y_K_isRowBeyond b_K_isRowBeyond 3 (some .boolean) :: tW) rm_c_rowBeyond [.ref a, .int (nI mo)] D vwC [(cJ, .long)] sz [(a, LA cJ 4 G)] (fun (rv : Int32) (_ : Unit) => ((rv = nI 1 ∧ (¬ ∀ k, k < 4 → inB (G k) mo)) ∨ (rv = nI 0 ∧ ¬ (¬ ∀ k, k < 4 → inB (G k) mo)))) (fun (_ : Unit) => [(a, LA cJ 4 G)]) 0 0 := by
  refine xoz (cc := b_K_isRowBeyond) (maxL := 3) (by decide) rfl (Nat.le_of_ble_eq_true rfl) (fun r u h => by rcases h with h | h; exact Or.inr h.1; exact Or.inl h.1) ?_
  intro p e s m args below meth c Q A hx hb hml hts hown hN hA hS hP hK hD hret ls hl
  have hl : lv_has ls 3 [(0, .ref a), (1, .int (nI mo))] := hl
  obtain ⟨H, hH⟩ : ∃ z, z = s.heap := ⟨_, rfl⟩
  obtain ⟨locs, hlc⟩ : ∃ z : List Loc, z = [] := ⟨_, rfl⟩
  rw [← hH] at hP
  have hS : va_S A s.heap H locs := by rw [hH, hlc]; exact hS
  have key : W p l e rm_c_rowBeyond s m args below meth c H locs 0 0 Q (F0 m 0 ls []) := by
    refine lv_iconst (v := nI 0) hx hb d_K_isRowBeyond_0 (by decide) ?_
    refine lv_istore_n (lv' := [(2, .int (nI 0)), (0, .ref a), (1, .int (nI mo))]) hx hb d_K_isRowBeyond_1 rfl hl (by decide) rfl (fun ls hl => ?_)
    have lp_2 : ∀ (n_2 : Nat) (i : Nat) (H : Heap) (locs : List Loc) (ls : Array Slot), (i ≤ 4) → (∀ k, k < i → inB (G k) mo) → (4 - i) < n_2 → va_P D vwC [(a, LA cJ 4 G)] H → va_D A [(a, LA cJ 4 G)] → va_S A s.heap H locs → lv_has ls 3 [(0, .ref a), (1, .int (nI mo)), (2, .int (nI i))] → W p l e rm_c_rowBeyond s m args below meth c H locs 0 0 Q (F0 m 2 ls []) := by
      intro n_2
      induction n_2 with
      | zero => intro i H locs ls hi h1 hn_2; exact absurd hn_2 (Nat.not_lt_zero _)
      | succ n_2 ih_2 =>
        intro i H locs ls hi h1 hn_2 hP hD hS hl
        refine lv_iload_n hx hb d_K_isRowBeyond_2 rfl (lv_at hl 2 rfl) ?_
        refine lv_iconst (v := nI 4) hx hb d_K_isRowBeyond_3 (by decide) ?_
        refine xn_ge (tgt := 25) hx hb (by omega) (by omega) d_K_isRowBeyond_4 (by decide) (fun c4_0 => ?_) (fun c4_0 => ?_)
        · skip
          refine lv_iconst (v := nI 0) hx hb d_K_isRowBeyond_25 (by decide) ?_
          exact hret H locs _ ls (nI 0) () d_K_isRowBeyond_26 (Or.inr ⟨rfl, (fun q => q (fun k hk => h1 k (by omega)))⟩) hP hD hS
        · skip
          refine lv_aload_n hx hb d_K_isRowBeyond_7 rfl (lv_at hl 0 rfl) ?_
          refine lv_iload_n hx hb d_K_isRowBeyond_8 rfl (lv_at hl 2 rfl) ?_
          refine xl_ald hx hb hK hP 0 0 rfl rfl (k := i) (by omega) (by first | decide | omega) d_K_isRowBeyond_9 ?_
          refine lv_iload_n hx hb d_K_isRowBeyond_10 rfl (lv_at hl 1 rfl) ?_
          refine xci (wc := []) (wr := [(a, LA cJ 4 G)]) hP hD hS hA [] [0] rfl rfl (by decide) (by decide) (va_runS (As := [.long (lI (G i)), .int (nI mo)]) (rest := []) ⟨hx, hb, hml, hown, hts⟩ (c_beyond l D cJ (G i) mo (hG i (by omega)) (by first | assumption | omega) H.size) (cwS 2 hts (gS tw_82 tw_83 tw_1 tw_84) rfl rfl rfl ⟨rfl, hd_K_isBeyond⟩ ⟨Nat.le_of_ble_eq_true rfl, Nat.le_of_ble_eq_true rfl⟩) (xPreS hN hK (hP.sub (ws' := []) [] rfl) (hD.sub (ws' := []) [] (by decide) rfl)) rfl rfl hl.1 rfl (lv_room (Nat.le_of_ble_eq_true rfl)) d_K_isRowBeyond_11 ⟨Nat.le_of_ble_eq_true rfl, Nat.le_of_ble_eq_true rfl⟩) (fun r_2 u_3 H locs hw_4 hP hD hS => ?_)
          try dsimp only at hw_4
          have hP : va_P D vwC [(a, LA cJ 4 G)] H := hP
          have hD : va_D A [(a, LA cJ 4 G)] := hD
          rcases hw_4 with ⟨rfl, hw_4⟩ | ⟨rfl, hw_4⟩
          · skip
            refine xz_eq (tgt := 19) (X := (1 : Nat)) hx hb (nI_toInt (by omega)) d_K_isRowBeyond_14 (by decide) (fun c14_4 => absurd c14_4 (by omega)) (fun c14_4 => ?_)
            refine lv_iconst (v := nI 1) hx hb d_K_isRowBeyond_17 (by decide) ?_
            exact hret H locs _ ls (nI 1) () d_K_isRowBeyond_18 (Or.inl ⟨rfl, (fun q => by have := q i (by omega); unfold inB at this; omega)⟩) hP hD hS
          · skip
            refine xz_eq (tgt := 19) (X := (0 : Nat)) hx hb (nI_toInt (by omega)) d_K_isRowBeyond_14 (by decide) (fun c14_5 => ?_) (fun c14_5 => absurd c14_5 (by omega))
            refine lv_iinc (v := nI (i + 1)) (lv' := [(2, .int (nI (i + 1))), (0, .ref a), (1, .int (nI mo))]) hx hb d_K_isRowBeyond_19 hl (k := 2) rfl (nI_add _ _) (by decide) rfl (fun ls hl => ?_)
            refine lv_goto (tgt := 2) hx hb d_K_isRowBeyond_22 (by decide) ?_
            exact ih_2 (i + 1) H locs ls (by omega) (fun k hk => by by_cases q : k = i; rw [q]; exact ⟨by omega, by omega⟩; exact h1 k (by omega)) (by omega) hP hD hS (lv_sub hl [1, 2, 0] rfl)
    exact lp_2 ((4 - 0) + 1) 0 H locs ls (Nat.zero_le _) (fun k h => absurd h (Nat.not_lt_zero _)) (by omega) hP hD hS (lv_sub hl [1, 2, 0] rfl)
  rw [hH, hlc] at key; exact key

def rm_c_allZero : Room := { frames := 0, cells := 0, slots := 0, locals := 0 }
set_option maxHeartbeats 4000000 in
set_option maxRecDepth 100000 in
/-- a row of zeros -/
theorem c_allZero (l : Launch) (D : va_G) (cJ : ClassId) (a : Nat) (G : Nat → Int) (f : Nat) (t : Nat) (hG : ∀ k, k < 4 → lB (G k)) (hf : f ≤ t + 1) (ht : t ≤ 3) (sz : Nat) : xMz l y_K_isAllZero (Cond.code y_K_isAllZero b_K_isAllZero 4 (some .boolean) :: tW) rm_c_allZero [.ref a, .int (nI f), .int (nI t)] D vwC [(cJ, .long)] sz [(a, LA cJ 4 G)] (fun (rv : Int32) (_ : Unit) => ((rv = nI 1 ∧ (∀ k, f ≤ k → k ≤ t → G k = 0)) ∨ (rv = nI 0 ∧ ¬ (∀ k, f ≤ k → k ≤ t → G k = 0)))) (fun (_ : Unit) => [(a, LA cJ 4 G)]) 0 0 := by
  refine xoz (cc := b_K_isAllZero) (maxL := 4) (by decide) rfl (Nat.le_of_ble_eq_true rfl) (fun r u h => by rcases h with h | h; exact Or.inr h.1; exact Or.inl h.1) ?_
  intro p e s m args below meth c Q A hx hb hml hts hown hN hA hS hP hK hD hret ls hl
  have hl : lv_has ls 4 [(0, .ref a), (1, .int (nI f)), (2, .int (nI t))] := hl
  obtain ⟨H, hH⟩ : ∃ z, z = s.heap := ⟨_, rfl⟩
  obtain ⟨locs, hlc⟩ : ∃ z : List Loc, z = [] := ⟨_, rfl⟩
  rw [← hH] at hP
  have hS : va_S A s.heap H locs := by rw [hH, hlc]; exact hS
  have key : W p l e rm_c_allZero s m args below meth c H locs 0 0 Q (F0 m 0 ls []) := by
    refine lv_iload_n hx hb d_K_isAllZero_0 rfl (lv_at hl 1 rfl) ?_
    refine lv_istore_n (lv' := [(3, .int (nI f)), (0, .ref a), (1, .int (nI f)), (2, .int (nI t))]) hx hb d_K_isAllZero_1 rfl hl (by decide) rfl (fun ls hl => ?_)
    have lp_2 : ∀ (n_2 : Nat) (i : Nat) (H : Heap) (locs : List Loc) (ls : Array Slot), (f ≤ i) → (i ≤ t + 1) → (∀ k, f ≤ k → k < i → G k = 0) → (t + 1 - i) < n_2 → va_P D vwC [(a, LA cJ 4 G)] H → va_D A [(a, LA cJ 4 G)] → va_S A s.heap H locs → lv_has ls 4 [(0, .ref a), (1, .int (nI f)), (2, .int (nI t)), (3, .int (nI i))] → W p l e rm_c_allZero s m args below meth c H locs 0 0 Q (F0 m 2 ls []) := by
      intro n_2
      induction n_2 with
      | zero => intro i H locs ls hi hi2 h1 hn_2; exact absurd hn_2 (Nat.not_lt_zero _)
      | succ n_2 ih_2 =>
        intro i H locs ls hi hi2 h1 hn_2 hP hD hS hl
        refine lv_iload_n hx hb d_K_isAllZero_2 rfl (lv_at hl 3 rfl) ?_
        refine lv_iload_n hx hb d_K_isAllZero_3 rfl (lv_at hl 2 rfl) ?_
        refine xn_gt (tgt := 23) hx hb (by omega) (by omega) d_K_isAllZero_4 (by decide) (fun c4_0 => ?_) (fun c4_0 => ?_)
        · skip
          refine lv_iconst (v := nI 1) hx hb d_K_isAllZero_23 (by decide) ?_
          exact hret H locs _ ls (nI 1) () d_K_isAllZero_24 (Or.inl ⟨rfl, (fun k h hk => h1 k h (by omega))⟩) hP hD hS
        · skip
          refine lv_aload_n hx hb d_K_isAllZero_7 rfl (lv_at hl 0 rfl) ?_
          refine lv_iload_n hx hb d_K_isAllZero_8 rfl (lv_at hl 3 rfl) ?_
          refine xl_ald hx hb hK hP 0 0 rfl rfl (k := i) (by omega) (by first | decide | omega) d_K_isAllZero_9 ?_
          refine lv_lconst (v := lI 0) hx hb d_K_isAllZero_10 (by decide) ?_
          refine xl_eq (tgt := 17) hx hb (hG i (by omega)) ⟨by decide, by decide⟩ d_K_isAllZero_11 d_K_isAllZero_12 (by decide) (fun c12_1 => ?_) (fun c12_1 => ?_)
          · skip
            refine lv_iinc (v := nI (i + 1)) (lv' := [(3, .int (nI (i + 1))), (0, .ref a), (1, .int (nI f)), (2, .int (nI t))]) hx hb d_K_isAllZero_17 hl (k := 3) rfl (nI_add _ _) (by decide) rfl (fun ls hl => ?_)
            refine lv_goto (tgt := 2) hx hb d_K_isAllZero_20 (by decide) ?_
            exact ih_2 (i + 1) H locs ls (by omega) (by omega) (fun k h hk => by by_cases q : k = i; rw [q]; assumption; exact h1 k h (by omega)) (by omega) hP hD hS (lv_sub hl [1, 2, 3, 0] rfl)
          · skip
            refine lv_iconst (v := nI 0) hx hb d_K_isAllZero_15 (by decide) ?_
            exact hret H locs _ ls (nI 0) () d_K_isAllZero_16 (Or.inr ⟨rfl, (fun q => c12_1 (q i hi (by omega)))⟩) hP hD hS
    exact lp_2 ((t + 1 - f) + 1) f H locs ls (Nat.le_refl _) hf (fun k h h2 => absurd h2 (by omega)) (by omega) hP hD hS (lv_sub hl [1, 2, 3, 0] rfl)
  rw [hH, hlc] at key; exact key

def rm_c_takePoint : Room := { frames := 2, cells := 0, slots := 0, locals := 44 }
set_option maxHeartbeats 4000000 in
set_option maxRecDepth 100000 in
/-- a point, into first -/
theorem c_takePoint (l : Launch) (D : va_G) (cJ : ClassId) (h : Nat) (d : Nat) (kb : Int32) (fo : Nat) (ke : Nat) (ht : Nat) (wo : Nat) (fi : Nat) (se : Nat) (A1 : Nat → Int) (x : Int32) (y : Int32) (z : Int32) (dn : Int32) (hd : d ≤ 3) (sz : Nat) : xMz l y_K_takePoint (Cond.code y_K_takePoint b_K_takePoint 5 (some .boolean) :: tW) rm_c_takePoint [.ref h, .int x, .int y, .int z, .int dn] D vwC [(cJ, .long)] sz [(h, .inr (1, [.int (nI d), .int kb, .ref fo, .ref ke, .ref ht, .ref wo, .ref fi, .ref se])), (fi, LA cJ 4 A1)] (fun (rv : Int32) (uo : (Nat → Int)) => ((rv = nI 1 ∧ ((1 ≤ dn.toInt ∧ dn.toInt ≤ 100) ∧ inB x.toInt 1000 ∧ inB y.toInt 1000 ∧ (d = 3 → inB z.toInt 1000))) ∨ (rv = nI 0 ∧ ¬ ((1 ≤ dn.toInt ∧ dn.toInt ≤ 100) ∧ inB x.toInt 1000 ∧ inB y.toInt 1000 ∧ (d = 3 → inB z.toInt 1000)))) ∧ (((1 ≤ dn.toInt ∧ dn.toInt ≤ 100) ∧ inB x.toInt 1000 ∧ inB y.toInt 1000 ∧ (d = 3 → inB z.toInt 1000)) → uo 0 = dn.toInt ∧ uo 1 = x.toInt ∧ uo 2 = y.toInt ∧ uo 3 = (if d = 3 then z.toInt else 0))) (fun (uo : (Nat → Int)) => [(h, .inr (1, [.int (nI d), .int kb, .ref fo, .ref ke, .ref ht, .ref wo, .ref fi, .ref se])), (fi, LA cJ 4 uo)]) 0 0 := by
  refine xoz (cc := b_K_takePoint) (maxL := 5) (by decide) rfl (Nat.le_of_ble_eq_true rfl) (fun r u h => by rcases h.1 with h | h; exact Or.inr h.1; exact Or.inl h.1) ?_
  intro p e s m args below meth c Q A hx hb hml hts hown hN hA hS hP hK hD hret ls hl
  have hl : lv_has ls 5 [(0, .ref h), (1, .int x), (2, .int y), (3, .int z), (4, .int dn)] := hl
  obtain ⟨H, hH⟩ : ∃ z, z = s.heap := ⟨_, rfl⟩
  obtain ⟨locs, hlc⟩ : ∃ z : List Loc, z = [] := ⟨_, rfl⟩
  rw [← hH] at hP
  have hS : va_S A s.heap H locs := by rw [hH, hlc]; exact hS
  have key : W p l e rm_c_takePoint s m args below meth c H locs 0 0 Q (F0 m 0 ls []) := by
    refine lv_iload hx hb d_K_takePoint_0 (lv_at hl 4 rfl) ?_
    refine lv_iconst (v := nI 1) hx hb d_K_takePoint_2 (by decide) ?_
    refine xi_lt (tgt := 13) (X := dn.toInt) (Y := (1 : Nat)) hx hb rfl (nI_toInt (by omega)) d_K_takePoint_3 (by decide) (fun c3_0 => ?_) (fun c3_0 => ?_)
    · skip
      refine lv_iconst (v := nI 0) hx hb d_K_takePoint_13 (by decide) ?_
      exact hret H locs _ ls (nI 0) A1 d_K_takePoint_14 ⟨Or.inr ⟨rfl, by omega⟩, fun q => absurd q.1 (by omega)⟩ hP hD hS
    · skip
      refine lv_iload hx hb d_K_takePoint_6 (lv_at hl 4 rfl) ?_
      refine lv_bipush (v := nI 100) hx hb d_K_takePoint_8 (by decide) ?_
      refine xi_le (tgt := 15) (X := dn.toInt) (Y := (100 : Nat)) hx hb rfl (nI_toInt (by omega)) d_K_takePoint_10 (by decide) (fun c10_1 => ?_) (fun c10_1 => ?_)
      · skip
        refine lv_aload_n hx hb d_K_takePoint_15 rfl (lv_at hl 0 rfl) ?_
        refine lv_aload_n hx hb d_K_takePoint_16 rfl (lv_at hl 0 rfl) ?_
        refine va_get (D := D) (ci := 1) (v := .ref fi) (C := R_K) (T := F_K) (N := 8) hx hb hts iw_K hown hK hP 0 rfl rfl 6 (by decide) (hts _ tw_48) (fun _ h9 => h9) rfl d_K_takePoint_17 ?_
        refine lv_iload hx hb d_K_takePoint_20 (lv_at hl 4 rfl) ?_
        refine lv_i2l (v := lI dn.toInt) hx hb d_K_takePoint_22 rfl ?_
        refine lv_iload_n hx hb d_K_takePoint_23 rfl (lv_at hl 1 rfl) ?_
        refine lv_i2l (v := lI x.toInt) hx hb d_K_takePoint_24 rfl ?_
        refine lv_iload_n hx hb d_K_takePoint_25 rfl (lv_at hl 2 rfl) ?_
        refine lv_i2l (v := lI y.toInt) hx hb d_K_takePoint_26 rfl ?_
        refine lv_iload_n hx hb d_K_takePoint_27 rfl (lv_at hl 3 rfl) ?_
        refine lv_i2l (v := lI z.toInt) hx hb d_K_takePoint_28 rfl ?_
        refine xcv (wc := [(h, .inr (1, [.int (nI d), .int kb, .ref fo, .ref ke, .ref ht, .ref wo, .ref fi, .ref se])), (fi, LA cJ 4 A1)]) (wr := []) hP hD hS hA [0, 1] [] rfl rfl (by decide) (by decide) (va_runV (As := [.ref fi, .long (lI dn.toInt), .long (lI x.toInt), .long (lI y.toInt), .long (lI z.toInt)]) (rest := []) ⟨hx, hb, hml, hown, hts⟩ (c_setRow l D cJ h d kb fo ke ht wo fi se fi A1 dn.toInt x.toInt y.toInt z.toInt (by first | assumption | omega) H.size) (cwV 5 hts (gV tw_215 tw_217 tws_6 tw_1 tw_218) rfl rfl rfl ⟨rfl, hd_K_setRow⟩ ⟨Nat.le_of_ble_eq_true rfl, Nat.le_of_ble_eq_true rfl⟩) (xPreV (C := R_K) (T := F_K) (N := 8) (q0 := 0) hN hK (hP.sub (ws' := [(h, .inr (1, [.int (nI d), .int kb, .ref fo, .ref ke, .ref ht, .ref wo, .ref fi, .ref se])), (fi, LA cJ 4 A1)]) [0, 1] rfl) (hD.sub (ws' := [(h, .inr (1, [.int (nI d), .int kb, .ref fo, .ref ke, .ref ht, .ref wo, .ref fi, .ref se])), (fi, LA cJ 4 A1)]) [0, 1] (by decide) rfl) rfl rfl) rfl rfl hl.1 rfl (lv_room (Nat.le_of_ble_eq_true rfl)) d_K_takePoint_29 ⟨Nat.le_of_ble_eq_true rfl, Nat.le_of_ble_eq_true rfl⟩) (fun u_4 H locs hrow hP hD hS => ?_)
        obtain ⟨B5, rfl⟩ : ∃ z, z = u_4 := ⟨_, rfl⟩
        try dsimp only at hrow
        have hP : va_P D vwC [(h, .inr (1, [.int (nI d), .int kb, .ref fo, .ref ke, .ref ht, .ref wo, .ref fi, .ref se])), (fi, LA cJ 4 B5)] H := hP
        have hD : va_D A [(h, .inr (1, [.int (nI d), .int kb, .ref fo, .ref ke, .ref ht, .ref wo, .ref fi, .ref se])), (fi, LA cJ 4 B5)] := hD
        refine lv_aload_n hx hb d_K_takePoint_32 rfl (lv_at hl 0 rfl) ?_
        refine va_get (D := D) (ci := 1) (v := .ref fi) (C := R_K) (T := F_K) (N := 8) hx hb hts iw_K hown hK hP 0 rfl rfl 6 (by decide) (hts _ tw_48) (fun _ h9 => h9) rfl d_K_takePoint_33 ?_
        refine lv_sipush (v := nI 1000) hx hb d_K_takePoint_36 (by decide) ?_
        refine xci (wc := [(fi, LA cJ 4 B5)]) (wr := [(h, .inr (1, [.int (nI d), .int kb, .ref fo, .ref ke, .ref ht, .ref wo, .ref fi, .ref se]))]) hP hD hS hA [1] [0] rfl rfl (by decide) (by decide) (va_runS (As := [.ref fi, .int (nI 1000)]) (rest := []) ⟨hx, hb, hml, hown, hts⟩ (c_rowBeyond l D cJ fi B5 1000 (tp_lB hrow) (by first | assumption | omega) H.size) (cwS 2 hts (gS tw_219 tw_220 tw_1 tw_221) rfl rfl rfl ⟨rfl, hd_K_isRowBeyond⟩ ⟨Nat.le_of_ble_eq_true rfl, Nat.le_of_ble_eq_true rfl⟩) (xPreS hN hK (hP.sub (ws' := [(fi, LA cJ 4 B5)]) [1] rfl) (hD.sub (ws' := [(fi, LA cJ 4 B5)]) [1] (by decide) rfl)) rfl rfl hl.1 rfl (lv_room (Nat.le_of_ble_eq_true rfl)) d_K_takePoint_39 ⟨Nat.le_of_ble_eq_true rfl, Nat.le_of_ble_eq_true rfl⟩) (fun r_5 u_6 H locs hbey hP hD hS => ?_)
        try dsimp only at hbey
        have hP : va_P D vwC [(h, .inr (1, [.int (nI d), .int kb, .ref fo, .ref ke, .ref ht, .ref wo, .ref fi, .ref se])), (fi, LA cJ 4 B5)] H := hP
        have hD : va_D A [(h, .inr (1, [.int (nI d), .int kb, .ref fo, .ref ke, .ref ht, .ref wo, .ref fi, .ref se])), (fi, LA cJ 4 B5)] := hD
        rcases hbey with ⟨rfl, hbey⟩ | ⟨rfl, hbey⟩
        · skip
          refine xz_ne (tgt := 49) (X := (1 : Nat)) hx hb (nI_toInt (by omega)) d_K_takePoint_42 (by decide) (fun c42_6 => ?_) (fun c42_6 => absurd c42_6 (by omega))
          refine lv_iconst (v := nI 0) hx hb d_K_takePoint_49 (by decide) ?_
          exact hret H locs _ ls (nI 0) B5 d_K_takePoint_50 ⟨Or.inr ⟨rfl, fun q => hbey (tp_fi hrow q)⟩, fun _ => hrow⟩ hP hD hS
        · skip
          refine xz_ne (tgt := 49) (X := (0 : Nat)) hx hb (nI_toInt (by omega)) d_K_takePoint_42 (by decide) (fun c42_7 => absurd c42_7 (by omega)) (fun c42_7 => ?_)
          refine lv_iconst (v := nI 1) hx hb d_K_takePoint_45 (by decide) ?_
          refine lv_goto (tgt := 50) hx hb d_K_takePoint_46 (by decide) ?_
          exact hret H locs _ ls (nI 1) B5 d_K_takePoint_50 (by have hb := tp_iff hrow (Classical.byContradiction hbey); exact ⟨Or.inl ⟨rfl, ⟨by omega, by omega⟩, hb⟩, fun _ => hrow⟩) hP hD hS
      · skip
        refine lv_iconst (v := nI 0) hx hb d_K_takePoint_13 (by decide) ?_
        exact hret H locs _ ls (nI 0) A1 d_K_takePoint_14 ⟨Or.inr ⟨rfl, by omega⟩, fun q => absurd q.1 (by omega)⟩ hP hD hS
  rw [hH, hlc] at key; exact key

def rm_c_rowTimes : Room := { frames := 1, cells := 0, slots := 0, locals := 21 }
set_option maxHeartbeats 4000000 in
set_option maxRecDepth 100000 in
/-- a row of the form times a point -/
theorem c_rowTimes (l : Launch) (D : va_G) (cJ : ClassId) (h : Nat) (d : Nat) (kb : Int32) (fo : Nat) (ke : Nat) (ht : Nat) (wo : Nat) (fi : Nat) (se : Nat) (Fm : Nat → Int) (a : Nat) (G : Nat → Int) (i : Nat) (hd : d ≤ 3) (hi : i ≤ 3) (sz : Nat) : xMl l y_K_rowTimes (Cond.code y_K_rowTimes b_K_rowTimes 6 (some .long) :: tW) rm_c_rowTimes [.ref h, .int (nI i), .ref a] D vwC [(cJ, .long)] sz [(h, .inr (1, [.int (nI d), .int kb, .ref fo, .ref ke, .ref ht, .ref wo, .ref fi, .ref se])), (fo, LA cJ 16 Fm), (a, LA cJ 4 G)] (fun (rv : Int64) (_ : Unit) => rv = lI (rowN Fm G i (d + 1))) (fun (_ : Unit) => [(h, .inr (1, [.int (nI d), .int kb, .ref fo, .ref ke, .ref ht, .ref wo, .ref fi, .ref se])), (fo, LA cJ 16 Fm), (a, LA cJ 4 G)]) 0 0 := by
  refine xol (cc := b_K_rowTimes) (maxL := 6) (by decide) rfl (Nat.le_of_ble_eq_true rfl) ?_
  intro p e s m args below meth c Q A hx hb hml hts hown hN hA hS hP hK hD hret ls hl
  have hl : lv_has ls 6 [(0, .ref h), (1, .int (nI i)), (2, .ref a)] := hl
  obtain ⟨H, hH⟩ : ∃ z, z = s.heap := ⟨_, rfl⟩
  obtain ⟨locs, hlc⟩ : ∃ z : List Loc, z = [] := ⟨_, rfl⟩
  rw [← hH] at hP
  have hS : va_S A s.heap H locs := by rw [hH, hlc]; exact hS
  have key : W p l e rm_c_rowTimes s m args below meth c H locs 0 0 Q (F0 m 0 ls []) := by
    refine lv_lconst (v := lI 0) hx hb d_K_rowTimes_0 (by decide) ?_
    refine lv_lstore_n (lv' := [(3, .long (lI 0)), (0, .ref h), (1, .int (nI i)), (2, .ref a)]) hx hb d_K_rowTimes_1 rfl hl (by decide) rfl (fun ls hl => ?_)
    refine lv_iconst (v := nI 0) hx hb d_K_rowTimes_2 (by decide) ?_
    refine lv_istore (lv' := [(5, .int (nI 0)), (3, .long (lI 0)), (0, .ref h), (1, .int (nI i)), (2, .ref a)]) hx hb d_K_rowTimes_3 hl (by decide) rfl (fun ls hl => ?_)
    have lp_5 : ∀ (n_5 : Nat) (j : Nat) (H : Heap) (locs : List Loc) (ls : Array Slot), (j ≤ d + 1) → (d + 1 - j) < n_5 → va_P D vwC [(h, .inr (1, [.int (nI d), .int kb, .ref fo, .ref ke, .ref ht, .ref wo, .ref fi, .ref se])), (fo, LA cJ 16 Fm), (a, LA cJ 4 G)] H → va_D A [(h, .inr (1, [.int (nI d), .int kb, .ref fo, .ref ke, .ref ht, .ref wo, .ref fi, .ref se])), (fo, LA cJ 16 Fm), (a, LA cJ 4 G)] → va_S A s.heap H locs → lv_has ls 6 [(0, .ref h), (1, .int (nI i)), (2, .ref a), (3, .long (lI (rowN Fm G i j))), (5, .int (nI j))] → W p l e rm_c_rowTimes s m args below meth c H locs 0 0 Q (F0 m 5 ls []) := by
      intro n_5
      induction n_5 with
      | zero => intro j H locs ls hj hn_5; exact absurd hn_5 (Nat.not_lt_zero _)
      | succ n_5 ih_5 =>
        intro j H locs ls hj hn_5 hP hD hS hl
        refine lv_iload hx hb d_K_rowTimes_5 (lv_at hl 4 rfl) ?_
        refine lv_aload_n hx hb d_K_rowTimes_7 rfl (lv_at hl 0 rfl) ?_
        refine va_get (D := D) (ci := 1) (v := .int (nI d)) (C := R_K) (T := F_K) (N := 8) hx hb hts iw_K hown hK hP 0 rfl rfl 0 (by decide) (hts _ tw_42) (fun _ h9 => h9) rfl d_K_rowTimes_8 ?_
        refine xn_gt (tgt := 39) hx hb (by omega) (by omega) d_K_rowTimes_11 (by decide) (fun c11_0 => ?_) (fun c11_0 => ?_)
        · skip
          refine lv_lload_n hx hb d_K_rowTimes_39 rfl (lv_at hl 3 rfl) ?_
          exact hret H locs _ ls (lI (rowN Fm G i j)) () d_K_rowTimes_40 (by rw [show j = d + 1 from by omega]) hP hD hS
        · skip
          refine lv_lload_n hx hb d_K_rowTimes_14 rfl (lv_at hl 3 rfl) ?_
          refine lv_aload_n hx hb d_K_rowTimes_15 rfl (lv_at hl 0 rfl) ?_
          refine va_get (D := D) (ci := 1) (v := .ref fo) (C := R_K) (T := F_K) (N := 8) hx hb hts iw_K hown hK hP 0 rfl rfl 2 (by decide) (hts _ tw_44) (fun _ h9 => h9) rfl d_K_rowTimes_16 ?_
          refine lv_iload_n hx hb d_K_rowTimes_19 rfl (lv_at hl 1 rfl) ?_
          refine lv_iload hx hb d_K_rowTimes_20 (lv_at hl 4 rfl) ?_
          refine xci (wc := []) (wr := [(h, .inr (1, [.int (nI d), .int kb, .ref fo, .ref ke, .ref ht, .ref wo, .ref fi, .ref se])), (fo, LA cJ 16 Fm), (a, LA cJ 4 G)]) hP hD hS hA [] [0, 1, 2] rfl rfl (by decide) (by decide) (va_runS (As := [.int (nI i), .int (nI j)]) (rest := [.ref fo, .long (lI (rowN Fm G i j))]) ⟨hx, hb, hml, hown, hts⟩ (c_place l D cJ i j H.size) (cwS 2 hts (gS tw_86 tw_87 tw_1 tw_88) rfl rfl rfl ⟨rfl, hd_K_place⟩ ⟨Nat.le_of_ble_eq_true rfl, Nat.le_of_ble_eq_true rfl⟩) (xPreS hN hK (hP.sub (ws' := []) [] rfl) (hD.sub (ws' := []) [] (by decide) rfl)) rfl rfl hl.1 rfl (lv_room (Nat.le_of_ble_eq_true rfl)) d_K_rowTimes_22 ⟨Nat.le_of_ble_eq_true rfl, Nat.le_of_ble_eq_true rfl⟩) (fun r_2 u_3 H locs hw_4 hP hD hS => ?_)
          try dsimp only at hw_4
          have hP : va_P D vwC [(h, .inr (1, [.int (nI d), .int kb, .ref fo, .ref ke, .ref ht, .ref wo, .ref fi, .ref se])), (fo, LA cJ 16 Fm), (a, LA cJ 4 G)] H := hP
          have hD : va_D A [(h, .inr (1, [.int (nI d), .int kb, .ref fo, .ref ke, .ref ht, .ref wo, .ref fi, .ref se])), (fo, LA cJ 16 Fm), (a, LA cJ 4 G)] := hD
          subst hw_4
          refine xl_ald hx hb hK hP 1 0 rfl rfl (k := 4 * i + j) (by omega) (by first | decide | omega) d_K_rowTimes_25 ?_
          refine lv_aload_n hx hb d_K_rowTimes_26 rfl (lv_at hl 2 rfl) ?_
          refine lv_iload hx hb d_K_rowTimes_27 (lv_at hl 4 rfl) ?_
          refine xl_ald hx hb hK hP 2 0 rfl rfl (k := j) (by omega) (by first | decide | omega) d_K_rowTimes_29 ?_
          refine xl_mul hx hb d_K_rowTimes_30 ?_
          refine xl_add hx hb d_K_rowTimes_31 ?_
          refine lv_lstore_n (lv' := [(3, .long (lI ((rowN Fm G i j) + ((Fm (4 * i + j)) * (G j))))), (0, .ref h), (1, .int (nI i)), (2, .ref a), (5, .int (nI j))]) hx hb d_K_rowTimes_32 rfl hl (by decide) rfl (fun ls hl => ?_)
          refine lv_iinc (v := nI (j + 1)) (lv' := [(5, .int (nI (j + 1))), (3, .long (lI ((rowN Fm G i j) + ((Fm (4 * i + j)) * (G j))))), (0, .ref h), (1, .int (nI i)), (2, .ref a)]) hx hb d_K_rowTimes_33 hl (k := 4) rfl (nI_add _ _) (by decide) rfl (fun ls hl => ?_)
          refine lv_goto (tgt := 5) hx hb d_K_rowTimes_36 (by decide) ?_
          exact ih_5 (j + 1) H locs ls (by omega) (by omega) hP hD hS (lv_sub hl [2, 3, 4, 1, 0] rfl)
    exact lp_5 ((d + 1 - 0) + 1) 0 H locs ls (Nat.zero_le _) (by omega) hP hD hS (lv_sub hl [2, 3, 4, 1, 0] rfl)
  rw [hH, hlc] at key; exact key

def rm_c_formOf2 : Room := { frames := 2, cells := 0, slots := 0, locals := 46 }
set_option maxHeartbeats 4000000 in
set_option maxRecDepth 100000 in
/-- the form at two rows -/
theorem c_formOf2 (l : Launch) (D : va_G) (cJ : ClassId) (h : Nat) (d : Nat) (kb : Int32) (fo : Nat) (ke : Nat) (ht : Nat) (wo : Nat) (fi : Nat) (se : Nat) (Fm : Nat → Int) (a : Nat) (L : Nat → Int) (b : Nat) (G : Nat → Int) (hd : d ≤ 3) (sz : Nat) : xMl l y_K_formOf (Cond.code y_K_formOf b_K_formOf 6 (some .long) :: tW) rm_c_formOf2 [.ref h, .ref a, .ref b] D vwC [(cJ, .long)] sz [(h, .inr (1, [.int (nI d), .int kb, .ref fo, .ref ke, .ref ht, .ref wo, .ref fi, .ref se])), (fo, LA cJ 16 Fm), (a, LA cJ 4 L), (b, LA cJ 4 G)] (fun (rv : Int64) (_ : Unit) => rv = lI (frmN Fm L G d (d + 1))) (fun (_ : Unit) => [(h, .inr (1, [.int (nI d), .int kb, .ref fo, .ref ke, .ref ht, .ref wo, .ref fi, .ref se])), (fo, LA cJ 16 Fm), (a, LA cJ 4 L), (b, LA cJ 4 G)]) 0 0 := by
  refine xol (cc := b_K_formOf) (maxL := 6) (by decide) rfl (Nat.le_of_ble_eq_true rfl) ?_
  intro p e s m args below meth c Q A hx hb hml hts hown hN hA hS hP hK hD hret ls hl
  have hl : lv_has ls 6 [(0, .ref h), (1, .ref a), (2, .ref b)] := hl
  obtain ⟨H, hH⟩ : ∃ z, z = s.heap := ⟨_, rfl⟩
  obtain ⟨locs, hlc⟩ : ∃ z : List Loc, z = [] := ⟨_, rfl⟩
  rw [← hH] at hP
  have hS : va_S A s.heap H locs := by rw [hH, hlc]; exact hS
  have key : W p l e rm_c_formOf2 s m args below meth c H locs 0 0 Q (F0 m 0 ls []) := by
    refine lv_lconst (v := lI 0) hx hb d_K_formOf_0 (by decide) ?_
    refine lv_lstore_n (lv' := [(3, .long (lI 0)), (0, .ref h), (1, .ref a), (2, .ref b)]) hx hb d_K_formOf_1 rfl hl (by decide) rfl (fun ls hl => ?_)
    refine lv_iconst (v := nI 0) hx hb d_K_formOf_2 (by decide) ?_
    refine lv_istore (lv' := [(5, .int (nI 0)), (3, .long (lI 0)), (0, .ref h), (1, .ref a), (2, .ref b)]) hx hb d_K_formOf_3 hl (by decide) rfl (fun ls hl => ?_)
    have lp_5 : ∀ (n_5 : Nat) (i : Nat) (H : Heap) (locs : List Loc) (ls : Array Slot), (i ≤ d + 1) → (d + 1 - i) < n_5 → va_P D vwC [(h, .inr (1, [.int (nI d), .int kb, .ref fo, .ref ke, .ref ht, .ref wo, .ref fi, .ref se])), (fo, LA cJ 16 Fm), (a, LA cJ 4 L), (b, LA cJ 4 G)] H → va_D A [(h, .inr (1, [.int (nI d), .int kb, .ref fo, .ref ke, .ref ht, .ref wo, .ref fi, .ref se])), (fo, LA cJ 16 Fm), (a, LA cJ 4 L), (b, LA cJ 4 G)] → va_S A s.heap H locs → lv_has ls 6 [(0, .ref h), (1, .ref a), (2, .ref b), (3, .long (lI (frmN Fm L G d i))), (5, .int (nI i))] → W p l e rm_c_formOf2 s m args below meth c H locs 0 0 Q (F0 m 5 ls []) := by
      intro n_5
      induction n_5 with
      | zero => intro i H locs ls hi hn_5; exact absurd hn_5 (Nat.not_lt_zero _)
      | succ n_5 ih_5 =>
        intro i H locs ls hi hn_5 hP hD hS hl
        refine lv_iload hx hb d_K_formOf_5 (lv_at hl 4 rfl) ?_
        refine lv_aload_n hx hb d_K_formOf_7 rfl (lv_at hl 0 rfl) ?_
        refine va_get (D := D) (ci := 1) (v := .int (nI d)) (C := R_K) (T := F_K) (N := 8) hx hb hts iw_K hown hK hP 0 rfl rfl 0 (by decide) (hts _ tw_42) (fun _ h9 => h9) rfl d_K_formOf_8 ?_
        refine xn_gt (tgt := 35) hx hb (by omega) (by omega) d_K_formOf_11 (by decide) (fun c11_0 => ?_) (fun c11_0 => ?_)
        · skip
          refine lv_lload_n hx hb d_K_formOf_35 rfl (lv_at hl 3 rfl) ?_
          exact hret H locs _ ls (lI (frmN Fm L G d i)) () d_K_formOf_36 (by rw [show i = d + 1 from by omega]) hP hD hS
        · skip
          refine lv_lload_n hx hb d_K_formOf_14 rfl (lv_at hl 3 rfl) ?_
          refine lv_aload_n hx hb d_K_formOf_15 rfl (lv_at hl 1 rfl) ?_
          refine lv_iload hx hb d_K_formOf_16 (lv_at hl 4 rfl) ?_
          refine xl_ald hx hb hK hP 2 0 rfl rfl (k := i) (by omega) (by first | decide | omega) d_K_formOf_18 ?_
          refine lv_aload_n hx hb d_K_formOf_19 rfl (lv_at hl 0 rfl) ?_
          refine lv_iload hx hb d_K_formOf_20 (lv_at hl 4 rfl) ?_
          refine lv_aload_n hx hb d_K_formOf_22 rfl (lv_at hl 2 rfl) ?_
          refine xcl (wc := [(h, .inr (1, [.int (nI d), .int kb, .ref fo, .ref ke, .ref ht, .ref wo, .ref fi, .ref se])), (fo, LA cJ 16 Fm), (b, LA cJ 4 G)]) (wr := [(a, LA cJ 4 L)]) hP hD hS hA [0, 1, 3] [2] rfl rfl (by decide) (by decide) (va_runV (As := [.int (nI i), .ref b]) (rest := [.long (lI (L i)), .long (lI (frmN Fm L G d i))]) ⟨hx, hb, hml, hown, hts⟩ (c_rowTimes l D cJ h d kb fo ke ht wo fi se Fm b G i (by first | assumption | omega) (by first | assumption | omega) H.size) (cwV 2 hts (gV tw_226 tw_228 tws_8 tw_1 tw_229) rfl rfl rfl ⟨rfl, hd_K_rowTimes⟩ ⟨Nat.le_of_ble_eq_true rfl, Nat.le_of_ble_eq_true rfl⟩) (xPreV (C := R_K) (T := F_K) (N := 8) (q0 := 0) hN hK (hP.sub (ws' := [(h, .inr (1, [.int (nI d), .int kb, .ref fo, .ref ke, .ref ht, .ref wo, .ref fi, .ref se])), (fo, LA cJ 16 Fm), (b, LA cJ 4 G)]) [0, 1, 3] rfl) (hD.sub (ws' := [(h, .inr (1, [.int (nI d), .int kb, .ref fo, .ref ke, .ref ht, .ref wo, .ref fi, .ref se])), (fo, LA cJ 16 Fm), (b, LA cJ 4 G)]) [0, 1, 3] (by decide) rfl) rfl rfl) rfl rfl hl.1 rfl (lv_room (Nat.le_of_ble_eq_true rfl)) d_K_formOf_23 ⟨Nat.le_of_ble_eq_true rfl, Nat.le_of_ble_eq_true rfl⟩) (fun r_2 u_3 H locs hw_4 hP hD hS => ?_)
          try dsimp only at hw_4
          have hP : va_P D vwC [(h, .inr (1, [.int (nI d), .int kb, .ref fo, .ref ke, .ref ht, .ref wo, .ref fi, .ref se])), (fo, LA cJ 16 Fm), (a, LA cJ 4 L), (b, LA cJ 4 G)] H := hP.sub [1, 2, 0, 3] rfl
          have hD : va_D A [(h, .inr (1, [.int (nI d), .int kb, .ref fo, .ref ke, .ref ht, .ref wo, .ref fi, .ref se])), (fo, LA cJ 16 Fm), (a, LA cJ 4 L), (b, LA cJ 4 G)] := hD.sub [1, 2, 0, 3] (by decide) rfl
          subst hw_4
          refine xl_mul hx hb d_K_formOf_26 ?_
          refine xl_add hx hb d_K_formOf_27 ?_
          refine lv_lstore_n (lv' := [(3, .long (lI ((frmN Fm L G d i) + ((L i) * (rowN Fm G i (d + 1)))))), (0, .ref h), (1, .ref a), (2, .ref b), (5, .int (nI i))]) hx hb d_K_formOf_28 rfl hl (by decide) rfl (fun ls hl => ?_)
          refine lv_iinc (v := nI (i + 1)) (lv' := [(5, .int (nI (i + 1))), (3, .long (lI ((frmN Fm L G d i) + ((L i) * (rowN Fm G i (d + 1)))))), (0, .ref h), (1, .ref a), (2, .ref b)]) hx hb d_K_formOf_29 hl (k := 4) rfl (nI_add _ _) (by decide) rfl (fun ls hl => ?_)
          refine lv_goto (tgt := 5) hx hb d_K_formOf_32 (by decide) ?_
          exact ih_5 (i + 1) H locs ls (by omega) (by omega) hP hD hS (lv_sub hl [2, 3, 4, 1, 0] rfl)
    exact lp_5 ((d + 1 - 0) + 1) 0 H locs ls (Nat.zero_le _) (by omega) hP hD hS (lv_sub hl [2, 3, 4, 1, 0] rfl)
  rw [hH, hlc] at key; exact key

def rm_c_formOf1 : Room := { frames := 2, cells := 0, slots := 0, locals := 46 }
set_option maxHeartbeats 4000000 in
set_option maxRecDepth 100000 in
/-- the form at one row -/
theorem c_formOf1 (l : Launch) (D : va_G) (cJ : ClassId) (h : Nat) (d : Nat) (kb : Int32) (fo : Nat) (ke : Nat) (ht : Nat) (wo : Nat) (fi : Nat) (se : Nat) (Fm : Nat → Int) (a : Nat) (G : Nat → Int) (hd : d ≤ 3) (sz : Nat) : xMl l y_K_formOf (Cond.code y_K_formOf b_K_formOf 6 (some .long) :: tW) rm_c_formOf1 [.ref h, .ref a, .ref a] D vwC [(cJ, .long)] sz [(h, .inr (1, [.int (nI d), .int kb, .ref fo, .ref ke, .ref ht, .ref wo, .ref fi, .ref se])), (fo, LA cJ 16 Fm), (a, LA cJ 4 G)] (fun (rv : Int64) (_ : Unit) => rv = lI (frmN Fm G G d (d + 1))) (fun (_ : Unit) => [(h, .inr (1, [.int (nI d), .int kb, .ref fo, .ref ke, .ref ht, .ref wo, .ref fi, .ref se])), (fo, LA cJ 16 Fm), (a, LA cJ 4 G)]) 0 0 := by
  refine xol (cc := b_K_formOf) (maxL := 6) (by decide) rfl (Nat.le_of_ble_eq_true rfl) ?_
  intro p e s m args below meth c Q A hx hb hml hts hown hN hA hS hP hK hD hret ls hl
  have hl : lv_has ls 6 [(0, .ref h), (1, .ref a), (2, .ref a)] := hl
  obtain ⟨H, hH⟩ : ∃ z, z = s.heap := ⟨_, rfl⟩
  obtain ⟨locs, hlc⟩ : ∃ z : List Loc, z = [] := ⟨_, rfl⟩
  rw [← hH] at hP
  have hS : va_S A s.heap H locs := by rw [hH, hlc]; exact hS
  have key : W p l e rm_c_formOf1 s m args below meth c H locs 0 0 Q (F0 m 0 ls []) := by
    refine lv_lconst (v := lI 0) hx hb d_K_formOf_0 (by decide) ?_
    refine lv_lstore_n (lv' := [(3, .long (lI 0)), (0, .ref h), (1, .ref a), (2, .ref a)]) hx hb d_K_formOf_1 rfl hl (by decide) rfl (fun ls hl => ?_)
    refine lv_iconst (v := nI 0) hx hb d_K_formOf_2 (by decide) ?_
    refine lv_istore (lv' := [(5, .int (nI 0)), (3, .long (lI 0)), (0, .ref h), (1, .ref a), (2, .ref a)]) hx hb d_K_formOf_3 hl (by decide) rfl (fun ls hl => ?_)
    have lp_5 : ∀ (n_5 : Nat) (i : Nat) (H : Heap) (locs : List Loc) (ls : Array Slot), (i ≤ d + 1) → (d + 1 - i) < n_5 → va_P D vwC [(h, .inr (1, [.int (nI d), .int kb, .ref fo, .ref ke, .ref ht, .ref wo, .ref fi, .ref se])), (fo, LA cJ 16 Fm), (a, LA cJ 4 G)] H → va_D A [(h, .inr (1, [.int (nI d), .int kb, .ref fo, .ref ke, .ref ht, .ref wo, .ref fi, .ref se])), (fo, LA cJ 16 Fm), (a, LA cJ 4 G)] → va_S A s.heap H locs → lv_has ls 6 [(0, .ref h), (1, .ref a), (2, .ref a), (3, .long (lI (frmN Fm G G d i))), (5, .int (nI i))] → W p l e rm_c_formOf1 s m args below meth c H locs 0 0 Q (F0 m 5 ls []) := by
      intro n_5
      induction n_5 with
      | zero => intro i H locs ls hi hn_5; exact absurd hn_5 (Nat.not_lt_zero _)
      | succ n_5 ih_5 =>
        intro i H locs ls hi hn_5 hP hD hS hl
        refine lv_iload hx hb d_K_formOf_5 (lv_at hl 4 rfl) ?_
        refine lv_aload_n hx hb d_K_formOf_7 rfl (lv_at hl 0 rfl) ?_
        refine va_get (D := D) (ci := 1) (v := .int (nI d)) (C := R_K) (T := F_K) (N := 8) hx hb hts iw_K hown hK hP 0 rfl rfl 0 (by decide) (hts _ tw_42) (fun _ h9 => h9) rfl d_K_formOf_8 ?_
        refine xn_gt (tgt := 35) hx hb (by omega) (by omega) d_K_formOf_11 (by decide) (fun c11_0 => ?_) (fun c11_0 => ?_)
        · skip
          refine lv_lload_n hx hb d_K_formOf_35 rfl (lv_at hl 3 rfl) ?_
          exact hret H locs _ ls (lI (frmN Fm G G d i)) () d_K_formOf_36 (by rw [show i = d + 1 from by omega]) hP hD hS
        · skip
          refine lv_lload_n hx hb d_K_formOf_14 rfl (lv_at hl 3 rfl) ?_
          refine lv_aload_n hx hb d_K_formOf_15 rfl (lv_at hl 1 rfl) ?_
          refine lv_iload hx hb d_K_formOf_16 (lv_at hl 4 rfl) ?_
          refine xl_ald hx hb hK hP 2 0 rfl rfl (k := i) (by omega) (by first | decide | omega) d_K_formOf_18 ?_
          refine lv_aload_n hx hb d_K_formOf_19 rfl (lv_at hl 0 rfl) ?_
          refine lv_iload hx hb d_K_formOf_20 (lv_at hl 4 rfl) ?_
          refine lv_aload_n hx hb d_K_formOf_22 rfl (lv_at hl 2 rfl) ?_
          refine xcl (wc := [(h, .inr (1, [.int (nI d), .int kb, .ref fo, .ref ke, .ref ht, .ref wo, .ref fi, .ref se])), (fo, LA cJ 16 Fm), (a, LA cJ 4 G)]) (wr := []) hP hD hS hA [0, 1, 2] [] rfl rfl (by decide) (by decide) (va_runV (As := [.int (nI i), .ref a]) (rest := [.long (lI (G i)), .long (lI (frmN Fm G G d i))]) ⟨hx, hb, hml, hown, hts⟩ (c_rowTimes l D cJ h d kb fo ke ht wo fi se Fm a G i (by first | assumption | omega) (by first | assumption | omega) H.size) (cwV 2 hts (gV tw_226 tw_228 tws_8 tw_1 tw_229) rfl rfl rfl ⟨rfl, hd_K_rowTimes⟩ ⟨Nat.le_of_ble_eq_true rfl, Nat.le_of_ble_eq_true rfl⟩) (xPreV (C := R_K) (T := F_K) (N := 8) (q0 := 0) hN hK (hP.sub (ws' := [(h, .inr (1, [.int (nI d), .int kb, .ref fo, .ref ke, .ref ht, .ref wo, .ref fi, .ref se])), (fo, LA cJ 16 Fm), (a, LA cJ 4 G)]) [0, 1, 2] rfl) (hD.sub (ws' := [(h, .inr (1, [.int (nI d), .int kb, .ref fo, .ref ke, .ref ht, .ref wo, .ref fi, .ref se])), (fo, LA cJ 16 Fm), (a, LA cJ 4 G)]) [0, 1, 2] (by decide) rfl) rfl rfl) rfl rfl hl.1 rfl (lv_room (Nat.le_of_ble_eq_true rfl)) d_K_formOf_23 ⟨Nat.le_of_ble_eq_true rfl, Nat.le_of_ble_eq_true rfl⟩) (fun r_2 u_3 H locs hw_4 hP hD hS => ?_)
          try dsimp only at hw_4
          have hP : va_P D vwC [(h, .inr (1, [.int (nI d), .int kb, .ref fo, .ref ke, .ref ht, .ref wo, .ref fi, .ref se])), (fo, LA cJ 16 Fm), (a, LA cJ 4 G)] H := hP
          have hD : va_D A [(h, .inr (1, [.int (nI d), .int kb, .ref fo, .ref ke, .ref ht, .ref wo, .ref fi, .ref se])), (fo, LA cJ 16 Fm), (a, LA cJ 4 G)] := hD
          subst hw_4
          refine xl_mul hx hb d_K_formOf_26 ?_
          refine xl_add hx hb d_K_formOf_27 ?_
          refine lv_lstore_n (lv' := [(3, .long (lI ((frmN Fm G G d i) + ((G i) * (rowN Fm G i (d + 1)))))), (0, .ref h), (1, .ref a), (2, .ref a), (5, .int (nI i))]) hx hb d_K_formOf_28 rfl hl (by decide) rfl (fun ls hl => ?_)
          refine lv_iinc (v := nI (i + 1)) (lv' := [(5, .int (nI (i + 1))), (3, .long (lI ((frmN Fm G G d i) + ((G i) * (rowN Fm G i (d + 1)))))), (0, .ref h), (1, .ref a), (2, .ref a)]) hx hb d_K_formOf_29 hl (k := 4) rfl (nI_add _ _) (by decide) rfl (fun ls hl => ?_)
          refine lv_goto (tgt := 5) hx hb d_K_formOf_32 (by decide) ?_
          exact ih_5 (i + 1) H locs ls (by omega) (by omega) hP hD hS (lv_sub hl [2, 3, 4, 1, 0] rfl)
    exact lp_5 ((d + 1 - 0) + 1) 0 H locs ls (Nat.zero_le _) (by omega) hP hD hS (lv_sub hl [2, 3, 4, 1, 0] rfl)
  rw [hH, hlc] at key; exact key

def rm_c_gcd : Room := { frames := 1, cells := 0, slots := 0, locals := 60 }
set_option maxHeartbeats 4000000 in
set_option maxRecDepth 100000 in
/-- Euclid -/
theorem c_gcd (l : Launch) (D : va_G) (cJ : ClassId) (a : Int) (b : Int) (ha : a.natAbs < 2 ^ 40) (hb2 : b.natAbs < 2 ^ 40) (sz : Nat) : xMl l y_K_greatestDivisor (Cond.code y_K_greatestDivisor b_K_greatestDivisor 11 (some .long) :: tW) rm_c_gcd [.long (lI a), .long (lI b)] D vwC [(cJ, .long)] sz [] (fun (rv : Int64) (_ : Unit) => rv = lI ((Nat.gcd a.natAbs b.natAbs : Nat) : Int)) (fun (_ : Unit) => []) 0 0 := by
  refine xol (cc := b_K_greatestDivisor) (maxL := 11) (by decide) rfl (Nat.le_of_ble_eq_true rfl) ?_
  intro p e s m args below meth c Q A hx hb hml hts hown hN hA hS hP hK hD hret ls hl
  have hl : lv_has ls 11 [(0, .long (lI a)), (2, .long (lI b))] := hl
  obtain ⟨H, hH⟩ : ∃ z, z = s.heap := ⟨_, rfl⟩
  obtain ⟨locs, hlc⟩ : ∃ z : List Loc, z = [] := ⟨_, rfl⟩
  rw [← hH] at hP
  have hS : va_S A s.heap H locs := by rw [hH, hlc]; exact hS
  have key : W p l e rm_c_gcd s m args below meth c H locs 0 0 Q (F0 m 0 ls []) := by
    refine lv_lload_n hx hb d_K_greatestDivisor_0 rfl (lv_at hl 0 rfl) ?_
    refine xl_abs hx hb (by rw [hml]; exact hl.1.symm) hown (hts _ tw_182) (hts _ tw_183) (hts _ tw_6) (hts _ tw_184) (Nat.le_of_ble_eq_true rfl) (Nat.le_of_ble_eq_true rfl) (Nat.zero_le _) (Nat.zero_le _) (by first | assumption | (unfold lB; omega)) d_K_greatestDivisor_1 ?_
    refine lv_lstore (lv' := [(4, .long (lI ((a.natAbs : Nat) : Int))), (0, .long (lI a)), (2, .long (lI b))]) hx hb d_K_greatestDivisor_4 hl (by decide) rfl (fun ls hl => ?_)
    refine lv_lload_n hx hb d_K_greatestDivisor_6 rfl (lv_at hl 2 rfl) ?_
    refine xl_abs hx hb (by rw [hml]; exact hl.1.symm) hown (hts _ tw_182) (hts _ tw_183) (hts _ tw_6) (hts _ tw_184) (Nat.le_of_ble_eq_true rfl) (Nat.le_of_ble_eq_true rfl) (Nat.zero_le _) (Nat.zero_le _) (by first | assumption | (unfold lB; omega)) d_K_greatestDivisor_7 ?_
    refine lv_lstore (lv' := [(6, .long (lI ((b.natAbs : Nat) : Int))), (4, .long (lI ((a.natAbs : Nat) : Int))), (0, .long (lI a)), (2, .long (lI b))]) hx hb d_K_greatestDivisor_10 hl (by decide) rfl (fun ls hl => ?_)
    refine lv_iconst (v := nI 0) hx hb d_K_greatestDivisor_12 (by decide) ?_
    refine lv_istore (lv' := [(8, .int (nI 0)), (6, .long (lI ((b.natAbs : Nat) : Int))), (4, .long (lI ((a.natAbs : Nat) : Int))), (0, .long (lI a)), (2, .long (lI b))]) hx hb d_K_greatestDivisor_13 hl (by decide) rfl (fun ls hl => ?_)
    have lp_15 : ∀ (n_15 : Nat) (t : Nat) (u : Nat) (v : Nat) (H : Heap) (locs : List Loc) (ls : Array Slot), (t ≤ 100) → (u < 2 ^ 40) → (v < 2 ^ 40) → (euI t u v) → (Nat.gcd u v = Nat.gcd a.natAbs b.natAbs) → (100 - t) < n_15 → va_P D vwC [] H → va_D A [] → va_S A s.heap H locs → lv_has ls 11 [(4, .long (lI ((u : Nat) : Int))), (6, .long (lI ((v : Nat) : Int))), (8, .int (nI t))] → W p l e rm_c_gcd s m args below meth c H locs 0 0 Q (F0 m 15 ls []) := by
      intro n_15
      induction n_15 with
      | zero => intro t u v H locs ls ht hu hv he hg hn_15; exact absurd hn_15 (Nat.not_lt_zero _)
      | succ n_15 ih_15 =>
        intro t u v H locs ls ht hu hv he hg hn_15 hP hD hS hl
        refine lv_iload hx hb d_K_greatestDivisor_15 (lv_at hl 2 rfl) ?_
        refine lv_bipush (v := nI 100) hx hb d_K_greatestDivisor_17 (by decide) ?_
        refine xn_ge (tgt := 50) hx hb (by omega) (by omega) d_K_greatestDivisor_19 (by decide) (fun c19_0 => ?_) (fun c19_0 => ?_)
        · skip
          refine lv_lload hx hb d_K_greatestDivisor_50 (lv_at hl 0 rfl) ?_
          exact hret H locs _ ls (lI ((u : Nat) : Int)) () d_K_greatestDivisor_52 (by rw [← hg, show v = 0 from (by first | omega | exact euI_end (by omega) he), Nat.gcd_zero_right]) hP hD hS
        · skip
          refine lv_lload hx hb d_K_greatestDivisor_22 (lv_at hl 1 rfl) ?_
          refine lv_lconst (v := lI 0) hx hb d_K_greatestDivisor_24 (by decide) ?_
          refine xl_eq (tgt := 50) hx hb (by first | assumption | (unfold lB; omega)) ⟨by decide, by decide⟩ d_K_greatestDivisor_25 d_K_greatestDivisor_26 (by decide) (fun c26_1 => ?_) (fun c26_1 => ?_)
          · skip
            refine lv_lload hx hb d_K_greatestDivisor_50 (lv_at hl 0 rfl) ?_
            exact hret H locs _ ls (lI ((u : Nat) : Int)) () d_K_greatestDivisor_52 (by rw [← hg, show v = 0 from (by first | omega | exact euI_end (by omega) he), Nat.gcd_zero_right]) hP hD hS
          · skip
            refine lv_lload hx hb d_K_greatestDivisor_29 (lv_at hl 0 rfl) ?_
            refine lv_lload hx hb d_K_greatestDivisor_31 (lv_at hl 1 rfl) ?_
            refine xl_rem hx hb (by first | assumption | (unfold lB; omega)) (by first | assumption | (unfold lB; omega)) (by omega) (by omega) d_K_greatestDivisor_33 ?_
            rw [show ((u : Nat) : Int).tmod ((v : Nat) : Int) = ((u % v : Nat) : Int) from rfl]
            refine lv_lstore (lv' := [(9, .long (lI ((u % v : Nat) : Int))), (4, .long (lI ((u : Nat) : Int))), (6, .long (lI ((v : Nat) : Int))), (8, .int (nI t))]) hx hb d_K_greatestDivisor_34 hl (by decide) rfl (fun ls hl => ?_)
            refine lv_lload hx hb d_K_greatestDivisor_36 (lv_at hl 2 rfl) ?_
            refine lv_lstore (lv' := [(4, .long (lI ((v : Nat) : Int))), (9, .long (lI ((u % v : Nat) : Int))), (6, .long (lI ((v : Nat) : Int))), (8, .int (nI t))]) hx hb d_K_greatestDivisor_38 hl (by decide) rfl (fun ls hl => ?_)
            refine lv_lload hx hb d_K_greatestDivisor_40 (lv_at hl 1 rfl) ?_
            refine lv_lstore (lv' := [(6, .long (lI ((u % v : Nat) : Int))), (4, .long (lI ((v : Nat) : Int))), (9, .long (lI ((u % v : Nat) : Int))), (8, .int (nI t))]) hx hb d_K_greatestDivisor_42 hl (by decide) rfl (fun ls hl => ?_)
            refine lv_iinc (v := nI (t + 1)) (lv' := [(8, .int (nI (t + 1))), (6, .long (lI ((u % v : Nat) : Int))), (4, .long (lI ((v : Nat) : Int))), (9, .long (lI ((u % v : Nat) : Int)))]) hx hb d_K_greatestDivisor_44 hl (k := 3) rfl (nI_add _ _) (by decide) rfl (fun ls hl => ?_)
            refine lv_goto (tgt := 15) hx hb d_K_greatestDivisor_47 (by decide) ?_
            exact ih_15 (t + 1) v (u % v) H locs ls (by omega) hv (Nat.lt_trans (Nat.mod_lt u (by omega)) hv) (euI_step (by omega) he) (by rw [← hg, Nat.gcd_comm u v, Nat.gcd_rec v u, Nat.gcd_comm]) (by omega) hP hD hS (lv_sub hl [2, 1, 0] rfl)
    exact lp_15 ((100 - 0) + 1) 0 a.natAbs b.natAbs H locs ls (Nat.zero_le _) ha hb2 (euI_0 ha hb2) rfl (by omega) hP hD hS (lv_sub hl [2, 1, 0] rfl)
  rw [hH, hlc] at key; exact key

def rm_c_part : Room := { frames := 2, cells := 0, slots := 0, locals := 90 }
set_option maxHeartbeats 4000000 in
set_option maxRecDepth 100000 in
/-- a part of a fraction -/
theorem c_part (l : Launch) (D : va_G) (cJ : ClassId) (up : Int) (dn : Int) (pt : Int32) (hu : up.natAbs < 2 ^ 40) (hd : dn.natAbs < 2 ^ 40) (sz : Nat) : xMl l y_K_partOfFraction (Cond.code y_K_partOfFraction b_K_partOfFraction 9 (some .long) :: tW) rm_c_part [.long (lI up), .long (lI dn), .int pt] D vwC [(cJ, .long)] sz [] (fun (rv : Int64) (_ : Unit) => rv = lI (pfr up dn pt.toInt)) (fun (_ : Unit) => []) 0 0 := by
  refine xol (cc := b_K_partOfFraction) (maxL := 9) (by decide) rfl (Nat.le_of_ble_eq_true rfl) ?_
  intro p e s m args below meth c Q A hx hb hml hts hown hN hA hS hP hK hD hret ls hl
  have hl : lv_has ls 9 [(0, .long (lI up)), (2, .long (lI dn)), (4, .int pt)] := hl
  obtain ⟨H, hH⟩ : ∃ z, z = s.heap := ⟨_, rfl⟩
  obtain ⟨locs, hlc⟩ : ∃ z : List Loc, z = [] := ⟨_, rfl⟩
  rw [← hH] at hP
  have hS : va_S A s.heap H locs := by rw [hH, hlc]; exact hS
  have key : W p l e rm_c_part s m args below meth c H locs 0 0 Q (F0 m 0 ls []) := by
    refine lv_lload_n hx hb d_K_partOfFraction_0 rfl (lv_at hl 1 rfl) ?_
    refine lv_lconst (v := lI 0) hx hb d_K_partOfFraction_1 (by decide) ?_
    refine xl_ne (tgt := 10) hx hb (by first | assumption | (unfold lB; omega)) ⟨by decide, by decide⟩ d_K_partOfFraction_2 d_K_partOfFraction_3 (by decide) (fun c3_0 => ?_) (fun c3_0 => ?_)
    · skip
      refine lv_lload_n hx hb d_K_partOfFraction_10 rfl (lv_at hl 0 rfl) ?_
      refine lv_lload_n hx hb d_K_partOfFraction_11 rfl (lv_at hl 1 rfl) ?_
      refine xcl (wc := []) (wr := []) hP hD hS hA [] [] rfl rfl (by decide) (by decide) (va_runS (As := [.long (lI up), .long (lI dn)]) (rest := []) ⟨hx, hb, hml, hown, hts⟩ (c_gcd l D cJ up dn (by first | assumption | omega) (by first | assumption | omega) H.size) (cwS 2 hts (gS tw_179 tw_180 tw_1 tw_181) rfl rfl rfl ⟨rfl, hd_K_greatestDivisor⟩ ⟨Nat.le_of_ble_eq_true rfl, Nat.le_of_ble_eq_true rfl⟩) (xPreS hN hK (hP.sub (ws' := []) [] rfl) (hD.sub (ws' := []) [] (by decide) rfl)) rfl rfl hl.1 rfl (lv_room (Nat.le_of_ble_eq_true rfl)) d_K_partOfFraction_12 ⟨Nat.le_of_ble_eq_true rfl, Nat.le_of_ble_eq_true rfl⟩) (fun r_2 u_3 H locs hw_4 hP hD hS => ?_)
      try dsimp only at hw_4
      have hP : va_P D vwC [] H := hP
      have hD : va_D A [] := hD
      subst hw_4
      have hg0 : 0 < Nat.gcd up.natAbs dn.natAbs := Nat.gcd_pos_of_pos_right _ (by omega)
      have hg1 : Nat.gcd up.natAbs dn.natAbs ≤ dn.natAbs := Nat.gcd_le_right _ (by omega)
      refine lv_lstore (lv' := [(5, .long (lI ((Nat.gcd up.natAbs dn.natAbs : Nat) : Int))), (0, .long (lI up)), (2, .long (lI dn)), (4, .int pt)]) hx hb d_K_partOfFraction_15 hl (by decide) rfl (fun ls hl => ?_)
      refine lv_lload hx hb d_K_partOfFraction_17 (lv_at hl 0 rfl) ?_
      refine lv_lconst (v := lI 0) hx hb d_K_partOfFraction_19 (by decide) ?_
      refine xl_ne (tgt := 28) hx hb ⟨by omega, by omega⟩ ⟨by decide, by decide⟩ d_K_partOfFraction_20 d_K_partOfFraction_21 (by decide) (fun c21_4 => ?_) (fun c21_4 => absurd c21_4 (by omega))
      refine lv_lload_n hx hb d_K_partOfFraction_28 rfl (lv_at hl 2 rfl) ?_
      refine lv_lconst (v := lI 0) hx hb d_K_partOfFraction_29 (by decide) ?_
      refine xl_ge (tgt := 40) hx hb (by first | assumption | (unfold lB; omega)) ⟨by decide, by decide⟩ d_K_partOfFraction_30 d_K_partOfFraction_31 (by decide) (fun c31_5 => ?_) (fun c31_5 => ?_)
      · skip
        refine lv_lload hx hb d_K_partOfFraction_40 (lv_at hl 0 rfl) ?_
        refine lv_lstore (lv' := [(7, .long (lI ((Nat.gcd up.natAbs dn.natAbs : Nat) : Int))), (5, .long (lI ((Nat.gcd up.natAbs dn.natAbs : Nat) : Int))), (0, .long (lI up)), (2, .long (lI dn)), (4, .int pt)]) hx hb d_K_partOfFraction_42 hl (by decide) rfl (fun ls hl => ?_)
        refine lv_iload hx hb d_K_partOfFraction_44 (lv_at hl 4 rfl) ?_
        refine xz_ne (tgt := 53) (X := pt.toInt) hx hb rfl d_K_partOfFraction_46 (by decide) (fun c46_6 => ?_) (fun c46_6 => ?_)
        · skip
          refine lv_lload_n hx hb d_K_partOfFraction_53 rfl (lv_at hl 3 rfl) ?_
          refine lv_lload hx hb d_K_partOfFraction_54 (lv_at hl 0 rfl) ?_
          refine xl_div hx hb (by unfold lB; omega) (by unfold lB; omega) (by omega) (by omega) d_K_partOfFraction_56 ?_
          exact hret H locs _ ls (lI (dn.tdiv ((Nat.gcd up.natAbs dn.natAbs : Nat) : Int))) () d_K_partOfFraction_57 (by unfold pfr; rw [if_neg c3_0, if_neg (show ¬ dn < 0 from by omega), if_neg (show ¬ pt.toInt = 0 from by omega)]) hP hD hS
        · skip
          refine lv_lload_n hx hb d_K_partOfFraction_49 rfl (lv_at hl 2 rfl) ?_
          refine lv_goto (tgt := 54) hx hb d_K_partOfFraction_50 (by decide) ?_
          refine lv_lload hx hb d_K_partOfFraction_54 (lv_at hl 0 rfl) ?_
          refine xl_div hx hb (by unfold lB; omega) (by unfold lB; omega) (by omega) (by omega) d_K_partOfFraction_56 ?_
          exact hret H locs _ ls (lI (up.tdiv ((Nat.gcd up.natAbs dn.natAbs : Nat) : Int))) () d_K_partOfFraction_57 (by unfold pfr; rw [if_neg c3_0, if_neg (show ¬ dn < 0 from by omega), if_pos (show pt.toInt = 0 from by omega)]) hP hD hS
      · skip
        refine lv_lload hx hb d_K_partOfFraction_34 (lv_at hl 0 rfl) ?_
        refine xl_neg hx hb d_K_partOfFraction_36 ?_
        refine lv_goto (tgt := 42) hx hb d_K_partOfFraction_37 (by decide) ?_
        refine lv_lstore (lv' := [(7, .long (lI (-((Nat.gcd up.natAbs dn.natAbs : Nat) : Int)))), (5, .long (lI ((Nat.gcd up.natAbs dn.natAbs : Nat) : Int))), (0, .long (lI up)), (2, .long (lI dn)), (4, .int pt)]) hx hb d_K_partOfFraction_42 hl (by decide) rfl (fun ls hl => ?_)
        refine lv_iload hx hb d_K_partOfFraction_44 (lv_at hl 4 rfl) ?_
        refine xz_ne (tgt := 53) (X := pt.toInt) hx hb rfl d_K_partOfFraction_46 (by decide) (fun c46_7 => ?_) (fun c46_7 => ?_)
        · skip
          refine lv_lload_n hx hb d_K_partOfFraction_53 rfl (lv_at hl 3 rfl) ?_
          refine lv_lload hx hb d_K_partOfFraction_54 (lv_at hl 0 rfl) ?_
          refine xl_div hx hb (by unfold lB; omega) (by unfold lB; omega) (by omega) (by omega) d_K_partOfFraction_56 ?_
          exact hret H locs _ ls (lI (dn.tdiv (-((Nat.gcd up.natAbs dn.natAbs : Nat) : Int)))) () d_K_partOfFraction_57 (by unfold pfr; rw [if_neg c3_0, if_pos (show dn < 0 from by omega), if_neg (show ¬ pt.toInt = 0 from by omega)]) hP hD hS
        · skip
          refine lv_lload_n hx hb d_K_partOfFraction_49 rfl (lv_at hl 2 rfl) ?_
          refine lv_goto (tgt := 54) hx hb d_K_partOfFraction_50 (by decide) ?_
          refine lv_lload hx hb d_K_partOfFraction_54 (lv_at hl 0 rfl) ?_
          refine xl_div hx hb (by unfold lB; omega) (by unfold lB; omega) (by omega) (by omega) d_K_partOfFraction_56 ?_
          exact hret H locs _ ls (lI (up.tdiv (-((Nat.gcd up.natAbs dn.natAbs : Nat) : Int)))) () d_K_partOfFraction_57 (by unfold pfr; rw [if_neg c3_0, if_pos (show dn < 0 from by omega), if_pos (show pt.toInt = 0 from by omega)]) hP hD hS
    · skip
      refine lv_ldc2 (v := lI (-1000000000000000000)) hx hb hown (hts _ tw_85) d_K_partOfFraction_6 ?_
      exact hret H locs _ ls (lI (-1000000000000000000)) () d_K_partOfFraction_9 (by unfold pfr; rw [if_pos c3_0]; rfl) hP hD hS
  rw [hH, hlc] at key; exact key

def rm_c_clear : Room := { frames := 2, cells := 0, slots := 0, locals := 90 }
set_option maxHeartbeats 4000000 in
set_option maxRecDepth 100000 in
/-- a row without divisor -/
theorem c_clear (l : Launch) (D : va_G) (cJ : ClassId) (a : Nat) (G : Nat → Int) (n : Nat) (hn : n ≤ 4) (hG : ∀ k, k < n → (G k).natAbs < 2 ^ 40) (sz : Nat) : xMz l y_K_clearDivisor (Cond.code y_K_clearDivisor b_K_clearDivisor 9 (some .boolean) :: tW) rm_c_clear [.ref a, .int (nI n)] D vwC [(cJ, .long)] sz [(a, LA cJ 4 G)] (fun (rv : Int32) (uo : (Nat → Int)) => ((rv = nI 1 ∧ (gcdN G n ≠ 0)) ∨ (rv = nI 0 ∧ ¬ (gcdN G n ≠ 0))) ∧ (gcdN G n ≠ 0 → ∀ k, k < n → uo k = (G k).tdiv (dvN G n))) (fun (uo : (Nat → Int)) => [(a, LA cJ 4 uo)]) 0 0 := by
  refine xoz (cc := b_K_clearDivisor) (maxL := 9) (by decide) rfl (Nat.le_of_ble_eq_true rfl) (fun r u h => by rcases h.1 with h | h; exact Or.inr h.1; exact Or.inl h.1) ?_
  intro p e s m args below meth c Q A hx hb hml hts hown hN hA hS hP hK hD hret ls hl
  have hl : lv_has ls 9 [(0, .ref a), (1, .int (nI n))] := hl
  obtain ⟨H, hH⟩ : ∃ z, z = s.heap := ⟨_, rfl⟩
  obtain ⟨locs, hlc⟩ : ∃ z : List Loc, z = [] := ⟨_, rfl⟩
  rw [← hH] at hP
  have hS : va_S A s.heap H locs := by rw [hH, hlc]; exact hS
  have key : W p l e rm_c_clear s m args below meth c H locs 0 0 Q (F0 m 0 ls []) := by
    refine lv_lconst (v := lI 0) hx hb d_K_clearDivisor_0 (by decide) ?_
    refine lv_lstore_n (lv' := [(2, .long (lI 0)), (0, .ref a), (1, .int (nI n))]) hx hb d_K_clearDivisor_1 rfl hl (by decide) rfl (fun ls hl => ?_)
    refine lv_lconst (v := lI 0) hx hb d_K_clearDivisor_2 (by decide) ?_
    refine lv_lstore (lv' := [(4, .long (lI 0)), (2, .long (lI 0)), (0, .ref a), (1, .int (nI n))]) hx hb d_K_clearDivisor_3 hl (by decide) rfl (fun ls hl => ?_)
    refine lv_iconst (v := nI 0) hx hb d_K_clearDivisor_5 (by decide) ?_
    refine lv_istore (lv' := [(6, .int (nI 0)), (4, .long (lI 0)), (2, .long (lI 0)), (0, .ref a), (1, .int (nI n))]) hx hb d_K_clearDivisor_6 hl (by decide) rfl (fun ls hl => ?_)
    have lp_8 : ∀ (n_8 : Nat) (i : Nat) (H : Heap) (locs : List Loc) (ls : Array Slot), (i ≤ n) → (n - i) < n_8 → va_P D vwC [(a, LA cJ 4 G)] H → va_D A [(a, LA cJ 4 G)] → va_S A s.heap H locs → lv_has ls 9 [(0, .ref a), (1, .int (nI n)), (2, .long (lI ((gcdN G i : Nat) : Int))), (4, .long (lI (leadN G i))), (6, .int (nI i))] → W p l e rm_c_clear s m args below meth c H locs 0 0 Q (F0 m 8 ls []) := by
      intro n_8
      induction n_8 with
      | zero => intro i H locs ls hi hn_8; exact absurd hn_8 (Nat.not_lt_zero _)
      | succ n_8 ih_8 =>
        intro i H locs ls hi hn_8 hP hD hS hl
        have hgl : gcdN G i < 2 ^ 40 := gcdN_lt (by decide) (fun k hk => hG k (by omega))
        have hll : (leadN G i).natAbs < 2 ^ 40 := leadN_lt (by decide) (fun k hk => hG k (by omega))
        refine lv_iload hx hb d_K_clearDivisor_8 (lv_at hl 4 rfl) ?_
        refine lv_iload_n hx hb d_K_clearDivisor_10 rfl (lv_at hl 1 rfl) ?_
        refine xn_ge (tgt := 47) hx hb (by omega) (by omega) d_K_clearDivisor_11 (by decide) (fun c11_0 => ?_) (fun c11_0 => ?_)
        · skip
          have hin : n = i := by omega
          subst hin
          refine lv_lload_n hx hb d_K_clearDivisor_47 rfl (lv_at hl 2 rfl) ?_
          refine lv_lconst (v := lI 0) hx hb d_K_clearDivisor_48 (by decide) ?_
          refine xl_ne (tgt := 55) hx hb (by unfold lB; omega) ⟨by decide, by decide⟩ d_K_clearDivisor_49 d_K_clearDivisor_50 (by decide) (fun c50_1 => ?_) (fun c50_1 => ?_)
          · skip
            refine lv_lload hx hb d_K_clearDivisor_55 (lv_at hl 3 rfl) ?_
            refine lv_lconst (v := lI 0) hx hb d_K_clearDivisor_57 (by decide) ?_
            refine xl_ge (tgt := 67) hx hb (by unfold lB; omega) ⟨by decide, by decide⟩ d_K_clearDivisor_58 d_K_clearDivisor_59 (by decide) (fun c59_2 => ?_) (fun c59_2 => ?_)
            · skip
              refine lv_lload_n hx hb d_K_clearDivisor_67 rfl (lv_at hl 2 rfl) ?_
              have hdv : dvN G n = ((gcdN G n : Nat) : Int) := if_neg (by omega)
              rw [← hdv]
              refine lv_lstore (lv' := [(6, .long (lI (dvN G n))), (0, .ref a), (1, .int (nI n)), (2, .long (lI ((gcdN G n : Nat) : Int))), (4, .long (lI (leadN G n)))]) hx hb d_K_clearDivisor_68 hl (by decide) rfl (fun ls hl => ?_)
              refine lv_iconst (v := nI 0) hx hb d_K_clearDivisor_70 (by decide) ?_
              refine lv_istore (lv' := [(8, .int (nI 0)), (6, .long (lI (dvN G n))), (0, .ref a), (1, .int (nI n)), (2, .long (lI ((gcdN G n : Nat) : Int))), (4, .long (lI (leadN G n)))]) hx hb d_K_clearDivisor_71 hl (by decide) rfl (fun ls hl => ?_)
              have lp_73 : ∀ (n_73 : Nat) (j : Nat) (G3 : Nat → Int) (H : Heap) (locs : List Loc) (ls : Array Slot), (j ≤ n) → (∀ k, k < n → G3 k = if k < j then (G k).tdiv (dvN G n) else G k) → (n - j) < n_73 → va_P D vwC [(a, LA cJ 4 G3)] H → va_D A [(a, LA cJ 4 G3)] → va_S A s.heap H locs → lv_has ls 9 [(0, .ref a), (1, .int (nI n)), (6, .long (lI (dvN G n))), (8, .int (nI j))] → W p l e rm_c_clear s m args below meth c H locs 0 0 Q (F0 m 73 ls []) := by
                intro n_73
                induction n_73 with
                | zero => intro j G3 H locs ls hj h3 hn_73; exact absurd hn_73 (Nat.not_lt_zero _)
                | succ n_73 ih_73 =>
                  intro j G3 H locs ls hj h3 hn_73 hP hD hS hl
                  refine lv_iload hx hb d_K_clearDivisor_73 (lv_at hl 3 rfl) ?_
                  refine lv_iload_n hx hb d_K_clearDivisor_75 rfl (lv_at hl 1 rfl) ?_
                  refine xn_ge (tgt := 94) hx hb (by omega) (by omega) d_K_clearDivisor_76 (by decide) (fun c76_3 => ?_) (fun c76_3 => ?_)
                  · skip
                    refine lv_iconst (v := nI 1) hx hb d_K_clearDivisor_94 (by decide) ?_
                    exact hret H locs _ ls (nI 1) G3 d_K_clearDivisor_95 ⟨Or.inl ⟨rfl, by omega⟩, fun _ k hk => (h3 k hk).trans (if_pos (by omega))⟩ hP hD hS
                  · skip
                    refine lv_aload_n hx hb d_K_clearDivisor_79 rfl (lv_at hl 0 rfl) ?_
                    refine lv_iload hx hb d_K_clearDivisor_80 (lv_at hl 3 rfl) ?_
                    refine lv_dup2_11 hx hb d_K_clearDivisor_82 rfl rfl ?_
                    refine xl_ald hx hb hK hP 0 0 rfl rfl (k := j) (by omega) (by first | decide | omega) d_K_clearDivisor_83 ?_
                    have hgj : G3 j = G j := (h3 j (by omega)).trans (if_neg (by omega))
                    have hgb := hG j (by omega)
                    refine lv_lload hx hb d_K_clearDivisor_84 (lv_at hl 2 rfl) ?_
                    refine xl_div hx hb (by unfold lB; omega) (by unfold lB; omega) (by omega) (by omega) d_K_clearDivisor_86 ?_
                    refine xl_ast hx hb hK hP hD hS 0 0 rfl rfl (k := j) (by omega) (by first | decide | omega) d_K_clearDivisor_87 (fun H locs hP hD hS => ?_)
                    have hP : va_P D vwC [(a, LA cJ 4 (upZ G3 j ((G3 j).tdiv (dvN G n))))] H := hP
                    have hD : va_D A [(a, LA cJ 4 (upZ G3 j ((G3 j).tdiv (dvN G n))))] := hD
                    refine lv_iinc (v := nI (j + 1)) (lv' := [(8, .int (nI (j + 1))), (0, .ref a), (1, .int (nI n)), (6, .long (lI (dvN G n)))]) hx hb d_K_clearDivisor_88 hl (k := 3) rfl (nI_add _ _) (by decide) rfl (fun ls hl => ?_)
                    refine lv_goto (tgt := 73) hx hb d_K_clearDivisor_91 (by decide) ?_
                    exact ih_73 (j + 1) (upZ G3 j ((G3 j).tdiv (dvN G n))) H locs ls (by omega) (fun k hk => by by_cases q : k = j; rw [q, upZ_at, if_pos (show j < j + 1 from by omega), h3 j (by omega), if_neg (show ¬ j < j from by omega)]; rw [upZ_ne (k := j) (j := k) _ _ q, h3 k hk]; by_cases q2 : k < j; rw [if_pos q2, if_pos (show k < j + 1 from by omega)]; rw [if_neg q2, if_neg (show ¬ k < j + 1 from by omega)]) (by omega) hP hD hS (lv_sub hl [1, 2, 3, 0] rfl)
              exact lp_73 ((n - 0) + 1) 0 G H locs ls (Nat.zero_le _) (fun k hk => rfl) (by omega) hP hD hS (lv_sub hl [2, 3, 1, 0] rfl)
            · skip
              refine lv_lload_n hx hb d_K_clearDivisor_62 rfl (lv_at hl 2 rfl) ?_
              refine xl_neg hx hb d_K_clearDivisor_63 ?_
              refine lv_goto (tgt := 68) hx hb d_K_clearDivisor_64 (by decide) ?_
              have hdv : dvN G n = -((gcdN G n : Nat) : Int) := if_pos (by omega)
              rw [← hdv]
              refine lv_lstore (lv' := [(6, .long (lI (dvN G n))), (0, .ref a), (1, .int (nI n)), (2, .long (lI ((gcdN G n : Nat) : Int))), (4, .long (lI (leadN G n)))]) hx hb d_K_clearDivisor_68 hl (by decide) rfl (fun ls hl => ?_)
              refine lv_iconst (v := nI 0) hx hb d_K_clearDivisor_70 (by decide) ?_
              refine lv_istore (lv' := [(8, .int (nI 0)), (6, .long (lI (dvN G n))), (0, .ref a), (1, .int (nI n)), (2, .long (lI ((gcdN G n : Nat) : Int))), (4, .long (lI (leadN G n)))]) hx hb d_K_clearDivisor_71 hl (by decide) rfl (fun ls hl => ?_)
              have lp_73 : ∀ (n_73 : Nat) (j : Nat) (G3 : Nat → Int) (H : Heap) (locs : List Loc) (ls : Array Slot), (j ≤ n) → (∀ k, k < n → G3 k = if k < j then (G k).tdiv (dvN G n) else G k) → (n - j) < n_73 → va_P D vwC [(a, LA cJ 4 G3)] H → va_D A [(a, LA cJ 4 G3)] → va_S A s.heap H locs → lv_has ls 9 [(0, .ref a), (1, .int (nI n)), (6, .long (lI (dvN G n))), (8, .int (nI j))] → W p l e rm_c_clear s m args below meth c H locs 0 0 Q (F0 m 73 ls []) := by
                intro n_73
                induction n_73 with
                | zero => intro j G3 H locs ls hj h3 hn_73; exact absurd hn_73 (Nat.not_lt_zero _)
                | succ n_73 ih_73 =>
                  intro j G3 H locs ls hj h3 hn_73 hP hD hS hl
                  refine lv_iload hx hb d_K_clearDivisor_73 (lv_at hl 3 rfl) ?_
                  refine lv_iload_n hx hb d_K_clearDivisor_75 rfl (lv_at hl 1 rfl) ?_
                  refine xn_ge (tgt := 94) hx hb (by omega) (by omega) d_K_clearDivisor_76 (by decide) (fun c76_4 => ?_) (fun c76_4 => ?_)
                  · skip
                    refine lv_iconst (v := nI 1) hx hb d_K_clearDivisor_94 (by decide) ?_
                    exact hret H locs _ ls (nI 1) G3 d_K_clearDivisor_95 ⟨Or.inl ⟨rfl, by omega⟩, fun _ k hk => (h3 k hk).trans (if_pos (by omega))⟩ hP hD hS
                  · skip
                    refine lv_aload_n hx hb d_K_clearDivisor_79 rfl (lv_at hl 0 rfl) ?_
                    refine lv_iload hx hb d_K_clearDivisor_80 (lv_at hl 3 rfl) ?_
                    refine lv_dup2_11 hx hb d_K_clearDivisor_82 rfl rfl ?_
                    refine xl_ald hx hb hK hP 0 0 rfl rfl (k := j) (by omega) (by first | decide | omega) d_K_clearDivisor_83 ?_
                    have hgj : G3 j = G j := (h3 j (by omega)).trans (if_neg (by omega))
                    have hgb := hG j (by omega)
                    refine lv_lload hx hb d_K_clearDivisor_84 (lv_at hl 2 rfl) ?_
                    refine xl_div hx hb (by unfold lB; omega) (by unfold lB; omega) (by omega) (by omega) d_K_clearDivisor_86 ?_
                    refine xl_ast hx hb hK hP hD hS 0 0 rfl rfl (k := j) (by omega) (by first | decide | omega) d_K_clearDivisor_87 (fun H locs hP hD hS => ?_)
                    have hP : va_P D vwC [(a, LA cJ 4 (upZ G3 j ((G3 j).tdiv (dvN G n))))] H := hP
                    have hD : va_D A [(a, LA cJ 4 (upZ G3 j ((G3 j).tdiv (dvN G n))))] := hD
                    refine lv_iinc (v := nI (j + 1)) (lv' := [(8, .int (nI (j + 1))), (0, .ref a), (1, .int (nI n)), (6, .long (lI (dvN G n)))]) hx hb d_K_clearDivisor_88 hl (k := 3) rfl (nI_add _ _) (by decide) rfl (fun ls hl => ?_)
                    refine lv_goto (tgt := 73) hx hb d_K_clearDivisor_91 (by decide) ?_
                    exact ih_73 (j + 1) (upZ G3 j ((G3 j).tdiv (dvN G n))) H locs ls (by omega) (fun k hk => by by_cases q : k = j; rw [q, upZ_at, if_pos (show j < j + 1 from by omega), h3 j (by omega), if_neg (show ¬ j < j from by omega)]; rw [upZ_ne (k := j) (j := k) _ _ q, h3 k hk]; by_cases q2 : k < j; rw [if_pos q2, if_pos (show k < j + 1 from by omega)]; rw [if_neg q2, if_neg (show ¬ k < j + 1 from by omega)]) (by omega) hP hD hS (lv_sub hl [1, 2, 3, 0] rfl)
              exact lp_73 ((n - 0) + 1) 0 G H locs ls (Nat.zero_le _) (fun k hk => rfl) (by omega) hP hD hS (lv_sub hl [2, 3, 1, 0] rfl)
          · skip
            refine lv_iconst (v := nI 0) hx hb d_K_clearDivisor_53 (by decide) ?_
            exact hret H locs _ ls (nI 0) G d_K_clearDivisor_54 ⟨Or.inr ⟨rfl, by omega⟩, fun q => absurd q (by omega)⟩ hP hD hS
        · skip
          refine lv_lload_n hx hb d_K_clearDivisor_14 rfl (lv_at hl 2 rfl) ?_
          refine lv_aload_n hx hb d_K_clearDivisor_15 rfl (lv_at hl 0 rfl) ?_
          refine lv_iload hx hb d_K_clearDivisor_16 (lv_at hl 4 rfl) ?_
          refine xl_ald hx hb hK hP 0 0 rfl rfl (k := i) (by omega) (by first | decide | omega) d_K_clearDivisor_18 ?_
          refine xcl (wc := []) (wr := [(a, LA cJ 4 G)]) hP hD hS hA [] [0] rfl rfl (by decide) (by decide) (va_runS (As := [.long (lI ((gcdN G i : Nat) : Int)), .long (lI (G i))]) (rest := []) ⟨hx, hb, hml, hown, hts⟩ (c_gcd l D cJ ((gcdN G i : Nat) : Int) (G i) (by show gcdN G i < 2 ^ 40; exact hgl) (hG i (by omega)) H.size) (cwS 2 hts (gS tw_179 tw_180 tw_1 tw_181) rfl rfl rfl ⟨rfl, hd_K_greatestDivisor⟩ ⟨Nat.le_of_ble_eq_true rfl, Nat.le_of_ble_eq_true rfl⟩) (xPreS hN hK (hP.sub (ws' := []) [] rfl) (hD.sub (ws' := []) [] (by decide) rfl)) rfl rfl hl.1 rfl (lv_room (Nat.le_of_ble_eq_true rfl)) d_K_clearDivisor_19 ⟨Nat.le_of_ble_eq_true rfl, Nat.le_of_ble_eq_true rfl⟩) (fun r_6 u_7 H locs hw_8 hP hD hS => ?_)
          try dsimp only at hw_8
          have hP : va_P D vwC [(a, LA cJ 4 G)] H := hP
          have hD : va_D A [(a, LA cJ 4 G)] := hD
          subst hw_8
          refine lv_lstore_n (lv' := [(2, .long (lI ((Nat.gcd ((gcdN G i : Nat) : Int).natAbs (G i).natAbs : Nat) : Int))), (0, .ref a), (1, .int (nI n)), (4, .long (lI (leadN G i))), (6, .int (nI i))]) hx hb d_K_clearDivisor_22 rfl hl (by decide) rfl (fun ls hl => ?_)
          refine lv_lload hx hb d_K_clearDivisor_23 (lv_at hl 3 rfl) ?_
          refine lv_lconst (v := lI 0) hx hb d_K_clearDivisor_25 (by decide) ?_
          refine xl_ne (tgt := 37) hx hb (by unfold lB; omega) ⟨by decide, by decide⟩ d_K_clearDivisor_26 d_K_clearDivisor_27 (by decide) (fun c27_8 => ?_) (fun c27_8 => ?_)
          · skip
            refine lv_lload hx hb d_K_clearDivisor_37 (lv_at hl 3 rfl) ?_
            have hld : leadN G (i + 1) = leadN G i := if_neg c27_8
            rw [← hld]
            refine lv_lstore (lv' := [(4, .long (lI (leadN G (i + 1)))), (2, .long (lI ((Nat.gcd ((gcdN G i : Nat) : Int).natAbs (G i).natAbs : Nat) : Int))), (0, .ref a), (1, .int (nI n)), (6, .int (nI i))]) hx hb d_K_clearDivisor_39 hl (by decide) rfl (fun ls hl => ?_)
            refine lv_iinc (v := nI (i + 1)) (lv' := [(6, .int (nI (i + 1))), (4, .long (lI (leadN G (i + 1)))), (2, .long (lI ((Nat.gcd ((gcdN G i : Nat) : Int).natAbs (G i).natAbs : Nat) : Int))), (0, .ref a), (1, .int (nI n))]) hx hb d_K_clearDivisor_41 hl (k := 4) rfl (nI_add _ _) (by decide) rfl (fun ls hl => ?_)
            refine lv_goto (tgt := 8) hx hb d_K_clearDivisor_44 (by decide) ?_
            exact ih_8 (i + 1) H locs ls (by omega) (by omega) hP hD hS (lv_sub hl [3, 4, 2, 1, 0] rfl)
          · skip
            refine lv_aload_n hx hb d_K_clearDivisor_30 rfl (lv_at hl 1 rfl) ?_
            refine lv_iload hx hb d_K_clearDivisor_31 (lv_at hl 4 rfl) ?_
            refine xl_ald hx hb hK hP 0 0 rfl rfl (k := i) (by omega) (by first | decide | omega) d_K_clearDivisor_33 ?_
            refine lv_goto (tgt := 39) hx hb d_K_clearDivisor_34 (by decide) ?_
            have hld : leadN G (i + 1) = G i := if_pos c27_8
            rw [← hld]
            refine lv_lstore (lv' := [(4, .long (lI (leadN G (i + 1)))), (2, .long (lI ((Nat.gcd ((gcdN G i : Nat) : Int).natAbs (G i).natAbs : Nat) : Int))), (0, .ref a), (1, .int (nI n)), (6, .int (nI i))]) hx hb d_K_clearDivisor_39 hl (by decide) rfl (fun ls hl => ?_)
            refine lv_iinc (v := nI (i + 1)) (lv' := [(6, .int (nI (i + 1))), (4, .long (lI (leadN G (i + 1)))), (2, .long (lI ((Nat.gcd ((gcdN G i : Nat) : Int).natAbs (G i).natAbs : Nat) : Int))), (0, .ref a), (1, .int (nI n))]) hx hb d_K_clearDivisor_41 hl (k := 4) rfl (nI_add _ _) (by decide) rfl (fun ls hl => ?_)
            refine lv_goto (tgt := 8) hx hb d_K_clearDivisor_44 (by decide) ?_
            exact ih_8 (i + 1) H locs ls (by omega) (by omega) hP hD hS (lv_sub hl [3, 4, 2, 1, 0] rfl)
    exact lp_8 ((n - 0) + 1) 0 H locs ls (Nat.zero_le _) (by omega) hP hD hS (lv_sub hl [3, 4, 2, 1, 0] rfl)
  rw [hH, hlc] at key; exact key
