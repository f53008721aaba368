/-! pure words for the class's answers -/
/-- the part of a table from f on -/
def prt (S : Nat → Int) (f : Nat) : Nat → Int := fun q => S (4 * (f + q / 4) + (f + q % 4))
/-- coefficients, lowest power first -/
def cO (U : Nat → Int) (r : Nat) : Nat → Int := fun k => eT U r (r - k)
def upN (U : Nat → Int) (r : Nat) : Nat := chgA (cO U r) r 1
def rkN (U : Nat → Int) (r : Nat) : Nat := r - zerN (cO U r) r r
def dwN (U : Nat → Int) (r : Nat) : Nat := rkN U r - upN U r
theorem upN_le (U : Nat → Int) (r : Nat) : upN U r ≤ rkN U r := chg_le _ _ _
theorem rkN_le (U : Nat → Int) (r : Nat) : rkN U r ≤ r := Nat.sub_le _ _
theorem chgA_congr {O G : Nat → Int} : ∀ (n : Nat) (x : Int), (∀ k, k < n → O k = G k) → chgA O n x = chgA G n x
  | 0, _, _ => rfl
  | n + 1, x, h => by
    have e := h n (by omega)
    have i := fun y => chgA_congr (O := O) (G := G) n y (fun k hk => h k (by omega))
    unfold chgA
    rw [e, i x, i (G n)]
theorem zerN_congr {O G : Nat → Int} {r : Nat} (h : ∀ k, k < r → O k = G k) : ∀ n, n ≤ r → zerN O r n = zerN G r n
  | 0, _ => rfl
  | n + 1, hn => by
    unfold zerN
    rw [h (r - (n + 1)) (by omega), zerN_congr h n (by omega)]
theorem enB_prt {S : Nat → Int} {f r : Nat} {B : Int} (h4 : r ≤ 4) (h : ∀ a b, a < r → b < r → inB (S (4 * (f + a) + (f + b))) B) : enB (prt S f) r B := by
  intro a b ha hb
  unfold prt
  rw [q4d a (show b < 4 by omega), q4m a (show b < 4 by omega)]
  exact h a b ha hb
theorem eS_congr {C G : Nat → Int} {r : Nat} (h2 : 2 ≤ r) (h4 : r ≤ 4) (h : ∀ a b, a < r → b < r → C (4 * a + b) = G (4 * a + b)) (k : Nat) (hk : k ≤ r) : eS C r k = eS G r k := by
  match r, k, h2, h4, hk, h with
  | 2, 0, _, _, _, h => rfl
  | 3, 0, _, _, _, h => rfl
  | 4, 0, _, _, _, h => rfl
  | 2, 1, _, _, _, h =>
    have h00 := h 0 0 (by decide) (by decide); have h11 := h 1 1 (by decide) (by decide)
    simp only [eS]; simp only [Nat.reduceMul, Nat.reduceAdd] at h00 h11; rw [h00, h11]
  | 2, 2, _, _, _, h =>
    have h00 := h 0 0 (by decide) (by decide); have h11 := h 1 1 (by decide) (by decide); have h01 := h 0 1 (by decide) (by decide); have h10 := h 1 0 (by decide) (by decide)
    simp only [eS, m2]; rw [h00, h11, h01, h10]
  | 3, 1, _, _, _, h =>
    have h00 := h 0 0 (by decide) (by decide); have h11 := h 1 1 (by decide) (by decide); have h22 := h 2 2 (by decide) (by decide)
    simp only [eS]; simp only [Nat.reduceMul, Nat.reduceAdd] at h00 h11 h22; rw [h00, h11, h22]
  | 3, 2, _, _, _, h =>
    have h00 := h 0 0 (by decide) (by decide); have h01 := h 0 1 (by decide) (by decide); have h02 := h 0 2 (by decide) (by decide)
    have h10 := h 1 0 (by decide) (by decide); have h11 := h 1 1 (by decide) (by decide); have h12 := h 1 2 (by decide) (by decide)
    have h20 := h 2 0 (by decide) (by decide); have h21 := h 2 1 (by decide) (by decide); have h22 := h 2 2 (by decide) (by decide)
    simp only [eS, m2]; rw [h00, h01, h02, h10, h11, h12, h20, h21, h22]
  | 3, 3, _, _, _, h =>
    have h00 := h 0 0 (by decide) (by decide); have h01 := h 0 1 (by decide) (by decide); have h02 := h 0 2 (by decide) (by decide)
    have h10 := h 1 0 (by decide) (by decide); have h11 := h 1 1 (by decide) (by decide); have h12 := h 1 2 (by decide) (by decide)
    have h20 := h 2 0 (by decide) (by decide); have h21 := h 2 1 (by decide) (by decide); have h22 := h 2 2 (by decide) (by decide)
    simp only [eS, m2, m3]; rw [h00, h01, h02, h10, h11, h12, h20, h21, h22]
  | 4, 1, _, _, _, h =>
    have h00 := h 0 0 (by decide) (by decide); have h11 := h 1 1 (by decide) (by decide); have h22 := h 2 2 (by decide) (by decide); have h33 := h 3 3 (by decide) (by decide)
    simp only [eS]; simp only [Nat.reduceMul, Nat.reduceAdd] at h00 h11 h22 h33; rw [h00, h11, h22, h33]
  | 4, 2, _, _, _, h =>
    have h00 := h 0 0 (by decide) (by decide); have h01 := h 0 1 (by decide) (by decide); have h02 := h 0 2 (by decide) (by decide); have h03 := h 0 3 (by decide) (by decide)
    have h10 := h 1 0 (by decide) (by decide); have h11 := h 1 1 (by decide) (by decide); have h12 := h 1 2 (by decide) (by decide); have h13 := h 1 3 (by decide) (by decide)
    have h20 := h 2 0 (by decide) (by decide); have h21 := h 2 1 (by decide) (by decide); have h22 := h 2 2 (by decide) (by decide); have h23 := h 2 3 (by decide) (by decide)
    have h30 := h 3 0 (by decide) (by decide); have h31 := h 3 1 (by decide) (by decide); have h32 := h 3 2 (by decide) (by decide); have h33 := h 3 3 (by decide) (by decide)
    simp only [eS, m2]; rw [h00, h01, h02, h03, h10, h11, h12, h13, h20, h21, h22, h23, h30, h31, h32, h33]
  | 4, 3, _, _, _, h =>
    have h00 := h 0 0 (by decide) (by decide); have h01 := h 0 1 (by decide) (by decide); have h02 := h 0 2 (by decide) (by decide); have h03 := h 0 3 (by decide) (by decide)
    have h10 := h 1 0 (by decide) (by decide); have h11 := h 1 1 (by decide) (by decide); have h12 := h 1 2 (by decide) (by decide); have h13 := h 1 3 (by decide) (by decide)
    have h20 := h 2 0 (by decide) (by decide); have h21 := h 2 1 (by decide) (by decide); have h22 := h 2 2 (by decide) (by decide); have h23 := h 2 3 (by decide) (by decide)
    have h30 := h 3 0 (by decide) (by decide); have h31 := h 3 1 (by decide) (by decide); have h32 := h 3 2 (by decide) (by decide); have h33 := h 3 3 (by decide) (by decide)
    simp only [eS, m2, m3]; rw [h00, h01, h02, h03, h10, h11, h12, h13, h20, h21, h22, h23, h30, h31, h32, h33]
  | 4, 4, _, _, _, h =>
    have h00 := h 0 0 (by decide) (by decide); have h01 := h 0 1 (by decide) (by decide); have h02 := h 0 2 (by decide) (by decide); have h03 := h 0 3 (by decide) (by decide)
    have h10 := h 1 0 (by decide) (by decide); have h11 := h 1 1 (by decide) (by decide); have h12 := h 1 2 (by decide) (by decide); have h13 := h 1 3 (by decide) (by decide)
    have h20 := h 2 0 (by decide) (by decide); have h21 := h 2 1 (by decide) (by decide); have h22 := h 2 2 (by decide) (by decide); have h23 := h 2 3 (by decide) (by decide)
    have h30 := h 3 0 (by decide) (by decide); have h31 := h 3 1 (by decide) (by decide); have h32 := h 3 2 (by decide) (by decide); have h33 := h 3 3 (by decide) (by decide)
    simp only [Nat.reduceMul, Nat.reduceAdd] at h00 h01 h02 h03 h10 h11 h12 h13 h20 h21 h22 h23 h30 h31 h32 h33
    simp only [eS, m2, m3, m4, Nat.reduceMul, Nat.reduceAdd]; rw [h00, h01, h02, h03, h10, h11, h12, h13, h20, h21, h22, h23, h30, h31, h32, h33]
  | 2, n + 3, _, _, hk, _ => exact absurd hk (by omega)
  | 3, n + 4, _, _, hk, _ => exact absurd hk (by omega)
  | 4, n + 5, _, _, hk, _ => exact absurd hk (by omega)
  | 0, _, h2, _, _, _ => exact absurd h2 (by decide)
  | 1, _, h2, _, _, _ => exact absurd h2 (by decide)
  | n + 5, _, _, h4, _, _ => exact absurd h4 (by omega)
def rst (r : Nat) (C : Nat → Int) : Nat → Int := fun q => if q / 4 < r ∧ q % 4 < r then C q else 0
theorem rst_congr {C G : Nat → Int} {r : Nat} (h : ∀ a b, a < r → b < r → C (4 * a + b) = G (4 * a + b)) : rst r C = rst r G := by
  funext q
  unfold rst
  split
  · rename_i hq
    have e := h (q / 4) (q % 4) hq.1 hq.2
    rwa [show 4 * (q / 4) + q % 4 = q from by omega] at e
  · rfl
theorem adjM_rst (C : Nat → Int) {r i j : Nat} (h2 : 2 ≤ r) (h4 : r ≤ 4) (hi : i < r) (hj : j < r) : adjM C r i j = adjM (rst r C) r i j := by
  match r, i, j, h2, h4, hi, hj with
  | 2, 0, 0, _, _, _, _ => rfl
  | 2, 0, 1, _, _, _, _ => rfl
  | 2, 1, 0, _, _, _, _ => rfl
  | 2, 1, 1, _, _, _, _ => rfl
  | 3, 0, 0, _, _, _, _ => rfl
  | 3, 0, 1, _, _, _, _ => rfl
  | 3, 0, 2, _, _, _, _ => rfl
  | 3, 1, 0, _, _, _, _ => rfl
  | 3, 1, 1, _, _, _, _ => rfl
  | 3, 1, 2, _, _, _, _ => rfl
  | 3, 2, 0, _, _, _, _ => rfl
  | 3, 2, 1, _, _, _, _ => rfl
  | 3, 2, 2, _, _, _, _ => rfl
  | 4, 0, 0, _, _, _, _ => rfl
  | 4, 0, 1, _, _, _, _ => rfl
  | 4, 0, 2, _, _, _, _ => rfl
  | 4, 0, 3, _, _, _, _ => rfl
  | 4, 1, 0, _, _, _, _ => rfl
  | 4, 1, 1, _, _, _, _ => rfl
  | 4, 1, 2, _, _, _, _ => rfl
  | 4, 1, 3, _, _, _, _ => rfl
  | 4, 2, 0, _, _, _, _ => rfl
  | 4, 2, 1, _, _, _, _ => rfl
  | 4, 2, 2, _, _, _, _ => rfl
  | 4, 2, 3, _, _, _, _ => rfl
  | 4, 3, 0, _, _, _, _ => rfl
  | 4, 3, 1, _, _, _, _ => rfl
  | 4, 3, 2, _, _, _, _ => rfl
  | 4, 3, 3, _, _, _, _ => rfl
  | 2, n + 2, _, _, _, h, _ => exact absurd h (by omega)
  | 2, 0, n + 2, _, _, _, h => exact absurd h (by omega)
  | 2, 1, n + 2, _, _, _, h => exact absurd h (by omega)
  | 3, n + 3, _, _, _, h, _ => exact absurd h (by omega)
  | 3, 0, n + 3, _, _, _, h => exact absurd h (by omega)
  | 3, 1, n + 3, _, _, _, h => exact absurd h (by omega)
  | 3, 2, n + 3, _, _, _, h => exact absurd h (by omega)
  | 4, n + 4, _, _, _, h, _ => exact absurd h (by omega)
  | 4, 0, n + 4, _, _, _, h => exact absurd h (by omega)
  | 4, 1, n + 4, _, _, _, h => exact absurd h (by omega)
  | 4, 2, n + 4, _, _, _, h => exact absurd h (by omega)
  | 4, 3, n + 4, _, _, _, h => exact absurd h (by omega)
  | 0, _, _, h2, _, _, _ => exact absurd h2 (by decide)
  | 1, _, _, h2, _, _, _ => exact absurd h2 (by decide)
  | n + 5, _, _, _, h4, _, _ => exact absurd h4 (by omega)
theorem adjM_congr {C G : Nat → Int} {r : Nat} (h2 : 2 ≤ r) (h4 : r ≤ 4) (h : ∀ a b, a < r → b < r → C (4 * a + b) = G (4 * a + b)) {i j : Nat} (hi : i < r) (hj : j < r) : adjM C r i j = adjM G r i j := by
  rw [adjM_rst C h2 h4 hi hj, adjM_rst G h2 h4 hi hj, rst_congr h]
/-- what a loaded table holds of U -/
def tabOK (U : Nat → Int) (r : Nat) (F O : Nat → Int) : Prop := (∀ k, k ≤ r → O k = cO U r k) ∧ ∀ a b, a < r → b < r → F (4 * a + b) = if r % 2 = 0 then -(adjM U r a b) else adjM U r a b
theorem prt_eq {C2 S : Nat → Int} {f r : Nat} (h4 : r ≤ 4) (h : ∀ a b, a < r → b < r → C2 (4 * a + b) = S (4 * (f + a) + (f + b))) : ∀ a b, a < r → b < r → C2 (4 * a + b) = prt S f (4 * a + b) := by
  intro a b ha hb
  unfold prt
  rw [q4d a (show b < 4 by omega), q4m a (show b < 4 by omega)]
  exact h a b ha hb
theorem ld_ok {S C2 F2 O2 : Nat → Int} {f r : Nat} (h2 : 2 ≤ r) (h4 : r ≤ 4) (hw : (∀ a b, a < r → b < r → C2 (4 * a + b) = S (4 * (f + a) + (f + b))) ∧ flOK C2 r F2 O2) : tabOK (prt S f) r F2 O2 := by
  obtain ⟨hC, hO, hF⟩ := hw
  have hP := prt_eq h4 hC
  refine ⟨fun k hk => ?_, fun a b ha hb => ?_⟩
  · have e := hO (r - k) (by omega)
    rw [show r - (r - k) = k from by omega, fl_c C2 h2 h4 (r - k) (by omega)] at e
    rw [e]
    unfold cO eT
    rw [eS_congr h2 h4 hP (r - k) (by omega)]
  · rw [hF a b ha hb, fl_f C2 h2 h4 a b ha hb, adjM_congr h2 h4 hP ha hb]
theorem enB_congr {C G : Nat → Int} {r : Nat} {B : Int} (h : ∀ a b, a < r → b < r → C (4 * a + b) = G (4 * a + b)) (hb : enB G r B) : enB C r B := fun a b ha hb2 => by rw [h a b ha hb2]; exact hb a b ha hb2
theorem ld_q {S : Nat → Int} {f r : Nat} (h2 : 2 ≤ r) (h4 : r ≤ 4) (hb : enB (prt S f) r (tabB r)) : ∀ C2 : Nat → Int, (∀ a b, a < r → b < r → C2 (4 * a + b) = S (4 * (f + a) + (f + b))) → ∀ k, k < r → lB (-(diaN (flM C2 r (k + 1)).1 r)) :=
  fun _ h => fl_q h2 h4 (enB_congr (prt_eq h4 h) hb)
theorem ld_O {U F O : Nat → Int} {r : Nat} (h2 : 2 ≤ r) (h4 : r ≤ 4) (hb : enB U r (tabB r)) (hT : tabOK U r F O) : ∀ k, k ≤ r → inB (O k) 10000000000000 := fun k hk => by
  rw [hT.1 k hk]; exact eT_B h2 h4 hb (r - k) (Nat.sub_le _ _)
theorem ld_lB {U F O : Nat → Int} {r : Nat} (h2 : 2 ≤ r) (h4 : r ≤ 4) (hb : enB U r (tabB r)) (hT : tabOK U r F O) : ∀ k, k < r → lB (O k) := fun k hk => lB_of (ld_O h2 h4 hb hT k (by omega)) (by decide)
theorem ld_up {U F O : Nat → Int} {r : Nat} (hT : tabOK U r F O) : chgA O r 1 = upN U r := chgA_congr r 1 (fun k hk => hT.1 k (by omega))
theorem ld_rk {U F O : Nat → Int} {r : Nat} (hT : tabOK U r F O) : r - zerN O r r = rkN U r := by
  unfold rkN; rw [zerN_congr (fun k hk => hT.1 k (by omega)) r (Nat.le_refl _)]
theorem ld_dw {U F O : Nat → Int} {r : Nat} (hT : tabOK U r F O) : r - zerN O r r - chgA O r 1 = dwN U r := by
  rw [ld_rk hT, ld_up hT]; rfl
theorem cO_0 (U : Nat → Int) (r : Nat) : cO U r 0 = eT U r r := rfl
def det (U : Nat → Int) (r : Nat) : Int := eS U r r
theorem ld_det {U F O : Nat → Int} {r : Nat} (hT : tabOK U r F O) : (if r % 2 = 0 then O 0 else -(O 0)) = det U r := by
  rw [hT.1 0 (Nat.zero_le _), cO_0]
  unfold eT det
  split
  · rfl
  · exact Int.neg_neg _
theorem ld_tr {U F O : Nat → Int} {r : Nat} (h : 1 ≤ r) (hT : tabOK U r F O) : -(O (r - 1)) = eS U r 1 := by
  rw [hT.1 (r - 1) (by omega)]
  show -(eT U r (r - (r - 1))) = _
  rw [show r - (r - 1) = 1 from by omega]
  show -(-(eS U r 1)) = _
  exact Int.neg_neg _
theorem ld_pa {U F O : Nat → Int} {r : Nat} (h : 2 ≤ r) (hT : tabOK U r F O) : O (r - 2) = eS U r 2 := by
  rw [hT.1 (r - 2) (by omega)]
  show eT U r (r - (r - 2)) = _
  rw [show r - (r - 2) = 2 from by omega]
  rfl
theorem ld_adj {U F O : Nat → Int} {r i j : Nat} (hT : tabOK U r F O) (hi : i < r) (hj : j < r) : (if r % 2 = 0 then -(F (4 * i + j)) else F (4 * i + j)) = adjM U r i j := by
  rw [hT.2 i j hi hj]
  split
  · exact Int.neg_neg _
  · rfl
def keyN (a0 a1 b0 b1 : Nat) : Nat := if a0 < a1 ∨ (a1 = a0 ∧ b0 < b1) then 1000 * a1 + 100 * a0 + 10 * b1 + b0 else 1000 * a0 + 100 * a1 + 10 * b0 + b1
def kiP (k : Nat) : Nat := if k = 10 then 0 else if k = 11 then 7 else if k = 1010 then 9 else if k = 1011 then 6 else if k = 1020 then 0 else if k = 1021 then 4 else if k = 1111 then 5 else if k = 1121 then 3 else if k = 2020 then 1 else if k = 2021 then 2 else if k = 2030 then 0 else 8
def kiS (k : Nat) : Nat := if k = 10 then 10 else if k = 11 then 24 else if k = 1010 then 25 else if k = 1011 then 23 else if k = 1020 then 10 else if k = 1021 then 20 else if k = 1111 then 22 else if k = 1121 then 19 else if k = 1122 then 16 else if k = 2020 then 21 else if k = 2021 then 18 else if k = 2030 then 10 else if k = 2031 then 15 else if k = 2121 then 17 else if k = 2122 then 13 else if k = 2131 then 14 else if k = 3030 then 11 else if k = 3031 then 12 else if k = 3040 then 10 else 26
/-- the kind of the table S with d + 1 rows -/
def kindN (S : Nat → Int) (d : Nat) : Nat := if d = 2 then kiP (keyN (upN (prt S 1) d) (dwN (prt S 1) d) (upN (prt S 0) (d + 1)) (dwN (prt S 0) (d + 1))) else kiS (keyN (upN (prt S 1) d) (dwN (prt S 1) d) (upN (prt S 0) (d + 1)) (dwN (prt S 0) (d + 1)))
def cutZ (Fm G : Nat → Int) (i j pv : Nat) : Int := G pv * G pv * Fm (4 * i + j) - G pv * G i * Fm (4 * pv + j) - G pv * G j * Fm (4 * i + pv) + G i * G j * Fm (4 * pv + pv)
def skp (a pv : Nat) : Nat := if a < pv then a else a + 1
theorem keyN_t {a0 a1 b0 b1 : Nat} (h : a0 < a1 ∨ (a1 = a0 ∧ b0 < b1)) : keyN a0 a1 b0 b1 = 1000 * a1 + 100 * a0 + 10 * b1 + b0 := if_pos h
theorem keyN_f {a0 a1 b0 b1 : Nat} (h : ¬ (a0 < a1 ∨ (a1 = a0 ∧ b0 < b1))) : keyN a0 a1 b0 b1 = 1000 * a0 + 100 * a1 + 10 * b0 + b1 := if_neg h
theorem skp_lt {a pv : Nat} (h : a < pv) : skp a pv = a := if_pos h
theorem skp_ge {a pv : Nat} (h : pv ≤ a) : skp a pv = a + 1 := if_neg (by omega)
