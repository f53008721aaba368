/-! contracts of ConicKinds: its face, second half (wip/spec_class4.py, specs4) -/
def ptOK (d : Nat) (x y z dn : Int) : Prop := (1 ≤ dn ∧ dn ≤ 100) ∧ inB x 1000 ∧ inB y 1000 ∧ (d = 3 → inB z 1000)
noncomputable def s_at (Fm : Nat → Int) (d : Nat) (x y z dn : Int) : Int32 := @ite Int32 (ptOK d x y z dn) (Classical.propDecidable _) (nI (sgc (frmN Fm (ptR d dn x y z) (ptR d dn x y z) d (d + 1)))) (-2)
theorem s_at_t {Fm : Nat → Int} {d : Nat} {x y z dn : Int} (h : ptOK d x y z dn) : s_at Fm d x y z dn = nI (sgc (frmN Fm (ptR d dn x y z) (ptR d dn x y z) d (d + 1))) := @if_pos _ (Classical.propDecidable _) h _ _ _
theorem s_at_f {Fm : Nat → Int} {d : Nat} {x y z dn : Int} (h : ¬ ptOK d x y z dn) : s_at Fm d x y z dn = -2 := @if_neg _ (Classical.propDecidable _) h _ _ _
theorem pt_B {B : Nat → Int} {d : Nat} {x y z dn : Int} (hp : ptOK d x y z dn) (hB : ∀ k, k < 4 → B k = ptR d dn x y z k) : ∀ k, k < 4 → inB (B k) 1000 := by
  obtain ⟨⟨p0, p1⟩, p2, p3, p4⟩ := hp
  intro k hk
  rw [hB k hk]
  match k, hk with
  | 0, _ => exact ⟨show -1000 ≤ dn by omega, show dn ≤ 1000 by omega⟩
  | 1, _ => exact p2
  | 2, _ => exact p3
  | 3, _ =>
    show inB (if d = 3 then z else 0) 1000
    split
    · exact p4 (by assumption)
    · exact ⟨by decide, by decide⟩
/-- the polar's row -/
def polR (Fm : Nat → Int) (d : Nat) (x y z dn : Int) : Nat → Int := fun k => rowN Fm (ptR d dn x y z) k (d + 1)
def s_polarP (d : Nat) (x y z dn i : Int) : Prop := ¬ (i < 0 ∨ (d : Int) < i) ∧ ptOK d x y z dn
noncomputable def s_polar (Fm : Nat → Int) (d : Nat) (x y z dn i : Int) : Int := @ite Int (s_polarP d x y z dn i) (Classical.propDecidable _) (woN (polR Fm d x y z dn) (d + 1) i.toNat) NOZ
theorem s_polar_t {Fm : Nat → Int} {d : Nat} {x y z dn i : Int} (h : s_polarP d x y z dn i) : s_polar Fm d x y z dn i = woN (polR Fm d x y z dn) (d + 1) i.toNat := @if_pos _ (Classical.propDecidable _) h _ _ _
theorem s_polar_f {Fm : Nat → Int} {d : Nat} {x y z dn i : Int} (h : ¬ s_polarP d x y z dn i) : s_polar Fm d x y z dn i = NOZ := @if_neg _ (Classical.propDecidable _) h _ _ _
theorem row_lB {B : Nat → Int} {d : Nat} {v0 v1 v2 v3 : Int} (h0 : lB v0) (h1 : lB v1) (h2 : lB v2) (h3 : lB v3) (h : B 0 = v0 ∧ B 1 = v1 ∧ B 2 = v2 ∧ B 3 = (if d = 3 then v3 else 0)) : ∀ k, k < 4 → lB (B k) := by
  obtain ⟨q0, q1, q2, q3⟩ := h
  intro k hk
  match k, hk with
  | 0, _ => rw [q0]; exact h0
  | 1, _ => rw [q1]; exact h1
  | 2, _ => rw [q2]; exact h2
  | 3, _ => rw [q3]; split; exact h3; exact lB_0
/-- a row that is refused: one beyond its bound, or the numbers from 1 on all 0 -/
def rowBad (u : Nat → Int) (d : Nat) (b : Int) : Prop := (¬ ∀ k, k < 4 → inB (u k) b) ∨ ∀ k, 1 ≤ k → k ≤ d → u k = 0
theorem rowBad_congr {u v : Nat → Int} {d : Nat} {b : Int} (hd : d ≤ 3) (h : ∀ k, k < 4 → u k = v k) : rowBad u d b ↔ rowBad v d b := by
  have e1 : (∀ k, k < 4 → inB (u k) b) ↔ ∀ k, k < 4 → inB (v k) b := ⟨fun q k hk => by rw [← h k hk]; exact q k hk, fun q k hk => by rw [h k hk]; exact q k hk⟩
  have e2 : (∀ k, 1 ≤ k → k ≤ d → u k = 0) ↔ ∀ k, 1 ≤ k → k ≤ d → v k = 0 := ⟨fun q k h1 h2 => by rw [← h k (by omega)]; exact q k h1 h2, fun q k h1 h2 => by rw [h k (by omega)]; exact q k h1 h2⟩
  unfold rowBad
  rw [e1, e2]
noncomputable def s_tch (Fm : Nat → Int) (d : Nat) (u : Nat → Int) : Int32 := @ite Int32 (rowBad u d 20) (Classical.propDecidable _) (-2) (if det (prt Fm 0) (d + 1) = 0 then -3 else if tchN (prt Fm 0) u (d + 1) (d + 1) = 0 then nI 1 else nI 0)
theorem s_tch_t {Fm : Nat → Int} {d : Nat} {u : Nat → Int} (h : rowBad u d 20) : s_tch Fm d u = -2 := @if_pos _ (Classical.propDecidable _) h _ _ _
theorem s_tch_f {Fm : Nat → Int} {d : Nat} {u : Nat → Int} (h : ¬ rowBad u d 20) : s_tch Fm d u = (if det (prt Fm 0) (d + 1) = 0 then -3 else if tchN (prt Fm 0) u (d + 1) (d + 1) = 0 then nI 1 else nI 0) := @if_neg _ (Classical.propDecidable _) h _ _ _
theorem tchJ_congr {U u v : Nat → Int} {r i : Nat} (h4 : r ≤ 4) (hi : i < r) (h : ∀ k, k < 4 → u k = v k) : ∀ {n : Nat}, n ≤ r → tchJ U u r i n = tchJ U v r i n
  | 0, _ => rfl
  | n + 1, hn => by
    show tchJ U u r i n + _ = tchJ U v r i n + _
    rw [tchJ_congr h4 hi h (n := n) (by omega), h i (by omega), h n (by omega)]
theorem tchN_congr {U u v : Nat → Int} {r : Nat} (h4 : r ≤ 4) (h : ∀ k, k < 4 → u k = v k) : ∀ {n : Nat}, n ≤ r → tchN U u r n = tchN U v r n
  | 0, _ => rfl
  | n + 1, hn => by
    show tchN U u r n + _ = tchN U v r n + _
    rw [tchN_congr h4 h (n := n) (by omega), tchJ_congr h4 (by omega) h (Nat.le_refl _)]
def pvN (b c : Int) : Nat := if c ≠ 0 then 3 else if b ≠ 0 then 2 else 1
noncomputable def s_sec (Fm : Nat → Int) (d : Nat) (a b c e : Int) : Int32 := if d = 2 then -3 else @ite Int32 (rowBad (ptR d e a b c) d 10) (Classical.propDecidable _) (-2) (nI (kindN (cutT Fm (ptR d (-e) a b c) (pvN b c)) 2))
theorem s_sec_2 {Fm : Nat → Int} {d : Nat} {a b c e : Int} (h : d = 2) : s_sec Fm d a b c e = -3 := if_pos h
theorem s_sec_t {Fm : Nat → Int} {d : Nat} {a b c e : Int} (h2 : ¬ d = 2) (h : rowBad (ptR d e a b c) d 10) : s_sec Fm d a b c e = -2 := (if_neg h2).trans (@if_pos _ (Classical.propDecidable _) h _ _ _)
theorem s_sec_f {Fm : Nat → Int} {d : Nat} {a b c e : Int} (h2 : ¬ d = 2) (h : ¬ rowBad (ptR d e a b c) d 10) : s_sec Fm d a b c e = nI (kindN (cutT Fm (ptR d (-e) a b c) (pvN b c)) 2) := (if_neg h2).trans (@if_neg _ (Classical.propDecidable _) h _ _ _)
theorem cutT_B {Fm G : Nat → Int} {pv : Nat} (hp : pv ≤ 3) (hF : ∀ k, k < 16 → inB (Fm k) 20) (hG : ∀ k, k < 4 → inB (G k) 10) : ∀ a b, a < 3 → b < 3 → inB (cutT Fm G pv (4 * a + b)) 8000 := by
  intro a b ha hb
  unfold cutT
  rw [q4d a (show b < 4 by omega), q4m a (show b < 4 by omega)]
  refine cutZ_B ?_ ?_ hp hF hG
  · unfold skp; split <;> omega
  · unfold skp; split <;> omega
theorem cutT_eq {W Fm G : Nat → Int} {pv : Nat} (h : ∀ a b, a < 3 → b < 3 → W (4 * a + b) = cutZ Fm G (skp a pv) (skp b pv) pv) : ∀ a b, a < 3 → b < 3 → W (4 * a + b) = cutT Fm G pv (4 * a + b) := by
  intro a b ha hb
  rw [h a b ha hb]
  unfold cutT
  rw [q4d a (show b < 4 by omega), q4m a (show b < 4 by omega)]
theorem cutZ_congr {Fm G G2 : Nat → Int} {i j pv : Nat} (hi : i ≤ 3) (hj : j ≤ 3) (hp : pv ≤ 3) (h : ∀ k, k < 4 → G k = G2 k) : cutZ Fm G i j pv = cutZ Fm G2 i j pv := by
  unfold cutZ
  rw [h pv (by omega), h i (by omega), h j (by omega)]
/-- how many points a line has -/
def mtN (sq hf st : Int) : Nat := if sq = 0 then (if hf = 0 then (if st = 0 then 3 else 0) else 1) else sgc (hf * hf - sq * st)
noncomputable def s_meets (Fm : Nat → Int) (d : Nat) (p q : Nat → Int) : Int32 := @ite Int32 ((¬ ∀ k, k < 4 → inB (p k) 20) ∨ rowBad q d 20) (Classical.propDecidable _) (-2) (nI (mtN (frmN Fm q q d (d + 1)) (frmN Fm p q d (d + 1)) (frmN Fm p p d (d + 1))))
theorem s_meets_t {Fm : Nat → Int} {d : Nat} {p q : Nat → Int} (h : (¬ ∀ k, k < 4 → inB (p k) 20) ∨ rowBad q d 20) : s_meets Fm d p q = -2 := @if_pos _ (Classical.propDecidable _) h _ _ _
theorem s_meets_f {Fm : Nat → Int} {d : Nat} {p q : Nat → Int} (h : ¬ ((¬ ∀ k, k < 4 → inB (p k) 20) ∨ rowBad q d 20)) : s_meets Fm d p q = nI (mtN (frmN Fm q q d (d + 1)) (frmN Fm p q d (d + 1)) (frmN Fm p p d (d + 1))) := @if_neg _ (Classical.propDecidable _) h _ _ _
theorem neg0 {B : Nat → Int} {d : Nat} {v0 v1 v2 v3 : Int} (h : ∀ k, k < 4 → B k = ptR d v0 v1 v2 v3 k) : ∀ k, k < 4 → upZ B 0 (-(B 0)) k = ptR d (-v0) v1 v2 v3 k := by
  intro k hk
  match k, hk with
  | 0, _ => rw [upZ_at, h 0 (by decide)]; rfl
  | 1, _ => exact h 1 (by decide)
  | 2, _ => exact h 2 (by decide)
  | 3, _ => exact h 3 (by decide)
theorem upZ_B {B : Nat → Int} {b : Int} (h : ∀ k, k < 4 → inB (B k) b) : ∀ k, k < 4 → inB (upZ B 0 (-(B 0)) k) b := by
  intro k hk
  by_cases q : k = 0
  · rw [q, upZ_at]; exact negB (h 0 (by decide))
  · rw [upZ_ne _ _ q]; exact h k hk
theorem cutT_W {W Fm G G2 : Nat → Int} {pv : Nat} (hp : pv ≤ 3) (h : ∀ a b, a < 3 → b < 3 → W (4 * a + b) = cutZ Fm G (skp a pv) (skp b pv) pv) (hG : ∀ k, k < 4 → G k = G2 k) : ∀ a b, a ≤ 2 → b ≤ 2 → W (4 * a + b) = cutT Fm G2 pv (4 * a + b) := by
  intro a b ha hb
  rw [cutT_eq h a b (by omega) (by omega)]
  unfold cutT
  exact cutZ_congr (by unfold skp; split <;> omega) (by unfold skp; split <;> omega) hp hG
theorem cutW_B {W Fm G : Nat → Int} {pv f r : Nat} (hf : f + r = 3) (hp : pv ≤ 3) (hF : ∀ k, k < 16 → inB (Fm k) 20) (hG : ∀ k, k < 4 → inB (G k) 10) (h : ∀ a b, a < 3 → b < 3 → W (4 * a + b) = cutZ Fm G (skp a pv) (skp b pv) pv) : enB (prt W f) r (tabB r) := by
  refine enB_prt (by omega) (fun a b ha hb => ?_)
  rw [cutT_eq h _ _ (by omega) (by omega)]
  refine leB (cutT_B hp hF hG _ _ (by omega) (by omega)) ?_
  unfold tabB; rw [if_neg (by omega)]; decide
theorem alk_ne {Fm Kp : Nat → Int} {t : Nat} (ht : t < 16) (h : (Kp t = 0 ∧ ¬ Fm t = 0) ∨ (¬ Kp t = 0 ∧ Fm t = 0)) : ¬ alkP Fm Kp := by
  rintro ⟨h1, h2⟩
  rcases h with ⟨a, b⟩ | ⟨a, b⟩
  · obtain ⟨j, hj, hk⟩ := h2.mp ⟨t, ht, b⟩
    have e := h1 t j ht hj
    rw [a, Int.zero_mul] at e
    rcases Int.mul_eq_zero.mp e with q | q
    · exact b q
    · exact hk q
  · obtain ⟨j, hj, hk⟩ := h2.mpr ⟨t, ht, a⟩
    have e := h1 j t hj ht
    rw [b, Int.mul_zero] at e
    rcases Int.mul_eq_zero.mp e with q | q
    · exact hk q
    · exact a q
theorem alk_1 {Fm Kp : Nat → Int} {t : Nat} (ht : t < 16) (ha : ¬ Kp t = 0) (hb : ¬ Fm t = 0) (h : ∀ i, i < 16 → Fm i * Kp t = Kp i * Fm t) : alkP Fm Kp := by
  refine ⟨fun i j hi hj => ?_, ⟨fun _ => ⟨t, ht, ha⟩, fun _ => ⟨t, ht, hb⟩⟩⟩
  have e1 := h i hi
  have e2 := h j hj
  have e3 : (Fm i * Kp j - Kp i * Fm j) * Kp t = 0 := by
    have q1 : Fm i * Kp j * Kp t = Kp j * (Fm i * Kp t) := by simp only [Int.mul_assoc, Int.mul_comm, Int.mul_left_comm]
    have q2 : Kp i * Fm j * Kp t = Kp i * (Fm j * Kp t) := Int.mul_assoc _ _ _
    rw [Int.sub_mul, q1, q2, e1, e2]
    simp only [Int.mul_assoc, Int.mul_comm, Int.mul_left_comm, Int.sub_self]
  rcases Int.mul_eq_zero.mp e3 with q | q
  · omega
  · exact absurd q ha
theorem alk_0 {Fm Kp : Nat → Int} (h : ∀ i, i < 16 → Kp i = 0 ∧ Fm i = 0) : alkP Fm Kp := by
  refine ⟨fun i j hi hj => by rw [(h i hi).1, (h i hi).2, Int.zero_mul, Int.zero_mul], ⟨?_, ?_⟩⟩
  · rintro ⟨i, hi, q⟩; exact absurd (h i hi).2 q
  · rintro ⟨i, hi, q⟩; exact absurd (h i hi).1 q
noncomputable def s_alk (kb : Int32) (Fm Kp : Nat → Int) : Int32 := if kb.toInt = 0 then -3 else nI (bz (alkP Fm Kp))

def rm_k_at : Room := { frames := 3, cells := 0, slots := 0, locals := 71 }
set_option maxHeartbeats 4000000 in
set_option maxRecDepth 100000 in
/-- at -/
theorem k_at (l : Launch) (D : va_G) (cJ : ClassId) (h : Nat) (d : Nat) (kb : Int32) (fo : Nat) (ke : Nat) (ht : Nat) (wo : Nat) (fi : Nat) (se : Nat) (Fm : Nat → Int) (A1 : Nat → Int) (x : Int32) (y : Int32) (z : Int32) (dn : Int32) (hd2 : 2 ≤ d) (hd3 : d ≤ 3) (hF : ∀ k, k < 16 → inB (Fm k) 20) (sz : Nat) : xMi l y_K_at (Cond.code y_K_at b_K_at 5 (some .int) :: tW) rm_k_at [.ref h, .int x, .int y, .int z, .int dn] D vwC [(cJ, .long)] sz [(h, .inr (1, [.int (nI d), .int kb, .ref fo, .ref ke, .ref ht, .ref wo, .ref fi, .ref se])), (fo, LA cJ 16 Fm), (fi, LA cJ 4 A1)] (fun (rv : Int32) (uo : (Nat → Int)) => rv = s_at Fm d x.toInt y.toInt z.toInt dn.toInt) (fun (uo : (Nat → Int)) => [(h, .inr (1, [.int (nI d), .int kb, .ref fo, .ref ke, .ref ht, .ref wo, .ref fi, .ref se])), (fo, LA cJ 16 Fm), (fi, LA cJ 4 uo)]) 0 0 := by
  refine xoi (cc := b_K_at) (maxL := 5) (by decide) rfl (Nat.le_of_ble_eq_true rfl) ?_
  intro p e s m args below meth c Q A hx hb hml hts hown hN hA hS hP hK hD hret ls hl
  have hl : lv_has ls 5 [(0, .ref h), (1, .int x), (2, .int y), (3, .int z), (4, .int dn)] := hl
  obtain ⟨H, hH⟩ : ∃ z, z = s.heap := ⟨_, rfl⟩
  obtain ⟨locs, hlc⟩ : ∃ z : List Loc, z = [] := ⟨_, rfl⟩
  rw [← hH] at hP
  have hS : va_S A s.heap H locs := by rw [hH, hlc]; exact hS
  have key : W p l e rm_k_at s m args below meth c H locs 0 0 Q (F0 m 0 ls []) := by
    refine lv_aload_n hx hb d_K_at_0 rfl (lv_at hl 0 rfl) ?_
    refine lv_iload_n hx hb d_K_at_1 rfl (lv_at hl 1 rfl) ?_
    refine lv_iload_n hx hb d_K_at_2 rfl (lv_at hl 2 rfl) ?_
    refine lv_iload_n hx hb d_K_at_3 rfl (lv_at hl 3 rfl) ?_
    refine lv_iload hx hb d_K_at_4 (lv_at hl 4 rfl) ?_
    refine xci (wc := [(h, .inr (1, [.int (nI d), .int kb, .ref fo, .ref ke, .ref ht, .ref wo, .ref fi, .ref se])), (fi, LA cJ 4 A1)]) (wr := [(fo, LA cJ 16 Fm)]) hP hD hS hA [0, 2] [1] rfl rfl (by decide) (by decide) (va_runV (As := [.int x, .int y, .int z, .int dn]) (rest := []) ⟨hx, hb, hml, hown, hts⟩ (c_takePoint l D cJ h d kb fo ke ht wo fi se A1 x y z dn (by first | assumption | omega) H.size) (cwV 4 hts (gV tw_211 tw_213 tws_5 tw_1 tw_214) rfl rfl rfl ⟨rfl, hd_K_takePoint⟩ ⟨Nat.le_of_ble_eq_true rfl, Nat.le_of_ble_eq_true rfl⟩) (xPreV (C := R_K) (T := F_K) (N := 8) (q0 := 0) hN hK (hP.sub (ws' := [(h, .inr (1, [.int (nI d), .int kb, .ref fo, .ref ke, .ref ht, .ref wo, .ref fi, .ref se])), (fi, LA cJ 4 A1)]) [0, 2] rfl) (hD.sub (ws' := [(h, .inr (1, [.int (nI d), .int kb, .ref fo, .ref ke, .ref ht, .ref wo, .ref fi, .ref se])), (fi, LA cJ 4 A1)]) [0, 2] (by decide) rfl) rfl rfl) rfl rfl hl.1 rfl (lv_room (Nat.le_of_ble_eq_true rfl)) d_K_at_6 ⟨Nat.le_of_ble_eq_true rfl, Nat.le_of_ble_eq_true rfl⟩) (fun r_1 u_2 H locs hwt hP hD hS => ?_)
    obtain ⟨B5, rfl⟩ : ∃ z, z = u_2 := ⟨_, rfl⟩
    try dsimp only at hwt
    have hP : va_P D vwC [(h, .inr (1, [.int (nI d), .int kb, .ref fo, .ref ke, .ref ht, .ref wo, .ref fi, .ref se])), (fo, LA cJ 16 Fm), (fi, LA cJ 4 B5)] H := hP.sub [1, 0, 2] rfl
    have hD : va_D A [(h, .inr (1, [.int (nI d), .int kb, .ref fo, .ref ke, .ref ht, .ref wo, .ref fi, .ref se])), (fo, LA cJ 16 Fm), (fi, LA cJ 4 B5)] := hD.sub [1, 0, 2] (by decide) rfl
    obtain ⟨hwt, hwtp⟩ := hwt
    rcases hwt with ⟨rfl, hwt⟩ | ⟨rfl, hwt⟩
    · skip
      refine xz_ne (tgt := 15) (X := (1 : Nat)) hx hb (nI_toInt (by omega)) d_K_at_9 (by decide) (fun c9_2 => ?_) (fun c9_2 => absurd c9_2 (by omega))
      have hB := ptR_eq (hwtp hwt)
      have hBB := pt_B hwt hB
      have hfB := frmN_B hd3 hF hBB hBB (n := d + 1) (by omega)
      refine lv_aload_n hx hb d_K_at_15 rfl (lv_at hl 0 rfl) ?_
      refine lv_aload_n hx hb d_K_at_16 rfl (lv_at hl 0 rfl) ?_
      refine va_get (D := D) (ci := 1) (v := .ref fi) (C := R_K) (T := F_K) (N := 8) hx hb hts iw_K hown hK hP 0 rfl rfl 6 (by decide) (hts _ tw_48) (fun _ h9 => h9) rfl d_K_at_17 ?_
      refine lv_aload_n hx hb d_K_at_20 rfl (lv_at hl 0 rfl) ?_
      refine va_get (D := D) (ci := 1) (v := .ref fi) (C := R_K) (T := F_K) (N := 8) hx hb hts iw_K hown hK hP 0 rfl rfl 6 (by decide) (hts _ tw_48) (fun _ h9 => h9) rfl d_K_at_21 ?_
      refine xcl (wc := [(h, .inr (1, [.int (nI d), .int kb, .ref fo, .ref ke, .ref ht, .ref wo, .ref fi, .ref se])), (fo, LA cJ 16 Fm), (fi, LA cJ 4 B5)]) (wr := []) hP hD hS hA [0, 1, 2] [] rfl rfl (by decide) (by decide) (va_runV (As := [.ref fi, .ref fi]) (rest := []) ⟨hx, hb, hml, hown, hts⟩ (c_formOf1 l D cJ h d kb fo ke ht wo fi se Fm fi B5 (by first | assumption | omega) H.size) (cwV 2 hts (gV tw_222 tw_224 tws_7 tw_1 tw_225) rfl rfl rfl ⟨rfl, hd_K_formOf⟩ ⟨Nat.le_of_ble_eq_true rfl, Nat.le_of_ble_eq_true rfl⟩) (xPreV (C := R_K) (T := F_K) (N := 8) (q0 := 0) hN hK (hP.sub (ws' := [(h, .inr (1, [.int (nI d), .int kb, .ref fo, .ref ke, .ref ht, .ref wo, .ref fi, .ref se])), (fo, LA cJ 16 Fm), (fi, LA cJ 4 B5)]) [0, 1, 2] rfl) (hD.sub (ws' := [(h, .inr (1, [.int (nI d), .int kb, .ref fo, .ref ke, .ref ht, .ref wo, .ref fi, .ref se])), (fo, LA cJ 16 Fm), (fi, LA cJ 4 B5)]) [0, 1, 2] (by decide) rfl) rfl rfl) rfl rfl hl.1 rfl (lv_room (Nat.le_of_ble_eq_true rfl)) d_K_at_24 ⟨Nat.le_of_ble_eq_true rfl, Nat.le_of_ble_eq_true rfl⟩) (fun r_4 u_5 H locs hw_6 hP hD hS => ?_)
      try dsimp only at hw_6
      have hP : va_P D vwC [(h, .inr (1, [.int (nI d), .int kb, .ref fo, .ref ke, .ref ht, .ref wo, .ref fi, .ref se])), (fo, LA cJ 16 Fm), (fi, LA cJ 4 B5)] H := hP
      have hD : va_D A [(h, .inr (1, [.int (nI d), .int kb, .ref fo, .ref ke, .ref ht, .ref wo, .ref fi, .ref se])), (fo, LA cJ 16 Fm), (fi, LA cJ 4 B5)] := hD
      subst hw_6
      refine xci (wc := []) (wr := [(h, .inr (1, [.int (nI d), .int kb, .ref fo, .ref ke, .ref ht, .ref wo, .ref fi, .ref se])), (fo, LA cJ 16 Fm), (fi, LA cJ 4 B5)]) hP hD hS hA [] [0, 1, 2] rfl rfl (by decide) (by decide) (va_runS (As := [.long (lI (frmN Fm B5 B5 d (d + 1)))]) (rest := []) ⟨hx, hb, hml, hown, hts⟩ (c_sign l D cJ (frmN Fm B5 B5 d (d + 1)) (lB_of (leB hfB (show _ ≤ (4000000000 : Int) by rcases (show d = 2 ∨ d = 3 by omega) with rfl | rfl <;> decide)) (by decide)) H.size) (cwS 1 hts (gS tw_230 tw_231 tw_1 tw_232) rfl rfl rfl ⟨rfl, hd_K_signCode⟩ ⟨Nat.le_of_ble_eq_true rfl, Nat.le_of_ble_eq_true rfl⟩) (xPreS hN hK (hP.sub (ws' := []) [] rfl) (hD.sub (ws' := []) [] (by decide) rfl)) rfl rfl hl.1 rfl (lv_room (Nat.le_of_ble_eq_true rfl)) d_K_at_27 ⟨Nat.le_of_ble_eq_true rfl, Nat.le_of_ble_eq_true rfl⟩) (fun r_7 u_8 H locs hw_9 hP hD hS => ?_)
      try dsimp only at hw_9
      have hP : va_P D vwC [(h, .inr (1, [.int (nI d), .int kb, .ref fo, .ref ke, .ref ht, .ref wo, .ref fi, .ref se])), (fo, LA cJ 16 Fm), (fi, LA cJ 4 B5)] H := hP
      have hD : va_D A [(h, .inr (1, [.int (nI d), .int kb, .ref fo, .ref ke, .ref ht, .ref wo, .ref fi, .ref se])), (fo, LA cJ 16 Fm), (fi, LA cJ 4 B5)] := hD
      subst hw_9
      exact hret H locs _ ls (nI (sgc (frmN Fm B5 B5 d (d + 1)))) B5 d_K_at_30 (by rw [s_at_t hwt, frmN_congr (fun k hk => hB k (by omega)) (Nat.le_refl _) (fun k hk => hB k (by omega))]) hP hD hS
    · skip
      refine xz_ne (tgt := 15) (X := (0 : Nat)) hx hb (nI_toInt (by omega)) d_K_at_9 (by decide) (fun c9_9 => absurd c9_9 (by omega)) (fun c9_9 => ?_)
      refine lv_bipush (v := (-2)) hx hb d_K_at_12 (by decide) ?_
      exact hret H locs _ ls (-2) B5 d_K_at_14 ((s_at_f hwt).symm) hP hD hS
  rw [hH, hlc] at key; exact key

def rm_k_polar : Room := { frames := 3, cells := 0, slots := 0, locals := 118 }
set_option maxHeartbeats 4000000 in
set_option maxRecDepth 100000 in
/-- polar -/
theorem k_polar (l : Launch) (D : va_G) (cJ : ClassId) (h : Nat) (d : Nat) (kb : Int32) (fo : Nat) (ke : Nat) (ht : Nat) (wo : Nat) (fi : Nat) (se : Nat) (Fm : Nat → Int) (A1 : Nat → Int) (A2 : Nat → Int) (x : Int32) (y : Int32) (z : Int32) (dn : Int32) (vi : Int32) (hd2 : 2 ≤ d) (hd3 : d ≤ 3) (hF : ∀ k, k < 16 → inB (Fm k) 20) (sz : Nat) : xMl l y_K_polar (Cond.code y_K_polar b_K_polar 7 (some .long) :: tW) rm_k_polar [.ref h, .int x, .int y, .int z, .int dn, .int vi] D vwC [(cJ, .long)] sz [(h, .inr (1, [.int (nI d), .int kb, .ref fo, .ref ke, .ref ht, .ref wo, .ref fi, .ref se])), (fo, LA cJ 16 Fm), (fi, LA cJ 4 A1), (se, LA cJ 4 A2)] (fun (rv : Int64) (uo : (Nat → Int) × (Nat → Int)) => rv = lI (s_polar Fm d x.toInt y.toInt z.toInt dn.toInt vi.toInt)) (fun (uo : (Nat → Int) × (Nat → Int)) => [(h, .inr (1, [.int (nI d), .int kb, .ref fo, .ref ke, .ref ht, .ref wo, .ref fi, .ref se])), (fo, LA cJ 16 Fm), (fi, LA cJ 4 uo.1), (se, LA cJ 4 uo.2)]) 0 0 := by
  refine xol (cc := b_K_polar) (maxL := 7) (by decide) rfl (Nat.le_of_ble_eq_true rfl) ?_
  intro p e s m args below meth c Q A hx hb hml hts hown hN hA hS hP hK hD hret ls hl
  have hl : lv_has ls 7 [(0, .ref h), (1, .int x), (2, .int y), (3, .int z), (4, .int dn), (5, .int vi)] := hl
  obtain ⟨H, hH⟩ : ∃ z, z = s.heap := ⟨_, rfl⟩
  obtain ⟨locs, hlc⟩ : ∃ z : List Loc, z = [] := ⟨_, rfl⟩
  rw [← hH] at hP
  have hS : va_S A s.heap H locs := by rw [hH, hlc]; exact hS
  have key : W p l e rm_k_polar s m args below meth c H locs 0 0 Q (F0 m 0 ls []) := by
    refine lv_aload_n hx hb d_K_polar_0 rfl (lv_at hl 0 rfl) ?_
    refine lv_iload hx hb d_K_polar_1 (lv_at hl 5 rfl) ?_
    refine xci (wc := [(h, .inr (1, [.int (nI d), .int kb, .ref fo, .ref ke, .ref ht, .ref wo, .ref fi, .ref se]))]) (wr := [(fo, LA cJ 16 Fm), (fi, LA cJ 4 A1), (se, LA cJ 4 A2)]) hP hD hS hA [0] [1, 2, 3] rfl rfl (by decide) (by decide) (va_runV (As := [.int vi]) (rest := []) ⟨hx, hb, hml, hown, hts⟩ (c_noPlace l D cJ h d kb fo ke ht wo fi se vi (by first | assumption | omega) H.size) (cwV 1 hts (gV tw_78 tw_80 tws_0 tw_1 tw_81) rfl rfl rfl ⟨rfl, hd_K_isNoPlace⟩ ⟨Nat.le_of_ble_eq_true rfl, Nat.le_of_ble_eq_true rfl⟩) (xPreV (C := R_K) (T := F_K) (N := 8) (q0 := 0) hN hK (hP.sub (ws' := [(h, .inr (1, [.int (nI d), .int kb, .ref fo, .ref ke, .ref ht, .ref wo, .ref fi, .ref se]))]) [0] rfl) (hD.sub (ws' := [(h, .inr (1, [.int (nI d), .int kb, .ref fo, .ref ke, .ref ht, .ref wo, .ref fi, .ref se]))]) [0] (by decide) rfl) rfl rfl) rfl rfl hl.1 rfl (lv_room (Nat.le_of_ble_eq_true rfl)) d_K_polar_3 ⟨Nat.le_of_ble_eq_true rfl, Nat.le_of_ble_eq_true rfl⟩) (fun r_1 u_2 H locs hwi hP hD hS => ?_)
    try dsimp only at hwi
    have hP : va_P D vwC [(h, .inr (1, [.int (nI d), .int kb, .ref fo, .ref ke, .ref ht, .ref wo, .ref fi, .ref se])), (fo, LA cJ 16 Fm), (fi, LA cJ 4 A1), (se, LA cJ 4 A2)] H := hP.sub [3, 0, 1, 2] rfl
    have hD : va_D A [(h, .inr (1, [.int (nI d), .int kb, .ref fo, .ref ke, .ref ht, .ref wo, .ref fi, .ref se])), (fo, LA cJ 16 Fm), (fi, LA cJ 4 A1), (se, LA cJ 4 A2)] := hD.sub [3, 0, 1, 2] (by decide) rfl
    rcases hwi with ⟨rfl, hwi⟩ | ⟨rfl, hwi⟩
    · skip
      refine xz_ne (tgt := 21) (X := (1 : Nat)) hx hb (nI_toInt (by omega)) d_K_polar_6 (by decide) (fun c6_2 => ?_) (fun c6_2 => absurd c6_2 (by omega))
      refine lv_ldc2 (v := lI (-1000000000000000000)) hx hb hown (hts _ tw_85) d_K_polar_21 ?_
      exact hret H locs _ ls (lI (-1000000000000000000)) (A1, A2) d_K_polar_24 (by rw [s_polar_f (show ¬ s_polarP d x.toInt y.toInt z.toInt dn.toInt vi.toInt from fun q => by first | exact q.1 hwi | exact hwt q.2)]; rfl) hP hD hS
    · skip
      refine xz_ne (tgt := 21) (X := (0 : Nat)) hx hb (nI_toInt (by omega)) d_K_polar_6 (by decide) (fun c6_3 => absurd c6_3 (by omega)) (fun c6_3 => ?_)
      refine lv_aload_n hx hb d_K_polar_9 rfl (lv_at hl 0 rfl) ?_
      refine lv_iload_n hx hb d_K_polar_10 rfl (lv_at hl 1 rfl) ?_
      refine lv_iload_n hx hb d_K_polar_11 rfl (lv_at hl 2 rfl) ?_
      refine lv_iload_n hx hb d_K_polar_12 rfl (lv_at hl 3 rfl) ?_
      refine lv_iload hx hb d_K_polar_13 (lv_at hl 4 rfl) ?_
      refine xci (wc := [(h, .inr (1, [.int (nI d), .int kb, .ref fo, .ref ke, .ref ht, .ref wo, .ref fi, .ref se])), (fi, LA cJ 4 A1)]) (wr := [(fo, LA cJ 16 Fm), (se, LA cJ 4 A2)]) hP hD hS hA [0, 2] [1, 3] rfl rfl (by decide) (by decide) (va_runV (As := [.int x, .int y, .int z, .int dn]) (rest := []) ⟨hx, hb, hml, hown, hts⟩ (c_takePoint l D cJ h d kb fo ke ht wo fi se A1 x y z dn (by first | assumption | omega) H.size) (cwV 4 hts (gV tw_211 tw_213 tws_5 tw_1 tw_214) rfl rfl rfl ⟨rfl, hd_K_takePoint⟩ ⟨Nat.le_of_ble_eq_true rfl, Nat.le_of_ble_eq_true rfl⟩) (xPreV (C := R_K) (T := F_K) (N := 8) (q0 := 0) hN hK (hP.sub (ws' := [(h, .inr (1, [.int (nI d), .int kb, .ref fo, .ref ke, .ref ht, .ref wo, .ref fi, .ref se])), (fi, LA cJ 4 A1)]) [0, 2] rfl) (hD.sub (ws' := [(h, .inr (1, [.int (nI d), .int kb, .ref fo, .ref ke, .ref ht, .ref wo, .ref fi, .ref se])), (fi, LA cJ 4 A1)]) [0, 2] (by decide) rfl) rfl rfl) rfl rfl hl.1 rfl (lv_room (Nat.le_of_ble_eq_true rfl)) d_K_polar_15 ⟨Nat.le_of_ble_eq_true rfl, Nat.le_of_ble_eq_true rfl⟩) (fun r_5 u_6 H locs hwt hP hD hS => ?_)
      obtain ⟨B5, rfl⟩ : ∃ z, z = u_6 := ⟨_, rfl⟩
      try dsimp only at hwt
      have hP : va_P D vwC [(h, .inr (1, [.int (nI d), .int kb, .ref fo, .ref ke, .ref ht, .ref wo, .ref fi, .ref se])), (fo, LA cJ 16 Fm), (fi, LA cJ 4 B5), (se, LA cJ 4 A2)] H := hP.sub [2, 0, 3, 1] rfl
      have hD : va_D A [(h, .inr (1, [.int (nI d), .int kb, .ref fo, .ref ke, .ref ht, .ref wo, .ref fi, .ref se])), (fo, LA cJ 16 Fm), (fi, LA cJ 4 B5), (se, LA cJ 4 A2)] := hD.sub [2, 0, 3, 1] (by decide) rfl
      obtain ⟨hwt, hwtp⟩ := hwt
      rcases hwt with ⟨rfl, hwt⟩ | ⟨rfl, hwt⟩
      · skip
        refine xz_ne (tgt := 25) (X := (1 : Nat)) hx hb (nI_toInt (by omega)) d_K_polar_18 (by decide) (fun c18_6 => ?_) (fun c18_6 => absurd c18_6 (by omega))
        obtain ⟨i, hi, rfl⟩ := nI_range hwi
        have hB := ptR_eq (hwtp hwt)
        have hBB := pt_B hwt hB
        refine lv_iconst (v := nI 0) hx hb d_K_polar_25 (by decide) ?_
        refine lv_istore (lv' := [(6, .int (nI 0)), (0, .ref h), (1, .int x), (2, .int y), (3, .int z), (4, .int dn), (5, .int (nI i))]) hx hb d_K_polar_26 hl (by decide) rfl (fun ls hl => ?_)
        have lp_28 : ∀ (n_28 : Nat) (j : Nat) (E3 : Nat → Int) (H : Heap) (locs : List Loc) (ls : Array Slot), (j ≤ d + 1) → (∀ k, k < j → E3 k = rowN Fm B5 k (d + 1)) → (d + 1 - j) < n_28 → va_P D vwC [(h, .inr (1, [.int (nI d), .int kb, .ref fo, .ref ke, .ref ht, .ref wo, .ref fi, .ref se])), (fo, LA cJ 16 Fm), (fi, LA cJ 4 B5), (se, LA cJ 4 E3)] H → va_D A [(h, .inr (1, [.int (nI d), .int kb, .ref fo, .ref ke, .ref ht, .ref wo, .ref fi, .ref se])), (fo, LA cJ 16 Fm), (fi, LA cJ 4 B5), (se, LA cJ 4 E3)] → va_S A s.heap H locs → lv_has ls 7 [(0, .ref h), (5, .int (nI i)), (6, .int (nI j))] → W p l e rm_k_polar s m args below meth c H locs 0 0 Q (F0 m 28 ls []) := by
          intro n_28
          induction n_28 with
          | zero => intro j E3 H locs ls hj h3 hn_28; exact absurd hn_28 (Nat.not_lt_zero _)
          | succ n_28 ih_28 =>
            intro j E3 H locs ls hj h3 hn_28 hP hD hS hl
            refine lv_iload hx hb d_K_polar_28 (lv_at hl 2 rfl) ?_
            refine lv_aload_n hx hb d_K_polar_30 rfl (lv_at hl 0 rfl) ?_
            refine va_get (D := D) (ci := 1) (v := .int (nI d)) (C := R_K) (T := F_K) (N := 8) hx hb hts iw_K hown hK hP 0 rfl rfl 0 (by decide) (hts _ tw_42) (fun _ h9 => h9) rfl d_K_polar_31 ?_
            refine xn_gt (tgt := 60) hx hb (by omega) (by omega) d_K_polar_34 (by decide) (fun c34_7 => ?_) (fun c34_7 => ?_)
            · skip
              have hE : ∀ k, k < d + 1 → E3 k = polR Fm d x.toInt y.toInt z.toInt dn.toInt k := fun k hk => (h3 k (by omega)).trans (rowN_congr (fun q hq => hB q (by omega)))
              refine lv_aload_n hx hb d_K_polar_60 rfl (lv_at hl 0 rfl) ?_
              refine va_get (D := D) (ci := 1) (v := .ref se) (C := R_K) (T := F_K) (N := 8) hx hb hts iw_K hown hK hP 0 rfl rfl 7 (by decide) (hts _ tw_49) (fun _ h9 => h9) rfl d_K_polar_61 ?_
              refine lv_aload_n hx hb d_K_polar_64 rfl (lv_at hl 0 rfl) ?_
              refine va_get (D := D) (ci := 1) (v := .int (nI d)) (C := R_K) (T := F_K) (N := 8) hx hb hts iw_K hown hK hP 0 rfl rfl 0 (by decide) (hts _ tw_42) (fun _ h9 => h9) rfl d_K_polar_65 ?_
              refine lv_iconst (v := nI 1) hx hb d_K_polar_68 (by decide) ?_
              refine xn_add hx hb d_K_polar_69 ?_
              refine xci (wc := [(se, LA cJ 4 E3)]) (wr := [(h, .inr (1, [.int (nI d), .int kb, .ref fo, .ref ke, .ref ht, .ref wo, .ref fi, .ref se])), (fo, LA cJ 16 Fm), (fi, LA cJ 4 B5)]) hP hD hS hA [3] [0, 1, 2] rfl rfl (by decide) (by decide) (va_runS (As := [.ref se, .int (nI (d + 1))]) (rest := []) ⟨hx, hb, hml, hown, hts⟩ (c_clear l D cJ se E3 (d + 1) (by omega) (fun k hk => by rw [h3 k (by omega)]; exact nB_of (leB (rowN_B (show k ≤ 3 by omega) hF hBB (n := d + 1) (by omega)) (show _ ≤ (100000 : Int) by omega)) (by decide)) H.size) (cwS 2 hts (gS tw_237 tw_238 tw_1 tw_239) rfl rfl rfl ⟨rfl, hd_K_clearDivisor⟩ ⟨Nat.le_of_ble_eq_true rfl, Nat.le_of_ble_eq_true rfl⟩) (xPreS hN hK (hP.sub (ws' := [(se, LA cJ 4 E3)]) [3] rfl) (hD.sub (ws' := [(se, LA cJ 4 E3)]) [3] (by decide) rfl)) rfl rfl hl.1 rfl (lv_room (Nat.le_of_ble_eq_true rfl)) d_K_polar_70 ⟨Nat.le_of_ble_eq_true rfl, Nat.le_of_ble_eq_true rfl⟩) (fun r_9 u_10 H locs hwc hP hD hS => ?_)
              obtain ⟨E6, rfl⟩ : ∃ z, z = u_10 := ⟨_, rfl⟩
              try dsimp only at hwc
              have hP : va_P D vwC [(h, .inr (1, [.int (nI d), .int kb, .ref fo, .ref ke, .ref ht, .ref wo, .ref fi, .ref se])), (fo, LA cJ 16 Fm), (fi, LA cJ 4 B5), (se, LA cJ 4 E6)] H := hP
              have hD : va_D A [(h, .inr (1, [.int (nI d), .int kb, .ref fo, .ref ke, .ref ht, .ref wo, .ref fi, .ref se])), (fo, LA cJ 16 Fm), (fi, LA cJ 4 B5), (se, LA cJ 4 E6)] := hD
              obtain ⟨hwc, hwcp⟩ := hwc
              rcases hwc with ⟨rfl, hwc⟩ | ⟨rfl, hwc⟩
              · skip
                refine xz_eq (tgt := 86) (X := (1 : Nat)) hx hb (nI_toInt (by omega)) d_K_polar_73 (by decide) (fun c73_10 => absurd c73_10 (by omega)) (fun c73_10 => ?_)
                refine lv_aload_n hx hb d_K_polar_76 rfl (lv_at hl 0 rfl) ?_
                refine va_get (D := D) (ci := 1) (v := .ref se) (C := R_K) (T := F_K) (N := 8) hx hb hts iw_K hown hK hP 0 rfl rfl 7 (by decide) (hts _ tw_49) (fun _ h9 => h9) rfl d_K_polar_77 ?_
                refine lv_iload hx hb d_K_polar_80 (lv_at hl 1 rfl) ?_
                refine xl_ald hx hb hK hP 3 0 rfl rfl (k := i) (by omega) (by first | decide | omega) d_K_polar_82 ?_
                refine lv_goto (tgt := 89) hx hb d_K_polar_83 (by decide) ?_
                exact hret H locs _ ls (lI (E6 i)) (B5, E6) d_K_polar_89 (by rw [s_polar_t (show s_polarP d x.toInt y.toInt z.toInt dn.toInt (nI i).toInt from ⟨hwi, hwt⟩), nI_toInt (by omega)]; show _ = lI (woN _ (d + 1) i); unfold woN; rw [← gcdN_congr hE, ← dvN_congr hE, if_neg hwc, hwcp hwc i (by omega), hE i (by omega)]) hP hD hS
              · skip
                refine xz_eq (tgt := 86) (X := (0 : Nat)) hx hb (nI_toInt (by omega)) d_K_polar_73 (by decide) (fun c73_11 => ?_) (fun c73_11 => absurd c73_11 (by omega))
                refine lv_ldc2 (v := lI (-1000000000000000000)) hx hb hown (hts _ tw_85) d_K_polar_86 ?_
                exact hret H locs _ ls (lI (-1000000000000000000)) (B5, E6) d_K_polar_89 (by rw [s_polar_t (show s_polarP d x.toInt y.toInt z.toInt dn.toInt (nI i).toInt from ⟨hwi, hwt⟩)]; unfold woN; rw [← gcdN_congr hE, if_pos (show gcdN E3 (d + 1) = 0 from Classical.byContradiction hwc)]; rfl) hP hD hS
            · skip
              refine lv_aload_n hx hb d_K_polar_37 rfl (lv_at hl 0 rfl) ?_
              refine va_get (D := D) (ci := 1) (v := .ref se) (C := R_K) (T := F_K) (N := 8) hx hb hts iw_K hown hK hP 0 rfl rfl 7 (by decide) (hts _ tw_49) (fun _ h9 => h9) rfl d_K_polar_38 ?_
              refine lv_iload hx hb d_K_polar_41 (lv_at hl 2 rfl) ?_
              refine lv_aload_n hx hb d_K_polar_43 rfl (lv_at hl 0 rfl) ?_
              refine lv_iload hx hb d_K_polar_44 (lv_at hl 2 rfl) ?_
              refine lv_aload_n hx hb d_K_polar_46 rfl (lv_at hl 0 rfl) ?_
              refine va_get (D := D) (ci := 1) (v := .ref fi) (C := R_K) (T := F_K) (N := 8) hx hb hts iw_K hown hK hP 0 rfl rfl 6 (by decide) (hts _ tw_48) (fun _ h9 => h9) rfl d_K_polar_47 ?_
              refine xcl (wc := [(h, .inr (1, [.int (nI d), .int kb, .ref fo, .ref ke, .ref ht, .ref wo, .ref fi, .ref se])), (fo, LA cJ 16 Fm), (fi, LA cJ 4 B5)]) (wr := [(se, LA cJ 4 E3)]) hP hD hS hA [0, 1, 2] [3] rfl rfl (by decide) (by decide) (va_runV (As := [.int (nI j), .ref fi]) (rest := [.int (nI j), .ref se]) ⟨hx, hb, hml, hown, hts⟩ (c_rowTimes l D cJ h d kb fo ke ht wo fi se Fm fi B5 j (by first | assumption | omega) (by first | assumption | omega) H.size) (cwV 2 hts (gV tw_226 tw_228 tws_8 tw_1 tw_229) rfl rfl rfl ⟨rfl, hd_K_rowTimes⟩ ⟨Nat.le_of_ble_eq_true rfl, Nat.le_of_ble_eq_true rfl⟩) (xPreV (C := R_K) (T := F_K) (N := 8) (q0 := 0) hN hK (hP.sub (ws' := [(h, .inr (1, [.int (nI d), .int kb, .ref fo, .ref ke, .ref ht, .ref wo, .ref fi, .ref se])), (fo, LA cJ 16 Fm), (fi, LA cJ 4 B5)]) [0, 1, 2] rfl) (hD.sub (ws' := [(h, .inr (1, [.int (nI d), .int kb, .ref fo, .ref ke, .ref ht, .ref wo, .ref fi, .ref se])), (fo, LA cJ 16 Fm), (fi, LA cJ 4 B5)]) [0, 1, 2] (by decide) rfl) rfl rfl) rfl rfl hl.1 rfl (lv_room (Nat.le_of_ble_eq_true rfl)) d_K_polar_50 ⟨Nat.le_of_ble_eq_true rfl, Nat.le_of_ble_eq_true rfl⟩) (fun r_13 u_14 H locs hw_15 hP hD hS => ?_)
              try dsimp only at hw_15
              have hP : va_P D vwC [(h, .inr (1, [.int (nI d), .int kb, .ref fo, .ref ke, .ref ht, .ref wo, .ref fi, .ref se])), (fo, LA cJ 16 Fm), (fi, LA cJ 4 B5), (se, LA cJ 4 E3)] H := hP.sub [1, 2, 3, 0] rfl
              have hD : va_D A [(h, .inr (1, [.int (nI d), .int kb, .ref fo, .ref ke, .ref ht, .ref wo, .ref fi, .ref se])), (fo, LA cJ 16 Fm), (fi, LA cJ 4 B5), (se, LA cJ 4 E3)] := hD.sub [1, 2, 3, 0] (by decide) rfl
              subst hw_15
              refine xl_ast hx hb hK hP hD hS 3 0 rfl rfl (k := j) (by omega) (by first | decide | omega) d_K_polar_53 (fun H locs hP hD hS => ?_)
              have hP : va_P D vwC [(h, .inr (1, [.int (nI d), .int kb, .ref fo, .ref ke, .ref ht, .ref wo, .ref fi, .ref se])), (fo, LA cJ 16 Fm), (fi, LA cJ 4 B5), (se, LA cJ 4 (upZ E3 j (rowN Fm B5 j (d + 1))))] H := hP
              have hD : va_D A [(h, .inr (1, [.int (nI d), .int kb, .ref fo, .ref ke, .ref ht, .ref wo, .ref fi, .ref se])), (fo, LA cJ 16 Fm), (fi, LA cJ 4 B5), (se, LA cJ 4 (upZ E3 j (rowN Fm B5 j (d + 1))))] := hD
              refine lv_iinc (v := nI (j + 1)) (lv' := [(6, .int (nI (j + 1))), (0, .ref h), (5, .int (nI i))]) hx hb d_K_polar_54 hl (k := 2) rfl (nI_add _ _) (by decide) rfl (fun ls hl => ?_)
              refine lv_goto (tgt := 28) hx hb d_K_polar_57 (by decide) ?_
              exact ih_28 (j + 1) (upZ E3 j (rowN Fm B5 j (d + 1))) H locs ls (by omega) (fun k hk => by by_cases q : k = j; rw [q, upZ_at]; rw [upZ_ne (k := j) (j := k) _ _ q]; exact h3 k (by omega)) (by omega) hP hD hS (lv_sub hl [1, 2, 0] rfl)
        exact lp_28 ((d + 1 - 0) + 1) 0 A2 H locs ls (Nat.zero_le _) (fun k h => absurd h (Nat.not_lt_zero _)) (by omega) hP hD hS (lv_sub hl [1, 6, 0] rfl)
      · skip
        refine xz_ne (tgt := 25) (X := (0 : Nat)) hx hb (nI_toInt (by omega)) d_K_polar_18 (by decide) (fun c18_15 => absurd c18_15 (by omega)) (fun c18_15 => ?_)
        refine lv_ldc2 (v := lI (-1000000000000000000)) hx hb hown (hts _ tw_85) d_K_polar_21 ?_
        exact hret H locs _ ls (lI (-1000000000000000000)) (B5, A2) d_K_polar_24 (by rw [s_polar_f (show ¬ s_polarP d x.toInt y.toInt z.toInt dn.toInt vi.toInt from fun q => by first | exact q.1 hwi | exact hwt q.2)]; rfl) hP hD hS
  rw [hH, hlc] at key; exact key

def rm_k_touches : Room := { frames := 4, cells := 0, slots := 0, locals := 107 }
set_option maxHeartbeats 4000000 in
set_option maxRecDepth 100000 in
/-- touches -/
theorem k_touches (l : Launch) (D : va_G) (cJ : ClassId) (h : Nat) (d : Nat) (kb : Int32) (fo : Nat) (ke : Nat) (ht : Nat) (wo : Nat) (fi : Nat) (se : Nat) (Fm : Nat → Int) (A1 : Nat → Int) (hc : Nat) (hf : Nat) (hp : Nat) (ho : Nat) (r0 : Int32) (C : Nat → Int) (F : Nat → Int) (P : Nat → Int) (O : Nat → Int) (u0 : Int32) (u1 : Int32) (u2 : Int32) (u3 : Int32) (hd2 : 2 ≤ d) (hd3 : d ≤ 3) (hF : ∀ k, k < 16 → inB (Fm k) 20) (sz : Nat) : xMi l y_K_touches (Cond.code y_K_touches b_K_touches 9 (some .int) :: tW) rm_k_touches [.ref h, .int u0, .int u1, .int u2, .int u3] D vwC [(cJ, .long)] sz [(h, .inr (1, [.int (nI d), .int kb, .ref fo, .ref ke, .ref ht, .ref wo, .ref fi, .ref se])), (fo, LA cJ 16 Fm), (fi, LA cJ 4 A1), (ht, .inr (0, [.int r0, .ref hc, .ref hf, .ref hp, .ref ho])), (hc, LA cJ 16 C), (hf, LA cJ 16 F), (hp, LA cJ 16 P), (ho, LA cJ 5 O)] (fun (rv : Int32) (uo : (Nat → Int) × Int32 × (Nat → Int) × (Nat → Int) × (Nat → Int) × (Nat → Int)) => rv = s_tch Fm d (ptR d u0.toInt u1.toInt u2.toInt u3.toInt)) (fun (uo : (Nat → Int) × Int32 × (Nat → Int) × (Nat → Int) × (Nat → Int) × (Nat → Int)) => [(h, .inr (1, [.int (nI d), .int kb, .ref fo, .ref ke, .ref ht, .ref wo, .ref fi, .ref se])), (fo, LA cJ 16 Fm), (fi, LA cJ 4 uo.1), (ht, .inr (0, [.int uo.2.1, .ref hc, .ref hf, .ref hp, .ref ho])), (hc, LA cJ 16 uo.2.2.1), (hf, LA cJ 16 uo.2.2.2.1), (hp, LA cJ 16 uo.2.2.2.2.1), (ho, LA cJ 5 uo.2.2.2.2.2)]) 0 0 := by
  refine xoi (cc := b_K_touches) (maxL := 9) (by decide) rfl (Nat.le_of_ble_eq_true rfl) ?_
  intro p e s m args below meth c Q A hx hb hml hts hown hN hA hS hP hK hD hret ls hl
  have hl : lv_has ls 9 [(0, .ref h), (1, .int u0), (2, .int u1), (3, .int u2), (4, .int u3)] := hl
  obtain ⟨H, hH⟩ : ∃ z, z = s.heap := ⟨_, rfl⟩
  obtain ⟨locs, hlc⟩ : ∃ z : List Loc, z = [] := ⟨_, rfl⟩
  rw [← hH] at hP
  have hS : va_S A s.heap H locs := by rw [hH, hlc]; exact hS
  have key : W p l e rm_k_touches s m args below meth c H locs 0 0 Q (F0 m 0 ls []) := by
    refine lv_aload_n hx hb d_K_touches_0 rfl (lv_at hl 0 rfl) ?_
    refine lv_aload_n hx hb d_K_touches_1 rfl (lv_at hl 0 rfl) ?_
    refine va_get (D := D) (ci := 1) (v := .ref fi) (C := R_K) (T := F_K) (N := 8) hx hb hts iw_K hown hK hP 0 rfl rfl 6 (by decide) (hts _ tw_48) (fun _ h9 => h9) rfl d_K_touches_2 ?_
    refine lv_iload_n hx hb d_K_touches_5 rfl (lv_at hl 1 rfl) ?_
    refine lv_i2l (v := lI u0.toInt) hx hb d_K_touches_6 rfl ?_
    refine lv_iload_n hx hb d_K_touches_7 rfl (lv_at hl 2 rfl) ?_
    refine lv_i2l (v := lI u1.toInt) hx hb d_K_touches_8 rfl ?_
    refine lv_iload_n hx hb d_K_touches_9 rfl (lv_at hl 3 rfl) ?_
    refine lv_i2l (v := lI u2.toInt) hx hb d_K_touches_10 rfl ?_
    refine lv_iload hx hb d_K_touches_11 (lv_at hl 4 rfl) ?_
    refine lv_i2l (v := lI u3.toInt) hx hb d_K_touches_13 rfl ?_
    refine xcv (wc := [(h, .inr (1, [.int (nI d), .int kb, .ref fo, .ref ke, .ref ht, .ref wo, .ref fi, .ref se])), (fi, LA cJ 4 A1)]) (wr := [(fo, LA cJ 16 Fm), (ht, .inr (0, [.int r0, .ref hc, .ref hf, .ref hp, .ref ho])), (hc, LA cJ 16 C), (hf, LA cJ 16 F), (hp, LA cJ 16 P), (ho, LA cJ 5 O)]) hP hD hS hA [0, 2] [1, 3, 4, 5, 6, 7] rfl rfl (by decide) (by decide) (va_runV (As := [.ref fi, .long (lI u0.toInt), .long (lI u1.toInt), .long (lI u2.toInt), .long (lI u3.toInt)]) (rest := []) ⟨hx, hb, hml, hown, hts⟩ (c_setRow l D cJ h d kb fo ke ht wo fi se fi A1 u0.toInt u1.toInt u2.toInt u3.toInt (by first | assumption | omega) H.size) (cwV 5 hts (gV tw_215 tw_217 tws_6 tw_1 tw_218) rfl rfl rfl ⟨rfl, hd_K_setRow⟩ ⟨Nat.le_of_ble_eq_true rfl, Nat.le_of_ble_eq_true rfl⟩) (xPreV (C := R_K) (T := F_K) (N := 8) (q0 := 0) hN hK (hP.sub (ws' := [(h, .inr (1, [.int (nI d), .int kb, .ref fo, .ref ke, .ref ht, .ref wo, .ref fi, .ref se])), (fi, LA cJ 4 A1)]) [0, 2] rfl) (hD.sub (ws' := [(h, .inr (1, [.int (nI d), .int kb, .ref fo, .ref ke, .ref ht, .ref wo, .ref fi, .ref se])), (fi, LA cJ 4 A1)]) [0, 2] (by decide) rfl) rfl rfl) rfl rfl hl.1 rfl (lv_room (Nat.le_of_ble_eq_true rfl)) d_K_touches_14 ⟨Nat.le_of_ble_eq_true rfl, Nat.le_of_ble_eq_true rfl⟩) (fun u_2 H locs hrow hP hD hS => ?_)
    obtain ⟨B5, rfl⟩ : ∃ z, z = u_2 := ⟨_, rfl⟩
    try dsimp only at hrow
    have hP : va_P D vwC [(h, .inr (1, [.int (nI d), .int kb, .ref fo, .ref ke, .ref ht, .ref wo, .ref fi, .ref se])), (fo, LA cJ 16 Fm), (fi, LA cJ 4 B5), (ht, .inr (0, [.int r0, .ref hc, .ref hf, .ref hp, .ref ho])), (hc, LA cJ 16 C), (hf, LA cJ 16 F), (hp, LA cJ 16 P), (ho, LA cJ 5 O)] H := hP.sub [6, 0, 7, 1, 2, 3, 4, 5] rfl
    have hD : va_D A [(h, .inr (1, [.int (nI d), .int kb, .ref fo, .ref ke, .ref ht, .ref wo, .ref fi, .ref se])), (fo, LA cJ 16 Fm), (fi, LA cJ 4 B5), (ht, .inr (0, [.int r0, .ref hc, .ref hf, .ref hp, .ref ho])), (hc, LA cJ 16 C), (hf, LA cJ 16 F), (hp, LA cJ 16 P), (ho, LA cJ 5 O)] := hD.sub [6, 0, 7, 1, 2, 3, 4, 5] (by decide) rfl
    have hB := ptR_eq hrow
    have hL := row_lB (lB_i u0) (lB_i u1) (lB_i u2) (lB_i u3) hrow
    have hbad := rowBad_congr (b := 20) hd3 hB
    refine lv_aload_n hx hb d_K_touches_17 rfl (lv_at hl 0 rfl) ?_
    refine va_get (D := D) (ci := 1) (v := .ref fi) (C := R_K) (T := F_K) (N := 8) hx hb hts iw_K hown hK hP 0 rfl rfl 6 (by decide) (hts _ tw_48) (fun _ h9 => h9) rfl d_K_touches_18 ?_
    refine lv_bipush (v := nI 20) hx hb d_K_touches_21 (by decide) ?_
    refine xci (wc := [(fi, LA cJ 4 B5)]) (wr := [(h, .inr (1, [.int (nI d), .int kb, .ref fo, .ref ke, .ref ht, .ref wo, .ref fi, .ref se])), (fo, LA cJ 16 Fm), (ht, .inr (0, [.int r0, .ref hc, .ref hf, .ref hp, .ref ho])), (hc, LA cJ 16 C), (hf, LA cJ 16 F), (hp, LA cJ 16 P), (ho, LA cJ 5 O)]) hP hD hS hA [2] [0, 1, 3, 4, 5, 6, 7] rfl rfl (by decide) (by decide) (va_runS (As := [.ref fi, .int (nI 20)]) (rest := []) ⟨hx, hb, hml, hown, hts⟩ (c_rowBeyond l D cJ fi B5 20 hL (by first | assumption | omega) H.size) (cwS 2 hts (gS tw_219 tw_220 tw_1 tw_221) rfl rfl rfl ⟨rfl, hd_K_isRowBeyond⟩ ⟨Nat.le_of_ble_eq_true rfl, Nat.le_of_ble_eq_true rfl⟩) (xPreS hN hK (hP.sub (ws' := [(fi, LA cJ 4 B5)]) [2] rfl) (hD.sub (ws' := [(fi, LA cJ 4 B5)]) [2] (by decide) rfl)) rfl rfl hl.1 rfl (lv_room (Nat.le_of_ble_eq_true rfl)) d_K_touches_23 ⟨Nat.le_of_ble_eq_true rfl, Nat.le_of_ble_eq_true rfl⟩) (fun r_3 u_4 H locs hwr hP hD hS => ?_)
    try dsimp only at hwr
    have hP : va_P D vwC [(h, .inr (1, [.int (nI d), .int kb, .ref fo, .ref ke, .ref ht, .ref wo, .ref fi, .ref se])), (fo, LA cJ 16 Fm), (fi, LA cJ 4 B5), (ht, .inr (0, [.int r0, .ref hc, .ref hf, .ref hp, .ref ho])), (hc, LA cJ 16 C), (hf, LA cJ 16 F), (hp, LA cJ 16 P), (ho, LA cJ 5 O)] H := hP.sub [0, 1, 7, 2, 3, 4, 5, 6] rfl
    have hD : va_D A [(h, .inr (1, [.int (nI d), .int kb, .ref fo, .ref ke, .ref ht, .ref wo, .ref fi, .ref se])), (fo, LA cJ 16 Fm), (fi, LA cJ 4 B5), (ht, .inr (0, [.int r0, .ref hc, .ref hf, .ref hp, .ref ho])), (hc, LA cJ 16 C), (hf, LA cJ 16 F), (hp, LA cJ 16 P), (ho, LA cJ 5 O)] := hD.sub [0, 1, 7, 2, 3, 4, 5, 6] (by decide) rfl
    rcases hwr with ⟨rfl, hwr⟩ | ⟨rfl, hwr⟩
    · skip
      refine xz_ne (tgt := 44) (X := (1 : Nat)) hx hb (nI_toInt (by omega)) d_K_touches_26 (by decide) (fun c26_4 => ?_) (fun c26_4 => absurd c26_4 (by omega))
      refine lv_bipush (v := (-2)) hx hb d_K_touches_44 (by decide) ?_
      exact hret H locs _ ls (-2) (B5, r0, C, F, P, O) d_K_touches_46 (by rw [s_tch_t (hbad.mp (Or.inl hwr))]) hP hD hS
    · skip
      refine xz_ne (tgt := 44) (X := (0 : Nat)) hx hb (nI_toInt (by omega)) d_K_touches_26 (by decide) (fun c26_5 => absurd c26_5 (by omega)) (fun c26_5 => ?_)
      refine lv_aload_n hx hb d_K_touches_29 rfl (lv_at hl 0 rfl) ?_
      refine va_get (D := D) (ci := 1) (v := .ref fi) (C := R_K) (T := F_K) (N := 8) hx hb hts iw_K hown hK hP 0 rfl rfl 6 (by decide) (hts _ tw_48) (fun _ h9 => h9) rfl d_K_touches_30 ?_
      refine lv_iconst (v := nI 1) hx hb d_K_touches_33 (by decide) ?_
      refine lv_aload_n hx hb d_K_touches_34 rfl (lv_at hl 0 rfl) ?_
      refine va_get (D := D) (ci := 1) (v := .int (nI d)) (C := R_K) (T := F_K) (N := 8) hx hb hts iw_K hown hK hP 0 rfl rfl 0 (by decide) (hts _ tw_42) (fun _ h9 => h9) rfl d_K_touches_35 ?_
      refine xci (wc := [(fi, LA cJ 4 B5)]) (wr := [(h, .inr (1, [.int (nI d), .int kb, .ref fo, .ref ke, .ref ht, .ref wo, .ref fi, .ref se])), (fo, LA cJ 16 Fm), (ht, .inr (0, [.int r0, .ref hc, .ref hf, .ref hp, .ref ho])), (hc, LA cJ 16 C), (hf, LA cJ 16 F), (hp, LA cJ 16 P), (ho, LA cJ 5 O)]) hP hD hS hA [2] [0, 1, 3, 4, 5, 6, 7] rfl rfl (by decide) (by decide) (va_runS (As := [.ref fi, .int (nI 1), .int (nI d)]) (rest := []) ⟨hx, hb, hml, hown, hts⟩ (c_allZero l D cJ fi B5 1 d hL (by first | assumption | omega) (by first | assumption | omega) H.size) (cwS 3 hts (gS tw_244 tw_245 tw_1 tw_246) rfl rfl rfl ⟨rfl, hd_K_isAllZero⟩ ⟨Nat.le_of_ble_eq_true rfl, Nat.le_of_ble_eq_true rfl⟩) (xPreS hN hK (hP.sub (ws' := [(fi, LA cJ 4 B5)]) [2] rfl) (hD.sub (ws' := [(fi, LA cJ 4 B5)]) [2] (by decide) rfl)) rfl rfl hl.1 rfl (lv_room (Nat.le_of_ble_eq_true rfl)) d_K_touches_38 ⟨Nat.le_of_ble_eq_true rfl, Nat.le_of_ble_eq_true rfl⟩) (fun r_7 u_8 H locs hwz hP hD hS => ?_)
      try dsimp only at hwz
      have hP : va_P D vwC [(h, .inr (1, [.int (nI d), .int kb, .ref fo, .ref ke, .ref ht, .ref wo, .ref fi, .ref se])), (fo, LA cJ 16 Fm), (fi, LA cJ 4 B5), (ht, .inr (0, [.int r0, .ref hc, .ref hf, .ref hp, .ref ho])), (hc, LA cJ 16 C), (hf, LA cJ 16 F), (hp, LA cJ 16 P), (ho, LA cJ 5 O)] H := hP.sub [0, 1, 7, 2, 3, 4, 5, 6] rfl
      have hD : va_D A [(h, .inr (1, [.int (nI d), .int kb, .ref fo, .ref ke, .ref ht, .ref wo, .ref fi, .ref se])), (fo, LA cJ 16 Fm), (fi, LA cJ 4 B5), (ht, .inr (0, [.int r0, .ref hc, .ref hf, .ref hp, .ref ho])), (hc, LA cJ 16 C), (hf, LA cJ 16 F), (hp, LA cJ 16 P), (ho, LA cJ 5 O)] := hD.sub [0, 1, 7, 2, 3, 4, 5, 6] (by decide) rfl
      rcases hwz with ⟨rfl, hwz⟩ | ⟨rfl, hwz⟩
      · skip
        refine xz_eq (tgt := 47) (X := (1 : Nat)) hx hb (nI_toInt (by omega)) d_K_touches_41 (by decide) (fun c41_8 => absurd c41_8 (by omega)) (fun c41_8 => ?_)
        refine lv_bipush (v := (-2)) hx hb d_K_touches_44 (by decide) ?_
        exact hret H locs _ ls (-2) (B5, r0, C, F, P, O) d_K_touches_46 (by rw [s_tch_t (hbad.mp (Or.inr hwz))]) hP hD hS
      · skip
        refine xz_eq (tgt := 47) (X := (0 : Nat)) hx hb (nI_toInt (by omega)) d_K_touches_41 (by decide) (fun c41_9 => ?_) (fun c41_9 => absurd c41_9 (by omega))
        have hBB : ∀ k, k < 4 → inB (B5 k) 20 := Classical.byContradiction hwr
        have hnb : ¬ rowBad (ptR d u0.toInt u1.toInt u2.toInt u3.toInt) d 20 := fun q => (hbad.mpr q).elim hwr hwz
        refine lv_aload_n hx hb d_K_touches_47 rfl (lv_at hl 0 rfl) ?_
        refine va_get (D := D) (ci := 1) (v := .ref ht) (C := R_K) (T := F_K) (N := 8) hx hb hts iw_K hown hK hP 0 rfl rfl 4 (by decide) (hts _ tw_46) (fun _ h9 => h9) rfl d_K_touches_48 ?_
        refine lv_aload_n hx hb d_K_touches_51 rfl (lv_at hl 0 rfl) ?_
        refine va_get (D := D) (ci := 1) (v := .ref fo) (C := R_K) (T := F_K) (N := 8) hx hb hts iw_K hown hK hP 0 rfl rfl 2 (by decide) (hts _ tw_44) (fun _ h9 => h9) rfl d_K_touches_52 ?_
        refine lv_iconst (v := nI 0) hx hb d_K_touches_55 (by decide) ?_
        refine lv_aload_n hx hb d_K_touches_56 rfl (lv_at hl 0 rfl) ?_
        refine va_get (D := D) (ci := 1) (v := .int (nI d)) (C := R_K) (T := F_K) (N := 8) hx hb hts iw_K hown hK hP 0 rfl rfl 0 (by decide) (hts _ tw_42) (fun _ h9 => h9) rfl d_K_touches_57 ?_
        refine xcv (wc := [(ht, .inr (0, [.int r0, .ref hc, .ref hf, .ref hp, .ref ho])), (hc, LA cJ 16 C), (hf, LA cJ 16 F), (hp, LA cJ 16 P), (ho, LA cJ 5 O), (fo, LA cJ 16 Fm)]) (wr := [(h, .inr (1, [.int (nI d), .int kb, .ref fo, .ref ke, .ref ht, .ref wo, .ref fi, .ref se])), (fi, LA cJ 4 B5)]) hP hD hS hA [3, 4, 5, 6, 7, 1] [0, 2] rfl rfl (by decide) (by decide) (va_runV (As := [.ref fo, .int (nI 0), .int (nI d)]) (rest := []) ⟨hx, hb, hml, hown, hts⟩ (c_load l D cJ ht hc hf hp ho fo 0 d (d + 1) r0 C F P O Fm (by first | assumption | omega) (by first | assumption | omega) (by first | assumption | omega) (ld_q (by omega) (by omega) (enB_20 hF (by omega))) H.size) (cwV 3 hts (gV tw_97 tw_98 tw_99 tw_2 tw_100) rfl rfl rfl ⟨rfl, hd_T_load⟩ ⟨Nat.le_of_ble_eq_true rfl, Nat.le_of_ble_eq_true rfl⟩) (xPreV (C := R_T) (T := F_T) (N := 5) (q0 := 0) hN hK (hP.sub (ws' := [(ht, .inr (0, [.int r0, .ref hc, .ref hf, .ref hp, .ref ho])), (hc, LA cJ 16 C), (hf, LA cJ 16 F), (hp, LA cJ 16 P), (ho, LA cJ 5 O), (fo, LA cJ 16 Fm)]) [3, 4, 5, 6, 7, 1] rfl) (hD.sub (ws' := [(ht, .inr (0, [.int r0, .ref hc, .ref hf, .ref hp, .ref ho])), (hc, LA cJ 16 C), (hf, LA cJ 16 F), (hp, LA cJ 16 P), (ho, LA cJ 5 O), (fo, LA cJ 16 Fm)]) [3, 4, 5, 6, 7, 1] (by decide) rfl) rfl rfl) rfl rfl hl.1 rfl (lv_room (Nat.le_of_ble_eq_true rfl)) d_K_touches_60 ⟨Nat.le_of_ble_eq_true rfl, Nat.le_of_ble_eq_true rfl⟩) (fun u_12 H locs hw1 hP hD hS => ?_)
        obtain ⟨Ca, Fa, Pa, Oa⟩ := u_12
        try dsimp only at hw1
        have hP : va_P D vwC [(h, .inr (1, [.int (nI d), .int kb, .ref fo, .ref ke, .ref ht, .ref wo, .ref fi, .ref se])), (fo, LA cJ 16 Fm), (fi, LA cJ 4 B5), (ht, .inr (0, [.int (nI (d + 1)), .ref hc, .ref hf, .ref hp, .ref ho])), (hc, LA cJ 16 Ca), (hf, LA cJ 16 Fa), (hp, LA cJ 16 Pa), (ho, LA cJ 5 Oa)] H := hP.sub [0, 7, 1, 2, 3, 4, 5, 6] rfl
        have hD : va_D A [(h, .inr (1, [.int (nI d), .int kb, .ref fo, .ref ke, .ref ht, .ref wo, .ref fi, .ref se])), (fo, LA cJ 16 Fm), (fi, LA cJ 4 B5), (ht, .inr (0, [.int (nI (d + 1)), .ref hc, .ref hf, .ref hp, .ref ho])), (hc, LA cJ 16 Ca), (hf, LA cJ 16 Fa), (hp, LA cJ 16 Pa), (ho, LA cJ 5 Oa)] := hD.sub [0, 7, 1, 2, 3, 4, 5, 6] (by decide) rfl
        have hT := ld_ok (f := 0) (r := d + 1) (by omega) (by omega) hw1
        refine lv_aload_n hx hb d_K_touches_63 rfl (lv_at hl 0 rfl) ?_
        refine va_get (D := D) (ci := 1) (v := .ref ht) (C := R_K) (T := F_K) (N := 8) hx hb hts iw_K hown hK hP 0 rfl rfl 4 (by decide) (hts _ tw_46) (fun _ h9 => h9) rfl d_K_touches_64 ?_
        refine xcl (wc := [(ht, .inr (0, [.int (nI (d + 1)), .ref hc, .ref hf, .ref hp, .ref ho])), (hc, LA cJ 16 Ca), (hf, LA cJ 16 Fa), (hp, LA cJ 16 Pa), (ho, LA cJ 5 Oa)]) (wr := [(h, .inr (1, [.int (nI d), .int kb, .ref fo, .ref ke, .ref ht, .ref wo, .ref fi, .ref se])), (fo, LA cJ 16 Fm), (fi, LA cJ 4 B5)]) hP hD hS hA [3, 4, 5, 6, 7] [0, 1, 2] rfl rfl (by decide) (by decide) (va_runV (As := []) (rest := []) ⟨hx, hb, hml, hown, hts⟩ (c_product l D cJ ht hc hf hp ho (d + 1) Ca Fa Pa Oa (by first | assumption | omega) H.size) (cwV 0 hts (gV tw_156 tw_157 tw_158 tw_2 tw_159) rfl rfl rfl ⟨rfl, hd_T_productOfValues⟩ ⟨Nat.le_of_ble_eq_true rfl, Nat.le_of_ble_eq_true rfl⟩) (xPreV (C := R_T) (T := F_T) (N := 5) (q0 := 0) hN hK (hP.sub (ws' := [(ht, .inr (0, [.int (nI (d + 1)), .ref hc, .ref hf, .ref hp, .ref ho])), (hc, LA cJ 16 Ca), (hf, LA cJ 16 Fa), (hp, LA cJ 16 Pa), (ho, LA cJ 5 Oa)]) [3, 4, 5, 6, 7] rfl) (hD.sub (ws' := [(ht, .inr (0, [.int (nI (d + 1)), .ref hc, .ref hf, .ref hp, .ref ho])), (hc, LA cJ 16 Ca), (hf, LA cJ 16 Fa), (hp, LA cJ 16 Pa), (ho, LA cJ 5 Oa)]) [3, 4, 5, 6, 7] (by decide) rfl) rfl rfl) rfl rfl hl.1 rfl (lv_room (Nat.le_of_ble_eq_true rfl)) d_K_touches_67 ⟨Nat.le_of_ble_eq_true rfl, Nat.le_of_ble_eq_true rfl⟩) (fun r_13 u_14 H locs hw_15 hP hD hS => ?_)
        try dsimp only at hw_15
        have hP : va_P D vwC [(h, .inr (1, [.int (nI d), .int kb, .ref fo, .ref ke, .ref ht, .ref wo, .ref fi, .ref se])), (fo, LA cJ 16 Fm), (fi, LA cJ 4 B5), (ht, .inr (0, [.int (nI (d + 1)), .ref hc, .ref hf, .ref hp, .ref ho])), (hc, LA cJ 16 Ca), (hf, LA cJ 16 Fa), (hp, LA cJ 16 Pa), (ho, LA cJ 5 Oa)] H := hP
        have hD : va_D A [(h, .inr (1, [.int (nI d), .int kb, .ref fo, .ref ke, .ref ht, .ref wo, .ref fi, .ref se])), (fo, LA cJ 16 Fm), (fi, LA cJ 4 B5), (ht, .inr (0, [.int (nI (d + 1)), .ref hc, .ref hf, .ref hp, .ref ho])), (hc, LA cJ 16 Ca), (hf, LA cJ 16 Fa), (hp, LA cJ 16 Pa), (ho, LA cJ 5 Oa)] := hD
        subst hw_15
        rw [ld_det hT]
        refine lv_lconst (v := lI 0) hx hb d_K_touches_70 (by decide) ?_
        refine xl_ne (tgt := 78) hx hb (lB_of (eS_B (by omega) (by omega) (enB_20 hF (by omega)) _ (Nat.le_refl _)) (by decide)) ⟨by decide, by decide⟩ d_K_touches_71 d_K_touches_72 (by decide) (fun c72_15 => ?_) (fun c72_15 => ?_)
        · skip
          refine lv_lconst (v := lI 0) hx hb d_K_touches_78 (by decide) ?_
          refine lv_lstore (lv' := [(5, .long (lI 0)), (0, .ref h), (1, .int u0), (2, .int u1), (3, .int u2), (4, .int u3)]) hx hb d_K_touches_79 hl (by decide) rfl (fun ls hl => ?_)
          refine lv_iconst (v := nI 0) hx hb d_K_touches_81 (by decide) ?_
          refine lv_istore (lv' := [(7, .int (nI 0)), (5, .long (lI 0)), (0, .ref h), (1, .int u0), (2, .int u1), (3, .int u2), (4, .int u3)]) hx hb d_K_touches_82 hl (by decide) rfl (fun ls hl => ?_)
          have lp_84 : ∀ (n_84 : Nat) (i : Nat) (H : Heap) (locs : List Loc) (ls : Array Slot), (i ≤ d + 1) → (d + 1 - i) < n_84 → va_P D vwC [(h, .inr (1, [.int (nI d), .int kb, .ref fo, .ref ke, .ref ht, .ref wo, .ref fi, .ref se])), (fo, LA cJ 16 Fm), (fi, LA cJ 4 B5), (ht, .inr (0, [.int (nI (d + 1)), .ref hc, .ref hf, .ref hp, .ref ho])), (hc, LA cJ 16 Ca), (hf, LA cJ 16 Fa), (hp, LA cJ 16 Pa), (ho, LA cJ 5 Oa)] H → va_D A [(h, .inr (1, [.int (nI d), .int kb, .ref fo, .ref ke, .ref ht, .ref wo, .ref fi, .ref se])), (fo, LA cJ 16 Fm), (fi, LA cJ 4 B5), (ht, .inr (0, [.int (nI (d + 1)), .ref hc, .ref hf, .ref hp, .ref ho])), (hc, LA cJ 16 Ca), (hf, LA cJ 16 Fa), (hp, LA cJ 16 Pa), (ho, LA cJ 5 Oa)] → va_S A s.heap H locs → lv_has ls 9 [(0, .ref h), (5, .long (lI (tchN (prt Fm 0) B5 (d + 1) i))), (7, .int (nI i))] → W p l e rm_k_touches s m args below meth c H locs 0 0 Q (F0 m 84 ls []) := by
            intro n_84
            induction n_84 with
            | zero => intro i H locs ls hi hn_84; exact absurd hn_84 (Nat.not_lt_zero _)
            | succ n_84 ih_84 =>
              intro i H locs ls hi hn_84 hP hD hS hl
              refine lv_iload hx hb d_K_touches_84 (lv_at hl 2 rfl) ?_
              refine lv_aload_n hx hb d_K_touches_86 rfl (lv_at hl 0 rfl) ?_
              refine va_get (D := D) (ci := 1) (v := .int (nI d)) (C := R_K) (T := F_K) (N := 8) hx hb hts iw_K hown hK hP 0 rfl rfl 0 (by decide) (hts _ tw_42) (fun _ h9 => h9) rfl d_K_touches_87 ?_
              refine xn_gt (tgt := 149) hx hb (by omega) (by omega) d_K_touches_90 (by decide) (fun c90_16 => ?_) (fun c90_16 => ?_)
              · skip
                have hS2 := tchN_B (r := d + 1) (by omega) (by omega) (enB_f hF (f := 0) (r := d + 1) (by omega)) hBB (i := i) (by omega)
                refine lv_lload hx hb d_K_touches_149 (lv_at hl 1 rfl) ?_
                refine lv_lconst (v := lI 0) hx hb d_K_touches_151 (by decide) ?_
                refine xl_ne (tgt := 160) hx hb (lB_of (leB hS2 (show _ ≤ (400000000 : Int) by omega)) (by decide)) ⟨by decide, by decide⟩ d_K_touches_152 d_K_touches_153 (by decide) (fun c153_17 => ?_) (fun c153_17 => ?_)
                · skip
                  refine lv_iconst (v := nI 0) hx hb d_K_touches_160 (by decide) ?_
                  have hi9 : i = d + 1 := by omega
                  subst hi9
                  exact hret H locs _ ls (nI 0) (B5, nI (d + 1), Ca, Fa, Pa, Oa) d_K_touches_161 (by rw [s_tch_f hnb, if_neg c72_15, ← tchN_congr (by omega) hB (Nat.le_refl _), if_neg c153_17]) hP hD hS
                · skip
                  refine lv_iconst (v := nI 1) hx hb d_K_touches_156 (by decide) ?_
                  refine lv_goto (tgt := 161) hx hb d_K_touches_157 (by decide) ?_
                  have hi9 : i = d + 1 := by omega
                  subst hi9
                  exact hret H locs _ ls (nI 1) (B5, nI (d + 1), Ca, Fa, Pa, Oa) d_K_touches_161 (by rw [s_tch_f hnb, if_neg c72_15, ← tchN_congr (by omega) hB (Nat.le_refl _), if_pos c153_17]) hP hD hS
              · skip
                refine lv_iconst (v := nI 0) hx hb d_K_touches_93 (by decide) ?_
                refine lv_istore (lv' := [(8, .int (nI 0)), (0, .ref h), (5, .long (lI (tchN (prt Fm 0) B5 (d + 1) i))), (7, .int (nI i))]) hx hb d_K_touches_94 hl (by decide) rfl (fun ls hl => ?_)
                have lp_96 : ∀ (n_96 : Nat) (j : Nat) (H : Heap) (locs : List Loc) (ls : Array Slot), (j ≤ d + 1) → (d + 1 - j) < n_96 → va_P D vwC [(h, .inr (1, [.int (nI d), .int kb, .ref fo, .ref ke, .ref ht, .ref wo, .ref fi, .ref se])), (fo, LA cJ 16 Fm), (fi, LA cJ 4 B5), (ht, .inr (0, [.int (nI (d + 1)), .ref hc, .ref hf, .ref hp, .ref ho])), (hc, LA cJ 16 Ca), (hf, LA cJ 16 Fa), (hp, LA cJ 16 Pa), (ho, LA cJ 5 Oa)] H → va_D A [(h, .inr (1, [.int (nI d), .int kb, .ref fo, .ref ke, .ref ht, .ref wo, .ref fi, .ref se])), (fo, LA cJ 16 Fm), (fi, LA cJ 4 B5), (ht, .inr (0, [.int (nI (d + 1)), .ref hc, .ref hf, .ref hp, .ref ho])), (hc, LA cJ 16 Ca), (hf, LA cJ 16 Fa), (hp, LA cJ 16 Pa), (ho, LA cJ 5 Oa)] → va_S A s.heap H locs → lv_has ls 9 [(0, .ref h), (5, .long (lI (tchN (prt Fm 0) B5 (d + 1) i + tchJ (prt Fm 0) B5 (d + 1) i j))), (7, .int (nI i)), (8, .int (nI j))] → W p l e rm_k_touches s m args below meth c H locs 0 0 Q (F0 m 96 ls []) := by
                  intro n_96
                  induction n_96 with
                  | zero => intro j H locs ls hj hn_96; exact absurd hn_96 (Nat.not_lt_zero _)
                  | succ n_96 ih_96 =>
                    intro j H locs ls hj hn_96 hP hD hS hl
                    refine lv_iload hx hb d_K_touches_96 (lv_at hl 3 rfl) ?_
                    refine lv_aload_n hx hb d_K_touches_98 rfl (lv_at hl 0 rfl) ?_
                    refine va_get (D := D) (ci := 1) (v := .int (nI d)) (C := R_K) (T := F_K) (N := 8) hx hb hts iw_K hown hK hP 0 rfl rfl 0 (by decide) (hts _ tw_42) (fun _ h9 => h9) rfl d_K_touches_99 ?_
                    refine xn_gt (tgt := 143) hx hb (by omega) (by omega) d_K_touches_102 (by decide) (fun c102_18 => ?_) (fun c102_18 => ?_)
                    · skip
                      have hj9 : j = d + 1 := by omega
                      subst hj9
                      refine lv_iinc (v := nI (i + 1)) (lv' := [(7, .int (nI (i + 1))), (0, .ref h), (5, .long (lI (tchN (prt Fm 0) B5 (d + 1) i + tchJ (prt Fm 0) B5 (d + 1) i (d + 1)))), (8, .int (nI (d + 1)))]) hx hb d_K_touches_143 hl (k := 2) rfl (nI_add _ _) (by decide) rfl (fun ls hl => ?_)
                      refine lv_goto (tgt := 84) hx hb d_K_touches_146 (by decide) ?_
                      exact ih_84 (i + 1) H locs ls (by omega) (by omega) hP hD hS (lv_sub hl [1, 2, 0] rfl)
                    · skip
                      refine lv_lload hx hb d_K_touches_105 (lv_at hl 1 rfl) ?_
                      refine lv_aload_n hx hb d_K_touches_107 rfl (lv_at hl 0 rfl) ?_
                      refine va_get (D := D) (ci := 1) (v := .ref fi) (C := R_K) (T := F_K) (N := 8) hx hb hts iw_K hown hK hP 0 rfl rfl 6 (by decide) (hts _ tw_48) (fun _ h9 => h9) rfl d_K_touches_108 ?_
                      refine lv_iload hx hb d_K_touches_111 (lv_at hl 2 rfl) ?_
                      refine xl_ald hx hb hK hP 2 0 rfl rfl (k := i) (by omega) (by first | decide | omega) d_K_touches_113 ?_
                      refine lv_aload_n hx hb d_K_touches_114 rfl (lv_at hl 0 rfl) ?_
                      refine va_get (D := D) (ci := 1) (v := .ref ht) (C := R_K) (T := F_K) (N := 8) hx hb hts iw_K hown hK hP 0 rfl rfl 4 (by decide) (hts _ tw_46) (fun _ h9 => h9) rfl d_K_touches_115 ?_
                      refine lv_iload hx hb d_K_touches_118 (lv_at hl 2 rfl) ?_
                      refine lv_iload hx hb d_K_touches_120 (lv_at hl 3 rfl) ?_
                      refine xcl (wc := [(ht, .inr (0, [.int (nI (d + 1)), .ref hc, .ref hf, .ref hp, .ref ho])), (hc, LA cJ 16 Ca), (hf, LA cJ 16 Fa), (hp, LA cJ 16 Pa), (ho, LA cJ 5 Oa)]) (wr := [(h, .inr (1, [.int (nI d), .int kb, .ref fo, .ref ke, .ref ht, .ref wo, .ref fi, .ref se])), (fo, LA cJ 16 Fm), (fi, LA cJ 4 B5)]) hP hD hS hA [3, 4, 5, 6, 7] [0, 1, 2] rfl rfl (by decide) (by decide) (va_runV (As := [.int (nI i), .int (nI j)]) (rest := [.long (lI (B5 i)), .long (lI (tchN (prt Fm 0) B5 (d + 1) i + tchJ (prt Fm 0) B5 (d + 1) i j))]) ⟨hx, hb, hml, hown, hts⟩ (c_adjugate l D cJ ht hc hf hp ho (d + 1) Ca Fa Pa Oa i j (by first | assumption | omega) (by first | assumption | omega) (by first | assumption | omega) H.size) (cwV 2 hts (gV tw_172 tw_173 tw_174 tw_2 tw_175) rfl rfl rfl ⟨rfl, hd_T_adjugate⟩ ⟨Nat.le_of_ble_eq_true rfl, Nat.le_of_ble_eq_true rfl⟩) (xPreV (C := R_T) (T := F_T) (N := 5) (q0 := 0) hN hK (hP.sub (ws' := [(ht, .inr (0, [.int (nI (d + 1)), .ref hc, .ref hf, .ref hp, .ref ho])), (hc, LA cJ 16 Ca), (hf, LA cJ 16 Fa), (hp, LA cJ 16 Pa), (ho, LA cJ 5 Oa)]) [3, 4, 5, 6, 7] rfl) (hD.sub (ws' := [(ht, .inr (0, [.int (nI (d + 1)), .ref hc, .ref hf, .ref hp, .ref ho])), (hc, LA cJ 16 Ca), (hf, LA cJ 16 Fa), (hp, LA cJ 16 Pa), (ho, LA cJ 5 Oa)]) [3, 4, 5, 6, 7] (by decide) rfl) rfl rfl) rfl rfl hl.1 rfl (lv_room (Nat.le_of_ble_eq_true rfl)) d_K_touches_122 ⟨Nat.le_of_ble_eq_true rfl, Nat.le_of_ble_eq_true rfl⟩) (fun r_20 u_21 H locs hw_22 hP hD hS => ?_)
                      try dsimp only at hw_22
                      have hP : va_P D vwC [(h, .inr (1, [.int (nI d), .int kb, .ref fo, .ref ke, .ref ht, .ref wo, .ref fi, .ref se])), (fo, LA cJ 16 Fm), (fi, LA cJ 4 B5), (ht, .inr (0, [.int (nI (d + 1)), .ref hc, .ref hf, .ref hp, .ref ho])), (hc, LA cJ 16 Ca), (hf, LA cJ 16 Fa), (hp, LA cJ 16 Pa), (ho, LA cJ 5 Oa)] H := hP
                      have hD : va_D A [(h, .inr (1, [.int (nI d), .int kb, .ref fo, .ref ke, .ref ht, .ref wo, .ref fi, .ref se])), (fo, LA cJ 16 Fm), (fi, LA cJ 4 B5), (ht, .inr (0, [.int (nI (d + 1)), .ref hc, .ref hf, .ref hp, .ref ho])), (hc, LA cJ 16 Ca), (hf, LA cJ 16 Fa), (hp, LA cJ 16 Pa), (ho, LA cJ 5 Oa)] := hD
                      subst hw_22
                      rw [ld_adj (i := i) (j := j) hT (by omega) (by omega)]
                      refine xl_mul hx hb d_K_touches_125 ?_
                      refine lv_aload_n hx hb d_K_touches_126 rfl (lv_at hl 0 rfl) ?_
                      refine va_get (D := D) (ci := 1) (v := .ref fi) (C := R_K) (T := F_K) (N := 8) hx hb hts iw_K hown hK hP 0 rfl rfl 6 (by decide) (hts _ tw_48) (fun _ h9 => h9) rfl d_K_touches_127 ?_
                      refine lv_iload hx hb d_K_touches_130 (lv_at hl 3 rfl) ?_
                      refine xl_ald hx hb hK hP 2 0 rfl rfl (k := j) (by omega) (by first | decide | omega) d_K_touches_132 ?_
                      refine xl_mul hx hb d_K_touches_133 ?_
                      refine xl_add hx hb d_K_touches_134 ?_
                      rw [Int.add_assoc]
                      refine lv_lstore (lv' := [(5, .long (lI (tchN (prt Fm 0) B5 (d + 1) i + (tchJ (prt Fm 0) B5 (d + 1) i j + B5 i * adjM (prt Fm 0) (d + 1) i j * B5 j)))), (0, .ref h), (7, .int (nI i)), (8, .int (nI j))]) hx hb d_K_touches_135 hl (by decide) rfl (fun ls hl => ?_)
                      refine lv_iinc (v := nI (j + 1)) (lv' := [(8, .int (nI (j + 1))), (5, .long (lI (tchN (prt Fm 0) B5 (d + 1) i + (tchJ (prt Fm 0) B5 (d + 1) i j + B5 i * adjM (prt Fm 0) (d + 1) i j * B5 j)))), (0, .ref h), (7, .int (nI i))]) hx hb d_K_touches_137 hl (k := 3) rfl (nI_add _ _) (by decide) rfl (fun ls hl => ?_)
                      refine lv_goto (tgt := 96) hx hb d_K_touches_140 (by decide) ?_
                      exact ih_96 (j + 1) H locs ls (by omega) (by omega) hP hD hS (lv_sub hl [2, 1, 3, 0] rfl)
                have hz : tchN (prt Fm 0) B5 (d + 1) i = tchN (prt Fm 0) B5 (d + 1) i + tchJ (prt Fm 0) B5 (d + 1) i 0 := (Int.add_zero _).symm
                rw [hz] at hl
                exact lp_96 ((d + 1 - 0) + 1) 0 H locs ls (Nat.zero_le _) (by omega) hP hD hS (lv_sub hl [1, 2, 3, 0] rfl)
          exact lp_84 ((d + 1 - 0) + 1) 0 H locs ls (Nat.zero_le _) (by omega) hP hD hS (lv_sub hl [2, 1, 0] rfl)
        · skip
          refine lv_bipush (v := (-3)) hx hb d_K_touches_75 (by decide) ?_
          exact hret H locs _ ls (-3) (B5, nI (d + 1), Ca, Fa, Pa, Oa) d_K_touches_77 (by rw [s_tch_f hnb, if_pos c72_15]) hP hD hS
  rw [hH, hlc] at key; exact key

def rm_k_section : Room := { frames := 5, cells := 0, slots := 0, locals := 135 }
set_option maxHeartbeats 4000000 in
set_option maxRecDepth 100000 in
/-- section -/
theorem k_section (l : Launch) (D : va_G) (cJ : ClassId) (h : Nat) (d : Nat) (kb : Int32) (fo : Nat) (ke : Nat) (ht : Nat) (wo : Nat) (fi : Nat) (se : Nat) (Fm : Nat → Int) (A1 : Nat → Int) (Wk : Nat → Int) (hc : Nat) (hf : Nat) (hp : Nat) (ho : Nat) (r0 : Int32) (C : Nat → Int) (F : Nat → Int) (P : Nat → Int) (O : Nat → Int) (va : Int32) (vb : Int32) (vc : Int32) (ve : Int32) (hd2 : 2 ≤ d) (hd3 : d ≤ 3) (hF : ∀ k, k < 16 → inB (Fm k) 20) (sz : Nat) : xMi l y_K_section (Cond.code y_K_section b_K_section 5 (some .int) :: tW) rm_k_section [.ref h, .int va, .int vb, .int vc, .int ve] D vwC [(cJ, .long)] sz [(h, .inr (1, [.int (nI d), .int kb, .ref fo, .ref ke, .ref ht, .ref wo, .ref fi, .ref se])), (fo, LA cJ 16 Fm), (fi, LA cJ 4 A1), (wo, LA cJ 16 Wk), (ht, .inr (0, [.int r0, .ref hc, .ref hf, .ref hp, .ref ho])), (hc, LA cJ 16 C), (hf, LA cJ 16 F), (hp, LA cJ 16 P), (ho, LA cJ 5 O)] (fun (rv : Int32) (uo : (Nat → Int) × (Nat → Int) × Int32 × (Nat → Int) × (Nat → Int) × (Nat → Int) × (Nat → Int)) => rv = s_sec Fm d va.toInt vb.toInt vc.toInt ve.toInt) (fun (uo : (Nat → Int) × (Nat → Int) × Int32 × (Nat → Int) × (Nat → Int) × (Nat → Int) × (Nat → Int)) => [(h, .inr (1, [.int (nI d), .int kb, .ref fo, .ref ke, .ref ht, .ref wo, .ref fi, .ref se])), (fo, LA cJ 16 Fm), (fi, LA cJ 4 uo.1), (wo, LA cJ 16 uo.2.1), (ht, .inr (0, [.int uo.2.2.1, .ref hc, .ref hf, .ref hp, .ref ho])), (hc, LA cJ 16 uo.2.2.2.1), (hf, LA cJ 16 uo.2.2.2.2.1), (hp, LA cJ 16 uo.2.2.2.2.2.1), (ho, LA cJ 5 uo.2.2.2.2.2.2)]) 0 0 := by
  refine xoi (cc := b_K_section) (maxL := 5) (by decide) rfl (Nat.le_of_ble_eq_true rfl) ?_
  intro p e s m args below meth c Q A hx hb hml hts hown hN hA hS hP hK hD hret ls hl
  have hl : lv_has ls 5 [(0, .ref h), (1, .int va), (2, .int vb), (3, .int vc), (4, .int ve)] := hl
  obtain ⟨H, hH⟩ : ∃ z, z = s.heap := ⟨_, rfl⟩
  obtain ⟨locs, hlc⟩ : ∃ z : List Loc, z = [] := ⟨_, rfl⟩
  rw [← hH] at hP
  have hS : va_S A s.heap H locs := by rw [hH, hlc]; exact hS
  have key : W p l e rm_k_section s m args below meth c H locs 0 0 Q (F0 m 0 ls []) := by
    refine lv_aload_n hx hb d_K_section_0 rfl (lv_at hl 0 rfl) ?_
    refine va_get (D := D) (ci := 1) (v := .int (nI d)) (C := R_K) (T := F_K) (N := 8) hx hb hts iw_K hown hK hP 0 rfl rfl 0 (by decide) (hts _ tw_42) (fun _ h9 => h9) rfl d_K_section_1 ?_
    refine lv_iconst (v := nI 2) hx hb d_K_section_4 (by decide) ?_
    refine xn_ne (tgt := 11) hx hb (by omega) (by omega) d_K_section_5 (by decide) (fun c5_0 => ?_) (fun c5_0 => ?_)
    · skip
      refine lv_aload_n hx hb d_K_section_11 rfl (lv_at hl 0 rfl) ?_
      refine lv_aload_n hx hb d_K_section_12 rfl (lv_at hl 0 rfl) ?_
      refine va_get (D := D) (ci := 1) (v := .ref fi) (C := R_K) (T := F_K) (N := 8) hx hb hts iw_K hown hK hP 0 rfl rfl 6 (by decide) (hts _ tw_48) (fun _ h9 => h9) rfl d_K_section_13 ?_
      refine lv_iload hx hb d_K_section_16 (lv_at hl 4 rfl) ?_
      refine lv_i2l (v := lI ve.toInt) hx hb d_K_section_18 rfl ?_
      refine lv_iload_n hx hb d_K_section_19 rfl (lv_at hl 1 rfl) ?_
      refine lv_i2l (v := lI va.toInt) hx hb d_K_section_20 rfl ?_
      refine lv_iload_n hx hb d_K_section_21 rfl (lv_at hl 2 rfl) ?_
      refine lv_i2l (v := lI vb.toInt) hx hb d_K_section_22 rfl ?_
      refine lv_iload_n hx hb d_K_section_23 rfl (lv_at hl 3 rfl) ?_
      refine lv_i2l (v := lI vc.toInt) hx hb d_K_section_24 rfl ?_
      refine xcv (wc := [(h, .inr (1, [.int (nI d), .int kb, .ref fo, .ref ke, .ref ht, .ref wo, .ref fi, .ref se])), (fi, LA cJ 4 A1)]) (wr := [(fo, LA cJ 16 Fm), (wo, LA cJ 16 Wk), (ht, .inr (0, [.int r0, .ref hc, .ref hf, .ref hp, .ref ho])), (hc, LA cJ 16 C), (hf, LA cJ 16 F), (hp, LA cJ 16 P), (ho, LA cJ 5 O)]) hP hD hS hA [0, 2] [1, 3, 4, 5, 6, 7, 8] rfl rfl (by decide) (by decide) (va_runV (As := [.ref fi, .long (lI ve.toInt), .long (lI va.toInt), .long (lI vb.toInt), .long (lI vc.toInt)]) (rest := []) ⟨hx, hb, hml, hown, hts⟩ (c_setRow l D cJ h d kb fo ke ht wo fi se fi A1 ve.toInt va.toInt vb.toInt vc.toInt (by first | assumption | omega) H.size) (cwV 5 hts (gV tw_215 tw_217 tws_6 tw_1 tw_218) rfl rfl rfl ⟨rfl, hd_K_setRow⟩ ⟨Nat.le_of_ble_eq_true rfl, Nat.le_of_ble_eq_true rfl⟩) (xPreV (C := R_K) (T := F_K) (N := 8) (q0 := 0) hN hK (hP.sub (ws' := [(h, .inr (1, [.int (nI d), .int kb, .ref fo, .ref ke, .ref ht, .ref wo, .ref fi, .ref se])), (fi, LA cJ 4 A1)]) [0, 2] rfl) (hD.sub (ws' := [(h, .inr (1, [.int (nI d), .int kb, .ref fo, .ref ke, .ref ht, .ref wo, .ref fi, .ref se])), (fi, LA cJ 4 A1)]) [0, 2] (by decide) rfl) rfl rfl) rfl rfl hl.1 rfl (lv_room (Nat.le_of_ble_eq_true rfl)) d_K_section_25 ⟨Nat.le_of_ble_eq_true rfl, Nat.le_of_ble_eq_true rfl⟩) (fun u_3 H locs hrow hP hD hS => ?_)
      obtain ⟨B5, rfl⟩ : ∃ z, z = u_3 := ⟨_, rfl⟩
      try dsimp only at hrow
      have hP : va_P D vwC [(h, .inr (1, [.int (nI d), .int kb, .ref fo, .ref ke, .ref ht, .ref wo, .ref fi, .ref se])), (fo, LA cJ 16 Fm), (fi, LA cJ 4 B5), (wo, LA cJ 16 Wk), (ht, .inr (0, [.int r0, .ref hc, .ref hf, .ref hp, .ref ho])), (hc, LA cJ 16 C), (hf, LA cJ 16 F), (hp, LA cJ 16 P), (ho, LA cJ 5 O)] H := hP.sub [7, 0, 8, 1, 2, 3, 4, 5, 6] rfl
      have hD : va_D A [(h, .inr (1, [.int (nI d), .int kb, .ref fo, .ref ke, .ref ht, .ref wo, .ref fi, .ref se])), (fo, LA cJ 16 Fm), (fi, LA cJ 4 B5), (wo, LA cJ 16 Wk), (ht, .inr (0, [.int r0, .ref hc, .ref hf, .ref hp, .ref ho])), (hc, LA cJ 16 C), (hf, LA cJ 16 F), (hp, LA cJ 16 P), (ho, LA cJ 5 O)] := hD.sub [7, 0, 8, 1, 2, 3, 4, 5, 6] (by decide) rfl
      have hB := ptR_eq hrow
      have hL := row_lB (lB_i ve) (lB_i va) (lB_i vb) (lB_i vc) hrow
      have hbad := rowBad_congr (b := 10) hd3 hB
      refine lv_aload_n hx hb d_K_section_28 rfl (lv_at hl 0 rfl) ?_
      refine va_get (D := D) (ci := 1) (v := .ref fi) (C := R_K) (T := F_K) (N := 8) hx hb hts iw_K hown hK hP 0 rfl rfl 6 (by decide) (hts _ tw_48) (fun _ h9 => h9) rfl d_K_section_29 ?_
      refine lv_bipush (v := nI 10) hx hb d_K_section_32 (by decide) ?_
      refine xci (wc := [(fi, LA cJ 4 B5)]) (wr := [(h, .inr (1, [.int (nI d), .int kb, .ref fo, .ref ke, .ref ht, .ref wo, .ref fi, .ref se])), (fo, LA cJ 16 Fm), (wo, LA cJ 16 Wk), (ht, .inr (0, [.int r0, .ref hc, .ref hf, .ref hp, .ref ho])), (hc, LA cJ 16 C), (hf, LA cJ 16 F), (hp, LA cJ 16 P), (ho, LA cJ 5 O)]) hP hD hS hA [2] [0, 1, 3, 4, 5, 6, 7, 8] rfl rfl (by decide) (by decide) (va_runS (As := [.ref fi, .int (nI 10)]) (rest := []) ⟨hx, hb, hml, hown, hts⟩ (c_rowBeyond l D cJ fi B5 10 hL (by first | assumption | omega) H.size) (cwS 2 hts (gS tw_219 tw_220 tw_1 tw_221) rfl rfl rfl ⟨rfl, hd_K_isRowBeyond⟩ ⟨Nat.le_of_ble_eq_true rfl, Nat.le_of_ble_eq_true rfl⟩) (xPreS hN hK (hP.sub (ws' := [(fi, LA cJ 4 B5)]) [2] rfl) (hD.sub (ws' := [(fi, LA cJ 4 B5)]) [2] (by decide) rfl)) rfl rfl hl.1 rfl (lv_room (Nat.le_of_ble_eq_true rfl)) d_K_section_34 ⟨Nat.le_of_ble_eq_true rfl, Nat.le_of_ble_eq_true rfl⟩) (fun r_4 u_5 H locs hwr hP hD hS => ?_)
      try dsimp only at hwr
      have hP : va_P D vwC [(h, .inr (1, [.int (nI d), .int kb, .ref fo, .ref ke, .ref ht, .ref wo, .ref fi, .ref se])), (fo, LA cJ 16 Fm), (fi, LA cJ 4 B5), (wo, LA cJ 16 Wk), (ht, .inr (0, [.int r0, .ref hc, .ref hf, .ref hp, .ref ho])), (hc, LA cJ 16 C), (hf, LA cJ 16 F), (hp, LA cJ 16 P), (ho, LA cJ 5 O)] H := hP.sub [0, 1, 8, 2, 3, 4, 5, 6, 7] rfl
      have hD : va_D A [(h, .inr (1, [.int (nI d), .int kb, .ref fo, .ref ke, .ref ht, .ref wo, .ref fi, .ref se])), (fo, LA cJ 16 Fm), (fi, LA cJ 4 B5), (wo, LA cJ 16 Wk), (ht, .inr (0, [.int r0, .ref hc, .ref hf, .ref hp, .ref ho])), (hc, LA cJ 16 C), (hf, LA cJ 16 F), (hp, LA cJ 16 P), (ho, LA cJ 5 O)] := hD.sub [0, 1, 8, 2, 3, 4, 5, 6, 7] (by decide) rfl
      rcases hwr with ⟨rfl, hwr⟩ | ⟨rfl, hwr⟩
      · skip
        refine xz_ne (tgt := 55) (X := (1 : Nat)) hx hb (nI_toInt (by omega)) d_K_section_37 (by decide) (fun c37_5 => ?_) (fun c37_5 => absurd c37_5 (by omega))
        refine lv_bipush (v := (-2)) hx hb d_K_section_55 (by decide) ?_
        exact hret H locs _ ls (-2) (B5, Wk, r0, C, F, P, O) d_K_section_57 (by rw [s_sec_t c5_0 (hbad.mp (Or.inl hwr))]) hP hD hS
      · skip
        refine xz_ne (tgt := 55) (X := (0 : Nat)) hx hb (nI_toInt (by omega)) d_K_section_37 (by decide) (fun c37_6 => absurd c37_6 (by omega)) (fun c37_6 => ?_)
        refine lv_aload_n hx hb d_K_section_40 rfl (lv_at hl 0 rfl) ?_
        refine va_get (D := D) (ci := 1) (v := .ref fi) (C := R_K) (T := F_K) (N := 8) hx hb hts iw_K hown hK hP 0 rfl rfl 6 (by decide) (hts _ tw_48) (fun _ h9 => h9) rfl d_K_section_41 ?_
        refine lv_iconst (v := nI 1) hx hb d_K_section_44 (by decide) ?_
        refine lv_aload_n hx hb d_K_section_45 rfl (lv_at hl 0 rfl) ?_
        refine va_get (D := D) (ci := 1) (v := .int (nI d)) (C := R_K) (T := F_K) (N := 8) hx hb hts iw_K hown hK hP 0 rfl rfl 0 (by decide) (hts _ tw_42) (fun _ h9 => h9) rfl d_K_section_46 ?_
        refine xci (wc := [(fi, LA cJ 4 B5)]) (wr := [(h, .inr (1, [.int (nI d), .int kb, .ref fo, .ref ke, .ref ht, .ref wo, .ref fi, .ref se])), (fo, LA cJ 16 Fm), (wo, LA cJ 16 Wk), (ht, .inr (0, [.int r0, .ref hc, .ref hf, .ref hp, .ref ho])), (hc, LA cJ 16 C), (hf, LA cJ 16 F), (hp, LA cJ 16 P), (ho, LA cJ 5 O)]) hP hD hS hA [2] [0, 1, 3, 4, 5, 6, 7, 8] rfl rfl (by decide) (by decide) (va_runS (As := [.ref fi, .int (nI 1), .int (nI d)]) (rest := []) ⟨hx, hb, hml, hown, hts⟩ (c_allZero l D cJ fi B5 1 d hL (by first | assumption | omega) (by first | assumption | omega) H.size) (cwS 3 hts (gS tw_244 tw_245 tw_1 tw_246) rfl rfl rfl ⟨rfl, hd_K_isAllZero⟩ ⟨Nat.le_of_ble_eq_true rfl, Nat.le_of_ble_eq_true rfl⟩) (xPreS hN hK (hP.sub (ws' := [(fi, LA cJ 4 B5)]) [2] rfl) (hD.sub (ws' := [(fi, LA cJ 4 B5)]) [2] (by decide) rfl)) rfl rfl hl.1 rfl (lv_room (Nat.le_of_ble_eq_true rfl)) d_K_section_49 ⟨Nat.le_of_ble_eq_true rfl, Nat.le_of_ble_eq_true rfl⟩) (fun r_8 u_9 H locs hwz hP hD hS => ?_)
        try dsimp only at hwz
        have hP : va_P D vwC [(h, .inr (1, [.int (nI d), .int kb, .ref fo, .ref ke, .ref ht, .ref wo, .ref fi, .ref se])), (fo, LA cJ 16 Fm), (fi, LA cJ 4 B5), (wo, LA cJ 16 Wk), (ht, .inr (0, [.int r0, .ref hc, .ref hf, .ref hp, .ref ho])), (hc, LA cJ 16 C), (hf, LA cJ 16 F), (hp, LA cJ 16 P), (ho, LA cJ 5 O)] H := hP.sub [0, 1, 8, 2, 3, 4, 5, 6, 7] rfl
        have hD : va_D A [(h, .inr (1, [.int (nI d), .int kb, .ref fo, .ref ke, .ref ht, .ref wo, .ref fi, .ref se])), (fo, LA cJ 16 Fm), (fi, LA cJ 4 B5), (wo, LA cJ 16 Wk), (ht, .inr (0, [.int r0, .ref hc, .ref hf, .ref hp, .ref ho])), (hc, LA cJ 16 C), (hf, LA cJ 16 F), (hp, LA cJ 16 P), (ho, LA cJ 5 O)] := hD.sub [0, 1, 8, 2, 3, 4, 5, 6, 7] (by decide) rfl
        rcases hwz with ⟨rfl, hwz⟩ | ⟨rfl, hwz⟩
        · skip
          refine xz_eq (tgt := 58) (X := (1 : Nat)) hx hb (nI_toInt (by omega)) d_K_section_52 (by decide) (fun c52_9 => absurd c52_9 (by omega)) (fun c52_9 => ?_)
          refine lv_bipush (v := (-2)) hx hb d_K_section_55 (by decide) ?_
          exact hret H locs _ ls (-2) (B5, Wk, r0, C, F, P, O) d_K_section_57 (by rw [s_sec_t c5_0 (hbad.mp (Or.inr hwz))]) hP hD hS
        · skip
          refine xz_eq (tgt := 58) (X := (0 : Nat)) hx hb (nI_toInt (by omega)) d_K_section_52 (by decide) (fun c52_10 => ?_) (fun c52_10 => absurd c52_10 (by omega))
          have hBB : ∀ k, k < 4 → inB (B5 k) 10 := Classical.byContradiction hwr
          have hnb : ¬ rowBad (ptR d ve.toInt va.toInt vb.toInt vc.toInt) d 10 := fun q => (hbad.mpr q).elim hwr hwz
          refine lv_aload_n hx hb d_K_section_58 rfl (lv_at hl 0 rfl) ?_
          refine va_get (D := D) (ci := 1) (v := .ref fi) (C := R_K) (T := F_K) (N := 8) hx hb hts iw_K hown hK hP 0 rfl rfl 6 (by decide) (hts _ tw_48) (fun _ h9 => h9) rfl d_K_section_59 ?_
          refine lv_iconst (v := nI 0) hx hb d_K_section_62 (by decide) ?_
          refine lv_aload_n hx hb d_K_section_63 rfl (lv_at hl 0 rfl) ?_
          refine va_get (D := D) (ci := 1) (v := .ref fi) (C := R_K) (T := F_K) (N := 8) hx hb hts iw_K hown hK hP 0 rfl rfl 6 (by decide) (hts _ tw_48) (fun _ h9 => h9) rfl d_K_section_64 ?_
          refine lv_iconst (v := nI 0) hx hb d_K_section_67 (by decide) ?_
          refine xl_ald hx hb hK hP 2 0 rfl rfl (k := 0) (by omega) (by first | decide | omega) d_K_section_68 ?_
          refine xl_neg hx hb d_K_section_69 ?_
          refine xl_ast hx hb hK hP hD hS 2 0 rfl rfl (k := 0) (by omega) (by first | decide | omega) d_K_section_70 (fun H locs hP hD hS => ?_)
          have hP : va_P D vwC [(h, .inr (1, [.int (nI d), .int kb, .ref fo, .ref ke, .ref ht, .ref wo, .ref fi, .ref se])), (fo, LA cJ 16 Fm), (fi, LA cJ 4 (upZ B5 0 (-(B5 0)))), (wo, LA cJ 16 Wk), (ht, .inr (0, [.int r0, .ref hc, .ref hf, .ref hp, .ref ho])), (hc, LA cJ 16 C), (hf, LA cJ 16 F), (hp, LA cJ 16 P), (ho, LA cJ 5 O)] H := hP
          have hD : va_D A [(h, .inr (1, [.int (nI d), .int kb, .ref fo, .ref ke, .ref ht, .ref wo, .ref fi, .ref se])), (fo, LA cJ 16 Fm), (fi, LA cJ 4 (upZ B5 0 (-(B5 0)))), (wo, LA cJ 16 Wk), (ht, .inr (0, [.int r0, .ref hc, .ref hf, .ref hp, .ref ho])), (hc, LA cJ 16 C), (hf, LA cJ 16 F), (hp, LA cJ 16 P), (ho, LA cJ 5 O)] := hD
          refine lv_aload_n hx hb d_K_section_71 rfl (lv_at hl 0 rfl) ?_
          refine lv_aload_n hx hb d_K_section_72 rfl (lv_at hl 0 rfl) ?_
          refine va_get (D := D) (ci := 1) (v := .ref wo) (C := R_K) (T := F_K) (N := 8) hx hb hts iw_K hown hK hP 0 rfl rfl 5 (by decide) (hts _ tw_47) (fun _ h9 => h9) rfl d_K_section_73 ?_
          refine lv_iload_n hx hb d_K_section_76 rfl (lv_at hl 3 rfl) ?_
          refine xz_eq (tgt := 84) (X := vc.toInt) hx hb rfl d_K_section_77 (by decide) (fun c77_11 => ?_) (fun c77_11 => ?_)
          · skip
            refine lv_iload_n hx hb d_K_section_84 rfl (lv_at hl 2 rfl) ?_
            refine xz_eq (tgt := 92) (X := vb.toInt) hx hb rfl d_K_section_85 (by decide) (fun c85_12 => ?_) (fun c85_12 => ?_)
            · skip
              refine lv_iconst (v := nI 1) hx hb d_K_section_92 (by decide) ?_
              have hpv : pvN vb.toInt vc.toInt = 1 := (if_neg (by omega)).trans (if_neg (by omega))
              refine xcv (wc := [(h, .inr (1, [.int (nI d), .int kb, .ref fo, .ref ke, .ref ht, .ref wo, .ref fi, .ref se])), (fo, LA cJ 16 Fm), (fi, LA cJ 4 (upZ B5 0 (-(B5 0)))), (wo, LA cJ 16 Wk)]) (wr := [(ht, .inr (0, [.int r0, .ref hc, .ref hf, .ref hp, .ref ho])), (hc, LA cJ 16 C), (hf, LA cJ 16 F), (hp, LA cJ 16 P), (ho, LA cJ 5 O)]) hP hD hS hA [0, 1, 2, 3] [4, 5, 6, 7, 8] rfl rfl (by decide) (by decide) (va_runV (As := [.ref wo, .int (nI 1)]) (rest := []) ⟨hx, hb, hml, hown, hts⟩ (c_cutInto l D cJ h d kb fo ke ht wo fi se Fm (upZ B5 0 (-(B5 0))) Wk 1 (by first | assumption | omega) H.size) (cwV 2 hts (gV tw_251 tw_253 tws_9 tw_1 tw_254) rfl rfl rfl ⟨rfl, hd_K_cutInto⟩ ⟨Nat.le_of_ble_eq_true rfl, Nat.le_of_ble_eq_true rfl⟩) (xPreV (C := R_K) (T := F_K) (N := 8) (q0 := 0) hN hK (hP.sub (ws' := [(h, .inr (1, [.int (nI d), .int kb, .ref fo, .ref ke, .ref ht, .ref wo, .ref fi, .ref se])), (fo, LA cJ 16 Fm), (fi, LA cJ 4 (upZ B5 0 (-(B5 0)))), (wo, LA cJ 16 Wk)]) [0, 1, 2, 3] rfl) (hD.sub (ws' := [(h, .inr (1, [.int (nI d), .int kb, .ref fo, .ref ke, .ref ht, .ref wo, .ref fi, .ref se])), (fo, LA cJ 16 Fm), (fi, LA cJ 4 (upZ B5 0 (-(B5 0)))), (wo, LA cJ 16 Wk)]) [0, 1, 2, 3] (by decide) rfl) rfl rfl) rfl rfl hl.1 rfl (lv_room (Nat.le_of_ble_eq_true rfl)) d_K_section_93 ⟨Nat.le_of_ble_eq_true rfl, Nat.le_of_ble_eq_true rfl⟩) (fun u_15 H locs hcut hP hD hS => ?_)
              obtain ⟨W5, rfl⟩ : ∃ z, z = u_15 := ⟨_, rfl⟩
              try dsimp only at hcut
              have hP : va_P D vwC [(h, .inr (1, [.int (nI d), .int kb, .ref fo, .ref ke, .ref ht, .ref wo, .ref fi, .ref se])), (fo, LA cJ 16 Fm), (fi, LA cJ 4 (upZ B5 0 (-(B5 0)))), (wo, LA cJ 16 W5), (ht, .inr (0, [.int r0, .ref hc, .ref hf, .ref hp, .ref ho])), (hc, LA cJ 16 C), (hf, LA cJ 16 F), (hp, LA cJ 16 P), (ho, LA cJ 5 O)] H := hP.sub [5, 6, 7, 8, 0, 1, 2, 3, 4] rfl
              have hD : va_D A [(h, .inr (1, [.int (nI d), .int kb, .ref fo, .ref ke, .ref ht, .ref wo, .ref fi, .ref se])), (fo, LA cJ 16 Fm), (fi, LA cJ 4 (upZ B5 0 (-(B5 0)))), (wo, LA cJ 16 W5), (ht, .inr (0, [.int r0, .ref hc, .ref hf, .ref hp, .ref ho])), (hc, LA cJ 16 C), (hf, LA cJ 16 F), (hp, LA cJ 16 P), (ho, LA cJ 5 O)] := hD.sub [5, 6, 7, 8, 0, 1, 2, 3, 4] (by decide) rfl
              refine lv_aload_n hx hb d_K_section_96 rfl (lv_at hl 0 rfl) ?_
              refine lv_aload_n hx hb d_K_section_97 rfl (lv_at hl 0 rfl) ?_
              refine va_get (D := D) (ci := 1) (v := .ref wo) (C := R_K) (T := F_K) (N := 8) hx hb hts iw_K hown hK hP 0 rfl rfl 5 (by decide) (hts _ tw_47) (fun _ h9 => h9) rfl d_K_section_98 ?_
              refine lv_iconst (v := nI 2) hx hb d_K_section_101 (by decide) ?_
              refine xci (wc := [(h, .inr (1, [.int (nI d), .int kb, .ref fo, .ref ke, .ref ht, .ref wo, .ref fi, .ref se])), (wo, LA cJ 16 W5), (ht, .inr (0, [.int r0, .ref hc, .ref hf, .ref hp, .ref ho])), (hc, LA cJ 16 C), (hf, LA cJ 16 F), (hp, LA cJ 16 P), (ho, LA cJ 5 O)]) (wr := [(fo, LA cJ 16 Fm), (fi, LA cJ 4 (upZ B5 0 (-(B5 0))))]) hP hD hS hA [0, 3, 4, 5, 6, 7, 8] [1, 2] rfl rfl (by decide) (by decide) (va_runV (As := [.ref wo, .int (nI 2)]) (rest := []) ⟨hx, hb, hml, hown, hts⟩ (c_kindOf l D cJ h d kb fo ke ht wo fi se hc hf hp ho r0 C F P O wo W5 2 (by first | assumption | omega) (by first | assumption | omega) (cutW_B (by decide) (by decide) hF (upZ_B hBB) hcut) (cutW_B (by decide) (by decide) hF (upZ_B hBB) hcut) H.size) (cwV 2 hts (gV tw_93 tw_95 tws_1 tw_1 tw_96) rfl rfl rfl ⟨rfl, hd_K_kindOf⟩ ⟨Nat.le_of_ble_eq_true rfl, Nat.le_of_ble_eq_true rfl⟩) (xPreV (C := R_K) (T := F_K) (N := 8) (q0 := 0) hN hK (hP.sub (ws' := [(h, .inr (1, [.int (nI d), .int kb, .ref fo, .ref ke, .ref ht, .ref wo, .ref fi, .ref se])), (wo, LA cJ 16 W5), (ht, .inr (0, [.int r0, .ref hc, .ref hf, .ref hp, .ref ho])), (hc, LA cJ 16 C), (hf, LA cJ 16 F), (hp, LA cJ 16 P), (ho, LA cJ 5 O)]) [0, 3, 4, 5, 6, 7, 8] rfl) (hD.sub (ws' := [(h, .inr (1, [.int (nI d), .int kb, .ref fo, .ref ke, .ref ht, .ref wo, .ref fi, .ref se])), (wo, LA cJ 16 W5), (ht, .inr (0, [.int r0, .ref hc, .ref hf, .ref hp, .ref ho])), (hc, LA cJ 16 C), (hf, LA cJ 16 F), (hp, LA cJ 16 P), (ho, LA cJ 5 O)]) [0, 3, 4, 5, 6, 7, 8] (by decide) rfl) rfl rfl) rfl rfl hl.1 rfl (lv_room (Nat.le_of_ble_eq_true rfl)) d_K_section_102 ⟨Nat.le_of_ble_eq_true rfl, Nat.le_of_ble_eq_true rfl⟩) (fun r_16 u_17 H locs hw_18 hP hD hS => ?_)
              obtain ⟨r2_19, C2_20, F2_21, P2_22, O2_23⟩ := u_17
              try dsimp only at hw_18
              have hP : va_P D vwC [(h, .inr (1, [.int (nI d), .int kb, .ref fo, .ref ke, .ref ht, .ref wo, .ref fi, .ref se])), (fo, LA cJ 16 Fm), (fi, LA cJ 4 (upZ B5 0 (-(B5 0)))), (wo, LA cJ 16 W5), (ht, .inr (0, [.int r2_19, .ref hc, .ref hf, .ref hp, .ref ho])), (hc, LA cJ 16 C2_20), (hf, LA cJ 16 F2_21), (hp, LA cJ 16 P2_22), (ho, LA cJ 5 O2_23)] H := hP.sub [2, 0, 1, 3, 4, 5, 6, 7, 8] rfl
              have hD : va_D A [(h, .inr (1, [.int (nI d), .int kb, .ref fo, .ref ke, .ref ht, .ref wo, .ref fi, .ref se])), (fo, LA cJ 16 Fm), (fi, LA cJ 4 (upZ B5 0 (-(B5 0)))), (wo, LA cJ 16 W5), (ht, .inr (0, [.int r2_19, .ref hc, .ref hf, .ref hp, .ref ho])), (hc, LA cJ 16 C2_20), (hf, LA cJ 16 F2_21), (hp, LA cJ 16 P2_22), (ho, LA cJ 5 O2_23)] := hD.sub [2, 0, 1, 3, 4, 5, 6, 7, 8] (by decide) rfl
              obtain ⟨rfl, hw_18⟩ := hw_18
              exact hret H locs _ ls (nI (kindN W5 2)) ((upZ B5 0 (-(B5 0))), W5, r2_19, C2_20, F2_21, P2_22, O2_23) d_K_section_105 (by rw [s_sec_f c5_0 hnb, hpv, kindN_congr (by decide) (by decide) (cutT_W (by decide) hcut (neg0 hB))]) hP hD hS
            · skip
              refine lv_iconst (v := nI 2) hx hb d_K_section_88 (by decide) ?_
              refine lv_goto (tgt := 93) hx hb d_K_section_89 (by decide) ?_
              have hpv : pvN vb.toInt vc.toInt = 2 := (if_neg (by omega)).trans (if_pos (by omega))
              refine xcv (wc := [(h, .inr (1, [.int (nI d), .int kb, .ref fo, .ref ke, .ref ht, .ref wo, .ref fi, .ref se])), (fo, LA cJ 16 Fm), (fi, LA cJ 4 (upZ B5 0 (-(B5 0)))), (wo, LA cJ 16 Wk)]) (wr := [(ht, .inr (0, [.int r0, .ref hc, .ref hf, .ref hp, .ref ho])), (hc, LA cJ 16 C), (hf, LA cJ 16 F), (hp, LA cJ 16 P), (ho, LA cJ 5 O)]) hP hD hS hA [0, 1, 2, 3] [4, 5, 6, 7, 8] rfl rfl (by decide) (by decide) (va_runV (As := [.ref wo, .int (nI 2)]) (rest := []) ⟨hx, hb, hml, hown, hts⟩ (c_cutInto l D cJ h d kb fo ke ht wo fi se Fm (upZ B5 0 (-(B5 0))) Wk 2 (by first | assumption | omega) H.size) (cwV 2 hts (gV tw_251 tw_253 tws_9 tw_1 tw_254) rfl rfl rfl ⟨rfl, hd_K_cutInto⟩ ⟨Nat.le_of_ble_eq_true rfl, Nat.le_of_ble_eq_true rfl⟩) (xPreV (C := R_K) (T := F_K) (N := 8) (q0 := 0) hN hK (hP.sub (ws' := [(h, .inr (1, [.int (nI d), .int kb, .ref fo, .ref ke, .ref ht, .ref wo, .ref fi, .ref se])), (fo, LA cJ 16 Fm), (fi, LA cJ 4 (upZ B5 0 (-(B5 0)))), (wo, LA cJ 16 Wk)]) [0, 1, 2, 3] rfl) (hD.sub (ws' := [(h, .inr (1, [.int (nI d), .int kb, .ref fo, .ref ke, .ref ht, .ref wo, .ref fi, .ref se])), (fo, LA cJ 16 Fm), (fi, LA cJ 4 (upZ B5 0 (-(B5 0)))), (wo, LA cJ 16 Wk)]) [0, 1, 2, 3] (by decide) rfl) rfl rfl) rfl rfl hl.1 rfl (lv_room (Nat.le_of_ble_eq_true rfl)) d_K_section_93 ⟨Nat.le_of_ble_eq_true rfl, Nat.le_of_ble_eq_true rfl⟩) (fun u_25 H locs hcut hP hD hS => ?_)
              obtain ⟨W5, rfl⟩ : ∃ z, z = u_25 := ⟨_, rfl⟩
              try dsimp only at hcut
              have hP : va_P D vwC [(h, .inr (1, [.int (nI d), .int kb, .ref fo, .ref ke, .ref ht, .ref wo, .ref fi, .ref se])), (fo, LA cJ 16 Fm), (fi, LA cJ 4 (upZ B5 0 (-(B5 0)))), (wo, LA cJ 16 W5), (ht, .inr (0, [.int r0, .ref hc, .ref hf, .ref hp, .ref ho])), (hc, LA cJ 16 C), (hf, LA cJ 16 F), (hp, LA cJ 16 P), (ho, LA cJ 5 O)] H := hP.sub [5, 6, 7, 8, 0, 1, 2, 3, 4] rfl
              have hD : va_D A [(h, .inr (1, [.int (nI d), .int kb, .ref fo, .ref ke, .ref ht, .ref wo, .ref fi, .ref se])), (fo, LA cJ 16 Fm), (fi, LA cJ 4 (upZ B5 0 (-(B5 0)))), (wo, LA cJ 16 W5), (ht, .inr (0, [.int r0, .ref hc, .ref hf, .ref hp, .ref ho])), (hc, LA cJ 16 C), (hf, LA cJ 16 F), (hp, LA cJ 16 P), (ho, LA cJ 5 O)] := hD.sub [5, 6, 7, 8, 0, 1, 2, 3, 4] (by decide) rfl
              refine lv_aload_n hx hb d_K_section_96 rfl (lv_at hl 0 rfl) ?_
              refine lv_aload_n hx hb d_K_section_97 rfl (lv_at hl 0 rfl) ?_
              refine va_get (D := D) (ci := 1) (v := .ref wo) (C := R_K) (T := F_K) (N := 8) hx hb hts iw_K hown hK hP 0 rfl rfl 5 (by decide) (hts _ tw_47) (fun _ h9 => h9) rfl d_K_section_98 ?_
              refine lv_iconst (v := nI 2) hx hb d_K_section_101 (by decide) ?_
              refine xci (wc := [(h, .inr (1, [.int (nI d), .int kb, .ref fo, .ref ke, .ref ht, .ref wo, .ref fi, .ref se])), (wo, LA cJ 16 W5), (ht, .inr (0, [.int r0, .ref hc, .ref hf, .ref hp, .ref ho])), (hc, LA cJ 16 C), (hf, LA cJ 16 F), (hp, LA cJ 16 P), (ho, LA cJ 5 O)]) (wr := [(fo, LA cJ 16 Fm), (fi, LA cJ 4 (upZ B5 0 (-(B5 0))))]) hP hD hS hA [0, 3, 4, 5, 6, 7, 8] [1, 2] rfl rfl (by decide) (by decide) (va_runV (As := [.ref wo, .int (nI 2)]) (rest := []) ⟨hx, hb, hml, hown, hts⟩ (c_kindOf l D cJ h d kb fo ke ht wo fi se hc hf hp ho r0 C F P O wo W5 2 (by first | assumption | omega) (by first | assumption | omega) (cutW_B (by decide) (by decide) hF (upZ_B hBB) hcut) (cutW_B (by decide) (by decide) hF (upZ_B hBB) hcut) H.size) (cwV 2 hts (gV tw_93 tw_95 tws_1 tw_1 tw_96) rfl rfl rfl ⟨rfl, hd_K_kindOf⟩ ⟨Nat.le_of_ble_eq_true rfl, Nat.le_of_ble_eq_true rfl⟩) (xPreV (C := R_K) (T := F_K) (N := 8) (q0 := 0) hN hK (hP.sub (ws' := [(h, .inr (1, [.int (nI d), .int kb, .ref fo, .ref ke, .ref ht, .ref wo, .ref fi, .ref se])), (wo, LA cJ 16 W5), (ht, .inr (0, [.int r0, .ref hc, .ref hf, .ref hp, .ref ho])), (hc, LA cJ 16 C), (hf, LA cJ 16 F), (hp, LA cJ 16 P), (ho, LA cJ 5 O)]) [0, 3, 4, 5, 6, 7, 8] rfl) (hD.sub (ws' := [(h, .inr (1, [.int (nI d), .int kb, .ref fo, .ref ke, .ref ht, .ref wo, .ref fi, .ref se])), (wo, LA cJ 16 W5), (ht, .inr (0, [.int r0, .ref hc, .ref hf, .ref hp, .ref ho])), (hc, LA cJ 16 C), (hf, LA cJ 16 F), (hp, LA cJ 16 P), (ho, LA cJ 5 O)]) [0, 3, 4, 5, 6, 7, 8] (by decide) rfl) rfl rfl) rfl rfl hl.1 rfl (lv_room (Nat.le_of_ble_eq_true rfl)) d_K_section_102 ⟨Nat.le_of_ble_eq_true rfl, Nat.le_of_ble_eq_true rfl⟩) (fun r_26 u_27 H locs hw_28 hP hD hS => ?_)
              obtain ⟨r2_29, C2_30, F2_31, P2_32, O2_33⟩ := u_27
              try dsimp only at hw_28
              have hP : va_P D vwC [(h, .inr (1, [.int (nI d), .int kb, .ref fo, .ref ke, .ref ht, .ref wo, .ref fi, .ref se])), (fo, LA cJ 16 Fm), (fi, LA cJ 4 (upZ B5 0 (-(B5 0)))), (wo, LA cJ 16 W5), (ht, .inr (0, [.int r2_29, .ref hc, .ref hf, .ref hp, .ref ho])), (hc, LA cJ 16 C2_30), (hf, LA cJ 16 F2_31), (hp, LA cJ 16 P2_32), (ho, LA cJ 5 O2_33)] H := hP.sub [2, 0, 1, 3, 4, 5, 6, 7, 8] rfl
              have hD : va_D A [(h, .inr (1, [.int (nI d), .int kb, .ref fo, .ref ke, .ref ht, .ref wo, .ref fi, .ref se])), (fo, LA cJ 16 Fm), (fi, LA cJ 4 (upZ B5 0 (-(B5 0)))), (wo, LA cJ 16 W5), (ht, .inr (0, [.int r2_29, .ref hc, .ref hf, .ref hp, .ref ho])), (hc, LA cJ 16 C2_30), (hf, LA cJ 16 F2_31), (hp, LA cJ 16 P2_32), (ho, LA cJ 5 O2_33)] := hD.sub [2, 0, 1, 3, 4, 5, 6, 7, 8] (by decide) rfl
              obtain ⟨rfl, hw_28⟩ := hw_28
              exact hret H locs _ ls (nI (kindN W5 2)) ((upZ B5 0 (-(B5 0))), W5, r2_29, C2_30, F2_31, P2_32, O2_33) d_K_section_105 (by rw [s_sec_f c5_0 hnb, hpv, kindN_congr (by decide) (by decide) (cutT_W (by decide) hcut (neg0 hB))]) hP hD hS
          · skip
            refine lv_iconst (v := nI 3) hx hb d_K_section_80 (by decide) ?_
            refine lv_goto (tgt := 93) hx hb d_K_section_81 (by decide) ?_
            have hpv : pvN vb.toInt vc.toInt = 3 := if_pos (by omega)
            refine xcv (wc := [(h, .inr (1, [.int (nI d), .int kb, .ref fo, .ref ke, .ref ht, .ref wo, .ref fi, .ref se])), (fo, LA cJ 16 Fm), (fi, LA cJ 4 (upZ B5 0 (-(B5 0)))), (wo, LA cJ 16 Wk)]) (wr := [(ht, .inr (0, [.int r0, .ref hc, .ref hf, .ref hp, .ref ho])), (hc, LA cJ 16 C), (hf, LA cJ 16 F), (hp, LA cJ 16 P), (ho, LA cJ 5 O)]) hP hD hS hA [0, 1, 2, 3] [4, 5, 6, 7, 8] rfl rfl (by decide) (by decide) (va_runV (As := [.ref wo, .int (nI 3)]) (rest := []) ⟨hx, hb, hml, hown, hts⟩ (c_cutInto l D cJ h d kb fo ke ht wo fi se Fm (upZ B5 0 (-(B5 0))) Wk 3 (by first | assumption | omega) H.size) (cwV 2 hts (gV tw_251 tw_253 tws_9 tw_1 tw_254) rfl rfl rfl ⟨rfl, hd_K_cutInto⟩ ⟨Nat.le_of_ble_eq_true rfl, Nat.le_of_ble_eq_true rfl⟩) (xPreV (C := R_K) (T := F_K) (N := 8) (q0 := 0) hN hK (hP.sub (ws' := [(h, .inr (1, [.int (nI d), .int kb, .ref fo, .ref ke, .ref ht, .ref wo, .ref fi, .ref se])), (fo, LA cJ 16 Fm), (fi, LA cJ 4 (upZ B5 0 (-(B5 0)))), (wo, LA cJ 16 Wk)]) [0, 1, 2, 3] rfl) (hD.sub (ws' := [(h, .inr (1, [.int (nI d), .int kb, .ref fo, .ref ke, .ref ht, .ref wo, .ref fi, .ref se])), (fo, LA cJ 16 Fm), (fi, LA cJ 4 (upZ B5 0 (-(B5 0)))), (wo, LA cJ 16 Wk)]) [0, 1, 2, 3] (by decide) rfl) rfl rfl) rfl rfl hl.1 rfl (lv_room (Nat.le_of_ble_eq_true rfl)) d_K_section_93 ⟨Nat.le_of_ble_eq_true rfl, Nat.le_of_ble_eq_true rfl⟩) (fun u_35 H locs hcut hP hD hS => ?_)
            obtain ⟨W5, rfl⟩ : ∃ z, z = u_35 := ⟨_, rfl⟩
            try dsimp only at hcut
            have hP : va_P D vwC [(h, .inr (1, [.int (nI d), .int kb, .ref fo, .ref ke, .ref ht, .ref wo, .ref fi, .ref se])), (fo, LA cJ 16 Fm), (fi, LA cJ 4 (upZ B5 0 (-(B5 0)))), (wo, LA cJ 16 W5), (ht, .inr (0, [.int r0, .ref hc, .ref hf, .ref hp, .ref ho])), (hc, LA cJ 16 C), (hf, LA cJ 16 F), (hp, LA cJ 16 P), (ho, LA cJ 5 O)] H := hP.sub [5, 6, 7, 8, 0, 1, 2, 3, 4] rfl
            have hD : va_D A [(h, .inr (1, [.int (nI d), .int kb, .ref fo, .ref ke, .ref ht, .ref wo, .ref fi, .ref se])), (fo, LA cJ 16 Fm), (fi, LA cJ 4 (upZ B5 0 (-(B5 0)))), (wo, LA cJ 16 W5), (ht, .inr (0, [.int r0, .ref hc, .ref hf, .ref hp, .ref ho])), (hc, LA cJ 16 C), (hf, LA cJ 16 F), (hp, LA cJ 16 P), (ho, LA cJ 5 O)] := hD.sub [5, 6, 7, 8, 0, 1, 2, 3, 4] (by decide) rfl
            refine lv_aload_n hx hb d_K_section_96 rfl (lv_at hl 0 rfl) ?_
            refine lv_aload_n hx hb d_K_section_97 rfl (lv_at hl 0 rfl) ?_
            refine va_get (D := D) (ci := 1) (v := .ref wo) (C := R_K) (T := F_K) (N := 8) hx hb hts iw_K hown hK hP 0 rfl rfl 5 (by decide) (hts _ tw_47) (fun _ h9 => h9) rfl d_K_section_98 ?_
            refine lv_iconst (v := nI 2) hx hb d_K_section_101 (by decide) ?_
            refine xci (wc := [(h, .inr (1, [.int (nI d), .int kb, .ref fo, .ref ke, .ref ht, .ref wo, .ref fi, .ref se])), (wo, LA cJ 16 W5), (ht, .inr (0, [.int r0, .ref hc, .ref hf, .ref hp, .ref ho])), (hc, LA cJ 16 C), (hf, LA cJ 16 F), (hp, LA cJ 16 P), (ho, LA cJ 5 O)]) (wr := [(fo, LA cJ 16 Fm), (fi, LA cJ 4 (upZ B5 0 (-(B5 0))))]) hP hD hS hA [0, 3, 4, 5, 6, 7, 8] [1, 2] rfl rfl (by decide) (by decide) (va_runV (As := [.ref wo, .int (nI 2)]) (rest := []) ⟨hx, hb, hml, hown, hts⟩ (c_kindOf l D cJ h d kb fo ke ht wo fi se hc hf hp ho r0 C F P O wo W5 2 (by first | assumption | omega) (by first | assumption | omega) (cutW_B (by decide) (by decide) hF (upZ_B hBB) hcut) (cutW_B (by decide) (by decide) hF (upZ_B hBB) hcut) H.size) (cwV 2 hts (gV tw_93 tw_95 tws_1 tw_1 tw_96) rfl rfl rfl ⟨rfl, hd_K_kindOf⟩ ⟨Nat.le_of_ble_eq_true rfl, Nat.le_of_ble_eq_true rfl⟩) (xPreV (C := R_K) (T := F_K) (N := 8) (q0 := 0) hN hK (hP.sub (ws' := [(h, .inr (1, [.int (nI d), .int kb, .ref fo, .ref ke, .ref ht, .ref wo, .ref fi, .ref se])), (wo, LA cJ 16 W5), (ht, .inr (0, [.int r0, .ref hc, .ref hf, .ref hp, .ref ho])), (hc, LA cJ 16 C), (hf, LA cJ 16 F), (hp, LA cJ 16 P), (ho, LA cJ 5 O)]) [0, 3, 4, 5, 6, 7, 8] rfl) (hD.sub (ws' := [(h, .inr (1, [.int (nI d), .int kb, .ref fo, .ref ke, .ref ht, .ref wo, .ref fi, .ref se])), (wo, LA cJ 16 W5), (ht, .inr (0, [.int r0, .ref hc, .ref hf, .ref hp, .ref ho])), (hc, LA cJ 16 C), (hf, LA cJ 16 F), (hp, LA cJ 16 P), (ho, LA cJ 5 O)]) [0, 3, 4, 5, 6, 7, 8] (by decide) rfl) rfl rfl) rfl rfl hl.1 rfl (lv_room (Nat.le_of_ble_eq_true rfl)) d_K_section_102 ⟨Nat.le_of_ble_eq_true rfl, Nat.le_of_ble_eq_true rfl⟩) (fun r_36 u_37 H locs hw_38 hP hD hS => ?_)
            obtain ⟨r2_39, C2_40, F2_41, P2_42, O2_43⟩ := u_37
            try dsimp only at hw_38
            have hP : va_P D vwC [(h, .inr (1, [.int (nI d), .int kb, .ref fo, .ref ke, .ref ht, .ref wo, .ref fi, .ref se])), (fo, LA cJ 16 Fm), (fi, LA cJ 4 (upZ B5 0 (-(B5 0)))), (wo, LA cJ 16 W5), (ht, .inr (0, [.int r2_39, .ref hc, .ref hf, .ref hp, .ref ho])), (hc, LA cJ 16 C2_40), (hf, LA cJ 16 F2_41), (hp, LA cJ 16 P2_42), (ho, LA cJ 5 O2_43)] H := hP.sub [2, 0, 1, 3, 4, 5, 6, 7, 8] rfl
            have hD : va_D A [(h, .inr (1, [.int (nI d), .int kb, .ref fo, .ref ke, .ref ht, .ref wo, .ref fi, .ref se])), (fo, LA cJ 16 Fm), (fi, LA cJ 4 (upZ B5 0 (-(B5 0)))), (wo, LA cJ 16 W5), (ht, .inr (0, [.int r2_39, .ref hc, .ref hf, .ref hp, .ref ho])), (hc, LA cJ 16 C2_40), (hf, LA cJ 16 F2_41), (hp, LA cJ 16 P2_42), (ho, LA cJ 5 O2_43)] := hD.sub [2, 0, 1, 3, 4, 5, 6, 7, 8] (by decide) rfl
            obtain ⟨rfl, hw_38⟩ := hw_38
            exact hret H locs _ ls (nI (kindN W5 2)) ((upZ B5 0 (-(B5 0))), W5, r2_39, C2_40, F2_41, P2_42, O2_43) d_K_section_105 (by rw [s_sec_f c5_0 hnb, hpv, kindN_congr (by decide) (by decide) (cutT_W (by decide) hcut (neg0 hB))]) hP hD hS
    · skip
      refine lv_bipush (v := (-3)) hx hb d_K_section_8 (by decide) ?_
      exact hret H locs _ ls (-3) (A1, Wk, r0, C, F, P, O) d_K_section_10 ((s_sec_2 c5_0).symm) hP hD hS
  rw [hH, hlc] at key; exact key

def rm_k_meets : Room := { frames := 3, cells := 0, slots := 0, locals := 71 }
set_option maxHeartbeats 4000000 in
set_option maxRecDepth 100000 in
/-- meets -/
theorem k_meets (l : Launch) (D : va_G) (cJ : ClassId) (h : Nat) (d : Nat) (kb : Int32) (fo : Nat) (ke : Nat) (ht : Nat) (wo : Nat) (fi : Nat) (se : Nat) (Fm : Nat → Int) (A1 : Nat → Int) (A2 : Nat → Int) (vx : Int32) (vy : Int32) (vz : Int32) (vu : Int32) (vv : Int32) (vw : Int32) (hd2 : 2 ≤ d) (hd3 : d ≤ 3) (hF : ∀ k, k < 16 → inB (Fm k) 20) (sz : Nat) : xMi l y_K_meets (Cond.code y_K_meets b_K_meets 13 (some .int) :: tW) rm_k_meets [.ref h, .int vx, .int vy, .int vz, .int vu, .int vv, .int vw] D vwC [(cJ, .long)] sz [(h, .inr (1, [.int (nI d), .int kb, .ref fo, .ref ke, .ref ht, .ref wo, .ref fi, .ref se])), (fo, LA cJ 16 Fm), (fi, LA cJ 4 A1), (se, LA cJ 4 A2)] (fun (rv : Int32) (uo : (Nat → Int) × (Nat → Int)) => rv = s_meets Fm d (ptR d 1 vx.toInt vy.toInt vz.toInt) (ptR d 0 vu.toInt vv.toInt vw.toInt)) (fun (uo : (Nat → Int) × (Nat → Int)) => [(h, .inr (1, [.int (nI d), .int kb, .ref fo, .ref ke, .ref ht, .ref wo, .ref fi, .ref se])), (fo, LA cJ 16 Fm), (fi, LA cJ 4 uo.1), (se, LA cJ 4 uo.2)]) 0 0 := by
  refine xoi (cc := b_K_meets) (maxL := 13) (by decide) rfl (Nat.le_of_ble_eq_true rfl) ?_
  intro p e s m args below meth c Q A hx hb hml hts hown hN hA hS hP hK hD hret ls hl
  have hl : lv_has ls 13 [(0, .ref h), (1, .int vx), (2, .int vy), (3, .int vz), (4, .int vu), (5, .int vv), (6, .int vw)] := hl
  obtain ⟨H, hH⟩ : ∃ z, z = s.heap := ⟨_, rfl⟩
  obtain ⟨locs, hlc⟩ : ∃ z : List Loc, z = [] := ⟨_, rfl⟩
  rw [← hH] at hP
  have hS : va_S A s.heap H locs := by rw [hH, hlc]; exact hS
  have key : W p l e rm_k_meets s m args below meth c H locs 0 0 Q (F0 m 0 ls []) := by
    refine lv_aload_n hx hb d_K_meets_0 rfl (lv_at hl 0 rfl) ?_
    refine lv_aload_n hx hb d_K_meets_1 rfl (lv_at hl 0 rfl) ?_
    refine va_get (D := D) (ci := 1) (v := .ref fi) (C := R_K) (T := F_K) (N := 8) hx hb hts iw_K hown hK hP 0 rfl rfl 6 (by decide) (hts _ tw_48) (fun _ h9 => h9) rfl d_K_meets_2 ?_
    refine lv_lconst (v := lI 1) hx hb d_K_meets_5 (by decide) ?_
    refine lv_iload_n hx hb d_K_meets_6 rfl (lv_at hl 1 rfl) ?_
    refine lv_i2l (v := lI vx.toInt) hx hb d_K_meets_7 rfl ?_
    refine lv_iload_n hx hb d_K_meets_8 rfl (lv_at hl 2 rfl) ?_
    refine lv_i2l (v := lI vy.toInt) hx hb d_K_meets_9 rfl ?_
    refine lv_iload_n hx hb d_K_meets_10 rfl (lv_at hl 3 rfl) ?_
    refine lv_i2l (v := lI vz.toInt) hx hb d_K_meets_11 rfl ?_
    refine xcv (wc := [(h, .inr (1, [.int (nI d), .int kb, .ref fo, .ref ke, .ref ht, .ref wo, .ref fi, .ref se])), (fi, LA cJ 4 A1)]) (wr := [(fo, LA cJ 16 Fm), (se, LA cJ 4 A2)]) hP hD hS hA [0, 2] [1, 3] rfl rfl (by decide) (by decide) (va_runV (As := [.ref fi, .long (lI 1), .long (lI vx.toInt), .long (lI vy.toInt), .long (lI vz.toInt)]) (rest := []) ⟨hx, hb, hml, hown, hts⟩ (c_setRow l D cJ h d kb fo ke ht wo fi se fi A1 1 vx.toInt vy.toInt vz.toInt (by first | assumption | omega) H.size) (cwV 5 hts (gV tw_215 tw_217 tws_6 tw_1 tw_218) rfl rfl rfl ⟨rfl, hd_K_setRow⟩ ⟨Nat.le_of_ble_eq_true rfl, Nat.le_of_ble_eq_true rfl⟩) (xPreV (C := R_K) (T := F_K) (N := 8) (q0 := 0) hN hK (hP.sub (ws' := [(h, .inr (1, [.int (nI d), .int kb, .ref fo, .ref ke, .ref ht, .ref wo, .ref fi, .ref se])), (fi, LA cJ 4 A1)]) [0, 2] rfl) (hD.sub (ws' := [(h, .inr (1, [.int (nI d), .int kb, .ref fo, .ref ke, .ref ht, .ref wo, .ref fi, .ref se])), (fi, LA cJ 4 A1)]) [0, 2] (by decide) rfl) rfl rfl) rfl rfl hl.1 rfl (lv_room (Nat.le_of_ble_eq_true rfl)) d_K_meets_12 ⟨Nat.le_of_ble_eq_true rfl, Nat.le_of_ble_eq_true rfl⟩) (fun u_2 H locs hrow1 hP hD hS => ?_)
    obtain ⟨B5, rfl⟩ : ∃ z, z = u_2 := ⟨_, rfl⟩
    try dsimp only at hrow1
    have hP : va_P D vwC [(h, .inr (1, [.int (nI d), .int kb, .ref fo, .ref ke, .ref ht, .ref wo, .ref fi, .ref se])), (fo, LA cJ 16 Fm), (fi, LA cJ 4 B5), (se, LA cJ 4 A2)] H := hP.sub [2, 0, 3, 1] rfl
    have hD : va_D A [(h, .inr (1, [.int (nI d), .int kb, .ref fo, .ref ke, .ref ht, .ref wo, .ref fi, .ref se])), (fo, LA cJ 16 Fm), (fi, LA cJ 4 B5), (se, LA cJ 4 A2)] := hD.sub [2, 0, 3, 1] (by decide) rfl
    refine lv_aload_n hx hb d_K_meets_15 rfl (lv_at hl 0 rfl) ?_
    refine lv_aload_n hx hb d_K_meets_16 rfl (lv_at hl 0 rfl) ?_
    refine va_get (D := D) (ci := 1) (v := .ref se) (C := R_K) (T := F_K) (N := 8) hx hb hts iw_K hown hK hP 0 rfl rfl 7 (by decide) (hts _ tw_49) (fun _ h9 => h9) rfl d_K_meets_17 ?_
    refine lv_lconst (v := lI 0) hx hb d_K_meets_20 (by decide) ?_
    refine lv_iload hx hb d_K_meets_21 (lv_at hl 4 rfl) ?_
    refine lv_i2l (v := lI vu.toInt) hx hb d_K_meets_23 rfl ?_
    refine lv_iload hx hb d_K_meets_24 (lv_at hl 5 rfl) ?_
    refine lv_i2l (v := lI vv.toInt) hx hb d_K_meets_26 rfl ?_
    refine lv_iload hx hb d_K_meets_27 (lv_at hl 6 rfl) ?_
    refine lv_i2l (v := lI vw.toInt) hx hb d_K_meets_29 rfl ?_
    refine xcv (wc := [(h, .inr (1, [.int (nI d), .int kb, .ref fo, .ref ke, .ref ht, .ref wo, .ref fi, .ref se])), (se, LA cJ 4 A2)]) (wr := [(fo, LA cJ 16 Fm), (fi, LA cJ 4 B5)]) hP hD hS hA [0, 3] [1, 2] rfl rfl (by decide) (by decide) (va_runV (As := [.ref se, .long (lI 0), .long (lI vu.toInt), .long (lI vv.toInt), .long (lI vw.toInt)]) (rest := []) ⟨hx, hb, hml, hown, hts⟩ (c_setRow l D cJ h d kb fo ke ht wo fi se se A2 0 vu.toInt vv.toInt vw.toInt (by first | assumption | omega) H.size) (cwV 5 hts (gV tw_215 tw_217 tws_6 tw_1 tw_218) rfl rfl rfl ⟨rfl, hd_K_setRow⟩ ⟨Nat.le_of_ble_eq_true rfl, Nat.le_of_ble_eq_true rfl⟩) (xPreV (C := R_K) (T := F_K) (N := 8) (q0 := 0) hN hK (hP.sub (ws' := [(h, .inr (1, [.int (nI d), .int kb, .ref fo, .ref ke, .ref ht, .ref wo, .ref fi, .ref se])), (se, LA cJ 4 A2)]) [0, 3] rfl) (hD.sub (ws' := [(h, .inr (1, [.int (nI d), .int kb, .ref fo, .ref ke, .ref ht, .ref wo, .ref fi, .ref se])), (se, LA cJ 4 A2)]) [0, 3] (by decide) rfl) rfl rfl) rfl rfl hl.1 rfl (lv_room (Nat.le_of_ble_eq_true rfl)) d_K_meets_30 ⟨Nat.le_of_ble_eq_true rfl, Nat.le_of_ble_eq_true rfl⟩) (fun u_4 H locs hrow2 hP hD hS => ?_)
    obtain ⟨E5, rfl⟩ : ∃ z, z = u_4 := ⟨_, rfl⟩
    try dsimp only at hrow2
    have hP : va_P D vwC [(h, .inr (1, [.int (nI d), .int kb, .ref fo, .ref ke, .ref ht, .ref wo, .ref fi, .ref se])), (fo, LA cJ 16 Fm), (fi, LA cJ 4 B5), (se, LA cJ 4 E5)] H := hP.sub [2, 0, 1, 3] rfl
    have hD : va_D A [(h, .inr (1, [.int (nI d), .int kb, .ref fo, .ref ke, .ref ht, .ref wo, .ref fi, .ref se])), (fo, LA cJ 16 Fm), (fi, LA cJ 4 B5), (se, LA cJ 4 E5)] := hD.sub [2, 0, 1, 3] (by decide) rfl
    have hB := ptR_eq hrow1
    have hE := ptR_eq hrow2
    have hL := row_lB (d := d) ⟨by decide, by decide⟩ (lB_i vx) (lB_i vy) (lB_i vz) hrow1
    have hM := row_lB (d := d) lB_0 (lB_i vu) (lB_i vv) (lB_i vw) hrow2
    have hbad := rowBad_congr (b := 20) hd3 hE
    have hall : (∀ k, k < 4 → inB (B5 k) 20) ↔ ∀ k, k < 4 → inB ((ptR d 1 vx.toInt vy.toInt vz.toInt) k) 20 := ⟨fun q k hk => by rw [← hB k hk]; exact q k hk, fun q k hk => by rw [hB k hk]; exact q k hk⟩
    refine lv_aload_n hx hb d_K_meets_33 rfl (lv_at hl 0 rfl) ?_
    refine va_get (D := D) (ci := 1) (v := .ref fi) (C := R_K) (T := F_K) (N := 8) hx hb hts iw_K hown hK hP 0 rfl rfl 6 (by decide) (hts _ tw_48) (fun _ h9 => h9) rfl d_K_meets_34 ?_
    refine lv_bipush (v := nI 20) hx hb d_K_meets_37 (by decide) ?_
    refine xci (wc := [(fi, LA cJ 4 B5)]) (wr := [(h, .inr (1, [.int (nI d), .int kb, .ref fo, .ref ke, .ref ht, .ref wo, .ref fi, .ref se])), (fo, LA cJ 16 Fm), (se, LA cJ 4 E5)]) hP hD hS hA [2] [0, 1, 3] rfl rfl (by decide) (by decide) (va_runS (As := [.ref fi, .int (nI 20)]) (rest := []) ⟨hx, hb, hml, hown, hts⟩ (c_rowBeyond l D cJ fi B5 20 hL (by first | assumption | omega) H.size) (cwS 2 hts (gS tw_219 tw_220 tw_1 tw_221) rfl rfl rfl ⟨rfl, hd_K_isRowBeyond⟩ ⟨Nat.le_of_ble_eq_true rfl, Nat.le_of_ble_eq_true rfl⟩) (xPreS hN hK (hP.sub (ws' := [(fi, LA cJ 4 B5)]) [2] rfl) (hD.sub (ws' := [(fi, LA cJ 4 B5)]) [2] (by decide) rfl)) rfl rfl hl.1 rfl (lv_room (Nat.le_of_ble_eq_true rfl)) d_K_meets_39 ⟨Nat.le_of_ble_eq_true rfl, Nat.le_of_ble_eq_true rfl⟩) (fun r_5 u_6 H locs hwr hP hD hS => ?_)
    try dsimp only at hwr
    have hP : va_P D vwC [(h, .inr (1, [.int (nI d), .int kb, .ref fo, .ref ke, .ref ht, .ref wo, .ref fi, .ref se])), (fo, LA cJ 16 Fm), (fi, LA cJ 4 B5), (se, LA cJ 4 E5)] H := hP.sub [0, 1, 3, 2] rfl
    have hD : va_D A [(h, .inr (1, [.int (nI d), .int kb, .ref fo, .ref ke, .ref ht, .ref wo, .ref fi, .ref se])), (fo, LA cJ 16 Fm), (fi, LA cJ 4 B5), (se, LA cJ 4 E5)] := hD.sub [0, 1, 3, 2] (by decide) rfl
    rcases hwr with ⟨rfl, hwr⟩ | ⟨rfl, hwr⟩
    · skip
      refine xz_ne (tgt := 72) (X := (1 : Nat)) hx hb (nI_toInt (by omega)) d_K_meets_42 (by decide) (fun c42_6 => ?_) (fun c42_6 => absurd c42_6 (by omega))
      refine lv_bipush (v := (-2)) hx hb d_K_meets_72 (by decide) ?_
      exact hret H locs _ ls (-2) (B5, E5) d_K_meets_74 (by rw [s_meets_t (Or.inl (fun z => hwr (hall.mpr z)))]) hP hD hS
    · skip
      refine xz_ne (tgt := 72) (X := (0 : Nat)) hx hb (nI_toInt (by omega)) d_K_meets_42 (by decide) (fun c42_7 => absurd c42_7 (by omega)) (fun c42_7 => ?_)
      refine lv_aload_n hx hb d_K_meets_45 rfl (lv_at hl 0 rfl) ?_
      refine va_get (D := D) (ci := 1) (v := .ref se) (C := R_K) (T := F_K) (N := 8) hx hb hts iw_K hown hK hP 0 rfl rfl 7 (by decide) (hts _ tw_49) (fun _ h9 => h9) rfl d_K_meets_46 ?_
      refine lv_bipush (v := nI 20) hx hb d_K_meets_49 (by decide) ?_
      refine xci (wc := [(se, LA cJ 4 E5)]) (wr := [(h, .inr (1, [.int (nI d), .int kb, .ref fo, .ref ke, .ref ht, .ref wo, .ref fi, .ref se])), (fo, LA cJ 16 Fm), (fi, LA cJ 4 B5)]) hP hD hS hA [3] [0, 1, 2] rfl rfl (by decide) (by decide) (va_runS (As := [.ref se, .int (nI 20)]) (rest := []) ⟨hx, hb, hml, hown, hts⟩ (c_rowBeyond l D cJ se E5 20 hM (by first | assumption | omega) H.size) (cwS 2 hts (gS tw_219 tw_220 tw_1 tw_221) rfl rfl rfl ⟨rfl, hd_K_isRowBeyond⟩ ⟨Nat.le_of_ble_eq_true rfl, Nat.le_of_ble_eq_true rfl⟩) (xPreS hN hK (hP.sub (ws' := [(se, LA cJ 4 E5)]) [3] rfl) (hD.sub (ws' := [(se, LA cJ 4 E5)]) [3] (by decide) rfl)) rfl rfl hl.1 rfl (lv_room (Nat.le_of_ble_eq_true rfl)) d_K_meets_51 ⟨Nat.le_of_ble_eq_true rfl, Nat.le_of_ble_eq_true rfl⟩) (fun r_9 u_10 H locs hws hP hD hS => ?_)
      try dsimp only at hws
      have hP : va_P D vwC [(h, .inr (1, [.int (nI d), .int kb, .ref fo, .ref ke, .ref ht, .ref wo, .ref fi, .ref se])), (fo, LA cJ 16 Fm), (fi, LA cJ 4 B5), (se, LA cJ 4 E5)] H := hP
      have hD : va_D A [(h, .inr (1, [.int (nI d), .int kb, .ref fo, .ref ke, .ref ht, .ref wo, .ref fi, .ref se])), (fo, LA cJ 16 Fm), (fi, LA cJ 4 B5), (se, LA cJ 4 E5)] := hD
      rcases hws with ⟨rfl, hws⟩ | ⟨rfl, hws⟩
      · skip
        refine xz_ne (tgt := 72) (X := (1 : Nat)) hx hb (nI_toInt (by omega)) d_K_meets_54 (by decide) (fun c54_10 => ?_) (fun c54_10 => absurd c54_10 (by omega))
        refine lv_bipush (v := (-2)) hx hb d_K_meets_72 (by decide) ?_
        exact hret H locs _ ls (-2) (B5, E5) d_K_meets_74 (by rw [s_meets_t (Or.inr (hbad.mp (Or.inl hws)))]) hP hD hS
      · skip
        refine xz_ne (tgt := 72) (X := (0 : Nat)) hx hb (nI_toInt (by omega)) d_K_meets_54 (by decide) (fun c54_11 => absurd c54_11 (by omega)) (fun c54_11 => ?_)
        refine lv_aload_n hx hb d_K_meets_57 rfl (lv_at hl 0 rfl) ?_
        refine va_get (D := D) (ci := 1) (v := .ref se) (C := R_K) (T := F_K) (N := 8) hx hb hts iw_K hown hK hP 0 rfl rfl 7 (by decide) (hts _ tw_49) (fun _ h9 => h9) rfl d_K_meets_58 ?_
        refine lv_iconst (v := nI 1) hx hb d_K_meets_61 (by decide) ?_
        refine lv_aload_n hx hb d_K_meets_62 rfl (lv_at hl 0 rfl) ?_
        refine va_get (D := D) (ci := 1) (v := .int (nI d)) (C := R_K) (T := F_K) (N := 8) hx hb hts iw_K hown hK hP 0 rfl rfl 0 (by decide) (hts _ tw_42) (fun _ h9 => h9) rfl d_K_meets_63 ?_
        refine xci (wc := [(se, LA cJ 4 E5)]) (wr := [(h, .inr (1, [.int (nI d), .int kb, .ref fo, .ref ke, .ref ht, .ref wo, .ref fi, .ref se])), (fo, LA cJ 16 Fm), (fi, LA cJ 4 B5)]) hP hD hS hA [3] [0, 1, 2] rfl rfl (by decide) (by decide) (va_runS (As := [.ref se, .int (nI 1), .int (nI d)]) (rest := []) ⟨hx, hb, hml, hown, hts⟩ (c_allZero l D cJ se E5 1 d hM (by first | assumption | omega) (by first | assumption | omega) H.size) (cwS 3 hts (gS tw_244 tw_245 tw_1 tw_246) rfl rfl rfl ⟨rfl, hd_K_isAllZero⟩ ⟨Nat.le_of_ble_eq_true rfl, Nat.le_of_ble_eq_true rfl⟩) (xPreS hN hK (hP.sub (ws' := [(se, LA cJ 4 E5)]) [3] rfl) (hD.sub (ws' := [(se, LA cJ 4 E5)]) [3] (by decide) rfl)) rfl rfl hl.1 rfl (lv_room (Nat.le_of_ble_eq_true rfl)) d_K_meets_66 ⟨Nat.le_of_ble_eq_true rfl, Nat.le_of_ble_eq_true rfl⟩) (fun r_13 u_14 H locs hwz hP hD hS => ?_)
        try dsimp only at hwz
        have hP : va_P D vwC [(h, .inr (1, [.int (nI d), .int kb, .ref fo, .ref ke, .ref ht, .ref wo, .ref fi, .ref se])), (fo, LA cJ 16 Fm), (fi, LA cJ 4 B5), (se, LA cJ 4 E5)] H := hP
        have hD : va_D A [(h, .inr (1, [.int (nI d), .int kb, .ref fo, .ref ke, .ref ht, .ref wo, .ref fi, .ref se])), (fo, LA cJ 16 Fm), (fi, LA cJ 4 B5), (se, LA cJ 4 E5)] := hD
        rcases hwz with ⟨rfl, hwz⟩ | ⟨rfl, hwz⟩
        · skip
          refine xz_eq (tgt := 75) (X := (1 : Nat)) hx hb (nI_toInt (by omega)) d_K_meets_69 (by decide) (fun c69_14 => absurd c69_14 (by omega)) (fun c69_14 => ?_)
          refine lv_bipush (v := (-2)) hx hb d_K_meets_72 (by decide) ?_
          exact hret H locs _ ls (-2) (B5, E5) d_K_meets_74 (by rw [s_meets_t (Or.inr (hbad.mp (Or.inr hwz)))]) hP hD hS
        · skip
          refine xz_eq (tgt := 75) (X := (0 : Nat)) hx hb (nI_toInt (by omega)) d_K_meets_69 (by decide) (fun c69_15 => ?_) (fun c69_15 => absurd c69_15 (by omega))
          have hBB : ∀ k, k < 4 → inB (B5 k) 20 := Classical.byContradiction hwr
          have hEE : ∀ k, k < 4 → inB (E5 k) 20 := Classical.byContradiction hws
          have hnb : ¬ ((¬ ∀ k, k < 4 → inB ((ptR d 1 vx.toInt vy.toInt vz.toInt) k) 20) ∨ rowBad (ptR d 0 vu.toInt vv.toInt vw.toInt) d 20) := fun q => q.elim (fun z => z (hall.mp hBB)) (fun z => (hbad.mpr z).elim hws hwz)
          have hf1 : inB (frmN Fm E5 E5 d (d + 1)) 130000 := leB (frmN_B hd3 hF hEE hEE (n := d + 1) (by omega)) (by rcases (show d = 2 ∨ d = 3 by omega) with rfl | rfl <;> decide)
          have hq1 : frmN Fm E5 E5 d (d + 1) = frmN Fm (ptR d 0 vu.toInt vv.toInt vw.toInt) (ptR d 0 vu.toInt vv.toInt vw.toInt) d (d + 1) := frmN_congr (fun k hk => hE k (by omega)) (Nat.le_refl _) (fun k hk => hE k (by omega))
          have hf2 : inB (frmN Fm B5 E5 d (d + 1)) 130000 := leB (frmN_B hd3 hF hBB hEE (n := d + 1) (by omega)) (by rcases (show d = 2 ∨ d = 3 by omega) with rfl | rfl <;> decide)
          have hq2 : frmN Fm B5 E5 d (d + 1) = frmN Fm (ptR d 1 vx.toInt vy.toInt vz.toInt) (ptR d 0 vu.toInt vv.toInt vw.toInt) d (d + 1) := frmN_congr (fun k hk => hE k (by omega)) (Nat.le_refl _) (fun k hk => hB k (by omega))
          have hf3 : inB (frmN Fm B5 B5 d (d + 1)) 130000 := leB (frmN_B hd3 hF hBB hBB (n := d + 1) (by omega)) (by rcases (show d = 2 ∨ d = 3 by omega) with rfl | rfl <;> decide)
          have hq3 : frmN Fm B5 B5 d (d + 1) = frmN Fm (ptR d 1 vx.toInt vy.toInt vz.toInt) (ptR d 1 vx.toInt vy.toInt vz.toInt) d (d + 1) := frmN_congr (fun k hk => hB k (by omega)) (Nat.le_refl _) (fun k hk => hB k (by omega))
          refine lv_aload_n hx hb d_K_meets_75 rfl (lv_at hl 0 rfl) ?_
          refine lv_aload_n hx hb d_K_meets_76 rfl (lv_at hl 0 rfl) ?_
          refine va_get (D := D) (ci := 1) (v := .ref se) (C := R_K) (T := F_K) (N := 8) hx hb hts iw_K hown hK hP 0 rfl rfl 7 (by decide) (hts _ tw_49) (fun _ h9 => h9) rfl d_K_meets_77 ?_
          refine lv_aload_n hx hb d_K_meets_80 rfl (lv_at hl 0 rfl) ?_
          refine va_get (D := D) (ci := 1) (v := .ref se) (C := R_K) (T := F_K) (N := 8) hx hb hts iw_K hown hK hP 0 rfl rfl 7 (by decide) (hts _ tw_49) (fun _ h9 => h9) rfl d_K_meets_81 ?_
          refine xcl (wc := [(h, .inr (1, [.int (nI d), .int kb, .ref fo, .ref ke, .ref ht, .ref wo, .ref fi, .ref se])), (fo, LA cJ 16 Fm), (se, LA cJ 4 E5)]) (wr := [(fi, LA cJ 4 B5)]) hP hD hS hA [0, 1, 3] [2] rfl rfl (by decide) (by decide) (va_runV (As := [.ref se, .ref se]) (rest := []) ⟨hx, hb, hml, hown, hts⟩ (c_formOf1 l D cJ h d kb fo ke ht wo fi se Fm se E5 (by first | assumption | omega) H.size) (cwV 2 hts (gV tw_222 tw_224 tws_7 tw_1 tw_225) rfl rfl rfl ⟨rfl, hd_K_formOf⟩ ⟨Nat.le_of_ble_eq_true rfl, Nat.le_of_ble_eq_true rfl⟩) (xPreV (C := R_K) (T := F_K) (N := 8) (q0 := 0) hN hK (hP.sub (ws' := [(h, .inr (1, [.int (nI d), .int kb, .ref fo, .ref ke, .ref ht, .ref wo, .ref fi, .ref se])), (fo, LA cJ 16 Fm), (se, LA cJ 4 E5)]) [0, 1, 3] rfl) (hD.sub (ws' := [(h, .inr (1, [.int (nI d), .int kb, .ref fo, .ref ke, .ref ht, .ref wo, .ref fi, .ref se])), (fo, LA cJ 16 Fm), (se, LA cJ 4 E5)]) [0, 1, 3] (by decide) rfl) rfl rfl) rfl rfl hl.1 rfl (lv_room (Nat.le_of_ble_eq_true rfl)) d_K_meets_84 ⟨Nat.le_of_ble_eq_true rfl, Nat.le_of_ble_eq_true rfl⟩) (fun r_17 u_18 H locs hw_19 hP hD hS => ?_)
          try dsimp only at hw_19
          have hP : va_P D vwC [(h, .inr (1, [.int (nI d), .int kb, .ref fo, .ref ke, .ref ht, .ref wo, .ref fi, .ref se])), (fo, LA cJ 16 Fm), (fi, LA cJ 4 B5), (se, LA cJ 4 E5)] H := hP.sub [1, 2, 0, 3] rfl
          have hD : va_D A [(h, .inr (1, [.int (nI d), .int kb, .ref fo, .ref ke, .ref ht, .ref wo, .ref fi, .ref se])), (fo, LA cJ 16 Fm), (fi, LA cJ 4 B5), (se, LA cJ 4 E5)] := hD.sub [1, 2, 0, 3] (by decide) rfl
          subst hw_19
          refine lv_lstore (lv' := [(7, .long (lI (frmN Fm E5 E5 d (d + 1)))), (0, .ref h), (1, .int vx), (2, .int vy), (3, .int vz), (4, .int vu), (5, .int vv), (6, .int vw)]) hx hb d_K_meets_87 hl (by decide) rfl (fun ls hl => ?_)
          refine lv_aload_n hx hb d_K_meets_89 rfl (lv_at hl 1 rfl) ?_
          refine lv_aload_n hx hb d_K_meets_90 rfl (lv_at hl 1 rfl) ?_
          refine va_get (D := D) (ci := 1) (v := .ref fi) (C := R_K) (T := F_K) (N := 8) hx hb hts iw_K hown hK hP 0 rfl rfl 6 (by decide) (hts _ tw_48) (fun _ h9 => h9) rfl d_K_meets_91 ?_
          refine lv_aload_n hx hb d_K_meets_94 rfl (lv_at hl 1 rfl) ?_
          refine va_get (D := D) (ci := 1) (v := .ref se) (C := R_K) (T := F_K) (N := 8) hx hb hts iw_K hown hK hP 0 rfl rfl 7 (by decide) (hts _ tw_49) (fun _ h9 => h9) rfl d_K_meets_95 ?_
          refine xcl (wc := [(h, .inr (1, [.int (nI d), .int kb, .ref fo, .ref ke, .ref ht, .ref wo, .ref fi, .ref se])), (fo, LA cJ 16 Fm), (fi, LA cJ 4 B5), (se, LA cJ 4 E5)]) (wr := []) hP hD hS hA [0, 1, 2, 3] [] rfl rfl (by decide) (by decide) (va_runV (As := [.ref fi, .ref se]) (rest := []) ⟨hx, hb, hml, hown, hts⟩ (c_formOf2 l D cJ h d kb fo ke ht wo fi se Fm fi B5 se E5 (by first | assumption | omega) H.size) (cwV 2 hts (gV tw_222 tw_224 tws_7 tw_1 tw_225) rfl rfl rfl ⟨rfl, hd_K_formOf⟩ ⟨Nat.le_of_ble_eq_true rfl, Nat.le_of_ble_eq_true rfl⟩) (xPreV (C := R_K) (T := F_K) (N := 8) (q0 := 0) hN hK (hP.sub (ws' := [(h, .inr (1, [.int (nI d), .int kb, .ref fo, .ref ke, .ref ht, .ref wo, .ref fi, .ref se])), (fo, LA cJ 16 Fm), (fi, LA cJ 4 B5), (se, LA cJ 4 E5)]) [0, 1, 2, 3] rfl) (hD.sub (ws' := [(h, .inr (1, [.int (nI d), .int kb, .ref fo, .ref ke, .ref ht, .ref wo, .ref fi, .ref se])), (fo, LA cJ 16 Fm), (fi, LA cJ 4 B5), (se, LA cJ 4 E5)]) [0, 1, 2, 3] (by decide) rfl) rfl rfl) rfl rfl hl.1 rfl (lv_room (Nat.le_of_ble_eq_true rfl)) d_K_meets_98 ⟨Nat.le_of_ble_eq_true rfl, Nat.le_of_ble_eq_true rfl⟩) (fun r_20 u_21 H locs hw_22 hP hD hS => ?_)
          try dsimp only at hw_22
          have hP : va_P D vwC [(h, .inr (1, [.int (nI d), .int kb, .ref fo, .ref ke, .ref ht, .ref wo, .ref fi, .ref se])), (fo, LA cJ 16 Fm), (fi, LA cJ 4 B5), (se, LA cJ 4 E5)] H := hP
          have hD : va_D A [(h, .inr (1, [.int (nI d), .int kb, .ref fo, .ref ke, .ref ht, .ref wo, .ref fi, .ref se])), (fo, LA cJ 16 Fm), (fi, LA cJ 4 B5), (se, LA cJ 4 E5)] := hD
          subst hw_22
          refine lv_lstore (lv' := [(9, .long (lI (frmN Fm B5 E5 d (d + 1)))), (7, .long (lI (frmN Fm E5 E5 d (d + 1)))), (0, .ref h), (1, .int vx), (2, .int vy), (3, .int vz), (4, .int vu), (5, .int vv), (6, .int vw)]) hx hb d_K_meets_101 hl (by decide) rfl (fun ls hl => ?_)
          refine lv_aload_n hx hb d_K_meets_103 rfl (lv_at hl 2 rfl) ?_
          refine lv_aload_n hx hb d_K_meets_104 rfl (lv_at hl 2 rfl) ?_
          refine va_get (D := D) (ci := 1) (v := .ref fi) (C := R_K) (T := F_K) (N := 8) hx hb hts iw_K hown hK hP 0 rfl rfl 6 (by decide) (hts _ tw_48) (fun _ h9 => h9) rfl d_K_meets_105 ?_
          refine lv_aload_n hx hb d_K_meets_108 rfl (lv_at hl 2 rfl) ?_
          refine va_get (D := D) (ci := 1) (v := .ref fi) (C := R_K) (T := F_K) (N := 8) hx hb hts iw_K hown hK hP 0 rfl rfl 6 (by decide) (hts _ tw_48) (fun _ h9 => h9) rfl d_K_meets_109 ?_
          refine xcl (wc := [(h, .inr (1, [.int (nI d), .int kb, .ref fo, .ref ke, .ref ht, .ref wo, .ref fi, .ref se])), (fo, LA cJ 16 Fm), (fi, LA cJ 4 B5)]) (wr := [(se, LA cJ 4 E5)]) hP hD hS hA [0, 1, 2] [3] rfl rfl (by decide) (by decide) (va_runV (As := [.ref fi, .ref fi]) (rest := []) ⟨hx, hb, hml, hown, hts⟩ (c_formOf1 l D cJ h d kb fo ke ht wo fi se Fm fi B5 (by first | assumption | omega) H.size) (cwV 2 hts (gV tw_222 tw_224 tws_7 tw_1 tw_225) rfl rfl rfl ⟨rfl, hd_K_formOf⟩ ⟨Nat.le_of_ble_eq_true rfl, Nat.le_of_ble_eq_true rfl⟩) (xPreV (C := R_K) (T := F_K) (N := 8) (q0 := 0) hN hK (hP.sub (ws' := [(h, .inr (1, [.int (nI d), .int kb, .ref fo, .ref ke, .ref ht, .ref wo, .ref fi, .ref se])), (fo, LA cJ 16 Fm), (fi, LA cJ 4 B5)]) [0, 1, 2] rfl) (hD.sub (ws' := [(h, .inr (1, [.int (nI d), .int kb, .ref fo, .ref ke, .ref ht, .ref wo, .ref fi, .ref se])), (fo, LA cJ 16 Fm), (fi, LA cJ 4 B5)]) [0, 1, 2] (by decide) rfl) rfl rfl) rfl rfl hl.1 rfl (lv_room (Nat.le_of_ble_eq_true rfl)) d_K_meets_112 ⟨Nat.le_of_ble_eq_true rfl, Nat.le_of_ble_eq_true rfl⟩) (fun r_23 u_24 H locs hw_25 hP hD hS => ?_)
          try dsimp only at hw_25
          have hP : va_P D vwC [(h, .inr (1, [.int (nI d), .int kb, .ref fo, .ref ke, .ref ht, .ref wo, .ref fi, .ref se])), (fo, LA cJ 16 Fm), (fi, LA cJ 4 B5), (se, LA cJ 4 E5)] H := hP.sub [1, 2, 3, 0] rfl
          have hD : va_D A [(h, .inr (1, [.int (nI d), .int kb, .ref fo, .ref ke, .ref ht, .ref wo, .ref fi, .ref se])), (fo, LA cJ 16 Fm), (fi, LA cJ 4 B5), (se, LA cJ 4 E5)] := hD.sub [1, 2, 3, 0] (by decide) rfl
          subst hw_25
          refine lv_lstore (lv' := [(11, .long (lI (frmN Fm B5 B5 d (d + 1)))), (9, .long (lI (frmN Fm B5 E5 d (d + 1)))), (7, .long (lI (frmN Fm E5 E5 d (d + 1)))), (0, .ref h), (1, .int vx), (2, .int vy), (3, .int vz), (4, .int vu), (5, .int vv), (6, .int vw)]) hx hb d_K_meets_115 hl (by decide) rfl (fun ls hl => ?_)
          refine lv_lload hx hb d_K_meets_117 (lv_at hl 2 rfl) ?_
          refine lv_lconst (v := lI 0) hx hb d_K_meets_119 (by decide) ?_
          refine xl_eq (tgt := 139) hx hb (lB_of hf1 (by decide)) ⟨by decide, by decide⟩ d_K_meets_120 d_K_meets_121 (by decide) (fun c121_25 => ?_) (fun c121_25 => ?_)
          · skip
            refine lv_lload hx hb d_K_meets_139 (lv_at hl 1 rfl) ?_
            refine lv_lconst (v := lI 0) hx hb d_K_meets_141 (by decide) ?_
            refine xl_eq (tgt := 148) hx hb (lB_of hf2 (by decide)) ⟨by decide, by decide⟩ d_K_meets_142 d_K_meets_143 (by decide) (fun c143_26 => ?_) (fun c143_26 => ?_)
            · skip
              refine lv_lload hx hb d_K_meets_148 (lv_at hl 0 rfl) ?_
              refine lv_lconst (v := lI 0) hx hb d_K_meets_150 (by decide) ?_
              refine xl_ne (tgt := 159) hx hb (lB_of hf3 (by decide)) ⟨by decide, by decide⟩ d_K_meets_151 d_K_meets_152 (by decide) (fun c152_27 => ?_) (fun c152_27 => ?_)
              · skip
                refine lv_iconst (v := nI 0) hx hb d_K_meets_159 (by decide) ?_
                exact hret H locs _ ls (nI 0) (B5, E5) d_K_meets_160 (by rw [s_meets_f hnb, ← hq1, ← hq2, ← hq3]; unfold mtN; rw [if_pos c121_25, if_pos c143_26, if_neg c152_27]) hP hD hS
              · skip
                refine lv_iconst (v := nI 3) hx hb d_K_meets_155 (by decide) ?_
                refine lv_goto (tgt := 160) hx hb d_K_meets_156 (by decide) ?_
                exact hret H locs _ ls (nI 3) (B5, E5) d_K_meets_160 (by rw [s_meets_f hnb, ← hq1, ← hq2, ← hq3]; unfold mtN; rw [if_pos c121_25, if_pos c143_26, if_pos c152_27]) hP hD hS
            · skip
              refine lv_iconst (v := nI 1) hx hb d_K_meets_146 (by decide) ?_
              exact hret H locs _ ls (nI 1) (B5, E5) d_K_meets_147 (by rw [s_meets_f hnb, ← hq1, ← hq2, ← hq3]; unfold mtN; rw [if_pos c121_25, if_neg c143_26]) hP hD hS
          · skip
            refine lv_lload hx hb d_K_meets_124 (lv_at hl 1 rfl) ?_
            refine lv_lload hx hb d_K_meets_126 (lv_at hl 1 rfl) ?_
            refine xl_mul hx hb d_K_meets_128 ?_
            refine lv_lload hx hb d_K_meets_129 (lv_at hl 2 rfl) ?_
            refine lv_lload hx hb d_K_meets_131 (lv_at hl 0 rfl) ?_
            refine xl_mul hx hb d_K_meets_133 ?_
            refine xl_sub hx hb d_K_meets_134 ?_
            refine xci (wc := []) (wr := [(h, .inr (1, [.int (nI d), .int kb, .ref fo, .ref ke, .ref ht, .ref wo, .ref fi, .ref se])), (fo, LA cJ 16 Fm), (fi, LA cJ 4 B5), (se, LA cJ 4 E5)]) hP hD hS hA [] [0, 1, 2, 3] rfl rfl (by decide) (by decide) (va_runS (As := [.long (lI (((frmN Fm B5 E5 d (d + 1)) * (frmN Fm B5 E5 d (d + 1))) - ((frmN Fm E5 E5 d (d + 1)) * (frmN Fm B5 B5 d (d + 1)))))]) (rest := []) ⟨hx, hb, hml, hown, hts⟩ (c_sign l D cJ (((frmN Fm B5 E5 d (d + 1)) * (frmN Fm B5 E5 d (d + 1))) - ((frmN Fm E5 E5 d (d + 1)) * (frmN Fm B5 B5 d (d + 1)))) (lB_of (subB (mulB hf2 hf2) (mulB hf1 hf3)) (by decide)) H.size) (cwS 1 hts (gS tw_230 tw_231 tw_1 tw_232) rfl rfl rfl ⟨rfl, hd_K_signCode⟩ ⟨Nat.le_of_ble_eq_true rfl, Nat.le_of_ble_eq_true rfl⟩) (xPreS hN hK (hP.sub (ws' := []) [] rfl) (hD.sub (ws' := []) [] (by decide) rfl)) rfl rfl hl.1 rfl (lv_room (Nat.le_of_ble_eq_true rfl)) d_K_meets_135 ⟨Nat.le_of_ble_eq_true rfl, Nat.le_of_ble_eq_true rfl⟩) (fun r_29 u_30 H locs hw_31 hP hD hS => ?_)
            try dsimp only at hw_31
            have hP : va_P D vwC [(h, .inr (1, [.int (nI d), .int kb, .ref fo, .ref ke, .ref ht, .ref wo, .ref fi, .ref se])), (fo, LA cJ 16 Fm), (fi, LA cJ 4 B5), (se, LA cJ 4 E5)] H := hP
            have hD : va_D A [(h, .inr (1, [.int (nI d), .int kb, .ref fo, .ref ke, .ref ht, .ref wo, .ref fi, .ref se])), (fo, LA cJ 16 Fm), (fi, LA cJ 4 B5), (se, LA cJ 4 E5)] := hD
            subst hw_31
            exact hret H locs _ ls (nI (sgc (((frmN Fm B5 E5 d (d + 1)) * (frmN Fm B5 E5 d (d + 1))) - ((frmN Fm E5 E5 d (d + 1)) * (frmN Fm B5 B5 d (d + 1)))))) (B5, E5) d_K_meets_138 (by rw [s_meets_f hnb, ← hq1, ← hq2, ← hq3]; unfold mtN; rw [if_neg c121_25]) hP hD hS
  rw [hH, hlc] at key; exact key

def rm_k_keep : Room := { frames := 5, cells := 0, slots := 0, locals := 135 }
set_option maxHeartbeats 4000000 in
set_option maxRecDepth 100000 in
/-- keep -/
theorem k_keep (l : Launch) (D : va_G) (cJ : ClassId) (h : Nat) (d : Nat) (kb : Int32) (fo : Nat) (ke : Nat) (ht : Nat) (wo : Nat) (fi : Nat) (se : Nat) (Fm : Nat → Int) (Kp : Nat → Int) (hc : Nat) (hf : Nat) (hp : Nat) (ho : Nat) (r0 : Int32) (C : Nat → Int) (F : Nat → Int) (P : Nat → Int) (O : Nat → Int) (hd2 : 2 ≤ d) (hd3 : d ≤ 3) (hF : ∀ k, k < 16 → inB (Fm k) 20) (sz : Nat) : xMi l y_K_keep (Cond.code y_K_keep b_K_keep 1 (some .int) :: tW) rm_k_keep [.ref h] D vwC [(cJ, .long)] sz [(h, .inr (1, [.int (nI d), .int kb, .ref fo, .ref ke, .ref ht, .ref wo, .ref fi, .ref se])), (fo, LA cJ 16 Fm), (ke, LA cJ 16 Kp), (ht, .inr (0, [.int r0, .ref hc, .ref hf, .ref hp, .ref ho])), (hc, LA cJ 16 C), (hf, LA cJ 16 F), (hp, LA cJ 16 P), (ho, LA cJ 5 O)] (fun (rv : Int32) (uo : Int32 × (Nat → Int) × (Nat → Int) × (Nat → Int) × (Nat → Int)) => rv = nI (kindN Fm d)) (fun (uo : Int32 × (Nat → Int) × (Nat → Int) × (Nat → Int) × (Nat → Int)) => [(h, .inr (1, [.int (nI d), .int (nI 1), .ref fo, .ref ke, .ref ht, .ref wo, .ref fi, .ref se])), (fo, LA cJ 16 Fm), (ke, LA cJ 16 (cpZ Fm Kp 16)), (ht, .inr (0, [.int uo.1, .ref hc, .ref hf, .ref hp, .ref ho])), (hc, LA cJ 16 uo.2.1), (hf, LA cJ 16 uo.2.2.1), (hp, LA cJ 16 uo.2.2.2.1), (ho, LA cJ 5 uo.2.2.2.2)]) 0 0 := by
  refine xoi (cc := b_K_keep) (maxL := 1) (by decide) rfl (Nat.le_of_ble_eq_true rfl) ?_
  intro p e s m args below meth c Q A hx hb hml hts hown hN hA hS hP hK hD hret ls hl
  have hl : lv_has ls 1 [(0, .ref h)] := hl
  obtain ⟨H, hH⟩ : ∃ z, z = s.heap := ⟨_, rfl⟩
  obtain ⟨locs, hlc⟩ : ∃ z : List Loc, z = [] := ⟨_, rfl⟩
  rw [← hH] at hP
  have hS : va_S A s.heap H locs := by rw [hH, hlc]; exact hS
  have key : W p l e rm_k_keep s m args below meth c H locs 0 0 Q (F0 m 0 ls []) := by
    refine lv_aload_n hx hb d_K_keep_0 rfl (lv_at hl 0 rfl) ?_
    refine va_get (D := D) (ci := 1) (v := .ref fo) (C := R_K) (T := F_K) (N := 8) hx hb hts iw_K hown hK hP 0 rfl rfl 2 (by decide) (hts _ tw_44) (fun _ h9 => h9) rfl d_K_keep_1 ?_
    refine lv_iconst (v := nI 0) hx hb d_K_keep_4 (by decide) ?_
    refine lv_aload_n hx hb d_K_keep_5 rfl (lv_at hl 0 rfl) ?_
    refine va_get (D := D) (ci := 1) (v := .ref ke) (C := R_K) (T := F_K) (N := 8) hx hb hts iw_K hown hK hP 0 rfl rfl 3 (by decide) (hts _ tw_45) (fun _ h9 => h9) rfl d_K_keep_6 ?_
    refine lv_iconst (v := nI 0) hx hb d_K_keep_9 (by decide) ?_
    refine lv_bipush (v := nI 16) hx hb d_K_keep_10 (by decide) ?_
    refine xl_copy hx hb (by rw [hml]; exact hl.1.symm) hown (hts _ tw_302) (hts _ tw_109) (hts _ tw_108) (hts _ tw_5) hK hP hD hS 1 2 0 rfl rfl rfl (n := 16) (by omega) (by omega) (by omega) (Nat.le_of_ble_eq_true rfl) (by decide +kernel) d_K_keep_12 (fun H locs hP hD hS => ?_)
    have hP : va_P D vwC [(h, .inr (1, [.int (nI d), .int kb, .ref fo, .ref ke, .ref ht, .ref wo, .ref fi, .ref se])), (fo, LA cJ 16 Fm), (ke, LA cJ 16 (cpZ Fm Kp 16)), (ht, .inr (0, [.int r0, .ref hc, .ref hf, .ref hp, .ref ho])), (hc, LA cJ 16 C), (hf, LA cJ 16 F), (hp, LA cJ 16 P), (ho, LA cJ 5 O)] H := hP
    have hD : va_D A [(h, .inr (1, [.int (nI d), .int kb, .ref fo, .ref ke, .ref ht, .ref wo, .ref fi, .ref se])), (fo, LA cJ 16 Fm), (ke, LA cJ 16 (cpZ Fm Kp 16)), (ht, .inr (0, [.int r0, .ref hc, .ref hf, .ref hp, .ref ho])), (hc, LA cJ 16 C), (hf, LA cJ 16 F), (hp, LA cJ 16 P), (ho, LA cJ 5 O)] := hD
    refine lv_aload_n hx hb d_K_keep_15 rfl (lv_at hl 0 rfl) ?_
    refine lv_iconst (v := nI 1) hx hb d_K_keep_16 (by decide) ?_
    refine va_put (D := D) (ci := 1) (v := .int (nI 1)) (ty := .boolean) (C := R_K) (T := F_K) (N := 8) hx hb hts iw_K ft_K ft_K_ok n_K hown hK hP hD hS 0 rfl rfl 1 (by decide) (hts _ tw_43) (fun _ h9 => h9) rfl (by decide +kernel) rfl rfl (Nat.le_of_ble_eq_true rfl) d_K_keep_17 (fun H locs hP hD hS => ?_)
    have hP : va_P D vwC [(h, .inr (1, [.int (nI d), .int (nI 1), .ref fo, .ref ke, .ref ht, .ref wo, .ref fi, .ref se])), (fo, LA cJ 16 Fm), (ke, LA cJ 16 (cpZ Fm Kp 16)), (ht, .inr (0, [.int r0, .ref hc, .ref hf, .ref hp, .ref ho])), (hc, LA cJ 16 C), (hf, LA cJ 16 F), (hp, LA cJ 16 P), (ho, LA cJ 5 O)] H := hP
    have hD : va_D A [(h, .inr (1, [.int (nI d), .int (nI 1), .ref fo, .ref ke, .ref ht, .ref wo, .ref fi, .ref se])), (fo, LA cJ 16 Fm), (ke, LA cJ 16 (cpZ Fm Kp 16)), (ht, .inr (0, [.int r0, .ref hc, .ref hf, .ref hp, .ref ho])), (hc, LA cJ 16 C), (hf, LA cJ 16 F), (hp, LA cJ 16 P), (ho, LA cJ 5 O)] := hD
    refine lv_aload_n hx hb d_K_keep_20 rfl (lv_at hl 0 rfl) ?_
    refine lv_aload_n hx hb d_K_keep_21 rfl (lv_at hl 0 rfl) ?_
    refine va_get (D := D) (ci := 1) (v := .ref fo) (C := R_K) (T := F_K) (N := 8) hx hb hts iw_K hown hK hP 0 rfl rfl 2 (by decide) (hts _ tw_44) (fun _ h9 => h9) rfl d_K_keep_22 ?_
    refine lv_aload_n hx hb d_K_keep_25 rfl (lv_at hl 0 rfl) ?_
    refine va_get (D := D) (ci := 1) (v := .int (nI d)) (C := R_K) (T := F_K) (N := 8) hx hb hts iw_K hown hK hP 0 rfl rfl 0 (by decide) (hts _ tw_42) (fun _ h9 => h9) rfl d_K_keep_26 ?_
    refine xci (wc := [(h, .inr (1, [.int (nI d), .int (nI 1), .ref fo, .ref ke, .ref ht, .ref wo, .ref fi, .ref se])), (fo, LA cJ 16 Fm), (ht, .inr (0, [.int r0, .ref hc, .ref hf, .ref hp, .ref ho])), (hc, LA cJ 16 C), (hf, LA cJ 16 F), (hp, LA cJ 16 P), (ho, LA cJ 5 O)]) (wr := [(ke, LA cJ 16 (cpZ Fm Kp 16))]) hP hD hS hA [0, 1, 3, 4, 5, 6, 7] [2] rfl rfl (by decide) (by decide) (va_runV (As := [.ref fo, .int (nI d)]) (rest := []) ⟨hx, hb, hml, hown, hts⟩ (c_kindOf l D cJ h d (nI 1) fo ke ht wo fi se hc hf hp ho r0 C F P O fo Fm d (by first | assumption | omega) (by first | assumption | omega) (enB_20 hF (by omega)) (enB_20 hF (by omega)) H.size) (cwV 2 hts (gV tw_93 tw_95 tws_1 tw_1 tw_96) rfl rfl rfl ⟨rfl, hd_K_kindOf⟩ ⟨Nat.le_of_ble_eq_true rfl, Nat.le_of_ble_eq_true rfl⟩) (xPreV (C := R_K) (T := F_K) (N := 8) (q0 := 0) hN hK (hP.sub (ws' := [(h, .inr (1, [.int (nI d), .int (nI 1), .ref fo, .ref ke, .ref ht, .ref wo, .ref fi, .ref se])), (fo, LA cJ 16 Fm), (ht, .inr (0, [.int r0, .ref hc, .ref hf, .ref hp, .ref ho])), (hc, LA cJ 16 C), (hf, LA cJ 16 F), (hp, LA cJ 16 P), (ho, LA cJ 5 O)]) [0, 1, 3, 4, 5, 6, 7] rfl) (hD.sub (ws' := [(h, .inr (1, [.int (nI d), .int (nI 1), .ref fo, .ref ke, .ref ht, .ref wo, .ref fi, .ref se])), (fo, LA cJ 16 Fm), (ht, .inr (0, [.int r0, .ref hc, .ref hf, .ref hp, .ref ho])), (hc, LA cJ 16 C), (hf, LA cJ 16 F), (hp, LA cJ 16 P), (ho, LA cJ 5 O)]) [0, 1, 3, 4, 5, 6, 7] (by decide) rfl) rfl rfl) rfl rfl hl.1 rfl (lv_room (Nat.le_of_ble_eq_true rfl)) d_K_keep_29 ⟨Nat.le_of_ble_eq_true rfl, Nat.le_of_ble_eq_true rfl⟩) (fun r_1 u_2 H locs hw_3 hP hD hS => ?_)
    obtain ⟨r2_4, C2_5, F2_6, P2_7, O2_8⟩ := u_2
    try dsimp only at hw_3
    have hP : va_P D vwC [(h, .inr (1, [.int (nI d), .int (nI 1), .ref fo, .ref ke, .ref ht, .ref wo, .ref fi, .ref se])), (fo, LA cJ 16 Fm), (ke, LA cJ 16 (cpZ Fm Kp 16)), (ht, .inr (0, [.int r2_4, .ref hc, .ref hf, .ref hp, .ref ho])), (hc, LA cJ 16 C2_5), (hf, LA cJ 16 F2_6), (hp, LA cJ 16 P2_7), (ho, LA cJ 5 O2_8)] H := hP.sub [1, 2, 0, 3, 4, 5, 6, 7] rfl
    have hD : va_D A [(h, .inr (1, [.int (nI d), .int (nI 1), .ref fo, .ref ke, .ref ht, .ref wo, .ref fi, .ref se])), (fo, LA cJ 16 Fm), (ke, LA cJ 16 (cpZ Fm Kp 16)), (ht, .inr (0, [.int r2_4, .ref hc, .ref hf, .ref hp, .ref ho])), (hc, LA cJ 16 C2_5), (hf, LA cJ 16 F2_6), (hp, LA cJ 16 P2_7), (ho, LA cJ 5 O2_8)] := hD.sub [1, 2, 0, 3, 4, 5, 6, 7] (by decide) rfl
    obtain ⟨rfl, hw_3⟩ := hw_3
    exact hret H locs _ ls (nI (kindN Fm d)) (r2_4, C2_5, F2_6, P2_7, O2_8) d_K_keep_32 rfl hP hD hS
  rw [hH, hlc] at key; exact key

def rm_k_alike : Room := { frames := 0, cells := 0, slots := 0, locals := 0 }
set_option maxHeartbeats 4000000 in
set_option maxRecDepth 100000 in
/-- alike -/
theorem k_alike (l : Launch) (D : va_G) (cJ : ClassId) (h : Nat) (d : Nat) (kb : Int32) (fo : Nat) (ke : Nat) (ht : Nat) (wo : Nat) (fi : Nat) (se : Nat) (Fm : Nat → Int) (Kp : Nat → Int) (hF : ∀ k, k < 16 → inB (Fm k) 20) (hKb : ∀ k, k < 16 → inB (Kp k) 20) (sz : Nat) : xMi l y_K_alike (Cond.code y_K_alike b_K_alike 3 (some .int) :: tW) rm_k_alike [.ref h] D vwC [(cJ, .long)] sz [(h, .inr (1, [.int (nI d), .int kb, .ref fo, .ref ke, .ref ht, .ref wo, .ref fi, .ref se])), (fo, LA cJ 16 Fm), (ke, LA cJ 16 Kp)] (fun (rv : Int32) (_ : Unit) => rv = s_alk kb Fm Kp) (fun (_ : Unit) => [(h, .inr (1, [.int (nI d), .int kb, .ref fo, .ref ke, .ref ht, .ref wo, .ref fi, .ref se])), (fo, LA cJ 16 Fm), (ke, LA cJ 16 Kp)]) 0 0 := by
  refine xoi (cc := b_K_alike) (maxL := 3) (by decide) rfl (Nat.le_of_ble_eq_true rfl) ?_
  intro p e s m args below meth c Q A hx hb hml hts hown hN hA hS hP hK hD hret ls hl
  have hl : lv_has ls 3 [(0, .ref h)] := hl
  obtain ⟨H, hH⟩ : ∃ z, z = s.heap := ⟨_, rfl⟩
  obtain ⟨locs, hlc⟩ : ∃ z : List Loc, z = [] := ⟨_, rfl⟩
  rw [← hH] at hP
  have hS : va_S A s.heap H locs := by rw [hH, hlc]; exact hS
  have key : W p l e rm_k_alike s m args below meth c H locs 0 0 Q (F0 m 0 ls []) := by
    refine lv_aload_n hx hb d_K_alike_0 rfl (lv_at hl 0 rfl) ?_
    refine va_get (D := D) (ci := 1) (v := .int kb) (C := R_K) (T := F_K) (N := 8) hx hb hts iw_K hown hK hP 0 rfl rfl 1 (by decide) (hts _ tw_43) (fun _ h9 => h9) rfl d_K_alike_1 ?_
    refine xz_ne (tgt := 10) (X := kb.toInt) hx hb rfl d_K_alike_4 (by decide) (fun c4_0 => ?_) (fun c4_0 => ?_)
    · skip
      refine lv_iconst (v := nI 0) hx hb d_K_alike_10 (by decide) ?_
      refine lv_istore_n (lv' := [(1, .int (nI 0)), (0, .ref h)]) hx hb d_K_alike_11 rfl hl (by decide) rfl (fun ls hl => ?_)
      have lp_12 : ∀ (n_12 : Nat) (t : Nat) (H : Heap) (locs : List Loc) (ls : Array Slot), (t ≤ 15) → (∀ k, k < t → Kp k = 0 ∧ Fm k = 0) → (15 - t) < n_12 → va_P D vwC [(h, .inr (1, [.int (nI d), .int kb, .ref fo, .ref ke, .ref ht, .ref wo, .ref fi, .ref se])), (fo, LA cJ 16 Fm), (ke, LA cJ 16 Kp)] H → va_D A [(h, .inr (1, [.int (nI d), .int kb, .ref fo, .ref ke, .ref ht, .ref wo, .ref fi, .ref se])), (fo, LA cJ 16 Fm), (ke, LA cJ 16 Kp)] → va_S A s.heap H locs → lv_has ls 3 [(0, .ref h), (1, .int (nI t))] → W p l e rm_k_alike s m args below meth c H locs 0 0 Q (F0 m 12 ls []) := by
        intro n_12
        induction n_12 with
        | zero => intro t H locs ls ht15 hz hn_12; exact absurd hn_12 (Nat.not_lt_zero _)
        | succ n_12 ih_12 =>
          intro t H locs ls ht15 hz hn_12 hP hD hS hl
          refine lv_iload_n hx hb d_K_alike_12 rfl (lv_at hl 1 rfl) ?_
          refine lv_bipush (v := nI 15) hx hb d_K_alike_13 (by decide) ?_
          refine xn_ge (tgt := 46) hx hb (by omega) (by omega) d_K_alike_15 (by decide) (fun c15_1 => ?_) (fun c15_1 => ?_)
          · skip
            refine lv_aload_n hx hb d_K_alike_46 rfl (lv_at hl 0 rfl) ?_
            refine va_get (D := D) (ci := 1) (v := .ref ke) (C := R_K) (T := F_K) (N := 8) hx hb hts iw_K hown hK hP 0 rfl rfl 3 (by decide) (hts _ tw_45) (fun _ h9 => h9) rfl d_K_alike_47 ?_
            refine lv_iload_n hx hb d_K_alike_50 rfl (lv_at hl 1 rfl) ?_
            refine xl_ald hx hb hK hP 2 0 rfl rfl (k := t) (by omega) (by first | decide | omega) d_K_alike_51 ?_
            refine lv_lconst (v := lI 0) hx hb d_K_alike_52 (by decide) ?_
            refine xl_ne (tgt := 61) hx hb (lB_of (hKb _ (by omega)) (by decide)) ⟨by decide, by decide⟩ d_K_alike_53 d_K_alike_54 (by decide) (fun c54_2 => ?_) (fun c54_2 => ?_)
            · skip
              refine lv_iconst (v := nI 0) hx hb d_K_alike_61 (by decide) ?_
              refine lv_aload_n hx hb d_K_alike_62 rfl (lv_at hl 0 rfl) ?_
              refine va_get (D := D) (ci := 1) (v := .ref fo) (C := R_K) (T := F_K) (N := 8) hx hb hts iw_K hown hK hP 0 rfl rfl 2 (by decide) (hts _ tw_44) (fun _ h9 => h9) rfl d_K_alike_63 ?_
              refine lv_iload_n hx hb d_K_alike_66 rfl (lv_at hl 1 rfl) ?_
              refine xl_ald hx hb hK hP 1 0 rfl rfl (k := t) (by omega) (by first | decide | omega) d_K_alike_67 ?_
              refine lv_lconst (v := lI 0) hx hb d_K_alike_68 (by decide) ?_
              refine xl_ne (tgt := 77) hx hb (lB_of (hF _ (by omega)) (by decide)) ⟨by decide, by decide⟩ d_K_alike_69 d_K_alike_70 (by decide) (fun c70_3 => ?_) (fun c70_3 => ?_)
              · skip
                refine lv_iconst (v := nI 0) hx hb d_K_alike_77 (by decide) ?_
                refine xn_eq (tgt := 83) hx hb (by omega) (by omega) d_K_alike_78 (by decide) (fun c78_4 => ?_) (fun c78_4 => absurd c78_4 (by decide))
                refine lv_iconst (v := nI 0) hx hb d_K_alike_83 (by decide) ?_
                refine lv_istore_n (lv' := [(2, .int (nI 0)), (0, .ref h), (1, .int (nI t))]) hx hb d_K_alike_84 rfl hl (by decide) rfl (fun ls hl => ?_)
                have lp_85 : ∀ (n_85 : Nat) (i : Nat) (H : Heap) (locs : List Loc) (ls : Array Slot), (i ≤ 16) → (∀ k, k < i → Fm k * Kp t = Kp k * Fm t) → (16 - i) < n_85 → va_P D vwC [(h, .inr (1, [.int (nI d), .int kb, .ref fo, .ref ke, .ref ht, .ref wo, .ref fi, .ref se])), (fo, LA cJ 16 Fm), (ke, LA cJ 16 Kp)] H → va_D A [(h, .inr (1, [.int (nI d), .int kb, .ref fo, .ref ke, .ref ht, .ref wo, .ref fi, .ref se])), (fo, LA cJ 16 Fm), (ke, LA cJ 16 Kp)] → va_S A s.heap H locs → lv_has ls 3 [(0, .ref h), (1, .int (nI t)), (2, .int (nI i))] → W p l e rm_k_alike s m args below meth c H locs 0 0 Q (F0 m 85 ls []) := by
                  intro n_85
                  induction n_85 with
                  | zero => intro i H locs ls hi h1 hn_85; exact absurd hn_85 (Nat.not_lt_zero _)
                  | succ n_85 ih_85 =>
                    intro i H locs ls hi h1 hn_85 hP hD hS hl
                    refine lv_iload_n hx hb d_K_alike_85 rfl (lv_at hl 2 rfl) ?_
                    refine lv_bipush (v := nI 16) hx hb d_K_alike_86 (by decide) ?_
                    refine xn_ge (tgt := 129) hx hb (by omega) (by omega) d_K_alike_88 (by decide) (fun c88_5 => ?_) (fun c88_5 => ?_)
                    · skip
                      refine lv_iconst (v := nI 1) hx hb d_K_alike_129 (by decide) ?_
                      exact hret H locs _ ls (nI 1) () d_K_alike_130 (by unfold s_alk; rw [if_neg (show ¬ kb.toInt = 0 from c4_0),  bz_t (alk_1 (t := t) (by omega) c54_2 c70_3 (fun k hk => h1 k (by omega)))]) hP hD hS
                    · skip
                      refine lv_aload_n hx hb d_K_alike_91 rfl (lv_at hl 0 rfl) ?_
                      refine va_get (D := D) (ci := 1) (v := .ref fo) (C := R_K) (T := F_K) (N := 8) hx hb hts iw_K hown hK hP 0 rfl rfl 2 (by decide) (hts _ tw_44) (fun _ h9 => h9) rfl d_K_alike_92 ?_
                      refine lv_iload_n hx hb d_K_alike_95 rfl (lv_at hl 2 rfl) ?_
                      refine xl_ald hx hb hK hP 1 0 rfl rfl (k := i) (by omega) (by first | decide | omega) d_K_alike_96 ?_
                      refine lv_aload_n hx hb d_K_alike_97 rfl (lv_at hl 0 rfl) ?_
                      refine va_get (D := D) (ci := 1) (v := .ref ke) (C := R_K) (T := F_K) (N := 8) hx hb hts iw_K hown hK hP 0 rfl rfl 3 (by decide) (hts _ tw_45) (fun _ h9 => h9) rfl d_K_alike_98 ?_
                      refine lv_iload_n hx hb d_K_alike_101 rfl (lv_at hl 1 rfl) ?_
                      refine xl_ald hx hb hK hP 2 0 rfl rfl (k := t) (by omega) (by first | decide | omega) d_K_alike_102 ?_
                      refine xl_mul hx hb d_K_alike_103 ?_
                      refine lv_aload_n hx hb d_K_alike_104 rfl (lv_at hl 0 rfl) ?_
                      refine va_get (D := D) (ci := 1) (v := .ref ke) (C := R_K) (T := F_K) (N := 8) hx hb hts iw_K hown hK hP 0 rfl rfl 3 (by decide) (hts _ tw_45) (fun _ h9 => h9) rfl d_K_alike_105 ?_
                      refine lv_iload_n hx hb d_K_alike_108 rfl (lv_at hl 2 rfl) ?_
                      refine xl_ald hx hb hK hP 2 0 rfl rfl (k := i) (by omega) (by first | decide | omega) d_K_alike_109 ?_
                      refine lv_aload_n hx hb d_K_alike_110 rfl (lv_at hl 0 rfl) ?_
                      refine va_get (D := D) (ci := 1) (v := .ref fo) (C := R_K) (T := F_K) (N := 8) hx hb hts iw_K hown hK hP 0 rfl rfl 2 (by decide) (hts _ tw_44) (fun _ h9 => h9) rfl d_K_alike_111 ?_
                      refine lv_iload_n hx hb d_K_alike_114 rfl (lv_at hl 1 rfl) ?_
                      refine xl_ald hx hb hK hP 1 0 rfl rfl (k := t) (by omega) (by first | decide | omega) d_K_alike_115 ?_
                      refine xl_mul hx hb d_K_alike_116 ?_
                      refine xl_eq (tgt := 123) hx hb (by first | exact lB_of (mulB (hF _ (by omega)) (hKb _ (by omega))) (by decide) | exact lB_of (mulB (hKb _ (by omega)) (hF _ (by omega))) (by decide)) (by first | exact lB_of (mulB (hF _ (by omega)) (hKb _ (by omega))) (by decide) | exact lB_of (mulB (hKb _ (by omega)) (hF _ (by omega))) (by decide)) d_K_alike_117 d_K_alike_118 (by decide) (fun c118_6 => ?_) (fun c118_6 => ?_)
                      · skip
                        refine lv_iinc (v := nI (i + 1)) (lv' := [(2, .int (nI (i + 1))), (0, .ref h), (1, .int (nI t))]) hx hb d_K_alike_123 hl (k := 2) rfl (nI_add _ _) (by decide) rfl (fun ls hl => ?_)
                        refine lv_goto (tgt := 85) hx hb d_K_alike_126 (by decide) ?_
                        exact ih_85 (i + 1) H locs ls (by omega) (fun k hk => by by_cases q : k = i; rw [q]; exact c118_6; exact h1 k (by omega)) (by omega) hP hD hS (lv_sub hl [1, 2, 0] rfl)
                      · skip
                        refine lv_iconst (v := nI 0) hx hb d_K_alike_121 (by decide) ?_
                        exact hret H locs _ ls (nI 0) () d_K_alike_122 (by unfold s_alk; rw [if_neg (show ¬ kb.toInt = 0 from c4_0),  bz_f (fun q => c118_6 (q.1 i t (by omega) (by omega)))]) hP hD hS
                exact lp_85 ((16 - 0) + 1) 0 H locs ls (Nat.zero_le _) (fun k h => absurd h (Nat.not_lt_zero _)) (by omega) hP hD hS (lv_sub hl [1, 2, 0] rfl)
              · skip
                refine lv_iconst (v := nI 1) hx hb d_K_alike_73 (by decide) ?_
                refine lv_goto (tgt := 78) hx hb d_K_alike_74 (by decide) ?_
                refine xn_eq (tgt := 83) hx hb (by omega) (by omega) d_K_alike_78 (by decide) (fun c78_7 => absurd c78_7 (by decide)) (fun c78_7 => ?_)
                refine lv_iconst (v := nI 0) hx hb d_K_alike_81 (by decide) ?_
                exact hret H locs _ ls (nI 0) () d_K_alike_82 (by unfold s_alk; rw [if_neg (show ¬ kb.toInt = 0 from c4_0),  bz_f (alk_ne (t := t) (by omega) (by omega))]) hP hD hS
            · skip
              refine lv_iconst (v := nI 1) hx hb d_K_alike_57 (by decide) ?_
              refine lv_goto (tgt := 62) hx hb d_K_alike_58 (by decide) ?_
              refine lv_aload_n hx hb d_K_alike_62 rfl (lv_at hl 0 rfl) ?_
              refine va_get (D := D) (ci := 1) (v := .ref fo) (C := R_K) (T := F_K) (N := 8) hx hb hts iw_K hown hK hP 0 rfl rfl 2 (by decide) (hts _ tw_44) (fun _ h9 => h9) rfl d_K_alike_63 ?_
              refine lv_iload_n hx hb d_K_alike_66 rfl (lv_at hl 1 rfl) ?_
              refine xl_ald hx hb hK hP 1 0 rfl rfl (k := t) (by omega) (by first | decide | omega) d_K_alike_67 ?_
              refine lv_lconst (v := lI 0) hx hb d_K_alike_68 (by decide) ?_
              refine xl_ne (tgt := 77) hx hb (lB_of (hF _ (by omega)) (by decide)) ⟨by decide, by decide⟩ d_K_alike_69 d_K_alike_70 (by decide) (fun c70_8 => ?_) (fun c70_8 => ?_)
              · skip
                refine lv_iconst (v := nI 0) hx hb d_K_alike_77 (by decide) ?_
                refine xn_eq (tgt := 83) hx hb (by omega) (by omega) d_K_alike_78 (by decide) (fun c78_9 => absurd c78_9 (by decide)) (fun c78_9 => ?_)
                refine lv_iconst (v := nI 0) hx hb d_K_alike_81 (by decide) ?_
                exact hret H locs _ ls (nI 0) () d_K_alike_82 (by unfold s_alk; rw [if_neg (show ¬ kb.toInt = 0 from c4_0),  bz_f (alk_ne (t := t) (by omega) (by omega))]) hP hD hS
              · skip
                refine lv_iconst (v := nI 1) hx hb d_K_alike_73 (by decide) ?_
                refine lv_goto (tgt := 78) hx hb d_K_alike_74 (by decide) ?_
                refine xn_eq (tgt := 83) hx hb (by omega) (by omega) d_K_alike_78 (by decide) (fun c78_10 => ?_) (fun c78_10 => absurd c78_10 (by decide))
                refine lv_iconst (v := nI 0) hx hb d_K_alike_83 (by decide) ?_
                refine lv_istore_n (lv' := [(2, .int (nI 0)), (0, .ref h), (1, .int (nI t))]) hx hb d_K_alike_84 rfl hl (by decide) rfl (fun ls hl => ?_)
                have lp_85 : ∀ (n_85 : Nat) (i : Nat) (H : Heap) (locs : List Loc) (ls : Array Slot), (i ≤ 16) → (∀ k, k < i → Fm k * Kp t = Kp k * Fm t) → (16 - i) < n_85 → va_P D vwC [(h, .inr (1, [.int (nI d), .int kb, .ref fo, .ref ke, .ref ht, .ref wo, .ref fi, .ref se])), (fo, LA cJ 16 Fm), (ke, LA cJ 16 Kp)] H → va_D A [(h, .inr (1, [.int (nI d), .int kb, .ref fo, .ref ke, .ref ht, .ref wo, .ref fi, .ref se])), (fo, LA cJ 16 Fm), (ke, LA cJ 16 Kp)] → va_S A s.heap H locs → lv_has ls 3 [(0, .ref h), (1, .int (nI t)), (2, .int (nI i))] → W p l e rm_k_alike s m args below meth c H locs 0 0 Q (F0 m 85 ls []) := by
                  intro n_85
                  induction n_85 with
                  | zero => intro i H locs ls hi h1 hn_85; exact absurd hn_85 (Nat.not_lt_zero _)
                  | succ n_85 ih_85 =>
                    intro i H locs ls hi h1 hn_85 hP hD hS hl
                    refine lv_iload_n hx hb d_K_alike_85 rfl (lv_at hl 2 rfl) ?_
                    refine lv_bipush (v := nI 16) hx hb d_K_alike_86 (by decide) ?_
                    refine xn_ge (tgt := 129) hx hb (by omega) (by omega) d_K_alike_88 (by decide) (fun c88_11 => ?_) (fun c88_11 => ?_)
                    · skip
                      refine lv_iconst (v := nI 1) hx hb d_K_alike_129 (by decide) ?_
                      exact hret H locs _ ls (nI 1) () d_K_alike_130 (by unfold s_alk; rw [if_neg (show ¬ kb.toInt = 0 from c4_0),  bz_t (alk_0 (fun k hk => by by_cases q : k < t; exact hz k q; rw [show k = t from by omega]; exact ⟨c54_2, c70_8⟩))]) hP hD hS
                    · skip
                      refine lv_aload_n hx hb d_K_alike_91 rfl (lv_at hl 0 rfl) ?_
                      refine va_get (D := D) (ci := 1) (v := .ref fo) (C := R_K) (T := F_K) (N := 8) hx hb hts iw_K hown hK hP 0 rfl rfl 2 (by decide) (hts _ tw_44) (fun _ h9 => h9) rfl d_K_alike_92 ?_
                      refine lv_iload_n hx hb d_K_alike_95 rfl (lv_at hl 2 rfl) ?_
                      refine xl_ald hx hb hK hP 1 0 rfl rfl (k := i) (by omega) (by first | decide | omega) d_K_alike_96 ?_
                      refine lv_aload_n hx hb d_K_alike_97 rfl (lv_at hl 0 rfl) ?_
                      refine va_get (D := D) (ci := 1) (v := .ref ke) (C := R_K) (T := F_K) (N := 8) hx hb hts iw_K hown hK hP 0 rfl rfl 3 (by decide) (hts _ tw_45) (fun _ h9 => h9) rfl d_K_alike_98 ?_
                      refine lv_iload_n hx hb d_K_alike_101 rfl (lv_at hl 1 rfl) ?_
                      refine xl_ald hx hb hK hP 2 0 rfl rfl (k := t) (by omega) (by first | decide | omega) d_K_alike_102 ?_
                      refine xl_mul hx hb d_K_alike_103 ?_
                      refine lv_aload_n hx hb d_K_alike_104 rfl (lv_at hl 0 rfl) ?_
                      refine va_get (D := D) (ci := 1) (v := .ref ke) (C := R_K) (T := F_K) (N := 8) hx hb hts iw_K hown hK hP 0 rfl rfl 3 (by decide) (hts _ tw_45) (fun _ h9 => h9) rfl d_K_alike_105 ?_
                      refine lv_iload_n hx hb d_K_alike_108 rfl (lv_at hl 2 rfl) ?_
                      refine xl_ald hx hb hK hP 2 0 rfl rfl (k := i) (by omega) (by first | decide | omega) d_K_alike_109 ?_
                      refine lv_aload_n hx hb d_K_alike_110 rfl (lv_at hl 0 rfl) ?_
                      refine va_get (D := D) (ci := 1) (v := .ref fo) (C := R_K) (T := F_K) (N := 8) hx hb hts iw_K hown hK hP 0 rfl rfl 2 (by decide) (hts _ tw_44) (fun _ h9 => h9) rfl d_K_alike_111 ?_
                      refine lv_iload_n hx hb d_K_alike_114 rfl (lv_at hl 1 rfl) ?_
                      refine xl_ald hx hb hK hP 1 0 rfl rfl (k := t) (by omega) (by first | decide | omega) d_K_alike_115 ?_
                      refine xl_mul hx hb d_K_alike_116 ?_
                      refine xl_eq (tgt := 123) hx hb (by first | exact lB_of (mulB (hF _ (by omega)) (hKb _ (by omega))) (by decide) | exact lB_of (mulB (hKb _ (by omega)) (hF _ (by omega))) (by decide)) (by first | exact lB_of (mulB (hF _ (by omega)) (hKb _ (by omega))) (by decide) | exact lB_of (mulB (hKb _ (by omega)) (hF _ (by omega))) (by decide)) d_K_alike_117 d_K_alike_118 (by decide) (fun c118_12 => ?_) (fun c118_12 => ?_)
                      · skip
                        refine lv_iinc (v := nI (i + 1)) (lv' := [(2, .int (nI (i + 1))), (0, .ref h), (1, .int (nI t))]) hx hb d_K_alike_123 hl (k := 2) rfl (nI_add _ _) (by decide) rfl (fun ls hl => ?_)
                        refine lv_goto (tgt := 85) hx hb d_K_alike_126 (by decide) ?_
                        exact ih_85 (i + 1) H locs ls (by omega) (fun k hk => by by_cases q : k = i; rw [q]; exact c118_12; exact h1 k (by omega)) (by omega) hP hD hS (lv_sub hl [1, 2, 0] rfl)
                      · skip
                        refine lv_iconst (v := nI 0) hx hb d_K_alike_121 (by decide) ?_
                        exact hret H locs _ ls (nI 0) () d_K_alike_122 (by unfold s_alk; rw [if_neg (show ¬ kb.toInt = 0 from c4_0),  bz_f (fun q => c118_12 (q.1 i t (by omega) (by omega)))]) hP hD hS
                exact lp_85 ((16 - 0) + 1) 0 H locs ls (Nat.zero_le _) (fun k h => absurd h (Nat.not_lt_zero _)) (by omega) hP hD hS (lv_sub hl [1, 2, 0] rfl)
          · skip
            refine lv_aload_n hx hb d_K_alike_18 rfl (lv_at hl 0 rfl) ?_
            refine va_get (D := D) (ci := 1) (v := .ref ke) (C := R_K) (T := F_K) (N := 8) hx hb hts iw_K hown hK hP 0 rfl rfl 3 (by decide) (hts _ tw_45) (fun _ h9 => h9) rfl d_K_alike_19 ?_
            refine lv_iload_n hx hb d_K_alike_22 rfl (lv_at hl 1 rfl) ?_
            refine xl_ald hx hb hK hP 2 0 rfl rfl (k := t) (by omega) (by first | decide | omega) d_K_alike_23 ?_
            refine lv_lconst (v := lI 0) hx hb d_K_alike_24 (by decide) ?_
            refine xl_ne (tgt := 46) hx hb (lB_of (hKb _ (by omega)) (by decide)) ⟨by decide, by decide⟩ d_K_alike_25 d_K_alike_26 (by decide) (fun c26_13 => ?_) (fun c26_13 => ?_)
            · skip
              refine lv_aload_n hx hb d_K_alike_46 rfl (lv_at hl 0 rfl) ?_
              refine va_get (D := D) (ci := 1) (v := .ref ke) (C := R_K) (T := F_K) (N := 8) hx hb hts iw_K hown hK hP 0 rfl rfl 3 (by decide) (hts _ tw_45) (fun _ h9 => h9) rfl d_K_alike_47 ?_
              refine lv_iload_n hx hb d_K_alike_50 rfl (lv_at hl 1 rfl) ?_
              refine xl_ald hx hb hK hP 2 0 rfl rfl (k := t) (by omega) (by first | decide | omega) d_K_alike_51 ?_
              refine lv_lconst (v := lI 0) hx hb d_K_alike_52 (by decide) ?_
              refine xl_ne (tgt := 61) hx hb (lB_of (hKb _ (by omega)) (by decide)) ⟨by decide, by decide⟩ d_K_alike_53 d_K_alike_54 (by decide) (fun c54_14 => ?_) (fun c54_14 => absurd c54_14 (by omega))
              refine lv_iconst (v := nI 0) hx hb d_K_alike_61 (by decide) ?_
              refine lv_aload_n hx hb d_K_alike_62 rfl (lv_at hl 0 rfl) ?_
              refine va_get (D := D) (ci := 1) (v := .ref fo) (C := R_K) (T := F_K) (N := 8) hx hb hts iw_K hown hK hP 0 rfl rfl 2 (by decide) (hts _ tw_44) (fun _ h9 => h9) rfl d_K_alike_63 ?_
              refine lv_iload_n hx hb d_K_alike_66 rfl (lv_at hl 1 rfl) ?_
              refine xl_ald hx hb hK hP 1 0 rfl rfl (k := t) (by omega) (by first | decide | omega) d_K_alike_67 ?_
              refine lv_lconst (v := lI 0) hx hb d_K_alike_68 (by decide) ?_
              refine xl_ne (tgt := 77) hx hb (lB_of (hF _ (by omega)) (by decide)) ⟨by decide, by decide⟩ d_K_alike_69 d_K_alike_70 (by decide) (fun c70_15 => ?_) (fun c70_15 => ?_)
              · skip
                refine lv_iconst (v := nI 0) hx hb d_K_alike_77 (by decide) ?_
                refine xn_eq (tgt := 83) hx hb (by omega) (by omega) d_K_alike_78 (by decide) (fun c78_16 => ?_) (fun c78_16 => absurd c78_16 (by decide))
                refine lv_iconst (v := nI 0) hx hb d_K_alike_83 (by decide) ?_
                refine lv_istore_n (lv' := [(2, .int (nI 0)), (0, .ref h), (1, .int (nI t))]) hx hb d_K_alike_84 rfl hl (by decide) rfl (fun ls hl => ?_)
                have lp_85 : ∀ (n_85 : Nat) (i : Nat) (H : Heap) (locs : List Loc) (ls : Array Slot), (i ≤ 16) → (∀ k, k < i → Fm k * Kp t = Kp k * Fm t) → (16 - i) < n_85 → va_P D vwC [(h, .inr (1, [.int (nI d), .int kb, .ref fo, .ref ke, .ref ht, .ref wo, .ref fi, .ref se])), (fo, LA cJ 16 Fm), (ke, LA cJ 16 Kp)] H → va_D A [(h, .inr (1, [.int (nI d), .int kb, .ref fo, .ref ke, .ref ht, .ref wo, .ref fi, .ref se])), (fo, LA cJ 16 Fm), (ke, LA cJ 16 Kp)] → va_S A s.heap H locs → lv_has ls 3 [(0, .ref h), (1, .int (nI t)), (2, .int (nI i))] → W p l e rm_k_alike s m args below meth c H locs 0 0 Q (F0 m 85 ls []) := by
                  intro n_85
                  induction n_85 with
                  | zero => intro i H locs ls hi h1 hn_85; exact absurd hn_85 (Nat.not_lt_zero _)
                  | succ n_85 ih_85 =>
                    intro i H locs ls hi h1 hn_85 hP hD hS hl
                    refine lv_iload_n hx hb d_K_alike_85 rfl (lv_at hl 2 rfl) ?_
                    refine lv_bipush (v := nI 16) hx hb d_K_alike_86 (by decide) ?_
                    refine xn_ge (tgt := 129) hx hb (by omega) (by omega) d_K_alike_88 (by decide) (fun c88_17 => ?_) (fun c88_17 => ?_)
                    · skip
                      refine lv_iconst (v := nI 1) hx hb d_K_alike_129 (by decide) ?_
                      exact hret H locs _ ls (nI 1) () d_K_alike_130 (by unfold s_alk; rw [if_neg (show ¬ kb.toInt = 0 from c4_0),  bz_t (alk_1 (t := t) (by omega) c54_14 c70_15 (fun k hk => h1 k (by omega)))]) hP hD hS
                    · skip
                      refine lv_aload_n hx hb d_K_alike_91 rfl (lv_at hl 0 rfl) ?_
                      refine va_get (D := D) (ci := 1) (v := .ref fo) (C := R_K) (T := F_K) (N := 8) hx hb hts iw_K hown hK hP 0 rfl rfl 2 (by decide) (hts _ tw_44) (fun _ h9 => h9) rfl d_K_alike_92 ?_
                      refine lv_iload_n hx hb d_K_alike_95 rfl (lv_at hl 2 rfl) ?_
                      refine xl_ald hx hb hK hP 1 0 rfl rfl (k := i) (by omega) (by first | decide | omega) d_K_alike_96 ?_
                      refine lv_aload_n hx hb d_K_alike_97 rfl (lv_at hl 0 rfl) ?_
                      refine va_get (D := D) (ci := 1) (v := .ref ke) (C := R_K) (T := F_K) (N := 8) hx hb hts iw_K hown hK hP 0 rfl rfl 3 (by decide) (hts _ tw_45) (fun _ h9 => h9) rfl d_K_alike_98 ?_
                      refine lv_iload_n hx hb d_K_alike_101 rfl (lv_at hl 1 rfl) ?_
                      refine xl_ald hx hb hK hP 2 0 rfl rfl (k := t) (by omega) (by first | decide | omega) d_K_alike_102 ?_
                      refine xl_mul hx hb d_K_alike_103 ?_
                      refine lv_aload_n hx hb d_K_alike_104 rfl (lv_at hl 0 rfl) ?_
                      refine va_get (D := D) (ci := 1) (v := .ref ke) (C := R_K) (T := F_K) (N := 8) hx hb hts iw_K hown hK hP 0 rfl rfl 3 (by decide) (hts _ tw_45) (fun _ h9 => h9) rfl d_K_alike_105 ?_
                      refine lv_iload_n hx hb d_K_alike_108 rfl (lv_at hl 2 rfl) ?_
                      refine xl_ald hx hb hK hP 2 0 rfl rfl (k := i) (by omega) (by first | decide | omega) d_K_alike_109 ?_
                      refine lv_aload_n hx hb d_K_alike_110 rfl (lv_at hl 0 rfl) ?_
                      refine va_get (D := D) (ci := 1) (v := .ref fo) (C := R_K) (T := F_K) (N := 8) hx hb hts iw_K hown hK hP 0 rfl rfl 2 (by decide) (hts _ tw_44) (fun _ h9 => h9) rfl d_K_alike_111 ?_
                      refine lv_iload_n hx hb d_K_alike_114 rfl (lv_at hl 1 rfl) ?_
                      refine xl_ald hx hb hK hP 1 0 rfl rfl (k := t) (by omega) (by first | decide | omega) d_K_alike_115 ?_
                      refine xl_mul hx hb d_K_alike_116 ?_
                      refine xl_eq (tgt := 123) hx hb (by first | exact lB_of (mulB (hF _ (by omega)) (hKb _ (by omega))) (by decide) | exact lB_of (mulB (hKb _ (by omega)) (hF _ (by omega))) (by decide)) (by first | exact lB_of (mulB (hF _ (by omega)) (hKb _ (by omega))) (by decide) | exact lB_of (mulB (hKb _ (by omega)) (hF _ (by omega))) (by decide)) d_K_alike_117 d_K_alike_118 (by decide) (fun c118_18 => ?_) (fun c118_18 => ?_)
                      · skip
                        refine lv_iinc (v := nI (i + 1)) (lv' := [(2, .int (nI (i + 1))), (0, .ref h), (1, .int (nI t))]) hx hb d_K_alike_123 hl (k := 2) rfl (nI_add _ _) (by decide) rfl (fun ls hl => ?_)
                        refine lv_goto (tgt := 85) hx hb d_K_alike_126 (by decide) ?_
                        exact ih_85 (i + 1) H locs ls (by omega) (fun k hk => by by_cases q : k = i; rw [q]; exact c118_18; exact h1 k (by omega)) (by omega) hP hD hS (lv_sub hl [1, 2, 0] rfl)
                      · skip
                        refine lv_iconst (v := nI 0) hx hb d_K_alike_121 (by decide) ?_
                        exact hret H locs _ ls (nI 0) () d_K_alike_122 (by unfold s_alk; rw [if_neg (show ¬ kb.toInt = 0 from c4_0),  bz_f (fun q => c118_18 (q.1 i t (by omega) (by omega)))]) hP hD hS
                exact lp_85 ((16 - 0) + 1) 0 H locs ls (Nat.zero_le _) (fun k h => absurd h (Nat.not_lt_zero _)) (by omega) hP hD hS (lv_sub hl [1, 2, 0] rfl)
              · skip
                refine lv_iconst (v := nI 1) hx hb d_K_alike_73 (by decide) ?_
                refine lv_goto (tgt := 78) hx hb d_K_alike_74 (by decide) ?_
                refine xn_eq (tgt := 83) hx hb (by omega) (by omega) d_K_alike_78 (by decide) (fun c78_19 => absurd c78_19 (by decide)) (fun c78_19 => ?_)
                refine lv_iconst (v := nI 0) hx hb d_K_alike_81 (by decide) ?_
                exact hret H locs _ ls (nI 0) () d_K_alike_82 (by unfold s_alk; rw [if_neg (show ¬ kb.toInt = 0 from c4_0),  bz_f (alk_ne (t := t) (by omega) (by omega))]) hP hD hS
            · skip
              refine lv_aload_n hx hb d_K_alike_29 rfl (lv_at hl 0 rfl) ?_
              refine va_get (D := D) (ci := 1) (v := .ref fo) (C := R_K) (T := F_K) (N := 8) hx hb hts iw_K hown hK hP 0 rfl rfl 2 (by decide) (hts _ tw_44) (fun _ h9 => h9) rfl d_K_alike_30 ?_
              refine lv_iload_n hx hb d_K_alike_33 rfl (lv_at hl 1 rfl) ?_
              refine xl_ald hx hb hK hP 1 0 rfl rfl (k := t) (by omega) (by first | decide | omega) d_K_alike_34 ?_
              refine lv_lconst (v := lI 0) hx hb d_K_alike_35 (by decide) ?_
              refine xl_ne (tgt := 46) hx hb (lB_of (hF _ (by omega)) (by decide)) ⟨by decide, by decide⟩ d_K_alike_36 d_K_alike_37 (by decide) (fun c37_20 => ?_) (fun c37_20 => ?_)
              · skip
                refine lv_aload_n hx hb d_K_alike_46 rfl (lv_at hl 0 rfl) ?_
                refine va_get (D := D) (ci := 1) (v := .ref ke) (C := R_K) (T := F_K) (N := 8) hx hb hts iw_K hown hK hP 0 rfl rfl 3 (by decide) (hts _ tw_45) (fun _ h9 => h9) rfl d_K_alike_47 ?_
                refine lv_iload_n hx hb d_K_alike_50 rfl (lv_at hl 1 rfl) ?_
                refine xl_ald hx hb hK hP 2 0 rfl rfl (k := t) (by omega) (by first | decide | omega) d_K_alike_51 ?_
                refine lv_lconst (v := lI 0) hx hb d_K_alike_52 (by decide) ?_
                refine xl_ne (tgt := 61) hx hb (lB_of (hKb _ (by omega)) (by decide)) ⟨by decide, by decide⟩ d_K_alike_53 d_K_alike_54 (by decide) (fun c54_21 => ?_) (fun c54_21 => ?_)
                · skip
                  refine lv_iconst (v := nI 0) hx hb d_K_alike_61 (by decide) ?_
                  refine lv_aload_n hx hb d_K_alike_62 rfl (lv_at hl 0 rfl) ?_
                  refine va_get (D := D) (ci := 1) (v := .ref fo) (C := R_K) (T := F_K) (N := 8) hx hb hts iw_K hown hK hP 0 rfl rfl 2 (by decide) (hts _ tw_44) (fun _ h9 => h9) rfl d_K_alike_63 ?_
                  refine lv_iload_n hx hb d_K_alike_66 rfl (lv_at hl 1 rfl) ?_
                  refine xl_ald hx hb hK hP 1 0 rfl rfl (k := t) (by omega) (by first | decide | omega) d_K_alike_67 ?_
                  refine lv_lconst (v := lI 0) hx hb d_K_alike_68 (by decide) ?_
                  refine xl_ne (tgt := 77) hx hb (lB_of (hF _ (by omega)) (by decide)) ⟨by decide, by decide⟩ d_K_alike_69 d_K_alike_70 (by decide) (fun c70_22 => ?_) (fun c70_22 => absurd c70_22 (by omega))
                  refine lv_iconst (v := nI 0) hx hb d_K_alike_77 (by decide) ?_
                  refine xn_eq (tgt := 83) hx hb (by omega) (by omega) d_K_alike_78 (by decide) (fun c78_23 => ?_) (fun c78_23 => absurd c78_23 (by decide))
                  refine lv_iconst (v := nI 0) hx hb d_K_alike_83 (by decide) ?_
                  refine lv_istore_n (lv' := [(2, .int (nI 0)), (0, .ref h), (1, .int (nI t))]) hx hb d_K_alike_84 rfl hl (by decide) rfl (fun ls hl => ?_)
                  have lp_85 : ∀ (n_85 : Nat) (i : Nat) (H : Heap) (locs : List Loc) (ls : Array Slot), (i ≤ 16) → (∀ k, k < i → Fm k * Kp t = Kp k * Fm t) → (16 - i) < n_85 → va_P D vwC [(h, .inr (1, [.int (nI d), .int kb, .ref fo, .ref ke, .ref ht, .ref wo, .ref fi, .ref se])), (fo, LA cJ 16 Fm), (ke, LA cJ 16 Kp)] H → va_D A [(h, .inr (1, [.int (nI d), .int kb, .ref fo, .ref ke, .ref ht, .ref wo, .ref fi, .ref se])), (fo, LA cJ 16 Fm), (ke, LA cJ 16 Kp)] → va_S A s.heap H locs → lv_has ls 3 [(0, .ref h), (1, .int (nI t)), (2, .int (nI i))] → W p l e rm_k_alike s m args below meth c H locs 0 0 Q (F0 m 85 ls []) := by
                    intro n_85
                    induction n_85 with
                    | zero => intro i H locs ls hi h1 hn_85; exact absurd hn_85 (Nat.not_lt_zero _)
                    | succ n_85 ih_85 =>
                      intro i H locs ls hi h1 hn_85 hP hD hS hl
                      refine lv_iload_n hx hb d_K_alike_85 rfl (lv_at hl 2 rfl) ?_
                      refine lv_bipush (v := nI 16) hx hb d_K_alike_86 (by decide) ?_
                      refine xn_ge (tgt := 129) hx hb (by omega) (by omega) d_K_alike_88 (by decide) (fun c88_24 => ?_) (fun c88_24 => ?_)
                      · skip
                        refine lv_iconst (v := nI 1) hx hb d_K_alike_129 (by decide) ?_
                        exact hret H locs _ ls (nI 1) () d_K_alike_130 (by unfold s_alk; rw [if_neg (show ¬ kb.toInt = 0 from c4_0),  bz_t (alk_1 (t := t) (by omega) c54_21 c70_22 (fun k hk => h1 k (by omega)))]) hP hD hS
                      · skip
                        refine lv_aload_n hx hb d_K_alike_91 rfl (lv_at hl 0 rfl) ?_
                        refine va_get (D := D) (ci := 1) (v := .ref fo) (C := R_K) (T := F_K) (N := 8) hx hb hts iw_K hown hK hP 0 rfl rfl 2 (by decide) (hts _ tw_44) (fun _ h9 => h9) rfl d_K_alike_92 ?_
                        refine lv_iload_n hx hb d_K_alike_95 rfl (lv_at hl 2 rfl) ?_
                        refine xl_ald hx hb hK hP 1 0 rfl rfl (k := i) (by omega) (by first | decide | omega) d_K_alike_96 ?_
                        refine lv_aload_n hx hb d_K_alike_97 rfl (lv_at hl 0 rfl) ?_
                        refine va_get (D := D) (ci := 1) (v := .ref ke) (C := R_K) (T := F_K) (N := 8) hx hb hts iw_K hown hK hP 0 rfl rfl 3 (by decide) (hts _ tw_45) (fun _ h9 => h9) rfl d_K_alike_98 ?_
                        refine lv_iload_n hx hb d_K_alike_101 rfl (lv_at hl 1 rfl) ?_
                        refine xl_ald hx hb hK hP 2 0 rfl rfl (k := t) (by omega) (by first | decide | omega) d_K_alike_102 ?_
                        refine xl_mul hx hb d_K_alike_103 ?_
                        refine lv_aload_n hx hb d_K_alike_104 rfl (lv_at hl 0 rfl) ?_
                        refine va_get (D := D) (ci := 1) (v := .ref ke) (C := R_K) (T := F_K) (N := 8) hx hb hts iw_K hown hK hP 0 rfl rfl 3 (by decide) (hts _ tw_45) (fun _ h9 => h9) rfl d_K_alike_105 ?_
                        refine lv_iload_n hx hb d_K_alike_108 rfl (lv_at hl 2 rfl) ?_
                        refine xl_ald hx hb hK hP 2 0 rfl rfl (k := i) (by omega) (by first | decide | omega) d_K_alike_109 ?_
                        refine lv_aload_n hx hb d_K_alike_110 rfl (lv_at hl 0 rfl) ?_
                        refine va_get (D := D) (ci := 1) (v := .ref fo) (C := R_K) (T := F_K) (N := 8) hx hb hts iw_K hown hK hP 0 rfl rfl 2 (by decide) (hts _ tw_44) (fun _ h9 => h9) rfl d_K_alike_111 ?_
                        refine lv_iload_n hx hb d_K_alike_114 rfl (lv_at hl 1 rfl) ?_
                        refine xl_ald hx hb hK hP 1 0 rfl rfl (k := t) (by omega) (by first | decide | omega) d_K_alike_115 ?_
                        refine xl_mul hx hb d_K_alike_116 ?_
                        refine xl_eq (tgt := 123) hx hb (by first | exact lB_of (mulB (hF _ (by omega)) (hKb _ (by omega))) (by decide) | exact lB_of (mulB (hKb _ (by omega)) (hF _ (by omega))) (by decide)) (by first | exact lB_of (mulB (hF _ (by omega)) (hKb _ (by omega))) (by decide) | exact lB_of (mulB (hKb _ (by omega)) (hF _ (by omega))) (by decide)) d_K_alike_117 d_K_alike_118 (by decide) (fun c118_25 => ?_) (fun c118_25 => ?_)
                        · skip
                          refine lv_iinc (v := nI (i + 1)) (lv' := [(2, .int (nI (i + 1))), (0, .ref h), (1, .int (nI t))]) hx hb d_K_alike_123 hl (k := 2) rfl (nI_add _ _) (by decide) rfl (fun ls hl => ?_)
                          refine lv_goto (tgt := 85) hx hb d_K_alike_126 (by decide) ?_
                          exact ih_85 (i + 1) H locs ls (by omega) (fun k hk => by by_cases q : k = i; rw [q]; exact c118_25; exact h1 k (by omega)) (by omega) hP hD hS (lv_sub hl [1, 2, 0] rfl)
                        · skip
                          refine lv_iconst (v := nI 0) hx hb d_K_alike_121 (by decide) ?_
                          exact hret H locs _ ls (nI 0) () d_K_alike_122 (by unfold s_alk; rw [if_neg (show ¬ kb.toInt = 0 from c4_0),  bz_f (fun q => c118_25 (q.1 i t (by omega) (by omega)))]) hP hD hS
                  exact lp_85 ((16 - 0) + 1) 0 H locs ls (Nat.zero_le _) (fun k h => absurd h (Nat.not_lt_zero _)) (by omega) hP hD hS (lv_sub hl [1, 2, 0] rfl)
                · skip
                  refine lv_iconst (v := nI 1) hx hb d_K_alike_57 (by decide) ?_
                  refine lv_goto (tgt := 62) hx hb d_K_alike_58 (by decide) ?_
                  refine lv_aload_n hx hb d_K_alike_62 rfl (lv_at hl 0 rfl) ?_
                  refine va_get (D := D) (ci := 1) (v := .ref fo) (C := R_K) (T := F_K) (N := 8) hx hb hts iw_K hown hK hP 0 rfl rfl 2 (by decide) (hts _ tw_44) (fun _ h9 => h9) rfl d_K_alike_63 ?_
                  refine lv_iload_n hx hb d_K_alike_66 rfl (lv_at hl 1 rfl) ?_
                  refine xl_ald hx hb hK hP 1 0 rfl rfl (k := t) (by omega) (by first | decide | omega) d_K_alike_67 ?_
                  refine lv_lconst (v := lI 0) hx hb d_K_alike_68 (by decide) ?_
                  refine xl_ne (tgt := 77) hx hb (lB_of (hF _ (by omega)) (by decide)) ⟨by decide, by decide⟩ d_K_alike_69 d_K_alike_70 (by decide) (fun c70_26 => ?_) (fun c70_26 => absurd c70_26 (by omega))
                  refine lv_iconst (v := nI 0) hx hb d_K_alike_77 (by decide) ?_
                  refine xn_eq (tgt := 83) hx hb (by omega) (by omega) d_K_alike_78 (by decide) (fun c78_27 => absurd c78_27 (by decide)) (fun c78_27 => ?_)
                  refine lv_iconst (v := nI 0) hx hb d_K_alike_81 (by decide) ?_
                  exact hret H locs _ ls (nI 0) () d_K_alike_82 (by unfold s_alk; rw [if_neg (show ¬ kb.toInt = 0 from c4_0),  bz_f (alk_ne (t := t) (by omega) (by omega))]) hP hD hS
              · skip
                refine lv_iinc (v := nI (t + 1)) (lv' := [(1, .int (nI (t + 1))), (0, .ref h)]) hx hb d_K_alike_40 hl (k := 1) rfl (nI_add _ _) (by decide) rfl (fun ls hl => ?_)
                refine lv_goto (tgt := 12) hx hb d_K_alike_43 (by decide) ?_
                exact ih_12 (t + 1) H locs ls (by omega) (fun k hk => by by_cases q : k = t; rw [q]; exact ⟨c26_13, c37_20⟩; exact hz k (by omega)) (by omega) hP hD hS (lv_sub hl [1, 0] rfl)
      exact lp_12 ((15 - 0) + 1) 0 H locs ls (Nat.zero_le _) (fun k h => absurd h (Nat.not_lt_zero _)) (by omega) hP hD hS (lv_sub hl [1, 0] rfl)
    · skip
      refine lv_bipush (v := (-3)) hx hb d_K_alike_7 (by decide) ?_
      exact hret H locs _ ls (-3) () d_K_alike_9 (by unfold s_alk; rw [if_pos c4_0]) hP hD hS
  rw [hH, hlc] at key; exact key
