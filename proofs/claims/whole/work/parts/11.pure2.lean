/-! pure words for the calls of the face, bounds, congruences (adjM_B printed by program) -/
theorem upN_congr {U V : Nat → Int} {r : Nat} (h2 : 2 ≤ r) (h4 : r ≤ 4) (h : ∀ a b, a < r → b < r → U (4 * a + b) = V (4 * a + b)) : upN U r = upN V r :=
  chgA_congr r 1 (fun k hk => by unfold cO eT; rw [eS_congr h2 h4 h (r - k) (Nat.sub_le _ _)])
theorem rkN_congr {U V : Nat → Int} {r : Nat} (h2 : 2 ≤ r) (h4 : r ≤ 4) (h : ∀ a b, a < r → b < r → U (4 * a + b) = V (4 * a + b)) : rkN U r = rkN V r := by
  have e : ∀ k, k < r → cO U r k = cO V r k := fun k hk => by unfold cO eT; rw [eS_congr h2 h4 h (r - k) (Nat.sub_le _ _)]
  unfold rkN
  rw [zerN_congr e r (Nat.le_refl _)]
theorem dwN_congr {U V : Nat → Int} {r : Nat} (h2 : 2 ≤ r) (h4 : r ≤ 4) (h : ∀ a b, a < r → b < r → U (4 * a + b) = V (4 * a + b)) : dwN U r = dwN V r := by
  unfold dwN; rw [rkN_congr h2 h4 h, upN_congr h2 h4 h]
theorem prt_congr {S G : Nat → Int} {f r : Nat} (h4 : r ≤ 4) (h : ∀ a b, a < r → b < r → S (4 * (f + a) + (f + b)) = G (4 * (f + a) + (f + b))) : ∀ a b, a < r → b < r → prt S f (4 * a + b) = prt G f (4 * a + b) := by
  intro a b ha hb
  unfold prt
  rw [q4d a (show b < 4 by omega), q4m a (show b < 4 by omega)]
  exact h a b ha hb
theorem kindN_congr {S G : Nat → Int} {d : Nat} (h2 : 2 ≤ d) (h3 : d ≤ 3) (h : ∀ a b, a ≤ d → b ≤ d → S (4 * a + b) = G (4 * a + b)) : kindN S d = kindN G d := by
  have h1 := prt_congr (S := S) (G := G) (f := 1) (r := d) (by omega) (fun a b ha hb => h _ _ (by omega) (by omega))
  have h0 := prt_congr (S := S) (G := G) (f := 0) (r := d + 1) (by omega) (fun a b ha hb => h _ _ (by omega) (by omega))
  unfold kindN
  rw [upN_congr h2 (by omega) h1, dwN_congr h2 (by omega) h1, upN_congr (by omega) (by omega) h0, dwN_congr (by omega) (by omega) h0]
theorem rowN_congr {Fm L G : Nat → Int} {i : Nat} : ∀ {n : Nat}, (∀ k, k < n → L k = G k) → rowN Fm L i n = rowN Fm G i n
  | 0, _ => rfl
  | n + 1, h => by
    show rowN Fm L i n + _ = rowN Fm G i n + _
    rw [rowN_congr (n := n) (fun k hk => h k (by omega)), h n (by omega)]
theorem frmN_congr {Fm L L2 G G2 : Nat → Int} {d : Nat} (hg : ∀ k, k ≤ d → G k = G2 k) : ∀ {n : Nat}, n ≤ d + 1 → (∀ k, k < n → L k = L2 k) → frmN Fm L G d n = frmN Fm L2 G2 d n
  | 0, _, _ => rfl
  | n + 1, hn, h => by
    show frmN Fm L G d n + _ = frmN Fm L2 G2 d n + _
    rw [frmN_congr hg (n := n) (by omega) (fun k hk => h k (by omega)), h n (by omega), rowN_congr (fun k hk => hg k (by omega))]
theorem rowN_B {Fm G : Nat → Int} {B : Int} {i : Nat} (hi : i ≤ 3) (hF : ∀ k, k < 16 → inB (Fm k) 20) (hG : ∀ k, k < 4 → inB (G k) B) : ∀ {n : Nat}, n ≤ 4 → inB (rowN Fm G i n) ((n : Int) * (20 * B))
  | 0, _ => by show inB 0 (0 * _); rw [Int.zero_mul]; exact ⟨by decide, by decide⟩
  | n + 1, h => by
    have e := addB (rowN_B hi hF hG (n := n) (by omega)) (mulB (hF (4 * i + n) (by omega)) (hG n (by omega)))
    have q : ((n + 1 : Nat) : Int) * (20 * B) = (n : Int) * (20 * B) + 20 * B := by
      rw [Int.natCast_add, Int.add_mul]; simp
    rw [q]; exact e
theorem frmN_B {Fm L G : Nat → Int} {A B : Int} {d : Nat} (hd : d ≤ 3) (hF : ∀ k, k < 16 → inB (Fm k) 20) (hL : ∀ k, k < 4 → inB (L k) A) (hG : ∀ k, k < 4 → inB (G k) B) : ∀ {n : Nat}, n ≤ 4 → inB (frmN Fm L G d n) ((n : Int) * (A * (((d + 1 : Nat) : Int) * (20 * B))))
  | 0, _ => by show inB 0 (0 * _); rw [Int.zero_mul]; exact ⟨by decide, by decide⟩
  | n + 1, h => by
    have e := addB (frmN_B hd hF hL hG (n := n) (by omega)) (mulB (hL n (by omega)) (rowN_B (i := n) (by omega) hF hG (n := d + 1) (by omega)))
    have q : ∀ X : Int, ((n + 1 : Nat) : Int) * X = (n : Int) * X + X := by
      intro X; rw [Int.natCast_add, Int.add_mul]; simp
    rw [q]; exact e
theorem gcdN_congr {G G2 : Nat → Int} : ∀ {n : Nat}, (∀ k, k < n → G k = G2 k) → gcdN G n = gcdN G2 n
  | 0, _ => rfl
  | n + 1, h => by
    show Nat.gcd (gcdN G n) _ = Nat.gcd (gcdN G2 n) _
    rw [gcdN_congr (n := n) (fun k hk => h k (by omega)), h n (by omega)]
theorem leadN_congr {G G2 : Nat → Int} : ∀ {n : Nat}, (∀ k, k < n → G k = G2 k) → leadN G n = leadN G2 n
  | 0, _ => rfl
  | n + 1, h => by
    show (if leadN G n = 0 then G n else leadN G n) = (if leadN G2 n = 0 then G2 n else leadN G2 n)
    rw [leadN_congr (n := n) (fun k hk => h k (by omega)), h n (by omega)]
theorem dvN_congr {G G2 : Nat → Int} {n : Nat} (h : ∀ k, k < n → G k = G2 k) : dvN G n = dvN G2 n := by
  unfold dvN; rw [leadN_congr h, gcdN_congr h]
/-- a row without divisor: its number i -/
def woN (G : Nat → Int) (n i : Nat) : Int := if gcdN G n = 0 then NOZ else (G i).tdiv (dvN G n)
theorem woN_congr {G G2 : Nat → Int} {n i : Nat} (hi : i < n) (h : ∀ k, k < n → G k = G2 k) : woN G n i = woN G2 n i := by
  unfold woN; rw [gcdN_congr h, dvN_congr h, h i hi]
def midN (Fm : Nat → Int) (d a : Nat) : Nat → Int
  | 0 => 0
  | j + 1 => midN Fm d a j - adjM (prt Fm 1) d a j * Fm (4 * (j + 1) + 0)
def tchJ (U u : Nat → Int) (r i : Nat) : Nat → Int
  | 0 => 0
  | j + 1 => tchJ U u r i j + u i * adjM U r i j * u j
def tchN (U u : Nat → Int) (r : Nat) : Nat → Int
  | 0 => 0
  | i + 1 => tchN U u r i + tchJ U u r i r
theorem adjM_B {U : Nat → Int} {r i j : Nat} (h2 : 2 ≤ r) (h4 : r ≤ 4) (hi : i < r) (hj : j < r) (h : enB U r 20) : inB (adjM U r i j) 48000 := by
  match r, i, j, h2, h4, hi, hj, h with
  | 2, 0, 0, _, _, _, _, h => exact leB (h 1 1 (by decide) (by decide)) (by decide)
  | 2, 0, 1, _, _, _, _, h => exact leB (negB (h 0 1 (by decide) (by decide))) (by decide)
  | 2, 1, 0, _, _, _, _, h => exact leB (negB (h 1 0 (by decide) (by decide))) (by decide)
  | 2, 1, 1, _, _, _, _, h => exact leB (h 0 0 (by decide) (by decide)) (by decide)
  | 3, 0, 0, _, _, _, _, h => exact leB (m2_B h (by decide) (by decide) (by decide) (by decide)) (by decide)
  | 3, 0, 1, _, _, _, _, h => exact leB (negB (m2_B h (by decide) (by decide) (by decide) (by decide))) (by decide)
  | 3, 0, 2, _, _, _, _, h => exact leB (m2_B h (by decide) (by decide) (by decide) (by decide)) (by decide)
  | 3, 1, 0, _, _, _, _, h => exact leB (negB (m2_B h (by decide) (by decide) (by decide) (by decide))) (by decide)
  | 3, 1, 1, _, _, _, _, h => exact leB (m2_B h (by decide) (by decide) (by decide) (by decide)) (by decide)
  | 3, 1, 2, _, _, _, _, h => exact leB (negB (m2_B h (by decide) (by decide) (by decide) (by decide))) (by decide)
  | 3, 2, 0, _, _, _, _, h => exact leB (m2_B h (by decide) (by decide) (by decide) (by decide)) (by decide)
  | 3, 2, 1, _, _, _, _, h => exact leB (negB (m2_B h (by decide) (by decide) (by decide) (by decide))) (by decide)
  | 3, 2, 2, _, _, _, _, h => exact leB (m2_B h (by decide) (by decide) (by decide) (by decide)) (by decide)
  | 4, 0, 0, _, _, _, _, h => exact leB (m3_B h (by decide) (by decide) (by decide) (by decide) (by decide) (by decide)) (by decide)
  | 4, 0, 1, _, _, _, _, h => exact leB (negB (m3_B h (by decide) (by decide) (by decide) (by decide) (by decide) (by decide))) (by decide)
  | 4, 0, 2, _, _, _, _, h => exact leB (m3_B h (by decide) (by decide) (by decide) (by decide) (by decide) (by decide)) (by decide)
  | 4, 0, 3, _, _, _, _, h => exact leB (negB (m3_B h (by decide) (by decide) (by decide) (by decide) (by decide) (by decide))) (by decide)
  | 4, 1, 0, _, _, _, _, h => exact leB (negB (m3_B h (by decide) (by decide) (by decide) (by decide) (by decide) (by decide))) (by decide)
  | 4, 1, 1, _, _, _, _, h => exact leB (m3_B h (by decide) (by decide) (by decide) (by decide) (by decide) (by decide)) (by decide)
  | 4, 1, 2, _, _, _, _, h => exact leB (negB (m3_B h (by decide) (by decide) (by decide) (by decide) (by decide) (by decide))) (by decide)
  | 4, 1, 3, _, _, _, _, h => exact leB (m3_B h (by decide) (by decide) (by decide) (by decide) (by decide) (by decide)) (by decide)
  | 4, 2, 0, _, _, _, _, h => exact leB (m3_B h (by decide) (by decide) (by decide) (by decide) (by decide) (by decide)) (by decide)
  | 4, 2, 1, _, _, _, _, h => exact leB (negB (m3_B h (by decide) (by decide) (by decide) (by decide) (by decide) (by decide))) (by decide)
  | 4, 2, 2, _, _, _, _, h => exact leB (m3_B h (by decide) (by decide) (by decide) (by decide) (by decide) (by decide)) (by decide)
  | 4, 2, 3, _, _, _, _, h => exact leB (negB (m3_B h (by decide) (by decide) (by decide) (by decide) (by decide) (by decide))) (by decide)
  | 4, 3, 0, _, _, _, _, h => exact leB (negB (m3_B h (by decide) (by decide) (by decide) (by decide) (by decide) (by decide))) (by decide)
  | 4, 3, 1, _, _, _, _, h => exact leB (m3_B h (by decide) (by decide) (by decide) (by decide) (by decide) (by decide)) (by decide)
  | 4, 3, 2, _, _, _, _, h => exact leB (negB (m3_B h (by decide) (by decide) (by decide) (by decide) (by decide) (by decide))) (by decide)
  | 4, 3, 3, _, _, _, _, h => exact leB (m3_B h (by decide) (by decide) (by decide) (by decide) (by decide) (by decide)) (by decide)
  | 2, n + 2, _, _, _, h, _, _ => exact absurd h (by omega)
  | 2, 0, n + 2, _, _, _, h, _ => exact absurd h (by omega)
  | 2, 1, n + 2, _, _, _, h, _ => exact absurd h (by omega)
  | 3, n + 3, _, _, _, h, _, _ => exact absurd h (by omega)
  | 3, 0, n + 3, _, _, _, h, _ => exact absurd h (by omega)
  | 3, 1, n + 3, _, _, _, h, _ => exact absurd h (by omega)
  | 3, 2, n + 3, _, _, _, h, _ => exact absurd h (by omega)
  | 4, n + 4, _, _, _, h, _, _ => exact absurd h (by omega)
  | 4, 0, n + 4, _, _, _, h, _ => exact absurd h (by omega)
  | 4, 1, n + 4, _, _, _, h, _ => exact absurd h (by omega)
  | 4, 2, n + 4, _, _, _, h, _ => exact absurd h (by omega)
  | 4, 3, n + 4, _, _, _, h, _ => exact absurd h (by omega)
  | 0, _, _, h2, _, _, _, _ => exact absurd h2 (by decide)
  | 1, _, _, h2, _, _, _, _ => exact absurd h2 (by decide)
  | n + 5, _, _, _, h4, _, _, _ => exact absurd h4 (by omega)
theorem enB_f {Fm : Nat → Int} (hF : ∀ k, k < 16 → inB (Fm k) 20) {f r : Nat} (h : f + r ≤ 4) : enB (prt Fm f) r 20 := enB_prt (by omega) (fun a b ha hb => hF _ (by omega))
theorem midN_B {Fm : Nat → Int} {d a : Nat} (h2 : 2 ≤ d) (h3 : d ≤ 3) (ha : a < d) (hF : ∀ k, k < 16 → inB (Fm k) 20) : ∀ {j : Nat}, j ≤ d → inB (midN Fm d a j) ((j : Int) * 960000)
  | 0, _ => show inB 0 _ from ⟨by decide, by decide⟩
  | j + 1, h => by
    have e := subB (midN_B h2 h3 ha hF (j := j) (by omega)) (mulB (adjM_B h2 (by omega) ha (show j < d by omega) (enB_f hF (f := 1) (r := d) (by omega))) (hF (4 * (j + 1) + 0) (by omega)))
    refine leB e ?_
    omega
theorem tchJ_B {U u : Nat → Int} {r i : Nat} (h2 : 2 ≤ r) (h4 : r ≤ 4) (hi : i < r) (h : enB U r 20) (hu : ∀ k, k < 4 → inB (u k) 20) : ∀ {j : Nat}, j ≤ r → inB (tchJ U u r i j) ((j : Int) * 19200000)
  | 0, _ => show inB 0 _ from ⟨by decide, by decide⟩
  | j + 1, hj => by
    have e := addB (tchJ_B h2 h4 hi h hu (j := j) (by omega)) (mulB (mulB (hu i (by omega)) (adjM_B h2 h4 hi (show j < r by omega) h)) (hu j (by omega)))
    refine leB e ?_
    omega
theorem tchN_B {U u : Nat → Int} {r : Nat} (h2 : 2 ≤ r) (h4 : r ≤ 4) (h : enB U r 20) (hu : ∀ k, k < 4 → inB (u k) 20) : ∀ {i : Nat}, i ≤ r → inB (tchN U u r i) ((i : Int) * 76800000)
  | 0, _ => show inB 0 _ from ⟨by decide, by decide⟩
  | i + 1, hi => by
    have e := addB (tchN_B h2 h4 h hu (i := i) (by omega)) (tchJ_B h2 h4 (show i < r by omega) h hu (j := r) (Nat.le_refl _))
    refine leB e ?_
    omega
theorem e1_B20 {U : Nat → Int} {r : Nat} (h2 : 2 ≤ r) (h3 : r ≤ 3) (h : enB U r 20) : inB (eS U r 1) 60 ∧ inB (eS U r 2) 2400 ∧ inB (eS U r r) 48000 := by
  match r, h2, h3, h with
  | 2, _, _, h => exact ⟨leB (addB (h 0 0 (by decide) (by decide)) (h 1 1 (by decide) (by decide))) (by decide), leB (m2_B h (by decide) (by decide) (by decide) (by decide)) (by decide), leB (m2_B h (by decide) (by decide) (by decide) (by decide)) (by decide)⟩
  | 3, _, _, h => exact ⟨leB (addB (addB (h 0 0 (by decide) (by decide)) (h 1 1 (by decide) (by decide))) (h 2 2 (by decide) (by decide))) (by decide), leB (addB (addB (m2_B h (by decide) (by decide) (by decide) (by decide)) (m2_B h (by decide) (by decide) (by decide) (by decide))) (m2_B h (by decide) (by decide) (by decide) (by decide))) (by decide), leB (m3_B h (by decide) (by decide) (by decide) (by decide) (by decide) (by decide)) (by decide)⟩
  | 0, h2, _, _ => exact absurd h2 (by decide)
  | 1, h2, _, _ => exact absurd h2 (by decide)
  | n + 4, _, h3, _ => exact absurd h3 (by omega)
theorem disc_B {su pa al : Int} (h1 : inB su 60) (h2 : inB pa 2400) (h3 : inB al 48000) : lB (discZ su pa al) := by
  have c4 : inB (4 : Int) 4 := ⟨by decide, by decide⟩
  have c18 : inB (18 : Int) 18 := ⟨by decide, by decide⟩
  have c27 : inB (27 : Int) 27 := ⟨by decide, by decide⟩
  exact lB_of (subB (addB (subB (subB (mulB (mulB (mulB h1 h1) h2) h2) (mulB (mulB (mulB c4 h2) h2) h2)) (mulB (mulB (mulB (mulB c4 h1) h1) h1) h3)) (mulB (mulB (mulB c18 h1) h2) h3)) (mulB (mulB c27 h3) h3)) (by decide)
/-- a point's row -/
def ptR (d : Nat) (a b c e : Int) : Nat → Int := fun k => match k with
  | 0 => a
  | 1 => b
  | 2 => c
  | _ => if d = 3 then e else 0
theorem ptR_eq {B : Nat → Int} {d : Nat} {v0 v1 v2 v3 : Int} (h : B 0 = v0 ∧ B 1 = v1 ∧ B 2 = v2 ∧ B 3 = (if d = 3 then v3 else 0)) : ∀ k, k < 4 → B k = ptR d v0 v1 v2 v3 k := by
  obtain ⟨h0, h1, h2, h3⟩ := h
  intro k hk
  match k, hk with
  | 0, _ => exact h0
  | 1, _ => exact h1
  | 2, _ => exact h2
  | 3, _ => exact h3
/-- the table cut by the plane whose row is G -/
def cutT (Fm G : Nat → Int) (pv : Nat) : Nat → Int := fun q => cutZ Fm G (skp (q / 4) pv) (skp (q % 4) pv) pv
/-- down * A - up -/
def shZ (Fm : Nat → Int) (up dn : Int) : Nat → Int := fun q => dn * Fm q - (if q / 4 = q % 4 then up else 0)
theorem cutZ_B {Fm G : Nat → Int} {i j pv : Nat} (hi : i ≤ 3) (hj : j ≤ 3) (hp : pv ≤ 3) (hF : ∀ k, k < 16 → inB (Fm k) 20) (hG : ∀ k, k < 4 → inB (G k) 10) : inB (cutZ Fm G i j pv) 8000 :=
  leB (addB (subB (subB (mulB (mulB (hG pv (by omega)) (hG pv (by omega))) (hF _ (by omega))) (mulB (mulB (hG pv (by omega)) (hG i (by omega))) (hF _ (by omega)))) (mulB (mulB (hG pv (by omega)) (hG j (by omega))) (hF _ (by omega)))) (mulB (mulB (hG i (by omega)) (hG j (by omega))) (hF _ (by omega)))) (by decide)
/-- a claim told by 1 and 0 -/
noncomputable def bz (P : Prop) : Nat := @ite Nat P (Classical.propDecidable P) 1 0
theorem bz_t {P : Prop} (h : P) : bz P = 1 := @if_pos P (Classical.propDecidable P) h Nat 1 0
theorem bz_f {P : Prop} (h : ¬ P) : bz P = 0 := @if_neg P (Classical.propDecidable P) h Nat 1 0
def alkP (Fm Kp : Nat → Int) : Prop := (∀ i j, i < 16 → j < 16 → Fm i * Kp j = Kp i * Fm j) ∧ ((∃ i, i < 16 ∧ Fm i ≠ 0) ↔ ∃ i, i < 16 ∧ Kp i ≠ 0)
