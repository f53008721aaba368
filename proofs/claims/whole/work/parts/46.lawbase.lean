/-! the law: its world, its invariant, rows of its own -/
theorem arrV_congr {cA : ClassId} {n : Nat} {f g : Nat → Value} (h : ∀ k, k < n → f k = g k) : arrV cA n f = arrV cA n g := by
  unfold arrV
  congr 2
  funext j
  exact h j.val j.isLt
theorem xP_arrL {D : va_G} {cl : List vw_C} {ws : va_W} {H : Heap} {a n : Nat} {cJ : ClassId} {F G : Nat → Int} (q0 : Nat) (he : ws[q0]? = some (a, LA cJ n F)) (h : ∀ k, k < n → F k = G k) (hP : va_P D cl ws H) : va_P D cl (ws.set q0 (a, LA cJ n G)) H := by
  intro k q hk
  by_cases e : k = q0
  · subst e
    have hl : k < ws.length := (List.getElem?_eq_some_iff.mp he).1
    rw [List.getElem?_set_self hl] at hk
    cases hk
    have h0 : H[a]? = some (vp_cell cJ (n, .inr (.inl (fun k => lI (F k))))) := hP k _ he
    show H[a]? = some (vp_cell cJ (n, .inr (.inl (fun k => lI (G k)))))
    rw [h0, vp_cell_l, vp_cell_l, arrV_congr (fun k hk => by rw [h k hk])]
  · rw [List.getElem?_set_ne (Ne.symm e)] at hk
    exact hP k q hk
theorem xP_arrI {D : va_G} {cl : List vw_C} {ws : va_W} {H : Heap} {a n : Nat} {cI : ClassId} {F G : Nat → Int} (q0 : Nat) (he : ws[q0]? = some (a, IA cI n F)) (h : ∀ k, k < n → F k = G k) (hP : va_P D cl ws H) : va_P D cl (ws.set q0 (a, IA cI n G)) H := by
  intro k q hk
  by_cases e : k = q0
  · subst e
    have hl : k < ws.length := (List.getElem?_eq_some_iff.mp he).1
    rw [List.getElem?_set_self hl] at hk
    cases hk
    have h0 : H[a]? = some (vp_cell cI (n, .inl (fun k => iI (F k)))) := hP k _ he
    show H[a]? = some (vp_cell cI (n, .inl (fun k => iI (G k))))
    rw [h0, vp_cell_i, vp_cell_i, arrV_congr (fun k hk => by rw [h k hk])]
  · rw [List.getElem?_set_ne (Ne.symm e)] at hk
    exact hP k q hk
section XB5
variable {p : Program} {l : Launch} {e : Env} {R : Room} {s : State} {m : MethodId} {args : Array Value} {below : List Frame} {meth : Method} {c : Code} {H H0 : Heap} {locs : List Loc} {cells slots : Nat} {Q : State → Prop} {A : Nat → Prop} {D : va_G} {cl : List vw_C} {ws : va_W} {tys : List (ClassId × FieldType)} {cc : ByteArray} {pc : Nat} {ls : Array Slot} {rest : List Value}
theorem x_sld (hexec : p.tables.exec = Jvm.exec) (hb : c.code = cc) {b L : Nat} {xs : Nat → Int32} (hX : va_X b L xs s H0) (hbl : b < H0.size) (hbA : ¬ A b) (hS : va_S A H0 H locs) {k : Nat} (hk : k < L) (hL : L < 2 ^ 31) (hdg : decode cc pc = .ok (.iaload, 1))
    (kk : W p l e R s m args below meth c H locs cells slots Q (F0 m (pc + 1) ls (.int (xs k) :: rest))) : W p l e R s m args below meth c H locs cells slots Q (F0 m pc ls (.int (nI k) :: .ref b :: rest)) := by
  refine va_sld hexec hb hX hbl hbA hS (vp_in_nI hk hL) hdg ?_
  rw [nI_clamp (by omega)]; exact kk
theorem x_isame (hexec : p.tables.exec = Jvm.exec) (hb : c.code = cc) {v : Int32} {off : Int} {tgt : Nat} (hdg : decode cc pc = .ok (.if_icmp .eq off, 3)) (ht : (pc : Int) + off = (tgt : Int)) (kk : W p l e R s m args below meth c H locs cells slots Q (F0 m tgt ls rest)) : W p l e R s m args below meth c H locs cells slots Q (F0 m pc ls (.int v :: .int v :: rest)) :=
  lv_icmp_eq hexec hb hdg ht (fun _ => kk) (fun q => absurd rfl q)
theorem x_lsame (hexec : p.tables.exec = Jvm.exec) (hb : c.code = cc) {v : Int64} {off : Int} {tgt : Nat} (hd1 : decode cc pc = .ok (.lcmp, 1)) (hdg : decode cc (pc + 1) = .ok (.ifCond .eq off, 3)) (ht : ((pc + 1 : Nat) : Int) + off = (tgt : Int)) (kk : W p l e R s m args below meth c H locs cells slots Q (F0 m tgt ls rest)) : W p l e R s m args below meth c H locs cells slots Q (F0 m pc ls (.long v :: .long v :: rest)) := by
  refine W.lcmp hexec hb hd1 ?_
  have z : lg_cmp v v = 0 := by
    unfold lg_cmp
    rw [if_neg (show ¬ v > v from Int64.lt_irrefl), if_pos rfl]
  rw [z]
  exact lv_if_eq hexec hb hdg ht (fun _ => kk) (fun q => absurd rfl q)
end XB5
/-- what is kept of the form, from call to call -/
def okF (d : Nat) (Fm : Nat → Int) : Prop := 2 ≤ d ∧ d ≤ 3 ∧ (∀ k, k < 16 → inB (Fm k) 20) ∧ symF Fm
theorem ok_kind {d : Nat} {Fm : Nat → Int} (h : okF d Fm) : kndM Fm d = nI (kindN Fm d) := by
  obtain ⟨a, b, _, hS⟩ := h
  exact kn_eq a b (prt_sym (f := 1) (r := d) hS (by omega)) (prt_sym (f := 0) (r := d + 1) hS (by omega)) (il_ok Fm d a b (prt_sym (f := 0) (r := d + 1) hS (by omega)))
theorem in0 : inB (0 : Int) 20 := ⟨by decide, by decide⟩
theorem ok_0 (d : Nat) (h2 : 2 ≤ d) (h3 : d ≤ 3) : okF d (fun _ => 0) := ⟨h2, h3, fun _ _ => in0, fun _ _ _ _ => rfl⟩
theorem ok_put {d : Nat} {Fm : Nat → Int} {i j v : Int} (h : okF d Fm) (hb : ¬ badP d i j v) : okF d (upZ (upZ Fm (4 * i.toNat + j.toNat) v) (4 * j.toNat + i.toNat) v) := by
  obtain ⟨a, b, hB, hS⟩ := h
  unfold badP at hb
  refine ⟨a, b, fun k hk => ?_, fun x y hx hy => ?_⟩
  · unfold upZ
    have hv : inB v 20 := ⟨by omega, by omega⟩
    split
    · exact hv
    · split
      · exact hv
      · exact hB k hk
  · unfold upZ
    have hi : i.toNat ≤ 3 := by omega
    have hj : j.toNat ≤ 3 := by omega
    have e1 : (4 * x + y = 4 * j.toNat + i.toNat) ↔ (x = j.toNat ∧ y = i.toNat) := by omega
    have e2 : (4 * x + y = 4 * i.toNat + j.toNat) ↔ (x = i.toNat ∧ y = j.toNat) := by omega
    have e3 : (4 * y + x = 4 * j.toNat + i.toNat) ↔ (y = j.toNat ∧ x = i.toNat) := by omega
    have e4 : (4 * y + x = 4 * i.toNat + j.toNat) ↔ (y = i.toNat ∧ x = j.toNat) := by omega
    by_cases q1 : 4 * x + y = 4 * j.toNat + i.toNat
    · rw [if_pos q1]
      have z := e1.mp q1
      by_cases q3 : 4 * y + x = 4 * j.toNat + i.toNat
      · rw [if_pos q3]
      · rw [if_neg q3, if_pos (e4.mpr ⟨z.2, z.1⟩)]
    · rw [if_neg q1]
      by_cases q2 : 4 * x + y = 4 * i.toNat + j.toNat
      · rw [if_pos q2]
        have z := e2.mp q2
        rw [if_pos (e3.mpr ⟨z.2, z.1⟩)]
      · rw [if_neg q2]
        by_cases q3 : 4 * y + x = 4 * j.toNat + i.toNat
        · have z := e3.mp q3
          exact absurd (e2.mpr ⟨z.2, z.1⟩) q2
        · rw [if_neg q3]
          by_cases q4 : 4 * y + x = 4 * i.toNat + j.toNat
          · have z := e4.mp q4
            exact absurd (e1.mpr ⟨z.2, z.1⟩) q1
          · rw [if_neg q4]
            exact hS x y hx hy
/-- the law's world between two calls -/
def lwS (cJ cI : ClassId) (h fo ke ht hc hf hp ho wo fi se g mm kf tb wk pl sp po to ba li ou : Nat) (ws : va_W) : Prop :=
  ∃ (d : Nat) (kb r0 cd rw ab be a0 a1 b0 b1 lm : Int32) (Fm Kp C F P O Wk A1 A2 T W0 P0 Q0 Bs L0 Oz : Nat → Int), okF d Fm ∧ (∀ k, k < 16 → inB (Kp k) 20) ∧ ws = [(h, .inr (1, [.int (nI d), .int kb, .ref fo, .ref ke, .ref ht, .ref wo, .ref fi, .ref se])), (fo, LA cJ 16 Fm), (ke, LA cJ 16 Kp), (ht, .inr (0, [.int r0, .ref hc, .ref hf, .ref hp, .ref ho])), (hc, LA cJ 16 C), (hf, LA cJ 16 F), (hp, LA cJ 16 P), (ho, LA cJ 5 O), (wo, LA cJ 16 Wk), (fi, LA cJ 4 A1), (se, LA cJ 4 A2), (g, .inr (2, [.int cd, .int (nI d), .ref mm, .int kb, .ref kf, .ref tb, .int rw, .ref wk, .int ab, .int be, .ref pl, .ref sp, .int a0, .int a1, .int b0, .int b1, .ref po, .ref to, .ref ba, .ref li, .int lm])), (mm, IA cI 16 Fm), (kf, IA cI 16 Kp), (tb, LA cJ 16 T), (wk, LA cJ 20 W0), (pl, IA cI 24 plF), (sp, IA cI 40 spF), (po, LA cJ 4 P0), (to, LA cJ 4 Q0), (ba, LA cJ 12 Bs), (li, LA cJ 6 L0), (ou, LA cJ 1 Oz)]
