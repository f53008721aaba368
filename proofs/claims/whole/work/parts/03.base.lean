/-! Rows of my own over the kit's: longs by whole numbers (lI), ints by naturals (nI), contracts in one shape. -/
section XB1
/-- a whole number that a long holds -/
def lB (x : Int) : Prop := -9223372036854775808 ≤ x ∧ x < 9223372036854775808
theorem lB_0 : lB 0 := ⟨by decide, by decide⟩
theorem lI_add (x y : Int) : lI x + lI y = lI (x + y) := (Int64.ofInt_add x y).symm
theorem lI_sub (x y : Int) : lI x - lI y = lI (x - y) := (Int64.ofInt_sub x y).symm
theorem lI_mul (x y : Int) : lI x * lI y = lI (x * y) := (Int64.ofInt_mul x y).symm
theorem lI_neg (x : Int) : -lI x = lI (-x) := (Int64.ofInt_neg x).symm
theorem lI_toInt {x : Int} (h : lB x) : (lI x).toInt = x := by
  obtain ⟨h1, h2⟩ := h
  exact Int64.toInt_ofInt_of_le (by omega) (by omega)
theorem lI_eq {x y : Int} (hx : lB x) (hy : lB y) : lI x = lI y ↔ x = y := by
  constructor
  · intro h
    have := congrArg Int64.toInt h
    rwa [lI_toInt hx, lI_toInt hy] at this
  · intro h; rw [h]
theorem lI_lt {x y : Int} (hx : lB x) (hy : lB y) : lI x < lI y ↔ x < y := by
  rw [Int64.lt_iff_toInt_lt, lI_toInt hx, lI_toInt hy]
theorem lI_le {x y : Int} (hx : lB x) (hy : lB y) : lI x ≤ lI y ↔ x ≤ y := by
  rw [Int64.le_iff_toInt_le, lI_toInt hx, lI_toInt hy]
theorem lI_nI {n : Nat} (h : n < 2 ^ 31) : (nI n).toInt64 = lI (n : Int) := by
  show Int64.ofInt (nI n).toInt = _
  rw [nI_toInt h]; rfl
theorem lI_inj64 (v : Int64) : lI v.toInt = v := Int64.ofInt_toInt v
theorem lB_i (v : Int32) : lB v.toInt := by
  have h1 := Int32.le_toInt v
  have h2 := Int32.toInt_lt v
  exact ⟨by omega, by omega⟩
theorem lI_div {x y : Int} (hx : lB x) (hy : lB y) (h : ¬ (x = -9223372036854775808 ∧ y = -1)) : lI x / lI y = lI (x.tdiv y) := by
  rw [← Int64.toInt_inj]
  by_cases hm : x = -9223372036854775808
  · have hne : lI y ≠ -1 := by
      intro q
      have := congrArg Int64.toInt q
      rw [lI_toInt hy] at this
      exact h ⟨hm, this⟩
    have e := Int64.toInt_div_of_ne_right (lI x) (lI y) hne
    rw [lI_toInt hx, lI_toInt hy] at e
    have h1 := Int64.le_toInt (lI x / lI y)
    have h2 := Int64.toInt_lt (lI x / lI y)
    rw [e] at h1 h2
    rw [e, lI_toInt ⟨by omega, by omega⟩]
  · have hne : lI x ≠ Int64.minValue := by
      intro q
      have := congrArg Int64.toInt q
      rw [lI_toInt hx] at this
      exact hm this
    have e := Int64.toInt_div_of_ne_left (lI x) (lI y) hne
    rw [lI_toInt hx, lI_toInt hy] at e
    have h1 := Int64.le_toInt (lI x / lI y)
    have h2 := Int64.toInt_lt (lI x / lI y)
    rw [e] at h1 h2
    rw [e, lI_toInt ⟨by omega, by omega⟩]
theorem lI_rem {x y : Int} (hx : lB x) (hy : lB y) (h : ¬ (x = -9223372036854775808 ∧ y = -1)) : lI x - lI x / lI y * lI y = lI (x.tmod y) := by
  rw [lI_div hx hy h, lI_mul, lI_sub]
  congr 1
  have := Int.mul_tdiv_add_tmod x y
  have e : x.tdiv y * y = y * x.tdiv y := Int.mul_comm _ _
  omega
theorem lg_cmp_lI {x y : Int} (hx : lB x) (hy : lB y) : (lg_cmp (lI x) (lI y)).toInt = if y < x then 1 else if x = y then 0 else -1 := by
  unfold lg_cmp
  have e1 : (lI x > lI y) ↔ y < x := lI_lt hy hx
  have e2 := lI_eq hx hy
  by_cases h1 : y < x
  · rw [if_pos (e1.mpr h1), if_pos h1]; rfl
  · rw [if_neg (fun q => h1 (e1.mp q)), if_neg h1]
    by_cases h2 : x = y
    · rw [if_pos (e2.mpr h2), if_pos h2]; rfl
    · rw [if_neg (fun q => h2 (e2.mp q)), if_neg h2]; rfl
theorem i0_iff (v : Int32) : v = 0 ↔ v.toInt = 0 := by
  rw [← Int32.toInt_inj]; rfl
/-- an array of longs, by whole numbers -/
def LA (c0 : ClassId) (n : Nat) (F : Nat → Int) : va_E := .inl (c0, n, .inr (.inl (fun k => lI (F k))))
def upZ (F : Nat → Int) (k : Nat) (x : Int) : Nat → Int := fun j => if j = k then x else F j
theorem upZ_at (F : Nat → Int) (k : Nat) (x : Int) : upZ F k x k = x := if_pos rfl
theorem upZ_ne (F : Nat → Int) {k j : Nat} (x : Int) (h : j ≠ k) : upZ F k x j = F j := if_neg h
theorem LA_up (F : Nat → Int) (k : Nat) (x : Int) : vp_updL (fun k => lI (F k)) k (lI x) = fun j => lI (upZ F k x j) := by
  funext j
  unfold vp_updL upZ
  split <;> rfl
def cpZ (F G : Nat → Int) (n : Nat) : Nat → Int := fun k => if k < n then F k else G k
theorem cpZ_lt (F G : Nat → Int) {n k : Nat} (h : k < n) : cpZ F G n k = F k := if_pos h
theorem LA_cpy (F G : Nat → Int) (n : Nat) : va_cpy (fun k => lI (F k)) (fun k => lI (G k)) 0 0 n = fun k => lI (cpZ F G n k) := by
  funext k
  unfold va_cpy cpZ
  by_cases h : k < n
  · rw [if_pos ⟨Nat.zero_le _, by omega⟩, if_pos h, Nat.zero_add, Nat.sub_zero]
  · rw [if_neg (fun q => h (by omega)), if_neg h]
theorem lI_abs {x : Int} (hx : lB x) : (if 0 < lI x then lI x else -lI x) = lI (x.natAbs : Nat) := by
  have e : (0 : Int64) < lI x ↔ 0 < x := lI_lt (x := 0) lB_0 hx
  by_cases h : 0 < x
  · rw [if_pos (e.mpr h)]; congr 1; omega
  · rw [if_neg (fun q => h (e.mp q)), lI_neg]; congr 1; omega
end XB1
section XB2
variable {p : Program} {l : Launch} {e : Env} {R : Room} {s : State} {m : MethodId} {args : Array Value} {below : List Frame} {meth : Method} {c : Code} {H H0 : Heap} {locs : List Loc} {cells slots : Nat} {Q : State → Prop} {A : Nat → Prop} {D : va_G} {cl : List vw_C} {ws : va_W} {tys : List (ClassId × FieldType)} {cc : ByteArray} {pc : Nat} {ls : Array Slot} {rest : List Value} {a : Nat}
theorem xl_ald (hexec : p.tables.exec = Jvm.exec) (hb : c.code = cc) (hK : va_K D cl tys s) (hP : va_P D cl ws H) (q0 t0 : Nat) {cA : ClassId} {n : Nat} {F : Nat → Int} (ha : ws[q0]? = some (a, LA cA n F)) (ht : tys[t0]? = some (cA, .long)) {k : Nat} (hk : k < n) (hn : n < 2 ^ 31) (hdg : decode cc pc = .ok (.laload, 1))
    (kk : W p l e R s m args below meth c H locs cells slots Q (F0 m (pc + 1) ls (.long (lI (F k)) :: rest))) : W p l e R s m args below meth c H locs cells slots Q (F0 m pc ls (.int (nI k) :: .ref a :: rest)) := by
  refine va_lald hexec hb hK hP q0 t0 ha ht (vp_in_nI hk hn) hdg ?_
  rw [nI_clamp (by omega)]
  exact kk
theorem xl_ast (hexec : p.tables.exec = Jvm.exec) (hb : c.code = cc) (hK : va_K D cl tys s) (hP : va_P D cl ws H) (hD : va_D A ws) (hS : va_S A H0 H locs) (q0 t0 : Nat) {cA : ClassId} {n : Nat} {F : Nat → Int} (ha : ws[q0]? = some (a, LA cA n F)) (ht : tys[t0]? = some (cA, .long)) {k : Nat} {x : Int} (hk : k < n) (hn : n < 2 ^ 31) (hdg : decode cc pc = .ok (.lastore, 1))
    (kk : ∀ (H1 : Heap) (locs1 : List Loc), va_P D cl (ws.set q0 (a, LA cA n (upZ F k x))) H1 → va_D A (ws.set q0 (a, LA cA n (upZ F k x))) → va_S A H0 H1 locs1 → W p l e R s m args below meth c H1 locs1 cells slots Q (F0 m (pc + 1) ls rest)) : W p l e R s m args below meth c H locs cells slots Q (F0 m pc ls (.long (lI x) :: .int (nI k) :: .ref a :: rest)) := by
  refine va_last hexec hb hK hP hD hS q0 t0 ha ht (vp_in_nI hk hn) hdg ?_
  rw [nI_clamp (by omega), LA_up]
  exact kk
theorem xl_add (hexec : p.tables.exec = Jvm.exec) (hb : c.code = cc) {x y : Int} (hdg : decode cc pc = .ok (.ladd, 1)) (kk : W p l e R s m args below meth c H locs cells slots Q (F0 m (pc + 1) ls (.long (lI (x + y)) :: rest))) : W p l e R s m args below meth c H locs cells slots Q (F0 m pc ls (.long (lI y) :: .long (lI x) :: rest)) := by
  refine lv_ladd hexec hb hdg ?_
  rw [lI_add]; exact kk
theorem xl_sub (hexec : p.tables.exec = Jvm.exec) (hb : c.code = cc) {x y : Int} (hdg : decode cc pc = .ok (.lsub, 1)) (kk : W p l e R s m args below meth c H locs cells slots Q (F0 m (pc + 1) ls (.long (lI (x - y)) :: rest))) : W p l e R s m args below meth c H locs cells slots Q (F0 m pc ls (.long (lI y) :: .long (lI x) :: rest)) := by
  refine lv_lsub hexec hb hdg ?_
  rw [lI_sub]; exact kk
theorem xl_mul (hexec : p.tables.exec = Jvm.exec) (hb : c.code = cc) {x y : Int} (hdg : decode cc pc = .ok (.lmul, 1)) (kk : W p l e R s m args below meth c H locs cells slots Q (F0 m (pc + 1) ls (.long (lI (x * y)) :: rest))) : W p l e R s m args below meth c H locs cells slots Q (F0 m pc ls (.long (lI y) :: .long (lI x) :: rest)) := by
  refine lv_lmul hexec hb hdg ?_
  rw [lI_mul]; exact kk
theorem xl_neg (hexec : p.tables.exec = Jvm.exec) (hb : c.code = cc) {x : Int} (hdg : decode cc pc = .ok (.lneg, 1)) (kk : W p l e R s m args below meth c H locs cells slots Q (F0 m (pc + 1) ls (.long (lI (-x)) :: rest))) : W p l e R s m args below meth c H locs cells slots Q (F0 m pc ls (.long (lI x) :: rest)) := by
  refine lv_lneg hexec hb hdg ?_
  rw [lI_neg]; exact kk
theorem xl_div (hexec : p.tables.exec = Jvm.exec) (hb : c.code = cc) {x y : Int} (hx : lB x) (hy : lB y) (h0 : y ≠ 0) (hm : ¬ (x = -9223372036854775808 ∧ y = -1)) (hdg : decode cc pc = .ok (.ldiv, 1)) (kk : W p l e R s m args below meth c H locs cells slots Q (F0 m (pc + 1) ls (.long (lI (x.tdiv y)) :: rest))) : W p l e R s m args below meth c H locs cells slots Q (F0 m pc ls (.long (lI y) :: .long (lI x) :: rest)) := by
  refine lv_ldiv hexec hb hdg (fun q => h0 ((lI_eq hy lB_0).mp q)) ?_
  rw [lI_div hx hy hm]; exact kk
theorem xl_rem (hexec : p.tables.exec = Jvm.exec) (hb : c.code = cc) {x y : Int} (hx : lB x) (hy : lB y) (h0 : y ≠ 0) (hm : ¬ (x = -9223372036854775808 ∧ y = -1)) (hdg : decode cc pc = .ok (.lrem, 1)) (kk : W p l e R s m args below meth c H locs cells slots Q (F0 m (pc + 1) ls (.long (lI (x.tmod y)) :: rest))) : W p l e R s m args below meth c H locs cells slots Q (F0 m pc ls (.long (lI y) :: .long (lI x) :: rest)) := by
  refine lv_lrem hexec hb hdg (fun q => h0 ((lI_eq hy lB_0).mp q)) ?_
  rw [lI_rem hx hy hm]; exact kk
theorem xn_add (hexec : p.tables.exec = Jvm.exec) (hb : c.code = cc) {x y : Nat} (hdg : decode cc pc = .ok (.iadd, 1)) (kk : W p l e R s m args below meth c H locs cells slots Q (F0 m (pc + 1) ls (.int (nI (x + y)) :: rest))) : W p l e R s m args below meth c H locs cells slots Q (F0 m pc ls (.int (nI y) :: .int (nI x) :: rest)) := by
  refine lv_iadd hexec hb hdg ?_
  rw [nI_add]; exact kk
theorem xn_mul (hexec : p.tables.exec = Jvm.exec) (hb : c.code = cc) {x y : Nat} (hdg : decode cc pc = .ok (.imul, 1)) (kk : W p l e R s m args below meth c H locs cells slots Q (F0 m (pc + 1) ls (.int (nI (x * y)) :: rest))) : W p l e R s m args below meth c H locs cells slots Q (F0 m pc ls (.int (nI y) :: .int (nI x) :: rest)) := by
  refine lv_imul hexec hb hdg ?_
  rw [pk_mul]; exact kk
theorem xn_sub (hexec : p.tables.exec = Jvm.exec) (hb : c.code = cc) {x y : Nat} (h : y ≤ x) (hdg : decode cc pc = .ok (.isub, 1)) (kk : W p l e R s m args below meth c H locs cells slots Q (F0 m (pc + 1) ls (.int (nI (x - y)) :: rest))) : W p l e R s m args below meth c H locs cells slots Q (F0 m pc ls (.int (nI y) :: .int (nI x) :: rest)) := by
  refine lv_isub hexec hb hdg ?_
  rw [pk_sub h]; exact kk
theorem xn_rem (hexec : p.tables.exec = Jvm.exec) (hb : c.code = cc) {x y : Nat} (hx : x < 2 ^ 31) (h0 : 0 < y) (hy : y < 2 ^ 31) (hdg : decode cc pc = .ok (.irem, 1)) (kk : W p l e R s m args below meth c H locs cells slots Q (F0 m (pc + 1) ls (.int (nI (x % y)) :: rest))) : W p l e R s m args below meth c H locs cells slots Q (F0 m pc ls (.int (nI y) :: .int (nI x) :: rest)) := by
  refine lv_irem hexec hb hdg (nI_ne0 h0 hy) ?_
  rw [pk_rem hx h0 hy]; exact kk
theorem xn_i2l (hexec : p.tables.exec = Jvm.exec) (hb : c.code = cc) {x : Nat} (hx : x < 2 ^ 31) (hdg : decode cc pc = .ok (.i2l, 1)) (kk : W p l e R s m args below meth c H locs cells slots Q (F0 m (pc + 1) ls (.long (lI (x : Nat)) :: rest))) : W p l e R s m args below meth c H locs cells slots Q (F0 m pc ls (.int (nI x) :: rest)) :=
  lv_i2l hexec hb hdg (lI_nI hx) kk
theorem xn_eq (hexec : p.tables.exec = Jvm.exec) (hb : c.code = cc) {x y : Nat} (hx : x < 2 ^ 31) (hy : y < 2 ^ 31) {off : Int} {tgt : Nat} (hdg : decode cc pc = .ok (.if_icmp .eq off, 3)) (ht : (pc : Int) + off = (tgt : Int)) (kt : x = y → W p l e R s m args below meth c H locs cells slots Q (F0 m tgt ls rest)) (kf : ¬ x = y → W p l e R s m args below meth c H locs cells slots Q (F0 m (pc + 3) ls rest)) : W p l e R s m args below meth c H locs cells slots Q (F0 m pc ls (.int (nI y) :: .int (nI x) :: rest)) := by
  have L := nI_eq hx hy
  exact lv_icmp_eq hexec hb hdg ht (fun q => kt (L.mp q)) (fun q => kf (fun z => q (L.mpr z)))
theorem xn_ne (hexec : p.tables.exec = Jvm.exec) (hb : c.code = cc) {x y : Nat} (hx : x < 2 ^ 31) (hy : y < 2 ^ 31) {off : Int} {tgt : Nat} (hdg : decode cc pc = .ok (.if_icmp .ne off, 3)) (ht : (pc : Int) + off = (tgt : Int)) (kt : ¬ x = y → W p l e R s m args below meth c H locs cells slots Q (F0 m tgt ls rest)) (kf : x = y → W p l e R s m args below meth c H locs cells slots Q (F0 m (pc + 3) ls rest)) : W p l e R s m args below meth c H locs cells slots Q (F0 m pc ls (.int (nI y) :: .int (nI x) :: rest)) := by
  have L := nI_eq hx hy
  exact lv_icmp_ne hexec hb hdg ht (fun q => kt (fun z => q (L.mpr z))) (fun q => kf (L.mp q))
theorem xn_lt (hexec : p.tables.exec = Jvm.exec) (hb : c.code = cc) {x y : Nat} (hx : x < 2 ^ 31) (hy : y < 2 ^ 31) {off : Int} {tgt : Nat} (hdg : decode cc pc = .ok (.if_icmp .lt off, 3)) (ht : (pc : Int) + off = (tgt : Int)) (kt : x < y → W p l e R s m args below meth c H locs cells slots Q (F0 m tgt ls rest)) (kf : y ≤ x → W p l e R s m args below meth c H locs cells slots Q (F0 m (pc + 3) ls rest)) : W p l e R s m args below meth c H locs cells slots Q (F0 m pc ls (.int (nI y) :: .int (nI x) :: rest)) := by
  have L := nI_ltI hx hy
  exact lv_icmp_lt hexec hb hdg ht (fun q => kt (L.mp q)) (fun q => kf (Nat.le_of_not_lt (fun z => q (L.mpr z))))
theorem xn_ge (hexec : p.tables.exec = Jvm.exec) (hb : c.code = cc) {x y : Nat} (hx : x < 2 ^ 31) (hy : y < 2 ^ 31) {off : Int} {tgt : Nat} (hdg : decode cc pc = .ok (.if_icmp .ge off, 3)) (ht : (pc : Int) + off = (tgt : Int)) (kt : y ≤ x → W p l e R s m args below meth c H locs cells slots Q (F0 m tgt ls rest)) (kf : x < y → W p l e R s m args below meth c H locs cells slots Q (F0 m (pc + 3) ls rest)) : W p l e R s m args below meth c H locs cells slots Q (F0 m pc ls (.int (nI y) :: .int (nI x) :: rest)) := by
  have L := nI_leI hy hx
  exact lv_icmp_ge hexec hb hdg ht (fun q => kt (L.mp q)) (fun q => kf (Nat.lt_of_not_le (fun z => q (L.mpr z))))
theorem xn_gt (hexec : p.tables.exec = Jvm.exec) (hb : c.code = cc) {x y : Nat} (hx : x < 2 ^ 31) (hy : y < 2 ^ 31) {off : Int} {tgt : Nat} (hdg : decode cc pc = .ok (.if_icmp .gt off, 3)) (ht : (pc : Int) + off = (tgt : Int)) (kt : y < x → W p l e R s m args below meth c H locs cells slots Q (F0 m tgt ls rest)) (kf : x ≤ y → W p l e R s m args below meth c H locs cells slots Q (F0 m (pc + 3) ls rest)) : W p l e R s m args below meth c H locs cells slots Q (F0 m pc ls (.int (nI y) :: .int (nI x) :: rest)) := by
  have L := nI_ltI hy hx
  exact lv_icmp_gt hexec hb hdg ht (fun q => kt (L.mp q)) (fun q => kf (Nat.le_of_not_lt (fun z => q (L.mpr z))))
theorem xn_le (hexec : p.tables.exec = Jvm.exec) (hb : c.code = cc) {x y : Nat} (hx : x < 2 ^ 31) (hy : y < 2 ^ 31) {off : Int} {tgt : Nat} (hdg : decode cc pc = .ok (.if_icmp .le off, 3)) (ht : (pc : Int) + off = (tgt : Int)) (kt : x ≤ y → W p l e R s m args below meth c H locs cells slots Q (F0 m tgt ls rest)) (kf : y < x → W p l e R s m args below meth c H locs cells slots Q (F0 m (pc + 3) ls rest)) : W p l e R s m args below meth c H locs cells slots Q (F0 m pc ls (.int (nI y) :: .int (nI x) :: rest)) := by
  have L := nI_leI hx hy
  exact lv_icmp_le hexec hb hdg ht (fun q => kt (L.mp q)) (fun q => kf (Nat.lt_of_not_le (fun z => q (L.mpr z))))
theorem xi_eq (hexec : p.tables.exec = Jvm.exec) (hb : c.code = cc) {x y : Int32} {X Y : Int} (hX : x.toInt = X) (hY : y.toInt = Y) {off : Int} {tgt : Nat} (hdg : decode cc pc = .ok (.if_icmp .eq off, 3)) (ht : (pc : Int) + off = (tgt : Int)) (kt : X = Y → W p l e R s m args below meth c H locs cells slots Q (F0 m tgt ls rest)) (kf : ¬ X = Y → W p l e R s m args below meth c H locs cells slots Q (F0 m (pc + 3) ls rest)) : W p l e R s m args below meth c H locs cells slots Q (F0 m pc ls (.int y :: .int x :: rest)) :=
  lv_icmp_eq hexec hb hdg ht (fun q => by rw [← Int32.toInt_inj, hX, hY] at q; exact kt q) (fun q => by rw [← Int32.toInt_inj, hX, hY] at q; exact kf q)
theorem xi_ne (hexec : p.tables.exec = Jvm.exec) (hb : c.code = cc) {x y : Int32} {X Y : Int} (hX : x.toInt = X) (hY : y.toInt = Y) {off : Int} {tgt : Nat} (hdg : decode cc pc = .ok (.if_icmp .ne off, 3)) (ht : (pc : Int) + off = (tgt : Int)) (kt : ¬ X = Y → W p l e R s m args below meth c H locs cells slots Q (F0 m tgt ls rest)) (kf : X = Y → W p l e R s m args below meth c H locs cells slots Q (F0 m (pc + 3) ls rest)) : W p l e R s m args below meth c H locs cells slots Q (F0 m pc ls (.int y :: .int x :: rest)) :=
  lv_icmp_ne hexec hb hdg ht (fun q => by rw [← Int32.toInt_inj, hX, hY] at q; exact kt q) (fun q => by rw [← Int32.toInt_inj, hX, hY] at q; exact kf q)
theorem xi_lt (hexec : p.tables.exec = Jvm.exec) (hb : c.code = cc) {x y : Int32} {X Y : Int} (hX : x.toInt = X) (hY : y.toInt = Y) {off : Int} {tgt : Nat} (hdg : decode cc pc = .ok (.if_icmp .lt off, 3)) (ht : (pc : Int) + off = (tgt : Int)) (kt : X < Y → W p l e R s m args below meth c H locs cells slots Q (F0 m tgt ls rest)) (kf : Y ≤ X → W p l e R s m args below meth c H locs cells slots Q (F0 m (pc + 3) ls rest)) : W p l e R s m args below meth c H locs cells slots Q (F0 m pc ls (.int y :: .int x :: rest)) :=
  lv_icmp_lt hexec hb hdg ht (fun q => by rw [Int32.lt_iff_toInt_lt, hX, hY] at q; exact kt q) (fun q => by rw [Int32.lt_iff_toInt_lt, hX, hY] at q; exact kf (by omega))
theorem xi_ge (hexec : p.tables.exec = Jvm.exec) (hb : c.code = cc) {x y : Int32} {X Y : Int} (hX : x.toInt = X) (hY : y.toInt = Y) {off : Int} {tgt : Nat} (hdg : decode cc pc = .ok (.if_icmp .ge off, 3)) (ht : (pc : Int) + off = (tgt : Int)) (kt : Y ≤ X → W p l e R s m args below meth c H locs cells slots Q (F0 m tgt ls rest)) (kf : X < Y → W p l e R s m args below meth c H locs cells slots Q (F0 m (pc + 3) ls rest)) : W p l e R s m args below meth c H locs cells slots Q (F0 m pc ls (.int y :: .int x :: rest)) :=
  lv_icmp_ge hexec hb hdg ht (fun q => by rw [Int32.le_iff_toInt_le, hY, hX] at q; exact kt q) (fun q => by rw [Int32.le_iff_toInt_le, hY, hX] at q; exact kf (by omega))
theorem xi_gt (hexec : p.tables.exec = Jvm.exec) (hb : c.code = cc) {x y : Int32} {X Y : Int} (hX : x.toInt = X) (hY : y.toInt = Y) {off : Int} {tgt : Nat} (hdg : decode cc pc = .ok (.if_icmp .gt off, 3)) (ht : (pc : Int) + off = (tgt : Int)) (kt : Y < X → W p l e R s m args below meth c H locs cells slots Q (F0 m tgt ls rest)) (kf : X ≤ Y → W p l e R s m args below meth c H locs cells slots Q (F0 m (pc + 3) ls rest)) : W p l e R s m args below meth c H locs cells slots Q (F0 m pc ls (.int y :: .int x :: rest)) :=
  lv_icmp_gt hexec hb hdg ht (fun q => by rw [Int32.lt_iff_toInt_lt, hY, hX] at q; exact kt q) (fun q => by rw [Int32.lt_iff_toInt_lt, hY, hX] at q; exact kf (by omega))
theorem xi_le (hexec : p.tables.exec = Jvm.exec) (hb : c.code = cc) {x y : Int32} {X Y : Int} (hX : x.toInt = X) (hY : y.toInt = Y) {off : Int} {tgt : Nat} (hdg : decode cc pc = .ok (.if_icmp .le off, 3)) (ht : (pc : Int) + off = (tgt : Int)) (kt : X ≤ Y → W p l e R s m args below meth c H locs cells slots Q (F0 m tgt ls rest)) (kf : Y < X → W p l e R s m args below meth c H locs cells slots Q (F0 m (pc + 3) ls rest)) : W p l e R s m args below meth c H locs cells slots Q (F0 m pc ls (.int y :: .int x :: rest)) :=
  lv_icmp_le hexec hb hdg ht (fun q => by rw [Int32.le_iff_toInt_le, hX, hY] at q; exact kt q) (fun q => by rw [Int32.le_iff_toInt_le, hX, hY] at q; exact kf (by omega))
theorem xz_eq (hexec : p.tables.exec = Jvm.exec) (hb : c.code = cc) {x : Int32} {X : Int} (hX : x.toInt = X) {off : Int} {tgt : Nat} (hdg : decode cc pc = .ok (.ifCond .eq off, 3)) (ht : (pc : Int) + off = (tgt : Int)) (kt : X = 0 → W p l e R s m args below meth c H locs cells slots Q (F0 m tgt ls rest)) (kf : ¬ X = 0 → W p l e R s m args below meth c H locs cells slots Q (F0 m (pc + 3) ls rest)) : W p l e R s m args below meth c H locs cells slots Q (F0 m pc ls (.int x :: rest)) :=
  lv_if_eq hexec hb hdg ht (fun q => by rw [i0_iff, hX] at q; exact kt q) (fun q => by rw [i0_iff, hX] at q; exact kf q)
theorem xz_ne (hexec : p.tables.exec = Jvm.exec) (hb : c.code = cc) {x : Int32} {X : Int} (hX : x.toInt = X) {off : Int} {tgt : Nat} (hdg : decode cc pc = .ok (.ifCond .ne off, 3)) (ht : (pc : Int) + off = (tgt : Int)) (kt : ¬ X = 0 → W p l e R s m args below meth c H locs cells slots Q (F0 m tgt ls rest)) (kf : X = 0 → W p l e R s m args below meth c H locs cells slots Q (F0 m (pc + 3) ls rest)) : W p l e R s m args below meth c H locs cells slots Q (F0 m pc ls (.int x :: rest)) :=
  lv_if_ne hexec hb hdg ht (fun q => by rw [i0_iff, hX] at q; exact kt q) (fun q => by rw [i0_iff, hX] at q; exact kf q)
theorem xz_lt (hexec : p.tables.exec = Jvm.exec) (hb : c.code = cc) {x : Int32} {X : Int} (hX : x.toInt = X) {off : Int} {tgt : Nat} (hdg : decode cc pc = .ok (.ifCond .lt off, 3)) (ht : (pc : Int) + off = (tgt : Int)) (kt : X < 0 → W p l e R s m args below meth c H locs cells slots Q (F0 m tgt ls rest)) (kf : 0 ≤ X → W p l e R s m args below meth c H locs cells slots Q (F0 m (pc + 3) ls rest)) : W p l e R s m args below meth c H locs cells slots Q (F0 m pc ls (.int x :: rest)) :=
  lv_if_lt hexec hb hdg ht (fun q => by rw [Int32.lt_iff_toInt_lt, hX] at q; exact kt q) (fun q => by rw [Int32.lt_iff_toInt_lt, hX] at q; exact kf (Int.not_lt.mp q))
theorem xz_ge (hexec : p.tables.exec = Jvm.exec) (hb : c.code = cc) {x : Int32} {X : Int} (hX : x.toInt = X) {off : Int} {tgt : Nat} (hdg : decode cc pc = .ok (.ifCond .ge off, 3)) (ht : (pc : Int) + off = (tgt : Int)) (kt : 0 ≤ X → W p l e R s m args below meth c H locs cells slots Q (F0 m tgt ls rest)) (kf : X < 0 → W p l e R s m args below meth c H locs cells slots Q (F0 m (pc + 3) ls rest)) : W p l e R s m args below meth c H locs cells slots Q (F0 m pc ls (.int x :: rest)) :=
  lv_if_ge hexec hb hdg ht (fun q => by rw [Int32.le_iff_toInt_le, hX] at q; exact kt q) (fun q => by rw [Int32.le_iff_toInt_le, hX] at q; exact kf (Int.not_le.mp q))
theorem xz_gt (hexec : p.tables.exec = Jvm.exec) (hb : c.code = cc) {x : Int32} {X : Int} (hX : x.toInt = X) {off : Int} {tgt : Nat} (hdg : decode cc pc = .ok (.ifCond .gt off, 3)) (ht : (pc : Int) + off = (tgt : Int)) (kt : 0 < X → W p l e R s m args below meth c H locs cells slots Q (F0 m tgt ls rest)) (kf : X ≤ 0 → W p l e R s m args below meth c H locs cells slots Q (F0 m (pc + 3) ls rest)) : W p l e R s m args below meth c H locs cells slots Q (F0 m pc ls (.int x :: rest)) :=
  lv_if_gt hexec hb hdg ht (fun q => by rw [Int32.lt_iff_toInt_lt, hX] at q; exact kt q) (fun q => by rw [Int32.lt_iff_toInt_lt, hX] at q; exact kf (Int.not_lt.mp q))
theorem xz_le (hexec : p.tables.exec = Jvm.exec) (hb : c.code = cc) {x : Int32} {X : Int} (hX : x.toInt = X) {off : Int} {tgt : Nat} (hdg : decode cc pc = .ok (.ifCond .le off, 3)) (ht : (pc : Int) + off = (tgt : Int)) (kt : X ≤ 0 → W p l e R s m args below meth c H locs cells slots Q (F0 m tgt ls rest)) (kf : 0 < X → W p l e R s m args below meth c H locs cells slots Q (F0 m (pc + 3) ls rest)) : W p l e R s m args below meth c H locs cells slots Q (F0 m pc ls (.int x :: rest)) :=
  lv_if_le hexec hb hdg ht (fun q => by rw [Int32.le_iff_toInt_le, hX] at q; exact kt q) (fun q => by rw [Int32.le_iff_toInt_le, hX] at q; exact kf (Int.not_le.mp q))
theorem xl_eq (hexec : p.tables.exec = Jvm.exec) (hb : c.code = cc) {x y : Int} (hx : lB x) (hy : lB y) {off : Int} {tgt : Nat} (hd1 : decode cc pc = .ok (.lcmp, 1)) (hdg : decode cc (pc + 1) = .ok (.ifCond .eq off, 3)) (ht : ((pc + 1 : Nat) : Int) + off = (tgt : Int)) (kt : x = y → W p l e R s m args below meth c H locs cells slots Q (F0 m tgt ls rest)) (kf : ¬ x = y → W p l e R s m args below meth c H locs cells slots Q (F0 m (pc + 1 + 3) ls rest)) : W p l e R s m args below meth c H locs cells slots Q (F0 m pc ls (.long (lI y) :: .long (lI x) :: rest)) := by
  refine W.lcmp hexec hb hd1 ?_
  refine xz_eq hexec hb (lg_cmp_lI hx hy) hdg ht (fun q => kt ?_) (fun q => kf ?_)
  · split at q <;> (try split at q) <;> omega
  · split at q <;> (try split at q) <;> omega
theorem xl_ne (hexec : p.tables.exec = Jvm.exec) (hb : c.code = cc) {x y : Int} (hx : lB x) (hy : lB y) {off : Int} {tgt : Nat} (hd1 : decode cc pc = .ok (.lcmp, 1)) (hdg : decode cc (pc + 1) = .ok (.ifCond .ne off, 3)) (ht : ((pc + 1 : Nat) : Int) + off = (tgt : Int)) (kt : ¬ x = y → W p l e R s m args below meth c H locs cells slots Q (F0 m tgt ls rest)) (kf : x = y → W p l e R s m args below meth c H locs cells slots Q (F0 m (pc + 1 + 3) ls rest)) : W p l e R s m args below meth c H locs cells slots Q (F0 m pc ls (.long (lI y) :: .long (lI x) :: rest)) := by
  refine W.lcmp hexec hb hd1 ?_
  refine xz_ne hexec hb (lg_cmp_lI hx hy) hdg ht (fun q => kt ?_) (fun q => kf ?_)
  · split at q <;> (try split at q) <;> omega
  · split at q <;> (try split at q) <;> omega
theorem xl_lt (hexec : p.tables.exec = Jvm.exec) (hb : c.code = cc) {x y : Int} (hx : lB x) (hy : lB y) {off : Int} {tgt : Nat} (hd1 : decode cc pc = .ok (.lcmp, 1)) (hdg : decode cc (pc + 1) = .ok (.ifCond .lt off, 3)) (ht : ((pc + 1 : Nat) : Int) + off = (tgt : Int)) (kt : x < y → W p l e R s m args below meth c H locs cells slots Q (F0 m tgt ls rest)) (kf : y ≤ x → W p l e R s m args below meth c H locs cells slots Q (F0 m (pc + 1 + 3) ls rest)) : W p l e R s m args below meth c H locs cells slots Q (F0 m pc ls (.long (lI y) :: .long (lI x) :: rest)) := by
  refine W.lcmp hexec hb hd1 ?_
  refine xz_lt hexec hb (lg_cmp_lI hx hy) hdg ht (fun q => kt ?_) (fun q => kf ?_)
  · split at q <;> (try split at q) <;> omega
  · split at q <;> (try split at q) <;> omega
theorem xl_ge (hexec : p.tables.exec = Jvm.exec) (hb : c.code = cc) {x y : Int} (hx : lB x) (hy : lB y) {off : Int} {tgt : Nat} (hd1 : decode cc pc = .ok (.lcmp, 1)) (hdg : decode cc (pc + 1) = .ok (.ifCond .ge off, 3)) (ht : ((pc + 1 : Nat) : Int) + off = (tgt : Int)) (kt : y ≤ x → W p l e R s m args below meth c H locs cells slots Q (F0 m tgt ls rest)) (kf : x < y → W p l e R s m args below meth c H locs cells slots Q (F0 m (pc + 1 + 3) ls rest)) : W p l e R s m args below meth c H locs cells slots Q (F0 m pc ls (.long (lI y) :: .long (lI x) :: rest)) := by
  refine W.lcmp hexec hb hd1 ?_
  refine xz_ge hexec hb (lg_cmp_lI hx hy) hdg ht (fun q => kt ?_) (fun q => kf ?_)
  · split at q <;> (try split at q) <;> omega
  · split at q <;> (try split at q) <;> omega
theorem xl_gt (hexec : p.tables.exec = Jvm.exec) (hb : c.code = cc) {x y : Int} (hx : lB x) (hy : lB y) {off : Int} {tgt : Nat} (hd1 : decode cc pc = .ok (.lcmp, 1)) (hdg : decode cc (pc + 1) = .ok (.ifCond .gt off, 3)) (ht : ((pc + 1 : Nat) : Int) + off = (tgt : Int)) (kt : y < x → W p l e R s m args below meth c H locs cells slots Q (F0 m tgt ls rest)) (kf : x ≤ y → W p l e R s m args below meth c H locs cells slots Q (F0 m (pc + 1 + 3) ls rest)) : W p l e R s m args below meth c H locs cells slots Q (F0 m pc ls (.long (lI y) :: .long (lI x) :: rest)) := by
  refine W.lcmp hexec hb hd1 ?_
  refine xz_gt hexec hb (lg_cmp_lI hx hy) hdg ht (fun q => kt ?_) (fun q => kf ?_)
  · split at q <;> (try split at q) <;> omega
  · split at q <;> (try split at q) <;> omega
theorem xl_le (hexec : p.tables.exec = Jvm.exec) (hb : c.code = cc) {x y : Int} (hx : lB x) (hy : lB y) {off : Int} {tgt : Nat} (hd1 : decode cc pc = .ok (.lcmp, 1)) (hdg : decode cc (pc + 1) = .ok (.ifCond .le off, 3)) (ht : ((pc + 1 : Nat) : Int) + off = (tgt : Int)) (kt : x ≤ y → W p l e R s m args below meth c H locs cells slots Q (F0 m tgt ls rest)) (kf : y < x → W p l e R s m args below meth c H locs cells slots Q (F0 m (pc + 1 + 3) ls rest)) : W p l e R s m args below meth c H locs cells slots Q (F0 m pc ls (.long (lI y) :: .long (lI x) :: rest)) := by
  refine W.lcmp hexec hb hd1 ?_
  refine xz_le hexec hb (lg_cmp_lI hx hy) hdg ht (fun q => kt ?_) (fun q => kf ?_)
  · split at q <;> (try split at q) <;> omega
  · split at q <;> (try split at q) <;> omega
theorem xl_copy (hexec : p.tables.exec = Jvm.exec) (hb : c.code = cc) (hml : c.maxLocals = ls.size) {own : String} {index : Nat} (hown : s.vm.findClass own = some m.cls) (hlink : (Cond.methodLink own index arraycopyName).before args s = true) (hnat : (Cond.native arraycopyName).before args s = true) (hstat : (Cond.static arraycopyName).before args s = true) (hini : (Cond.initialized "java/lang/System").before args s = true)
    (hK : va_K D cl tys s) (hP : va_P D cl ws H) (hD : va_D A ws) (hS : va_S A H0 H locs) (q0 q1 t0 : Nat) {a0 : Nat} {cA : ClassId} {n0 n1 : Nat} {F G : Nat → Int} (ha0 : ws[q0]? = some (a0, LA cA n0 F)) (ha1 : ws[q1]? = some (a, LA cA n1 G)) (ht0 : tys[t0]? = some (cA, .long)) {n : Nat} (h4 : n ≤ n0) (h5 : n ≤ n1) (hn : n < 2 ^ 31)
    (hframes : 1 ≤ R.frames) (hlocals : (rest.map fun v => v.category).sum + (nativeFrameWords "java/lang/System" "arraycopy" 5 + 11) ≤ R.locals) (hdg : decode cc pc = .ok (.invokestatic index, 3))
    (kk : ∀ (H1 : Heap) (locs1 : List Loc), va_P D cl (ws.set q1 (a, LA cA n1 (cpZ F G n))) H1 → va_D A (ws.set q1 (a, LA cA n1 (cpZ F G n))) → va_S A H0 H1 locs1 → W p l e R s m args below meth c H1 locs1 cells slots Q (F0 m (pc + 3) ls rest)) : W p l e R s m args below meth c H locs cells slots Q (F0 m pc ls (.int (nI n) :: .int (nI 0) :: .ref a :: .int (nI 0) :: .ref a0 :: rest)) := by
  have e0 : (nI 0).toNatClampNeg = 0 := nI_clamp (by decide)
  have en : (nI n).toNatClampNeg = n := nI_clamp hn
  refine va_copyl hexec hb hml hown hlink hnat hstat hini hK hP hD hS q0 q1 t0 t0 ha0 ha1 ht0 ht0 rfl (nI_pos (by decide)) (nI_pos (by decide)) (nI_pos hn) (by rw [e0, en]; omega) (by rw [e0, en]; omega) (fun i _ => rfl) hframes hlocals hdg ?_
  rw [e0, en, LA_cpy]
  exact kk
theorem xl_abs (hexec : p.tables.exec = Jvm.exec) (hb : c.code = cc) (hml : c.maxLocals = ls.size) {own : String} {index : Nat} (hown : s.vm.findClass own = some m.cls) (hlink : (Cond.methodLink own index Lib.MathLoose.abs_long.x).before args s = true) (hstat : (Cond.static Lib.MathLoose.abs_long.x).before args s = true) (hini : (Cond.initialized "java/lang/Math").before args s = true) (hcode : (Cond.code Lib.MathLoose.abs_long.x Lib.MathLoose.abs_long.code 2 (some .long)).before args s = true)
    (hframes : 1 ≤ R.frames) (hlocals : (rest.map fun v => v.category).sum + 13 ≤ R.locals) (hc : cells ≤ R.cells) (hs : slots ≤ R.slots) {x : Int} (hx : lB x) (hdg : decode cc pc = .ok (.invokestatic index, 3))
    (kk : W p l e R s m args below meth c H locs cells slots Q (F0 m (pc + 3) ls (.long (lI (x.natAbs : Nat)) :: rest))) : W p l e R s m args below meth c H locs cells slots Q (F0 m pc ls (.long (lI x) :: rest)) := by
  refine va_mabs_long hexec hb hml hown hlink hstat hini hcode hframes hlocals hc hs hdg ?_
  rw [lI_abs hx]
  exact kk
end XB2
