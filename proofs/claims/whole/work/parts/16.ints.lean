/-! ints by whole numbers, arrays of ints, bits -/
section XI1
/-- an int by its whole number -/
def iI (x : Int) : Int32 := Int32.ofInt x
def iB (x : Int) : Prop := -2147483648 ≤ x ∧ x < 2147483648
theorem iI_toInt {x : Int} (h : iB x) : (iI x).toInt = x := by
  obtain ⟨h1, h2⟩ := h
  exact Int32.toInt_ofInt_of_le (by omega) (by omega)
theorem iI_of (v : Int32) : v = iI v.toInt := (Int32.ofInt_toInt v).symm
theorem iI_nI (n : Nat) : nI n = iI (n : Int) := (Int32.ofInt_eq_ofNat).symm
theorem iI_i2l {x : Int} (h : iB x) : (iI x).toInt64 = lI x := by
  show Int64.ofInt (iI x).toInt = _
  rw [iI_toInt h]; rfl
theorem iI_mul (x y : Int) : iI x * iI y = iI (x * y) := (Int32.ofInt_mul x y).symm
theorem iI_neg (x : Int) : -iI x = iI (-x) := (Int32.ofInt_neg x).symm
theorem iI_add (x y : Int) : iI x + iI y = iI (x + y) := (Int32.ofInt_add x y).symm
theorem iI_sub (x y : Int) : iI x - iI y = iI (x - y) := (Int32.ofInt_sub x y).symm
theorem iB_of {a A : Int} (ha : inB a A) (h : A ≤ 2000000000) : iB a := by
  unfold inB at ha; unfold iB; omega
/-- an array of ints, by whole numbers -/
def IA (c0 : ClassId) (n : Nat) (F : Nat → Int) : va_E := .inl (c0, n, .inl (fun k => iI (F k)))
theorem IA_up (F : Nat → Int) (k : Nat) (x : Int) : upd (fun k => iI (F k)) k (iI x) = fun j => iI (upZ F k x j) := by
  funext j
  unfold upd upZ
  split <;> rfl
theorem b_shr : ∀ b, b < 16 → ∀ i, i < 4 → nI b >>> (nI i &&& 31) = nI (b / 2 ^ i) := by decide +kernel
theorem b_and1 : ∀ b, b < 16 → nI b &&& nI 1 = nI (b % 2) := by decide +kernel
theorem b_shl1 : ∀ r, r < 5 → nI 1 <<< (nI r &&& 31) = nI (2 ^ r) := by decide +kernel
end XI1
section XI2
variable {p : Program} {l : Launch} {e : Env} {R : Room} {s : State} {m : MethodId} {args : Array Value} {below : List Frame} {meth : Method} {c : Code} {H H0 : Heap} {locs : List Loc} {cells slots : Nat} {Q : State → Prop} {A : Nat → Prop} {D : va_G} {cl : List vw_C} {ws : va_W} {tys : List (ClassId × FieldType)} {cc : ByteArray} {pc : Nat} {ls : Array Slot} {rest : List Value} {a : Nat}
theorem xi_ald (hexec : p.tables.exec = Jvm.exec) (hb : c.code = cc) (hK : va_K D cl tys s) (hP : va_P D cl ws H) (q0 t0 : Nat) {cA : ClassId} {n : Nat} {F : Nat → Int} (ha : ws[q0]? = some (a, IA cA n F)) (ht : tys[t0]? = some (cA, .int)) {k : Nat} (hk : k < n) (hn : n < 2 ^ 31) (hdg : decode cc pc = .ok (.iaload, 1))
    (kk : W p l e R s m args below meth c H locs cells slots Q (F0 m (pc + 1) ls (.int (iI (F k)) :: rest))) : W p l e R s m args below meth c H locs cells slots Q (F0 m pc ls (.int (nI k) :: .ref a :: rest)) := by
  refine va_iald hexec hb hK hP q0 t0 ha ht (vp_in_nI hk hn) hdg ?_
  rw [nI_clamp (by omega)]
  exact kk
theorem xi_ast (hexec : p.tables.exec = Jvm.exec) (hb : c.code = cc) (hK : va_K D cl tys s) (hP : va_P D cl ws H) (hD : va_D A ws) (hS : va_S A H0 H locs) (q0 t0 : Nat) {cA : ClassId} {n : Nat} {F : Nat → Int} (ha : ws[q0]? = some (a, IA cA n F)) (ht : tys[t0]? = some (cA, .int)) {k : Nat} {v : Int32} {x : Int} (hv : v = iI x) (hk : k < n) (hn : n < 2 ^ 31) (hdg : decode cc pc = .ok (.iastore, 1))
    (kk : ∀ (H1 : Heap) (locs1 : List Loc), va_P D cl (ws.set q0 (a, IA cA n (upZ F k x))) H1 → va_D A (ws.set q0 (a, IA cA n (upZ F k x))) → va_S A H0 H1 locs1 → W p l e R s m args below meth c H1 locs1 cells slots Q (F0 m (pc + 1) ls rest)) : W p l e R s m args below meth c H locs cells slots Q (F0 m pc ls (.int v :: .int (nI k) :: .ref a :: rest)) := by
  subst hv
  refine va_iast hexec hb hK hP hD hS q0 t0 ha ht (vp_in_nI hk hn) hdg ?_
  rw [nI_clamp (by omega), IA_up]
  exact kk
theorem xq_mul (hexec : p.tables.exec = Jvm.exec) (hb : c.code = cc) {x y : Int} (hdg : decode cc pc = .ok (.imul, 1)) (kk : W p l e R s m args below meth c H locs cells slots Q (F0 m (pc + 1) ls (.int (iI (x * y)) :: rest))) : W p l e R s m args below meth c H locs cells slots Q (F0 m pc ls (.int (iI y) :: .int (iI x) :: rest)) := by
  refine lv_imul hexec hb hdg ?_
  rw [iI_mul]; exact kk
theorem xq_neg (hexec : p.tables.exec = Jvm.exec) (hb : c.code = cc) {x : Int} (hdg : decode cc pc = .ok (.ineg, 1)) (kk : W p l e R s m args below meth c H locs cells slots Q (F0 m (pc + 1) ls (.int (iI (-x)) :: rest))) : W p l e R s m args below meth c H locs cells slots Q (F0 m pc ls (.int (iI x) :: rest)) := by
  refine lv_ineg hexec hb hdg ?_
  rw [iI_neg]; exact kk
theorem xb_shr (hexec : p.tables.exec = Jvm.exec) (hb : c.code = cc) {b i : Nat} (h1 : b < 16) (h2 : i < 4) (hdg : decode cc pc = .ok (.ishr, 1)) (kk : W p l e R s m args below meth c H locs cells slots Q (F0 m (pc + 1) ls (.int (nI (b / 2 ^ i)) :: rest))) : W p l e R s m args below meth c H locs cells slots Q (F0 m pc ls (.int (nI i) :: .int (nI b) :: rest)) := by
  refine lv_ishr hexec hb hdg ?_
  rw [b_shr b h1 i h2]; exact kk
theorem xb_and1 (hexec : p.tables.exec = Jvm.exec) (hb : c.code = cc) {b : Nat} (h1 : b < 16) (hdg : decode cc pc = .ok (.iand, 1)) (kk : W p l e R s m args below meth c H locs cells slots Q (F0 m (pc + 1) ls (.int (nI (b % 2)) :: rest))) : W p l e R s m args below meth c H locs cells slots Q (F0 m pc ls (.int (nI 1) :: .int (nI b) :: rest)) := by
  refine lv_iand hexec hb hdg ?_
  rw [b_and1 b h1]; exact kk
theorem xb_shl1 (hexec : p.tables.exec = Jvm.exec) (hb : c.code = cc) {r : Nat} (h1 : r < 5) (hdg : decode cc pc = .ok (.ishl, 1)) (kk : W p l e R s m args below meth c H locs cells slots Q (F0 m (pc + 1) ls (.int (nI (2 ^ r)) :: rest))) : W p l e R s m args below meth c H locs cells slots Q (F0 m pc ls (.int (nI r) :: .int (nI 1) :: rest)) := by
  refine lv_ishl hexec hb hdg ?_
  rw [b_shl1 r h1]; exact kk
end XI2
