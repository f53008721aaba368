/-! rows for making: arrays of zeros, constructors -/
section XB4
variable {p : Program} {l : Launch} {e : Env} {R : Room} {s : State} {m : MethodId} {args : Array Value} {below : List Frame} {meth : Method} {c : Code} {H H0 : Heap} {locs : List Loc} {cells slots : Nat} {Q : State → Prop} {A : Nat → Prop} {D : va_G} {cl : List vw_C} {ws : va_W} {tys : List (ClassId × FieldType)} {cc : ByteArray} {pc : Nat} {ls : Array Slot} {rest : List Value}
/-- one array class for each type -/
theorem xK_one {cA cB : ClassId} {ty : FieldType} {t0 t1 : Nat} (hty : ∀ C, ty ≠ .object C) (h : va_K D cl tys s) (h0 : tys[t0]? = some (cA, ty)) (h1 : tys[t1]? = some (cB, ty)) : cA = cB := by
  have a := (h.2 t0 _ h0).2
  have b := (h.2 t1 _ h1).2
  cases ty with
  | object C => exact absurd rfl (hty C)
  | _ => exact Option.some.inj (Eq.trans (Eq.symm a) b)
theorem xK_last {cA : ClassId} {ty : FieldType} : (tys ++ [(cA, ty)])[tys.length]? = some (cA, ty) := by
  rw [List.getElem?_append_right (Nat.le_refl _), Nat.sub_self]; rfl
theorem x_newJ (hexec : p.tables.exec = Jvm.exec) (hb : c.code = cc) (harr : (Cond.arrayClass FieldType.long).before args s = true) (hK : va_K D cl tys s) (hP : va_P D cl ws H) (hD : va_D A ws) (hS : va_S A H0 H locs) (hA : ∀ q, H0.size ≤ q → A q) (t0 : Nat) {cJ : ClassId} (ht : tys[t0]? = some (cJ, .long)) {N : Nat} (hN : N < 1000) (hcells : cells + 1 ≤ R.cells) (hslots : slots + N ≤ R.slots) (hdg : decode cc pc = .ok (.newarray .long, 2))
    (kk : ∀ (q : Nat) (H1 : Heap), va_P D cl (ws ++ [(q, LA cJ N (fun _ => 0))]) H1 → va_D A (ws ++ [(q, LA cJ N (fun _ => 0))]) → va_S A H0 H1 locs → W p l e R s m args below meth c H1 locs (cells + 1) (slots + N) Q (F0 m (pc + 2) ls (.ref q :: rest))) : W p l e R s m args below meth c H locs cells slots Q (F0 m pc ls (.int (nI N) :: rest)) := by
  refine va_newa (atype := .long) (ty := .long) (a0 := (N, .inr (.inl (fun _ => lI 0)))) hexec hb harr rfl hK hP hD hS hA (fun cA => rfl) (by have := nI_pos (n := N) (by omega); exact this) (nI_clamp (by omega)) ?_ hcells hslots hdg (fun q cA H1 hK1 hP1 hD1 hS1 => ?_)
  · show N * 8 ≤ 536870912
    omega
  · have hl : t0 < tys.length := (List.getElem?_eq_some_iff.mp ht).1
    have e1 : cA = cJ := xK_one (t0 := tys.length) (t1 := t0) (fun C h => by cases h) hK1 xK_last (by rw [List.getElem?_append_left hl]; exact ht)
    subst e1
    exact kk q H1 hP1 hD1 hS1
theorem x_newI (hexec : p.tables.exec = Jvm.exec) (hb : c.code = cc) (harr : (Cond.arrayClass FieldType.int).before args s = true) (hK : va_K D cl tys s) (hP : va_P D cl ws H) (hD : va_D A ws) (hS : va_S A H0 H locs) (hA : ∀ q, H0.size ≤ q → A q) (t0 : Nat) {cI : ClassId} (ht : tys[t0]? = some (cI, .int)) {N : Nat} (hN : N < 1000) (hcells : cells + 1 ≤ R.cells) (hslots : slots + N ≤ R.slots) (hdg : decode cc pc = .ok (.newarray .int, 2))
    (kk : ∀ (q : Nat) (H1 : Heap), va_P D cl (ws ++ [(q, IA cI N (fun _ => 0))]) H1 → va_D A (ws ++ [(q, IA cI N (fun _ => 0))]) → va_S A H0 H1 locs → W p l e R s m args below meth c H1 locs (cells + 1) (slots + N) Q (F0 m (pc + 2) ls (.ref q :: rest))) : W p l e R s m args below meth c H locs cells slots Q (F0 m pc ls (.int (nI N) :: rest)) := by
  refine va_newa (atype := .int) (ty := .int) (a0 := (N, .inl (fun _ => iI 0))) hexec hb harr rfl hK hP hD hS hA (fun cA => rfl) (by have := nI_pos (n := N) (by omega); exact this) (nI_clamp (by omega)) ?_ hcells hslots hdg (fun q cA H1 hK1 hP1 hD1 hS1 => ?_)
  · show N * 4 ≤ 536870912
    omega
  · have hl : t0 < tys.length := (List.getElem?_eq_some_iff.mp ht).1
    have e1 : cA = cI := xK_one (t0 := tys.length) (t1 := t0) (fun C h => by cases h) hK1 xK_last (by rw [List.getElem?_append_left hl]; exact ht)
    subst e1
    exact kk q H1 hP1 hD1 hS1
end XB4
/-- a call that makes cells, no answer -/
theorem xcvN {p : Program} {l : Launch} {e : Env} {R : Room} {s : State} {m : MethodId} {args : Array Value} {below : List Frame} {meth : Method} {c : Code} {H H0 : Heap} {locs : List Loc} {cells slots mc ms : Nat} {Q : State → Prop} {A : Nat → Prop} {D : va_G} {cl : List vw_C} {ws wc wr : va_W} {tys : List (ClassId × FieldType)} {pc : Nat} {ls : Array Slot} {st0 rest : List Value} {a : Array Value} {S : Type} {post : S → Prop} {wf : S → va_W} (hP : va_P D cl ws H) (hD : va_D A ws) (hS : va_S A H0 H locs) (hA : ∀ q, H0.size ≤ q → A q) (isC isR : List Nat) (hC : isC.map (fun i => ws[i]?) = wc.map some) (hR : isR.map (fun i => ws[i]?) = wr.map some) (hn : va_nd isR = true) (hdis : ∀ i ∈ isR, i ∉ isC)
    (hr : va_Run p l e R s m args below meth c H locs cells slots mc ms (F0 m pc ls st0) rest (va_Qv post (xE D cl tys (va_A wc H.size) wf) (va_A wc H.size) a) (va_A wc H.size))
    (kk : ∀ (u : S) (H1 : Heap) (locs1 : List Loc), post u → va_P D cl (wr ++ wf u) H1 → va_D A (wr ++ wf u) → va_S A H0 H1 locs1 → W p l e R s m args below meth c H1 locs1 (cells + mc) (slots + ms) Q (F0 m (pc + 3) ls rest)) : W p l e R s m args below meth c H locs cells slots Q (F0 m pc ls st0) := by
  have hFc := va_free (wc := wc) hD hS hA isC hC
  refine va_callv hr hS (fun q _ h => hFc q h) hFc (fun u t H1 locs1 ht hvm hw hB hz hk hS1 => ?_)
  obtain ⟨hP1, hK1, hD1⟩ := hB
  rw [ht] at hP1
  obtain ⟨hP2, hD2⟩ := va_join hP hD isC isR hC hR hn hdis hk hFc hP1 hD1
  exact kk u H1 locs1 hw hP2 hD2 hS1
/-- a constructor's contract -/
theorem xoN {S : Type} {l : Launch} {y : MethodName} {yw : List Cond} {rm : Room} {av : List Value} {D : va_G} {cl : List vw_C} {tys : List (ClassId × FieldType)} {sz : Nat} {w0 : va_W} {post : S → Prop} {wf : S → va_W} {mc ms : Nat} {cc : ByteArray} {maxL : Nat} (hy : plainName y.cls = true) (hyn : y.name = "<init>") (hw : yw = Cond.code y cc maxL (none) :: tW) (hlen : (lg_sl av).length ≤ maxL)
    (body : ∀ (p : Program) (e : Env) (s : State) (m : MethodId) (args : Array Value) (below : List Frame) (meth : Method) (c : Code) (Q : State → Prop) (A : Nat → Prop), p.tables.exec = Jvm.exec → c.code = cc → c.maxLocals = maxL → (∀ w ∈ tW, w.before args s = true) → s.vm.findClass y.cls = some m.cls → xN s → (∀ q, s.heap.size ≤ q → A q) → va_S A s.heap s.heap [] → va_P D cl w0 s.heap → va_K D cl tys s → va_D A w0 →
      (∀ (H1 : Heap) (locs1 : List Loc) (pc : Nat) (ls : Array Slot) (u : S), decode cc pc = .ok (.return_, 1) → post u → va_P D cl (wf u) H1 → va_D A (wf u) → va_S A s.heap H1 locs1 → W p l e rm s m args below meth c H1 locs1 mc ms Q (F0 m pc ls [])) →
      ∀ ls : Array Slot, lv_has ls maxL (lv_args 0 av) → meth.name = "<init>" → W p l e rm s m args below meth c s.heap [] 0 0 Q (F0 m 0 ls [])) : xMv l y yw rm av D cl tys sz w0 post wf mc ms := by
  refine Met.ofW (cc := cc) (maxL := maxL) (ret := none) hy hw ?_
  intro p e s m args below meth c s₁ B hml hv
  obtain ⟨rfl, hsz, hP, hK, hD0, hN⟩ := hv
  have hts0 := atoms_spec (ws := yw) B.pre
  have hts : ∀ w ∈ tW, w.before _ s = true := fun w h => hts0 w (by rw [hw]; exact List.mem_cons_of_mem _ h)
  have hown := findClass_of_methodNamed B.named
  have hin : meth.name = "<init>" := ((name_of_methodNamed B.named B.method).1).trans hyn
  subst hsz
  have hD := hD0.self (sz := s.heap.size)
  have hl := lv_entry av (n := maxL) hlen
  rw [lg_entry_eq]
  exact body p e s m _ below meth c _ _ B.exec B.bytes hml hts hown hN (fun q h => Or.inr h) va_S.rf hP hK hD (fun H1 locs1 pc ls u hd hp hP1 hD1 hS1 => W.vret B.exec B.bytes B.returns (fun t ht hW => ⟨⟨u, rfl, hp, by rw [ht]; exact hP1, va_K.moved hW.alike hK, hD1⟩, hS1.F ht⟩) hS1.2.2 hd) _ hl hin
/-! the reference's two tables, as its constructor fills them -/
def plZ : Nat → Nat → Int
  | 0 => fun _ => 0
  | k + 1 => upZ (plZ k) k (plF k)
def spZ : Nat → Nat → Int
  | 0 => fun _ => 0
  | k + 1 => upZ (spZ k) k (spF k)
theorem fill_eq {G : Nat → Int} {Z : Nat → Nat → Int} (h0 : Z 0 = fun _ => 0) (h1 : ∀ k, Z (k + 1) = upZ (Z k) k (G k)) : ∀ n j, Z n j = if j < n then G j else 0
  | 0, j => by rw [h0, if_neg (Nat.not_lt_zero _)]
  | n + 1, j => by
    rw [h1]
    unfold upZ
    by_cases q : j = n
    · rw [if_pos q, if_pos (by omega), q]
    · rw [if_neg q, fill_eq h0 h1 n j]
      by_cases z : j < n
      · rw [if_pos z, if_pos (by omega)]
      · rw [if_neg z, if_neg (by omega)]
theorem plZ_eq : plZ 24 = plF := by
  funext j
  rw [fill_eq (G := plF) (Z := plZ) rfl (fun _ => rfl) 24 j]
  split
  · rfl
  · rename_i h
    unfold plF
    rw [List.getD_eq_getElem?_getD, List.getElem?_eq_none (by show 24 ≤ j; omega)]; rfl
theorem spZ_eq : spZ 40 = spF := by
  funext j
  rw [fill_eq (G := spF) (Z := spZ) rfl (fun _ => rfl) 40 j]
  split
  · rfl
  · rename_i h
    unfold spF
    rw [List.getD_eq_getElem?_getD, List.getElem?_eq_none (by show 40 ≤ j; omega)]; rfl
