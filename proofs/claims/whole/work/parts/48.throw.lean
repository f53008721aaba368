/-! ConicKinds.height where it throws, and the law's helper that catches it (launches without stack traces) -/
abbrev aeN : String := "java/lang/ArithmeticException"
abbrev aeUp : List String := ["java/lang/RuntimeException", "java/lang/Exception"]
abbrev aeTx : String := "the determinant of A is 0"
abbrev zU : Cond := .laysStatic Bundle.tN "UNASSIGNED_STACK" Bundle.steD
abbrev zS : Cond := .laysStatic Bundle.tN "SUPPRESSED_SENTINEL" Bundle.listD
abbrev rU : Cond := .isRef (.static Bundle.tN "UNASSIGNED_STACK" Bundle.steD)
abbrev rS : Cond := .isRef (.static Bundle.tN "SUPPRESSED_SENTINEL" Bundle.listD)
/-- words of the tables that the good ones leave out -/
def fW : List Cond := tables_1.filter (fun w => w.faceAtom && w.onTables)
theorem aeK_in : Cond.castable aeN aeN ∈ fW := List.mem_filter.mpr ⟨List.mem_of_getElem? (i := 317) (by decide +kernel), rfl⟩
theorem fW_move {a : Array Value} {s U : State} (hvm : s.vm.Alike U.vm) {w : Cond} (hw : w ∈ fW) (h : w.before a s = true) (a2 : Array Value) : w.before a2 U = true := by
  have k := (List.mem_filter.mp hw).2
  rw [Bool.and_eq_true] at k
  exact va_tabs (A := a) (u := s.setVm U.vm) (U := U) k.2 rfl (Cond.faceAtom_setVm hvm w k.1 h)
/-- what the throw asks beside -/
def xH (sa : Nat) (U : State) : Prop := zU.before #[] U = true ∧ rU.before #[] U = true ∧ zS.before #[] U = true ∧ rS.before #[] U = true ∧ vk_R R_K 101 aeTx sa U ∧ ∀ w ∈ fW, w.before #[] U = true
/-- the statics' cells of s are in U as they were -/
def xSt (s : State) (H : Heap) : Prop := ∀ (q : Nat) (cell : Cell), s.heap[q]? = some cell → cell.vm.isStatics = true → H[q]? = some cell
theorem st_lay {C n d : String} {a a2 : Array Value} {s U : State} (hvm : s.vm.Alike U.vm) (hh : xSt s U.heap) (h : (Cond.laysStatic C n d).before a s = true) : (Cond.laysStatic C n d).before a2 U = true := by
  obtain ⟨c, k, i, f, ad, cell, hc, hf, hst, hsa, hcell, hs, hcls, hlt, hty⟩ := Cond.laysStatic_spec h
  obtain ⟨k2, hf2, hk2⟩ := State.fieldFound?_setVm hvm hf
  have hf3 : U.fieldFound? C n d = some (c, k2, i, f) := hf2
  have hc2 : U.vm.findClass C = some c := by rw [hvm.findClass]; exact hc
  have hsa2 : k2.statics = some ad := by rw [hk2]; exact hsa
  have hty2 : k2.staticTypes[f.slot]? = some f.type := by rw [hk2]; exact hty
  have hcell2 := hh ad cell hcell hs
  simp [Cond.before, Cond.holds, Cond.value, hc2, hf3, hsa2, hcell2, hst, hs, hcls, hlt, hty2]
theorem st_ref {C n d : String} {a a2 : Array Value} {s U : State} (hvm : s.vm.Alike U.vm) (hh : xSt s U.heap) (h : (Cond.laysStatic C n d).before a s = true) (h2 : (Cond.isRef (.static C n d)).before a s = true) : (Cond.isRef (.static C n d)).before a2 U = true := by
  obtain ⟨c, k, i, f, ad, cell, hc, hf, hst, hsa, hcell, hs, hcls, hlt, hty⟩ := Cond.laysStatic_spec h
  obtain ⟨k2, hf2, hk2⟩ := State.fieldFound?_setVm hvm hf
  have hf3 : U.fieldFound? C n d = some (c, k2, i, f) := hf2
  have hsa2 : k2.statics = some ad := by rw [hk2]; exact hsa
  have hcell2 := hh ad cell hcell hs
  have e1 : (Term.static C n d).eval a s none [] s = cell.slots[f.slot]? := by
    simp [Term.eval, State.fieldNamed?, hf, hst, hsa, hcell, hs]
  have e2 : (Term.static C n d).eval a2 U none [] U = cell.slots[f.slot]? := by
    simp [Term.eval, State.fieldNamed?, hf3, hst, hsa2, hcell2, hs]
  simp only [Cond.before, Cond.holds, Cond.value, e1] at h2
  simp only [Cond.before, Cond.holds, Cond.value, e2]
  exact h2
theorem xH.move {sa : Nat} {s U : State} (hW : s.WarmedH U.vm) (hh : xSt s U.heap) (h : xH sa s) : xH sa U :=
  ⟨st_lay hW.alike hh h.1, st_ref hW.alike hh h.1 h.2.1, st_lay hW.alike hh h.2.2.1, st_ref hW.alike hh h.2.2.1 h.2.2.2.1, vk_R.warm hW h.2.2.2.2.1, fun w hw => fW_move hW.alike hw (h.2.2.2.2.2 w hw) #[]⟩
theorem own_ok : (Bundle.ownAtoms R_K 103 aeN aeUp).all (fun w => decide (w = zU) || decide (w = rU) || decide (w = zS) || decide (w = rS) || ((goodWord w || (w.faceAtom && w.onTables)) && tables_1.contains w)) = true := by decide +kernel
/-- all words of the throw, at a state where the tables' words and the heap's hold -/
theorem own_at {sa : Nat} {args : Array Value} {s : State} (hts : ∀ w ∈ tW, w.before args s = true) (h : xH sa s) : ∀ w ∈ Bundle.ownAtoms R_K 103 aeN aeUp, w.before args s = true := by
  intro w hw
  have k := List.all_eq_true.mp own_ok w hw
  simp only [Bool.or_eq_true, Bool.and_eq_true, decide_eq_true_eq] at k
  have rf : xSt s s.heap := fun q cell h1 _ => h1
  rcases k with (((q | q) | q) | q) | ⟨q1 | q1, q2⟩
  · subst q; exact st_lay (Vm.Alike.refl s.vm) rf h.1
  · subst q; exact st_ref (Vm.Alike.refl s.vm) rf h.1 h.2.1
  · subst q; exact st_lay (Vm.Alike.refl s.vm) rf h.2.2.1
  · subst q; exact st_ref (Vm.Alike.refl s.vm) rf h.2.2.1 h.2.2.2.1
  · exact hts w (List.mem_filter.mpr ⟨List.mem_append_right _ (by first | exact List.contains_iff_mem.mp q2 | exact List.elem_iff.mp q2 | simpa using q2), q1⟩)
  · exact fW_move (Vm.Alike.refl s.vm) (w := w) (List.mem_filter.mpr ⟨by first | exact List.contains_iff_mem.mp q2 | exact List.elem_iff.mp q2 | simpa using q2, by rw [Bool.and_eq_true]; exact q1⟩) (h.2.2.2.2.2 w (List.mem_filter.mpr ⟨by first | exact List.contains_iff_mem.mp q2 | exact List.elem_iff.mp q2 | simpa using q2, by rw [Bool.and_eq_true]; exact q1⟩)) args
/-- a cell of the world is no statics' cell -/
theorem ws_none {D : va_G} {cl : List vw_C} {ws : va_W} {H : Heap} (hP : va_P D cl ws H) {k q : Nat} {x : va_E} (h : ws[k]? = some (q, x)) : ∃ cell : Cell, H[q]? = some cell ∧ cell.vm.isStatics = false := by
  have h0 := hP k _ h
  cases x with
  | inl a =>
    have h1 : H[q]? = some (vp_cell a.1 a.2) := h0
    refine ⟨_, h1, ?_⟩
    obtain ⟨cA, n, f⟩ := a
    rcases f with f | f | f | f | f <;> rfl
  | inr o =>
    obtain ⟨r, h1, cell, g1, g2, g3, -⟩ := h0
    exact ⟨cell, g1, by rw [g3]; rfl⟩
theorem xSt_of {D : va_G} {cl : List vw_C} {w0 : va_W} {s : State} {H : Heap} {A : Nat → Prop} {locs : List Loc} (hP : va_P D cl w0 s.heap) (hA : ∀ q, A q → va_A w0 s.heap.size q) (hS : va_S A s.heap H locs) : xSt s H := by
  intro q cell h1 h2
  have hq : q < s.heap.size := (Array.getElem?_eq_some_iff.mp h1).1
  rw [hS.2.1 q hq (fun z => ?_)]
  · exact h1
  · rcases hA q z with ⟨k, x, hk⟩ | hk
    · obtain ⟨c2, e1, e2⟩ := ws_none hP hk
      rw [h1] at e1
      cases e1
      rw [h2] at e2; cases e2
    · omega
section XT1
variable {p : Program} {l : Launch} {e : Env} {R : Room} {s : State} {m : MethodId} {args : Array Value} {below : List Frame} {meth : Method} {c : Code} {H : Heap} {locs : List Loc} {cells slots : Nat} {Q : State → Prop}
/-- the walk's point T taken as a start of its own, with room for one exception -/
theorem x_anew {T : State} (X : Stand p l e R s m args below meth c T locs cells slots) (hc : cells + 1 ≤ R.cells) (hs : slots + 6 ≤ R.slots) : Stand p l e { frames := R.frames, cells := 1, slots := 6, locals := R.locals } ((T.setVm s.vm).setFrames (.invoking m args :: below)) m args below meth c T [] 0 0 := by
  have tp : (T.setVm s.vm).topJava?.isSome := X.here.top
  have fr : ((T.setVm s.vm).setFrames (.invoking m args :: below)).frames = .invoking m args :: below := State.frames_setFrames _ (State.cur_lt_of_top tp)
  obtain ⟨g, hg⟩ := Option.isSome_iff_exists.mp tp
  obtain ⟨rs, hrs⟩ := State.topJava?_eq_some.mp hg
  obtain ⟨th, hth, -⟩ := State.frames_cons hrs
  have dn : ∀ xs : Heap, xs.toList.drop xs.size = [] := fun xs => List.drop_eq_nil_of_le (Nat.le_of_eq Array.length_toList)
  exact {
    admits := X.admits, cas := X.cas, clock := X.clock, frames := fr, hears := X.hears, method := X.method, code := X.code, here := X.here, tail := X.tail, warmed := X.warmed
    limits := by rw [State.stackLimits_setFrames]; rfl
    bytes := by rw [State.stackBytes_setFrames]; rfl
    same := by
      refine ⟨?_, Nat.le_refl _, Nat.le_refl _, ?_, ?_, fun a x hx => ⟨x, hx, rfl, rfl, fun _ _ => rfl⟩⟩
      · show T.setVm s.vm = { ((T.setVm s.vm).setFrames (.invoking m args :: below)).setFrames (T.setVm s.vm).frames with heap := T.heap, slotsUsed := T.slotsUsed }
        rw [State.setFrames_setFrames, State.setFrames_self hth]; rfl
      · show T.slotsUsed = T.slotsUsed + ((T.heap.toList.drop T.heap.size).map (·.slots.size)).sum
        rw [dn]; rfl
      · show ((T.heap.toList.drop T.heap.size).map (·.slots.size)).sum ≤ 0
        rw [dn]; exact Nat.le_refl _
    room := by
      have h := X.room
      have lo : ((T.setVm s.vm).setFrames (.invoking m args :: below)).localsInUse = s.localsInUse := by
        rw [State.localsInUse_invoking fr X.method X.code, State.localsInUse_invoking X.frames X.method X.code]
      have lim : e.platform.stackLimits (T.setVm s.vm).me = e.platform.stackLimits s.me := X.limits
      have byt : (T.setVm s.vm).me.stackBytes = s.me.stackBytes := X.bytes
      have hz := X.heapSize
      have us := X.used
      simp only [State.hasRoom, Bool.and_eq_true, decide_eq_true_eq] at h ⊢
      obtain ⟨⟨⟨⟨a1, a2, a3, a4, a5, a6⟩, a7⟩, a8⟩, a9⟩ := h
      rw [X.frames, List.length_cons] at a2 a3
      rw [lo, fr, List.length_cons, State.stackLimits_setFrames, State.stackBytes_setFrames, lim, byt]
      refine ⟨⟨⟨⟨a1, a2, a3, a4, a5, a6⟩, ?_⟩, ?_⟩, X.book⟩
      · show T.heap.size + 1 ≤ _
        omega
      · show T.slotsUsed + 6 ≤ _
        omega }
end XT1
section XT2
variable {p : Program} {l : Launch} {e : Env} {R : Room} {s : State} {m : MethodId} {args : Array Value} {below : List Frame} {meth : Method} {c : Code} {H : Heap} {locs : List Loc} {cells slots : Nat} {Q : State → Prop} {cc : ByteArray} {pc : Nat} {ls : Array Slot}
theorem same_old {s U : State} {k n : Nat} (h : s.sameButNew ({ U with vm := s.vm } : State) [] k n) : s.heap.size ≤ U.heap.size ∧ ∀ q, q < s.heap.size → U.heap[q]? = s.heap[q]? := by
  obtain ⟨-, h2, -, -, -, h6⟩ := h
  refine ⟨h2, fun q hq => ?_⟩
  obtain ⟨x, e1, e2, -, e4⟩ := h6 q _ (Array.getElem?_eq_getElem hq)
  have e5 : x.slots = (s.heap[q]).slots := Array.ext_getElem? (fun i => e4 i (fun z => nomatch z))
  rw [e5] at e2
  have e6 : U.heap[q]? = some x := e1
  rw [e6, e2, Array.getElem?_eq_getElem hq]
/-- new ArithmeticException(text), thrown -/
theorem x_throw (hexec : p.tables.exec = Jvm.exec) (hb : c.code = cc) (hl : l.stackTraces = false) (hown : s.vm.findClass R_K = some m.cls) (hts : ∀ w ∈ tW, w.before args s = true) {sa : Nat} (hst : ∀ U : State, s.WarmedH U.vm → U.heap = H → xH sa U) (hsize : ls.size = c.maxLocals)
    (d0 : decode cc pc = .ok (.new 99, 3)) (d3 : decode cc (pc + 3) = .ok (.dup, 1)) (d4 : decode cc (pc + 4) = .ok (.ldc 101, 2)) (d6 : decode cc (pc + 6) = .ok (.invokespecial 103, 3)) (d9 : decode cc (pc + 9) = .ok (.athrow, 1))
    (hout : ∀ x ∈ c.exceptionTable.toList, covers x (pc + 9) = false) (hRf : 6 ≤ R.frames) (hRl : 100 ≤ R.locals) (hRc : cells + 1 ≤ R.cells) (hRs : slots + 6 ≤ R.slots) (hlocks : meth.locks = false)
    (kk : ∀ (U : State) (ce : Cell), U.status = .running → Ended U below (.threw H.size) → s.WarmedH U.vm → s.sameButNew ({ U with vm := s.vm } : State) locs (cells + 1) (slots + 6) → U.heap[H.size]? = some ce → ce.vm = .none → s.vm.findClass aeN = some ce.cls → H.size ≤ U.heap.size → (∀ q, q < H.size → U.heap[q]? = H[q]?) → Q U) : W p l e R s m args below meth c H locs cells slots Q (F0 m pc ls []) := by
  intro T hT X
  have htr : e.platform.stackTraces = false := (show e.platform.stackTraces = l.stackTraces by rw [X.admits.platform]).trans hl
  have Y := x_anew X hRc hRs
  obtain ⟨s2, hs2⟩ : ∃ z, z = (T.setVm s.vm).setFrames (.invoking m args :: below) := ⟨_, rfl⟩
  rw [← hs2] at Y
  have hvm : s2.vm = s.vm := by rw [hs2]; rfl
  have hhp : s2.heap = H := by rw [hs2]; exact hT
  have hW0 : s.WarmedH s2.vm := by rw [hvm]; exact State.WarmedH.refl s
  have hts2 : ∀ w ∈ tW, w.before args s2 = true := fun w hw => pay_in hts tW_self w hw args s2 hW0
  have hx2 : xH sa s2 := hst s2 hW0 hhp
  have hat := own_at hts2 hx2
  have hown2 : s2.vm.findClass R_K = some m.cls := by rw [hvm]; exact hown
  have hins : (Cond.instantiable aeN 6).before args s2 = true := hat _ (by simp [Bundle.ownAtoms])
  obtain ⟨vm1, cX, kX, hfX, hkX, -, -, X1, st1⟩ := Y.newCold hexec (own := R_K) (C := aeN) (index := 99) (n := 6) hown2 (hts2 _ tw_aeL) hins (hts2 _ tw_aeI) (g := F0 m pc ls []) rfl (by rw [hb]; exact d0) (Nat.le_refl _) (Nat.le_refl _)
  generalize hT1 : (T.setVm vm1).pushCell { cls := cX, slots := kX.instanceTypes.map defaultValue, vm := .none } = T1 at X1 st1
  have hcA : T1.heap[T.heap.size]? = some (freshCell cX kX) := by rw [← hT1]; exact State.heap_pushCell_size _ _
  have d3' : decode c.code (pc + 3) = .ok (.dup, 1) := by rw [hb]; exact d3
  have d4' : decode c.code (pc + 4) = .ok (.ldc 101, 2) := by rw [hb]; exact d4
  obtain ⟨U, hsteps, hrun, hend, hW, hsame, ce, hce, hO⟩ := X1.ctorThrowS hexec htr (own := R_K) (cls := aeN) (names := aeUp) (ic := 103) hown2 (by decide +kernel) (by decide +kernel) hat (fun x hx => nomatch hx) hfX hkX hcA (by rw [hhp, hT]; exact Nat.le_refl _) (msg := .ref sa) rfl
    (g := { method := m, pc := pc + 6, locals := ls, stack := [.ref sa, .ref T.heap.size, .ref T.heap.size], locked := none }) rfl hsize rfl rfl (rest := []) rfl (by rw [hb]; exact d6) (by rw [hb]; exact d9) hout (by show 2 + 3 < R.frames; omega) (by show 2 * 0 + (1 + 0) + (13 * (2 + 1) + 42) ≤ R.locals; omega) hlocks
  have hso := same_old hsame
  rw [hhp] at hso
  have hWs : s.WarmedH U.vm := State.WarmedH.trans hW0 hW
  have hcl : s.vm.findClass aeN = some ce.cls := by have q := hO.cls; rw [hvm] at q; exact q
  have hall : s.sameButNew ({ U with vm := s.vm } : State) locs (cells + 1) (slots + 6) := by
    subst hs2
    obtain ⟨e1, e2⟩ := hsame
    rw [State.setFrames_setFrames] at e1
    have h2 : (T.setVm s.vm).sameButNew ({ U with vm := s.vm } : State) [] (0 + 1) (0 + 6) := ⟨e1, e2⟩
    have h3 := X.same.trans h2
    rw [List.append_nil] at h3
    exact h3
  refine ⟨U, ?_, kk U ce hrun (by rw [← hT]; exact hend) hWs hall (by rw [← hT]; exact hce) hO.vm hcl hso.1 hso.2⟩
  refine st1 _ ?_
  show Steps p.tables e below (T1.setTop { method := m, pc := pc + 3, locals := ls, stack := [.ref T.heap.size], locked := none }) _
  jvm_step X1.here [X1.here.top, hexec, d3', Value.category]
  exact X1.ldcString hexec (own := R_K) (text := aeTx) (index := 101) (a := sa) hown2 hx2.2.2.2.2.1.1 hx2.2.2.2.2.1.2 (g := { method := m, pc := pc + 4, locals := ls, stack := [.ref T.heap.size, .ref T.heap.size], locked := none }) rfl d4' _ hsteps
end XT2
