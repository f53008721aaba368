/-! contracts of a method that throws, and of one that catches -/
/-- the end of a method that has thrown an ArithmeticException -/
def xQt {S : Type} (D : va_G) (cl : List vw_C) (w0 : va_W) (sz : Nat) (wf : S → va_W) : Array Value → State → Outcome → State → Prop := fun _ st o t =>
  ∃ (x : Addr) (ce : Cell) (L : List Loc) (u : S), o = .threw x ∧ t.heap[x]? = some ce ∧ ce.vm = .none ∧ st.vm.findClass aeN = some ce.cls ∧ st.WarmedH t.vm ∧ st.sameButNew ({ t with vm := st.vm } : State) L 1 6 ∧ (∀ z ∈ L, va_A w0 sz z.base) ∧ va_P D cl (wf u) t.heap ∧ va_D (va_A w0 sz) (wf u) ∧ va_F (va_A w0 sz) st t
abbrev xPt (D : va_G) (cl : List vw_C) (tys : List (ClassId × FieldType)) (sz : Nat) (w0 : va_W) (sa : Nat) : State → Prop := fun U => xB D cl tys sz w0 U ∧ xH sa U
abbrev xMt {S : Type} (l : Launch) (y : MethodName) (yw : List Cond) (rm : Room) (av : List Value) (D : va_G) (cl : List vw_C) (tys : List (ClassId × FieldType)) (sz : Nat) (w0 : va_W) (sa : Nat) (wf : S → va_W) : Prop :=
  MetFree l y (headSpec yw rm) (va_Pc av (xPt D cl tys sz w0 sa)) (fun _ _ _ _ _ => True) (xQt D cl w0 sz wf)
theorem xoT {S : Type} {l : Launch} {y : MethodName} {yw : List Cond} {rm : Room} {av : List Value} {D : va_G} {cl : List vw_C} {tys : List (ClassId × FieldType)} {sz sa : Nat} {w0 : va_W} {wf : S → va_W} {cc : ByteArray} {maxL : Nat} {ret : Option FieldType} (hy : plainName y.cls = true) (hw : yw = Cond.code y cc maxL ret :: tW) (hlen : (lg_sl av).length ≤ maxL)
    (body : ∀ (p : Program) (e : Env) (s : State) (m : MethodId) (args : Array Value) (below : List Frame) (meth : Method) (c : Code) (Q : State → Prop) (A : Nat → Prop), p.tables.exec = Jvm.exec → c.code = cc → c.maxLocals = maxL → (∀ w ∈ tW, w.before args s = true) → s.vm.findClass y.cls = some m.cls → xN s → (∀ q, s.heap.size ≤ q → A q) → va_S A s.heap s.heap [] → va_P D cl w0 s.heap → va_K D cl tys s → va_D A w0 →
      xH sa s → (∀ x ∈ c.exceptionTable.toList, False) → meth.locks = false → (∀ q, A q → va_A w0 s.heap.size q) →
      (∀ (U : State) (x : Addr) (ce : Cell) (locs : List Loc) (u : S), U.status = .running → Ended U below (.threw x) → s.WarmedH U.vm → s.sameButNew ({ U with vm := s.vm } : State) locs 1 6 → (∀ z ∈ locs, A z.base) → U.heap[x]? = some ce → ce.vm = .none → s.vm.findClass aeN = some ce.cls → va_P D cl (wf u) U.heap → va_D A (wf u) → va_F A s U → Q U) →
      ∀ ls : Array Slot, lv_has ls maxL (lv_args 0 av) → W p l e rm s m args below meth c s.heap [] 0 0 Q (F0 m 0 ls [])) : xMt l y yw rm av D cl tys sz w0 sa wf := by
  refine MetFree.of_bodyS (code := cc) (maxLocals := maxL) (ret := ret) hy ?_ ?_
  · intro args s m h hn
    obtain ⟨meth, c, h1, h2, h3, h4, h5, h6, -, -⟩ := Cond.code_spec hn (atoms_spec (ws := yw) h _ (by rw [hw]; exact List.mem_cons_self))
    exact ⟨meth, c, h1, h2, h3, h4, h5, h6⟩
  · intro p e s m args below meth c s1 B hml hv _
    obtain ⟨rfl, ⟨hsz, hP, hK, hD0, hN⟩, hxh⟩ := hv
    have hts0 := atoms_spec (ws := yw) B.pre
    have hts : ∀ w ∈ tW, w.before _ s = true := fun w h => hts0 w (by rw [hw]; exact List.mem_cons_of_mem _ h)
    have hown := findClass_of_methodNamed B.named
    have hne := B.noHandlers (hts0 _ (by rw [hw]; exact List.mem_cons_self))
    have hnx : ∀ x ∈ c.exceptionTable.toList, False := by
      intro x hx
      have : c.exceptionTable.toList = [] := by
        have q : c.exceptionTable = #[] := Array.isEmpty_iff.mp hne
        rw [q]
      rw [this] at hx; cases hx
    subst hsz
    have hD := hD0.self (sz := s.heap.size)
    have hl := lv_entry av (n := maxL) hlen
    have hh0 : s1.heap = s.heap := by rw [B.state]; rfl
    have key : W p l e rm s m av.toArray below meth c s.heap [] 0 0 (fun t => ∃ o, t.status = .running ∧ Ended t below o ∧ xQt D cl w0 s.heap.size wf av.toArray s o t) (entryFrame m av.toArray maxL) := by
      rw [lg_entry_eq]
      exact body p e s m _ below meth c _ _ B.exec B.bytes hml hts hown hN (fun q h => Or.inr h) va_S.rf hP hK hD hxh hnx B.notSynchronized (fun q h => h) (fun U x ce locs u h1 h2 h3 h4 h5 h6 h7 h8 h9 h10 h11 => ⟨.threw x, h1, h2, x, ce, locs, u, rfl, h6, h7, h8, h3, h4, h5, h9, h10, h11⟩) _ hl
    obtain ⟨t, a1, o, b1, b2, b3⟩ := key s1 hh0 (Stand.of_body B)
    exact ⟨t, o, a1, b1, b2, b3⟩
/-- an int method with an exception table -/
theorem xoiW {S : Type} {l : Launch} {y : MethodName} {yw : List Cond} {rm : Room} {av : List Value} {D : va_G} {cl : List vw_C} {tys : List (ClassId × FieldType)} {sz : Nat} {w0 : va_W} {post : Int32 → S → Prop} {wf : S → va_W} {mc ms : Nat} {cc : ByteArray} {maxL : Nat} {hh : List (Nat × Nat × Nat × Nat)} {Z : State → Prop} (hy : plainName y.cls = true) (hw : yw = Cond.codeWith y cc maxL (some .int) hh :: tW) (hlen : (lg_sl av).length ≤ maxL)
    (body : ∀ (p : Program) (e : Env) (s : State) (m : MethodId) (args : Array Value) (below : List Frame) (meth : Method) (c : Code) (Q : State → Prop) (A : Nat → Prop), p.tables.exec = Jvm.exec → c.code = cc → c.maxLocals = maxL → (∀ w ∈ tW, w.before args s = true) → s.vm.findClass y.cls = some m.cls → xN s → (∀ q, s.heap.size ≤ q → A q) → va_S A s.heap s.heap [] → va_P D cl w0 s.heap → va_K D cl tys s → va_D A w0 →
      (∀ (H1 : Heap) (locs1 : List Loc) (pc : Nat) (ls : Array Slot) (r : Int32) (u : S), decode cc pc = .ok (.ireturn, 1) → post r u → va_P D cl (wf u) H1 → va_D A (wf u) → va_S A s.heap H1 locs1 → W p l e rm s m args below meth c H1 locs1 mc ms Q (F0 m pc ls [.int r])) →
      ∀ ls : Array Slot, lv_has ls maxL (lv_args 0 av) → Z s → c.exceptionTable.toList.map (fun h => (h.startPc, h.endPc, h.handlerPc, h.catchType)) = hh → W p l e rm s m args below meth c s.heap [] 0 0 Q (F0 m 0 ls [])) :
    Met l y yw rm (va_Pc av (fun U => xB D cl tys sz w0 U ∧ Z U)) (va_Qi post (xE D cl tys (va_A w0 sz) wf) (va_A w0 sz)) mc ms (va_A w0 sz) := by
  refine va_MetW (cc := cc) (maxL := maxL) (ret := some .int) (hh := hh) hy hw ?_
  intro p e s m args below meth c s1 B hml hv
  obtain ⟨rfl, ⟨hsz, hP, hK, hD0, hN⟩, hZ⟩ := hv
  have hts0 := atoms_spec (ws := yw) B.pre
  have hts : ∀ w ∈ tW, w.before _ s = true := fun w h => hts0 w (by rw [hw]; exact List.mem_cons_of_mem _ h)
  have hown := findClass_of_methodNamed B.named
  obtain ⟨m9, meth9, c9, n1, n2, n3, -, -, n6, -, -, -⟩ := Cond.codeWith_spec (hts0 (Cond.codeWith y cc maxL (some .int) hh) (by rw [hw]; exact List.mem_cons_self))
  cases B.named.symm.trans n1
  cases B.method.symm.trans n2
  cases (Stand.of_body B).code.symm.trans n3
  subst hsz
  have hD := hD0.self (sz := s.heap.size)
  have hl := lv_entry av (n := maxL) hlen
  rw [lg_entry_eq]
  exact body p e s m _ below meth c _ _ B.exec B.bytes hml hts hown hN (fun q h => Or.inr h) va_S.rf hP hK hD (fun H1 locs1 pc ls r u hd hp hP1 hD1 hS1 => W.iret B.exec B.bytes B.returns (fun t ht hW => ⟨⟨r, u, rfl, hp, by rw [ht]; exact hP1, va_K.moved hW.alike hK, hD1⟩, hS1.F ht⟩) hS1.2.2 hd) _ hl hZ n6
theorem xBlindZ {av : List Value} {D : va_G} {cl : List vw_C} {tys : List (ClassId × FieldType)} {sz sa : Nat} {ws : va_W} : FrameBlind (va_Pc av (xPt D cl tys sz ws sa)) := fun a U g mk q => by
  obtain ⟨q0, q1, q2⟩ := q
  have k := xBlind (av := av) (D := D) (cl := cl) (tys := tys) (sz := sz) (ws := ws) a U g mk ⟨q0, q1⟩
  exact ⟨q0, k.2, q2.move (U := U.calling g mk a) (State.WarmedH.refl U) (fun q cell h1 _ => h1)⟩
section XT3
variable {p : Program} {l : Launch} {e : Env} {R : Room} {s : State} {m : MethodId} {args : Array Value} {below : List Frame} {meth : Method} {c : Code} {H H0 : Heap} {locs : List Loc} {cells slots : Nat} {Q : State → Prop} {cc : ByteArray} {pc : Nat} {ls : Array Slot} {rest : List Value} {D : va_G} {cl : List vw_C} {tys : List (ClassId × FieldType)} {ws wc wr : va_W} {A : Nat → Prop}
/-- a callee that throws: the caller's frame with the exception over it -/
theorem x_thrown {U : State} (X : Stand p l e R s m args below meth c U locs cells slots) {y : MethodName} {yw : List Cond} {rm : Room} {Pc : Array Value → State → Prop} {Qc : Array Value → State → Outcome → State → Prop} {bytes : ByteArray} {maxL k n : Nat} {ret : Option FieldType} {G : Addr → State → List Loc → Prop} (hM : MetFree l y (headSpec yw rm) Pc (fun _ _ _ _ _ => True) Qc)
    {g : JFrame} (hg : g.method = m) (hsize : g.locals.size = c.maxLocals) {ig : Instr} {len : Nat} (hdg : decode c.code g.pc = .ok (ig, len)) (hW : 2 * g.monitorRoom + (g.stack.map fun v => v.category).sum ≤ 8) {mk : MethodId} (hn : U.methodNamed? y = some mk) {a : Array Value}
    (h1 : (headSpec yw rm).pre.before a U = true) (h2 : (Cond.code y bytes maxL ret).before a U = true) (h3 : (Cond.initialized y.cls).before a U = true) (hfr : rm.frames + 1 ≤ R.frames) (hlo : 8 + (maxL + 11) + rm.locals ≤ R.locals) (h4 : cells + rm.cells ≤ R.cells) (h5 : slots + rm.slots ≤ R.slots) (hP : Pc a (U.calling g mk a))
    (hQ : ∀ (o : Outcome) (t : State), Qc a (U.calling g mk a) o t → ∃ (x : Addr) (L : List Loc), o = .threw x ∧ U.WarmedH t.vm ∧ (U.calling g mk a).sameButNew ({ t with vm := U.vm } : State) L k n ∧ G x t L) :
    ∃ (x : Addr) (t V : State) (L : List Loc), G x t L ∧ V.heap = t.heap ∧ Stand p l e R s m args below meth c V (locs ++ L) (cells + k) (slots + n) ∧ Steps p.tables e below (doInvoke e (U.setTop g) [] mk a).1 ((V.setTop g).pushFrame (.throwing x)) := by
  subst hg
  obtain ⟨mY, cY, hmY, hcY, -, hlY, -, -, -, -⟩ := Cond.code_spec hn h2
  obtain ⟨kY, hkY, -⟩ := className_of_methodNamed hn
  have iY : kY.init = .initialized := Cond.initialized_spec (findClass_of_methodNamed hn) hkY h3
  have here : At U g.method c below := X.here
  have app : (headSpec yw rm).appliesLoose y e.platform (U.calling g mk a) = true := Spec.appliesLoose_calling (g := g) here hdg hn hkY iY (X.room_calling (g := g) (R' := (headSpec yw rm).room) hsize hmY hcY hfr (by rw [hlY]; show _ ≤ _; have : (headSpec yw rm).room.locals = rm.locals := rfl; omega) h4 h5) h1
  obtain ⟨mid, hmid⟩ := here.above
  have frs : (U.setTop g).frames = (.java g :: mid) ++ below := by rw [State.frames_setTop' g here.top, hmid]; rfl
  obtain ⟨o, t, st, -, hend, hq⟩ := Steps.callFree hM p X.admits X.cas X.clock (acts := []) frs app hP trivial
  obtain ⟨x, L, rfl, hWt, hsm, hG⟩ := hQ o t hq
  rw [State.frames_setTop' g here.top] at hend
  have ft : t.frames = .throwing x :: .java g :: U.frames.tail := hend
  obtain ⟨g0, hg0⟩ := Option.isSome_iff_exists.mp here.top
  obtain ⟨rs, hrs⟩ := State.topJava?_eq_some.mp hg0
  obtain ⟨th, hth, -⟩ := State.frames_cons hrs
  obtain ⟨e1, q2, q3, q4, q5, q6⟩ := id hsm
  have et : t = ({ (U.calling g mk a).setFrames t.frames with heap := t.heap, slotsUsed := t.slotsUsed } : State).setVm t.vm := by
    have z : t = ({ t with vm := U.vm } : State).setVm t.vm := rfl
    rw [e1] at z
    exact z
  have hr2 : (({ U with heap := t.heap, slotsUsed := t.slotsUsed } : State).setVm t.vm).frames = .java g0 :: rs := hrs
  refine ⟨x, t, ({ U with heap := t.heap, slotsUsed := t.slotsUsed } : State).setVm t.vm, L, hG, rfl, ?_, ?_⟩
  · have sm : U.sameButNew ({ U with heap := t.heap, slotsUsed := t.slotsUsed } : State) L k n := by
      refine ⟨?_, q2, q3, q4, q5, q6⟩
      show ({ U with heap := t.heap, slotsUsed := t.slotsUsed } : State) = { U.setFrames U.frames with heap := t.heap, slotsUsed := t.slotsUsed }
      rw [State.setFrames_self hth]
    exact ⟨X.admits, X.cas, X.clock, X.frames, X.room, X.hears, X.method, X.code, (X.here.setHeapUsed t.heap t.slotsUsed).setVm hWt.alike, X.tail, State.WarmedH.trans X.warmed hWt, X.limits, X.bytes, X.same.trans (sm.setVm s.vm)⟩
  · have e2 : t = ((({ U with heap := t.heap, slotsUsed := t.slotsUsed } : State).setVm t.vm).setTop g).pushFrame (.throwing x) := by
      refine et.trans ?_
      rw [ft, State.calling_eq here.top, State.setFrames_setFrames, State.pushFrame, State.frames_setTop _ hr2, State.setTop_of_frames _ hr2, State.setFrames_setFrames, hrs]
      rfl
    rw [← e2]
    exact st
/-- the only row of the table covers the place and takes the object: its class is resolved on the way -/
theorem x_find {S : State} {f : JFrame} {a : Addr} {me : Method} {co : Code} {x : ExceptionTableEntry} {k : ClassId} {cell : Cell} (hm : S.vm.method? f.method = some me) (hc : me.code = some co) (ht : co.exceptionTable.toList = [x]) (hx : covers x f.pc = true) (h0 : x.catchType ≠ 0) (hl : S.vm.ClassLinks e.platform f.method.cls x.catchType k) (hcell : S.heap[a]? = some cell) (hobj : ∀ z, cell.vm ≠ .statics z) (h1 : ∃ z, S.vm.classes[cell.cls]? = some z) (h2 : ∃ z, S.vm.classes[k]? = some z) (hfit : S.vm.assignable cell.cls k = true)
    (Z : Handler → Pre) (E : CtlPost) (d : Bool) (acts : List Action) : wp (findHandler f a) Z E e d acts S ↔ Z (.found x.handlerPc) d acts (S.setVm (S.vm.noted f.method.cls x.catchType (.cls k))) := by
  rw [W.findHandler_eq hm hc, ht]
  simp only [covers] at hx
  obtain ⟨u1, u2⟩ := (resolveClass_links e.toSetting hl).op (op := VmOp.resolveClass f.method.cls x.catchType) rfl
  have al : S.vm.Alike (S.vm.noted f.method.cls x.catchType (.cls k)) := (Vm.Alike.refl S.vm).noted _ _ _
  obtain ⟨z1, hz1⟩ := h1
  obtain ⟨z2, hz2⟩ := h2
  obtain ⟨y1, hy1, -⟩ := al.2.2 _ _ hz1
  obtain ⟨y2, hy2, -⟩ := al.2.2 _ _ hz2
  have fit2 : (S.vm.noted f.method.cls x.catchType (.cls k)).assignable cell.cls k = true := by rw [al.assignable]; exact hfit
  simp [findHandler.go, hx, h0, u1, u2, hcell, hobj, hy1, hy2, fit2, VmOp.dirties, VmOp.acts]
/-- what is thrown over the frame g is caught at the handler -/
theorem x_caught {T : State} {g : JFrame} {a : Addr} {hpc : Nat} {v2 : Vm} {target : State} (h : At T g.method c below) (hf : ∀ (Z : Handler → Pre) (E : CtlPost) (d : Bool) (acts : List Action), wp (findHandler g a) Z E e d acts ((T.setTop g).pushFrame (.throwing a)) ↔ Z (.found hpc) d acts (((T.setTop g).pushFrame (.throwing a)).setVm v2))
    (hr : Steps p.tables e below ((T.setVm v2).setTop { g with pc := hpc, stack := [.ref a] }) target) : Steps p.tables e below ((T.setTop g).pushFrame (.throwing a)) target := by
  obtain ⟨hgo, hw⟩ := h.throwing a
  refine Steps.head hgo hw ?_
  have one : (stepThrowing e ((T.setTop g).pushFrame (.throwing a)) a (.java g :: T.frames.tail)).Is ((((T.setTop g).pushFrame (.throwing a)).setVm v2).setFrames (.java { g with pc := hpc, stack := [.ref a] } :: T.frames.tail)) [] := by
    simp only [stepThrowing, searchFrame, vmDo]
    generalize hres : Sem.go _ e false [] ((T.setTop g).pushFrame (.throwing a)) = res
    obtain ⟨as, rfl, ha⟩ := Sem.eq_ok_of hres (a := Handler.found hpc) (s' := ((T.setTop g).pushFrame (.throwing a)).setVm v2) (acts' := []) (by simp [hf _ _ _ _])
    exact ⟨rfl, ha⟩
  rw [stepThread_throwing (frames_entered h.top _), one.1]
  obtain ⟨g0, hg⟩ := Option.isSome_iff_exists.mp h.top
  obtain ⟨rs, hrs⟩ := State.topJava?_eq_some.mp hg
  have hr2 : (T.setVm v2).frames = .java g0 :: rs := hrs
  rw [State.setTop_of_frames _ hr2] at hr
  have sw : ∀ (u : State) (F G2 : List Frame), ((u.setFrames F).setVm v2).setFrames G2 = (u.setVm v2).setFrames G2 := fun u F G2 => by
    rw [show (u.setFrames F).setVm v2 = (u.setVm v2).setFrames F from rfl, State.setFrames_setFrames]
  rw [hrs, List.tail_cons, State.pushFrame, sw, State.setTop_of_frames _ hrs, sw]
  exact hr
/-- a virtual call that throws, caught by the only row of the caller's table -/
theorem x_callT {S : Type} {wf : S → va_W} {y : MethodName} {rm : Room} {sa b hpc : Nat} {As : List Value} {bytes : ByteArray} {maxL n index ct : Nat} {ret : Option FieldType} {own C : String} {a1 a2 : Nat} (hexec : p.tables.exec = Jvm.exec) (hb : c.code = cc) (hsize : ls.size = c.maxLocals) (hown : s.vm.findClass own = some m.cls) (hts : ∀ w ∈ tW, w.before args s = true)
    (hM : xMt l y (Cond.code y bytes maxL ret :: tW) rm (.ref b :: As) D cl tys H.size wc sa wf)
    (hcode : Cond.code y bytes maxL ret ∈ tW) (hlink : Cond.methodLink own index y ∈ tW) (hinst : Cond.instanceMethod y ∈ tW) (hsel : Cond.selects C y y ∈ tW) (hini : Cond.initialized y.cls ∈ tW) (hy : y.cls ≠ "java/lang/invoke/MethodHandle" ∧ y.cls ≠ "java/lang/invoke/VarHandle" ∧ (parseMethodDescriptor y.desc).map (fun d => d.parameters.length) = some n) (hn : As.length = n)
    (hrm : rm.frames + 1 ≤ R.frames ∧ 8 + (maxL + 11) + rm.locals ≤ R.locals ∧ rm.cells = 1 ∧ rm.slots = 6) (hRc : cells + 1 ≤ R.cells) (hRs : slots + 6 ≤ R.slots) (hrest : (rest.map fun v => v.category).sum ≤ 8)
    (hclk : (Cond.classLink own ct aeN) ∈ tW) (htab : c.exceptionTable.toList.map (fun h => (h.startPc, h.endPc, h.handlerPc, h.catchType)) = [(a1, a2, hpc, ct)]) (hin : a1 ≤ pc ∧ pc < a2) (hct : ct ≠ 0)
    (hN : xN s) (hK : va_K D cl tys s) (hxh : ∀ U : State, s.WarmedH U.vm → U.heap = H → xH sa U) (hP : va_P D cl ws H) (hD : va_D A ws) (hS : va_S A H0 H locs) (hA : ∀ q, H0.size ≤ q → A q) (isC isR : List Nat) (hC : isC.map (fun i => ws[i]?) = wc.map some) (hR : isR.map (fun i => ws[i]?) = wr.map some) (hnd : va_nd isR = true) (hdis : ∀ i ∈ isR, i ∉ isC) (hPc : va_P D cl wc H) (hDc : va_D A wc)
    (hrecv : ∃ cell : Cell, H[b]? = some cell ∧ cell.vm.isStatics = false ∧ s.vm.findClass C = some cell.cls)
    (hdg : decode cc pc = .ok (.invokevirtual index, 3))
    (kk : ∀ (x : Nat) (u : S) (H1 : Heap) (locs1 : List Loc), va_P D cl (wr ++ wf u) H1 → va_D A (wr ++ wf u) → va_S A H0 H1 locs1 → W p l e R s m args below meth c H1 locs1 (cells + 1) (slots + 6) Q (F0 m hpc ls [.ref x])) : W p l e R s m args below meth c H locs cells slots Q (F0 m pc ls (As.reverse ++ .ref b :: rest)) := by
  intro T hT X
  obtain ⟨mk, methM, hnamed, hmethM, hstM, habM⟩ := Cond.instanceMethod_spec (hts _ hinst)
  obtain ⟨methM', cM, hmethM', -, -, -, -, -, -, hsigM⟩ := Cond.code_spec hnamed (hts _ hcode)
  cases hmethM.symm.trans hmethM'
  obtain ⟨cell, hcell, hobj, hcls⟩ := hrecv
  obtain ⟨c2, r2, m2, q1, q2, q3, q4, kP, hkP, hkPi⟩ := Cond.selects_spec (hts _ hsel)
  cases hcls.symm.trans q1
  cases (State.methodFound?_of_named hnamed ⟨hy.1, hy.2.1⟩).symm.trans q2
  cases hnamed.symm.trans q3
  have hselP : selectMethod e.platform s.vm cell.cls mk = .method mk := by rw [Launch.admits_selectMethod X.admits]; exact q4
  have hlen : As.length = methM.sig.parameters.length := by
    have z := hy.2.2
    rw [hsigM] at z
    rw [hn]; exact (Option.some.inj z).symm
  obtain ⟨vm1, X1, hstep1⟩ := X.invokevirtual hexec hown (hts _ hlink) hnamed hmethM hstM hkP hkPi ⟨hy.1, hy.2.1⟩ (a := b) (cell := cell) (by rw [hT]; exact hcell) (fun z h => by rw [h] at hobj; cases hobj) hselP hmethM habM hkP hkPi (g := F0 m pc ls (As.reverse ++ .ref b :: rest)) rfl (argsL := As) (rest := rest) hlen rfl (by rw [hb]; exact hdg)
  have pre : va_Pc (.ref b :: As) (xPt D cl tys H.size wc sa) (Value.ref b :: As).toArray (T.setVm vm1) := ⟨rfl, ⟨by rw [← hT]; rfl, by show va_P D cl wc T.heap; rw [hT]; exact hPc, va_K.moved X1.warmed.alike hK, hDc.weaken (fun _ _ _ _ => trivial), hN.warm X1.warmed⟩, hxh (T.setVm vm1) X1.warmed hT⟩
  have wd : ∀ w ∈ tW, w.before (Value.ref b :: As).toArray (T.setVm vm1) = true := fun w hw => pay_in hts tW_self w hw _ _ X1.warmed
  obtain ⟨x, t, V, L, ⟨ce, u, h1, h2, h3, e4, h4, h5, h6⟩, e1, X', hsteps⟩ := x_thrown (bytes := bytes) (maxL := maxL) (ret := ret) (k := 1) (n := 6)
    (G := fun x t L => ∃ (ce : Cell) (u : S), t.heap[x]? = some ce ∧ ce.vm = .none ∧ (T.setVm vm1).vm.findClass aeN = some ce.cls ∧ (∀ z ∈ L, va_A wc H.size z.base) ∧ va_P D cl (wf u) t.heap ∧ va_D (va_A wc H.size) (wf u) ∧ va_F (va_A wc H.size) (T.setVm vm1) t)
    X1 hM (g := F0 m pc ls rest) rfl hsize (by rw [hb]; exact hdg) (by show 2 * 0 + (rest.map fun v => v.category).sum ≤ 8; omega) (X1.named hnamed) (a := (Value.ref b :: As).toArray)
    (atoms_intro (fun z hz => by rcases List.mem_cons.mp hz with rfl | hz; exact wd _ hcode; exact wd z hz)) (wd _ hcode) (wd _ hini) hrm.1 hrm.2.1 (by rw [hrm.2.2.1]; exact hRc) (by rw [hrm.2.2.2]; exact hRs) (xBlindZ _ _ _ _ pre)
    (fun o t hq => by
      obtain ⟨x, ce, L, u, rfl, h1, h2, h3, h4, h5, h6, h7, h8, h9⟩ := hq
      exact ⟨x, L, rfl, h4, h5, ce, u, h1, h2, h3, h6, h7, h8, h9⟩)
  have come : Steps p.tables e below (T.setTop (F0 m pc ls (As.reverse ++ .ref b :: rest))) ((V.setTop (F0 m pc ls rest)).pushFrame (.throwing x)) := hstep1 _ (fun acts => by rw [doInvoke_state]; exact hsteps)
  have hfa : s.vm.findClass aeN = some ce.cls := by
    rw [X1.warmed.alike.findClass] at h3
    exact h3
  have hpl : e.platform.magicAccessors = ({} : Platform).magicAccessors := by rw [X.admits.platform]
  obtain ⟨c5, hc5, hcl5⟩ := Cond.classLink_spec hown (hts _ hclk) e.platform hpl
  obtain ⟨c3, c4, hc3, hc4, hasg⟩ := Cond.castable_spec ((hxh T X.warmed hT).2.2.2.2.2 _ aeK_in)
  rw [X.warmed.alike.findClass] at hc3 hc4
  rw [X.warmed.alike.assignable] at hasg
  cases Option.some.inj (hc3.symm.trans hfa)
  cases Option.some.inj (hc4.symm.trans hc3)
  cases Option.some.inj (hc5.symm.trans hc3)
  obtain ⟨xe, hx1, g1, g2, g3, g4⟩ : ∃ xe : ExceptionTableEntry, c.exceptionTable.toList = [xe] ∧ xe.startPc = a1 ∧ xe.endPc = a2 ∧ xe.handlerPc = hpc ∧ xe.catchType = ct := by
    cases hl : c.exceptionTable.toList with
    | nil => rw [hl] at htab; cases htab
    | cons z zs =>
      rw [hl] at htab
      cases zs with
      | nil =>
        cases htab
        exact ⟨z, rfl, rfl, rfl, rfl, rfl⟩
      | cons z2 zs => cases htab
  obtain ⟨k9, hk9, -⟩ := Vm.findClass_spec hfa
  obtain ⟨k8, hk8, -⟩ := X'.warmed.alike.2.2 _ _ hk9
  obtain ⟨dk, _, _, kt, hd9, _, _, _, _, hkt, _, hopen⟩ := hcl5.here
  have lk : V.vm.ClassLinks e.platform m.cls ct ce.cls := X'.warmed.classLinks hcl5
  have hW2 : s.WarmedH (V.vm.noted m.cls ct (.cls ce.cls)) := X'.warmed.noted hd9 hopen (State.rightAt_cls hcl5)
  have fd := x_find (e := e) (S := (V.setTop (F0 m pc ls rest)).pushFrame (.throwing x)) (f := F0 m pc ls rest) (a := x) (x := xe) (k := ce.cls) (cell := ce) X'.method' X'.code hx1 (by simp only [covers, g1, g2]; simp; exact hin) (by rw [g4]; exact hct) (by rw [g4]; exact lk) (by show V.heap[x]? = _; rw [e1]; exact h1) (fun z hz => by rw [h2] at hz; cases hz) ⟨k8, hk8⟩ ⟨k8, hk8⟩ (by show V.vm.assignable _ _ = true; rw [X'.warmed.alike.assignable]; exact hasg)
  rw [g3, g4] at fd
  have X2 := X'.noted hW2
  have hFc := va_free (wc := wc) hD hS hA isC hC
  have h6a : T.heap.size ≤ t.heap.size := h6.1
  have h6b : ∀ q : Nat, q < T.heap.size → ¬ va_A wc H.size q → t.heap[q]? = T.heap[q]? := h6.2
  rw [hT] at h6a h6b
  obtain ⟨hP2, hD2⟩ := va_join (H1 := t.heap) hP hD isC isR hC hR hnd hdis (fun q hq hz => h6b q hq hz) hFc h4 h5
  have hS2 : va_S A H0 t.heap (locs ++ L) := by
    refine ⟨Nat.le_trans hS.1 h6a, fun q hq hz => ?_, fun z hz => ?_⟩
    · rw [h6b q (Nat.lt_of_lt_of_le hq hS.1) (fun y => hz (hFc q y))]
      exact hS.2.1 q hq hz
    · rcases List.mem_append.mp hz with y | y
      · exact hS.2.2 z y
      · exact hFc _ (e4 z y)
  obtain ⟨t2, b1, b2⟩ := kk x u t.heap (locs ++ L) hP2 hD2 hS2 (V.setVm (V.vm.noted m.cls ct (.cls ce.cls))) e1 X2
  exact ⟨t2, come.trans (x_caught X'.here fd b1), b2⟩
end XT3
abbrev xMiZ {S : Type} (l : Launch) (y : MethodName) (yw : List Cond) (rm : Room) (av : List Value) (D : va_G) (cl : List vw_C) (tys : List (ClassId × FieldType)) (sz : Nat) (w0 : va_W) (Z : State → Prop) (post : Int32 → S → Prop) (wf : S → va_W) (mc ms : Nat) : Prop :=
  Met l y yw rm (va_Pc av (fun U => xB D cl tys sz w0 U ∧ Z U)) (va_Qi post (xE D cl tys (va_A w0 sz) wf) (va_A w0 sz)) mc ms (va_A w0 sz)
section XT4
variable {p : Program} {l : Launch} {e : Env} {R : Room} {s : State} {m : MethodId} {args : Array Value} {below : List Frame} {meth : Method} {c : Code} {H H0 : Heap} {locs : List Loc} {cells slots : Nat} {Q : State → Prop} {cc : ByteArray} {pc : Nat} {ls : Array Slot} {rest : List Value} {D : va_G} {cl : List vw_C} {tys : List (ClassId × FieldType)} {ws wc wr : va_W} {A : Nat → Prop}
/-- a static call of a method with an exception table, an int for answer -/
theorem x_callSW {S : Type} {y : MethodName} {rm : Room} {As : List Value} {bytes : ByteArray} {maxL n index mc ms : Nat} {own : String} {hh : List (Nat × Nat × Nat × Nat)} {Z : State → Prop} {post : Int32 → S → Prop} {wf : S → va_W} (hexec : p.tables.exec = Jvm.exec) (hb : c.code = cc) (hsize : ls.size = c.maxLocals) (hown : s.vm.findClass own = some m.cls) (hts : ∀ w ∈ tW, w.before args s = true)
    (hM : xMiZ l y (Cond.codeWith y bytes maxL (some .int) hh :: tW) rm As D cl tys H.size wc Z post wf mc ms)
    (hbl : ∀ (a : Array Value) (U : State) (g : JFrame) (mk : MethodId), Z U → Z (U.calling g mk a)) (hcode : Cond.codeWith y bytes maxL (some .int) hh ∈ tW) (hlink : Cond.methodLink own index y ∈ tW) (hstat : Cond.static y ∈ tW) (hini : Cond.initialized y.cls ∈ tW) (hy : y.cls ≠ "java/lang/invoke/MethodHandle" ∧ y.cls ≠ "java/lang/invoke/VarHandle" ∧ (parseMethodDescriptor y.desc).map (fun d => d.parameters.length) = some n) (hn : As.length = n)
    (hrm : rm.frames + 1 ≤ R.frames ∧ 8 + (maxL + 11) + rm.locals ≤ R.locals ∧ rm.cells = mc ∧ rm.slots = ms) (hRc : cells + mc ≤ R.cells) (hRs : slots + ms ≤ R.slots) (hrest : (rest.map fun v => v.category).sum ≤ 8)
    (hN : xN s) (hK : va_K D cl tys s) (hZ : ∀ U : State, s.WarmedH U.vm → U.heap = H → Z U) (hP : va_P D cl ws H) (hD : va_D A ws) (hS : va_S A H0 H locs) (hA : ∀ q, H0.size ≤ q → A q) (isC isR : List Nat) (hC : isC.map (fun i => ws[i]?) = wc.map some) (hR : isR.map (fun i => ws[i]?) = wr.map some) (hnd : va_nd isR = true) (hdis : ∀ i ∈ isR, i ∉ isC) (hPc : va_P D cl wc H) (hDc : va_D A wc)
    (hdg : decode cc pc = .ok (.invokestatic index, 3))
    (kk : ∀ (r : Int32) (u : S) (H1 : Heap) (locs1 : List Loc), post r u → va_P D cl (wr ++ wf u) H1 → va_D A (wr ++ wf u) → va_S A H0 H1 locs1 → W p l e R s m args below meth c H1 locs1 (cells + mc) (slots + ms) Q (F0 m (pc + 3) ls (.int r :: rest))) : W p l e R s m args below meth c H locs cells slots Q (F0 m pc ls (As.reverse ++ rest)) := by
  have bl : FrameBlind (va_Pc As (fun U => xB D cl tys H.size wc U ∧ Z U)) := fun a U g mk q => by
    obtain ⟨q0, q1, q2⟩ := q
    exact ⟨q0, (xBlind (av := As) a U g mk ⟨q0, q1⟩).2, hbl a U g mk q2⟩
  have hbk : Free.Back l R p e below s args y 3 8 (PreOf R mc ms (va_Pc As (fun U => xB D cl tys H.size wc U ∧ Z U))) (PostOf (va_Qi post (xE D cl tys (va_A wc H.size) wf) (va_A wc H.size)) mc ms (va_A wc H.size)) :=
    va_backW (bytes := bytes) (maxL := maxL) (ret := some .int) (hh := hh) hM bl hrm.2.2.1 hrm.2.2.2 hrm.1 hrm.2.1 (fun w hw a U hW => by rcases List.mem_cons.mp hw with rfl | hw; exact pay_in hts tW_self _ hcode a U hW; exact pay_in hts tW_self w hw a U hW) List.mem_cons_self (fun a U hW => pay_in hts tW_self _ hini a U hW)
  have run : va_Run p l e R s m args below meth c H locs cells slots mc ms (F0 m pc ls (As.reverse ++ rest)) rest (va_Qi post (xE D cl tys (va_A wc H.size) wf) (va_A wc H.size) As.toArray) (va_A wc H.size) := by
    intro T hT X
    obtain ⟨mk, methM, cM, hnamed, hmethM, -, -, -, -, -, -, hsigM⟩ := Cond.codeWith_spec (hts _ hcode)
    have hstatic : methM.isStatic = true := Cond.static_spec hnamed hmethM (hts _ hstat)
    obtain ⟨kP, hkP, -⟩ := className_of_methodNamed hnamed
    have hinitP : kP.init = .initialized := Cond.initialized_spec (findClass_of_methodNamed hnamed) hkP (hts _ hini)
    have hlen : As.length = methM.sig.parameters.length := by
      have z := hy.2.2
      rw [hsigM] at z
      rw [hn]; exact (Option.some.inj z).symm
    obtain ⟨vm1, X1, hstep1⟩ := X.invokestatic hexec hown (hts _ hlink) hnamed hmethM hstatic hkP hinitP ⟨hy.1, hy.2.1⟩ (g := F0 m pc ls (As.reverse ++ rest)) rfl (argsL := As) (rest := rest) hlen rfl (by rw [hb]; exact hdg)
    have pre : va_Pc As (fun U => xB D cl tys H.size wc U ∧ Z U) As.toArray (T.setVm vm1) := ⟨rfl, ⟨by rw [← hT]; rfl, by show va_P D cl wc T.heap; rw [hT]; exact hPc, va_K.moved X1.warmed.alike hK, hDc.weaken (fun _ _ _ _ => trivial), hN.warm X1.warmed⟩, hZ (T.setVm vm1) X1.warmed hT⟩
    obtain ⟨v, B, X', hpost, hsteps⟩ := hbk m meth c ⟨T.setVm vm1, locs, cells, slots⟩ (F0 m pc ls rest) (.invokestatic index) mk As.toArray X1 rfl hsize (by rw [hb]; exact hdg) (by show 2 * 0 + (rest.map fun v => v.category).sum ≤ 8; omega) (X1.named hnamed) ⟨hRc, hRs, pre⟩
    obtain ⟨g', mk', t, L, e1, e2, hq, f1, hL, f2, f3⟩ := hpost
    obtain ⟨BU, BL, Bc, Bs⟩ := B
    dsimp only [Free.Pt.U, Free.Pt.locs, Free.Pt.cells, Free.Pt.slots] at X' e1 e2 f1 f2 f3 hsteps
    subst f1; subst f2; subst f3
    exact ⟨v, (T.setVm vm1).calling g' mk' As.toArray, t, BU, L, hT, X', hL, e1, e2, hq, fun target h => hstep1 _ fun acts => by rw [doInvoke_state]; exact hsteps.trans h⟩
  have hFc := va_free (wc := wc) hD hS hA isC hC
  refine va_calli run hS (fun q _ h => hFc q h) hFc (fun r u t H1 locs1 ht hvm hw hB hz hk hS1 => ?_)
  obtain ⟨hP1, hK1, hD1⟩ := hB
  rw [ht] at hP1
  obtain ⟨hP2, hD2⟩ := va_join hP hD isC isR hC hR hnd hdis hk hFc hP1 hD1
  exact kk r u H1 locs1 hw hP2 hD2 hS1
end XT4
