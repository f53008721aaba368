/-! contracts of a method that throws, and of one that catches -/
/-- the end of a method that has thrown an ArithmeticException -/
def xQt {S : Type} (D : va_G) (cl : List vw_C) (w0 : va_W) (sz : Nat) (wf : S → va_W) : Array Value → State → Outcome → State → Prop := fun _ st o t =>
  ∃ (x : Addr) (ce : Cell) (L : List Loc) (u : S), o = .threw x ∧ t.heap[x]? = some ce ∧ ce.vm = .none ∧ st.vm.findClass aeN = some ce.cls ∧ st.WarmedH t.vm ∧ st.sameButNew ({ t with vm := st.vm } : State) L 1 6 ∧ (∀ z ∈ L, va_A w0 sz z.base) ∧ va_P D cl (wf u) t.heap ∧ va_D (va_A w0 sz) (wf u) ∧ va_F (va_A w0 sz) st t
abbrev xPt (D : va_G) (cl : List vw_C) (tys : List (ClassId × FieldType)) (sz : Nat) (w0 : va_W) (sa : Nat) : State → Prop := fun U => xB D cl tys sz w0 U ∧ xH sa U
abbrev xMt {S : Type} (l : Launch) (y : MethodName) (yw : List Cond) (rm : Room) (av : List Value) (D : va_G) (cl : List vw_C) (tys : List (ClassId × FieldType)) (sz : Nat) (w0 : va_W) (sa : Nat) (wf : S → va_W) : Prop :=
  MetFree l y (headSpec yw rm) (va_Pc av (xPt D cl tys sz w0 sa)) (fun _ _ _ _ _ => True) (xQt D cl w0 sz wf)
theorem xoT {S : Type} {l : Launch} {y : MethodName} {yw : List Cond} {rm : Room} {av : List Value} {D : va_G} {cl : List vw_C} {tys : List (ClassId × FieldType)} {sz sa : Nat} {w0 : va_W} {wf : S → va_W} {cc : ByteArray} {maxL : Nat} {ret : Option FieldType} (hy : plainName y.cls = true) (hw : yw = Cond.code y cc maxL ret :: tW) (hlen : (lg_sl av).length ≤ maxL)
    (body : ∀ (p : Program) (e : Env) (s : State) (m : MethodId) (args : Array Value) (below : List Frame) (meth : Method) (c : Code) (Q : State → Prop) (A : Nat → Prop), p.tables.exec = Jvm.exec → c.code = cc → c.maxLocals = maxL → (∀ w ∈ tW, w.before args s = true) → s.vm.findClass y.cls = some m.cls → xN s → (∀ q, s.heap.size ≤ q → A q) → va_S A s.heap s.heap [] → va_P D cl w0 s.heap → va_K D cl tys s → va_D A w0 →
      xH sa s → (∀ x ∈ c.exceptionTable.toList, False) → meth.locks = false → (∀ q, A q → va_A w0 s.heap.size q) →
      (∀ (U : State) (x : Addr) (ce : Cell) (locs : List Loc) (u : S), U.status = .running → Ended U below (.threw x) → s.WarmedH U.vm → s.sameButNew ({ U with vm := s.vm } : State) locs 1 6 → (∀ z ∈ locs, A z.base) → U.heap[x]? = some ce → ce.vm = .none → s.vm.findClass aeN = some ce.cls → va_P D cl (wf u) U.heap → va_D A (wf u) → va_F A s U → Q U) →
      ∀ ls : Array Slot, lv_has ls maxL (lv_args 0 av) → W p l e rm s m args below meth c s.heap [] 0 0 Q (F0 m 0 ls [])) : xMt l y yw rm av D cl tys sz w0 sa wf := by
  refine MetFree.of_bodyS (code := cc) (maxLocals := maxL) (ret := ret) hy ?_ ?_
  · intro args s m h hn
    obtain ⟨meth, c, h1, h2, h3, h4, h5, h6, -, -⟩ := Cond.code_spec hn (atoms_spec (ws := yw) h _ (by rw [hw]; exact List.mem_cons_self))
    exact ⟨meth, c, h1, h2, h3, h4, h5, h6⟩
  · intro p e s m args below meth c s1 B hml hv _
    obtain ⟨rfl, ⟨hsz, hP, hK, hD0, hN⟩, hxh⟩ := hv
    have hts0 := atoms_spec (ws := yw) B.pre
    have hts : ∀ w ∈ tW, w.before _ s = true := fun w h => hts0 w (by rw [hw]; exact List.mem_cons_of_mem _ h)
    have hown := findClass_of_methodNamed B.named
    have hne := B.noHandlers (hts0 _ (by rw [hw]; exact List.mem_cons_self))
    have hnx : ∀ x ∈ c.exceptionTable.toList, False := by
      intro x hx
      have : c.exceptionTable.toList = [] := by
        have q : c.exceptionTable = #[] := Array.isEmpty_iff.mp hne
        rw [q]
      rw [this] at hx; cases hx
    subst hsz
    have hD := hD0.self (sz := s.heap.size)
    have hl := lv_entry av (n := maxL) hlen
    have hh0 : s1.heap = s.heap := by rw [B.state]; rfl
    have key : W p l e rm s m av.toArray below meth c s.heap [] 0 0 (fun t => ∃ o, t.status = .running ∧ Ended t below o ∧ xQt D cl w0 s.heap.size wf av.toArray s o t) (entryFrame m av.toArray maxL) := by
      rw [lg_entry_eq]
      exact body p e s m _ below meth c _ _ B.exec B.bytes hml hts hown hN (fun q h => Or.inr h) va_S.rf hP hK hD hxh hnx B.notSynchronized (fun q h => h) (fun U x ce locs u h1 h2 h3 h4 h5 h6 h7 h8 h9 h10 h11 => ⟨.threw x, h1, h2, x, ce, locs, u, rfl, h6, h7, h8, h3, h4, h5, h9, h10, h11⟩) _ hl
    obtain ⟨t, a1, o, b1, b2, b3⟩ := key s1 hh0 (Stand.of_body B)
    exact ⟨t, o, a1, b1, b2, b3⟩
/-- an int method with an exception table -/
theorem xoiW {S : Type} {l : Launch} {y : MethodName} {yw : List Cond} {rm : Room} {av : List Value} {D : va_G} {cl : List vw_C} {tys : List (ClassId × FieldType)} {sz : Nat} {w0 : va_W} {post : Int32 → S → Prop} {wf : S → va_W} {mc ms : Nat} {cc : ByteArray} {maxL : Nat} {hh : List (Nat × Nat × Nat × Nat)} {Z : State → Prop} (hy : plainName y.cls = true) (hw : yw = Cond.codeWith y cc maxL (some .int) hh :: tW) (hlen : (lg_sl av).length ≤ maxL)
    (body : ∀ (p : Program) (e : Env) (s : State) (m : MethodId) (args : Array Value) (below : List Frame) (meth : Method) (c : Code) (Q : State → Prop) (A : Nat → Prop), p.tables.exec = Jvm.exec → c.code = cc → c.maxLocals = maxL → (∀ w ∈ tW, w.before args s = true) → s.vm.findClass y.cls = some m.cls → xN s → (∀ q, s.heap.size ≤ q → A q) → va_S A s.heap s.heap [] → va_P D cl w0 s.heap → va_K D cl tys s → va_D A w0 →
      (∀ (H1 : Heap) (locs1 : List Loc) (pc : Nat) (ls : Array Slot) (r : Int32) (u : S), decode cc pc = .ok (.ireturn, 1) → post r u → va_P D cl (wf u) H1 → va_D A (wf u) → va_S A s.heap H1 locs1 → W p l e rm s m args below meth c H1 locs1 mc ms Q (F0 m pc ls [.int r])) →
      ∀ ls : Array Slot, lv_has ls maxL (lv_args 0 av) → Z s → c.exceptionTable.toList.map (fun h => (h.startPc, h.endPc, h.handlerPc, h.catchType)) = hh → W p l e rm s m args below meth c s.heap [] 0 0 Q (F0 m 0 ls [])) :
    Met l y yw rm (va_Pc av (fun U => xB D cl tys sz w0 U ∧ Z U)) (va_Qi post (xE D cl tys (va_A w0 sz) wf) (va_A w0 sz)) mc ms (va_A w0 sz) := by
  refine va_MetW (cc := cc) (maxL := maxL) (ret := some .int) (hh := hh) hy hw ?_
  intro p e s m args below meth c s1 B hml hv
  obtain ⟨rfl, ⟨hsz, hP, hK, hD0, hN⟩, hZ⟩ := hv
  have hts0 := atoms_spec (ws := yw) B.pre
  have hts : ∀ w ∈ tW, w.before _ s = true := fun w h => hts0 w (by rw [hw]; exact List.mem_cons_of_mem _ h)
  have hown := findClass_of_methodNamed B.named
  obtain ⟨m9, meth9, c9, n1, n2, n3, -, -, n6, -, -, -⟩ := Cond.codeWith_spec (hts0 (Cond.codeWith y cc maxL (some .int) hh) (by rw [hw]; exact List.mem_cons_self))
  cases B.named.symm.trans n1
  cases B.method.symm.trans n2
  cases (Stand.of_body B).code.symm.trans n3
  subst hsz
  have hD := hD0.self (sz := s.heap.size)
  have hl := lv_entry av (n := maxL) hlen
  rw [lg_entry_eq]
  exact body p e s m _ below meth c _ _ B.exec B.bytes hml hts hown hN (fun q h => Or.inr h) va_S.rf hP hK hD (fun H1 locs1 pc ls r u hd hp hP1 hD1 hS1 => W.iret B.exec B.bytes B.returns (fun t ht hW => ⟨⟨r, u, rfl, hp, by rw [ht]; exact hP1, va_K.moved hW.alike hK, hD1⟩, hS1.F ht⟩) hS1.2.2 hd) _ hl hZ n6
theorem xBlindZ {av : List Value} {D : va_G} {cl : List vw_C} {tys : List (ClassId × FieldType)} {sz sa : Nat} {ws : va_W} : FrameBlind (va_Pc av (xPt D cl tys sz ws sa)) := fun a U g mk q => by
  obtain ⟨q0, q1, q2⟩ := q
  have k := xBlind (av := av) (D := D) (cl := cl) (tys := tys) (sz := sz) (ws := ws) a U g mk ⟨q0, q1⟩
  exact ⟨q0, k.2, q2.move (U := U.calling g mk a) (State.WarmedH.refl U) (fun q cell h1 _ => h1)⟩
section XT3
variable {p : Program} {l : Launch} {e : Env} {R : Room} {s : State} {m : MethodId} {args : Array Value} {below : List Frame} {meth : Method} {c : Code} {H H0 : Heap} {locs : List Loc} {cells slots : Nat} {Q : State → Prop} {cc : ByteArray} {pc : Nat} {ls : Array Slot} {rest : List Value} {D : va_G} {cl : List vw_C} {tys : List (ClassId × FieldType)} {ws wc wr : va_W} {A : Nat → Prop}
/-- a virtual call that throws, caught by the only row of the caller's table -/
theorem x_callT {S : Type} {wf : S → va_W} {y : MethodName} {rm : Room} {sa b hpc : Nat} {As : List Value} {bytes : ByteArray} {maxL n index own_ct : Nat} {ret : Option FieldType} {own C : String} {a1 a2 : Nat} (hexec : p.tables.exec = Jvm.exec) (hb : c.code = cc) (hsize : ls.size = c.maxLocals) (hown : s.vm.findClass own = some m.cls) (hts : ∀ w ∈ tW, w.before args s = true)
    (hM : xMt l y (Cond.code y bytes maxL ret :: tW) rm (.ref b :: As) D cl tys H.size wc sa wf)
    (hcode : Cond.code y bytes maxL ret ∈ tW) (hlink : Cond.methodLink own index y ∈ tW) (hinst : Cond.instanceMethod y ∈ tW) (hsel : Cond.selects C y y ∈ tW) (hini : Cond.initialized y.cls ∈ tW) (hy : y.cls ≠ "java/lang/invoke/MethodHandle" ∧ y.cls ≠ "java/lang/invoke/VarHandle" ∧ (parseMethodDescriptor y.desc).map (fun d => d.parameters.length) = some n) (hn : As.length = n)
    (hrm : rm.frames + 1 ≤ R.frames ∧ 8 + (maxL + 11) + rm.locals ≤ R.locals ∧ rm.cells = 1 ∧ rm.slots = 6) (hRc : cells + 1 ≤ R.cells) (hRs : slots + 6 ≤ R.slots) (hrest : (rest.map fun v => v.category).sum ≤ 8)
    (hclk : (Cond.classLink own own_ct aeN) ∈ tW) (hcst : (Cond.castable aeN aeN) ∈ tW) (htab : c.exceptionTable.toList.map (fun h => (h.startPc, h.endPc, h.handlerPc, h.catchType)) = [(a1, a2, hpc, own_ct)]) (hin : a1 ≤ pc ∧ pc < a2) (hct : own_ct ≠ 0)
    (hN : xN s) (hK : va_K D cl tys s) (hxh : ∀ U : State, s.WarmedH U.vm → U.heap = H → xH sa U) (hP : va_P D cl ws H) (hD : va_D A ws) (hS : va_S A H0 H locs) (hA : ∀ q, H0.size ≤ q → A q) (isC isR : List Nat) (hC : isC.map (fun i => ws[i]?) = wc.map some) (hR : isR.map (fun i => ws[i]?) = wr.map some) (hnd : va_nd isR = true) (hdis : ∀ i ∈ isR, i ∉ isC) (hPc : va_P D cl wc H) (hDc : va_D A wc)
    (hrecv : ∃ cell : Cell, H[b]? = some cell ∧ cell.vm.isStatics = false ∧ s.vm.findClass C = some cell.cls)
    (hdg : decode cc pc = .ok (.invokevirtual index, 3))
    (kk : ∀ (x : Nat) (u : S) (H1 : Heap) (locs1 : List Loc), va_P D cl (wr ++ wf u) H1 → va_D A (wr ++ wf u) → va_S A H0 H1 locs1 → W p l e R s m args below meth c H1 locs1 (cells + 1) (slots + 6) Q (F0 m hpc ls [.ref x])) : W p l e R s m args below meth c H locs cells slots Q (F0 m pc ls (As.reverse ++ .ref b :: rest)) := by
  intro T hT X
  have hbk : Free.BackT l R p e below s args y 3 8 (fun P a => P.cells + 1 ≤ R.cells ∧ P.slots + 6 ≤ R.slots ∧ va_Pc (.ref b :: As) (xPt D cl tys H.size wc sa) a P.U) (fun P a x B => ∃ (t : State) (L : List Loc) (ce : Cell) (u : S), B.U.heap = t.heap ∧ B.U.vm = t.vm ∧ B.locs = P.locs ++ L ∧ (∀ z ∈ L, va_A wc H.size z.base) ∧ B.cells = P.cells + 1 ∧ B.slots = P.slots + 6 ∧ t.heap[x]? = some ce ∧ ce.vm = .none ∧ P.U.vm.findClass aeN = some ce.cls ∧ va_P D cl (wf u) t.heap ∧ va_D (va_A wc H.size) (wf u) ∧ P.U.heap.size ≤ t.heap.size ∧ ∀ q : Nat, q < P.U.heap.size → ¬ va_A wc H.size q → t.heap[q]? = P.U.heap[q]?) := by
    refine Free.BackT.of_free (E := fun _ st o t L k n => k = 1 ∧ n = 6 ∧ ∃ (x : Addr) (ce : Cell) (u : S), o = .threw x ∧ t.heap[x]? = some ce ∧ ce.vm = .none ∧ st.vm.findClass aeN = some ce.cls ∧ (∀ z ∈ L, va_A wc H.size z.base) ∧ va_P D cl (wf u) t.heap ∧ va_D (va_A wc H.size) (wf u) ∧ va_F (va_A wc H.size) st t) (bytes := bytes) (maxL := maxL) (ret := ret) hM hrm.1 hrm.2.1 ?_ ?_ (fun _ _ _ _ _ _ _ _ _ => trivial) ?_ ?_
    · intro m2 meth2 c2 P a X2 hp
      have w : ∀ w ∈ tW, w.before a P.U = true := fun w hw => pay_in hts tW_self w hw a P.U X2.warmed
      exact ⟨atoms_intro (fun z hz => by rcases List.mem_cons.mp hz with rfl | hz; exact w _ hcode; exact w z hz), w _ hcode, w _ hini, by show _ + rm.cells ≤ _; rw [hrm.2.2.1]; exact hp.1, by show _ + rm.slots ≤ _; rw [hrm.2.2.2]; exact hp.2.1⟩
    · intro m2 meth2 c2 P a g mk X2 hp
      exact xBlindZ _ _ _ _ hp.2.2
    · rintro a st o t ⟨x, ce, L, u, rfl, h1, h2, h3, h4, h5, h6, h7, h8, h9⟩
      exact ⟨L, 1, 6, ⟨⟨x, rfl⟩, h4, h5⟩, rfl, rfl, x, ce, u, rfl, h1, h2, h3, h6, h7, h8, h9⟩
    · rintro m2 meth2 c2 P a g mk v t L k n2 X2 hp hq hF ⟨rfl, rfl, x, ce, u, hx, h1, h2, h3, h4, h5, h6, h7⟩
      cases hx
      exact ⟨t, L, ce, u, rfl, rfl, rfl, h4, rfl, rfl, h1, h2, h3, h5, h6, h7.1, h7.2⟩
  have hw2 : ∀ w ∈ tW, w.before args s = true := hts
  obtain ⟨mk, methM, hnamed, hmethM, hstM, habM⟩ := Cond.instanceMethod_spec (hts _ hinst)
  obtain ⟨methM', cM, hmethM', -, -, -, -, -, -, hsigM⟩ := Cond.code_spec hnamed (hts _ hcode)
  cases hmethM.symm.trans hmethM'
  obtain ⟨cell, hcell, hobj, hcls⟩ := hrecv
  obtain ⟨c2, r2, m2, q1, q2, q3, q4, kP, hkP, hkPi⟩ := Cond.selects_spec (hts _ hsel)
  cases hcls.symm.trans q1
  cases (State.methodFound?_of_named hnamed ⟨hy.1, hy.2.1⟩).symm.trans q2
  cases hnamed.symm.trans q3
  have hselP : selectMethod e.platform s.vm cell.cls mk = .method mk := by rw [Launch.admits_selectMethod X.admits]; exact q4
  have hlen : As.length = methM.sig.parameters.length := by
    have z := hy.2.2
    rw [hsigM] at z
    rw [hn]; exact (Option.some.inj z).symm
  obtain ⟨vm1, X1, hstep1⟩ := X.invokevirtual hexec hown (hts _ hlink) hnamed hmethM hstM hkP hkPi ⟨hy.1, hy.2.1⟩ (a := b) (cell := cell) (by rw [hT]; exact hcell) (fun z h => by rw [h] at hobj; cases hobj) hselP hmethM habM hkP hkPi (g := F0 m pc ls (As.reverse ++ .ref b :: rest)) rfl (argsL := As) (rest := rest) hlen rfl (by rw [hb]; exact hdg)
  have pre : va_Pc (.ref b :: As) (xPt D cl tys H.size wc sa) (Value.ref b :: As).toArray (T.setVm vm1) := ⟨rfl, ⟨by rw [← hT]; rfl, by show va_P D cl wc T.heap; rw [hT]; exact hPc, va_K.moved X1.warmed.alike hK, hDc.weaken (fun _ _ _ _ => trivial), hN.warm X1.warmed⟩, hxh (T.setVm vm1) X1.warmed hT⟩
  obtain ⟨x, B, X', ⟨t, L, ce, u, e1, e2, e3, e4, e5, e6, h1, h2, h3, h4, h5, h6, h7⟩, hsteps⟩ := hbk m meth c ⟨T.setVm vm1, locs, cells, slots⟩ (F0 m pc ls rest) (.invokevirtual index) mk (Value.ref b :: As).toArray X1 rfl hsize (by rw [hb]; exact hdg) (by show 2 * 0 + _ ≤ 8; omega) (X1.named hnamed) ⟨hRc, hRs, pre⟩
  obtain ⟨BU, BL, Bc, Bs⟩ := B
  dsimp only [Free.Pt.U, Free.Pt.locs, Free.Pt.cells, Free.Pt.slots] at X' e1 e2 e3 e5 e6 h3 h6 h7 hsteps
  subst e3; subst e5; subst e6
  have come : Steps p.tables e below (T.setTop (F0 m pc ls (As.reverse ++ .ref b :: rest))) ((BU.setTop (F0 m pc ls rest)).pushFrame (.throwing x)) := hstep1 _ (fun acts => by rw [doInvoke_state]; exact hsteps)
  have hfa : s.vm.findClass aeN = some ce.cls := by
    have z : vm1.findClass aeN = some ce.cls := h3
    rw [X1.warmed.alike.findClass] at z
    exact z
  have hpl : e.platform.magicAccessors = ({} : Platform).magicAccessors := by rw [X.admits.platform]
  obtain ⟨c5, hc5, hcl5⟩ := Cond.classLink_spec hown (hts _ hclk) e.platform hpl
  obtain ⟨c3, c4, hc3, hc4, hasg⟩ := Cond.castable_spec (hts _ hcst)
  cases Option.some.inj (hc3.symm.trans hfa)
  cases Option.some.inj (hc4.symm.trans hc5)
  obtain ⟨xe, hxe⟩ : ∃ xe, c.exceptionTable.toList = [xe] ∧ (xe.startPc, xe.endPc, xe.handlerPc, xe.catchType) = (a1, a2, hpc, own_ct) := by
    cases hl : c.exceptionTable.toList with
    | nil => rw [hl] at htab; cases htab
    | cons z zs =>
      rw [hl] at htab
      cases zs with
      | nil => exact ⟨z, rfl, List.head_eq_of_cons_eq htab⟩
      | cons z2 zs => cases htab
  obtain ⟨hx1, hx2⟩ := hxe
  obtain ⟨g1, g2, g3, g4⟩ : xe.startPc = a1 ∧ xe.endPc = a2 ∧ xe.handlerPc = hpc ∧ xe.catchType = own_ct := by
    cases hx2; exact ⟨rfl, rfl, rfl, rfl⟩
  obtain ⟨k9, hk9, -⟩ := Vm.findClass_spec hfa
  obtain ⟨vm2, X2, st2⟩ := X'.thenCaughtThrough x (g := F0 m pc ls rest) rfl come (cell := ce) (by rw [e1]; exact h1) (by rw [h2]; rfl) ⟨k9, hk9⟩ [] xe [] hx1 (fun z hz => nomatch hz) (by simp only [covers, g1, g2]; simp; exact hin) (Or.inr ⟨by rw [g4]; exact hct, c3, by rw [g4]; exact hcl5, hasg⟩)
  rw [g3] at st2
  have hFc := va_free (wc := wc) hD hS hA isC hC
  have hTs : T.heap.size = H.size := by rw [hT]
  obtain ⟨hP2, hD2⟩ := va_join (H1 := t.heap) hP hD isC isR hC hR hnd hdis (fun q hq hz => by rw [h7 q (by show q < T.heap.size; omega) hz]; show T.heap[q]? = _; rw [hT]) hFc h4 h5
  have hS2 : va_S A H0 t.heap (locs ++ L) := by
    refine ⟨Nat.le_trans hS.1 (by have : T.heap.size ≤ t.heap.size := h6; omega), fun q hq hz => ?_, fun z hz => ?_⟩
    · have hq2 : q < T.heap.size := by have := hS.1; omega
      rw [h7 q hq2 (fun y => hz (hFc q y))]
      show T.heap[q]? = _
      rw [hT]; exact hS.2.1 q hq hz
    · rcases List.mem_append.mp hz with y | y
      · exact hS.2.2 z y
      · exact hFc _ (e4 z y)
  obtain ⟨t2, b1, b2⟩ := kk x u t.heap (locs ++ L) hP2 hD2 hS2 (BU.setVm vm2) e1 X2
  exact ⟨t2, st2.trans b1, b2⟩
end XT3
abbrev xMiZ {S : Type} (l : Launch) (y : MethodName) (yw : List Cond) (rm : Room) (av : List Value) (D : va_G) (cl : List vw_C) (tys : List (ClassId × FieldType)) (sz : Nat) (w0 : va_W) (Z : State → Prop) (post : Int32 → S → Prop) (wf : S → va_W) (mc ms : Nat) : Prop :=
  Met l y yw rm (va_Pc av (fun U => xB D cl tys sz w0 U ∧ Z U)) (va_Qi post (xE D cl tys (va_A w0 sz) wf) (va_A w0 sz)) mc ms (va_A w0 sz)
section XT4
variable {p : Program} {l : Launch} {e : Env} {R : Room} {s : State} {m : MethodId} {args : Array Value} {below : List Frame} {meth : Method} {c : Code} {H H0 : Heap} {locs : List Loc} {cells slots : Nat} {Q : State → Prop} {cc : ByteArray} {pc : Nat} {ls : Array Slot} {rest : List Value} {D : va_G} {cl : List vw_C} {tys : List (ClassId × FieldType)} {ws wc wr : va_W} {A : Nat → Prop}
/-- a static call of a method with an exception table, an int for answer -/
theorem x_callSW {S : Type} {y : MethodName} {rm : Room} {As : List Value} {bytes : ByteArray} {maxL n index mc ms : Nat} {own : String} {hh : List (Nat × Nat × Nat × Nat)} {Z : State → Prop} {post : Int32 → S → Prop} {wf : S → va_W} (hexec : p.tables.exec = Jvm.exec) (hb : c.code = cc) (hsize : ls.size = c.maxLocals) (hown : s.vm.findClass own = some m.cls) (hts : ∀ w ∈ tW, w.before args s = true)
    (hM : xMiZ l y (Cond.codeWith y bytes maxL (some .int) hh :: tW) rm As D cl tys H.size wc Z post wf mc ms)
    (hbl : ∀ (a : Array Value) (U : State) (g : JFrame) (mk : MethodId), Z U → Z (U.calling g mk a)) (hcode : Cond.codeWith y bytes maxL (some .int) hh ∈ tW) (hlink : Cond.methodLink own index y ∈ tW) (hstat : Cond.static y ∈ tW) (hini : Cond.initialized y.cls ∈ tW) (hy : y.cls ≠ "java/lang/invoke/MethodHandle" ∧ y.cls ≠ "java/lang/invoke/VarHandle" ∧ (parseMethodDescriptor y.desc).map (fun d => d.parameters.length) = some n) (hn : As.length = n)
    (hrm : rm.frames + 1 ≤ R.frames ∧ 8 + (maxL + 11) + rm.locals ≤ R.locals ∧ rm.cells = mc ∧ rm.slots = ms) (hRc : cells + mc ≤ R.cells) (hRs : slots + ms ≤ R.slots) (hrest : (rest.map fun v => v.category).sum ≤ 8)
    (hN : xN s) (hK : va_K D cl tys s) (hZ : ∀ U : State, s.WarmedH U.vm → U.heap = H → Z U) (hP : va_P D cl ws H) (hD : va_D A ws) (hS : va_S A H0 H locs) (hA : ∀ q, H0.size ≤ q → A q) (isC isR : List Nat) (hC : isC.map (fun i => ws[i]?) = wc.map some) (hR : isR.map (fun i => ws[i]?) = wr.map some) (hnd : va_nd isR = true) (hdis : ∀ i ∈ isR, i ∉ isC) (hPc : va_P D cl wc H) (hDc : va_D A wc)
    (hdg : decode cc pc = .ok (.invokestatic index, 3))
    (kk : ∀ (r : Int32) (u : S) (H1 : Heap) (locs1 : List Loc), post r u → va_P D cl (wr ++ wf u) H1 → va_D A (wr ++ wf u) → va_S A H0 H1 locs1 → W p l e R s m args below meth c H1 locs1 (cells + mc) (slots + ms) Q (F0 m (pc + 3) ls (.int r :: rest))) : W p l e R s m args below meth c H locs cells slots Q (F0 m pc ls (As.reverse ++ rest)) := by
  have bl : FrameBlind (va_Pc As (fun U => xB D cl tys H.size wc U ∧ Z U)) := fun a U g mk q => by
    obtain ⟨q0, q1, q2⟩ := q
    exact ⟨q0, (xBlind (av := As) a U g mk ⟨q0, q1⟩).2, hbl a U g mk q2⟩
  have hbk : Free.Back l R p e below s args y 3 8 (PreOf R mc ms (va_Pc As (fun U => xB D cl tys H.size wc U ∧ Z U))) (PostOf (va_Qi post (xE D cl tys (va_A wc H.size) wf) (va_A wc H.size)) mc ms (va_A wc H.size)) :=
    va_backW (bytes := bytes) (maxL := maxL) (ret := some .int) (hh := hh) hM bl hrm.2.2.1 hrm.2.2.2 hrm.1 hrm.2.1 (fun w hw a U hW => by rcases List.mem_cons.mp hw with rfl | hw; exact pay_in hts tW_self _ hcode a U hW; exact pay_in hts tW_self w hw a U hW) List.mem_cons_self (fun a U hW => pay_in hts tW_self _ hini a U hW)
  have run : va_Run p l e R s m args below meth c H locs cells slots mc ms (F0 m pc ls (As.reverse ++ rest)) rest (va_Qi post (xE D cl tys (va_A wc H.size) wf) (va_A wc H.size) As.toArray) (va_A wc H.size) := by
    intro T hT X
    obtain ⟨mk, methM, cM, hnamed, hmethM, -, -, -, -, -, -, hsigM⟩ := Cond.codeWith_spec (hts _ hcode)
    have hstatic : methM.isStatic = true := Cond.static_spec hnamed hmethM (hts _ hstat)
    obtain ⟨kP, hkP, -⟩ := className_of_methodNamed hnamed
    have hinitP : kP.init = .initialized := Cond.initialized_spec (findClass_of_methodNamed hnamed) hkP (hts _ hini)
    have hlen : As.length = methM.sig.parameters.length := by
      have z := hy.2.2
      rw [hsigM] at z
      rw [hn]; exact (Option.some.inj z).symm
    obtain ⟨vm1, X1, hstep1⟩ := X.invokestatic hexec hown (hts _ hlink) hnamed hmethM hstatic hkP hinitP ⟨hy.1, hy.2.1⟩ (g := F0 m pc ls (As.reverse ++ rest)) rfl (argsL := As) (rest := rest) hlen rfl (by rw [hb]; exact hdg)
    have pre : va_Pc As (fun U => xB D cl tys H.size wc U ∧ Z U) As.toArray (T.setVm vm1) := ⟨rfl, ⟨by rw [← hT]; rfl, by show va_P D cl wc T.heap; rw [hT]; exact hPc, va_K.moved X1.warmed.alike hK, hDc.weaken (fun _ _ _ _ => trivial), hN.warm X1.warmed⟩, hZ (T.setVm vm1) X1.warmed hT⟩
    obtain ⟨v, B, X', hpost, hsteps⟩ := hbk m meth c ⟨T.setVm vm1, locs, cells, slots⟩ (F0 m pc ls rest) (.invokestatic index) mk As.toArray X1 rfl hsize (by rw [hb]; exact hdg) (by show 2 * 0 + _ ≤ 8; omega) (X1.named hnamed) ⟨hRc, hRs, pre⟩
    obtain ⟨g', mk', t, L, e1, e2, hq, f1, hL, f2, f3⟩ := hpost
    obtain ⟨BU, BL, Bc, Bs⟩ := B
    dsimp only [Free.Pt.U, Free.Pt.locs, Free.Pt.cells, Free.Pt.slots] at X' e1 e2 f1 f2 f3 hsteps
    subst f1; subst f2; subst f3
    exact ⟨v, (T.setVm vm1).calling g' mk' As.toArray, t, BU, L, hT, X', hL, e1, e2, hq, fun target h => hstep1 _ fun acts => by rw [doInvoke_state]; exact hsteps.trans h⟩
  have hFc := va_free (wc := wc) hD hS hA isC hC
  refine va_calli run hS (fun q _ h => hFc q h) hFc (fun r u t H1 locs1 ht hvm hw hB hz hk hS1 => ?_)
  obtain ⟨hP1, hK1, hD1⟩ := hB
  rw [ht] at hP1
  obtain ⟨hP2, hD2⟩ := va_join hP hD isC isR hC hR hnd hdis hk hFc hP1 hD1
  exact kk r u H1 locs1 hw hP2 hD2 hS1
end XT4
