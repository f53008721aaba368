/-! the nest's words and the heap's words, at the law's start -/
theorem x_nest {a : Array Value} {s : State} (h : ∀ w ∈ lw_tbl, w.before a s = true) : xN s :=
  ⟨va_tabs (A := a) (u := s) rfl rfl (h (.methodLinkNest R_T 28 y_K_place R_K) (List.mem_append_right _ (List.mem_of_getElem? (i := 101) (by decide +kernel)))),
   va_tabs (A := a) (u := s) rfl rfl (h (.methodLinkNest R_K 26 y_T_init R_K) (List.mem_append_right _ (List.mem_of_getElem? (i := 21) (by decide +kernel))))⟩
theorem x_heap {b : Nat} {s : State} {c0 : ClassId} (h : ∀ w ∈ lw_tbl, w.before #[Value.ref b] s = true) (hgv : (Jvm.Cond.and given_1 narrow_1).before #[Value.ref b] s = true) (hf : s.vm.findClass R_K = some c0) : ∃ sa, xH sa s := by
  have hs := flat_of_before _ hgv
  have h1 : zU.before #[Value.ref b] s = true := h zU (List.mem_append_right _ (List.mem_of_getElem? (i := 342) (by decide +kernel)))
  have h3 : zS.before #[Value.ref b] s = true := h zS (List.mem_append_right _ (List.mem_of_getElem? (i := 344) (by decide +kernel)))
  have h2 : rU.before #[Value.ref b] s = true := hs _ (by decide +kernel)
  have h4 : rS.before #[Value.ref b] s = true := hs _ (by decide +kernel)
  have h5 : (Cond.stringRef R_K 101 aeTx).before #[Value.ref b] s = true := h (Cond.stringRef R_K 101 aeTx) (List.mem_append_right _ (List.mem_of_getElem? (i := 354) (by decide +kernel)))
  obtain ⟨-, -, -, sa, -, -, -, -, -, hev⟩ := Cond.stringRef_spec hf h5
  have rf : xSt s s.heap := fun q cell h1 _ => h1
  have al := Vm.Alike.refl s.vm
  exact ⟨sa, st_lay al rf h1, st_ref al rf h1 h2, st_lay al rf h3, st_ref al rf h3 h4, vk_R.of h5 hev, fun w hw => fW_move al hw (h w (List.mem_append_right _ (List.mem_filter.mp hw).1)) #[]⟩
