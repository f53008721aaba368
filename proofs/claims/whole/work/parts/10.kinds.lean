/-! contracts of ConicKinds: kinds, cuts (wip/spec_class2.py, specs2) -/
theorem enB_20 {Fm : Nat → Int} (hF : ∀ k, k < 16 → inB (Fm k) 20) {f r : Nat} (h : f + r ≤ 4) : enB (prt Fm f) r (tabB r) := by
  refine enB_prt (by omega) (fun a b ha hb => leB (hF _ (by omega)) ?_)
  unfold tabB; split <;> decide

def rm_c_code : Room := { frames := 0, cells := 0, slots := 0, locals := 0 }
set_option maxHeartbeats 4000000 in
set_option maxRecDepth 100000 in
/-- the code -/
theorem c_code (l : Launch) (D : va_G) (cJ : ClassId) (i : Nat) (j : Nat) (k : Nat) (n : Nat)  (sz : Nat) : xMi l y_K_codeOf (Cond.code y_K_codeOf b_K_codeOf 4 (some .int) :: tW) rm_c_code [.int (nI i), .int (nI j), .int (nI k), .int (nI n)] D vwC [(cJ, .long)] sz [] (fun (rv : Int32) (_ : Unit) => rv = nI (1000 * i + 100 * j + 10 * k + n)) (fun (_ : Unit) => []) 0 0 := by
  refine xoi (cc := b_K_codeOf) (maxL := 4) (by decide) rfl (Nat.le_of_ble_eq_true rfl) ?_
  intro p e s m args below meth c Q A hx hb hml hts hown hN hA hS hP hK hD hret ls hl
  have hl : lv_has ls 4 [(0, .int (nI i)), (1, .int (nI j)), (2, .int (nI k)), (3, .int (nI n))] := hl
  obtain ⟨H, hH⟩ : ∃ z, z = s.heap := ⟨_, rfl⟩
  obtain ⟨locs, hlc⟩ : ∃ z : List Loc, z = [] := ⟨_, rfl⟩
  rw [← hH] at hP
  have hS : va_S A s.heap H locs := by rw [hH, hlc]; exact hS
  have key : W p l e rm_c_code s m args below meth c H locs 0 0 Q (F0 m 0 ls []) := by
    refine lv_sipush (v := nI 1000) hx hb d_K_codeOf_0 (by decide) ?_
    refine lv_iload_n hx hb d_K_codeOf_3 rfl (lv_at hl 0 rfl) ?_
    refine xn_mul hx hb d_K_codeOf_4 ?_
    refine lv_bipush (v := nI 100) hx hb d_K_codeOf_5 (by decide) ?_
    refine lv_iload_n hx hb d_K_codeOf_7 rfl (lv_at hl 1 rfl) ?_
    refine xn_mul hx hb d_K_codeOf_8 ?_
    refine xn_add hx hb d_K_codeOf_9 ?_
    refine lv_bipush (v := nI 10) hx hb d_K_codeOf_10 (by decide) ?_
    refine lv_iload_n hx hb d_K_codeOf_12 rfl (lv_at hl 2 rfl) ?_
    refine xn_mul hx hb d_K_codeOf_13 ?_
    refine xn_add hx hb d_K_codeOf_14 ?_
    refine lv_iload_n hx hb d_K_codeOf_15 rfl (lv_at hl 3 rfl) ?_
    refine xn_add hx hb d_K_codeOf_16 ?_
    exact hret H locs _ ls (nI ((((1000 * i) + (100 * j)) + (10 * k)) + n)) () d_K_codeOf_17 rfl hP hD hS
  rw [hH, hlc] at key; exact key

def rm_c_kiP : Room := { frames := 0, cells := 0, slots := 0, locals := 0 }
set_option maxHeartbeats 4000000 in
set_option maxRecDepth 100000 in
/-- kinds in the plane -/
theorem c_kiP (l : Launch) (D : va_G) (cJ : ClassId) (k : Nat) (hk : k < 100000) (sz : Nat) : xMi l y_K_kindInPlane (Cond.code y_K_kindInPlane b_K_kindInPlane 1 (some .int) :: tW) rm_c_kiP [.int (nI k)] D vwC [(cJ, .long)] sz [] (fun (rv : Int32) (_ : Unit) => rv = nI (kiP k)) (fun (_ : Unit) => []) 0 0 := by
  refine xoi (cc := b_K_kindInPlane) (maxL := 1) (by decide) rfl (Nat.le_of_ble_eq_true rfl) ?_
  intro p e s m args below meth c Q A hx hb hml hts hown hN hA hS hP hK hD hret ls hl
  have hl : lv_has ls 1 [(0, .int (nI k))] := hl
  obtain ⟨H, hH⟩ : ∃ z, z = s.heap := ⟨_, rfl⟩
  obtain ⟨locs, hlc⟩ : ∃ z : List Loc, z = [] := ⟨_, rfl⟩
  rw [← hH] at hP
  have hS : va_S A s.heap H locs := by rw [hH, hlc]; exact hS
  have key : W p l e rm_c_kiP s m args below meth c H locs 0 0 Q (F0 m 0 ls []) := by
    refine lv_iload_n hx hb d_K_kindInPlane_0 rfl (lv_at hl 0 rfl) ?_
    by_cases h10 : k = 10
    · subst h10
      refine lv_lookup (tgt := 123) (off := 122) hx hb d_K_kindInPlane_1 (by decide) (by decide +kernel) (by decide) ?_
      have hl : lv_has ls 1 [(0, .int (nI 10))] := hl
      refine lv_iconst (v := nI 0) hx hb d_K_kindInPlane_123 (by decide) ?_
      exact hret H locs _ ls (nI 0) () d_K_kindInPlane_124 rfl hP hD hS
    by_cases h11 : k = 11
    · subst h11
      refine lv_lookup (tgt := 120) (off := 119) hx hb d_K_kindInPlane_1 (by decide) (by decide +kernel) (by decide) ?_
      have hl : lv_has ls 1 [(0, .int (nI 11))] := hl
      refine lv_bipush (v := nI 7) hx hb d_K_kindInPlane_120 (by decide) ?_
      exact hret H locs _ ls (nI 7) () d_K_kindInPlane_122 rfl hP hD hS
    by_cases h1010 : k = 1010
    · subst h1010
      refine lv_lookup (tgt := 117) (off := 116) hx hb d_K_kindInPlane_1 (by decide) (by decide +kernel) (by decide) ?_
      have hl : lv_has ls 1 [(0, .int (nI 1010))] := hl
      refine lv_bipush (v := nI 9) hx hb d_K_kindInPlane_117 (by decide) ?_
      exact hret H locs _ ls (nI 9) () d_K_kindInPlane_119 rfl hP hD hS
    by_cases h1011 : k = 1011
    · subst h1011
      refine lv_lookup (tgt := 112) (off := 111) hx hb d_K_kindInPlane_1 (by decide) (by decide +kernel) (by decide) ?_
      have hl : lv_has ls 1 [(0, .int (nI 1011))] := hl
      refine lv_bipush (v := nI 6) hx hb d_K_kindInPlane_112 (by decide) ?_
      exact hret H locs _ ls (nI 6) () d_K_kindInPlane_114 rfl hP hD hS
    by_cases h1020 : k = 1020
    · subst h1020
      refine lv_lookup (tgt := 115) (off := 114) hx hb d_K_kindInPlane_1 (by decide) (by decide +kernel) (by decide) ?_
      have hl : lv_has ls 1 [(0, .int (nI 1020))] := hl
      refine lv_iconst (v := nI 0) hx hb d_K_kindInPlane_115 (by decide) ?_
      exact hret H locs _ ls (nI 0) () d_K_kindInPlane_116 rfl hP hD hS
    by_cases h1021 : k = 1021
    · subst h1021
      refine lv_lookup (tgt := 110) (off := 109) hx hb d_K_kindInPlane_1 (by decide) (by decide +kernel) (by decide) ?_
      have hl : lv_has ls 1 [(0, .int (nI 1021))] := hl
      refine lv_iconst (v := nI 4) hx hb d_K_kindInPlane_110 (by decide) ?_
      exact hret H locs _ ls (nI 4) () d_K_kindInPlane_111 rfl hP hD hS
    by_cases h1111 : k = 1111
    · subst h1111
      refine lv_lookup (tgt := 108) (off := 107) hx hb d_K_kindInPlane_1 (by decide) (by decide +kernel) (by decide) ?_
      have hl : lv_has ls 1 [(0, .int (nI 1111))] := hl
      refine lv_iconst (v := nI 5) hx hb d_K_kindInPlane_108 (by decide) ?_
      exact hret H locs _ ls (nI 5) () d_K_kindInPlane_109 rfl hP hD hS
    by_cases h1121 : k = 1121
    · subst h1121
      refine lv_lookup (tgt := 106) (off := 105) hx hb d_K_kindInPlane_1 (by decide) (by decide +kernel) (by decide) ?_
      have hl : lv_has ls 1 [(0, .int (nI 1121))] := hl
      refine lv_iconst (v := nI 3) hx hb d_K_kindInPlane_106 (by decide) ?_
      exact hret H locs _ ls (nI 3) () d_K_kindInPlane_107 rfl hP hD hS
    by_cases h2020 : k = 2020
    · subst h2020
      refine lv_lookup (tgt := 102) (off := 101) hx hb d_K_kindInPlane_1 (by decide) (by decide +kernel) (by decide) ?_
      have hl : lv_has ls 1 [(0, .int (nI 2020))] := hl
      refine lv_iconst (v := nI 1) hx hb d_K_kindInPlane_102 (by decide) ?_
      exact hret H locs _ ls (nI 1) () d_K_kindInPlane_103 rfl hP hD hS
    by_cases h2021 : k = 2021
    · subst h2021
      refine lv_lookup (tgt := 104) (off := 103) hx hb d_K_kindInPlane_1 (by decide) (by decide +kernel) (by decide) ?_
      have hl : lv_has ls 1 [(0, .int (nI 2021))] := hl
      refine lv_iconst (v := nI 2) hx hb d_K_kindInPlane_104 (by decide) ?_
      exact hret H locs _ ls (nI 2) () d_K_kindInPlane_105 rfl hP hD hS
    by_cases h2030 : k = 2030
    · subst h2030
      refine lv_lookup (tgt := 100) (off := 99) hx hb d_K_kindInPlane_1 (by decide) (by decide +kernel) (by decide) ?_
      have hl : lv_has ls 1 [(0, .int (nI 2030))] := hl
      refine lv_iconst (v := nI 0) hx hb d_K_kindInPlane_100 (by decide) ?_
      exact hret H locs _ ls (nI 0) () d_K_kindInPlane_101 rfl hP hD hS
    refine lv_lookup (tgt := 125) (off := 124) hx hb d_K_kindInPlane_1 (by decide) (by show Op.lookupswitch.offset [(10, 122), (11, 119), (1010, 116), (1011, 111), (1020, 114), (1021, 109), (1111, 107), (1121, 105), (2020, 101), (2021, 103), (2030, 99)] _ _ = _; rw [lv_osw (k := nI 10) (fun q => h10 ((nI_eq (by omega) (by decide)).mp q)) (by decide), lv_osw (k := nI 11) (fun q => h11 ((nI_eq (by omega) (by decide)).mp q)) (by decide), lv_osw (k := nI 1010) (fun q => h1010 ((nI_eq (by omega) (by decide)).mp q)) (by decide), lv_osw (k := nI 1011) (fun q => h1011 ((nI_eq (by omega) (by decide)).mp q)) (by decide), lv_osw (k := nI 1020) (fun q => h1020 ((nI_eq (by omega) (by decide)).mp q)) (by decide), lv_osw (k := nI 1021) (fun q => h1021 ((nI_eq (by omega) (by decide)).mp q)) (by decide), lv_osw (k := nI 1111) (fun q => h1111 ((nI_eq (by omega) (by decide)).mp q)) (by decide), lv_osw (k := nI 1121) (fun q => h1121 ((nI_eq (by omega) (by decide)).mp q)) (by decide), lv_osw (k := nI 2020) (fun q => h2020 ((nI_eq (by omega) (by decide)).mp q)) (by decide), lv_osw (k := nI 2021) (fun q => h2021 ((nI_eq (by omega) (by decide)).mp q)) (by decide), lv_osw (k := nI 2030) (fun q => h2030 ((nI_eq (by omega) (by decide)).mp q)) (by decide)]; rfl) (by decide) ?_
    refine lv_bipush (v := nI 8) hx hb d_K_kindInPlane_125 (by decide) ?_
    exact hret H locs _ ls (nI 8) () d_K_kindInPlane_127 (by unfold kiP; rw [if_neg h10, if_neg h11, if_neg h1010, if_neg h1011, if_neg h1020, if_neg h1021, if_neg h1111, if_neg h1121, if_neg h2020, if_neg h2021, if_neg h2030]) hP hD hS
  rw [hH, hlc] at key; exact key

def rm_c_kiS : Room := { frames := 0, cells := 0, slots := 0, locals := 0 }
set_option maxHeartbeats 4000000 in
set_option maxRecDepth 100000 in
/-- kinds in space -/
theorem c_kiS (l : Launch) (D : va_G) (cJ : ClassId) (k : Nat) (hk : k < 100000) (sz : Nat) : xMi l y_K_kindInSpace (Cond.code y_K_kindInSpace b_K_kindInSpace 1 (some .int) :: tW) rm_c_kiS [.int (nI k)] D vwC [(cJ, .long)] sz [] (fun (rv : Int32) (_ : Unit) => rv = nI (kiS k)) (fun (_ : Unit) => []) 0 0 := by
  refine xoi (cc := b_K_kindInSpace) (maxL := 1) (by decide) rfl (Nat.le_of_ble_eq_true rfl) ?_
  intro p e s m args below meth c Q A hx hb hml hts hown hN hA hS hP hK hD hret ls hl
  have hl : lv_has ls 1 [(0, .int (nI k))] := hl
  obtain ⟨H, hH⟩ : ∃ z, z = s.heap := ⟨_, rfl⟩
  obtain ⟨locs, hlc⟩ : ∃ z : List Loc, z = [] := ⟨_, rfl⟩
  rw [← hH] at hP
  have hS : va_S A s.heap H locs := by rw [hH, hlc]; exact hS
  have key : W p l e rm_c_kiS s m args below meth c H locs 0 0 Q (F0 m 0 ls []) := by
    refine lv_iload_n hx hb d_K_kindInSpace_0 rfl (lv_at hl 0 rfl) ?_
    by_cases h10 : k = 10
    · subst h10
      refine lv_lookup (tgt := 218) (off := 217) hx hb d_K_kindInSpace_1 (by decide) (by decide +kernel) (by decide) ?_
      have hl : lv_has ls 1 [(0, .int (nI 10))] := hl
      refine lv_bipush (v := nI 10) hx hb d_K_kindInSpace_218 (by decide) ?_
      exact hret H locs _ ls (nI 10) () d_K_kindInSpace_220 rfl hP hD hS
    by_cases h11 : k = 11
    · subst h11
      refine lv_lookup (tgt := 215) (off := 214) hx hb d_K_kindInSpace_1 (by decide) (by decide +kernel) (by decide) ?_
      have hl : lv_has ls 1 [(0, .int (nI 11))] := hl
      refine lv_bipush (v := nI 24) hx hb d_K_kindInSpace_215 (by decide) ?_
      exact hret H locs _ ls (nI 24) () d_K_kindInSpace_217 rfl hP hD hS
    by_cases h1010 : k = 1010
    · subst h1010
      refine lv_lookup (tgt := 212) (off := 211) hx hb d_K_kindInSpace_1 (by decide) (by decide +kernel) (by decide) ?_
      have hl : lv_has ls 1 [(0, .int (nI 1010))] := hl
      refine lv_bipush (v := nI 25) hx hb d_K_kindInSpace_212 (by decide) ?_
      exact hret H locs _ ls (nI 25) () d_K_kindInSpace_214 rfl hP hD hS
    by_cases h1011 : k = 1011
    · subst h1011
      refine lv_lookup (tgt := 206) (off := 205) hx hb d_K_kindInSpace_1 (by decide) (by decide +kernel) (by decide) ?_
      have hl : lv_has ls 1 [(0, .int (nI 1011))] := hl
      refine lv_bipush (v := nI 23) hx hb d_K_kindInSpace_206 (by decide) ?_
      exact hret H locs _ ls (nI 23) () d_K_kindInSpace_208 rfl hP hD hS
    by_cases h1020 : k = 1020
    · subst h1020
      refine lv_lookup (tgt := 209) (off := 208) hx hb d_K_kindInSpace_1 (by decide) (by decide +kernel) (by decide) ?_
      have hl : lv_has ls 1 [(0, .int (nI 1020))] := hl
      refine lv_bipush (v := nI 10) hx hb d_K_kindInSpace_209 (by decide) ?_
      exact hret H locs _ ls (nI 10) () d_K_kindInSpace_211 rfl hP hD hS
    by_cases h1021 : k = 1021
    · subst h1021
      refine lv_lookup (tgt := 203) (off := 202) hx hb d_K_kindInSpace_1 (by decide) (by decide +kernel) (by decide) ?_
      have hl : lv_has ls 1 [(0, .int (nI 1021))] := hl
      refine lv_bipush (v := nI 20) hx hb d_K_kindInSpace_203 (by decide) ?_
      exact hret H locs _ ls (nI 20) () d_K_kindInSpace_205 rfl hP hD hS
    by_cases h1111 : k = 1111
    · subst h1111
      refine lv_lookup (tgt := 200) (off := 199) hx hb d_K_kindInSpace_1 (by decide) (by decide +kernel) (by decide) ?_
      have hl : lv_has ls 1 [(0, .int (nI 1111))] := hl
      refine lv_bipush (v := nI 22) hx hb d_K_kindInSpace_200 (by decide) ?_
      exact hret H locs _ ls (nI 22) () d_K_kindInSpace_202 rfl hP hD hS
    by_cases h1121 : k = 1121
    · subst h1121
      refine lv_lookup (tgt := 197) (off := 196) hx hb d_K_kindInSpace_1 (by decide) (by decide +kernel) (by decide) ?_
      have hl : lv_has ls 1 [(0, .int (nI 1121))] := hl
      refine lv_bipush (v := nI 19) hx hb d_K_kindInSpace_197 (by decide) ?_
      exact hret H locs _ ls (nI 19) () d_K_kindInSpace_199 rfl hP hD hS
    by_cases h1122 : k = 1122
    · subst h1122
      refine lv_lookup (tgt := 194) (off := 193) hx hb d_K_kindInSpace_1 (by decide) (by decide +kernel) (by decide) ?_
      have hl : lv_has ls 1 [(0, .int (nI 1122))] := hl
      refine lv_bipush (v := nI 16) hx hb d_K_kindInSpace_194 (by decide) ?_
      exact hret H locs _ ls (nI 16) () d_K_kindInSpace_196 rfl hP hD hS
    by_cases h2020 : k = 2020
    · subst h2020
      refine lv_lookup (tgt := 191) (off := 190) hx hb d_K_kindInSpace_1 (by decide) (by decide +kernel) (by decide) ?_
      have hl : lv_has ls 1 [(0, .int (nI 2020))] := hl
      refine lv_bipush (v := nI 21) hx hb d_K_kindInSpace_191 (by decide) ?_
      exact hret H locs _ ls (nI 21) () d_K_kindInSpace_193 rfl hP hD hS
    by_cases h2021 : k = 2021
    · subst h2021
      refine lv_lookup (tgt := 185) (off := 184) hx hb d_K_kindInSpace_1 (by decide) (by decide +kernel) (by decide) ?_
      have hl : lv_has ls 1 [(0, .int (nI 2021))] := hl
      refine lv_bipush (v := nI 18) hx hb d_K_kindInSpace_185 (by decide) ?_
      exact hret H locs _ ls (nI 18) () d_K_kindInSpace_187 rfl hP hD hS
    by_cases h2030 : k = 2030
    · subst h2030
      refine lv_lookup (tgt := 188) (off := 187) hx hb d_K_kindInSpace_1 (by decide) (by decide +kernel) (by decide) ?_
      have hl : lv_has ls 1 [(0, .int (nI 2030))] := hl
      refine lv_bipush (v := nI 10) hx hb d_K_kindInSpace_188 (by decide) ?_
      exact hret H locs _ ls (nI 10) () d_K_kindInSpace_190 rfl hP hD hS
    by_cases h2031 : k = 2031
    · subst h2031
      refine lv_lookup (tgt := 182) (off := 181) hx hb d_K_kindInSpace_1 (by decide) (by decide +kernel) (by decide) ?_
      have hl : lv_has ls 1 [(0, .int (nI 2031))] := hl
      refine lv_bipush (v := nI 15) hx hb d_K_kindInSpace_182 (by decide) ?_
      exact hret H locs _ ls (nI 15) () d_K_kindInSpace_184 rfl hP hD hS
    by_cases h2121 : k = 2121
    · subst h2121
      refine lv_lookup (tgt := 179) (off := 178) hx hb d_K_kindInSpace_1 (by decide) (by decide +kernel) (by decide) ?_
      have hl : lv_has ls 1 [(0, .int (nI 2121))] := hl
      refine lv_bipush (v := nI 17) hx hb d_K_kindInSpace_179 (by decide) ?_
      exact hret H locs _ ls (nI 17) () d_K_kindInSpace_181 rfl hP hD hS
    by_cases h2122 : k = 2122
    · subst h2122
      refine lv_lookup (tgt := 173) (off := 172) hx hb d_K_kindInSpace_1 (by decide) (by decide +kernel) (by decide) ?_
      have hl : lv_has ls 1 [(0, .int (nI 2122))] := hl
      refine lv_bipush (v := nI 13) hx hb d_K_kindInSpace_173 (by decide) ?_
      exact hret H locs _ ls (nI 13) () d_K_kindInSpace_175 rfl hP hD hS
    by_cases h2131 : k = 2131
    · subst h2131
      refine lv_lookup (tgt := 176) (off := 175) hx hb d_K_kindInSpace_1 (by decide) (by decide +kernel) (by decide) ?_
      have hl : lv_has ls 1 [(0, .int (nI 2131))] := hl
      refine lv_bipush (v := nI 14) hx hb d_K_kindInSpace_176 (by decide) ?_
      exact hret H locs _ ls (nI 14) () d_K_kindInSpace_178 rfl hP hD hS
    by_cases h3030 : k = 3030
    · subst h3030
      refine lv_lookup (tgt := 167) (off := 166) hx hb d_K_kindInSpace_1 (by decide) (by decide +kernel) (by decide) ?_
      have hl : lv_has ls 1 [(0, .int (nI 3030))] := hl
      refine lv_bipush (v := nI 11) hx hb d_K_kindInSpace_167 (by decide) ?_
      exact hret H locs _ ls (nI 11) () d_K_kindInSpace_169 rfl hP hD hS
    by_cases h3031 : k = 3031
    · subst h3031
      refine lv_lookup (tgt := 170) (off := 169) hx hb d_K_kindInSpace_1 (by decide) (by decide +kernel) (by decide) ?_
      have hl : lv_has ls 1 [(0, .int (nI 3031))] := hl
      refine lv_bipush (v := nI 12) hx hb d_K_kindInSpace_170 (by decide) ?_
      exact hret H locs _ ls (nI 12) () d_K_kindInSpace_172 rfl hP hD hS
    by_cases h3040 : k = 3040
    · subst h3040
      refine lv_lookup (tgt := 164) (off := 163) hx hb d_K_kindInSpace_1 (by decide) (by decide +kernel) (by decide) ?_
      have hl : lv_has ls 1 [(0, .int (nI 3040))] := hl
      refine lv_bipush (v := nI 10) hx hb d_K_kindInSpace_164 (by decide) ?_
      exact hret H locs _ ls (nI 10) () d_K_kindInSpace_166 rfl hP hD hS
    refine lv_lookup (tgt := 221) (off := 220) hx hb d_K_kindInSpace_1 (by decide) (by show Op.lookupswitch.offset [(10, 217), (11, 214), (1010, 211), (1011, 205), (1020, 208), (1021, 202), (1111, 199), (1121, 196), (1122, 193), (2020, 190), (2021, 184), (2030, 187), (2031, 181), (2121, 178), (2122, 172), (2131, 175), (3030, 166), (3031, 169), (3040, 163)] _ _ = _; rw [lv_osw (k := nI 10) (fun q => h10 ((nI_eq (by omega) (by decide)).mp q)) (by decide), lv_osw (k := nI 11) (fun q => h11 ((nI_eq (by omega) (by decide)).mp q)) (by decide), lv_osw (k := nI 1010) (fun q => h1010 ((nI_eq (by omega) (by decide)).mp q)) (by decide), lv_osw (k := nI 1011) (fun q => h1011 ((nI_eq (by omega) (by decide)).mp q)) (by decide), lv_osw (k := nI 1020) (fun q => h1020 ((nI_eq (by omega) (by decide)).mp q)) (by decide), lv_osw (k := nI 1021) (fun q => h1021 ((nI_eq (by omega) (by decide)).mp q)) (by decide), lv_osw (k := nI 1111) (fun q => h1111 ((nI_eq (by omega) (by decide)).mp q)) (by decide), lv_osw (k := nI 1121) (fun q => h1121 ((nI_eq (by omega) (by decide)).mp q)) (by decide), lv_osw (k := nI 1122) (fun q => h1122 ((nI_eq (by omega) (by decide)).mp q)) (by decide), lv_osw (k := nI 2020) (fun q => h2020 ((nI_eq (by omega) (by decide)).mp q)) (by decide), lv_osw (k := nI 2021) (fun q => h2021 ((nI_eq (by omega) (by decide)).mp q)) (by decide), lv_osw (k := nI 2030) (fun q => h2030 ((nI_eq (by omega) (by decide)).mp q)) (by decide), lv_osw (k := nI 2031) (fun q => h2031 ((nI_eq (by omega) (by decide)).mp q)) (by decide), lv_osw (k := nI 2121) (fun q => h2121 ((nI_eq (by omega) (by decide)).mp q)) (by decide), lv_osw (k := nI 2122) (fun q => h2122 ((nI_eq (by omega) (by decide)).mp q)) (by decide), lv_osw (k := nI 2131) (fun q => h2131 ((nI_eq (by omega) (by decide)).mp q)) (by decide), lv_osw (k := nI 3030) (fun q => h3030 ((nI_eq (by omega) (by decide)).mp q)) (by decide), lv_osw (k := nI 3031) (fun q => h3031 ((nI_eq (by omega) (by decide)).mp q)) (by decide), lv_osw (k := nI 3040) (fun q => h3040 ((nI_eq (by omega) (by decide)).mp q)) (by decide)]; rfl) (by decide) ?_
    refine lv_bipush (v := nI 26) hx hb d_K_kindInSpace_221 (by decide) ?_
    exact hret H locs _ ls (nI 26) () d_K_kindInSpace_223 (by unfold kiS; rw [if_neg h10, if_neg h11, if_neg h1010, if_neg h1011, if_neg h1020, if_neg h1021, if_neg h1111, if_neg h1121, if_neg h1122, if_neg h2020, if_neg h2021, if_neg h2030, if_neg h2031, if_neg h2121, if_neg h2122, if_neg h2131, if_neg h3030, if_neg h3031, if_neg h3040]) hP hD hS
  rw [hH, hlc] at key; exact key

def rm_c_kindOf : Room := { frames := 4, cells := 0, slots := 0, locals := 107 }
set_option maxHeartbeats 4000000 in
set_option maxRecDepth 100000 in
/-- the kind of a table -/
theorem c_kindOf (l : Launch) (D : va_G) (cJ : ClassId) (h : Nat) (d : Nat) (kb : Int32) (fo : Nat) (ke : Nat) (ht : Nat) (wo : Nat) (fi : Nat) (se : Nat) (hc : Nat) (hf : Nat) (hp : Nat) (ho : Nat) (r0 : Int32) (C : Nat → Int) (F : Nat → Int) (P : Nat → Int) (O : Nat → Int) (a : Nat) (S : Nat → Int) (dd : Nat) (hd2 : 2 ≤ dd) (hd3 : dd ≤ 3) (hB1 : enB (prt S 1) dd (tabB dd)) (hB0 : enB (prt S 0) (dd + 1) (tabB (dd + 1))) (sz : Nat) : xMi l y_K_kindOf (Cond.code y_K_kindOf b_K_kindOf 9 (some .int) :: tW) rm_c_kindOf [.ref h, .ref a, .int (nI dd)] D vwC [(cJ, .long)] sz [(h, .inr (1, [.int (nI d), .int kb, .ref fo, .ref ke, .ref ht, .ref wo, .ref fi, .ref se])), (a, LA cJ 16 S), (ht, .inr (0, [.int r0, .ref hc, .ref hf, .ref hp, .ref ho])), (hc, LA cJ 16 C), (hf, LA cJ 16 F), (hp, LA cJ 16 P), (ho, LA cJ 5 O)] (fun (rv : Int32) (uo : Int32 × (Nat → Int) × (Nat → Int) × (Nat → Int) × (Nat → Int)) => rv = nI (kindN S dd) ∧ True) (fun (uo : Int32 × (Nat → Int) × (Nat → Int) × (Nat → Int) × (Nat → Int)) => [(h, .inr (1, [.int (nI d), .int kb, .ref fo, .ref ke, .ref ht, .ref wo, .ref fi, .ref se])), (a, LA cJ 16 S), (ht, .inr (0, [.int uo.1, .ref hc, .ref hf, .ref hp, .ref ho])), (hc, LA cJ 16 uo.2.1), (hf, LA cJ 16 uo.2.2.1), (hp, LA cJ 16 uo.2.2.2.1), (ho, LA cJ 5 uo.2.2.2.2)]) 0 0 := by
  refine xoi (cc := b_K_kindOf) (maxL := 9) (by decide) rfl (Nat.le_of_ble_eq_true rfl) ?_
  intro p e s m args below meth c Q A hx hb hml hts hown hN hA hS hP hK hD hret ls hl
  have hl : lv_has ls 9 [(0, .ref h), (1, .ref a), (2, .int (nI dd))] := hl
  obtain ⟨H, hH⟩ : ∃ z, z = s.heap := ⟨_, rfl⟩
  obtain ⟨locs, hlc⟩ : ∃ z : List Loc, z = [] := ⟨_, rfl⟩
  rw [← hH] at hP
  have hS : va_S A s.heap H locs := by rw [hH, hlc]; exact hS
  have key : W p l e rm_c_kindOf s m args below meth c H locs 0 0 Q (F0 m 0 ls []) := by
    refine lv_aload_n hx hb d_K_kindOf_0 rfl (lv_at hl 0 rfl) ?_
    refine va_get (D := D) (ci := 1) (v := .ref ht) (C := R_K) (T := F_K) (N := 8) hx hb hts iw_K hown hK hP 0 rfl rfl 4 (by decide) (hts _ tw_46) (fun _ h9 => h9) rfl d_K_kindOf_1 ?_
    refine lv_aload_n hx hb d_K_kindOf_4 rfl (lv_at hl 1 rfl) ?_
    refine lv_iconst (v := nI 1) hx hb d_K_kindOf_5 (by decide) ?_
    refine lv_iload_n hx hb d_K_kindOf_6 rfl (lv_at hl 2 rfl) ?_
    refine xcv (wc := [(ht, .inr (0, [.int r0, .ref hc, .ref hf, .ref hp, .ref ho])), (hc, LA cJ 16 C), (hf, LA cJ 16 F), (hp, LA cJ 16 P), (ho, LA cJ 5 O), (a, LA cJ 16 S)]) (wr := [(h, .inr (1, [.int (nI d), .int kb, .ref fo, .ref ke, .ref ht, .ref wo, .ref fi, .ref se]))]) hP hD hS hA [2, 3, 4, 5, 6, 1] [0] rfl rfl (by decide) (by decide) (va_runV (As := [.ref a, .int (nI 1), .int (nI dd)]) (rest := []) ⟨hx, hb, hml, hown, hts⟩ (c_load l D cJ ht hc hf hp ho a 1 dd dd r0 C F P O S (by first | assumption | omega) (by first | assumption | omega) (by first | assumption | omega) (ld_q hd2 (by omega) hB1) H.size) (cwV 3 hts (gV tw_97 tw_98 tw_99 tw_2 tw_100) rfl rfl rfl ⟨rfl, hd_T_load⟩ ⟨Nat.le_of_ble_eq_true rfl, Nat.le_of_ble_eq_true rfl⟩) (xPreV (C := R_T) (T := F_T) (N := 5) (q0 := 0) hN hK (hP.sub (ws' := [(ht, .inr (0, [.int r0, .ref hc, .ref hf, .ref hp, .ref ho])), (hc, LA cJ 16 C), (hf, LA cJ 16 F), (hp, LA cJ 16 P), (ho, LA cJ 5 O), (a, LA cJ 16 S)]) [2, 3, 4, 5, 6, 1] rfl) (hD.sub (ws' := [(ht, .inr (0, [.int r0, .ref hc, .ref hf, .ref hp, .ref ho])), (hc, LA cJ 16 C), (hf, LA cJ 16 F), (hp, LA cJ 16 P), (ho, LA cJ 5 O), (a, LA cJ 16 S)]) [2, 3, 4, 5, 6, 1] (by decide) rfl) rfl rfl) rfl rfl hl.1 rfl (lv_room (Nat.le_of_ble_eq_true rfl)) d_K_kindOf_7 ⟨Nat.le_of_ble_eq_true rfl, Nat.le_of_ble_eq_true rfl⟩) (fun u_2 H locs hw1 hP hD hS => ?_)
    obtain ⟨Ca, Fa, Pa, Oa⟩ := u_2
    try dsimp only at hw1
    have hP : va_P D vwC [(h, .inr (1, [.int (nI d), .int kb, .ref fo, .ref ke, .ref ht, .ref wo, .ref fi, .ref se])), (a, LA cJ 16 S), (ht, .inr (0, [.int (nI dd), .ref hc, .ref hf, .ref hp, .ref ho])), (hc, LA cJ 16 Ca), (hf, LA cJ 16 Fa), (hp, LA cJ 16 Pa), (ho, LA cJ 5 Oa)] H := hP.sub [0, 6, 1, 2, 3, 4, 5] rfl
    have hD : va_D A [(h, .inr (1, [.int (nI d), .int kb, .ref fo, .ref ke, .ref ht, .ref wo, .ref fi, .ref se])), (a, LA cJ 16 S), (ht, .inr (0, [.int (nI dd), .ref hc, .ref hf, .ref hp, .ref ho])), (hc, LA cJ 16 Ca), (hf, LA cJ 16 Fa), (hp, LA cJ 16 Pa), (ho, LA cJ 5 Oa)] := hD.sub [0, 6, 1, 2, 3, 4, 5] (by decide) rfl
    have hT1 := ld_ok (f := 1) (r := dd) hd2 (by omega) hw1
    have hu1 : upN (prt S 1) dd ≤ dd := Nat.le_trans (upN_le _ _) (rkN_le _ _)
    have hv1 : dwN (prt S 1) dd ≤ dd := Nat.le_trans (Nat.sub_le _ _) (rkN_le _ _)
    refine lv_aload_n hx hb d_K_kindOf_10 rfl (lv_at hl 0 rfl) ?_
    refine va_get (D := D) (ci := 1) (v := .ref ht) (C := R_K) (T := F_K) (N := 8) hx hb hts iw_K hown hK hP 0 rfl rfl 4 (by decide) (hts _ tw_46) (fun _ h9 => h9) rfl d_K_kindOf_11 ?_
    refine xci (wc := [(ht, .inr (0, [.int (nI dd), .ref hc, .ref hf, .ref hp, .ref ho])), (hc, LA cJ 16 Ca), (hf, LA cJ 16 Fa), (hp, LA cJ 16 Pa), (ho, LA cJ 5 Oa)]) (wr := [(h, .inr (1, [.int (nI d), .int kb, .ref fo, .ref ke, .ref ht, .ref wo, .ref fi, .ref se])), (a, LA cJ 16 S)]) hP hD hS hA [2, 3, 4, 5, 6] [0, 1] rfl rfl (by decide) (by decide) (va_runV (As := []) (rest := []) ⟨hx, hb, hml, hown, hts⟩ (c_above l D cJ ht hc hf hp ho dd Ca Fa Pa Oa (by first | assumption | omega) (by first | assumption | omega) (ld_lB hd2 (by omega) hB1 hT1) H.size) (cwV 0 hts (gV tw_118 tw_119 tw_120 tw_2 tw_121) rfl rfl rfl ⟨rfl, hd_T_countAbove⟩ ⟨Nat.le_of_ble_eq_true rfl, Nat.le_of_ble_eq_true rfl⟩) (xPreV (C := R_T) (T := F_T) (N := 5) (q0 := 0) hN hK (hP.sub (ws' := [(ht, .inr (0, [.int (nI dd), .ref hc, .ref hf, .ref hp, .ref ho])), (hc, LA cJ 16 Ca), (hf, LA cJ 16 Fa), (hp, LA cJ 16 Pa), (ho, LA cJ 5 Oa)]) [2, 3, 4, 5, 6] rfl) (hD.sub (ws' := [(ht, .inr (0, [.int (nI dd), .ref hc, .ref hf, .ref hp, .ref ho])), (hc, LA cJ 16 Ca), (hf, LA cJ 16 Fa), (hp, LA cJ 16 Pa), (ho, LA cJ 5 Oa)]) [2, 3, 4, 5, 6] (by decide) rfl) rfl rfl) rfl rfl hl.1 rfl (lv_room (Nat.le_of_ble_eq_true rfl)) d_K_kindOf_14 ⟨Nat.le_of_ble_eq_true rfl, Nat.le_of_ble_eq_true rfl⟩) (fun r_3 u_4 H locs hw_5 hP hD hS => ?_)
    try dsimp only at hw_5
    have hP : va_P D vwC [(h, .inr (1, [.int (nI d), .int kb, .ref fo, .ref ke, .ref ht, .ref wo, .ref fi, .ref se])), (a, LA cJ 16 S), (ht, .inr (0, [.int (nI dd), .ref hc, .ref hf, .ref hp, .ref ho])), (hc, LA cJ 16 Ca), (hf, LA cJ 16 Fa), (hp, LA cJ 16 Pa), (ho, LA cJ 5 Oa)] H := hP
    have hD : va_D A [(h, .inr (1, [.int (nI d), .int kb, .ref fo, .ref ke, .ref ht, .ref wo, .ref fi, .ref se])), (a, LA cJ 16 S), (ht, .inr (0, [.int (nI dd), .ref hc, .ref hf, .ref hp, .ref ho])), (hc, LA cJ 16 Ca), (hf, LA cJ 16 Fa), (hp, LA cJ 16 Pa), (ho, LA cJ 5 Oa)] := hD
    subst hw_5
    rw [ld_up hT1]
    refine lv_istore_n (lv' := [(3, .int (nI (upN (prt S 1) dd))), (0, .ref h), (1, .ref a), (2, .int (nI dd))]) hx hb d_K_kindOf_17 rfl hl (by decide) rfl (fun ls hl => ?_)
    refine lv_aload_n hx hb d_K_kindOf_18 rfl (lv_at hl 1 rfl) ?_
    refine va_get (D := D) (ci := 1) (v := .ref ht) (C := R_K) (T := F_K) (N := 8) hx hb hts iw_K hown hK hP 0 rfl rfl 4 (by decide) (hts _ tw_46) (fun _ h9 => h9) rfl d_K_kindOf_19 ?_
    refine xci (wc := [(ht, .inr (0, [.int (nI dd), .ref hc, .ref hf, .ref hp, .ref ho])), (hc, LA cJ 16 Ca), (hf, LA cJ 16 Fa), (hp, LA cJ 16 Pa), (ho, LA cJ 5 Oa)]) (wr := [(h, .inr (1, [.int (nI d), .int kb, .ref fo, .ref ke, .ref ht, .ref wo, .ref fi, .ref se])), (a, LA cJ 16 S)]) hP hD hS hA [2, 3, 4, 5, 6] [0, 1] rfl rfl (by decide) (by decide) (va_runV (As := []) (rest := []) ⟨hx, hb, hml, hown, hts⟩ (c_below l D cJ ht hc hf hp ho dd Ca Fa Pa Oa (by first | assumption | omega) (by first | assumption | omega) (ld_lB hd2 (by omega) hB1 hT1) H.size) (cwV 0 hts (gV tw_122 tw_123 tw_124 tw_2 tw_125) rfl rfl rfl ⟨rfl, hd_T_countBelow⟩ ⟨Nat.le_of_ble_eq_true rfl, Nat.le_of_ble_eq_true rfl⟩) (xPreV (C := R_T) (T := F_T) (N := 5) (q0 := 0) hN hK (hP.sub (ws' := [(ht, .inr (0, [.int (nI dd), .ref hc, .ref hf, .ref hp, .ref ho])), (hc, LA cJ 16 Ca), (hf, LA cJ 16 Fa), (hp, LA cJ 16 Pa), (ho, LA cJ 5 Oa)]) [2, 3, 4, 5, 6] rfl) (hD.sub (ws' := [(ht, .inr (0, [.int (nI dd), .ref hc, .ref hf, .ref hp, .ref ho])), (hc, LA cJ 16 Ca), (hf, LA cJ 16 Fa), (hp, LA cJ 16 Pa), (ho, LA cJ 5 Oa)]) [2, 3, 4, 5, 6] (by decide) rfl) rfl rfl) rfl rfl hl.1 rfl (lv_room (Nat.le_of_ble_eq_true rfl)) d_K_kindOf_22 ⟨Nat.le_of_ble_eq_true rfl, Nat.le_of_ble_eq_true rfl⟩) (fun r_6 u_7 H locs hw_8 hP hD hS => ?_)
    try dsimp only at hw_8
    have hP : va_P D vwC [(h, .inr (1, [.int (nI d), .int kb, .ref fo, .ref ke, .ref ht, .ref wo, .ref fi, .ref se])), (a, LA cJ 16 S), (ht, .inr (0, [.int (nI dd), .ref hc, .ref hf, .ref hp, .ref ho])), (hc, LA cJ 16 Ca), (hf, LA cJ 16 Fa), (hp, LA cJ 16 Pa), (ho, LA cJ 5 Oa)] H := hP
    have hD : va_D A [(h, .inr (1, [.int (nI d), .int kb, .ref fo, .ref ke, .ref ht, .ref wo, .ref fi, .ref se])), (a, LA cJ 16 S), (ht, .inr (0, [.int (nI dd), .ref hc, .ref hf, .ref hp, .ref ho])), (hc, LA cJ 16 Ca), (hf, LA cJ 16 Fa), (hp, LA cJ 16 Pa), (ho, LA cJ 5 Oa)] := hD
    subst hw_8
    rw [ld_dw hT1]
    refine lv_istore (lv' := [(4, .int (nI (dwN (prt S 1) dd))), (3, .int (nI (upN (prt S 1) dd))), (0, .ref h), (1, .ref a), (2, .int (nI dd))]) hx hb d_K_kindOf_25 hl (by decide) rfl (fun ls hl => ?_)
    refine lv_aload_n hx hb d_K_kindOf_27 rfl (lv_at hl 2 rfl) ?_
    refine va_get (D := D) (ci := 1) (v := .ref ht) (C := R_K) (T := F_K) (N := 8) hx hb hts iw_K hown hK hP 0 rfl rfl 4 (by decide) (hts _ tw_46) (fun _ h9 => h9) rfl d_K_kindOf_28 ?_
    refine lv_aload_n hx hb d_K_kindOf_31 rfl (lv_at hl 3 rfl) ?_
    refine lv_iconst (v := nI 0) hx hb d_K_kindOf_32 (by decide) ?_
    refine lv_iload_n hx hb d_K_kindOf_33 rfl (lv_at hl 4 rfl) ?_
    refine xcv (wc := [(ht, .inr (0, [.int (nI dd), .ref hc, .ref hf, .ref hp, .ref ho])), (hc, LA cJ 16 Ca), (hf, LA cJ 16 Fa), (hp, LA cJ 16 Pa), (ho, LA cJ 5 Oa), (a, LA cJ 16 S)]) (wr := [(h, .inr (1, [.int (nI d), .int kb, .ref fo, .ref ke, .ref ht, .ref wo, .ref fi, .ref se]))]) hP hD hS hA [2, 3, 4, 5, 6, 1] [0] rfl rfl (by decide) (by decide) (va_runV (As := [.ref a, .int (nI 0), .int (nI dd)]) (rest := []) ⟨hx, hb, hml, hown, hts⟩ (c_load l D cJ ht hc hf hp ho a 0 dd (dd + 1) (nI dd) Ca Fa Pa Oa S (by first | assumption | omega) (by first | assumption | omega) (by first | assumption | omega) (ld_q (by omega) (by omega) hB0) H.size) (cwV 3 hts (gV tw_97 tw_98 tw_99 tw_2 tw_100) rfl rfl rfl ⟨rfl, hd_T_load⟩ ⟨Nat.le_of_ble_eq_true rfl, Nat.le_of_ble_eq_true rfl⟩) (xPreV (C := R_T) (T := F_T) (N := 5) (q0 := 0) hN hK (hP.sub (ws' := [(ht, .inr (0, [.int (nI dd), .ref hc, .ref hf, .ref hp, .ref ho])), (hc, LA cJ 16 Ca), (hf, LA cJ 16 Fa), (hp, LA cJ 16 Pa), (ho, LA cJ 5 Oa), (a, LA cJ 16 S)]) [2, 3, 4, 5, 6, 1] rfl) (hD.sub (ws' := [(ht, .inr (0, [.int (nI dd), .ref hc, .ref hf, .ref hp, .ref ho])), (hc, LA cJ 16 Ca), (hf, LA cJ 16 Fa), (hp, LA cJ 16 Pa), (ho, LA cJ 5 Oa), (a, LA cJ 16 S)]) [2, 3, 4, 5, 6, 1] (by decide) rfl) rfl rfl) rfl rfl hl.1 rfl (lv_room (Nat.le_of_ble_eq_true rfl)) d_K_kindOf_34 ⟨Nat.le_of_ble_eq_true rfl, Nat.le_of_ble_eq_true rfl⟩) (fun u_10 H locs hw2 hP hD hS => ?_)
    obtain ⟨Cb, Fb, Pb, Ob⟩ := u_10
    try dsimp only at hw2
    have hP : va_P D vwC [(h, .inr (1, [.int (nI d), .int kb, .ref fo, .ref ke, .ref ht, .ref wo, .ref fi, .ref se])), (a, LA cJ 16 S), (ht, .inr (0, [.int (nI (dd + 1)), .ref hc, .ref hf, .ref hp, .ref ho])), (hc, LA cJ 16 Cb), (hf, LA cJ 16 Fb), (hp, LA cJ 16 Pb), (ho, LA cJ 5 Ob)] H := hP.sub [0, 6, 1, 2, 3, 4, 5] rfl
    have hD : va_D A [(h, .inr (1, [.int (nI d), .int kb, .ref fo, .ref ke, .ref ht, .ref wo, .ref fi, .ref se])), (a, LA cJ 16 S), (ht, .inr (0, [.int (nI (dd + 1)), .ref hc, .ref hf, .ref hp, .ref ho])), (hc, LA cJ 16 Cb), (hf, LA cJ 16 Fb), (hp, LA cJ 16 Pb), (ho, LA cJ 5 Ob)] := hD.sub [0, 6, 1, 2, 3, 4, 5] (by decide) rfl
    have hT2 := ld_ok (f := 0) (r := dd + 1) (by omega) (by omega) hw2
    have hu2 : upN (prt S 0) (dd + 1) ≤ dd + 1 := Nat.le_trans (upN_le _ _) (rkN_le _ _)
    have hv2 : dwN (prt S 0) (dd + 1) ≤ dd + 1 := Nat.le_trans (Nat.sub_le _ _) (rkN_le _ _)
    refine lv_aload_n hx hb d_K_kindOf_37 rfl (lv_at hl 2 rfl) ?_
    refine va_get (D := D) (ci := 1) (v := .ref ht) (C := R_K) (T := F_K) (N := 8) hx hb hts iw_K hown hK hP 0 rfl rfl 4 (by decide) (hts _ tw_46) (fun _ h9 => h9) rfl d_K_kindOf_38 ?_
    refine xci (wc := [(ht, .inr (0, [.int (nI (dd + 1)), .ref hc, .ref hf, .ref hp, .ref ho])), (hc, LA cJ 16 Cb), (hf, LA cJ 16 Fb), (hp, LA cJ 16 Pb), (ho, LA cJ 5 Ob)]) (wr := [(h, .inr (1, [.int (nI d), .int kb, .ref fo, .ref ke, .ref ht, .ref wo, .ref fi, .ref se])), (a, LA cJ 16 S)]) hP hD hS hA [2, 3, 4, 5, 6] [0, 1] rfl rfl (by decide) (by decide) (va_runV (As := []) (rest := []) ⟨hx, hb, hml, hown, hts⟩ (c_above l D cJ ht hc hf hp ho (dd + 1) Cb Fb Pb Ob (by first | assumption | omega) (by first | assumption | omega) (ld_lB (by omega) (by omega) hB0 hT2) H.size) (cwV 0 hts (gV tw_118 tw_119 tw_120 tw_2 tw_121) rfl rfl rfl ⟨rfl, hd_T_countAbove⟩ ⟨Nat.le_of_ble_eq_true rfl, Nat.le_of_ble_eq_true rfl⟩) (xPreV (C := R_T) (T := F_T) (N := 5) (q0 := 0) hN hK (hP.sub (ws' := [(ht, .inr (0, [.int (nI (dd + 1)), .ref hc, .ref hf, .ref hp, .ref ho])), (hc, LA cJ 16 Cb), (hf, LA cJ 16 Fb), (hp, LA cJ 16 Pb), (ho, LA cJ 5 Ob)]) [2, 3, 4, 5, 6] rfl) (hD.sub (ws' := [(ht, .inr (0, [.int (nI (dd + 1)), .ref hc, .ref hf, .ref hp, .ref ho])), (hc, LA cJ 16 Cb), (hf, LA cJ 16 Fb), (hp, LA cJ 16 Pb), (ho, LA cJ 5 Ob)]) [2, 3, 4, 5, 6] (by decide) rfl) rfl rfl) rfl rfl hl.1 rfl (lv_room (Nat.le_of_ble_eq_true rfl)) d_K_kindOf_41 ⟨Nat.le_of_ble_eq_true rfl, Nat.le_of_ble_eq_true rfl⟩) (fun r_11 u_12 H locs hw_13 hP hD hS => ?_)
    try dsimp only at hw_13
    have hP : va_P D vwC [(h, .inr (1, [.int (nI d), .int kb, .ref fo, .ref ke, .ref ht, .ref wo, .ref fi, .ref se])), (a, LA cJ 16 S), (ht, .inr (0, [.int (nI (dd + 1)), .ref hc, .ref hf, .ref hp, .ref ho])), (hc, LA cJ 16 Cb), (hf, LA cJ 16 Fb), (hp, LA cJ 16 Pb), (ho, LA cJ 5 Ob)] H := hP
    have hD : va_D A [(h, .inr (1, [.int (nI d), .int kb, .ref fo, .ref ke, .ref ht, .ref wo, .ref fi, .ref se])), (a, LA cJ 16 S), (ht, .inr (0, [.int (nI (dd + 1)), .ref hc, .ref hf, .ref hp, .ref ho])), (hc, LA cJ 16 Cb), (hf, LA cJ 16 Fb), (hp, LA cJ 16 Pb), (ho, LA cJ 5 Ob)] := hD
    subst hw_13
    rw [ld_up hT2]
    refine lv_istore (lv' := [(5, .int (nI (upN (prt S 0) (dd + 1)))), (4, .int (nI (dwN (prt S 1) dd))), (3, .int (nI (upN (prt S 1) dd))), (0, .ref h), (1, .ref a), (2, .int (nI dd))]) hx hb d_K_kindOf_44 hl (by decide) rfl (fun ls hl => ?_)
    refine lv_aload_n hx hb d_K_kindOf_46 rfl (lv_at hl 3 rfl) ?_
    refine va_get (D := D) (ci := 1) (v := .ref ht) (C := R_K) (T := F_K) (N := 8) hx hb hts iw_K hown hK hP 0 rfl rfl 4 (by decide) (hts _ tw_46) (fun _ h9 => h9) rfl d_K_kindOf_47 ?_
    refine xci (wc := [(ht, .inr (0, [.int (nI (dd + 1)), .ref hc, .ref hf, .ref hp, .ref ho])), (hc, LA cJ 16 Cb), (hf, LA cJ 16 Fb), (hp, LA cJ 16 Pb), (ho, LA cJ 5 Ob)]) (wr := [(h, .inr (1, [.int (nI d), .int kb, .ref fo, .ref ke, .ref ht, .ref wo, .ref fi, .ref se])), (a, LA cJ 16 S)]) hP hD hS hA [2, 3, 4, 5, 6] [0, 1] rfl rfl (by decide) (by decide) (va_runV (As := []) (rest := []) ⟨hx, hb, hml, hown, hts⟩ (c_below l D cJ ht hc hf hp ho (dd + 1) Cb Fb Pb Ob (by first | assumption | omega) (by first | assumption | omega) (ld_lB (by omega) (by omega) hB0 hT2) H.size) (cwV 0 hts (gV tw_122 tw_123 tw_124 tw_2 tw_125) rfl rfl rfl ⟨rfl, hd_T_countBelow⟩ ⟨Nat.le_of_ble_eq_true rfl, Nat.le_of_ble_eq_true rfl⟩) (xPreV (C := R_T) (T := F_T) (N := 5) (q0 := 0) hN hK (hP.sub (ws' := [(ht, .inr (0, [.int (nI (dd + 1)), .ref hc, .ref hf, .ref hp, .ref ho])), (hc, LA cJ 16 Cb), (hf, LA cJ 16 Fb), (hp, LA cJ 16 Pb), (ho, LA cJ 5 Ob)]) [2, 3, 4, 5, 6] rfl) (hD.sub (ws' := [(ht, .inr (0, [.int (nI (dd + 1)), .ref hc, .ref hf, .ref hp, .ref ho])), (hc, LA cJ 16 Cb), (hf, LA cJ 16 Fb), (hp, LA cJ 16 Pb), (ho, LA cJ 5 Ob)]) [2, 3, 4, 5, 6] (by decide) rfl) rfl rfl) rfl rfl hl.1 rfl (lv_room (Nat.le_of_ble_eq_true rfl)) d_K_kindOf_50 ⟨Nat.le_of_ble_eq_true rfl, Nat.le_of_ble_eq_true rfl⟩) (fun r_14 u_15 H locs hw_16 hP hD hS => ?_)
    try dsimp only at hw_16
    have hP : va_P D vwC [(h, .inr (1, [.int (nI d), .int kb, .ref fo, .ref ke, .ref ht, .ref wo, .ref fi, .ref se])), (a, LA cJ 16 S), (ht, .inr (0, [.int (nI (dd + 1)), .ref hc, .ref hf, .ref hp, .ref ho])), (hc, LA cJ 16 Cb), (hf, LA cJ 16 Fb), (hp, LA cJ 16 Pb), (ho, LA cJ 5 Ob)] H := hP
    have hD : va_D A [(h, .inr (1, [.int (nI d), .int kb, .ref fo, .ref ke, .ref ht, .ref wo, .ref fi, .ref se])), (a, LA cJ 16 S), (ht, .inr (0, [.int (nI (dd + 1)), .ref hc, .ref hf, .ref hp, .ref ho])), (hc, LA cJ 16 Cb), (hf, LA cJ 16 Fb), (hp, LA cJ 16 Pb), (ho, LA cJ 5 Ob)] := hD
    subst hw_16
    rw [ld_dw hT2]
    refine lv_istore (lv' := [(6, .int (nI (dwN (prt S 0) (dd + 1)))), (5, .int (nI (upN (prt S 0) (dd + 1)))), (4, .int (nI (dwN (prt S 1) dd))), (3, .int (nI (upN (prt S 1) dd))), (0, .ref h), (1, .ref a), (2, .int (nI dd))]) hx hb d_K_kindOf_53 hl (by decide) rfl (fun ls hl => ?_)
    refine lv_iload hx hb d_K_kindOf_55 (lv_at hl 2 rfl) ?_
    refine lv_iload_n hx hb d_K_kindOf_57 rfl (lv_at hl 3 rfl) ?_
    refine xn_gt (tgt := 74) hx hb (by omega) (by omega) d_K_kindOf_58 (by decide) (fun c58_16 => ?_) (fun c58_16 => ?_)
    · skip
      refine lv_iconst (v := nI 1) hx hb d_K_kindOf_74 (by decide) ?_
      refine lv_goto (tgt := 79) hx hb d_K_kindOf_75 (by decide) ?_
      refine lv_istore (lv' := [(7, .int (nI 1)), (6, .int (nI (dwN (prt S 0) (dd + 1)))), (5, .int (nI (upN (prt S 0) (dd + 1)))), (4, .int (nI (dwN (prt S 1) dd))), (3, .int (nI (upN (prt S 1) dd))), (0, .ref h), (1, .ref a), (2, .int (nI dd))]) hx hb d_K_kindOf_79 hl (by decide) rfl (fun ls hl => ?_)
      refine lv_iload hx hb d_K_kindOf_81 (lv_at hl 0 rfl) ?_
      refine xz_eq (tgt := 99) (X := (1 : Nat)) hx hb (nI_toInt (by omega)) d_K_kindOf_83 (by decide) (fun c83_17 => absurd c83_17 (by omega)) (fun c83_17 => ?_)
      refine lv_iload hx hb d_K_kindOf_86 (lv_at hl 3 rfl) ?_
      refine lv_iload_n hx hb d_K_kindOf_88 rfl (lv_at hl 4 rfl) ?_
      refine lv_iload hx hb d_K_kindOf_89 (lv_at hl 1 rfl) ?_
      refine lv_iload hx hb d_K_kindOf_91 (lv_at hl 2 rfl) ?_
      refine xci (wc := []) (wr := [(h, .inr (1, [.int (nI d), .int kb, .ref fo, .ref ke, .ref ht, .ref wo, .ref fi, .ref se])), (a, LA cJ 16 S), (ht, .inr (0, [.int (nI (dd + 1)), .ref hc, .ref hf, .ref hp, .ref ho])), (hc, LA cJ 16 Cb), (hf, LA cJ 16 Fb), (hp, LA cJ 16 Pb), (ho, LA cJ 5 Ob)]) hP hD hS hA [] [0, 1, 2, 3, 4, 5, 6] rfl rfl (by decide) (by decide) (va_runS (As := [.int (nI (dwN (prt S 1) dd)), .int (nI (upN (prt S 1) dd)), .int (nI (dwN (prt S 0) (dd + 1))), .int (nI (upN (prt S 0) (dd + 1)))]) (rest := []) ⟨hx, hb, hml, hown, hts⟩ (c_code l D cJ (dwN (prt S 1) dd) (upN (prt S 1) dd) (dwN (prt S 0) (dd + 1)) (upN (prt S 0) (dd + 1)) H.size) (cwS 4 hts (gS tw_131 tw_132 tw_1 tw_133) rfl rfl rfl ⟨rfl, hd_K_codeOf⟩ ⟨Nat.le_of_ble_eq_true rfl, Nat.le_of_ble_eq_true rfl⟩) (xPreS hN hK (hP.sub (ws' := []) [] rfl) (hD.sub (ws' := []) [] (by decide) rfl)) rfl rfl hl.1 rfl (lv_room (Nat.le_of_ble_eq_true rfl)) d_K_kindOf_93 ⟨Nat.le_of_ble_eq_true rfl, Nat.le_of_ble_eq_true rfl⟩) (fun r_19 u_20 H locs hw_21 hP hD hS => ?_)
      try dsimp only at hw_21
      have hP : va_P D vwC [(h, .inr (1, [.int (nI d), .int kb, .ref fo, .ref ke, .ref ht, .ref wo, .ref fi, .ref se])), (a, LA cJ 16 S), (ht, .inr (0, [.int (nI (dd + 1)), .ref hc, .ref hf, .ref hp, .ref ho])), (hc, LA cJ 16 Cb), (hf, LA cJ 16 Fb), (hp, LA cJ 16 Pb), (ho, LA cJ 5 Ob)] H := hP
      have hD : va_D A [(h, .inr (1, [.int (nI d), .int kb, .ref fo, .ref ke, .ref ht, .ref wo, .ref fi, .ref se])), (a, LA cJ 16 S), (ht, .inr (0, [.int (nI (dd + 1)), .ref hc, .ref hf, .ref hp, .ref ho])), (hc, LA cJ 16 Cb), (hf, LA cJ 16 Fb), (hp, LA cJ 16 Pb), (ho, LA cJ 5 Ob)] := hD
      subst hw_21
      refine lv_goto (tgt := 109) hx hb d_K_kindOf_96 (by decide) ?_
      refine lv_istore (lv' := [(8, .int (nI (1000 * (dwN (prt S 1) dd) + 100 * (upN (prt S 1) dd) + 10 * (dwN (prt S 0) (dd + 1)) + (upN (prt S 0) (dd + 1))))), (7, .int (nI 1)), (6, .int (nI (dwN (prt S 0) (dd + 1)))), (5, .int (nI (upN (prt S 0) (dd + 1)))), (4, .int (nI (dwN (prt S 1) dd))), (3, .int (nI (upN (prt S 1) dd))), (0, .ref h), (1, .ref a), (2, .int (nI dd))]) hx hb d_K_kindOf_109 hl (by decide) rfl (fun ls hl => ?_)
      refine lv_iload_n hx hb d_K_kindOf_111 rfl (lv_at hl 8 rfl) ?_
      refine lv_iconst (v := nI 2) hx hb d_K_kindOf_112 (by decide) ?_
      refine xn_ne (tgt := 124) hx hb (by omega) (by omega) d_K_kindOf_113 (by decide) (fun c113_21 => ?_) (fun c113_21 => ?_)
      · skip
        refine lv_iload hx hb d_K_kindOf_124 (lv_at hl 0 rfl) ?_
        refine xci (wc := []) (wr := [(h, .inr (1, [.int (nI d), .int kb, .ref fo, .ref ke, .ref ht, .ref wo, .ref fi, .ref se])), (a, LA cJ 16 S), (ht, .inr (0, [.int (nI (dd + 1)), .ref hc, .ref hf, .ref hp, .ref ho])), (hc, LA cJ 16 Cb), (hf, LA cJ 16 Fb), (hp, LA cJ 16 Pb), (ho, LA cJ 5 Ob)]) hP hD hS hA [] [0, 1, 2, 3, 4, 5, 6] rfl rfl (by decide) (by decide) (va_runS (As := [.int (nI (1000 * (dwN (prt S 1) dd) + 100 * (upN (prt S 1) dd) + 10 * (dwN (prt S 0) (dd + 1)) + (upN (prt S 0) (dd + 1))))]) (rest := []) ⟨hx, hb, hml, hown, hts⟩ (c_kiS l D cJ (1000 * (dwN (prt S 1) dd) + 100 * (upN (prt S 1) dd) + 10 * (dwN (prt S 0) (dd + 1)) + (upN (prt S 0) (dd + 1))) (by first | assumption | omega) H.size) (cwS 1 hts (gS tw_137 tw_138 tw_1 tw_139) rfl rfl rfl ⟨rfl, hd_K_kindInSpace⟩ ⟨Nat.le_of_ble_eq_true rfl, Nat.le_of_ble_eq_true rfl⟩) (xPreS hN hK (hP.sub (ws' := []) [] rfl) (hD.sub (ws' := []) [] (by decide) rfl)) rfl rfl hl.1 rfl (lv_room (Nat.le_of_ble_eq_true rfl)) d_K_kindOf_126 ⟨Nat.le_of_ble_eq_true rfl, Nat.le_of_ble_eq_true rfl⟩) (fun r_23 u_24 H locs hw_25 hP hD hS => ?_)
        try dsimp only at hw_25
        have hP : va_P D vwC [(h, .inr (1, [.int (nI d), .int kb, .ref fo, .ref ke, .ref ht, .ref wo, .ref fi, .ref se])), (a, LA cJ 16 S), (ht, .inr (0, [.int (nI (dd + 1)), .ref hc, .ref hf, .ref hp, .ref ho])), (hc, LA cJ 16 Cb), (hf, LA cJ 16 Fb), (hp, LA cJ 16 Pb), (ho, LA cJ 5 Ob)] H := hP
        have hD : va_D A [(h, .inr (1, [.int (nI d), .int kb, .ref fo, .ref ke, .ref ht, .ref wo, .ref fi, .ref se])), (a, LA cJ 16 S), (ht, .inr (0, [.int (nI (dd + 1)), .ref hc, .ref hf, .ref hp, .ref ho])), (hc, LA cJ 16 Cb), (hf, LA cJ 16 Fb), (hp, LA cJ 16 Pb), (ho, LA cJ 5 Ob)] := hD
        subst hw_25
        exact hret H locs _ ls (nI (kiS (1000 * (dwN (prt S 1) dd) + 100 * (upN (prt S 1) dd) + 10 * (dwN (prt S 0) (dd + 1)) + (upN (prt S 0) (dd + 1))))) (nI (dd + 1), Cb, Fb, Pb, Ob) d_K_kindOf_129 ⟨(by unfold kindN; rw [if_neg c113_21, keyN_t (a0 := upN (prt S 1) dd) (a1 := dwN (prt S 1) dd) (b0 := upN (prt S 0) (dd + 1)) (b1 := dwN (prt S 0) (dd + 1)) (by omega)]), trivial⟩ hP hD hS
      · skip
        refine lv_iload hx hb d_K_kindOf_116 (lv_at hl 0 rfl) ?_
        refine xci (wc := []) (wr := [(h, .inr (1, [.int (nI d), .int kb, .ref fo, .ref ke, .ref ht, .ref wo, .ref fi, .ref se])), (a, LA cJ 16 S), (ht, .inr (0, [.int (nI (dd + 1)), .ref hc, .ref hf, .ref hp, .ref ho])), (hc, LA cJ 16 Cb), (hf, LA cJ 16 Fb), (hp, LA cJ 16 Pb), (ho, LA cJ 5 Ob)]) hP hD hS hA [] [0, 1, 2, 3, 4, 5, 6] rfl rfl (by decide) (by decide) (va_runS (As := [.int (nI (1000 * (dwN (prt S 1) dd) + 100 * (upN (prt S 1) dd) + 10 * (dwN (prt S 0) (dd + 1)) + (upN (prt S 0) (dd + 1))))]) (rest := []) ⟨hx, hb, hml, hown, hts⟩ (c_kiP l D cJ (1000 * (dwN (prt S 1) dd) + 100 * (upN (prt S 1) dd) + 10 * (dwN (prt S 0) (dd + 1)) + (upN (prt S 0) (dd + 1))) (by first | assumption | omega) H.size) (cwS 1 hts (gS tw_134 tw_135 tw_1 tw_136) rfl rfl rfl ⟨rfl, hd_K_kindInPlane⟩ ⟨Nat.le_of_ble_eq_true rfl, Nat.le_of_ble_eq_true rfl⟩) (xPreS hN hK (hP.sub (ws' := []) [] rfl) (hD.sub (ws' := []) [] (by decide) rfl)) rfl rfl hl.1 rfl (lv_room (Nat.le_of_ble_eq_true rfl)) d_K_kindOf_118 ⟨Nat.le_of_ble_eq_true rfl, Nat.le_of_ble_eq_true rfl⟩) (fun r_26 u_27 H locs hw_28 hP hD hS => ?_)
        try dsimp only at hw_28
        have hP : va_P D vwC [(h, .inr (1, [.int (nI d), .int kb, .ref fo, .ref ke, .ref ht, .ref wo, .ref fi, .ref se])), (a, LA cJ 16 S), (ht, .inr (0, [.int (nI (dd + 1)), .ref hc, .ref hf, .ref hp, .ref ho])), (hc, LA cJ 16 Cb), (hf, LA cJ 16 Fb), (hp, LA cJ 16 Pb), (ho, LA cJ 5 Ob)] H := hP
        have hD : va_D A [(h, .inr (1, [.int (nI d), .int kb, .ref fo, .ref ke, .ref ht, .ref wo, .ref fi, .ref se])), (a, LA cJ 16 S), (ht, .inr (0, [.int (nI (dd + 1)), .ref hc, .ref hf, .ref hp, .ref ho])), (hc, LA cJ 16 Cb), (hf, LA cJ 16 Fb), (hp, LA cJ 16 Pb), (ho, LA cJ 5 Ob)] := hD
        subst hw_28
        refine lv_goto (tgt := 129) hx hb d_K_kindOf_121 (by decide) ?_
        exact hret H locs _ ls (nI (kiP (1000 * (dwN (prt S 1) dd) + 100 * (upN (prt S 1) dd) + 10 * (dwN (prt S 0) (dd + 1)) + (upN (prt S 0) (dd + 1))))) (nI (dd + 1), Cb, Fb, Pb, Ob) d_K_kindOf_129 ⟨(by unfold kindN; rw [if_pos c113_21, keyN_t (a0 := upN (prt S 1) dd) (a1 := dwN (prt S 1) dd) (b0 := upN (prt S 0) (dd + 1)) (b1 := dwN (prt S 0) (dd + 1)) (by omega)]), trivial⟩ hP hD hS
    · skip
      refine lv_iload hx hb d_K_kindOf_61 (lv_at hl 2 rfl) ?_
      refine lv_iload_n hx hb d_K_kindOf_63 rfl (lv_at hl 3 rfl) ?_
      refine xn_ne (tgt := 78) hx hb (by omega) (by omega) d_K_kindOf_64 (by decide) (fun c64_28 => ?_) (fun c64_28 => ?_)
      · skip
        refine lv_iconst (v := nI 0) hx hb d_K_kindOf_78 (by decide) ?_
        refine lv_istore (lv' := [(7, .int (nI 0)), (6, .int (nI (dwN (prt S 0) (dd + 1)))), (5, .int (nI (upN (prt S 0) (dd + 1)))), (4, .int (nI (dwN (prt S 1) dd))), (3, .int (nI (upN (prt S 1) dd))), (0, .ref h), (1, .ref a), (2, .int (nI dd))]) hx hb d_K_kindOf_79 hl (by decide) rfl (fun ls hl => ?_)
        refine lv_iload hx hb d_K_kindOf_81 (lv_at hl 0 rfl) ?_
        refine xz_eq (tgt := 99) (X := (0 : Nat)) hx hb (nI_toInt (by omega)) d_K_kindOf_83 (by decide) (fun c83_29 => ?_) (fun c83_29 => absurd c83_29 (by omega))
        refine lv_iload_n hx hb d_K_kindOf_99 rfl (lv_at hl 4 rfl) ?_
        refine lv_iload hx hb d_K_kindOf_100 (lv_at hl 3 rfl) ?_
        refine lv_iload hx hb d_K_kindOf_102 (lv_at hl 2 rfl) ?_
        refine lv_iload hx hb d_K_kindOf_104 (lv_at hl 1 rfl) ?_
        refine xci (wc := []) (wr := [(h, .inr (1, [.int (nI d), .int kb, .ref fo, .ref ke, .ref ht, .ref wo, .ref fi, .ref se])), (a, LA cJ 16 S), (ht, .inr (0, [.int (nI (dd + 1)), .ref hc, .ref hf, .ref hp, .ref ho])), (hc, LA cJ 16 Cb), (hf, LA cJ 16 Fb), (hp, LA cJ 16 Pb), (ho, LA cJ 5 Ob)]) hP hD hS hA [] [0, 1, 2, 3, 4, 5, 6] rfl rfl (by decide) (by decide) (va_runS (As := [.int (nI (upN (prt S 1) dd)), .int (nI (dwN (prt S 1) dd)), .int (nI (upN (prt S 0) (dd + 1))), .int (nI (dwN (prt S 0) (dd + 1)))]) (rest := []) ⟨hx, hb, hml, hown, hts⟩ (c_code l D cJ (upN (prt S 1) dd) (dwN (prt S 1) dd) (upN (prt S 0) (dd + 1)) (dwN (prt S 0) (dd + 1)) H.size) (cwS 4 hts (gS tw_131 tw_132 tw_1 tw_133) rfl rfl rfl ⟨rfl, hd_K_codeOf⟩ ⟨Nat.le_of_ble_eq_true rfl, Nat.le_of_ble_eq_true rfl⟩) (xPreS hN hK (hP.sub (ws' := []) [] rfl) (hD.sub (ws' := []) [] (by decide) rfl)) rfl rfl hl.1 rfl (lv_room (Nat.le_of_ble_eq_true rfl)) d_K_kindOf_106 ⟨Nat.le_of_ble_eq_true rfl, Nat.le_of_ble_eq_true rfl⟩) (fun r_31 u_32 H locs hw_33 hP hD hS => ?_)
        try dsimp only at hw_33
        have hP : va_P D vwC [(h, .inr (1, [.int (nI d), .int kb, .ref fo, .ref ke, .ref ht, .ref wo, .ref fi, .ref se])), (a, LA cJ 16 S), (ht, .inr (0, [.int (nI (dd + 1)), .ref hc, .ref hf, .ref hp, .ref ho])), (hc, LA cJ 16 Cb), (hf, LA cJ 16 Fb), (hp, LA cJ 16 Pb), (ho, LA cJ 5 Ob)] H := hP
        have hD : va_D A [(h, .inr (1, [.int (nI d), .int kb, .ref fo, .ref ke, .ref ht, .ref wo, .ref fi, .ref se])), (a, LA cJ 16 S), (ht, .inr (0, [.int (nI (dd + 1)), .ref hc, .ref hf, .ref hp, .ref ho])), (hc, LA cJ 16 Cb), (hf, LA cJ 16 Fb), (hp, LA cJ 16 Pb), (ho, LA cJ 5 Ob)] := hD
        subst hw_33
        refine lv_istore (lv' := [(8, .int (nI (1000 * (upN (prt S 1) dd) + 100 * (dwN (prt S 1) dd) + 10 * (upN (prt S 0) (dd + 1)) + (dwN (prt S 0) (dd + 1))))), (7, .int (nI 0)), (6, .int (nI (dwN (prt S 0) (dd + 1)))), (5, .int (nI (upN (prt S 0) (dd + 1)))), (4, .int (nI (dwN (prt S 1) dd))), (3, .int (nI (upN (prt S 1) dd))), (0, .ref h), (1, .ref a), (2, .int (nI dd))]) hx hb d_K_kindOf_109 hl (by decide) rfl (fun ls hl => ?_)
        refine lv_iload_n hx hb d_K_kindOf_111 rfl (lv_at hl 8 rfl) ?_
        refine lv_iconst (v := nI 2) hx hb d_K_kindOf_112 (by decide) ?_
        refine xn_ne (tgt := 124) hx hb (by omega) (by omega) d_K_kindOf_113 (by decide) (fun c113_33 => ?_) (fun c113_33 => ?_)
        · skip
          refine lv_iload hx hb d_K_kindOf_124 (lv_at hl 0 rfl) ?_
          refine xci (wc := []) (wr := [(h, .inr (1, [.int (nI d), .int kb, .ref fo, .ref ke, .ref ht, .ref wo, .ref fi, .ref se])), (a, LA cJ 16 S), (ht, .inr (0, [.int (nI (dd + 1)), .ref hc, .ref hf, .ref hp, .ref ho])), (hc, LA cJ 16 Cb), (hf, LA cJ 16 Fb), (hp, LA cJ 16 Pb), (ho, LA cJ 5 Ob)]) hP hD hS hA [] [0, 1, 2, 3, 4, 5, 6] rfl rfl (by decide) (by decide) (va_runS (As := [.int (nI (1000 * (upN (prt S 1) dd) + 100 * (dwN (prt S 1) dd) + 10 * (upN (prt S 0) (dd + 1)) + (dwN (prt S 0) (dd + 1))))]) (rest := []) ⟨hx, hb, hml, hown, hts⟩ (c_kiS l D cJ (1000 * (upN (prt S 1) dd) + 100 * (dwN (prt S 1) dd) + 10 * (upN (prt S 0) (dd + 1)) + (dwN (prt S 0) (dd + 1))) (by first | assumption | omega) H.size) (cwS 1 hts (gS tw_137 tw_138 tw_1 tw_139) rfl rfl rfl ⟨rfl, hd_K_kindInSpace⟩ ⟨Nat.le_of_ble_eq_true rfl, Nat.le_of_ble_eq_true rfl⟩) (xPreS hN hK (hP.sub (ws' := []) [] rfl) (hD.sub (ws' := []) [] (by decide) rfl)) rfl rfl hl.1 rfl (lv_room (Nat.le_of_ble_eq_true rfl)) d_K_kindOf_126 ⟨Nat.le_of_ble_eq_true rfl, Nat.le_of_ble_eq_true rfl⟩) (fun r_35 u_36 H locs hw_37 hP hD hS => ?_)
          try dsimp only at hw_37
          have hP : va_P D vwC [(h, .inr (1, [.int (nI d), .int kb, .ref fo, .ref ke, .ref ht, .ref wo, .ref fi, .ref se])), (a, LA cJ 16 S), (ht, .inr (0, [.int (nI (dd + 1)), .ref hc, .ref hf, .ref hp, .ref ho])), (hc, LA cJ 16 Cb), (hf, LA cJ 16 Fb), (hp, LA cJ 16 Pb), (ho, LA cJ 5 Ob)] H := hP
          have hD : va_D A [(h, .inr (1, [.int (nI d), .int kb, .ref fo, .ref ke, .ref ht, .ref wo, .ref fi, .ref se])), (a, LA cJ 16 S), (ht, .inr (0, [.int (nI (dd + 1)), .ref hc, .ref hf, .ref hp, .ref ho])), (hc, LA cJ 16 Cb), (hf, LA cJ 16 Fb), (hp, LA cJ 16 Pb), (ho, LA cJ 5 Ob)] := hD
          subst hw_37
          exact hret H locs _ ls (nI (kiS (1000 * (upN (prt S 1) dd) + 100 * (dwN (prt S 1) dd) + 10 * (upN (prt S 0) (dd + 1)) + (dwN (prt S 0) (dd + 1))))) (nI (dd + 1), Cb, Fb, Pb, Ob) d_K_kindOf_129 ⟨(by unfold kindN; rw [if_neg c113_33, keyN_f (a0 := upN (prt S 1) dd) (a1 := dwN (prt S 1) dd) (b0 := upN (prt S 0) (dd + 1)) (b1 := dwN (prt S 0) (dd + 1)) (by omega)]), trivial⟩ hP hD hS
        · skip
          refine lv_iload hx hb d_K_kindOf_116 (lv_at hl 0 rfl) ?_
          refine xci (wc := []) (wr := [(h, .inr (1, [.int (nI d), .int kb, .ref fo, .ref ke, .ref ht, .ref wo, .ref fi, .ref se])), (a, LA cJ 16 S), (ht, .inr (0, [.int (nI (dd + 1)), .ref hc, .ref hf, .ref hp, .ref ho])), (hc, LA cJ 16 Cb), (hf, LA cJ 16 Fb), (hp, LA cJ 16 Pb), (ho, LA cJ 5 Ob)]) hP hD hS hA [] [0, 1, 2, 3, 4, 5, 6] rfl rfl (by decide) (by decide) (va_runS (As := [.int (nI (1000 * (upN (prt S 1) dd) + 100 * (dwN (prt S 1) dd) + 10 * (upN (prt S 0) (dd + 1)) + (dwN (prt S 0) (dd + 1))))]) (rest := []) ⟨hx, hb, hml, hown, hts⟩ (c_kiP l D cJ (1000 * (upN (prt S 1) dd) + 100 * (dwN (prt S 1) dd) + 10 * (upN (prt S 0) (dd + 1)) + (dwN (prt S 0) (dd + 1))) (by first | assumption | omega) H.size) (cwS 1 hts (gS tw_134 tw_135 tw_1 tw_136) rfl rfl rfl ⟨rfl, hd_K_kindInPlane⟩ ⟨Nat.le_of_ble_eq_true rfl, Nat.le_of_ble_eq_true rfl⟩) (xPreS hN hK (hP.sub (ws' := []) [] rfl) (hD.sub (ws' := []) [] (by decide) rfl)) rfl rfl hl.1 rfl (lv_room (Nat.le_of_ble_eq_true rfl)) d_K_kindOf_118 ⟨Nat.le_of_ble_eq_true rfl, Nat.le_of_ble_eq_true rfl⟩) (fun r_38 u_39 H locs hw_40 hP hD hS => ?_)
          try dsimp only at hw_40
          have hP : va_P D vwC [(h, .inr (1, [.int (nI d), .int kb, .ref fo, .ref ke, .ref ht, .ref wo, .ref fi, .ref se])), (a, LA cJ 16 S), (ht, .inr (0, [.int (nI (dd + 1)), .ref hc, .ref hf, .ref hp, .ref ho])), (hc, LA cJ 16 Cb), (hf, LA cJ 16 Fb), (hp, LA cJ 16 Pb), (ho, LA cJ 5 Ob)] H := hP
          have hD : va_D A [(h, .inr (1, [.int (nI d), .int kb, .ref fo, .ref ke, .ref ht, .ref wo, .ref fi, .ref se])), (a, LA cJ 16 S), (ht, .inr (0, [.int (nI (dd + 1)), .ref hc, .ref hf, .ref hp, .ref ho])), (hc, LA cJ 16 Cb), (hf, LA cJ 16 Fb), (hp, LA cJ 16 Pb), (ho, LA cJ 5 Ob)] := hD
          subst hw_40
          refine lv_goto (tgt := 129) hx hb d_K_kindOf_121 (by decide) ?_
          exact hret H locs _ ls (nI (kiP (1000 * (upN (prt S 1) dd) + 100 * (dwN (prt S 1) dd) + 10 * (upN (prt S 0) (dd + 1)) + (dwN (prt S 0) (dd + 1))))) (nI (dd + 1), Cb, Fb, Pb, Ob) d_K_kindOf_129 ⟨(by unfold kindN; rw [if_pos c113_33, keyN_f (a0 := upN (prt S 1) dd) (a1 := dwN (prt S 1) dd) (b0 := upN (prt S 0) (dd + 1)) (b1 := dwN (prt S 0) (dd + 1)) (by omega)]), trivial⟩ hP hD hS
      · skip
        refine lv_iload hx hb d_K_kindOf_67 (lv_at hl 0 rfl) ?_
        refine lv_iload hx hb d_K_kindOf_69 (lv_at hl 1 rfl) ?_
        refine xn_le (tgt := 78) hx hb (by omega) (by omega) d_K_kindOf_71 (by decide) (fun c71_40 => ?_) (fun c71_40 => ?_)
        · skip
          refine lv_iconst (v := nI 0) hx hb d_K_kindOf_78 (by decide) ?_
          refine lv_istore (lv' := [(7, .int (nI 0)), (6, .int (nI (dwN (prt S 0) (dd + 1)))), (5, .int (nI (upN (prt S 0) (dd + 1)))), (4, .int (nI (dwN (prt S 1) dd))), (3, .int (nI (upN (prt S 1) dd))), (0, .ref h), (1, .ref a), (2, .int (nI dd))]) hx hb d_K_kindOf_79 hl (by decide) rfl (fun ls hl => ?_)
          refine lv_iload hx hb d_K_kindOf_81 (lv_at hl 0 rfl) ?_
          refine xz_eq (tgt := 99) (X := (0 : Nat)) hx hb (nI_toInt (by omega)) d_K_kindOf_83 (by decide) (fun c83_41 => ?_) (fun c83_41 => absurd c83_41 (by omega))
          refine lv_iload_n hx hb d_K_kindOf_99 rfl (lv_at hl 4 rfl) ?_
          refine lv_iload hx hb d_K_kindOf_100 (lv_at hl 3 rfl) ?_
          refine lv_iload hx hb d_K_kindOf_102 (lv_at hl 2 rfl) ?_
          refine lv_iload hx hb d_K_kindOf_104 (lv_at hl 1 rfl) ?_
          refine xci (wc := []) (wr := [(h, .inr (1, [.int (nI d), .int kb, .ref fo, .ref ke, .ref ht, .ref wo, .ref fi, .ref se])), (a, LA cJ 16 S), (ht, .inr (0, [.int (nI (dd + 1)), .ref hc, .ref hf, .ref hp, .ref ho])), (hc, LA cJ 16 Cb), (hf, LA cJ 16 Fb), (hp, LA cJ 16 Pb), (ho, LA cJ 5 Ob)]) hP hD hS hA [] [0, 1, 2, 3, 4, 5, 6] rfl rfl (by decide) (by decide) (va_runS (As := [.int (nI (upN (prt S 1) dd)), .int (nI (dwN (prt S 1) dd)), .int (nI (upN (prt S 0) (dd + 1))), .int (nI (dwN (prt S 0) (dd + 1)))]) (rest := []) ⟨hx, hb, hml, hown, hts⟩ (c_code l D cJ (upN (prt S 1) dd) (dwN (prt S 1) dd) (upN (prt S 0) (dd + 1)) (dwN (prt S 0) (dd + 1)) H.size) (cwS 4 hts (gS tw_131 tw_132 tw_1 tw_133) rfl rfl rfl ⟨rfl, hd_K_codeOf⟩ ⟨Nat.le_of_ble_eq_true rfl, Nat.le_of_ble_eq_true rfl⟩) (xPreS hN hK (hP.sub (ws' := []) [] rfl) (hD.sub (ws' := []) [] (by decide) rfl)) rfl rfl hl.1 rfl (lv_room (Nat.le_of_ble_eq_true rfl)) d_K_kindOf_106 ⟨Nat.le_of_ble_eq_true rfl, Nat.le_of_ble_eq_true rfl⟩) (fun r_43 u_44 H locs hw_45 hP hD hS => ?_)
          try dsimp only at hw_45
          have hP : va_P D vwC [(h, .inr (1, [.int (nI d), .int kb, .ref fo, .ref ke, .ref ht, .ref wo, .ref fi, .ref se])), (a, LA cJ 16 S), (ht, .inr (0, [.int (nI (dd + 1)), .ref hc, .ref hf, .ref hp, .ref ho])), (hc, LA cJ 16 Cb), (hf, LA cJ 16 Fb), (hp, LA cJ 16 Pb), (ho, LA cJ 5 Ob)] H := hP
          have hD : va_D A [(h, .inr (1, [.int (nI d), .int kb, .ref fo, .ref ke, .ref ht, .ref wo, .ref fi, .ref se])), (a, LA cJ 16 S), (ht, .inr (0, [.int (nI (dd + 1)), .ref hc, .ref hf, .ref hp, .ref ho])), (hc, LA cJ 16 Cb), (hf, LA cJ 16 Fb), (hp, LA cJ 16 Pb), (ho, LA cJ 5 Ob)] := hD
          subst hw_45
          refine lv_istore (lv' := [(8, .int (nI (1000 * (upN (prt S 1) dd) + 100 * (dwN (prt S 1) dd) + 10 * (upN (prt S 0) (dd + 1)) + (dwN (prt S 0) (dd + 1))))), (7, .int (nI 0)), (6, .int (nI (dwN (prt S 0) (dd + 1)))), (5, .int (nI (upN (prt S 0) (dd + 1)))), (4, .int (nI (dwN (prt S 1) dd))), (3, .int (nI (upN (prt S 1) dd))), (0, .ref h), (1, .ref a), (2, .int (nI dd))]) hx hb d_K_kindOf_109 hl (by decide) rfl (fun ls hl => ?_)
          refine lv_iload_n hx hb d_K_kindOf_111 rfl (lv_at hl 8 rfl) ?_
          refine lv_iconst (v := nI 2) hx hb d_K_kindOf_112 (by decide) ?_
          refine xn_ne (tgt := 124) hx hb (by omega) (by omega) d_K_kindOf_113 (by decide) (fun c113_45 => ?_) (fun c113_45 => ?_)
          · skip
            refine lv_iload hx hb d_K_kindOf_124 (lv_at hl 0 rfl) ?_
            refine xci (wc := []) (wr := [(h, .inr (1, [.int (nI d), .int kb, .ref fo, .ref ke, .ref ht, .ref wo, .ref fi, .ref se])), (a, LA cJ 16 S), (ht, .inr (0, [.int (nI (dd + 1)), .ref hc, .ref hf, .ref hp, .ref ho])), (hc, LA cJ 16 Cb), (hf, LA cJ 16 Fb), (hp, LA cJ 16 Pb), (ho, LA cJ 5 Ob)]) hP hD hS hA [] [0, 1, 2, 3, 4, 5, 6] rfl rfl (by decide) (by decide) (va_runS (As := [.int (nI (1000 * (upN (prt S 1) dd) + 100 * (dwN (prt S 1) dd) + 10 * (upN (prt S 0) (dd + 1)) + (dwN (prt S 0) (dd + 1))))]) (rest := []) ⟨hx, hb, hml, hown, hts⟩ (c_kiS l D cJ (1000 * (upN (prt S 1) dd) + 100 * (dwN (prt S 1) dd) + 10 * (upN (prt S 0) (dd + 1)) + (dwN (prt S 0) (dd + 1))) (by first | assumption | omega) H.size) (cwS 1 hts (gS tw_137 tw_138 tw_1 tw_139) rfl rfl rfl ⟨rfl, hd_K_kindInSpace⟩ ⟨Nat.le_of_ble_eq_true rfl, Nat.le_of_ble_eq_true rfl⟩) (xPreS hN hK (hP.sub (ws' := []) [] rfl) (hD.sub (ws' := []) [] (by decide) rfl)) rfl rfl hl.1 rfl (lv_room (Nat.le_of_ble_eq_true rfl)) d_K_kindOf_126 ⟨Nat.le_of_ble_eq_true rfl, Nat.le_of_ble_eq_true rfl⟩) (fun r_47 u_48 H locs hw_49 hP hD hS => ?_)
            try dsimp only at hw_49
            have hP : va_P D vwC [(h, .inr (1, [.int (nI d), .int kb, .ref fo, .ref ke, .ref ht, .ref wo, .ref fi, .ref se])), (a, LA cJ 16 S), (ht, .inr (0, [.int (nI (dd + 1)), .ref hc, .ref hf, .ref hp, .ref ho])), (hc, LA cJ 16 Cb), (hf, LA cJ 16 Fb), (hp, LA cJ 16 Pb), (ho, LA cJ 5 Ob)] H := hP
            have hD : va_D A [(h, .inr (1, [.int (nI d), .int kb, .ref fo, .ref ke, .ref ht, .ref wo, .ref fi, .ref se])), (a, LA cJ 16 S), (ht, .inr (0, [.int (nI (dd + 1)), .ref hc, .ref hf, .ref hp, .ref ho])), (hc, LA cJ 16 Cb), (hf, LA cJ 16 Fb), (hp, LA cJ 16 Pb), (ho, LA cJ 5 Ob)] := hD
            subst hw_49
            exact hret H locs _ ls (nI (kiS (1000 * (upN (prt S 1) dd) + 100 * (dwN (prt S 1) dd) + 10 * (upN (prt S 0) (dd + 1)) + (dwN (prt S 0) (dd + 1))))) (nI (dd + 1), Cb, Fb, Pb, Ob) d_K_kindOf_129 ⟨(by unfold kindN; rw [if_neg c113_45, keyN_f (a0 := upN (prt S 1) dd) (a1 := dwN (prt S 1) dd) (b0 := upN (prt S 0) (dd + 1)) (b1 := dwN (prt S 0) (dd + 1)) (by omega)]), trivial⟩ hP hD hS
          · skip
            refine lv_iload hx hb d_K_kindOf_116 (lv_at hl 0 rfl) ?_
            refine xci (wc := []) (wr := [(h, .inr (1, [.int (nI d), .int kb, .ref fo, .ref ke, .ref ht, .ref wo, .ref fi, .ref se])), (a, LA cJ 16 S), (ht, .inr (0, [.int (nI (dd + 1)), .ref hc, .ref hf, .ref hp, .ref ho])), (hc, LA cJ 16 Cb), (hf, LA cJ 16 Fb), (hp, LA cJ 16 Pb), (ho, LA cJ 5 Ob)]) hP hD hS hA [] [0, 1, 2, 3, 4, 5, 6] rfl rfl (by decide) (by decide) (va_runS (As := [.int (nI (1000 * (upN (prt S 1) dd) + 100 * (dwN (prt S 1) dd) + 10 * (upN (prt S 0) (dd + 1)) + (dwN (prt S 0) (dd + 1))))]) (rest := []) ⟨hx, hb, hml, hown, hts⟩ (c_kiP l D cJ (1000 * (upN (prt S 1) dd) + 100 * (dwN (prt S 1) dd) + 10 * (upN (prt S 0) (dd + 1)) + (dwN (prt S 0) (dd + 1))) (by first | assumption | omega) H.size) (cwS 1 hts (gS tw_134 tw_135 tw_1 tw_136) rfl rfl rfl ⟨rfl, hd_K_kindInPlane⟩ ⟨Nat.le_of_ble_eq_true rfl, Nat.le_of_ble_eq_true rfl⟩) (xPreS hN hK (hP.sub (ws' := []) [] rfl) (hD.sub (ws' := []) [] (by decide) rfl)) rfl rfl hl.1 rfl (lv_room (Nat.le_of_ble_eq_true rfl)) d_K_kindOf_118 ⟨Nat.le_of_ble_eq_true rfl, Nat.le_of_ble_eq_true rfl⟩) (fun r_50 u_51 H locs hw_52 hP hD hS => ?_)
            try dsimp only at hw_52
            have hP : va_P D vwC [(h, .inr (1, [.int (nI d), .int kb, .ref fo, .ref ke, .ref ht, .ref wo, .ref fi, .ref se])), (a, LA cJ 16 S), (ht, .inr (0, [.int (nI (dd + 1)), .ref hc, .ref hf, .ref hp, .ref ho])), (hc, LA cJ 16 Cb), (hf, LA cJ 16 Fb), (hp, LA cJ 16 Pb), (ho, LA cJ 5 Ob)] H := hP
            have hD : va_D A [(h, .inr (1, [.int (nI d), .int kb, .ref fo, .ref ke, .ref ht, .ref wo, .ref fi, .ref se])), (a, LA cJ 16 S), (ht, .inr (0, [.int (nI (dd + 1)), .ref hc, .ref hf, .ref hp, .ref ho])), (hc, LA cJ 16 Cb), (hf, LA cJ 16 Fb), (hp, LA cJ 16 Pb), (ho, LA cJ 5 Ob)] := hD
            subst hw_52
            refine lv_goto (tgt := 129) hx hb d_K_kindOf_121 (by decide) ?_
            exact hret H locs _ ls (nI (kiP (1000 * (upN (prt S 1) dd) + 100 * (dwN (prt S 1) dd) + 10 * (upN (prt S 0) (dd + 1)) + (dwN (prt S 0) (dd + 1))))) (nI (dd + 1), Cb, Fb, Pb, Ob) d_K_kindOf_129 ⟨(by unfold kindN; rw [if_pos c113_45, keyN_f (a0 := upN (prt S 1) dd) (a1 := dwN (prt S 1) dd) (b0 := upN (prt S 0) (dd + 1)) (b1 := dwN (prt S 0) (dd + 1)) (by omega)]), trivial⟩ hP hD hS
        · skip
          refine lv_iconst (v := nI 1) hx hb d_K_kindOf_74 (by decide) ?_
          refine lv_goto (tgt := 79) hx hb d_K_kindOf_75 (by decide) ?_
          refine lv_istore (lv' := [(7, .int (nI 1)), (6, .int (nI (dwN (prt S 0) (dd + 1)))), (5, .int (nI (upN (prt S 0) (dd + 1)))), (4, .int (nI (dwN (prt S 1) dd))), (3, .int (nI (upN (prt S 1) dd))), (0, .ref h), (1, .ref a), (2, .int (nI dd))]) hx hb d_K_kindOf_79 hl (by decide) rfl (fun ls hl => ?_)
          refine lv_iload hx hb d_K_kindOf_81 (lv_at hl 0 rfl) ?_
          refine xz_eq (tgt := 99) (X := (1 : Nat)) hx hb (nI_toInt (by omega)) d_K_kindOf_83 (by decide) (fun c83_52 => absurd c83_52 (by omega)) (fun c83_52 => ?_)
          refine lv_iload hx hb d_K_kindOf_86 (lv_at hl 3 rfl) ?_
          refine lv_iload_n hx hb d_K_kindOf_88 rfl (lv_at hl 4 rfl) ?_
          refine lv_iload hx hb d_K_kindOf_89 (lv_at hl 1 rfl) ?_
          refine lv_iload hx hb d_K_kindOf_91 (lv_at hl 2 rfl) ?_
          refine xci (wc := []) (wr := [(h, .inr (1, [.int (nI d), .int kb, .ref fo, .ref ke, .ref ht, .ref wo, .ref fi, .ref se])), (a, LA cJ 16 S), (ht, .inr (0, [.int (nI (dd + 1)), .ref hc, .ref hf, .ref hp, .ref ho])), (hc, LA cJ 16 Cb), (hf, LA cJ 16 Fb), (hp, LA cJ 16 Pb), (ho, LA cJ 5 Ob)]) hP hD hS hA [] [0, 1, 2, 3, 4, 5, 6] rfl rfl (by decide) (by decide) (va_runS (As := [.int (nI (dwN (prt S 1) dd)), .int (nI (upN (prt S 1) dd)), .int (nI (dwN (prt S 0) (dd + 1))), .int (nI (upN (prt S 0) (dd + 1)))]) (rest := []) ⟨hx, hb, hml, hown, hts⟩ (c_code l D cJ (dwN (prt S 1) dd) (upN (prt S 1) dd) (dwN (prt S 0) (dd + 1)) (upN (prt S 0) (dd + 1)) H.size) (cwS 4 hts (gS tw_131 tw_132 tw_1 tw_133) rfl rfl rfl ⟨rfl, hd_K_codeOf⟩ ⟨Nat.le_of_ble_eq_true rfl, Nat.le_of_ble_eq_true rfl⟩) (xPreS hN hK (hP.sub (ws' := []) [] rfl) (hD.sub (ws' := []) [] (by decide) rfl)) rfl rfl hl.1 rfl (lv_room (Nat.le_of_ble_eq_true rfl)) d_K_kindOf_93 ⟨Nat.le_of_ble_eq_true rfl, Nat.le_of_ble_eq_true rfl⟩) (fun r_54 u_55 H locs hw_56 hP hD hS => ?_)
          try dsimp only at hw_56
          have hP : va_P D vwC [(h, .inr (1, [.int (nI d), .int kb, .ref fo, .ref ke, .ref ht, .ref wo, .ref fi, .ref se])), (a, LA cJ 16 S), (ht, .inr (0, [.int (nI (dd + 1)), .ref hc, .ref hf, .ref hp, .ref ho])), (hc, LA cJ 16 Cb), (hf, LA cJ 16 Fb), (hp, LA cJ 16 Pb), (ho, LA cJ 5 Ob)] H := hP
          have hD : va_D A [(h, .inr (1, [.int (nI d), .int kb, .ref fo, .ref ke, .ref ht, .ref wo, .ref fi, .ref se])), (a, LA cJ 16 S), (ht, .inr (0, [.int (nI (dd + 1)), .ref hc, .ref hf, .ref hp, .ref ho])), (hc, LA cJ 16 Cb), (hf, LA cJ 16 Fb), (hp, LA cJ 16 Pb), (ho, LA cJ 5 Ob)] := hD
          subst hw_56
          refine lv_goto (tgt := 109) hx hb d_K_kindOf_96 (by decide) ?_
          refine lv_istore (lv' := [(8, .int (nI (1000 * (dwN (prt S 1) dd) + 100 * (upN (prt S 1) dd) + 10 * (dwN (prt S 0) (dd + 1)) + (upN (prt S 0) (dd + 1))))), (7, .int (nI 1)), (6, .int (nI (dwN (prt S 0) (dd + 1)))), (5, .int (nI (upN (prt S 0) (dd + 1)))), (4, .int (nI (dwN (prt S 1) dd))), (3, .int (nI (upN (prt S 1) dd))), (0, .ref h), (1, .ref a), (2, .int (nI dd))]) hx hb d_K_kindOf_109 hl (by decide) rfl (fun ls hl => ?_)
          refine lv_iload_n hx hb d_K_kindOf_111 rfl (lv_at hl 8 rfl) ?_
          refine lv_iconst (v := nI 2) hx hb d_K_kindOf_112 (by decide) ?_
          refine xn_ne (tgt := 124) hx hb (by omega) (by omega) d_K_kindOf_113 (by decide) (fun c113_56 => ?_) (fun c113_56 => ?_)
          · skip
            refine lv_iload hx hb d_K_kindOf_124 (lv_at hl 0 rfl) ?_
            refine xci (wc := []) (wr := [(h, .inr (1, [.int (nI d), .int kb, .ref fo, .ref ke, .ref ht, .ref wo, .ref fi, .ref se])), (a, LA cJ 16 S), (ht, .inr (0, [.int (nI (dd + 1)), .ref hc, .ref hf, .ref hp, .ref ho])), (hc, LA cJ 16 Cb), (hf, LA cJ 16 Fb), (hp, LA cJ 16 Pb), (ho, LA cJ 5 Ob)]) hP hD hS hA [] [0, 1, 2, 3, 4, 5, 6] rfl rfl (by decide) (by decide) (va_runS (As := [.int (nI (1000 * (dwN (prt S 1) dd) + 100 * (upN (prt S 1) dd) + 10 * (dwN (prt S 0) (dd + 1)) + (upN (prt S 0) (dd + 1))))]) (rest := []) ⟨hx, hb, hml, hown, hts⟩ (c_kiS l D cJ (1000 * (dwN (prt S 1) dd) + 100 * (upN (prt S 1) dd) + 10 * (dwN (prt S 0) (dd + 1)) + (upN (prt S 0) (dd + 1))) (by first | assumption | omega) H.size) (cwS 1 hts (gS tw_137 tw_138 tw_1 tw_139) rfl rfl rfl ⟨rfl, hd_K_kindInSpace⟩ ⟨Nat.le_of_ble_eq_true rfl, Nat.le_of_ble_eq_true rfl⟩) (xPreS hN hK (hP.sub (ws' := []) [] rfl) (hD.sub (ws' := []) [] (by decide) rfl)) rfl rfl hl.1 rfl (lv_room (Nat.le_of_ble_eq_true rfl)) d_K_kindOf_126 ⟨Nat.le_of_ble_eq_true rfl, Nat.le_of_ble_eq_true rfl⟩) (fun r_58 u_59 H locs hw_60 hP hD hS => ?_)
            try dsimp only at hw_60
            have hP : va_P D vwC [(h, .inr (1, [.int (nI d), .int kb, .ref fo, .ref ke, .ref ht, .ref wo, .ref fi, .ref se])), (a, LA cJ 16 S), (ht, .inr (0, [.int (nI (dd + 1)), .ref hc, .ref hf, .ref hp, .ref ho])), (hc, LA cJ 16 Cb), (hf, LA cJ 16 Fb), (hp, LA cJ 16 Pb), (ho, LA cJ 5 Ob)] H := hP
            have hD : va_D A [(h, .inr (1, [.int (nI d), .int kb, .ref fo, .ref ke, .ref ht, .ref wo, .ref fi, .ref se])), (a, LA cJ 16 S), (ht, .inr (0, [.int (nI (dd + 1)), .ref hc, .ref hf, .ref hp, .ref ho])), (hc, LA cJ 16 Cb), (hf, LA cJ 16 Fb), (hp, LA cJ 16 Pb), (ho, LA cJ 5 Ob)] := hD
            subst hw_60
            exact hret H locs _ ls (nI (kiS (1000 * (dwN (prt S 1) dd) + 100 * (upN (prt S 1) dd) + 10 * (dwN (prt S 0) (dd + 1)) + (upN (prt S 0) (dd + 1))))) (nI (dd + 1), Cb, Fb, Pb, Ob) d_K_kindOf_129 ⟨(by unfold kindN; rw [if_neg c113_56, keyN_t (a0 := upN (prt S 1) dd) (a1 := dwN (prt S 1) dd) (b0 := upN (prt S 0) (dd + 1)) (b1 := dwN (prt S 0) (dd + 1)) (by omega)]), trivial⟩ hP hD hS
          · skip
            refine lv_iload hx hb d_K_kindOf_116 (lv_at hl 0 rfl) ?_
            refine xci (wc := []) (wr := [(h, .inr (1, [.int (nI d), .int kb, .ref fo, .ref ke, .ref ht, .ref wo, .ref fi, .ref se])), (a, LA cJ 16 S), (ht, .inr (0, [.int (nI (dd + 1)), .ref hc, .ref hf, .ref hp, .ref ho])), (hc, LA cJ 16 Cb), (hf, LA cJ 16 Fb), (hp, LA cJ 16 Pb), (ho, LA cJ 5 Ob)]) hP hD hS hA [] [0, 1, 2, 3, 4, 5, 6] rfl rfl (by decide) (by decide) (va_runS (As := [.int (nI (1000 * (dwN (prt S 1) dd) + 100 * (upN (prt S 1) dd) + 10 * (dwN (prt S 0) (dd + 1)) + (upN (prt S 0) (dd + 1))))]) (rest := []) ⟨hx, hb, hml, hown, hts⟩ (c_kiP l D cJ (1000 * (dwN (prt S 1) dd) + 100 * (upN (prt S 1) dd) + 10 * (dwN (prt S 0) (dd + 1)) + (upN (prt S 0) (dd + 1))) (by first | assumption | omega) H.size) (cwS 1 hts (gS tw_134 tw_135 tw_1 tw_136) rfl rfl rfl ⟨rfl, hd_K_kindInPlane⟩ ⟨Nat.le_of_ble_eq_true rfl, Nat.le_of_ble_eq_true rfl⟩) (xPreS hN hK (hP.sub (ws' := []) [] rfl) (hD.sub (ws' := []) [] (by decide) rfl)) rfl rfl hl.1 rfl (lv_room (Nat.le_of_ble_eq_true rfl)) d_K_kindOf_118 ⟨Nat.le_of_ble_eq_true rfl, Nat.le_of_ble_eq_true rfl⟩) (fun r_61 u_62 H locs hw_63 hP hD hS => ?_)
            try dsimp only at hw_63
            have hP : va_P D vwC [(h, .inr (1, [.int (nI d), .int kb, .ref fo, .ref ke, .ref ht, .ref wo, .ref fi, .ref se])), (a, LA cJ 16 S), (ht, .inr (0, [.int (nI (dd + 1)), .ref hc, .ref hf, .ref hp, .ref ho])), (hc, LA cJ 16 Cb), (hf, LA cJ 16 Fb), (hp, LA cJ 16 Pb), (ho, LA cJ 5 Ob)] H := hP
            have hD : va_D A [(h, .inr (1, [.int (nI d), .int kb, .ref fo, .ref ke, .ref ht, .ref wo, .ref fi, .ref se])), (a, LA cJ 16 S), (ht, .inr (0, [.int (nI (dd + 1)), .ref hc, .ref hf, .ref hp, .ref ho])), (hc, LA cJ 16 Cb), (hf, LA cJ 16 Fb), (hp, LA cJ 16 Pb), (ho, LA cJ 5 Ob)] := hD
            subst hw_63
            refine lv_goto (tgt := 129) hx hb d_K_kindOf_121 (by decide) ?_
            exact hret H locs _ ls (nI (kiP (1000 * (dwN (prt S 1) dd) + 100 * (upN (prt S 1) dd) + 10 * (dwN (prt S 0) (dd + 1)) + (upN (prt S 0) (dd + 1))))) (nI (dd + 1), Cb, Fb, Pb, Ob) d_K_kindOf_129 ⟨(by unfold kindN; rw [if_pos c113_56, keyN_t (a0 := upN (prt S 1) dd) (a1 := dwN (prt S 1) dd) (b0 := upN (prt S 0) (dd + 1)) (b1 := dwN (prt S 0) (dd + 1)) (by omega)]), trivial⟩ hP hD hS
  rw [hH, hlc] at key; exact key

def rm_c_cutCell : Room := { frames := 1, cells := 0, slots := 0, locals := 21 }
set_option maxHeartbeats 4000000 in
set_option maxRecDepth 100000 in
/-- a cell of the cut -/
theorem c_cutCell (l : Launch) (D : va_G) (cJ : ClassId) (h : Nat) (d : Nat) (kb : Int32) (fo : Nat) (ke : Nat) (ht : Nat) (wo : Nat) (fi : Nat) (se : Nat) (Fm : Nat → Int) (G : Nat → Int) (i : Nat) (j : Nat) (pv : Nat) (hi : i ≤ 3) (hj : j ≤ 3) (hpv : pv ≤ 3) (sz : Nat) : xMl l y_K_cutCell (Cond.code y_K_cutCell b_K_cutCell 6 (some .long) :: tW) rm_c_cutCell [.ref h, .int (nI i), .int (nI j), .int (nI pv)] D vwC [(cJ, .long)] sz [(h, .inr (1, [.int (nI d), .int kb, .ref fo, .ref ke, .ref ht, .ref wo, .ref fi, .ref se])), (fo, LA cJ 16 Fm), (fi, LA cJ 4 G)] (fun (rv : Int64) (_ : Unit) => rv = lI (cutZ Fm G i j pv)) (fun (_ : Unit) => [(h, .inr (1, [.int (nI d), .int kb, .ref fo, .ref ke, .ref ht, .ref wo, .ref fi, .ref se])), (fo, LA cJ 16 Fm), (fi, LA cJ 4 G)]) 0 0 := by
  refine xol (cc := b_K_cutCell) (maxL := 6) (by decide) rfl (Nat.le_of_ble_eq_true rfl) ?_
  intro p e s m args below meth c Q A hx hb hml hts hown hN hA hS hP hK hD hret ls hl
  have hl : lv_has ls 6 [(0, .ref h), (1, .int (nI i)), (2, .int (nI j)), (3, .int (nI pv))] := hl
  obtain ⟨H, hH⟩ : ∃ z, z = s.heap := ⟨_, rfl⟩
  obtain ⟨locs, hlc⟩ : ∃ z : List Loc, z = [] := ⟨_, rfl⟩
  rw [← hH] at hP
  have hS : va_S A s.heap H locs := by rw [hH, hlc]; exact hS
  have key : W p l e rm_c_cutCell s m args below meth c H locs 0 0 Q (F0 m 0 ls []) := by
    refine lv_aload_n hx hb d_K_cutCell_0 rfl (lv_at hl 0 rfl) ?_
    refine va_get (D := D) (ci := 1) (v := .ref fi) (C := R_K) (T := F_K) (N := 8) hx hb hts iw_K hown hK hP 0 rfl rfl 6 (by decide) (hts _ tw_48) (fun _ h9 => h9) rfl d_K_cutCell_1 ?_
    refine lv_iload_n hx hb d_K_cutCell_4 rfl (lv_at hl 3 rfl) ?_
    refine xl_ald hx hb hK hP 2 0 rfl rfl (k := pv) (by omega) (by first | decide | omega) d_K_cutCell_5 ?_
    refine lv_lstore (lv' := [(4, .long (lI (G pv))), (0, .ref h), (1, .int (nI i)), (2, .int (nI j)), (3, .int (nI pv))]) hx hb d_K_cutCell_6 hl (by decide) rfl (fun ls hl => ?_)
    refine lv_lload hx hb d_K_cutCell_8 (lv_at hl 0 rfl) ?_
    refine lv_lload hx hb d_K_cutCell_10 (lv_at hl 0 rfl) ?_
    refine xl_mul hx hb d_K_cutCell_12 ?_
    refine lv_aload_n hx hb d_K_cutCell_13 rfl (lv_at hl 1 rfl) ?_
    refine va_get (D := D) (ci := 1) (v := .ref fo) (C := R_K) (T := F_K) (N := 8) hx hb hts iw_K hown hK hP 0 rfl rfl 2 (by decide) (hts _ tw_44) (fun _ h9 => h9) rfl d_K_cutCell_14 ?_
    refine lv_iload_n hx hb d_K_cutCell_17 rfl (lv_at hl 2 rfl) ?_
    refine lv_iload_n hx hb d_K_cutCell_18 rfl (lv_at hl 3 rfl) ?_
    refine xci (wc := []) (wr := [(h, .inr (1, [.int (nI d), .int kb, .ref fo, .ref ke, .ref ht, .ref wo, .ref fi, .ref se])), (fo, LA cJ 16 Fm), (fi, LA cJ 4 G)]) hP hD hS hA [] [0, 1, 2] rfl rfl (by decide) (by decide) (va_runS (As := [.int (nI i), .int (nI j)]) (rest := [.ref fo, .long (lI ((G pv) * (G pv)))]) ⟨hx, hb, hml, hown, hts⟩ (c_place l D cJ i j H.size) (cwS 2 hts (gS tw_86 tw_87 tw_1 tw_88) rfl rfl rfl ⟨rfl, hd_K_place⟩ ⟨Nat.le_of_ble_eq_true rfl, Nat.le_of_ble_eq_true rfl⟩) (xPreS hN hK (hP.sub (ws' := []) [] rfl) (hD.sub (ws' := []) [] (by decide) rfl)) rfl rfl hl.1 rfl (lv_room (Nat.le_of_ble_eq_true rfl)) d_K_cutCell_19 ⟨Nat.le_of_ble_eq_true rfl, Nat.le_of_ble_eq_true rfl⟩) (fun r_1 u_2 H locs hw_3 hP hD hS => ?_)
    try dsimp only at hw_3
    have hP : va_P D vwC [(h, .inr (1, [.int (nI d), .int kb, .ref fo, .ref ke, .ref ht, .ref wo, .ref fi, .ref se])), (fo, LA cJ 16 Fm), (fi, LA cJ 4 G)] H := hP
    have hD : va_D A [(h, .inr (1, [.int (nI d), .int kb, .ref fo, .ref ke, .ref ht, .ref wo, .ref fi, .ref se])), (fo, LA cJ 16 Fm), (fi, LA cJ 4 G)] := hD
    subst hw_3
    refine xl_ald hx hb hK hP 1 0 rfl rfl (k := 4 * i + j) (by omega) (by first | decide | omega) d_K_cutCell_22 ?_
    refine xl_mul hx hb d_K_cutCell_23 ?_
    refine lv_lload hx hb d_K_cutCell_24 (lv_at hl 0 rfl) ?_
    refine lv_aload_n hx hb d_K_cutCell_26 rfl (lv_at hl 1 rfl) ?_
    refine va_get (D := D) (ci := 1) (v := .ref fi) (C := R_K) (T := F_K) (N := 8) hx hb hts iw_K hown hK hP 0 rfl rfl 6 (by decide) (hts _ tw_48) (fun _ h9 => h9) rfl d_K_cutCell_27 ?_
    refine lv_iload_n hx hb d_K_cutCell_30 rfl (lv_at hl 2 rfl) ?_
    refine xl_ald hx hb hK hP 2 0 rfl rfl (k := i) (by omega) (by first | decide | omega) d_K_cutCell_31 ?_
    refine xl_mul hx hb d_K_cutCell_32 ?_
    refine lv_aload_n hx hb d_K_cutCell_33 rfl (lv_at hl 1 rfl) ?_
    refine va_get (D := D) (ci := 1) (v := .ref fo) (C := R_K) (T := F_K) (N := 8) hx hb hts iw_K hown hK hP 0 rfl rfl 2 (by decide) (hts _ tw_44) (fun _ h9 => h9) rfl d_K_cutCell_34 ?_
    refine lv_iload_n hx hb d_K_cutCell_37 rfl (lv_at hl 4 rfl) ?_
    refine lv_iload_n hx hb d_K_cutCell_38 rfl (lv_at hl 3 rfl) ?_
    refine xci (wc := []) (wr := [(h, .inr (1, [.int (nI d), .int kb, .ref fo, .ref ke, .ref ht, .ref wo, .ref fi, .ref se])), (fo, LA cJ 16 Fm), (fi, LA cJ 4 G)]) hP hD hS hA [] [0, 1, 2] rfl rfl (by decide) (by decide) (va_runS (As := [.int (nI pv), .int (nI j)]) (rest := [.ref fo, .long (lI ((G pv) * (G i))), .long (lI (((G pv) * (G pv)) * (Fm (4 * i + j))))]) ⟨hx, hb, hml, hown, hts⟩ (c_place l D cJ pv j H.size) (cwS 2 hts (gS tw_86 tw_87 tw_1 tw_88) rfl rfl rfl ⟨rfl, hd_K_place⟩ ⟨Nat.le_of_ble_eq_true rfl, Nat.le_of_ble_eq_true rfl⟩) (xPreS hN hK (hP.sub (ws' := []) [] rfl) (hD.sub (ws' := []) [] (by decide) rfl)) rfl rfl hl.1 rfl (lv_room (Nat.le_of_ble_eq_true rfl)) d_K_cutCell_39 ⟨Nat.le_of_ble_eq_true rfl, Nat.le_of_ble_eq_true rfl⟩) (fun r_4 u_5 H locs hw_6 hP hD hS => ?_)
    try dsimp only at hw_6
    have hP : va_P D vwC [(h, .inr (1, [.int (nI d), .int kb, .ref fo, .ref ke, .ref ht, .ref wo, .ref fi, .ref se])), (fo, LA cJ 16 Fm), (fi, LA cJ 4 G)] H := hP
    have hD : va_D A [(h, .inr (1, [.int (nI d), .int kb, .ref fo, .ref ke, .ref ht, .ref wo, .ref fi, .ref se])), (fo, LA cJ 16 Fm), (fi, LA cJ 4 G)] := hD
    subst hw_6
    refine xl_ald hx hb hK hP 1 0 rfl rfl (k := 4 * pv + j) (by omega) (by first | decide | omega) d_K_cutCell_42 ?_
    refine xl_mul hx hb d_K_cutCell_43 ?_
    refine xl_sub hx hb d_K_cutCell_44 ?_
    refine lv_lload hx hb d_K_cutCell_45 (lv_at hl 0 rfl) ?_
    refine lv_aload_n hx hb d_K_cutCell_47 rfl (lv_at hl 1 rfl) ?_
    refine va_get (D := D) (ci := 1) (v := .ref fi) (C := R_K) (T := F_K) (N := 8) hx hb hts iw_K hown hK hP 0 rfl rfl 6 (by decide) (hts _ tw_48) (fun _ h9 => h9) rfl d_K_cutCell_48 ?_
    refine lv_iload_n hx hb d_K_cutCell_51 rfl (lv_at hl 3 rfl) ?_
    refine xl_ald hx hb hK hP 2 0 rfl rfl (k := j) (by omega) (by first | decide | omega) d_K_cutCell_52 ?_
    refine xl_mul hx hb d_K_cutCell_53 ?_
    refine lv_aload_n hx hb d_K_cutCell_54 rfl (lv_at hl 1 rfl) ?_
    refine va_get (D := D) (ci := 1) (v := .ref fo) (C := R_K) (T := F_K) (N := 8) hx hb hts iw_K hown hK hP 0 rfl rfl 2 (by decide) (hts _ tw_44) (fun _ h9 => h9) rfl d_K_cutCell_55 ?_
    refine lv_iload_n hx hb d_K_cutCell_58 rfl (lv_at hl 2 rfl) ?_
    refine lv_iload_n hx hb d_K_cutCell_59 rfl (lv_at hl 4 rfl) ?_
    refine xci (wc := []) (wr := [(h, .inr (1, [.int (nI d), .int kb, .ref fo, .ref ke, .ref ht, .ref wo, .ref fi, .ref se])), (fo, LA cJ 16 Fm), (fi, LA cJ 4 G)]) hP hD hS hA [] [0, 1, 2] rfl rfl (by decide) (by decide) (va_runS (As := [.int (nI i), .int (nI pv)]) (rest := [.ref fo, .long (lI ((G pv) * (G j))), .long (lI ((((G pv) * (G pv)) * (Fm (4 * i + j))) - (((G pv) * (G i)) * (Fm (4 * pv + j)))))]) ⟨hx, hb, hml, hown, hts⟩ (c_place l D cJ i pv H.size) (cwS 2 hts (gS tw_86 tw_87 tw_1 tw_88) rfl rfl rfl ⟨rfl, hd_K_place⟩ ⟨Nat.le_of_ble_eq_true rfl, Nat.le_of_ble_eq_true rfl⟩) (xPreS hN hK (hP.sub (ws' := []) [] rfl) (hD.sub (ws' := []) [] (by decide) rfl)) rfl rfl hl.1 rfl (lv_room (Nat.le_of_ble_eq_true rfl)) d_K_cutCell_60 ⟨Nat.le_of_ble_eq_true rfl, Nat.le_of_ble_eq_true rfl⟩) (fun r_7 u_8 H locs hw_9 hP hD hS => ?_)
    try dsimp only at hw_9
    have hP : va_P D vwC [(h, .inr (1, [.int (nI d), .int kb, .ref fo, .ref ke, .ref ht, .ref wo, .ref fi, .ref se])), (fo, LA cJ 16 Fm), (fi, LA cJ 4 G)] H := hP
    have hD : va_D A [(h, .inr (1, [.int (nI d), .int kb, .ref fo, .ref ke, .ref ht, .ref wo, .ref fi, .ref se])), (fo, LA cJ 16 Fm), (fi, LA cJ 4 G)] := hD
    subst hw_9
    refine xl_ald hx hb hK hP 1 0 rfl rfl (k := 4 * i + pv) (by omega) (by first | decide | omega) d_K_cutCell_63 ?_
    refine xl_mul hx hb d_K_cutCell_64 ?_
    refine xl_sub hx hb d_K_cutCell_65 ?_
    refine lv_aload_n hx hb d_K_cutCell_66 rfl (lv_at hl 1 rfl) ?_
    refine va_get (D := D) (ci := 1) (v := .ref fi) (C := R_K) (T := F_K) (N := 8) hx hb hts iw_K hown hK hP 0 rfl rfl 6 (by decide) (hts _ tw_48) (fun _ h9 => h9) rfl d_K_cutCell_67 ?_
    refine lv_iload_n hx hb d_K_cutCell_70 rfl (lv_at hl 2 rfl) ?_
    refine xl_ald hx hb hK hP 2 0 rfl rfl (k := i) (by omega) (by first | decide | omega) d_K_cutCell_71 ?_
    refine lv_aload_n hx hb d_K_cutCell_72 rfl (lv_at hl 1 rfl) ?_
    refine va_get (D := D) (ci := 1) (v := .ref fi) (C := R_K) (T := F_K) (N := 8) hx hb hts iw_K hown hK hP 0 rfl rfl 6 (by decide) (hts _ tw_48) (fun _ h9 => h9) rfl d_K_cutCell_73 ?_
    refine lv_iload_n hx hb d_K_cutCell_76 rfl (lv_at hl 3 rfl) ?_
    refine xl_ald hx hb hK hP 2 0 rfl rfl (k := j) (by omega) (by first | decide | omega) d_K_cutCell_77 ?_
    refine xl_mul hx hb d_K_cutCell_78 ?_
    refine lv_aload_n hx hb d_K_cutCell_79 rfl (lv_at hl 1 rfl) ?_
    refine va_get (D := D) (ci := 1) (v := .ref fo) (C := R_K) (T := F_K) (N := 8) hx hb hts iw_K hown hK hP 0 rfl rfl 2 (by decide) (hts _ tw_44) (fun _ h9 => h9) rfl d_K_cutCell_80 ?_
    refine lv_iload_n hx hb d_K_cutCell_83 rfl (lv_at hl 4 rfl) ?_
    refine lv_iload_n hx hb d_K_cutCell_84 rfl (lv_at hl 4 rfl) ?_
    refine xci (wc := []) (wr := [(h, .inr (1, [.int (nI d), .int kb, .ref fo, .ref ke, .ref ht, .ref wo, .ref fi, .ref se])), (fo, LA cJ 16 Fm), (fi, LA cJ 4 G)]) hP hD hS hA [] [0, 1, 2] rfl rfl (by decide) (by decide) (va_runS (As := [.int (nI pv), .int (nI pv)]) (rest := [.ref fo, .long (lI ((G i) * (G j))), .long (lI (((((G pv) * (G pv)) * (Fm (4 * i + j))) - (((G pv) * (G i)) * (Fm (4 * pv + j)))) - (((G pv) * (G j)) * (Fm (4 * i + pv)))))]) ⟨hx, hb, hml, hown, hts⟩ (c_place l D cJ pv pv H.size) (cwS 2 hts (gS tw_86 tw_87 tw_1 tw_88) rfl rfl rfl ⟨rfl, hd_K_place⟩ ⟨Nat.le_of_ble_eq_true rfl, Nat.le_of_ble_eq_true rfl⟩) (xPreS hN hK (hP.sub (ws' := []) [] rfl) (hD.sub (ws' := []) [] (by decide) rfl)) rfl rfl hl.1 rfl (lv_room (Nat.le_of_ble_eq_true rfl)) d_K_cutCell_85 ⟨Nat.le_of_ble_eq_true rfl, Nat.le_of_ble_eq_true rfl⟩) (fun r_10 u_11 H locs hw_12 hP hD hS => ?_)
    try dsimp only at hw_12
    have hP : va_P D vwC [(h, .inr (1, [.int (nI d), .int kb, .ref fo, .ref ke, .ref ht, .ref wo, .ref fi, .ref se])), (fo, LA cJ 16 Fm), (fi, LA cJ 4 G)] H := hP
    have hD : va_D A [(h, .inr (1, [.int (nI d), .int kb, .ref fo, .ref ke, .ref ht, .ref wo, .ref fi, .ref se])), (fo, LA cJ 16 Fm), (fi, LA cJ 4 G)] := hD
    subst hw_12
    refine xl_ald hx hb hK hP 1 0 rfl rfl (k := 4 * pv + pv) (by omega) (by first | decide | omega) d_K_cutCell_88 ?_
    refine xl_mul hx hb d_K_cutCell_89 ?_
    refine xl_add hx hb d_K_cutCell_90 ?_
    exact hret H locs _ ls (lI ((((((G pv) * (G pv)) * (Fm (4 * i + j))) - (((G pv) * (G i)) * (Fm (4 * pv + j)))) - (((G pv) * (G j)) * (Fm (4 * i + pv)))) + (((G i) * (G j)) * (Fm (4 * pv + pv))))) () d_K_cutCell_91 rfl hP hD hS
  rw [hH, hlc] at key; exact key

def rm_c_cutInto : Room := { frames := 2, cells := 0, slots := 0, locals := 46 }
set_option maxHeartbeats 4000000 in
set_option maxRecDepth 100000 in
/-- the cut -/
theorem c_cutInto (l : Launch) (D : va_G) (cJ : ClassId) (h : Nat) (d : Nat) (kb : Int32) (fo : Nat) (ke : Nat) (ht : Nat) (wo : Nat) (fi : Nat) (se : Nat) (Fm : Nat → Int) (G : Nat → Int) (Wk : Nat → Int) (pv : Nat) (hpv : pv ≤ 3) (sz : Nat) : xMv l y_K_cutInto (Cond.code y_K_cutInto b_K_cutInto 5 none :: tW) rm_c_cutInto [.ref h, .ref wo, .int (nI pv)] D vwC [(cJ, .long)] sz [(h, .inr (1, [.int (nI d), .int kb, .ref fo, .ref ke, .ref ht, .ref wo, .ref fi, .ref se])), (fo, LA cJ 16 Fm), (fi, LA cJ 4 G), (wo, LA cJ 16 Wk)] (fun (uo : (Nat → Int)) => ∀ a b, a < 3 → b < 3 → uo (4 * a + b) = cutZ Fm G (skp a pv) (skp b pv) pv) (fun (uo : (Nat → Int)) => [(h, .inr (1, [.int (nI d), .int kb, .ref fo, .ref ke, .ref ht, .ref wo, .ref fi, .ref se])), (fo, LA cJ 16 Fm), (fi, LA cJ 4 G), (wo, LA cJ 16 uo)]) 0 0 := by
  refine xov (cc := b_K_cutInto) (maxL := 5) (by decide) rfl (Nat.le_of_ble_eq_true rfl) ?_
  intro p e s m args below meth c Q A hx hb hml hts hown hN hA hS hP hK hD hret ls hl
  have hl : lv_has ls 5 [(0, .ref h), (1, .ref wo), (2, .int (nI pv))] := hl
  obtain ⟨H, hH⟩ : ∃ z, z = s.heap := ⟨_, rfl⟩
  obtain ⟨locs, hlc⟩ : ∃ z : List Loc, z = [] := ⟨_, rfl⟩
  rw [← hH] at hP
  have hS : va_S A s.heap H locs := by rw [hH, hlc]; exact hS
  have key : W p l e rm_c_cutInto s m args below meth c H locs 0 0 Q (F0 m 0 ls []) := by
    refine lv_iconst (v := nI 0) hx hb d_K_cutInto_0 (by decide) ?_
    refine lv_istore_n (lv' := [(3, .int (nI 0)), (0, .ref h), (1, .ref wo), (2, .int (nI pv))]) hx hb d_K_cutInto_1 rfl hl (by decide) rfl (fun ls hl => ?_)
    have lp_2 : ∀ (n_2 : Nat) (i : Nat) (W3 : Nat → Int) (H : Heap) (locs : List Loc) (ls : Array Slot), (i ≤ 3) → (∀ a b, a < i → b < 3 → W3 (4 * a + b) = cutZ Fm G (skp a pv) (skp b pv) pv) → (3 - i) < n_2 → va_P D vwC [(h, .inr (1, [.int (nI d), .int kb, .ref fo, .ref ke, .ref ht, .ref wo, .ref fi, .ref se])), (fo, LA cJ 16 Fm), (fi, LA cJ 4 G), (wo, LA cJ 16 W3)] H → va_D A [(h, .inr (1, [.int (nI d), .int kb, .ref fo, .ref ke, .ref ht, .ref wo, .ref fi, .ref se])), (fo, LA cJ 16 Fm), (fi, LA cJ 4 G), (wo, LA cJ 16 W3)] → va_S A s.heap H locs → lv_has ls 5 [(0, .ref h), (1, .ref wo), (2, .int (nI pv)), (3, .int (nI i))] → W p l e rm_c_cutInto s m args below meth c H locs 0 0 Q (F0 m 2 ls []) := by
      intro n_2
      induction n_2 with
      | zero => intro i W3 H locs ls hi h1 hn_2; exact absurd hn_2 (Nat.not_lt_zero _)
      | succ n_2 ih_2 =>
        intro i W3 H locs ls hi h1 hn_2 hP hD hS hl
        refine lv_iload_n hx hb d_K_cutInto_2 rfl (lv_at hl 3 rfl) ?_
        refine lv_iconst (v := nI 3) hx hb d_K_cutInto_3 (by decide) ?_
        refine xn_ge (tgt := 68) hx hb (by omega) (by omega) d_K_cutInto_4 (by decide) (fun c4_0 => ?_) (fun c4_0 => ?_)
        · skip
          exact hret H locs _ ls W3 d_K_cutInto_68 (fun a b ha hb => h1 a b (by omega) hb) hP hD hS
        · skip
          refine lv_iconst (v := nI 0) hx hb d_K_cutInto_7 (by decide) ?_
          refine lv_istore (lv' := [(4, .int (nI 0)), (0, .ref h), (1, .ref wo), (2, .int (nI pv)), (3, .int (nI i))]) hx hb d_K_cutInto_8 hl (by decide) rfl (fun ls hl => ?_)
          have lp_10 : ∀ (n_10 : Nat) (j : Nat) (W4 : Nat → Int) (H : Heap) (locs : List Loc) (ls : Array Slot), (j ≤ 3) → (∀ a b, (a < i ∧ b < 3) ∨ (a = i ∧ b < j) → W4 (4 * a + b) = cutZ Fm G (skp a pv) (skp b pv) pv) → (3 - j) < n_10 → va_P D vwC [(h, .inr (1, [.int (nI d), .int kb, .ref fo, .ref ke, .ref ht, .ref wo, .ref fi, .ref se])), (fo, LA cJ 16 Fm), (fi, LA cJ 4 G), (wo, LA cJ 16 W4)] H → va_D A [(h, .inr (1, [.int (nI d), .int kb, .ref fo, .ref ke, .ref ht, .ref wo, .ref fi, .ref se])), (fo, LA cJ 16 Fm), (fi, LA cJ 4 G), (wo, LA cJ 16 W4)] → va_S A s.heap H locs → lv_has ls 5 [(0, .ref h), (1, .ref wo), (2, .int (nI pv)), (3, .int (nI i)), (4, .int (nI j))] → W p l e rm_c_cutInto s m args below meth c H locs 0 0 Q (F0 m 10 ls []) := by
            intro n_10
            induction n_10 with
            | zero => intro j W4 H locs ls hj h2 hn_10; exact absurd hn_10 (Nat.not_lt_zero _)
            | succ n_10 ih_10 =>
              intro j W4 H locs ls hj h2 hn_10 hP hD hS hl
              refine lv_iload hx hb d_K_cutInto_10 (lv_at hl 4 rfl) ?_
              refine lv_iconst (v := nI 3) hx hb d_K_cutInto_12 (by decide) ?_
              refine xn_ge (tgt := 62) hx hb (by omega) (by omega) d_K_cutInto_13 (by decide) (fun c13_1 => ?_) (fun c13_1 => ?_)
              · skip
                refine lv_iinc (v := nI (i + 1)) (lv' := [(3, .int (nI (i + 1))), (0, .ref h), (1, .ref wo), (2, .int (nI pv)), (4, .int (nI j))]) hx hb d_K_cutInto_62 hl (k := 3) rfl (nI_add _ _) (by decide) rfl (fun ls hl => ?_)
                refine lv_goto (tgt := 2) hx hb d_K_cutInto_65 (by decide) ?_
                exact ih_2 (i + 1) W4 H locs ls (by omega) (fun a b ha hb => h2 a b (by omega)) (by omega) hP hD hS (lv_sub hl [1, 2, 3, 0] rfl)
              · skip
                refine lv_aload_n hx hb d_K_cutInto_16 rfl (lv_at hl 1 rfl) ?_
                refine lv_iload_n hx hb d_K_cutInto_17 rfl (lv_at hl 3 rfl) ?_
                refine lv_iload hx hb d_K_cutInto_18 (lv_at hl 4 rfl) ?_
                refine xci (wc := []) (wr := [(h, .inr (1, [.int (nI d), .int kb, .ref fo, .ref ke, .ref ht, .ref wo, .ref fi, .ref se])), (fo, LA cJ 16 Fm), (fi, LA cJ 4 G), (wo, LA cJ 16 W4)]) hP hD hS hA [] [0, 1, 2, 3] rfl rfl (by decide) (by decide) (va_runS (As := [.int (nI i), .int (nI j)]) (rest := [.ref wo]) ⟨hx, hb, hml, hown, hts⟩ (c_place l D cJ i j H.size) (cwS 2 hts (gS tw_86 tw_87 tw_1 tw_88) rfl rfl rfl ⟨rfl, hd_K_place⟩ ⟨Nat.le_of_ble_eq_true rfl, Nat.le_of_ble_eq_true rfl⟩) (xPreS hN hK (hP.sub (ws' := []) [] rfl) (hD.sub (ws' := []) [] (by decide) rfl)) rfl rfl hl.1 rfl (lv_room (Nat.le_of_ble_eq_true rfl)) d_K_cutInto_20 ⟨Nat.le_of_ble_eq_true rfl, Nat.le_of_ble_eq_true rfl⟩) (fun r_3 u_4 H locs hw_5 hP hD hS => ?_)
                try dsimp only at hw_5
                have hP : va_P D vwC [(h, .inr (1, [.int (nI d), .int kb, .ref fo, .ref ke, .ref ht, .ref wo, .ref fi, .ref se])), (fo, LA cJ 16 Fm), (fi, LA cJ 4 G), (wo, LA cJ 16 W4)] H := hP
                have hD : va_D A [(h, .inr (1, [.int (nI d), .int kb, .ref fo, .ref ke, .ref ht, .ref wo, .ref fi, .ref se])), (fo, LA cJ 16 Fm), (fi, LA cJ 4 G), (wo, LA cJ 16 W4)] := hD
                subst hw_5
                refine lv_aload_n hx hb d_K_cutInto_23 rfl (lv_at hl 0 rfl) ?_
                refine lv_iload_n hx hb d_K_cutInto_24 rfl (lv_at hl 3 rfl) ?_
                refine lv_iload_n hx hb d_K_cutInto_25 rfl (lv_at hl 2 rfl) ?_
                refine xn_ge (tgt := 33) hx hb (by omega) (by omega) d_K_cutInto_26 (by decide) (fun c26_5 => ?_) (fun c26_5 => ?_)
                · skip
                  refine lv_iload_n hx hb d_K_cutInto_33 rfl (lv_at hl 3 rfl) ?_
                  refine lv_iconst (v := nI 1) hx hb d_K_cutInto_34 (by decide) ?_
                  refine xn_add hx hb d_K_cutInto_35 ?_
                  refine lv_iload hx hb d_K_cutInto_36 (lv_at hl 4 rfl) ?_
                  refine lv_iload_n hx hb d_K_cutInto_38 rfl (lv_at hl 2 rfl) ?_
                  refine xn_ge (tgt := 47) hx hb (by omega) (by omega) d_K_cutInto_39 (by decide) (fun c39_6 => ?_) (fun c39_6 => ?_)
                  · skip
                    refine lv_iload hx hb d_K_cutInto_47 (lv_at hl 4 rfl) ?_
                    refine lv_iconst (v := nI 1) hx hb d_K_cutInto_49 (by decide) ?_
                    refine xn_add hx hb d_K_cutInto_50 ?_
                    refine lv_iload_n hx hb d_K_cutInto_51 rfl (lv_at hl 2 rfl) ?_
                    refine xcl (wc := [(h, .inr (1, [.int (nI d), .int kb, .ref fo, .ref ke, .ref ht, .ref wo, .ref fi, .ref se])), (fo, LA cJ 16 Fm), (fi, LA cJ 4 G)]) (wr := [(wo, LA cJ 16 W4)]) hP hD hS hA [0, 1, 2] [3] rfl rfl (by decide) (by decide) (va_runV (As := [.int (nI (i + 1)), .int (nI (j + 1)), .int (nI pv)]) (rest := [.int (nI (4 * i + j)), .ref wo]) ⟨hx, hb, hml, hown, hts⟩ (c_cutCell l D cJ h d kb fo ke ht wo fi se Fm G (i + 1) (j + 1) pv (by first | assumption | omega) (by first | assumption | omega) (by first | assumption | omega) H.size) (cwV 3 hts (gV tw_255 tw_257 tws_10 tw_1 tw_258) rfl rfl rfl ⟨rfl, hd_K_cutCell⟩ ⟨Nat.le_of_ble_eq_true rfl, Nat.le_of_ble_eq_true rfl⟩) (xPreV (C := R_K) (T := F_K) (N := 8) (q0 := 0) hN hK (hP.sub (ws' := [(h, .inr (1, [.int (nI d), .int kb, .ref fo, .ref ke, .ref ht, .ref wo, .ref fi, .ref se])), (fo, LA cJ 16 Fm), (fi, LA cJ 4 G)]) [0, 1, 2] rfl) (hD.sub (ws' := [(h, .inr (1, [.int (nI d), .int kb, .ref fo, .ref ke, .ref ht, .ref wo, .ref fi, .ref se])), (fo, LA cJ 16 Fm), (fi, LA cJ 4 G)]) [0, 1, 2] (by decide) rfl) rfl rfl) rfl rfl hl.1 rfl (lv_room (Nat.le_of_ble_eq_true rfl)) d_K_cutInto_52 ⟨Nat.le_of_ble_eq_true rfl, Nat.le_of_ble_eq_true rfl⟩) (fun r_8 u_9 H locs hw_10 hP hD hS => ?_)
                    try dsimp only at hw_10
                    have hP : va_P D vwC [(h, .inr (1, [.int (nI d), .int kb, .ref fo, .ref ke, .ref ht, .ref wo, .ref fi, .ref se])), (fo, LA cJ 16 Fm), (fi, LA cJ 4 G), (wo, LA cJ 16 W4)] H := hP.sub [1, 2, 3, 0] rfl
                    have hD : va_D A [(h, .inr (1, [.int (nI d), .int kb, .ref fo, .ref ke, .ref ht, .ref wo, .ref fi, .ref se])), (fo, LA cJ 16 Fm), (fi, LA cJ 4 G), (wo, LA cJ 16 W4)] := hD.sub [1, 2, 3, 0] (by decide) rfl
                    subst hw_10
                    refine xl_ast hx hb hK hP hD hS 3 0 rfl rfl (k := 4 * i + j) (by omega) (by first | decide | omega) d_K_cutInto_55 (fun H locs hP hD hS => ?_)
                    have hP : va_P D vwC [(h, .inr (1, [.int (nI d), .int kb, .ref fo, .ref ke, .ref ht, .ref wo, .ref fi, .ref se])), (fo, LA cJ 16 Fm), (fi, LA cJ 4 G), (wo, LA cJ 16 (upZ W4 (4 * i + j) (cutZ Fm G (i + 1) (j + 1) pv)))] H := hP
                    have hD : va_D A [(h, .inr (1, [.int (nI d), .int kb, .ref fo, .ref ke, .ref ht, .ref wo, .ref fi, .ref se])), (fo, LA cJ 16 Fm), (fi, LA cJ 4 G), (wo, LA cJ 16 (upZ W4 (4 * i + j) (cutZ Fm G (i + 1) (j + 1) pv)))] := hD
                    refine lv_iinc (v := nI (j + 1)) (lv' := [(4, .int (nI (j + 1))), (0, .ref h), (1, .ref wo), (2, .int (nI pv)), (3, .int (nI i))]) hx hb d_K_cutInto_56 hl (k := 4) rfl (nI_add _ _) (by decide) rfl (fun ls hl => ?_)
                    refine lv_goto (tgt := 10) hx hb d_K_cutInto_59 (by decide) ?_
                    exact ih_10 (j + 1) (upZ W4 (4 * i + j) (cutZ Fm G (i + 1) (j + 1) pv)) H locs ls (by omega) (fun a b h => by by_cases q : a = i ∧ b = j; obtain ⟨rfl, rfl⟩ := q; rw [upZ_at, skp_ge c26_5, skp_ge c39_6]; rw [upZ_ne (k := 4 * i + j) (j := 4 * a + b) _ _ (by omega)]; exact h2 a b (by omega)) (by omega) hP hD hS (lv_sub hl [1, 2, 3, 4, 0] rfl)
                  · skip
                    refine lv_iload hx hb d_K_cutInto_42 (lv_at hl 4 rfl) ?_
                    refine lv_goto (tgt := 51) hx hb d_K_cutInto_44 (by decide) ?_
                    refine lv_iload_n hx hb d_K_cutInto_51 rfl (lv_at hl 2 rfl) ?_
                    refine xcl (wc := [(h, .inr (1, [.int (nI d), .int kb, .ref fo, .ref ke, .ref ht, .ref wo, .ref fi, .ref se])), (fo, LA cJ 16 Fm), (fi, LA cJ 4 G)]) (wr := [(wo, LA cJ 16 W4)]) hP hD hS hA [0, 1, 2] [3] rfl rfl (by decide) (by decide) (va_runV (As := [.int (nI (i + 1)), .int (nI j), .int (nI pv)]) (rest := [.int (nI (4 * i + j)), .ref wo]) ⟨hx, hb, hml, hown, hts⟩ (c_cutCell l D cJ h d kb fo ke ht wo fi se Fm G (i + 1) j pv (by first | assumption | omega) (by first | assumption | omega) (by first | assumption | omega) H.size) (cwV 3 hts (gV tw_255 tw_257 tws_10 tw_1 tw_258) rfl rfl rfl ⟨rfl, hd_K_cutCell⟩ ⟨Nat.le_of_ble_eq_true rfl, Nat.le_of_ble_eq_true rfl⟩) (xPreV (C := R_K) (T := F_K) (N := 8) (q0 := 0) hN hK (hP.sub (ws' := [(h, .inr (1, [.int (nI d), .int kb, .ref fo, .ref ke, .ref ht, .ref wo, .ref fi, .ref se])), (fo, LA cJ 16 Fm), (fi, LA cJ 4 G)]) [0, 1, 2] rfl) (hD.sub (ws' := [(h, .inr (1, [.int (nI d), .int kb, .ref fo, .ref ke, .ref ht, .ref wo, .ref fi, .ref se])), (fo, LA cJ 16 Fm), (fi, LA cJ 4 G)]) [0, 1, 2] (by decide) rfl) rfl rfl) rfl rfl hl.1 rfl (lv_room (Nat.le_of_ble_eq_true rfl)) d_K_cutInto_52 ⟨Nat.le_of_ble_eq_true rfl, Nat.le_of_ble_eq_true rfl⟩) (fun r_11 u_12 H locs hw_13 hP hD hS => ?_)
                    try dsimp only at hw_13
                    have hP : va_P D vwC [(h, .inr (1, [.int (nI d), .int kb, .ref fo, .ref ke, .ref ht, .ref wo, .ref fi, .ref se])), (fo, LA cJ 16 Fm), (fi, LA cJ 4 G), (wo, LA cJ 16 W4)] H := hP.sub [1, 2, 3, 0] rfl
                    have hD : va_D A [(h, .inr (1, [.int (nI d), .int kb, .ref fo, .ref ke, .ref ht, .ref wo, .ref fi, .ref se])), (fo, LA cJ 16 Fm), (fi, LA cJ 4 G), (wo, LA cJ 16 W4)] := hD.sub [1, 2, 3, 0] (by decide) rfl
                    subst hw_13
                    refine xl_ast hx hb hK hP hD hS 3 0 rfl rfl (k := 4 * i + j) (by omega) (by first | decide | omega) d_K_cutInto_55 (fun H locs hP hD hS => ?_)
                    have hP : va_P D vwC [(h, .inr (1, [.int (nI d), .int kb, .ref fo, .ref ke, .ref ht, .ref wo, .ref fi, .ref se])), (fo, LA cJ 16 Fm), (fi, LA cJ 4 G), (wo, LA cJ 16 (upZ W4 (4 * i + j) (cutZ Fm G (i + 1) j pv)))] H := hP
                    have hD : va_D A [(h, .inr (1, [.int (nI d), .int kb, .ref fo, .ref ke, .ref ht, .ref wo, .ref fi, .ref se])), (fo, LA cJ 16 Fm), (fi, LA cJ 4 G), (wo, LA cJ 16 (upZ W4 (4 * i + j) (cutZ Fm G (i + 1) j pv)))] := hD
                    refine lv_iinc (v := nI (j + 1)) (lv' := [(4, .int (nI (j + 1))), (0, .ref h), (1, .ref wo), (2, .int (nI pv)), (3, .int (nI i))]) hx hb d_K_cutInto_56 hl (k := 4) rfl (nI_add _ _) (by decide) rfl (fun ls hl => ?_)
                    refine lv_goto (tgt := 10) hx hb d_K_cutInto_59 (by decide) ?_
                    exact ih_10 (j + 1) (upZ W4 (4 * i + j) (cutZ Fm G (i + 1) j pv)) H locs ls (by omega) (fun a b h => by by_cases q : a = i ∧ b = j; obtain ⟨rfl, rfl⟩ := q; rw [upZ_at, skp_ge c26_5, skp_lt c39_6]; rw [upZ_ne (k := 4 * i + j) (j := 4 * a + b) _ _ (by omega)]; exact h2 a b (by omega)) (by omega) hP hD hS (lv_sub hl [1, 2, 3, 4, 0] rfl)
                · skip
                  refine lv_iload_n hx hb d_K_cutInto_29 rfl (lv_at hl 3 rfl) ?_
                  refine lv_goto (tgt := 36) hx hb d_K_cutInto_30 (by decide) ?_
                  refine lv_iload hx hb d_K_cutInto_36 (lv_at hl 4 rfl) ?_
                  refine lv_iload_n hx hb d_K_cutInto_38 rfl (lv_at hl 2 rfl) ?_
                  refine xn_ge (tgt := 47) hx hb (by omega) (by omega) d_K_cutInto_39 (by decide) (fun c39_13 => ?_) (fun c39_13 => ?_)
                  · skip
                    refine lv_iload hx hb d_K_cutInto_47 (lv_at hl 4 rfl) ?_
                    refine lv_iconst (v := nI 1) hx hb d_K_cutInto_49 (by decide) ?_
                    refine xn_add hx hb d_K_cutInto_50 ?_
                    refine lv_iload_n hx hb d_K_cutInto_51 rfl (lv_at hl 2 rfl) ?_
                    refine xcl (wc := [(h, .inr (1, [.int (nI d), .int kb, .ref fo, .ref ke, .ref ht, .ref wo, .ref fi, .ref se])), (fo, LA cJ 16 Fm), (fi, LA cJ 4 G)]) (wr := [(wo, LA cJ 16 W4)]) hP hD hS hA [0, 1, 2] [3] rfl rfl (by decide) (by decide) (va_runV (As := [.int (nI i), .int (nI (j + 1)), .int (nI pv)]) (rest := [.int (nI (4 * i + j)), .ref wo]) ⟨hx, hb, hml, hown, hts⟩ (c_cutCell l D cJ h d kb fo ke ht wo fi se Fm G i (j + 1) pv (by first | assumption | omega) (by first | assumption | omega) (by first | assumption | omega) H.size) (cwV 3 hts (gV tw_255 tw_257 tws_10 tw_1 tw_258) rfl rfl rfl ⟨rfl, hd_K_cutCell⟩ ⟨Nat.le_of_ble_eq_true rfl, Nat.le_of_ble_eq_true rfl⟩) (xPreV (C := R_K) (T := F_K) (N := 8) (q0 := 0) hN hK (hP.sub (ws' := [(h, .inr (1, [.int (nI d), .int kb, .ref fo, .ref ke, .ref ht, .ref wo, .ref fi, .ref se])), (fo, LA cJ 16 Fm), (fi, LA cJ 4 G)]) [0, 1, 2] rfl) (hD.sub (ws' := [(h, .inr (1, [.int (nI d), .int kb, .ref fo, .ref ke, .ref ht, .ref wo, .ref fi, .ref se])), (fo, LA cJ 16 Fm), (fi, LA cJ 4 G)]) [0, 1, 2] (by decide) rfl) rfl rfl) rfl rfl hl.1 rfl (lv_room (Nat.le_of_ble_eq_true rfl)) d_K_cutInto_52 ⟨Nat.le_of_ble_eq_true rfl, Nat.le_of_ble_eq_true rfl⟩) (fun r_15 u_16 H locs hw_17 hP hD hS => ?_)
                    try dsimp only at hw_17
                    have hP : va_P D vwC [(h, .inr (1, [.int (nI d), .int kb, .ref fo, .ref ke, .ref ht, .ref wo, .ref fi, .ref se])), (fo, LA cJ 16 Fm), (fi, LA cJ 4 G), (wo, LA cJ 16 W4)] H := hP.sub [1, 2, 3, 0] rfl
                    have hD : va_D A [(h, .inr (1, [.int (nI d), .int kb, .ref fo, .ref ke, .ref ht, .ref wo, .ref fi, .ref se])), (fo, LA cJ 16 Fm), (fi, LA cJ 4 G), (wo, LA cJ 16 W4)] := hD.sub [1, 2, 3, 0] (by decide) rfl
                    subst hw_17
                    refine xl_ast hx hb hK hP hD hS 3 0 rfl rfl (k := 4 * i + j) (by omega) (by first | decide | omega) d_K_cutInto_55 (fun H locs hP hD hS => ?_)
                    have hP : va_P D vwC [(h, .inr (1, [.int (nI d), .int kb, .ref fo, .ref ke, .ref ht, .ref wo, .ref fi, .ref se])), (fo, LA cJ 16 Fm), (fi, LA cJ 4 G), (wo, LA cJ 16 (upZ W4 (4 * i + j) (cutZ Fm G i (j + 1) pv)))] H := hP
                    have hD : va_D A [(h, .inr (1, [.int (nI d), .int kb, .ref fo, .ref ke, .ref ht, .ref wo, .ref fi, .ref se])), (fo, LA cJ 16 Fm), (fi, LA cJ 4 G), (wo, LA cJ 16 (upZ W4 (4 * i + j) (cutZ Fm G i (j + 1) pv)))] := hD
                    refine lv_iinc (v := nI (j + 1)) (lv' := [(4, .int (nI (j + 1))), (0, .ref h), (1, .ref wo), (2, .int (nI pv)), (3, .int (nI i))]) hx hb d_K_cutInto_56 hl (k := 4) rfl (nI_add _ _) (by decide) rfl (fun ls hl => ?_)
                    refine lv_goto (tgt := 10) hx hb d_K_cutInto_59 (by decide) ?_
                    exact ih_10 (j + 1) (upZ W4 (4 * i + j) (cutZ Fm G i (j + 1) pv)) H locs ls (by omega) (fun a b h => by by_cases q : a = i ∧ b = j; obtain ⟨rfl, rfl⟩ := q; rw [upZ_at, skp_lt c26_5, skp_ge c39_13]; rw [upZ_ne (k := 4 * i + j) (j := 4 * a + b) _ _ (by omega)]; exact h2 a b (by omega)) (by omega) hP hD hS (lv_sub hl [1, 2, 3, 4, 0] rfl)
                  · skip
                    refine lv_iload hx hb d_K_cutInto_42 (lv_at hl 4 rfl) ?_
                    refine lv_goto (tgt := 51) hx hb d_K_cutInto_44 (by decide) ?_
                    refine lv_iload_n hx hb d_K_cutInto_51 rfl (lv_at hl 2 rfl) ?_
                    refine xcl (wc := [(h, .inr (1, [.int (nI d), .int kb, .ref fo, .ref ke, .ref ht, .ref wo, .ref fi, .ref se])), (fo, LA cJ 16 Fm), (fi, LA cJ 4 G)]) (wr := [(wo, LA cJ 16 W4)]) hP hD hS hA [0, 1, 2] [3] rfl rfl (by decide) (by decide) (va_runV (As := [.int (nI i), .int (nI j), .int (nI pv)]) (rest := [.int (nI (4 * i + j)), .ref wo]) ⟨hx, hb, hml, hown, hts⟩ (c_cutCell l D cJ h d kb fo ke ht wo fi se Fm G i j pv (by first | assumption | omega) (by first | assumption | omega) (by first | assumption | omega) H.size) (cwV 3 hts (gV tw_255 tw_257 tws_10 tw_1 tw_258) rfl rfl rfl ⟨rfl, hd_K_cutCell⟩ ⟨Nat.le_of_ble_eq_true rfl, Nat.le_of_ble_eq_true rfl⟩) (xPreV (C := R_K) (T := F_K) (N := 8) (q0 := 0) hN hK (hP.sub (ws' := [(h, .inr (1, [.int (nI d), .int kb, .ref fo, .ref ke, .ref ht, .ref wo, .ref fi, .ref se])), (fo, LA cJ 16 Fm), (fi, LA cJ 4 G)]) [0, 1, 2] rfl) (hD.sub (ws' := [(h, .inr (1, [.int (nI d), .int kb, .ref fo, .ref ke, .ref ht, .ref wo, .ref fi, .ref se])), (fo, LA cJ 16 Fm), (fi, LA cJ 4 G)]) [0, 1, 2] (by decide) rfl) rfl rfl) rfl rfl hl.1 rfl (lv_room (Nat.le_of_ble_eq_true rfl)) d_K_cutInto_52 ⟨Nat.le_of_ble_eq_true rfl, Nat.le_of_ble_eq_true rfl⟩) (fun r_18 u_19 H locs hw_20 hP hD hS => ?_)
                    try dsimp only at hw_20
                    have hP : va_P D vwC [(h, .inr (1, [.int (nI d), .int kb, .ref fo, .ref ke, .ref ht, .ref wo, .ref fi, .ref se])), (fo, LA cJ 16 Fm), (fi, LA cJ 4 G), (wo, LA cJ 16 W4)] H := hP.sub [1, 2, 3, 0] rfl
                    have hD : va_D A [(h, .inr (1, [.int (nI d), .int kb, .ref fo, .ref ke, .ref ht, .ref wo, .ref fi, .ref se])), (fo, LA cJ 16 Fm), (fi, LA cJ 4 G), (wo, LA cJ 16 W4)] := hD.sub [1, 2, 3, 0] (by decide) rfl
                    subst hw_20
                    refine xl_ast hx hb hK hP hD hS 3 0 rfl rfl (k := 4 * i + j) (by omega) (by first | decide | omega) d_K_cutInto_55 (fun H locs hP hD hS => ?_)
                    have hP : va_P D vwC [(h, .inr (1, [.int (nI d), .int kb, .ref fo, .ref ke, .ref ht, .ref wo, .ref fi, .ref se])), (fo, LA cJ 16 Fm), (fi, LA cJ 4 G), (wo, LA cJ 16 (upZ W4 (4 * i + j) (cutZ Fm G i j pv)))] H := hP
                    have hD : va_D A [(h, .inr (1, [.int (nI d), .int kb, .ref fo, .ref ke, .ref ht, .ref wo, .ref fi, .ref se])), (fo, LA cJ 16 Fm), (fi, LA cJ 4 G), (wo, LA cJ 16 (upZ W4 (4 * i + j) (cutZ Fm G i j pv)))] := hD
                    refine lv_iinc (v := nI (j + 1)) (lv' := [(4, .int (nI (j + 1))), (0, .ref h), (1, .ref wo), (2, .int (nI pv)), (3, .int (nI i))]) hx hb d_K_cutInto_56 hl (k := 4) rfl (nI_add _ _) (by decide) rfl (fun ls hl => ?_)
                    refine lv_goto (tgt := 10) hx hb d_K_cutInto_59 (by decide) ?_
                    exact ih_10 (j + 1) (upZ W4 (4 * i + j) (cutZ Fm G i j pv)) H locs ls (by omega) (fun a b h => by by_cases q : a = i ∧ b = j; obtain ⟨rfl, rfl⟩ := q; rw [upZ_at, skp_lt c26_5, skp_lt c39_13]; rw [upZ_ne (k := 4 * i + j) (j := 4 * a + b) _ _ (by omega)]; exact h2 a b (by omega)) (by omega) hP hD hS (lv_sub hl [1, 2, 3, 4, 0] rfl)
          exact lp_10 ((3 - 0) + 1) 0 W3 H locs ls (Nat.zero_le _) (fun a b h => h1 a b (by omega) (by omega)) (by omega) hP hD hS (lv_sub hl [1, 2, 3, 4, 0] rfl)
    exact lp_2 ((3 - 0) + 1) 0 Wk H locs ls (Nat.zero_le _) (fun a b h => absurd h (Nat.not_lt_zero _)) (by omega) hP hD hS (lv_sub hl [1, 2, 3, 0] rfl)
  rw [hH, hlc] at key; exact key
