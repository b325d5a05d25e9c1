set_option maxHeartbeats 4000000 in
set_option maxRecDepth 100000 in
theorem zL_amountK (l : Launch) (D : va_G) (y : Nat → ClassId) (a : Nat → Nat) (r0 sz : Nat) (x1 x2 : Int32) (z : zz_M) (o : Nat → Int64) {r : Int64} {zt : zz_M} (hT : (0 ≤ x1.toInt ∧ x1.toInt ≤ 23) ∧ (0 ≤ x2.toInt ∧ x2.toInt ≤ 14)) (hm1 : mX4_reckon 64 z = some ((), zt)) (hm2 : mX4_of 64 x2 x1 zt = some r) : vx_Met l yL_amount wsL_amount { frames := 7, cells := 1, slots := 6, locals := 151 } (zz_PcX D y (wO y r0 o ++ wC y a z) sz [.ref (a 0), .int x1, .int x2, .ref r0]) (zl_Q D y a r0 (va_A (wO y r0 o ++ wC y a z) sz) 0 zt (vp_updL o 0 r)) zl_X 1 6 (va_A (wO y r0 o ++ wC y a z) sz) := by
  refine vx_ofWH (cc := cL_amount) (maxL := 5) (ret := (some .int)) (hh := [(0, 9, 12, 13)]) (by decide) rfl ?_
  intro p e s m args below meth c s₁ B hml hv
  have htab := vx_table (x := yL_amount) B (atoms_spec (ws := wsL_amount) B.pre _ List.mem_cons_self)
  obtain ⟨⟨rfl, hsz, hP, hK, hD0, hN, hg⟩, hxx⟩ := hv
  have hx := B.exec
  have hb := B.bytes
  have hr := B.returns
  have hts := atoms_spec (ws := wsL_amount) B.pre
  have hown : s.vm.findClass RL = some m.cls := findClass_of_methodNamed B.named
  have hlocks := B.notSynchronized
  clear B
  subst hsz
  have hD := hD0.self (sz := s.heap.size)
  generalize hAe : va_A (wO y r0 o ++ wC y a z) s.heap.size = A at hD hg hxx ⊢
  have hA : ∀ q : Nat, s.heap.size ≤ q → A q := fun q h => by rw [← hAe]; exact Or.inr h
  clear hAe hD0
  have hl := lv_entry ([.ref (a 0), .int x1, .int x2, .ref r0]) (n := 5) (Nat.le_of_ble_eq_true rfl)
  rw [lg_entry_eq]
  generalize (lg_sl ([.ref (a 0), .int x1, .int x2, .ref r0]) ++ List.replicate (5 - (lg_sl ([.ref (a 0), .int x1, .int x2, .ref r0])).length) Slot.unset).toArray = ls at hl ⊢
  replace hl : lv_has ls 5 [(0, .ref (a 0)), (1, .int x1), (2, .int x2), (3, .ref r0)] := hl
  have hS : va_S A s.heap s.heap [] := va_S.rf
  refine lv_aload_n hx hb dL_amount_0 rfl (lv_at hl 3 rfl) ?_
  refine lv_iconst (v := (0 : Int32)) hx hb dL_amount_1 (by decide) ?_
  refine lv_aload_n hx hb dL_amount_2 rfl (lv_at hl 0 rfl) ?_
  refine lv_iload_n hx hb dL_amount_3 rfl (lv_at hl 1 rfl) ?_
  refine lv_iload_n hx hb dL_amount_4 rfl (lv_at hl 2 rfl) ?_
  refine zl_calll (w := wC y a) (X := wO y r0 o) (zl_runV (w := wC y a) (X := wO y r0 o) (As := [.int x1, .int x2]) (rest := [.int 0, .ref r0]) (mc := 0) (ms := 0) ⟨hx, hb, hml, hown, hts⟩ (zX10_amountK l D y a s.heap.size x1 x2 z hT hm1 hm2) (cwV 2 hts gL_amount_X10_amount rfl rfl rfl zdX10_amount ⟨Nat.le_of_ble_eq_true rfl, Nat.le_of_ble_eq_true rfl⟩) hK hN hg hP hD hS hA 0 (wC_0 y a z) rfl rfl hl.1 rfl (Nat.le_of_ble_eq_true rfl) dL_amount_5 ⟨Nat.le_of_ble_eq_true rfl, Nat.le_of_ble_eq_true rfl⟩) hP hD hS hA (fun H locs hP hD hS => ?_)
  refine va_last hx hb hK hP hD hS 0 1 rfl rfl (zq_lit 0 1 (by decide) (by decide)) dL_amount_8 (fun H locs hP hD hS => ?_)
  refine lv_goto (tgt := 16) hx hb dL_amount_9 (by decide) ?_
  refine lv_iconst (v := (0 : Int32)) hx hb dL_amount_16 (by decide) ?_
  refine W.widen (k := 1) (n := 6) (by omega) (by omega) ?_
  exact zl_iret hx hb hr hlocks hP hK hD hS dL_amount_17
set_option maxHeartbeats 4000000 in
set_option maxRecDepth 100000 in
theorem zL_amountT (l : Launch) (hst : l.stackTraces = false) (D : va_G) (y : Nat → ClassId) (a : Nat → Nat) (r0 sz : Nat) (x1 x2 : Int32) (z : zz_M) (o : Nat → Int64) (hT : ¬ ((0 ≤ x1.toInt ∧ x1.toInt ≤ 23) ∧ (0 ≤ x2.toInt ∧ x2.toInt ≤ 14))) : vx_Met l yL_amount wsL_amount { frames := 7, cells := 1, slots := 6, locals := 151 } (zz_PcX D y (wO y r0 o ++ wC y a z) sz [.ref (a 0), .int x1, .int x2, .ref r0]) (zl_Q D y a r0 (va_A (wO y r0 o ++ wC y a z) sz) 1 z o) zl_X 1 6 (va_A (wO y r0 o ++ wC y a z) sz) := by
  refine vx_ofWH (cc := cL_amount) (maxL := 5) (ret := (some .int)) (hh := [(0, 9, 12, 13)]) (by decide) rfl ?_
  intro p e s m args below meth c s₁ B hml hv
  have htab := vx_table (x := yL_amount) B (atoms_spec (ws := wsL_amount) B.pre _ List.mem_cons_self)
  obtain ⟨⟨rfl, hsz, hP, hK, hD0, hN, hg⟩, hxx⟩ := hv
  have hx := B.exec
  have hb := B.bytes
  have hr := B.returns
  have hts := atoms_spec (ws := wsL_amount) B.pre
  have hown : s.vm.findClass RL = some m.cls := findClass_of_methodNamed B.named
  have hlocks := B.notSynchronized
  clear B
  subst hsz
  have hD := hD0.self (sz := s.heap.size)
  generalize hAe : va_A (wO y r0 o ++ wC y a z) s.heap.size = A at hD hg hxx ⊢
  have hA : ∀ q : Nat, s.heap.size ≤ q → A q := fun q h => by rw [← hAe]; exact Or.inr h
  clear hAe hD0
  have hl := lv_entry ([.ref (a 0), .int x1, .int x2, .ref r0]) (n := 5) (Nat.le_of_ble_eq_true rfl)
  rw [lg_entry_eq]
  generalize (lg_sl ([.ref (a 0), .int x1, .int x2, .ref r0]) ++ List.replicate (5 - (lg_sl ([.ref (a 0), .int x1, .int x2, .ref r0])).length) Slot.unset).toArray = ls at hl ⊢
  replace hl : lv_has ls 5 [(0, .ref (a 0)), (1, .int x1), (2, .int x2), (3, .ref r0)] := hl
  have hS : va_S A s.heap s.heap [] := va_S.rf
  refine lv_aload_n hx hb dL_amount_0 rfl (lv_at hl 3 rfl) ?_
  refine lv_iconst (v := (0 : Int32)) hx hb dL_amount_1 (by decide) ?_
  refine lv_aload_n hx hb dL_amount_2 rfl (lv_at hl 0 rfl) ?_
  refine lv_iload_n hx hb dL_amount_3 rfl (lv_at hl 1 rfl) ?_
  refine lv_iload_n hx hb dL_amount_4 rfl (lv_at hl 2 rfl) ?_
  refine zl_callX (w := wC y a) (X := wO y r0 o) (zl_runVX (w := wC y a) (X := wO y r0 o) (As := [.int x1, .int x2]) (rest := [.int 0, .ref r0]) (mc := 1) (ms := 6) ⟨hx, hb, hml, hown, hts⟩ (zX10_amountT l hst D y a s.heap.size x1 x2 z hT) (cwV 2 hts gL_amount_X10_amount rfl rfl rfl zdX10_amount ⟨Nat.le_of_ble_eq_true rfl, Nat.le_of_ble_eq_true rfl⟩) hK hN hg hxx hP hD hS hA 0 (wC_0 y a z) rfl rfl hl.1 rfl (Nat.le_of_ble_eq_true rfl) dL_amount_5 ⟨Nat.le_of_ble_eq_true rfl, Nat.le_of_ble_eq_true rfl⟩) hP hD hS hA (fun ce q9 H locs hP hD hS hq hv hc => ?_)
  refine vx_catch (name := "java/util/NoSuchElementException") hown [] ⟨0, 9, 12, 13⟩ [] htab (fun _ h => absurd h List.not_mem_nil) (by decide) (by decide) (hts (.classLink RL 13 "java/util/NoSuchElementException") (by decide +kernel)) (va_Nw.use rfl hxx.2.2.2.2.2) hq hv hc ?_
  refine lv_astore (lv' := [(4, .ref q9), (0, .ref (a 0)), (1, .int x1), (2, .int x2), (3, .ref r0)]) hx hb dL_amount_12 hl (by decide) rfl (fun ls hl => ?_)
  refine lv_iconst (v := (1 : Int32)) hx hb dL_amount_14 (by decide) ?_
  exact zl_iret hx hb hr hlocks hP hK hD hS dL_amount_15
set_option maxHeartbeats 4000000 in
set_option maxRecDepth 100000 in
theorem zL_rowK (l : Launch) (D : va_G) (y : Nat → ClassId) (a : Nat → Nat) (r0 sz : Nat) (x1 : Int32) (z : zz_M) (o : Nat → Int64) (hT : ¬ x1 < 0 ∧ x1 < z.2.2.1 6337) (hin : zz_in x1 5) : vx_Met l yL_row wsL_row { frames := 7, cells := 1, slots := 6, locals := 151 } (zz_PcX D y (wO y r0 o ++ wC y a z) sz [.ref (a 0), .int x1, .ref r0]) (zl_Q D y a r0 (va_A (wO y r0 o ++ wC y a z) sz) 0 z (vp_updL o 0 (z.2.1 100 x1.toNatClampNeg))) zl_X 1 6 (va_A (wO y r0 o ++ wC y a z) sz) := by
  refine vx_ofWH (cc := cL_row) (maxL := 4) (ret := (some .int)) (hh := [(0, 8, 11, 13)]) (by decide) rfl ?_
  intro p e s m args below meth c s₁ B hml hv
  have htab := vx_table (x := yL_amount) B (atoms_spec (ws := wsL_row) B.pre _ List.mem_cons_self)
  obtain ⟨⟨rfl, hsz, hP, hK, hD0, hN, hg⟩, hxx⟩ := hv
  have hx := B.exec
  have hb := B.bytes
  have hr := B.returns
  have hts := atoms_spec (ws := wsL_row) B.pre
  have hown : s.vm.findClass RL = some m.cls := findClass_of_methodNamed B.named
  have hlocks := B.notSynchronized
  clear B
  subst hsz
  have hD := hD0.self (sz := s.heap.size)
  generalize hAe : va_A (wO y r0 o ++ wC y a z) s.heap.size = A at hD hg hxx ⊢
  have hA : ∀ q : Nat, s.heap.size ≤ q → A q := fun q h => by rw [← hAe]; exact Or.inr h
  clear hAe hD0
  have hl := lv_entry ([.ref (a 0), .int x1, .ref r0]) (n := 4) (Nat.le_of_ble_eq_true rfl)
  rw [lg_entry_eq]
  generalize (lg_sl ([.ref (a 0), .int x1, .ref r0]) ++ List.replicate (4 - (lg_sl ([.ref (a 0), .int x1, .ref r0])).length) Slot.unset).toArray = ls at hl ⊢
  replace hl : lv_has ls 4 [(0, .ref (a 0)), (1, .int x1), (2, .ref r0)] := hl
  have hS : va_S A s.heap s.heap [] := va_S.rf
  refine lv_aload_n hx hb dL_row_0 rfl (lv_at hl 2 rfl) ?_
  refine lv_iconst (v := (0 : Int32)) hx hb dL_row_1 (by decide) ?_
  refine lv_aload_n hx hb dL_row_2 rfl (lv_at hl 0 rfl) ?_
  refine lv_iload_n hx hb dL_row_3 rfl (lv_at hl 1 rfl) ?_
  refine zl_calll (w := wC y a) (X := wO y r0 o) (zl_runV (w := wC y a) (X := wO y r0 o) (As := [.int x1]) (rest := [.int 0, .ref r0]) (mc := 0) (ms := 0) ⟨hx, hb, hml, hown, hts⟩ (zX10_rowK l D y a s.heap.size x1 z hT hin) (cwV 1 hts gL_row_X10_row rfl rfl rfl zdX10_row ⟨Nat.le_of_ble_eq_true rfl, Nat.le_of_ble_eq_true rfl⟩) hK hN hg hP hD hS hA 0 (wC_0 y a z) rfl rfl hl.1 rfl (Nat.le_of_ble_eq_true rfl) dL_row_4 ⟨Nat.le_of_ble_eq_true rfl, Nat.le_of_ble_eq_true rfl⟩) hP hD hS hA (fun H locs hP hD hS => ?_)
  refine va_last hx hb hK hP hD hS 0 1 rfl rfl (zq_lit 0 1 (by decide) (by decide)) dL_row_7 (fun H locs hP hD hS => ?_)
  refine lv_goto (tgt := 14) hx hb dL_row_8 (by decide) ?_
  refine lv_iconst (v := (0 : Int32)) hx hb dL_row_14 (by decide) ?_
  refine W.widen (k := 1) (n := 6) (by omega) (by omega) ?_
  exact zl_iret hx hb hr hlocks hP hK hD hS dL_row_15
set_option maxHeartbeats 4000000 in
set_option maxRecDepth 100000 in
theorem zL_rowT (l : Launch) (hst : l.stackTraces = false) (D : va_G) (y : Nat → ClassId) (a : Nat → Nat) (r0 sz : Nat) (x1 : Int32) (z : zz_M) (o : Nat → Int64) (hT : ¬ (¬ x1 < 0 ∧ x1 < z.2.2.1 6337)) : vx_Met l yL_row wsL_row { frames := 7, cells := 1, slots := 6, locals := 151 } (zz_PcX D y (wO y r0 o ++ wC y a z) sz [.ref (a 0), .int x1, .ref r0]) (zl_Q D y a r0 (va_A (wO y r0 o ++ wC y a z) sz) 1 z o) zl_X 1 6 (va_A (wO y r0 o ++ wC y a z) sz) := by
  refine vx_ofWH (cc := cL_row) (maxL := 4) (ret := (some .int)) (hh := [(0, 8, 11, 13)]) (by decide) rfl ?_
  intro p e s m args below meth c s₁ B hml hv
  have htab := vx_table (x := yL_amount) B (atoms_spec (ws := wsL_row) B.pre _ List.mem_cons_self)
  obtain ⟨⟨rfl, hsz, hP, hK, hD0, hN, hg⟩, hxx⟩ := hv
  have hx := B.exec
  have hb := B.bytes
  have hr := B.returns
  have hts := atoms_spec (ws := wsL_row) B.pre
  have hown : s.vm.findClass RL = some m.cls := findClass_of_methodNamed B.named
  have hlocks := B.notSynchronized
  clear B
  subst hsz
  have hD := hD0.self (sz := s.heap.size)
  generalize hAe : va_A (wO y r0 o ++ wC y a z) s.heap.size = A at hD hg hxx ⊢
  have hA : ∀ q : Nat, s.heap.size ≤ q → A q := fun q h => by rw [← hAe]; exact Or.inr h
  clear hAe hD0
  have hl := lv_entry ([.ref (a 0), .int x1, .ref r0]) (n := 4) (Nat.le_of_ble_eq_true rfl)
  rw [lg_entry_eq]
  generalize (lg_sl ([.ref (a 0), .int x1, .ref r0]) ++ List.replicate (4 - (lg_sl ([.ref (a 0), .int x1, .ref r0])).length) Slot.unset).toArray = ls at hl ⊢
  replace hl : lv_has ls 4 [(0, .ref (a 0)), (1, .int x1), (2, .ref r0)] := hl
  have hS : va_S A s.heap s.heap [] := va_S.rf
  refine lv_aload_n hx hb dL_row_0 rfl (lv_at hl 2 rfl) ?_
  refine lv_iconst (v := (0 : Int32)) hx hb dL_row_1 (by decide) ?_
  refine lv_aload_n hx hb dL_row_2 rfl (lv_at hl 0 rfl) ?_
  refine lv_iload_n hx hb dL_row_3 rfl (lv_at hl 1 rfl) ?_
  refine zl_callX (w := wC y a) (X := wO y r0 o) (zl_runVX (w := wC y a) (X := wO y r0 o) (As := [.int x1]) (rest := [.int 0, .ref r0]) (mc := 1) (ms := 6) ⟨hx, hb, hml, hown, hts⟩ (zX10_rowT l hst D y a s.heap.size x1 z hT) (cwV 1 hts gL_row_X10_row rfl rfl rfl zdX10_row ⟨Nat.le_of_ble_eq_true rfl, Nat.le_of_ble_eq_true rfl⟩) hK hN hg hxx hP hD hS hA 0 (wC_0 y a z) rfl rfl hl.1 rfl (Nat.le_of_ble_eq_true rfl) dL_row_4 ⟨Nat.le_of_ble_eq_true rfl, Nat.le_of_ble_eq_true rfl⟩) hP hD hS hA (fun ce q9 H locs hP hD hS hq hv hc => ?_)
  refine vx_catch (name := "java/util/NoSuchElementException") hown [] ⟨0, 8, 11, 13⟩ [] htab (fun _ h => absurd h List.not_mem_nil) (by decide) (by decide) (hts (.classLink RL 13 "java/util/NoSuchElementException") (by decide +kernel)) (va_Nw.use rfl hxx.2.2.2.2.2) hq hv hc ?_
  refine lv_astore_n (lv' := [(3, .ref q9), (0, .ref (a 0)), (1, .int x1), (2, .ref r0)]) hx hb dL_row_11 rfl hl (by decide) rfl (fun ls hl => ?_)
  refine lv_iconst (v := (1 : Int32)) hx hb dL_row_12 (by decide) ?_
  exact zl_iret hx hb hr hlocks hP hK hD hS dL_row_13
