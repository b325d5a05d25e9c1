/-! ===== the worlds of fresh objects ===== -/
def wIX9 (y : Nat → ClassId) (a : Nat → Nat) : va_W := [(a 0, .inr (9, [.ref (a 1), .int 0])), (a 1, .inl (y 0, 120, .inl (fun _ => 0)))]
def wIX0 (y : Nat → ClassId) (a : Nat → Nat) : va_W := [(a 0, .inr (0, [.ref (a 1), .ref (a 2), .ref (a 3), .int 0, .int 0])), (a 1, .inl (y 0, 10, .inl (fun _ => 0))), (a 2, .inl (y 0, 10, .inl (fun _ => 0))), (a 3, .inl (y 0, 10, .inl (fun _ => 0)))]
def wIX1 (y : Nat → ClassId) (a : Nat → Nat) : va_W := [(a 0, .inr (1, [.ref (a 1), .int 0])), (a 1, .inr (0, [.ref (a 2), .ref (a 3), .ref (a 4), .int 0, .int 0])), (a 2, .inl (y 0, 10, .inl (fun _ => 0))), (a 3, .inl (y 0, 10, .inl (fun _ => 0))), (a 4, .inl (y 0, 10, .inl (fun _ => 0)))]
def wIX8 (y : Nat → ClassId) (a : Nat → Nat) : va_W := [(a 0, .inr (8, [.ref (a 1)])), (a 1, .inl (y 0, 14, .inl (va_cpy zz_first (fun _ => 0) 0 0 14)))]
def wIX6 (y : Nat → ClassId) (x1 : Int32) (a : Nat → Nat) : va_W := [(a 0, .inr (6, [.ref (a 1), .ref (a 2), .int x1])), (a 1, .inl (y 0, 24, .inl (fun k => if k < 24 then -1 else 0))), (a 2, .inl (y 0, 24, .inl (fun k => if k < 24 then x1 else 0)))]
def wIX3 (y : Nat → ClassId) (a : Nat → Nat) : va_W := [(a 0, .inr (3, [.ref (a 1), .ref (a 2), .ref (a 3), .ref (a 4), .int 0])), (a 1, .inl (y 0, 8, .inl (fun _ => 0))), (a 2, .inl (y 0, 8, .inl (fun _ => 0))), (a 3, .inl (y 0, 8, .inl (fun _ => 0))), (a 4, .inl (y 0, 8, .inl (fun _ => 0)))]
def wIX7 (y : Nat → ClassId) (a : Nat → Nat) : va_W := [(a 0, .inr (7, [.ref (a 1), .ref (a 2), .ref (a 3), .ref (a 4), .ref (a 5), .int 0])), (a 1, .inl (y 0, 6, .inl (fun _ => 0))), (a 2, .inl (y 0, 6, .inl (fun _ => 0))), (a 3, .inl (y 0, 6, .inl (fun _ => 0))), (a 4, .inl (y 0, 6, .inl (fun _ => 0))), (a 5, .inl (y 0, 6, .inl (fun _ => 0)))]
def wIX5 (y : Nat → ClassId) (a : Nat → Nat) : va_W := [(a 0, .inr (5, [.ref (a 1), .int 0])), (a 1, .inl (y 1, 5, .inr (.inl (fun _ => 0))))]
def wIX4 (y : Nat → ClassId) (a : Nat → Nat) : va_W := [(a 0, .inr (4, [.ref (a 1)])), (a 1, .inl (y 4, 15, .inr (.inr (.inr (.inr (fun j => some (a (2 + j)))))))), (a 2, .inl (y 1, 24, .inr (.inl (fun _ => 0)))), (a 3, .inl (y 1, 24, .inr (.inl (fun _ => 0)))), (a 4, .inl (y 1, 24, .inr (.inl (fun _ => 0)))), (a 5, .inl (y 1, 24, .inr (.inl (fun _ => 0)))), (a 6, .inl (y 1, 24, .inr (.inl (fun _ => 0)))), (a 7, .inl (y 1, 24, .inr (.inl (fun _ => 0)))), (a 8, .inl (y 1, 24, .inr (.inl (fun _ => 0)))), (a 9, .inl (y 1, 24, .inr (.inl (fun _ => 0)))), (a 10, .inl (y 1, 24, .inr (.inl (fun _ => 0)))), (a 11, .inl (y 1, 24, .inr (.inl (fun _ => 0)))), (a 12, .inl (y 1, 24, .inr (.inl (fun _ => 0)))), (a 13, .inl (y 1, 24, .inr (.inl (fun _ => 0)))), (a 14, .inl (y 1, 24, .inr (.inl (fun _ => 0)))), (a 15, .inl (y 1, 24, .inr (.inl (fun _ => 0)))), (a 16, .inl (y 1, 24, .inr (.inl (fun _ => 0))))]
theorem nX0_init_X0 : ∀ w ∈ wsX00, w ∈ wsX0_init := fun _ h => List.mem_cons_of_mem _ (List.mem_append_right _ (h))
theorem zdX0_init : yX0_init.cls ≠ "java/lang/invoke/MethodHandle" ∧ yX0_init.cls ≠ "java/lang/invoke/VarHandle" ∧ (parseMethodDescriptor yX0_init.desc).map (fun d => d.parameters.length) = some 0 := by decide +kernel
set_option maxHeartbeats 4000000 in
set_option maxRecDepth 100000 in
theorem zX0_init (l : Launch) (D : va_G) (y : Nat → ClassId) (h0 sz : Nat) : Met l yX0_init wsX0_init { frames := 1, cells := 3, slots := 30, locals := 24 } (zz_Pc D y [(h0, .inr (0, [.null, .null, .null, .int 0, .int 0]))] sz [.ref h0]) (va_Qv (fun a : Nat → Nat => a 0 = h0) (fun a t => va_P D vwCl (wIX0 y a) t.heap ∧ va_K D vwCl (zz_ty y) t ∧ va_D (va_A [(h0, .inr (0, [.null, .null, .null, .int 0, .int 0]))] sz) (wIX0 y a)) (va_A [(h0, .inr (0, [.null, .null, .null, .int 0, .int 0]))] sz)) 3 30 (va_A [(h0, .inr (0, [.null, .null, .null, .int 0, .int 0]))] sz) := by
  refine Met.ofW (cc := cX0_init) (maxL := 1) (ret := none) (by decide) rfl ?_
  intro p e s m args below meth c s₁ B hml hv
  obtain ⟨rfl, hsz, hP, hK, hD0, hN, hg⟩ := hv
  have hx := B.exec
  have hb := B.bytes
  have hr := B.returns
  have hts := atoms_spec (ws := wsX0_init) B.pre
  have hown : s.vm.findClass RX0 = some m.cls := findClass_of_methodNamed B.named
  have hlocks := B.notSynchronized
  have hin : meth.name = "<init>" := (name_of_methodNamed B.named B.method).1
  clear B
  subst hsz
  have hD := hD0.self (sz := s.heap.size)
  generalize hAe : va_A [(h0, .inr (0, [.null, .null, .null, .int 0, .int 0]))] s.heap.size = A at hD hg ⊢
  have hA : ∀ q : Nat, s.heap.size ≤ q → A q := fun q h => by rw [← hAe]; exact Or.inr h
  clear hAe hD0
  have hS : va_S A s.heap s.heap [] := va_S.rf
  have hl := lv_entry ([.ref h0]) (n := 1) (Nat.le_of_ble_eq_true rfl)
  rw [lg_entry_eq]
  generalize (lg_sl ([.ref h0]) ++ List.replicate (1 - (lg_sl ([.ref h0])).length) Slot.unset).toArray = ls at hl ⊢
  replace hl : lv_has ls 1 [(0, .ref h0)] := hl
  refine lv_aload_n hx hb dX0_init_0 rfl (lv_at hl 0 rfl) ?_
  refine W.objInit hx hb hown (hts (.methodLink RX0 3 objectInit) (List.mem_of_getElem? (i := 1) rfl)) (hts (.instanceMethod objectInit) (List.mem_of_getElem? (i := 2) rfl)) (hts (.code objectInit ⟨#[0xb1]⟩ 1 none) (List.mem_of_getElem? (i := 3) rfl)) rfl (by rw [hml]; exact hl.1) rfl dX0_init_1 (Nat.le_of_ble_eq_true rfl) (Nat.le_of_ble_eq_true rfl) ?_
  refine W.eq (g2 := F0 m 4 ls []) rfl ?_
  refine lv_aload_n hx hb dX0_init_4 rfl (lv_at hl 0 rfl) ?_
  refine lv_bipush (v := (10 : Int32)) hx hb dX0_init_5 (by decide) ?_
  refine zz_newI hx hb (hts (.arrayClass .int) (List.mem_of_getElem? (i := 4) rfl)) hK hP hD hS hA 10 (by decide) (by decide) (by decide) (Nat.le_of_ble_eq_true rfl) (Nat.le_of_ble_eq_true rfl) dX0_init_7 (fun q7 H hP hD hS => ?_)
  have hP : va_P D vwCl [(h0, .inr (0, [.null, .null, .null, .int 0, .int 0])), (q7, .inl (y 0, 10, .inl (fun _ => 0)))] H := hP
  have hD : va_D A [(h0, .inr (0, [.null, .null, .null, .int 0, .int 0])), (q7, .inl (y 0, 10, .inl (fun _ => 0)))] := hD
  refine va_putF (D := D) (ci := 0) (v := .ref q7) (ty := .array .int) (C := RX0) (T := TX0) (N := 5) hx hb hts nX0_init_X0 tyX0 tyX0_ok nmX0 hown hK hP hD hS 0 rfl rfl 0 (by decide) (hts (.fieldLink RX0 9 "WorksDesk$Bill" "kinds" "[I") (List.mem_of_getElem? (i := 5) rfl)) (fun _ h9 => h9) rfl hin rfl (tyX0_ok 0 (by decide)) rfl rfl (Nat.le_of_ble_eq_true rfl) dX0_init_9 (fun H locs hP hD hS => ?_)
  have hP : va_P D vwCl [(h0, .inr (0, [.ref q7, .null, .null, .int 0, .int 0])), (q7, .inl (y 0, 10, .inl (fun _ => 0)))] H := hP
  have hD : va_D A [(h0, .inr (0, [.ref q7, .null, .null, .int 0, .int 0])), (q7, .inl (y 0, 10, .inl (fun _ => 0)))] := hD
  refine lv_aload_n hx hb dX0_init_12 rfl (lv_at hl 0 rfl) ?_
  refine lv_bipush (v := (10 : Int32)) hx hb dX0_init_13 (by decide) ?_
  refine zz_newI hx hb (hts (.arrayClass .int) (List.mem_of_getElem? (i := 4) rfl)) hK hP hD hS hA 10 (by decide) (by decide) (by decide) (Nat.le_of_ble_eq_true rfl) (Nat.le_of_ble_eq_true rfl) dX0_init_15 (fun q15 H hP hD hS => ?_)
  have hP : va_P D vwCl [(h0, .inr (0, [.ref q7, .null, .null, .int 0, .int 0])), (q7, .inl (y 0, 10, .inl (fun _ => 0))), (q15, .inl (y 0, 10, .inl (fun _ => 0)))] H := hP
  have hD : va_D A [(h0, .inr (0, [.ref q7, .null, .null, .int 0, .int 0])), (q7, .inl (y 0, 10, .inl (fun _ => 0))), (q15, .inl (y 0, 10, .inl (fun _ => 0)))] := hD
  refine va_putF (D := D) (ci := 0) (v := .ref q15) (ty := .array .int) (C := RX0) (T := TX0) (N := 5) hx hb hts nX0_init_X0 tyX0 tyX0_ok nmX0 hown hK hP hD hS 0 rfl rfl 1 (by decide) (hts (.fieldLink RX0 15 "WorksDesk$Bill" "quantities" "[I") (List.mem_of_getElem? (i := 6) rfl)) (fun _ h9 => h9) rfl hin rfl (tyX0_ok 1 (by decide)) rfl rfl (Nat.le_of_ble_eq_true rfl) dX0_init_17 (fun H locs hP hD hS => ?_)
  have hP : va_P D vwCl [(h0, .inr (0, [.ref q7, .ref q15, .null, .int 0, .int 0])), (q7, .inl (y 0, 10, .inl (fun _ => 0))), (q15, .inl (y 0, 10, .inl (fun _ => 0)))] H := hP
  have hD : va_D A [(h0, .inr (0, [.ref q7, .ref q15, .null, .int 0, .int 0])), (q7, .inl (y 0, 10, .inl (fun _ => 0))), (q15, .inl (y 0, 10, .inl (fun _ => 0)))] := hD
  refine lv_aload_n hx hb dX0_init_20 rfl (lv_at hl 0 rfl) ?_
  refine lv_bipush (v := (10 : Int32)) hx hb dX0_init_21 (by decide) ?_
  refine zz_newI hx hb (hts (.arrayClass .int) (List.mem_of_getElem? (i := 4) rfl)) hK hP hD hS hA 10 (by decide) (by decide) (by decide) (Nat.le_of_ble_eq_true rfl) (Nat.le_of_ble_eq_true rfl) dX0_init_23 (fun q23 H hP hD hS => ?_)
  have hP : va_P D vwCl [(h0, .inr (0, [.ref q7, .ref q15, .null, .int 0, .int 0])), (q7, .inl (y 0, 10, .inl (fun _ => 0))), (q15, .inl (y 0, 10, .inl (fun _ => 0))), (q23, .inl (y 0, 10, .inl (fun _ => 0)))] H := hP
  have hD : va_D A [(h0, .inr (0, [.ref q7, .ref q15, .null, .int 0, .int 0])), (q7, .inl (y 0, 10, .inl (fun _ => 0))), (q15, .inl (y 0, 10, .inl (fun _ => 0))), (q23, .inl (y 0, 10, .inl (fun _ => 0)))] := hD
  refine va_putF (D := D) (ci := 0) (v := .ref q23) (ty := .array .int) (C := RX0) (T := TX0) (N := 5) hx hb hts nX0_init_X0 tyX0 tyX0_ok nmX0 hown hK hP hD hS 0 rfl rfl 2 (by decide) (hts (.fieldLink RX0 18 "WorksDesk$Bill" "rates" "[I") (List.mem_of_getElem? (i := 7) rfl)) (fun _ h9 => h9) rfl hin rfl (tyX0_ok 2 (by decide)) rfl rfl (Nat.le_of_ble_eq_true rfl) dX0_init_25 (fun H locs hP hD hS => ?_)
  have hP : va_P D vwCl [(h0, .inr (0, [.ref q7, .ref q15, .ref q23, .int 0, .int 0])), (q7, .inl (y 0, 10, .inl (fun _ => 0))), (q15, .inl (y 0, 10, .inl (fun _ => 0))), (q23, .inl (y 0, 10, .inl (fun _ => 0)))] H := hP
  have hD : va_D A [(h0, .inr (0, [.ref q7, .ref q15, .ref q23, .int 0, .int 0])), (q7, .inl (y 0, 10, .inl (fun _ => 0))), (q15, .inl (y 0, 10, .inl (fun _ => 0))), (q23, .inl (y 0, 10, .inl (fun _ => 0)))] := hD
  refine lv_aload_n hx hb dX0_init_28 rfl (lv_at hl 0 rfl) ?_
  refine lv_iconst (v := (0 : Int32)) hx hb dX0_init_29 (by decide) ?_
  refine va_put (D := D) (ci := 0) (v := .int (0 : Int32)) (ty := .int) (C := RX0) (T := TX0) (N := 5) hx hb hts nX0_init_X0 tyX0 tyX0_ok nmX0 hown hK hP hD hS 0 rfl rfl 3 (by decide) (hts (.fieldLink RX0 21 "WorksDesk$Bill" "size" "I") (List.mem_of_getElem? (i := 8) rfl)) (fun _ h9 => h9) rfl (tyX0_ok 3 (by decide)) rfl rfl (Nat.le_of_ble_eq_true rfl) dX0_init_30 (fun H locs hP hD hS => ?_)
  have hP : va_P D vwCl [(h0, .inr (0, [.ref q7, .ref q15, .ref q23, .int (0 : Int32), .int 0])), (q7, .inl (y 0, 10, .inl (fun _ => 0))), (q15, .inl (y 0, 10, .inl (fun _ => 0))), (q23, .inl (y 0, 10, .inl (fun _ => 0)))] H := hP
  have hD : va_D A [(h0, .inr (0, [.ref q7, .ref q15, .ref q23, .int (0 : Int32), .int 0])), (q7, .inl (y 0, 10, .inl (fun _ => 0))), (q15, .inl (y 0, 10, .inl (fun _ => 0))), (q23, .inl (y 0, 10, .inl (fun _ => 0)))] := hD
  refine lv_aload_n hx hb dX0_init_33 rfl (lv_at hl 0 rfl) ?_
  refine lv_iconst (v := (0 : Int32)) hx hb dX0_init_34 (by decide) ?_
  refine va_put (D := D) (ci := 0) (v := .int (0 : Int32)) (ty := .int) (C := RX0) (T := TX0) (N := 5) hx hb hts nX0_init_X0 tyX0 tyX0_ok nmX0 hown hK hP hD hS 0 rfl rfl 4 (by decide) (hts (.fieldLink RX0 25 "WorksDesk$Bill" "total" "I") (List.mem_of_getElem? (i := 9) rfl)) (fun _ h9 => h9) rfl (tyX0_ok 4 (by decide)) rfl rfl (Nat.le_of_ble_eq_true rfl) dX0_init_35 (fun H locs hP hD hS => ?_)
  have hP : va_P D vwCl [(h0, .inr (0, [.ref q7, .ref q15, .ref q23, .int (0 : Int32), .int (0 : Int32)])), (q7, .inl (y 0, 10, .inl (fun _ => 0))), (q15, .inl (y 0, 10, .inl (fun _ => 0))), (q23, .inl (y 0, 10, .inl (fun _ => 0)))] H := hP
  have hD : va_D A [(h0, .inr (0, [.ref q7, .ref q15, .ref q23, .int (0 : Int32), .int (0 : Int32)])), (q7, .inl (y 0, 10, .inl (fun _ => 0))), (q15, .inl (y 0, 10, .inl (fun _ => 0))), (q23, .inl (y 0, 10, .inl (fun _ => 0)))] := hD
  exact W.vret hx hb hr (fun t ht hW => ⟨⟨(fun k => [h0, q7, q15, q23].getD k 0), rfl, rfl, by rw [ht]; exact hP, va_K.moved hW.alike hK, hD⟩, hS.F ht⟩) hS.2.2 dX0_init_38
theorem nX9_init_X9 : ∀ w ∈ wsX90, w ∈ wsX9_init := fun _ h => List.mem_cons_of_mem _ (List.mem_append_right _ (h))
theorem zdX9_init : yX9_init.cls ≠ "java/lang/invoke/MethodHandle" ∧ yX9_init.cls ≠ "java/lang/invoke/VarHandle" ∧ (parseMethodDescriptor yX9_init.desc).map (fun d => d.parameters.length) = some 0 := by decide +kernel
set_option maxHeartbeats 4000000 in
set_option maxRecDepth 100000 in
theorem zX9_init (l : Launch) (D : va_G) (y : Nat → ClassId) (h0 sz : Nat) : Met l yX9_init wsX9_init { frames := 1, cells := 1, slots := 120, locals := 24 } (zz_Pc D y [(h0, .inr (9, [.null, .int 0]))] sz [.ref h0]) (va_Qv (fun a : Nat → Nat => a 0 = h0) (fun a t => va_P D vwCl (wIX9 y a) t.heap ∧ va_K D vwCl (zz_ty y) t ∧ va_D (va_A [(h0, .inr (9, [.null, .int 0]))] sz) (wIX9 y a)) (va_A [(h0, .inr (9, [.null, .int 0]))] sz)) 1 120 (va_A [(h0, .inr (9, [.null, .int 0]))] sz) := by
  refine Met.ofW (cc := cX9_init) (maxL := 1) (ret := none) (by decide) rfl ?_
  intro p e s m args below meth c s₁ B hml hv
  obtain ⟨rfl, hsz, hP, hK, hD0, hN, hg⟩ := hv
  have hx := B.exec
  have hb := B.bytes
  have hr := B.returns
  have hts := atoms_spec (ws := wsX9_init) B.pre
  have hown : s.vm.findClass RX9 = some m.cls := findClass_of_methodNamed B.named
  have hlocks := B.notSynchronized
  have hin : meth.name = "<init>" := (name_of_methodNamed B.named B.method).1
  clear B
  subst hsz
  have hD := hD0.self (sz := s.heap.size)
  generalize hAe : va_A [(h0, .inr (9, [.null, .int 0]))] s.heap.size = A at hD hg ⊢
  have hA : ∀ q : Nat, s.heap.size ≤ q → A q := fun q h => by rw [← hAe]; exact Or.inr h
  clear hAe hD0
  have hS : va_S A s.heap s.heap [] := va_S.rf
  have hl := lv_entry ([.ref h0]) (n := 1) (Nat.le_of_ble_eq_true rfl)
  rw [lg_entry_eq]
  generalize (lg_sl ([.ref h0]) ++ List.replicate (1 - (lg_sl ([.ref h0])).length) Slot.unset).toArray = ls at hl ⊢
  replace hl : lv_has ls 1 [(0, .ref h0)] := hl
  refine lv_aload_n hx hb dX9_init_0 rfl (lv_at hl 0 rfl) ?_
  refine W.objInit hx hb hown (hts (.methodLink RX9 3 objectInit) (List.mem_of_getElem? (i := 1) rfl)) (hts (.instanceMethod objectInit) (List.mem_of_getElem? (i := 2) rfl)) (hts (.code objectInit ⟨#[0xb1]⟩ 1 none) (List.mem_of_getElem? (i := 3) rfl)) rfl (by rw [hml]; exact hl.1) rfl dX9_init_1 (Nat.le_of_ble_eq_true rfl) (Nat.le_of_ble_eq_true rfl) ?_
  refine W.eq (g2 := F0 m 4 ls []) rfl ?_
  refine lv_aload_n hx hb dX9_init_4 rfl (lv_at hl 0 rfl) ?_
  refine lv_bipush (v := (120 : Int32)) hx hb dX9_init_5 (by decide) ?_
  refine zz_newI hx hb (hts (.arrayClass .int) (List.mem_of_getElem? (i := 4) rfl)) hK hP hD hS hA 120 (by decide) (by decide) (by decide) (Nat.le_of_ble_eq_true rfl) (Nat.le_of_ble_eq_true rfl) dX9_init_7 (fun q7 H hP hD hS => ?_)
  have hP : va_P D vwCl [(h0, .inr (9, [.null, .int 0])), (q7, .inl (y 0, 120, .inl (fun _ => 0)))] H := hP
  have hD : va_D A [(h0, .inr (9, [.null, .int 0])), (q7, .inl (y 0, 120, .inl (fun _ => 0)))] := hD
  refine va_putF (D := D) (ci := 9) (v := .ref q7) (ty := .array .int) (C := RX9) (T := TX9) (N := 2) hx hb hts nX9_init_X9 tyX9 tyX9_ok nmX9 hown hK hP hD hS 0 rfl rfl 0 (by decide) (hts (.fieldLink RX9 9 "WorksDesk$Text" "signs" "[I") (List.mem_of_getElem? (i := 5) rfl)) (fun _ h9 => h9) rfl hin rfl (tyX9_ok 0 (by decide)) rfl rfl (Nat.le_of_ble_eq_true rfl) dX9_init_9 (fun H locs hP hD hS => ?_)
  have hP : va_P D vwCl [(h0, .inr (9, [.ref q7, .int 0])), (q7, .inl (y 0, 120, .inl (fun _ => 0)))] H := hP
  have hD : va_D A [(h0, .inr (9, [.ref q7, .int 0])), (q7, .inl (y 0, 120, .inl (fun _ => 0)))] := hD
  refine lv_aload_n hx hb dX9_init_12 rfl (lv_at hl 0 rfl) ?_
  refine lv_iconst (v := (0 : Int32)) hx hb dX9_init_13 (by decide) ?_
  refine va_put (D := D) (ci := 9) (v := .int (0 : Int32)) (ty := .int) (C := RX9) (T := TX9) (N := 2) hx hb hts nX9_init_X9 tyX9 tyX9_ok nmX9 hown hK hP hD hS 0 rfl rfl 1 (by decide) (hts (.fieldLink RX9 15 "WorksDesk$Text" "size" "I") (List.mem_of_getElem? (i := 6) rfl)) (fun _ h9 => h9) rfl (tyX9_ok 1 (by decide)) rfl rfl (Nat.le_of_ble_eq_true rfl) dX9_init_14 (fun H locs hP hD hS => ?_)
  have hP : va_P D vwCl [(h0, .inr (9, [.ref q7, .int (0 : Int32)])), (q7, .inl (y 0, 120, .inl (fun _ => 0)))] H := hP
  have hD : va_D A [(h0, .inr (9, [.ref q7, .int (0 : Int32)])), (q7, .inl (y 0, 120, .inl (fun _ => 0)))] := hD
  exact W.vret hx hb hr (fun t ht hW => ⟨⟨(fun k => [h0, q7].getD k 0), rfl, rfl, by rw [ht]; exact hP, va_K.moved hW.alike hK, hD⟩, hS.F ht⟩) hS.2.2 dX9_init_17
theorem nX3_init_X3 : ∀ w ∈ wsX30, w ∈ wsX3_init := fun _ h => List.mem_cons_of_mem _ (List.mem_append_right _ (h))
theorem zdX3_init : yX3_init.cls ≠ "java/lang/invoke/MethodHandle" ∧ yX3_init.cls ≠ "java/lang/invoke/VarHandle" ∧ (parseMethodDescriptor yX3_init.desc).map (fun d => d.parameters.length) = some 0 := by decide +kernel
set_option maxHeartbeats 4000000 in
set_option maxRecDepth 100000 in
theorem zX3_init (l : Launch) (D : va_G) (y : Nat → ClassId) (h0 sz : Nat) : Met l yX3_init wsX3_init { frames := 1, cells := 4, slots := 32, locals := 24 } (zz_Pc D y [(h0, .inr (3, [.null, .null, .null, .null, .int 0]))] sz [.ref h0]) (va_Qv (fun a : Nat → Nat => a 0 = h0) (fun a t => va_P D vwCl (wIX3 y a) t.heap ∧ va_K D vwCl (zz_ty y) t ∧ va_D (va_A [(h0, .inr (3, [.null, .null, .null, .null, .int 0]))] sz) (wIX3 y a)) (va_A [(h0, .inr (3, [.null, .null, .null, .null, .int 0]))] sz)) 4 32 (va_A [(h0, .inr (3, [.null, .null, .null, .null, .int 0]))] sz) := by
  refine Met.ofW (cc := cX3_init) (maxL := 1) (ret := none) (by decide) rfl ?_
  intro p e s m args below meth c s₁ B hml hv
  obtain ⟨rfl, hsz, hP, hK, hD0, hN, hg⟩ := hv
  have hx := B.exec
  have hb := B.bytes
  have hr := B.returns
  have hts := atoms_spec (ws := wsX3_init) B.pre
  have hown : s.vm.findClass RX3 = some m.cls := findClass_of_methodNamed B.named
  have hlocks := B.notSynchronized
  have hin : meth.name = "<init>" := (name_of_methodNamed B.named B.method).1
  clear B
  subst hsz
  have hD := hD0.self (sz := s.heap.size)
  generalize hAe : va_A [(h0, .inr (3, [.null, .null, .null, .null, .int 0]))] s.heap.size = A at hD hg ⊢
  have hA : ∀ q : Nat, s.heap.size ≤ q → A q := fun q h => by rw [← hAe]; exact Or.inr h
  clear hAe hD0
  have hS : va_S A s.heap s.heap [] := va_S.rf
  have hl := lv_entry ([.ref h0]) (n := 1) (Nat.le_of_ble_eq_true rfl)
  rw [lg_entry_eq]
  generalize (lg_sl ([.ref h0]) ++ List.replicate (1 - (lg_sl ([.ref h0])).length) Slot.unset).toArray = ls at hl ⊢
  replace hl : lv_has ls 1 [(0, .ref h0)] := hl
  refine lv_aload_n hx hb dX3_init_0 rfl (lv_at hl 0 rfl) ?_
  refine W.objInit hx hb hown (hts (.methodLink RX3 3 objectInit) (List.mem_of_getElem? (i := 1) rfl)) (hts (.instanceMethod objectInit) (List.mem_of_getElem? (i := 2) rfl)) (hts (.code objectInit ⟨#[0xb1]⟩ 1 none) (List.mem_of_getElem? (i := 3) rfl)) rfl (by rw [hml]; exact hl.1) rfl dX3_init_1 (Nat.le_of_ble_eq_true rfl) (Nat.le_of_ble_eq_true rfl) ?_
  refine W.eq (g2 := F0 m 4 ls []) rfl ?_
  refine lv_aload_n hx hb dX3_init_4 rfl (lv_at hl 0 rfl) ?_
  refine lv_bipush (v := (8 : Int32)) hx hb dX3_init_5 (by decide) ?_
  refine zz_newI hx hb (hts (.arrayClass .int) (List.mem_of_getElem? (i := 4) rfl)) hK hP hD hS hA 8 (by decide) (by decide) (by decide) (Nat.le_of_ble_eq_true rfl) (Nat.le_of_ble_eq_true rfl) dX3_init_7 (fun q7 H hP hD hS => ?_)
  have hP : va_P D vwCl [(h0, .inr (3, [.null, .null, .null, .null, .int 0])), (q7, .inl (y 0, 8, .inl (fun _ => 0)))] H := hP
  have hD : va_D A [(h0, .inr (3, [.null, .null, .null, .null, .int 0])), (q7, .inl (y 0, 8, .inl (fun _ => 0)))] := hD
  refine va_putF (D := D) (ci := 3) (v := .ref q7) (ty := .array .int) (C := RX3) (T := TX3) (N := 5) hx hb hts nX3_init_X3 tyX3 tyX3_ok nmX3 hown hK hP hD hS 0 rfl rfl 0 (by decide) (hts (.fieldLink RX3 9 "WorksDesk$Changes" "months" "[I") (List.mem_of_getElem? (i := 5) rfl)) (fun _ h9 => h9) rfl hin rfl (tyX3_ok 0 (by decide)) rfl rfl (Nat.le_of_ble_eq_true rfl) dX3_init_9 (fun H locs hP hD hS => ?_)
  have hP : va_P D vwCl [(h0, .inr (3, [.ref q7, .null, .null, .null, .int 0])), (q7, .inl (y 0, 8, .inl (fun _ => 0)))] H := hP
  have hD : va_D A [(h0, .inr (3, [.ref q7, .null, .null, .null, .int 0])), (q7, .inl (y 0, 8, .inl (fun _ => 0)))] := hD
  refine lv_aload_n hx hb dX3_init_12 rfl (lv_at hl 0 rfl) ?_
  refine lv_bipush (v := (8 : Int32)) hx hb dX3_init_13 (by decide) ?_
  refine zz_newI hx hb (hts (.arrayClass .int) (List.mem_of_getElem? (i := 4) rfl)) hK hP hD hS hA 8 (by decide) (by decide) (by decide) (Nat.le_of_ble_eq_true rfl) (Nat.le_of_ble_eq_true rfl) dX3_init_15 (fun q15 H hP hD hS => ?_)
  have hP : va_P D vwCl [(h0, .inr (3, [.ref q7, .null, .null, .null, .int 0])), (q7, .inl (y 0, 8, .inl (fun _ => 0))), (q15, .inl (y 0, 8, .inl (fun _ => 0)))] H := hP
  have hD : va_D A [(h0, .inr (3, [.ref q7, .null, .null, .null, .int 0])), (q7, .inl (y 0, 8, .inl (fun _ => 0))), (q15, .inl (y 0, 8, .inl (fun _ => 0)))] := hD
  refine va_putF (D := D) (ci := 3) (v := .ref q15) (ty := .array .int) (C := RX3) (T := TX3) (N := 5) hx hb hts nX3_init_X3 tyX3 tyX3_ok nmX3 hown hK hP hD hS 0 rfl rfl 1 (by decide) (hts (.fieldLink RX3 15 "WorksDesk$Changes" "kinds" "[I") (List.mem_of_getElem? (i := 6) rfl)) (fun _ h9 => h9) rfl hin rfl (tyX3_ok 1 (by decide)) rfl rfl (Nat.le_of_ble_eq_true rfl) dX3_init_17 (fun H locs hP hD hS => ?_)
  have hP : va_P D vwCl [(h0, .inr (3, [.ref q7, .ref q15, .null, .null, .int 0])), (q7, .inl (y 0, 8, .inl (fun _ => 0))), (q15, .inl (y 0, 8, .inl (fun _ => 0)))] H := hP
  have hD : va_D A [(h0, .inr (3, [.ref q7, .ref q15, .null, .null, .int 0])), (q7, .inl (y 0, 8, .inl (fun _ => 0))), (q15, .inl (y 0, 8, .inl (fun _ => 0)))] := hD
  refine lv_aload_n hx hb dX3_init_20 rfl (lv_at hl 0 rfl) ?_
  refine lv_bipush (v := (8 : Int32)) hx hb dX3_init_21 (by decide) ?_
  refine zz_newI hx hb (hts (.arrayClass .int) (List.mem_of_getElem? (i := 4) rfl)) hK hP hD hS hA 8 (by decide) (by decide) (by decide) (Nat.le_of_ble_eq_true rfl) (Nat.le_of_ble_eq_true rfl) dX3_init_23 (fun q23 H hP hD hS => ?_)
  have hP : va_P D vwCl [(h0, .inr (3, [.ref q7, .ref q15, .null, .null, .int 0])), (q7, .inl (y 0, 8, .inl (fun _ => 0))), (q15, .inl (y 0, 8, .inl (fun _ => 0))), (q23, .inl (y 0, 8, .inl (fun _ => 0)))] H := hP
  have hD : va_D A [(h0, .inr (3, [.ref q7, .ref q15, .null, .null, .int 0])), (q7, .inl (y 0, 8, .inl (fun _ => 0))), (q15, .inl (y 0, 8, .inl (fun _ => 0))), (q23, .inl (y 0, 8, .inl (fun _ => 0)))] := hD
  refine va_putF (D := D) (ci := 3) (v := .ref q23) (ty := .array .int) (C := RX3) (T := TX3) (N := 5) hx hb hts nX3_init_X3 tyX3 tyX3_ok nmX3 hown hK hP hD hS 0 rfl rfl 2 (by decide) (hts (.fieldLink RX3 18 "WorksDesk$Changes" "quantities" "[I") (List.mem_of_getElem? (i := 7) rfl)) (fun _ h9 => h9) rfl hin rfl (tyX3_ok 2 (by decide)) rfl rfl (Nat.le_of_ble_eq_true rfl) dX3_init_25 (fun H locs hP hD hS => ?_)
  have hP : va_P D vwCl [(h0, .inr (3, [.ref q7, .ref q15, .ref q23, .null, .int 0])), (q7, .inl (y 0, 8, .inl (fun _ => 0))), (q15, .inl (y 0, 8, .inl (fun _ => 0))), (q23, .inl (y 0, 8, .inl (fun _ => 0)))] H := hP
  have hD : va_D A [(h0, .inr (3, [.ref q7, .ref q15, .ref q23, .null, .int 0])), (q7, .inl (y 0, 8, .inl (fun _ => 0))), (q15, .inl (y 0, 8, .inl (fun _ => 0))), (q23, .inl (y 0, 8, .inl (fun _ => 0)))] := hD
  refine lv_aload_n hx hb dX3_init_28 rfl (lv_at hl 0 rfl) ?_
  refine lv_bipush (v := (8 : Int32)) hx hb dX3_init_29 (by decide) ?_
  refine zz_newI hx hb (hts (.arrayClass .int) (List.mem_of_getElem? (i := 4) rfl)) hK hP hD hS hA 8 (by decide) (by decide) (by decide) (Nat.le_of_ble_eq_true rfl) (Nat.le_of_ble_eq_true rfl) dX3_init_31 (fun q31 H hP hD hS => ?_)
  have hP : va_P D vwCl [(h0, .inr (3, [.ref q7, .ref q15, .ref q23, .null, .int 0])), (q7, .inl (y 0, 8, .inl (fun _ => 0))), (q15, .inl (y 0, 8, .inl (fun _ => 0))), (q23, .inl (y 0, 8, .inl (fun _ => 0))), (q31, .inl (y 0, 8, .inl (fun _ => 0)))] H := hP
  have hD : va_D A [(h0, .inr (3, [.ref q7, .ref q15, .ref q23, .null, .int 0])), (q7, .inl (y 0, 8, .inl (fun _ => 0))), (q15, .inl (y 0, 8, .inl (fun _ => 0))), (q23, .inl (y 0, 8, .inl (fun _ => 0))), (q31, .inl (y 0, 8, .inl (fun _ => 0)))] := hD
  refine va_putF (D := D) (ci := 3) (v := .ref q31) (ty := .array .int) (C := RX3) (T := TX3) (N := 5) hx hb hts nX3_init_X3 tyX3 tyX3_ok nmX3 hown hK hP hD hS 0 rfl rfl 3 (by decide) (hts (.fieldLink RX3 21 "WorksDesk$Changes" "prices" "[I") (List.mem_of_getElem? (i := 8) rfl)) (fun _ h9 => h9) rfl hin rfl (tyX3_ok 3 (by decide)) rfl rfl (Nat.le_of_ble_eq_true rfl) dX3_init_33 (fun H locs hP hD hS => ?_)
  have hP : va_P D vwCl [(h0, .inr (3, [.ref q7, .ref q15, .ref q23, .ref q31, .int 0])), (q7, .inl (y 0, 8, .inl (fun _ => 0))), (q15, .inl (y 0, 8, .inl (fun _ => 0))), (q23, .inl (y 0, 8, .inl (fun _ => 0))), (q31, .inl (y 0, 8, .inl (fun _ => 0)))] H := hP
  have hD : va_D A [(h0, .inr (3, [.ref q7, .ref q15, .ref q23, .ref q31, .int 0])), (q7, .inl (y 0, 8, .inl (fun _ => 0))), (q15, .inl (y 0, 8, .inl (fun _ => 0))), (q23, .inl (y 0, 8, .inl (fun _ => 0))), (q31, .inl (y 0, 8, .inl (fun _ => 0)))] := hD
  refine lv_aload_n hx hb dX3_init_36 rfl (lv_at hl 0 rfl) ?_
  refine lv_iconst (v := (0 : Int32)) hx hb dX3_init_37 (by decide) ?_
  refine va_put (D := D) (ci := 3) (v := .int (0 : Int32)) (ty := .int) (C := RX3) (T := TX3) (N := 5) hx hb hts nX3_init_X3 tyX3 tyX3_ok nmX3 hown hK hP hD hS 0 rfl rfl 4 (by decide) (hts (.fieldLink RX3 24 "WorksDesk$Changes" "size" "I") (List.mem_of_getElem? (i := 9) rfl)) (fun _ h9 => h9) rfl (tyX3_ok 4 (by decide)) rfl rfl (Nat.le_of_ble_eq_true rfl) dX3_init_38 (fun H locs hP hD hS => ?_)
  have hP : va_P D vwCl [(h0, .inr (3, [.ref q7, .ref q15, .ref q23, .ref q31, .int (0 : Int32)])), (q7, .inl (y 0, 8, .inl (fun _ => 0))), (q15, .inl (y 0, 8, .inl (fun _ => 0))), (q23, .inl (y 0, 8, .inl (fun _ => 0))), (q31, .inl (y 0, 8, .inl (fun _ => 0)))] H := hP
  have hD : va_D A [(h0, .inr (3, [.ref q7, .ref q15, .ref q23, .ref q31, .int (0 : Int32)])), (q7, .inl (y 0, 8, .inl (fun _ => 0))), (q15, .inl (y 0, 8, .inl (fun _ => 0))), (q23, .inl (y 0, 8, .inl (fun _ => 0))), (q31, .inl (y 0, 8, .inl (fun _ => 0)))] := hD
  exact W.vret hx hb hr (fun t ht hW => ⟨⟨(fun k => [h0, q7, q15, q23, q31].getD k 0), rfl, rfl, by rw [ht]; exact hP, va_K.moved hW.alike hK, hD⟩, hS.F ht⟩) hS.2.2 dX3_init_41
theorem nX7_init_X7 : ∀ w ∈ wsX70, w ∈ wsX7_init := fun _ h => List.mem_cons_of_mem _ (List.mem_append_right _ (h))
theorem zdX7_init : yX7_init.cls ≠ "java/lang/invoke/MethodHandle" ∧ yX7_init.cls ≠ "java/lang/invoke/VarHandle" ∧ (parseMethodDescriptor yX7_init.desc).map (fun d => d.parameters.length) = some 0 := by decide +kernel
set_option maxHeartbeats 4000000 in
set_option maxRecDepth 100000 in
theorem zX7_init (l : Launch) (D : va_G) (y : Nat → ClassId) (h0 sz : Nat) : Met l yX7_init wsX7_init { frames := 1, cells := 5, slots := 30, locals := 24 } (zz_Pc D y [(h0, .inr (7, [.null, .null, .null, .null, .null, .int 0]))] sz [.ref h0]) (va_Qv (fun a : Nat → Nat => a 0 = h0) (fun a t => va_P D vwCl (wIX7 y a) t.heap ∧ va_K D vwCl (zz_ty y) t ∧ va_D (va_A [(h0, .inr (7, [.null, .null, .null, .null, .null, .int 0]))] sz) (wIX7 y a)) (va_A [(h0, .inr (7, [.null, .null, .null, .null, .null, .int 0]))] sz)) 5 30 (va_A [(h0, .inr (7, [.null, .null, .null, .null, .null, .int 0]))] sz) := by
  refine Met.ofW (cc := cX7_init) (maxL := 1) (ret := none) (by decide) rfl ?_
  intro p e s m args below meth c s₁ B hml hv
  obtain ⟨rfl, hsz, hP, hK, hD0, hN, hg⟩ := hv
  have hx := B.exec
  have hb := B.bytes
  have hr := B.returns
  have hts := atoms_spec (ws := wsX7_init) B.pre
  have hown : s.vm.findClass RX7 = some m.cls := findClass_of_methodNamed B.named
  have hlocks := B.notSynchronized
  have hin : meth.name = "<init>" := (name_of_methodNamed B.named B.method).1
  clear B
  subst hsz
  have hD := hD0.self (sz := s.heap.size)
  generalize hAe : va_A [(h0, .inr (7, [.null, .null, .null, .null, .null, .int 0]))] s.heap.size = A at hD hg ⊢
  have hA : ∀ q : Nat, s.heap.size ≤ q → A q := fun q h => by rw [← hAe]; exact Or.inr h
  clear hAe hD0
  have hS : va_S A s.heap s.heap [] := va_S.rf
  have hl := lv_entry ([.ref h0]) (n := 1) (Nat.le_of_ble_eq_true rfl)
  rw [lg_entry_eq]
  generalize (lg_sl ([.ref h0]) ++ List.replicate (1 - (lg_sl ([.ref h0])).length) Slot.unset).toArray = ls at hl ⊢
  replace hl : lv_has ls 1 [(0, .ref h0)] := hl
  refine lv_aload_n hx hb dX7_init_0 rfl (lv_at hl 0 rfl) ?_
  refine W.objInit hx hb hown (hts (.methodLink RX7 3 objectInit) (List.mem_of_getElem? (i := 1) rfl)) (hts (.instanceMethod objectInit) (List.mem_of_getElem? (i := 2) rfl)) (hts (.code objectInit ⟨#[0xb1]⟩ 1 none) (List.mem_of_getElem? (i := 3) rfl)) rfl (by rw [hml]; exact hl.1) rfl dX7_init_1 (Nat.le_of_ble_eq_true rfl) (Nat.le_of_ble_eq_true rfl) ?_
  refine W.eq (g2 := F0 m 4 ls []) rfl ?_
  refine lv_aload_n hx hb dX7_init_4 rfl (lv_at hl 0 rfl) ?_
  refine lv_bipush (v := (6 : Int32)) hx hb dX7_init_5 (by decide) ?_
  refine zz_newI hx hb (hts (.arrayClass .int) (List.mem_of_getElem? (i := 4) rfl)) hK hP hD hS hA 6 (by decide) (by decide) (by decide) (Nat.le_of_ble_eq_true rfl) (Nat.le_of_ble_eq_true rfl) dX7_init_7 (fun q7 H hP hD hS => ?_)
  have hP : va_P D vwCl [(h0, .inr (7, [.null, .null, .null, .null, .null, .int 0])), (q7, .inl (y 0, 6, .inl (fun _ => 0)))] H := hP
  have hD : va_D A [(h0, .inr (7, [.null, .null, .null, .null, .null, .int 0])), (q7, .inl (y 0, 6, .inl (fun _ => 0)))] := hD
  refine va_putF (D := D) (ci := 7) (v := .ref q7) (ty := .array .int) (C := RX7) (T := TX7) (N := 6) hx hb hts nX7_init_X7 tyX7 tyX7_ok nmX7 hown hK hP hD hS 0 rfl rfl 0 (by decide) (hts (.fieldLink RX7 9 "WorksDesk$SetOffs" "months" "[I") (List.mem_of_getElem? (i := 5) rfl)) (fun _ h9 => h9) rfl hin rfl (tyX7_ok 0 (by decide)) rfl rfl (Nat.le_of_ble_eq_true rfl) dX7_init_9 (fun H locs hP hD hS => ?_)
  have hP : va_P D vwCl [(h0, .inr (7, [.ref q7, .null, .null, .null, .null, .int 0])), (q7, .inl (y 0, 6, .inl (fun _ => 0)))] H := hP
  have hD : va_D A [(h0, .inr (7, [.ref q7, .null, .null, .null, .null, .int 0])), (q7, .inl (y 0, 6, .inl (fun _ => 0)))] := hD
  refine lv_aload_n hx hb dX7_init_12 rfl (lv_at hl 0 rfl) ?_
  refine lv_bipush (v := (6 : Int32)) hx hb dX7_init_13 (by decide) ?_
  refine zz_newI hx hb (hts (.arrayClass .int) (List.mem_of_getElem? (i := 4) rfl)) hK hP hD hS hA 6 (by decide) (by decide) (by decide) (Nat.le_of_ble_eq_true rfl) (Nat.le_of_ble_eq_true rfl) dX7_init_15 (fun q15 H hP hD hS => ?_)
  have hP : va_P D vwCl [(h0, .inr (7, [.ref q7, .null, .null, .null, .null, .int 0])), (q7, .inl (y 0, 6, .inl (fun _ => 0))), (q15, .inl (y 0, 6, .inl (fun _ => 0)))] H := hP
  have hD : va_D A [(h0, .inr (7, [.ref q7, .null, .null, .null, .null, .int 0])), (q7, .inl (y 0, 6, .inl (fun _ => 0))), (q15, .inl (y 0, 6, .inl (fun _ => 0)))] := hD
  refine va_putF (D := D) (ci := 7) (v := .ref q15) (ty := .array .int) (C := RX7) (T := TX7) (N := 6) hx hb hts nX7_init_X7 tyX7 tyX7_ok nmX7 hown hK hP hD hS 0 rfl rfl 1 (by decide) (hts (.fieldLink RX7 15 "WorksDesk$SetOffs" "amounts" "[I") (List.mem_of_getElem? (i := 6) rfl)) (fun _ h9 => h9) rfl hin rfl (tyX7_ok 1 (by decide)) rfl rfl (Nat.le_of_ble_eq_true rfl) dX7_init_17 (fun H locs hP hD hS => ?_)
  have hP : va_P D vwCl [(h0, .inr (7, [.ref q7, .ref q15, .null, .null, .null, .int 0])), (q7, .inl (y 0, 6, .inl (fun _ => 0))), (q15, .inl (y 0, 6, .inl (fun _ => 0)))] H := hP
  have hD : va_D A [(h0, .inr (7, [.ref q7, .ref q15, .null, .null, .null, .int 0])), (q7, .inl (y 0, 6, .inl (fun _ => 0))), (q15, .inl (y 0, 6, .inl (fun _ => 0)))] := hD
  refine lv_aload_n hx hb dX7_init_20 rfl (lv_at hl 0 rfl) ?_
  refine lv_bipush (v := (6 : Int32)) hx hb dX7_init_21 (by decide) ?_
  refine zz_newI hx hb (hts (.arrayClass .int) (List.mem_of_getElem? (i := 4) rfl)) hK hP hD hS hA 6 (by decide) (by decide) (by decide) (Nat.le_of_ble_eq_true rfl) (Nat.le_of_ble_eq_true rfl) dX7_init_23 (fun q23 H hP hD hS => ?_)
  have hP : va_P D vwCl [(h0, .inr (7, [.ref q7, .ref q15, .null, .null, .null, .int 0])), (q7, .inl (y 0, 6, .inl (fun _ => 0))), (q15, .inl (y 0, 6, .inl (fun _ => 0))), (q23, .inl (y 0, 6, .inl (fun _ => 0)))] H := hP
  have hD : va_D A [(h0, .inr (7, [.ref q7, .ref q15, .null, .null, .null, .int 0])), (q7, .inl (y 0, 6, .inl (fun _ => 0))), (q15, .inl (y 0, 6, .inl (fun _ => 0))), (q23, .inl (y 0, 6, .inl (fun _ => 0)))] := hD
  refine va_putF (D := D) (ci := 7) (v := .ref q23) (ty := .array .int) (C := RX7) (T := TX7) (N := 6) hx hb hts nX7_init_X7 tyX7 tyX7_ok nmX7 hown hK hP hD hS 0 rfl rfl 2 (by decide) (hts (.fieldLink RX7 18 "WorksDesk$SetOffs" "disputed" "[I") (List.mem_of_getElem? (i := 7) rfl)) (fun _ h9 => h9) rfl hin rfl (tyX7_ok 2 (by decide)) rfl rfl (Nat.le_of_ble_eq_true rfl) dX7_init_25 (fun H locs hP hD hS => ?_)
  have hP : va_P D vwCl [(h0, .inr (7, [.ref q7, .ref q15, .ref q23, .null, .null, .int 0])), (q7, .inl (y 0, 6, .inl (fun _ => 0))), (q15, .inl (y 0, 6, .inl (fun _ => 0))), (q23, .inl (y 0, 6, .inl (fun _ => 0)))] H := hP
  have hD : va_D A [(h0, .inr (7, [.ref q7, .ref q15, .ref q23, .null, .null, .int 0])), (q7, .inl (y 0, 6, .inl (fun _ => 0))), (q15, .inl (y 0, 6, .inl (fun _ => 0))), (q23, .inl (y 0, 6, .inl (fun _ => 0)))] := hD
  refine lv_aload_n hx hb dX7_init_28 rfl (lv_at hl 0 rfl) ?_
  refine lv_bipush (v := (6 : Int32)) hx hb dX7_init_29 (by decide) ?_
  refine zz_newI hx hb (hts (.arrayClass .int) (List.mem_of_getElem? (i := 4) rfl)) hK hP hD hS hA 6 (by decide) (by decide) (by decide) (Nat.le_of_ble_eq_true rfl) (Nat.le_of_ble_eq_true rfl) dX7_init_31 (fun q31 H hP hD hS => ?_)
  have hP : va_P D vwCl [(h0, .inr (7, [.ref q7, .ref q15, .ref q23, .null, .null, .int 0])), (q7, .inl (y 0, 6, .inl (fun _ => 0))), (q15, .inl (y 0, 6, .inl (fun _ => 0))), (q23, .inl (y 0, 6, .inl (fun _ => 0))), (q31, .inl (y 0, 6, .inl (fun _ => 0)))] H := hP
  have hD : va_D A [(h0, .inr (7, [.ref q7, .ref q15, .ref q23, .null, .null, .int 0])), (q7, .inl (y 0, 6, .inl (fun _ => 0))), (q15, .inl (y 0, 6, .inl (fun _ => 0))), (q23, .inl (y 0, 6, .inl (fun _ => 0))), (q31, .inl (y 0, 6, .inl (fun _ => 0)))] := hD
  refine va_putF (D := D) (ci := 7) (v := .ref q31) (ty := .array .int) (C := RX7) (T := TX7) (N := 6) hx hb hts nX7_init_X7 tyX7 tyX7_ok nmX7 hown hK hP hD hS 0 rfl rfl 3 (by decide) (hts (.fieldLink RX7 21 "WorksDesk$SetOffs" "decided" "[I") (List.mem_of_getElem? (i := 8) rfl)) (fun _ h9 => h9) rfl hin rfl (tyX7_ok 3 (by decide)) rfl rfl (Nat.le_of_ble_eq_true rfl) dX7_init_33 (fun H locs hP hD hS => ?_)
  have hP : va_P D vwCl [(h0, .inr (7, [.ref q7, .ref q15, .ref q23, .ref q31, .null, .int 0])), (q7, .inl (y 0, 6, .inl (fun _ => 0))), (q15, .inl (y 0, 6, .inl (fun _ => 0))), (q23, .inl (y 0, 6, .inl (fun _ => 0))), (q31, .inl (y 0, 6, .inl (fun _ => 0)))] H := hP
  have hD : va_D A [(h0, .inr (7, [.ref q7, .ref q15, .ref q23, .ref q31, .null, .int 0])), (q7, .inl (y 0, 6, .inl (fun _ => 0))), (q15, .inl (y 0, 6, .inl (fun _ => 0))), (q23, .inl (y 0, 6, .inl (fun _ => 0))), (q31, .inl (y 0, 6, .inl (fun _ => 0)))] := hD
  refine lv_aload_n hx hb dX7_init_36 rfl (lv_at hl 0 rfl) ?_
  refine lv_bipush (v := (6 : Int32)) hx hb dX7_init_37 (by decide) ?_
  refine zz_newI hx hb (hts (.arrayClass .int) (List.mem_of_getElem? (i := 4) rfl)) hK hP hD hS hA 6 (by decide) (by decide) (by decide) (Nat.le_of_ble_eq_true rfl) (Nat.le_of_ble_eq_true rfl) dX7_init_39 (fun q39 H hP hD hS => ?_)
  have hP : va_P D vwCl [(h0, .inr (7, [.ref q7, .ref q15, .ref q23, .ref q31, .null, .int 0])), (q7, .inl (y 0, 6, .inl (fun _ => 0))), (q15, .inl (y 0, 6, .inl (fun _ => 0))), (q23, .inl (y 0, 6, .inl (fun _ => 0))), (q31, .inl (y 0, 6, .inl (fun _ => 0))), (q39, .inl (y 0, 6, .inl (fun _ => 0)))] H := hP
  have hD : va_D A [(h0, .inr (7, [.ref q7, .ref q15, .ref q23, .ref q31, .null, .int 0])), (q7, .inl (y 0, 6, .inl (fun _ => 0))), (q15, .inl (y 0, 6, .inl (fun _ => 0))), (q23, .inl (y 0, 6, .inl (fun _ => 0))), (q31, .inl (y 0, 6, .inl (fun _ => 0))), (q39, .inl (y 0, 6, .inl (fun _ => 0)))] := hD
  refine va_putF (D := D) (ci := 7) (v := .ref q39) (ty := .array .int) (C := RX7) (T := TX7) (N := 6) hx hb hts nX7_init_X7 tyX7 tyX7_ok nmX7 hown hK hP hD hS 0 rfl rfl 4 (by decide) (hts (.fieldLink RX7 24 "WorksDesk$SetOffs" "upheld" "[I") (List.mem_of_getElem? (i := 9) rfl)) (fun _ h9 => h9) rfl hin rfl (tyX7_ok 4 (by decide)) rfl rfl (Nat.le_of_ble_eq_true rfl) dX7_init_41 (fun H locs hP hD hS => ?_)
  have hP : va_P D vwCl [(h0, .inr (7, [.ref q7, .ref q15, .ref q23, .ref q31, .ref q39, .int 0])), (q7, .inl (y 0, 6, .inl (fun _ => 0))), (q15, .inl (y 0, 6, .inl (fun _ => 0))), (q23, .inl (y 0, 6, .inl (fun _ => 0))), (q31, .inl (y 0, 6, .inl (fun _ => 0))), (q39, .inl (y 0, 6, .inl (fun _ => 0)))] H := hP
  have hD : va_D A [(h0, .inr (7, [.ref q7, .ref q15, .ref q23, .ref q31, .ref q39, .int 0])), (q7, .inl (y 0, 6, .inl (fun _ => 0))), (q15, .inl (y 0, 6, .inl (fun _ => 0))), (q23, .inl (y 0, 6, .inl (fun _ => 0))), (q31, .inl (y 0, 6, .inl (fun _ => 0))), (q39, .inl (y 0, 6, .inl (fun _ => 0)))] := hD
  refine lv_aload_n hx hb dX7_init_44 rfl (lv_at hl 0 rfl) ?_
  refine lv_iconst (v := (0 : Int32)) hx hb dX7_init_45 (by decide) ?_
  refine va_put (D := D) (ci := 7) (v := .int (0 : Int32)) (ty := .int) (C := RX7) (T := TX7) (N := 6) hx hb hts nX7_init_X7 tyX7 tyX7_ok nmX7 hown hK hP hD hS 0 rfl rfl 5 (by decide) (hts (.fieldLink RX7 27 "WorksDesk$SetOffs" "size" "I") (List.mem_of_getElem? (i := 10) rfl)) (fun _ h9 => h9) rfl (tyX7_ok 5 (by decide)) rfl rfl (Nat.le_of_ble_eq_true rfl) dX7_init_46 (fun H locs hP hD hS => ?_)
  have hP : va_P D vwCl [(h0, .inr (7, [.ref q7, .ref q15, .ref q23, .ref q31, .ref q39, .int (0 : Int32)])), (q7, .inl (y 0, 6, .inl (fun _ => 0))), (q15, .inl (y 0, 6, .inl (fun _ => 0))), (q23, .inl (y 0, 6, .inl (fun _ => 0))), (q31, .inl (y 0, 6, .inl (fun _ => 0))), (q39, .inl (y 0, 6, .inl (fun _ => 0)))] H := hP
  have hD : va_D A [(h0, .inr (7, [.ref q7, .ref q15, .ref q23, .ref q31, .ref q39, .int (0 : Int32)])), (q7, .inl (y 0, 6, .inl (fun _ => 0))), (q15, .inl (y 0, 6, .inl (fun _ => 0))), (q23, .inl (y 0, 6, .inl (fun _ => 0))), (q31, .inl (y 0, 6, .inl (fun _ => 0))), (q39, .inl (y 0, 6, .inl (fun _ => 0)))] := hD
  exact W.vret hx hb hr (fun t ht hW => ⟨⟨(fun k => [h0, q7, q15, q23, q31, q39].getD k 0), rfl, rfl, by rw [ht]; exact hP, va_K.moved hW.alike hK, hD⟩, hS.F ht⟩) hS.2.2 dX7_init_49
theorem nX5_init_X5 : ∀ w ∈ wsX50, w ∈ wsX5_init := fun _ h => List.mem_cons_of_mem _ (List.mem_append_right _ (h))
theorem zdX5_init : yX5_init.cls ≠ "java/lang/invoke/MethodHandle" ∧ yX5_init.cls ≠ "java/lang/invoke/VarHandle" ∧ (parseMethodDescriptor yX5_init.desc).map (fun d => d.parameters.length) = some 0 := by decide +kernel
set_option maxHeartbeats 4000000 in
set_option maxRecDepth 100000 in
theorem zX5_init (l : Launch) (D : va_G) (y : Nat → ClassId) (h0 sz : Nat) : Met l yX5_init wsX5_init { frames := 1, cells := 1, slots := 5, locals := 24 } (zz_Pc D y [(h0, .inr (5, [.null, .int 0]))] sz [.ref h0]) (va_Qv (fun a : Nat → Nat => a 0 = h0) (fun a t => va_P D vwCl (wIX5 y a) t.heap ∧ va_K D vwCl (zz_ty y) t ∧ va_D (va_A [(h0, .inr (5, [.null, .int 0]))] sz) (wIX5 y a)) (va_A [(h0, .inr (5, [.null, .int 0]))] sz)) 1 5 (va_A [(h0, .inr (5, [.null, .int 0]))] sz) := by
  refine Met.ofW (cc := cX5_init) (maxL := 1) (ret := none) (by decide) rfl ?_
  intro p e s m args below meth c s₁ B hml hv
  obtain ⟨rfl, hsz, hP, hK, hD0, hN, hg⟩ := hv
  have hx := B.exec
  have hb := B.bytes
  have hr := B.returns
  have hts := atoms_spec (ws := wsX5_init) B.pre
  have hown : s.vm.findClass RX5 = some m.cls := findClass_of_methodNamed B.named
  have hlocks := B.notSynchronized
  have hin : meth.name = "<init>" := (name_of_methodNamed B.named B.method).1
  clear B
  subst hsz
  have hD := hD0.self (sz := s.heap.size)
  generalize hAe : va_A [(h0, .inr (5, [.null, .int 0]))] s.heap.size = A at hD hg ⊢
  have hA : ∀ q : Nat, s.heap.size ≤ q → A q := fun q h => by rw [← hAe]; exact Or.inr h
  clear hAe hD0
  have hS : va_S A s.heap s.heap [] := va_S.rf
  have hl := lv_entry ([.ref h0]) (n := 1) (Nat.le_of_ble_eq_true rfl)
  rw [lg_entry_eq]
  generalize (lg_sl ([.ref h0]) ++ List.replicate (1 - (lg_sl ([.ref h0])).length) Slot.unset).toArray = ls at hl ⊢
  replace hl : lv_has ls 1 [(0, .ref h0)] := hl
  refine lv_aload_n hx hb dX5_init_0 rfl (lv_at hl 0 rfl) ?_
  refine W.objInit hx hb hown (hts (.methodLink RX5 1 objectInit) (List.mem_of_getElem? (i := 1) rfl)) (hts (.instanceMethod objectInit) (List.mem_of_getElem? (i := 2) rfl)) (hts (.code objectInit ⟨#[0xb1]⟩ 1 none) (List.mem_of_getElem? (i := 3) rfl)) rfl (by rw [hml]; exact hl.1) rfl dX5_init_1 (Nat.le_of_ble_eq_true rfl) (Nat.le_of_ble_eq_true rfl) ?_
  refine W.eq (g2 := F0 m 4 ls []) rfl ?_
  refine lv_aload_n hx hb dX5_init_4 rfl (lv_at hl 0 rfl) ?_
  refine lv_iconst (v := (5 : Int32)) hx hb dX5_init_5 (by decide) ?_
  refine zz_newJ hx hb (hts (.arrayClass .long) (List.mem_of_getElem? (i := 4) rfl)) hK hP hD hS hA 5 (by decide) (by decide) (by decide) (Nat.le_of_ble_eq_true rfl) (Nat.le_of_ble_eq_true rfl) dX5_init_6 (fun q6 H hP hD hS => ?_)
  have hP : va_P D vwCl [(h0, .inr (5, [.null, .int 0])), (q6, .inl (y 1, 5, .inr (.inl (fun _ => 0))))] H := hP
  have hD : va_D A [(h0, .inr (5, [.null, .int 0])), (q6, .inl (y 1, 5, .inr (.inl (fun _ => 0))))] := hD
  refine va_putF (D := D) (ci := 5) (v := .ref q6) (ty := .array .long) (C := RX5) (T := TX5) (N := 2) hx hb hts nX5_init_X5 tyX5 tyX5_ok nmX5 hown hK hP hD hS 0 rfl rfl 0 (by decide) (hts (.fieldLink RX5 9 "WorksDesk$Row" "numbers" "[J") (List.mem_of_getElem? (i := 5) rfl)) (fun _ h9 => h9) rfl hin rfl (tyX5_ok 0 (by decide)) rfl rfl (Nat.le_of_ble_eq_true rfl) dX5_init_8 (fun H locs hP hD hS => ?_)
  have hP : va_P D vwCl [(h0, .inr (5, [.ref q6, .int 0])), (q6, .inl (y 1, 5, .inr (.inl (fun _ => 0))))] H := hP
  have hD : va_D A [(h0, .inr (5, [.ref q6, .int 0])), (q6, .inl (y 1, 5, .inr (.inl (fun _ => 0))))] := hD
  refine lv_aload_n hx hb dX5_init_11 rfl (lv_at hl 0 rfl) ?_
  refine lv_iconst (v := (0 : Int32)) hx hb dX5_init_12 (by decide) ?_
  refine va_put (D := D) (ci := 5) (v := .int (0 : Int32)) (ty := .int) (C := RX5) (T := TX5) (N := 2) hx hb hts nX5_init_X5 tyX5 tyX5_ok nmX5 hown hK hP hD hS 0 rfl rfl 1 (by decide) (hts (.fieldLink RX5 13 "WorksDesk$Row" "size" "I") (List.mem_of_getElem? (i := 6) rfl)) (fun _ h9 => h9) rfl (tyX5_ok 1 (by decide)) rfl rfl (Nat.le_of_ble_eq_true rfl) dX5_init_13 (fun H locs hP hD hS => ?_)
  have hP : va_P D vwCl [(h0, .inr (5, [.ref q6, .int (0 : Int32)])), (q6, .inl (y 1, 5, .inr (.inl (fun _ => 0))))] H := hP
  have hD : va_D A [(h0, .inr (5, [.ref q6, .int (0 : Int32)])), (q6, .inl (y 1, 5, .inr (.inl (fun _ => 0))))] := hD
  exact W.vret hx hb hr (fun t ht hW => ⟨⟨(fun k => [h0, q6].getD k 0), rfl, rfl, by rw [ht]; exact hP, va_K.moved hW.alike hK, hD⟩, hS.F ht⟩) hS.2.2 dX5_init_16
