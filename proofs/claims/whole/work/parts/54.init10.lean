/-- the class's memory behind its constructor -/
def zz_z0I : List (Nat → Int32) := [(fun _ => 0), (fun _ => 0), (fun _ => 0), (fun _ => 0), (fun _ => 0), (fun _ => 0), (fun _ => 0), (fun _ => 0), (fun _ => 0), (fun _ => 0), (fun _ => 0), (fun _ => 0), (fun _ => 0), (fun _ => 0), (va_cpy zz_first (fun _ => 0) 0 0 14), (fun _ => 0), (fun _ => 0), (fun k => if k < 24 then -1 else 0), (fun k => if k < 24 then 0 else 0), (fun _ => 0), (fun k => if k < 24 then -1 else 0), (fun k => if k < 24 then 0 else 0), (fun _ => 0), (fun k => if k < 24 then -1 else 0), (fun k => if k < 24 then 0 else 0), (fun _ => 0), (fun k => if k < 24 then -1 else 0), (fun k => if k < 24 then 0 else 0), (fun _ => 0), (fun k => if k < 24 then -1 else 0), (fun k => if k < 24 then 0 else 0), (fun _ => 0), (fun k => if k < 24 then -1 else 0), (fun k => if k < 24 then 0 else 0), (fun _ => 0), (fun k => if k < 24 then -1 else 0), (fun k => if k < 24 then 0 else 0), (fun _ => 0), (fun k => if k < 24 then -1 else 0), (fun k => if k < 24 then 0 else 0), (fun _ => 0), (fun k => if k < 24 then -1 else 0), (fun k => if k < 24 then 0 else 0), (fun _ => 0), (fun k => if k < 24 then -1 else 0), (fun k => if k < 24 then 0 else 0), (fun _ => 0), (fun k => if k < 24 then -1 else 0), (fun k => if k < 24 then 0 else 0), (fun _ => 0), (fun k => if k < 24 then -1 else 0), (fun k => if k < 24 then 1000 else 0), (fun _ => 0), (fun _ => 0), (fun _ => 0), (fun _ => 0), (fun _ => 0), (fun _ => 0), (fun _ => 0), (fun _ => 0), (fun _ => 0), (fun _ => 0), (fun _ => 0), (fun _ => 0)]
def zz_z0 : zz_M := (fun q => zz_z0I.getD q (fun _ => 0), fun _ _ => 0, fun q => if q = 520 then 24 else if q = 521 then 24 else if q = 522 then 24 else if q = 3138 then 1000 else 0, fun _ => 0)
theorem nX10_init_X1 : ∀ w ∈ wsX10, w ∈ wsX10_init := fun _ h => List.mem_cons_of_mem _ (List.mem_append_left _ (List.mem_append_left _ (List.mem_append_left _ (List.mem_append_left _ (List.mem_append_left _ (List.mem_append_left _ (List.mem_append_left _ (List.mem_append_left _ (List.mem_append_right _ (h))))))))))
theorem nX10_init_X10 : ∀ w ∈ wsX100, w ∈ wsX10_init := fun _ h => List.mem_cons_of_mem _ (List.mem_append_left _ (List.mem_append_left _ (List.mem_append_left _ (List.mem_append_left _ (List.mem_append_left _ (List.mem_append_left _ (List.mem_append_left _ (List.mem_append_left _ (List.mem_append_left _ (List.mem_append_right _ (h)))))))))))
theorem nX10_init_X2 : ∀ w ∈ wsX20, w ∈ wsX10_init := fun _ h => List.mem_cons_of_mem _ (List.mem_append_left _ (List.mem_append_left _ (List.mem_append_left _ (List.mem_append_left _ (List.mem_append_left _ (List.mem_append_left _ (List.mem_append_left _ (List.mem_append_right _ (h)))))))))
theorem nX10_init_X4 : ∀ w ∈ wsX40, w ∈ wsX10_init := fun _ h => List.mem_cons_of_mem _ (List.mem_append_left _ (List.mem_append_left _ (List.mem_append_left _ (List.mem_append_left _ (List.mem_append_left _ (List.mem_append_left _ (List.mem_append_right _ (h))))))))
theorem nX10_init_X5 : ∀ w ∈ wsX50, w ∈ wsX10_init := fun _ h => List.mem_cons_of_mem _ (List.mem_append_left _ (List.mem_append_left _ (List.mem_append_left _ (List.mem_append_left _ (List.mem_append_left _ (List.mem_append_right _ (h)))))))
theorem nX10_init_X9 : ∀ w ∈ wsX90, w ∈ wsX10_init := fun _ h => List.mem_cons_of_mem _ (List.mem_append_left _ (List.mem_append_left _ (List.mem_append_left _ (List.mem_append_left _ (List.mem_append_left _ (List.mem_append_left _ (List.mem_append_left _ (List.mem_append_left _ (List.mem_append_left _ (List.mem_append_left _ (List.mem_append_right _ (h))))))))))))
theorem zdX10_init : yX10_init.cls ≠ "java/lang/invoke/MethodHandle" ∧ yX10_init.cls ≠ "java/lang/invoke/VarHandle" ∧ (parseMethodDescriptor yX10_init.desc).map (fun d => d.parameters.length) = some 0 := by decide +kernel
set_option maxHeartbeats 8000000 in
set_option maxRecDepth 100000 in
theorem zX10_init (l : Launch) (D : va_G) (y : Nat → ClassId) (h0 sz : Nat) : Met l yX10_init wsX10_init { frames := 3, cells := 100, slots := 1723, locals := 105 } (zz_Pc D y [(h0, .inr (10, [.null, .null, .null, .null, .null, .null, .null]))] sz [.ref h0]) (va_Qv (fun a : Nat → Nat => a 0 = h0) (fun a t => va_P D vwCl (wC y a zz_z0) t.heap ∧ va_K D vwCl (zz_ty y) t ∧ va_D (va_A [(h0, .inr (10, [.null, .null, .null, .null, .null, .null, .null]))] sz) (wC y a zz_z0)) (va_A [(h0, .inr (10, [.null, .null, .null, .null, .null, .null, .null]))] sz)) 100 1723 (va_A [(h0, .inr (10, [.null, .null, .null, .null, .null, .null, .null]))] sz) := by
  refine Met.ofW (cc := cX10_init) (maxL := 1) (ret := none) (by decide) rfl ?_
  intro p e s m args below meth c s₁ B hml hv
  obtain ⟨rfl, hsz, hP, hK, hD0, hN, hg⟩ := hv
  have hx := B.exec
  have hb := B.bytes
  have hr := B.returns
  have hts := atoms_spec (ws := wsX10_init) B.pre
  have hown : s.vm.findClass RX10 = some m.cls := findClass_of_methodNamed B.named
  have hlocks := B.notSynchronized
  have hin : meth.name = "<init>" := (name_of_methodNamed B.named B.method).1
  clear B
  subst hsz
  have hD := hD0.self (sz := s.heap.size)
  generalize hAe : va_A [(h0, .inr (10, [.null, .null, .null, .null, .null, .null, .null]))] s.heap.size = A at hD hg ⊢
  have hA : ∀ q : Nat, s.heap.size ≤ q → A q := fun q h => by rw [← hAe]; exact Or.inr h
  clear hAe hD0
  have hS : va_S A s.heap s.heap [] := va_S.rf
  have hl := lv_entry ([.ref h0]) (n := 1) (Nat.le_of_ble_eq_true rfl)
  rw [lg_entry_eq]
  generalize (lg_sl ([.ref h0]) ++ List.replicate (1 - (lg_sl ([.ref h0])).length) Slot.unset).toArray = ls at hl ⊢
  replace hl : lv_has ls 1 [(0, .ref h0)] := hl
  have hP : va_P D vwCl ([(h0, .inr (10, [.null, .null, .null, .null, .null, .null, .null]))] ++ ([] : va_W)) s.heap := hP
  have hD : va_D A ([(h0, .inr (10, [.null, .null, .null, .null, .null, .null, .null]))] ++ ([] : va_W)) := hD
  refine lv_aload_n hx hb dX10_init_0 rfl (lv_at hl 0 rfl) ?_
  refine W.objInit hx hb hown (hts (.methodLink RX10 3 objectInit) (List.mem_of_getElem? (i := 1) rfl)) (hts (.instanceMethod objectInit) (List.mem_of_getElem? (i := 2) rfl)) (hts (.code objectInit ⟨#[0xb1]⟩ 1 none) (List.mem_of_getElem? (i := 3) rfl)) rfl (by rw [hml]; exact hl.1) rfl dX10_init_1 (Nat.le_of_ble_eq_true rfl) (Nat.le_of_ble_eq_true rfl) ?_
  refine W.eq (g2 := F0 m 4 ls []) rfl ?_
  refine lv_aload_n hx hb dX10_init_4 rfl (lv_at hl 0 rfl) ?_
  refine va_new (ci := 9) (fs := [.null, .int 0]) (C := RX9) (T := TX9) (N := 2) hx hb hts nX10_init_X9 tyX9 tyX9_ok hown (hts (.classLink RX10 9 RX9) (List.mem_of_getElem? (i := 4) rfl)) (hts (.instantiable RX9 2) (List.mem_of_getElem? (i := 5) rfl)) (hts (.initialized RX9) (List.mem_of_getElem? (i := 6) rfl)) hK hP hD hS hA rfl (fun j hj => by
      match j, hj with
      | 0, _ => rfl
      | 1, _ => rfl) (Nat.le_of_ble_eq_true rfl) (Nat.le_of_ble_eq_true rfl) dX10_init_5 (fun q1 H hP hD hS => ?_)
  refine lv_dup hx hb dX10_init_8 rfl ?_
  refine zz_ctor (va_runIN (As := []) (rest := [.ref q1, .ref h0]) ⟨hx, hb, hml, hown, hts⟩ (zX9_init l D y q1 H.size) ⟨va_cnB 0 hts gX10_init_X9_init_n11 rfl rfl rfl (hN _ (List.mem_of_getElem? (i := 0) rfl)) (hts (.initialized RX9) (List.mem_of_getElem? (i := 6) rfl)) zdX9_init ⟨Nat.le_of_ble_eq_true rfl, Nat.le_of_ble_eq_true rfl⟩, rfl, (hts (.instanceMethod yX9_init) (List.mem_of_getElem? (i := 27) rfl))⟩ (zz_preE hP hK hD hN hg hS hA) rfl rfl hl.1 rfl (lv_room (Nat.le_of_ble_eq_true rfl)) dX10_init_9 ⟨Nat.le_of_ble_eq_true rfl, Nat.le_of_ble_eq_true rfl⟩) hP hD hS hA (fun a1 H1 locs1 ha hP1 hD1 hS1 => ?_)
  clear hP hD hS
  subst ha
  generalize H1 = H at hP1 hS1 ⊢
  generalize locs1 = locs at hS1 ⊢
  have hP := zz_asP hP1
  have hD := zz_asD hD1
  have hS := hS1
  clear hP1 hD1 hS1
  have hP : va_P D vwCl ([(h0, .inr (10, [.null, .null, .null, .null, .null, .null, .null]))] ++ (([] : va_W) ++ wIX9 y a1)) H := hP
  have hD : va_D A ([(h0, .inr (10, [.null, .null, .null, .null, .null, .null, .null]))] ++ (([] : va_W) ++ wIX9 y a1)) := hD
  refine va_putF (D := D) (ci := 10) (v := .ref (a1 0)) (ty := .object "WorksDesk$Text") (C := RX10) (T := TX10) (N := 7) hx hb hts nX10_init_X10 tyX10 tyX10_ok nmX10 hown hK hP hD hS 0 rfl rfl 0 (by decide) (hts (.fieldLink RX10 12 "WorksDesk" "text" "LWorksDesk$Text;") (List.mem_of_getElem? (i := 7) rfl)) (fun _ h9 => h9) rfl hin rfl (tyX10_ok 0 (by decide)) rfl rfl (Nat.le_of_ble_eq_true rfl) dX10_init_12 (fun H locs hP hD hS => ?_)
  have hP : va_P D vwCl ([(h0, .inr (10, [.ref (a1 0), .null, .null, .null, .null, .null, .null]))] ++ (([] : va_W) ++ wIX9 y a1)) H := hP
  have hD : va_D A ([(h0, .inr (10, [.ref (a1 0), .null, .null, .null, .null, .null, .null]))] ++ (([] : va_W) ++ wIX9 y a1)) := hD
  refine lv_aload_n hx hb dX10_init_15 rfl (lv_at hl 0 rfl) ?_
  refine va_new (ci := 1) (fs := [.null, .int 0]) (C := RX1) (T := TX1) (N := 2) hx hb hts nX10_init_X1 tyX1 tyX1_ok hown (hts (.classLink RX10 16 RX1) (List.mem_of_getElem? (i := 8) rfl)) (hts (.instantiable RX1 2) (List.mem_of_getElem? (i := 9) rfl)) (hts (.initialized RX1) (List.mem_of_getElem? (i := 10) rfl)) hK hP hD hS hA rfl (fun j hj => by
      match j, hj with
      | 0, _ => rfl
      | 1, _ => rfl) (Nat.le_of_ble_eq_true rfl) (Nat.le_of_ble_eq_true rfl) dX10_init_16 (fun q2 H hP hD hS => ?_)
  refine lv_dup hx hb dX10_init_19 rfl ?_
  refine zz_ctor (va_runIN (As := []) (rest := [.ref q2, .ref h0]) ⟨hx, hb, hml, hown, hts⟩ (zX1_init l D y q2 H.size) ⟨va_cnB 0 hts gX10_init_X1_init_n18 rfl rfl rfl (hN _ (List.mem_of_getElem? (i := 1) rfl)) (hts (.initialized RX1) (List.mem_of_getElem? (i := 10) rfl)) zdX1_init ⟨Nat.le_of_ble_eq_true rfl, Nat.le_of_ble_eq_true rfl⟩, rfl, (hts (.instanceMethod yX1_init) (List.mem_of_getElem? (i := 33) rfl))⟩ (zz_preE hP hK hD hN hg hS hA) rfl rfl hl.1 rfl (lv_room (Nat.le_of_ble_eq_true rfl)) dX10_init_20 ⟨Nat.le_of_ble_eq_true rfl, Nat.le_of_ble_eq_true rfl⟩) hP hD hS hA (fun a2 H1 locs1 ha hP1 hD1 hS1 => ?_)
  clear hP hD hS
  subst ha
  generalize H1 = H at hP1 hS1 ⊢
  generalize locs1 = locs at hS1 ⊢
  have hP := zz_asP hP1
  have hD := zz_asD hD1
  have hS := hS1
  clear hP1 hD1 hS1
  have hP : va_P D vwCl ([(h0, .inr (10, [.ref (a1 0), .null, .null, .null, .null, .null, .null]))] ++ ((([] : va_W) ++ wIX9 y a1) ++ wIX1 y a2)) H := hP
  have hD : va_D A ([(h0, .inr (10, [.ref (a1 0), .null, .null, .null, .null, .null, .null]))] ++ ((([] : va_W) ++ wIX9 y a1) ++ wIX1 y a2)) := hD
  refine va_putF (D := D) (ci := 10) (v := .ref (a2 0)) (ty := .object "WorksDesk$BillReader") (C := RX10) (T := TX10) (N := 7) hx hb hts nX10_init_X10 tyX10 tyX10_ok nmX10 hown hK hP hD hS 0 rfl rfl 1 (by decide) (hts (.fieldLink RX10 19 "WorksDesk" "reader" "LWorksDesk$BillReader;") (List.mem_of_getElem? (i := 11) rfl)) (fun _ h9 => h9) rfl hin rfl (tyX10_ok 1 (by decide)) rfl rfl (Nat.le_of_ble_eq_true rfl) dX10_init_23 (fun H locs hP hD hS => ?_)
  have hP : va_P D vwCl ([(h0, .inr (10, [.ref (a1 0), .ref (a2 0), .null, .null, .null, .null, .null]))] ++ ((([] : va_W) ++ wIX9 y a1) ++ wIX1 y a2)) H := hP
  have hD : va_D A ([(h0, .inr (10, [.ref (a1 0), .ref (a2 0), .null, .null, .null, .null, .null]))] ++ ((([] : va_W) ++ wIX9 y a1) ++ wIX1 y a2)) := hD
  refine lv_aload_n hx hb dX10_init_26 rfl (lv_at hl 0 rfl) ?_
  refine va_new (ci := 2) (fs := [.null, .null, .null, .null, .null, .null, .null, .null, .int 0, .int 0, .int 0, .int 0]) (C := RX2) (T := TX2) (N := 12) hx hb hts nX10_init_X2 tyX2 tyX2_ok hown (hts (.classLink RX10 23 RX2) (List.mem_of_getElem? (i := 12) rfl)) (hts (.instantiable RX2 12) (List.mem_of_getElem? (i := 13) rfl)) (hts (.initialized RX2) (List.mem_of_getElem? (i := 14) rfl)) hK hP hD hS hA rfl (fun j hj => by
      match j, hj with
      | 0, _ => rfl
      | 1, _ => rfl
      | 2, _ => rfl
      | 3, _ => rfl
      | 4, _ => rfl
      | 5, _ => rfl
      | 6, _ => rfl
      | 7, _ => rfl
      | 8, _ => rfl
      | 9, _ => rfl
      | 10, _ => rfl
      | 11, _ => rfl) (Nat.le_of_ble_eq_true rfl) (Nat.le_of_ble_eq_true rfl) dX10_init_27 (fun q3 H hP hD hS => ?_)
  refine lv_dup hx hb dX10_init_30 rfl ?_
  refine zz_ctor (va_runI (As := []) (rest := [.ref q3, .ref h0]) ⟨hx, hb, hml, hown, hts⟩ (zX2_init l D y q3 H.size) (cwI 0 hts gX10_init_X2_init rfl rfl rfl (hts (.initialized RX2) (List.mem_of_getElem? (i := 14) rfl)) (hts (.methodLink RX10 25 yX2_init) (List.mem_of_getElem? (i := 49) rfl)) (hts (.instanceMethod yX2_init) (List.mem_of_getElem? (i := 50) rfl)) rfl zdX2_init ⟨Nat.le_of_ble_eq_true rfl, Nat.le_of_ble_eq_true rfl⟩) (zz_preE hP hK hD hN hg hS hA) rfl rfl hl.1 rfl (lv_room (Nat.le_of_ble_eq_true rfl)) dX10_init_31 ⟨Nat.le_of_ble_eq_true rfl, Nat.le_of_ble_eq_true rfl⟩) hP hD hS hA (fun a3 H1 locs1 ha hP1 hD1 hS1 => ?_)
  clear hP hD hS
  subst ha
  generalize H1 = H at hP1 hS1 ⊢
  generalize locs1 = locs at hS1 ⊢
  have hP := zz_asP hP1
  have hD := zz_asD hD1
  have hS := hS1
  clear hP1 hD1 hS1
  have hP : va_P D vwCl ([(h0, .inr (10, [.ref (a1 0), .ref (a2 0), .null, .null, .null, .null, .null]))] ++ (((([] : va_W) ++ wIX9 y a1) ++ wIX1 y a2) ++ wIX2 y a3)) H := hP
  have hD : va_D A ([(h0, .inr (10, [.ref (a1 0), .ref (a2 0), .null, .null, .null, .null, .null]))] ++ (((([] : va_W) ++ wIX9 y a1) ++ wIX1 y a2) ++ wIX2 y a3)) := hD
  refine va_putF (D := D) (ci := 10) (v := .ref (a3 0)) (ty := .object "WorksDesk$Book") (C := RX10) (T := TX10) (N := 7) hx hb hts nX10_init_X10 tyX10 tyX10_ok nmX10 hown hK hP hD hS 0 rfl rfl 2 (by decide) (hts (.fieldLink RX10 26 "WorksDesk" "book" "LWorksDesk$Book;") (List.mem_of_getElem? (i := 15) rfl)) (fun _ h9 => h9) rfl hin rfl (tyX10_ok 2 (by decide)) rfl rfl (Nat.le_of_ble_eq_true rfl) dX10_init_34 (fun H locs hP hD hS => ?_)
  have hP : va_P D vwCl ([(h0, .inr (10, [.ref (a1 0), .ref (a2 0), .ref (a3 0), .null, .null, .null, .null]))] ++ (((([] : va_W) ++ wIX9 y a1) ++ wIX1 y a2) ++ wIX2 y a3)) H := hP
  have hD : va_D A ([(h0, .inr (10, [.ref (a1 0), .ref (a2 0), .ref (a3 0), .null, .null, .null, .null]))] ++ (((([] : va_W) ++ wIX9 y a1) ++ wIX1 y a2) ++ wIX2 y a3)) := hD
  refine lv_aload_n hx hb dX10_init_37 rfl (lv_at hl 0 rfl) ?_
  refine va_new (ci := 4) (fs := [.null]) (C := RX4) (T := TX4) (N := 1) hx hb hts nX10_init_X4 tyX4 tyX4_ok hown (hts (.classLink RX10 30 RX4) (List.mem_of_getElem? (i := 16) rfl)) (hts (.instantiable RX4 1) (List.mem_of_getElem? (i := 17) rfl)) (hts (.initialized RX4) (List.mem_of_getElem? (i := 18) rfl)) hK hP hD hS hA rfl (fun j hj => by
      match j, hj with
      | 0, _ => rfl) (Nat.le_of_ble_eq_true rfl) (Nat.le_of_ble_eq_true rfl) dX10_init_38 (fun q4 H hP hD hS => ?_)
  refine lv_dup hx hb dX10_init_41 rfl ?_
  refine zz_ctor (va_runIN (As := []) (rest := [.ref q4, .ref h0]) ⟨hx, hb, hml, hown, hts⟩ (zX4_init l D y q4 H.size) ⟨va_cnB 0 hts gX10_init_X4_init_n32 rfl rfl rfl (hN _ (List.mem_of_getElem? (i := 2) rfl)) (hts (.initialized RX4) (List.mem_of_getElem? (i := 18) rfl)) zdX4_init ⟨Nat.le_of_ble_eq_true rfl, Nat.le_of_ble_eq_true rfl⟩, rfl, (hts (.instanceMethod yX4_init) (List.mem_of_getElem? (i := 116) rfl))⟩ (zz_preE hP hK hD hN hg hS hA) rfl rfl hl.1 rfl (lv_room (Nat.le_of_ble_eq_true rfl)) dX10_init_42 ⟨Nat.le_of_ble_eq_true rfl, Nat.le_of_ble_eq_true rfl⟩) hP hD hS hA (fun a4 H1 locs1 ha hP1 hD1 hS1 => ?_)
  clear hP hD hS
  subst ha
  generalize H1 = H at hP1 hS1 ⊢
  generalize locs1 = locs at hS1 ⊢
  have hP := zz_asP hP1
  have hD := zz_asD hD1
  have hS := hS1
  clear hP1 hD1 hS1
  have hP : va_P D vwCl ([(h0, .inr (10, [.ref (a1 0), .ref (a2 0), .ref (a3 0), .null, .null, .null, .null]))] ++ ((((([] : va_W) ++ wIX9 y a1) ++ wIX1 y a2) ++ wIX2 y a3) ++ wIX4 y a4)) H := hP
  have hD : va_D A ([(h0, .inr (10, [.ref (a1 0), .ref (a2 0), .ref (a3 0), .null, .null, .null, .null]))] ++ ((((([] : va_W) ++ wIX9 y a1) ++ wIX1 y a2) ++ wIX2 y a3) ++ wIX4 y a4)) := hD
  refine va_putF (D := D) (ci := 10) (v := .ref (a4 0)) (ty := .object "WorksDesk$Figures") (C := RX10) (T := TX10) (N := 7) hx hb hts nX10_init_X10 tyX10 tyX10_ok nmX10 hown hK hP hD hS 0 rfl rfl 3 (by decide) (hts (.fieldLink RX10 33 "WorksDesk" "real" "LWorksDesk$Figures;") (List.mem_of_getElem? (i := 19) rfl)) (fun _ h9 => h9) rfl hin rfl (tyX10_ok 3 (by decide)) rfl rfl (Nat.le_of_ble_eq_true rfl) dX10_init_45 (fun H locs hP hD hS => ?_)
  have hP : va_P D vwCl ([(h0, .inr (10, [.ref (a1 0), .ref (a2 0), .ref (a3 0), .ref (a4 0), .null, .null, .null]))] ++ ((((([] : va_W) ++ wIX9 y a1) ++ wIX1 y a2) ++ wIX2 y a3) ++ wIX4 y a4)) H := hP
  have hD : va_D A ([(h0, .inr (10, [.ref (a1 0), .ref (a2 0), .ref (a3 0), .ref (a4 0), .null, .null, .null]))] ++ ((((([] : va_W) ++ wIX9 y a1) ++ wIX1 y a2) ++ wIX2 y a3) ++ wIX4 y a4)) := hD
  refine lv_aload_n hx hb dX10_init_48 rfl (lv_at hl 0 rfl) ?_
  refine va_new (ci := 4) (fs := [.null]) (C := RX4) (T := TX4) (N := 1) hx hb hts nX10_init_X4 tyX4 tyX4_ok hown (hts (.classLink RX10 30 RX4) (List.mem_of_getElem? (i := 16) rfl)) (hts (.instantiable RX4 1) (List.mem_of_getElem? (i := 17) rfl)) (hts (.initialized RX4) (List.mem_of_getElem? (i := 18) rfl)) hK hP hD hS hA rfl (fun j hj => by
      match j, hj with
      | 0, _ => rfl) (Nat.le_of_ble_eq_true rfl) (Nat.le_of_ble_eq_true rfl) dX10_init_49 (fun q5 H hP hD hS => ?_)
  refine lv_dup hx hb dX10_init_52 rfl ?_
  refine zz_ctor (va_runIN (As := []) (rest := [.ref q5, .ref h0]) ⟨hx, hb, hml, hown, hts⟩ (zX4_init l D y q5 H.size) ⟨va_cnB 0 hts gX10_init_X4_init_n32 rfl rfl rfl (hN _ (List.mem_of_getElem? (i := 2) rfl)) (hts (.initialized RX4) (List.mem_of_getElem? (i := 18) rfl)) zdX4_init ⟨Nat.le_of_ble_eq_true rfl, Nat.le_of_ble_eq_true rfl⟩, rfl, (hts (.instanceMethod yX4_init) (List.mem_of_getElem? (i := 116) rfl))⟩ (zz_preE hP hK hD hN hg hS hA) rfl rfl hl.1 rfl (lv_room (Nat.le_of_ble_eq_true rfl)) dX10_init_53 ⟨Nat.le_of_ble_eq_true rfl, Nat.le_of_ble_eq_true rfl⟩) hP hD hS hA (fun a5 H1 locs1 ha hP1 hD1 hS1 => ?_)
  clear hP hD hS
  subst ha
  generalize H1 = H at hP1 hS1 ⊢
  generalize locs1 = locs at hS1 ⊢
  have hP := zz_asP hP1
  have hD := zz_asD hD1
  have hS := hS1
  clear hP1 hD1 hS1
  have hP : va_P D vwCl ([(h0, .inr (10, [.ref (a1 0), .ref (a2 0), .ref (a3 0), .ref (a4 0), .null, .null, .null]))] ++ (((((([] : va_W) ++ wIX9 y a1) ++ wIX1 y a2) ++ wIX2 y a3) ++ wIX4 y a4) ++ wIX4 y a5)) H := hP
  have hD : va_D A ([(h0, .inr (10, [.ref (a1 0), .ref (a2 0), .ref (a3 0), .ref (a4 0), .null, .null, .null]))] ++ (((((([] : va_W) ++ wIX9 y a1) ++ wIX1 y a2) ++ wIX2 y a3) ++ wIX4 y a4) ++ wIX4 y a5)) := hD
  refine va_putF (D := D) (ci := 10) (v := .ref (a5 0)) (ty := .object "WorksDesk$Figures") (C := RX10) (T := TX10) (N := 7) hx hb hts nX10_init_X10 tyX10 tyX10_ok nmX10 hown hK hP hD hS 0 rfl rfl 4 (by decide) (hts (.fieldLink RX10 37 "WorksDesk" "asIf" "LWorksDesk$Figures;") (List.mem_of_getElem? (i := 20) rfl)) (fun _ h9 => h9) rfl hin rfl (tyX10_ok 4 (by decide)) rfl rfl (Nat.le_of_ble_eq_true rfl) dX10_init_56 (fun H locs hP hD hS => ?_)
  have hP : va_P D vwCl ([(h0, .inr (10, [.ref (a1 0), .ref (a2 0), .ref (a3 0), .ref (a4 0), .ref (a5 0), .null, .null]))] ++ (((((([] : va_W) ++ wIX9 y a1) ++ wIX1 y a2) ++ wIX2 y a3) ++ wIX4 y a4) ++ wIX4 y a5)) H := hP
  have hD : va_D A ([(h0, .inr (10, [.ref (a1 0), .ref (a2 0), .ref (a3 0), .ref (a4 0), .ref (a5 0), .null, .null]))] ++ (((((([] : va_W) ++ wIX9 y a1) ++ wIX1 y a2) ++ wIX2 y a3) ++ wIX4 y a4) ++ wIX4 y a5)) := hD
  refine lv_aload_n hx hb dX10_init_59 rfl (lv_at hl 0 rfl) ?_
  refine lv_bipush (v := (24 : Int32)) hx hb dX10_init_60 (by decide) ?_
  refine zz_newJ hx hb (hts (.arrayClass .long) (List.mem_of_getElem? (i := 21) rfl)) hK hP hD hS hA 24 (by decide) (by decide) (by decide) (Nat.le_of_ble_eq_true rfl) (Nat.le_of_ble_eq_true rfl) dX10_init_62 (fun q6 H hP hD hS => ?_)
  have hP := zz_asP hP
  have hD := zz_asD hD
  have hP : va_P D vwCl ([(h0, .inr (10, [.ref (a1 0), .ref (a2 0), .ref (a3 0), .ref (a4 0), .ref (a5 0), .null, .null]))] ++ ((((((([] : va_W) ++ wIX9 y a1) ++ wIX1 y a2) ++ wIX2 y a3) ++ wIX4 y a4) ++ wIX4 y a5) ++ [(q6, .inl (y 1, 24, .inr (.inl (fun _ => 0))))])) H := hP
  have hD : va_D A ([(h0, .inr (10, [.ref (a1 0), .ref (a2 0), .ref (a3 0), .ref (a4 0), .ref (a5 0), .null, .null]))] ++ ((((((([] : va_W) ++ wIX9 y a1) ++ wIX1 y a2) ++ wIX2 y a3) ++ wIX4 y a4) ++ wIX4 y a5) ++ [(q6, .inl (y 1, 24, .inr (.inl (fun _ => 0))))])) := hD
  refine va_putF (D := D) (ci := 10) (v := .ref q6) (ty := .array .long) (C := RX10) (T := TX10) (N := 7) hx hb hts nX10_init_X10 tyX10 tyX10_ok nmX10 hown hK hP hD hS 0 rfl rfl 5 (by decide) (hts (.fieldLink RX10 40 "WorksDesk" "otherPayments" "[J") (List.mem_of_getElem? (i := 22) rfl)) (fun _ h9 => h9) rfl hin rfl (tyX10_ok 5 (by decide)) rfl rfl (Nat.le_of_ble_eq_true rfl) dX10_init_64 (fun H locs hP hD hS => ?_)
  have hP : va_P D vwCl ([(h0, .inr (10, [.ref (a1 0), .ref (a2 0), .ref (a3 0), .ref (a4 0), .ref (a5 0), .ref q6, .null]))] ++ ((((((([] : va_W) ++ wIX9 y a1) ++ wIX1 y a2) ++ wIX2 y a3) ++ wIX4 y a4) ++ wIX4 y a5) ++ [(q6, .inl (y 1, 24, .inr (.inl (fun _ => 0))))])) H := hP
  have hD : va_D A ([(h0, .inr (10, [.ref (a1 0), .ref (a2 0), .ref (a3 0), .ref (a4 0), .ref (a5 0), .ref q6, .null]))] ++ ((((((([] : va_W) ++ wIX9 y a1) ++ wIX1 y a2) ++ wIX2 y a3) ++ wIX4 y a4) ++ wIX4 y a5) ++ [(q6, .inl (y 1, 24, .inr (.inl (fun _ => 0))))])) := hD
  refine lv_aload_n hx hb dX10_init_67 rfl (lv_at hl 0 rfl) ?_
  refine va_new (ci := 5) (fs := [.null, .int 0]) (C := RX5) (T := TX5) (N := 2) hx hb hts nX10_init_X5 tyX5 tyX5_ok hown (hts (.classLink RX10 44 RX5) (List.mem_of_getElem? (i := 23) rfl)) (hts (.instantiable RX5 2) (List.mem_of_getElem? (i := 24) rfl)) (hts (.initialized RX5) (List.mem_of_getElem? (i := 25) rfl)) hK hP hD hS hA rfl (fun j hj => by
      match j, hj with
      | 0, _ => rfl
      | 1, _ => rfl) (Nat.le_of_ble_eq_true rfl) (Nat.le_of_ble_eq_true rfl) dX10_init_68 (fun q7 H hP hD hS => ?_)
  refine lv_dup hx hb dX10_init_71 rfl ?_
  refine zz_ctor (va_runIN (As := []) (rest := [.ref q7, .ref h0]) ⟨hx, hb, hml, hown, hts⟩ (zX5_init l D y q7 H.size) ⟨va_cnB 0 hts gX10_init_X5_init_n46 rfl rfl rfl (hN _ (List.mem_of_getElem? (i := 3) rfl)) (hts (.initialized RX5) (List.mem_of_getElem? (i := 25) rfl)) zdX5_init ⟨Nat.le_of_ble_eq_true rfl, Nat.le_of_ble_eq_true rfl⟩, rfl, (hts (.instanceMethod yX5_init) (List.mem_of_getElem? (i := 121) rfl))⟩ (zz_preE hP hK hD hN hg hS hA) rfl rfl hl.1 rfl (lv_room (Nat.le_of_ble_eq_true rfl)) dX10_init_72 ⟨Nat.le_of_ble_eq_true rfl, Nat.le_of_ble_eq_true rfl⟩) hP hD hS hA (fun a7 H1 locs1 ha hP1 hD1 hS1 => ?_)
  clear hP hD hS
  subst ha
  generalize H1 = H at hP1 hS1 ⊢
  generalize locs1 = locs at hS1 ⊢
  have hP := zz_asP hP1
  have hD := zz_asD hD1
  have hS := hS1
  clear hP1 hD1 hS1
  have hP : va_P D vwCl ([(h0, .inr (10, [.ref (a1 0), .ref (a2 0), .ref (a3 0), .ref (a4 0), .ref (a5 0), .ref q6, .null]))] ++ (((((((([] : va_W) ++ wIX9 y a1) ++ wIX1 y a2) ++ wIX2 y a3) ++ wIX4 y a4) ++ wIX4 y a5) ++ [(q6, .inl (y 1, 24, .inr (.inl (fun _ => 0))))]) ++ wIX5 y a7)) H := hP
  have hD : va_D A ([(h0, .inr (10, [.ref (a1 0), .ref (a2 0), .ref (a3 0), .ref (a4 0), .ref (a5 0), .ref q6, .null]))] ++ (((((((([] : va_W) ++ wIX9 y a1) ++ wIX1 y a2) ++ wIX2 y a3) ++ wIX4 y a4) ++ wIX4 y a5) ++ [(q6, .inl (y 1, 24, .inr (.inl (fun _ => 0))))]) ++ wIX5 y a7)) := hD
  refine va_putF (D := D) (ci := 10) (v := .ref (a7 0)) (ty := .object "WorksDesk$Row") (C := RX10) (T := TX10) (N := 7) hx hb hts nX10_init_X10 tyX10 tyX10_ok nmX10 hown hK hP hD hS 0 rfl rfl 6 (by decide) (hts (.fieldLink RX10 47 "WorksDesk" "lastRow" "LWorksDesk$Row;") (List.mem_of_getElem? (i := 26) rfl)) (fun _ h9 => h9) rfl hin rfl (tyX10_ok 6 (by decide)) rfl rfl (Nat.le_of_ble_eq_true rfl) dX10_init_75 (fun H locs hP hD hS => ?_)
  have hP : va_P D vwCl ([(h0, .inr (10, [.ref (a1 0), .ref (a2 0), .ref (a3 0), .ref (a4 0), .ref (a5 0), .ref q6, .ref (a7 0)]))] ++ (((((((([] : va_W) ++ wIX9 y a1) ++ wIX1 y a2) ++ wIX2 y a3) ++ wIX4 y a4) ++ wIX4 y a5) ++ [(q6, .inl (y 1, 24, .inr (.inl (fun _ => 0))))]) ++ wIX5 y a7)) H := hP
  have hD : va_D A ([(h0, .inr (10, [.ref (a1 0), .ref (a2 0), .ref (a3 0), .ref (a4 0), .ref (a5 0), .ref q6, .ref (a7 0)]))] ++ (((((((([] : va_W) ++ wIX9 y a1) ++ wIX1 y a2) ++ wIX2 y a3) ++ wIX4 y a4) ++ wIX4 y a5) ++ [(q6, .inl (y 1, 24, .inr (.inl (fun _ => 0))))]) ++ wIX5 y a7)) := hD
  have hP : va_P D vwCl [(h0, .inr (10, [.ref (a1 0), .ref (a2 0), .ref (a3 0), .ref (a4 0), .ref (a5 0), .ref q6, .ref (a7 0)])), (a1 0, .inr (9, [.ref (a1 1), .int 0])), (a1 1, .inl (y 0, 120, .inl (fun _ => 0))), (a2 0, .inr (1, [.ref (a2 1), .int 0])), (a2 1, .inr (0, [.ref (a2 2), .ref (a2 3), .ref (a2 4), .int 0, .int 0])), (a2 2, .inl (y 0, 10, .inl (fun _ => 0))), (a2 3, .inl (y 0, 10, .inl (fun _ => 0))), (a2 4, .inl (y 0, 10, .inl (fun _ => 0))), (a3 0, .inr (2, [.ref (a3 1), .ref (a3 5), .ref (a3 7), .ref (a3 38), .ref (a3 41), .ref (a3 44), .ref (a3 49), .ref (a3 55), .int 24, .int 24, .int 24, .int 0])), (a3 1, .inr (0, [.ref (a3 2), .ref (a3 3), .ref (a3 4), .int 0, .int 0])), (a3 2, .inl (y 0, 10, .inl (fun _ => 0))), (a3 3, .inl (y 0, 10, .inl (fun _ => 0))), (a3 4, .inl (y 0, 10, .inl (fun _ => 0))), (a3 5, .inr (8, [.ref (a3 6)])), (a3 6, .inl (y 0, 14, .inl (va_cpy zz_first (fun _ => 0) 0 0 14))), (a3 7, .inl (y 3, 10, .inr (.inr (.inr (.inr (fun j => some (a3 (8 + 3 * j)))))))), (a3 8, .inr (6, [.ref (a3 9), .ref (a3 10), .int 0])), (a3 9, .inl (y 0, 24, .inl (fun k => if k < 24 then -1 else 0))), (a3 10, .inl (y 0, 24, .inl (fun k => if k < 24 then 0 else 0))), (a3 11, .inr (6, [.ref (a3 12), .ref (a3 13), .int 0])), (a3 12, .inl (y 0, 24, .inl (fun k => if k < 24 then -1 else 0))), (a3 13, .inl (y 0, 24, .inl (fun k => if k < 24 then 0 else 0))), (a3 14, .inr (6, [.ref (a3 15), .ref (a3 16), .int 0])), (a3 15, .inl (y 0, 24, .inl (fun k => if k < 24 then -1 else 0))), (a3 16, .inl (y 0, 24, .inl (fun k => if k < 24 then 0 else 0))), (a3 17, .inr (6, [.ref (a3 18), .ref (a3 19), .int 0])), (a3 18, .inl (y 0, 24, .inl (fun k => if k < 24 then -1 else 0))), (a3 19, .inl (y 0, 24, .inl (fun k => if k < 24 then 0 else 0))), (a3 20, .inr (6, [.ref (a3 21), .ref (a3 22), .int 0])), (a3 21, .inl (y 0, 24, .inl (fun k => if k < 24 then -1 else 0))), (a3 22, .inl (y 0, 24, .inl (fun k => if k < 24 then 0 else 0))), (a3 23, .inr (6, [.ref (a3 24), .ref (a3 25), .int 0])), (a3 24, .inl (y 0, 24, .inl (fun k => if k < 24 then -1 else 0))), (a3 25, .inl (y 0, 24, .inl (fun k => if k < 24 then 0 else 0))), (a3 26, .inr (6, [.ref (a3 27), .ref (a3 28), .int 0])), (a3 27, .inl (y 0, 24, .inl (fun k => if k < 24 then -1 else 0))), (a3 28, .inl (y 0, 24, .inl (fun k => if k < 24 then 0 else 0))), (a3 29, .inr (6, [.ref (a3 30), .ref (a3 31), .int 0])), (a3 30, .inl (y 0, 24, .inl (fun k => if k < 24 then -1 else 0))), (a3 31, .inl (y 0, 24, .inl (fun k => if k < 24 then 0 else 0))), (a3 32, .inr (6, [.ref (a3 33), .ref (a3 34), .int 0])), (a3 33, .inl (y 0, 24, .inl (fun k => if k < 24 then -1 else 0))), (a3 34, .inl (y 0, 24, .inl (fun k => if k < 24 then 0 else 0))), (a3 35, .inr (6, [.ref (a3 36), .ref (a3 37), .int 0])), (a3 36, .inl (y 0, 24, .inl (fun k => if k < 24 then -1 else 0))), (a3 37, .inl (y 0, 24, .inl (fun k => if k < 24 then 0 else 0))), (a3 38, .inr (6, [.ref (a3 39), .ref (a3 40), .int 0])), (a3 39, .inl (y 0, 24, .inl (fun k => if k < 24 then -1 else 0))), (a3 40, .inl (y 0, 24, .inl (fun k => if k < 24 then 0 else 0))), (a3 41, .inr (6, [.ref (a3 42), .ref (a3 43), .int 1000])), (a3 42, .inl (y 0, 24, .inl (fun k => if k < 24 then -1 else 0))), (a3 43, .inl (y 0, 24, .inl (fun k => if k < 24 then 1000 else 0))), (a3 44, .inr (3, [.ref (a3 45), .ref (a3 46), .ref (a3 47), .ref (a3 48), .int 0])), (a3 45, .inl (y 0, 8, .inl (fun _ => 0))), (a3 46, .inl (y 0, 8, .inl (fun _ => 0))), (a3 47, .inl (y 0, 8, .inl (fun _ => 0))), (a3 48, .inl (y 0, 8, .inl (fun _ => 0))), (a3 49, .inr (7, [.ref (a3 50), .ref (a3 51), .ref (a3 52), .ref (a3 53), .ref (a3 54), .int 0])), (a3 50, .inl (y 0, 6, .inl (fun _ => 0))), (a3 51, .inl (y 0, 6, .inl (fun _ => 0))), (a3 52, .inl (y 0, 6, .inl (fun _ => 0))), (a3 53, .inl (y 0, 6, .inl (fun _ => 0))), (a3 54, .inl (y 0, 6, .inl (fun _ => 0))), (a3 55, .inl (y 1, 24, .inr (.inl (fun _ => 0)))), (a4 0, .inr (4, [.ref (a4 1)])), (a4 1, .inl (y 4, 15, .inr (.inr (.inr (.inr (fun j => some (a4 (j + 2)))))))), (a4 2, .inl (y 1, 24, .inr (.inl (fun _ => 0)))), (a4 3, .inl (y 1, 24, .inr (.inl (fun _ => 0)))), (a4 4, .inl (y 1, 24, .inr (.inl (fun _ => 0)))), (a4 5, .inl (y 1, 24, .inr (.inl (fun _ => 0)))), (a4 6, .inl (y 1, 24, .inr (.inl (fun _ => 0)))), (a4 7, .inl (y 1, 24, .inr (.inl (fun _ => 0)))), (a4 8, .inl (y 1, 24, .inr (.inl (fun _ => 0)))), (a4 9, .inl (y 1, 24, .inr (.inl (fun _ => 0)))), (a4 10, .inl (y 1, 24, .inr (.inl (fun _ => 0)))), (a4 11, .inl (y 1, 24, .inr (.inl (fun _ => 0)))), (a4 12, .inl (y 1, 24, .inr (.inl (fun _ => 0)))), (a4 13, .inl (y 1, 24, .inr (.inl (fun _ => 0)))), (a4 14, .inl (y 1, 24, .inr (.inl (fun _ => 0)))), (a4 15, .inl (y 1, 24, .inr (.inl (fun _ => 0)))), (a4 16, .inl (y 1, 24, .inr (.inl (fun _ => 0)))), (a5 0, .inr (4, [.ref (a5 1)])), (a5 1, .inl (y 4, 15, .inr (.inr (.inr (.inr (fun j => some (a5 (j + 2)))))))), (a5 2, .inl (y 1, 24, .inr (.inl (fun _ => 0)))), (a5 3, .inl (y 1, 24, .inr (.inl (fun _ => 0)))), (a5 4, .inl (y 1, 24, .inr (.inl (fun _ => 0)))), (a5 5, .inl (y 1, 24, .inr (.inl (fun _ => 0)))), (a5 6, .inl (y 1, 24, .inr (.inl (fun _ => 0)))), (a5 7, .inl (y 1, 24, .inr (.inl (fun _ => 0)))), (a5 8, .inl (y 1, 24, .inr (.inl (fun _ => 0)))), (a5 9, .inl (y 1, 24, .inr (.inl (fun _ => 0)))), (a5 10, .inl (y 1, 24, .inr (.inl (fun _ => 0)))), (a5 11, .inl (y 1, 24, .inr (.inl (fun _ => 0)))), (a5 12, .inl (y 1, 24, .inr (.inl (fun _ => 0)))), (a5 13, .inl (y 1, 24, .inr (.inl (fun _ => 0)))), (a5 14, .inl (y 1, 24, .inr (.inl (fun _ => 0)))), (a5 15, .inl (y 1, 24, .inr (.inl (fun _ => 0)))), (a5 16, .inl (y 1, 24, .inr (.inl (fun _ => 0)))), (q6, .inl (y 1, 24, .inr (.inl (fun _ => 0)))), (a7 0, .inr (5, [.ref (a7 1), .int 0])), (a7 1, .inl (y 1, 5, .inr (.inl (fun _ => 0))))] H := hP
  have hD : va_D A [(h0, .inr (10, [.ref (a1 0), .ref (a2 0), .ref (a3 0), .ref (a4 0), .ref (a5 0), .ref q6, .ref (a7 0)])), (a1 0, .inr (9, [.ref (a1 1), .int 0])), (a1 1, .inl (y 0, 120, .inl (fun _ => 0))), (a2 0, .inr (1, [.ref (a2 1), .int 0])), (a2 1, .inr (0, [.ref (a2 2), .ref (a2 3), .ref (a2 4), .int 0, .int 0])), (a2 2, .inl (y 0, 10, .inl (fun _ => 0))), (a2 3, .inl (y 0, 10, .inl (fun _ => 0))), (a2 4, .inl (y 0, 10, .inl (fun _ => 0))), (a3 0, .inr (2, [.ref (a3 1), .ref (a3 5), .ref (a3 7), .ref (a3 38), .ref (a3 41), .ref (a3 44), .ref (a3 49), .ref (a3 55), .int 24, .int 24, .int 24, .int 0])), (a3 1, .inr (0, [.ref (a3 2), .ref (a3 3), .ref (a3 4), .int 0, .int 0])), (a3 2, .inl (y 0, 10, .inl (fun _ => 0))), (a3 3, .inl (y 0, 10, .inl (fun _ => 0))), (a3 4, .inl (y 0, 10, .inl (fun _ => 0))), (a3 5, .inr (8, [.ref (a3 6)])), (a3 6, .inl (y 0, 14, .inl (va_cpy zz_first (fun _ => 0) 0 0 14))), (a3 7, .inl (y 3, 10, .inr (.inr (.inr (.inr (fun j => some (a3 (8 + 3 * j)))))))), (a3 8, .inr (6, [.ref (a3 9), .ref (a3 10), .int 0])), (a3 9, .inl (y 0, 24, .inl (fun k => if k < 24 then -1 else 0))), (a3 10, .inl (y 0, 24, .inl (fun k => if k < 24 then 0 else 0))), (a3 11, .inr (6, [.ref (a3 12), .ref (a3 13), .int 0])), (a3 12, .inl (y 0, 24, .inl (fun k => if k < 24 then -1 else 0))), (a3 13, .inl (y 0, 24, .inl (fun k => if k < 24 then 0 else 0))), (a3 14, .inr (6, [.ref (a3 15), .ref (a3 16), .int 0])), (a3 15, .inl (y 0, 24, .inl (fun k => if k < 24 then -1 else 0))), (a3 16, .inl (y 0, 24, .inl (fun k => if k < 24 then 0 else 0))), (a3 17, .inr (6, [.ref (a3 18), .ref (a3 19), .int 0])), (a3 18, .inl (y 0, 24, .inl (fun k => if k < 24 then -1 else 0))), (a3 19, .inl (y 0, 24, .inl (fun k => if k < 24 then 0 else 0))), (a3 20, .inr (6, [.ref (a3 21), .ref (a3 22), .int 0])), (a3 21, .inl (y 0, 24, .inl (fun k => if k < 24 then -1 else 0))), (a3 22, .inl (y 0, 24, .inl (fun k => if k < 24 then 0 else 0))), (a3 23, .inr (6, [.ref (a3 24), .ref (a3 25), .int 0])), (a3 24, .inl (y 0, 24, .inl (fun k => if k < 24 then -1 else 0))), (a3 25, .inl (y 0, 24, .inl (fun k => if k < 24 then 0 else 0))), (a3 26, .inr (6, [.ref (a3 27), .ref (a3 28), .int 0])), (a3 27, .inl (y 0, 24, .inl (fun k => if k < 24 then -1 else 0))), (a3 28, .inl (y 0, 24, .inl (fun k => if k < 24 then 0 else 0))), (a3 29, .inr (6, [.ref (a3 30), .ref (a3 31), .int 0])), (a3 30, .inl (y 0, 24, .inl (fun k => if k < 24 then -1 else 0))), (a3 31, .inl (y 0, 24, .inl (fun k => if k < 24 then 0 else 0))), (a3 32, .inr (6, [.ref (a3 33), .ref (a3 34), .int 0])), (a3 33, .inl (y 0, 24, .inl (fun k => if k < 24 then -1 else 0))), (a3 34, .inl (y 0, 24, .inl (fun k => if k < 24 then 0 else 0))), (a3 35, .inr (6, [.ref (a3 36), .ref (a3 37), .int 0])), (a3 36, .inl (y 0, 24, .inl (fun k => if k < 24 then -1 else 0))), (a3 37, .inl (y 0, 24, .inl (fun k => if k < 24 then 0 else 0))), (a3 38, .inr (6, [.ref (a3 39), .ref (a3 40), .int 0])), (a3 39, .inl (y 0, 24, .inl (fun k => if k < 24 then -1 else 0))), (a3 40, .inl (y 0, 24, .inl (fun k => if k < 24 then 0 else 0))), (a3 41, .inr (6, [.ref (a3 42), .ref (a3 43), .int 1000])), (a3 42, .inl (y 0, 24, .inl (fun k => if k < 24 then -1 else 0))), (a3 43, .inl (y 0, 24, .inl (fun k => if k < 24 then 1000 else 0))), (a3 44, .inr (3, [.ref (a3 45), .ref (a3 46), .ref (a3 47), .ref (a3 48), .int 0])), (a3 45, .inl (y 0, 8, .inl (fun _ => 0))), (a3 46, .inl (y 0, 8, .inl (fun _ => 0))), (a3 47, .inl (y 0, 8, .inl (fun _ => 0))), (a3 48, .inl (y 0, 8, .inl (fun _ => 0))), (a3 49, .inr (7, [.ref (a3 50), .ref (a3 51), .ref (a3 52), .ref (a3 53), .ref (a3 54), .int 0])), (a3 50, .inl (y 0, 6, .inl (fun _ => 0))), (a3 51, .inl (y 0, 6, .inl (fun _ => 0))), (a3 52, .inl (y 0, 6, .inl (fun _ => 0))), (a3 53, .inl (y 0, 6, .inl (fun _ => 0))), (a3 54, .inl (y 0, 6, .inl (fun _ => 0))), (a3 55, .inl (y 1, 24, .inr (.inl (fun _ => 0)))), (a4 0, .inr (4, [.ref (a4 1)])), (a4 1, .inl (y 4, 15, .inr (.inr (.inr (.inr (fun j => some (a4 (j + 2)))))))), (a4 2, .inl (y 1, 24, .inr (.inl (fun _ => 0)))), (a4 3, .inl (y 1, 24, .inr (.inl (fun _ => 0)))), (a4 4, .inl (y 1, 24, .inr (.inl (fun _ => 0)))), (a4 5, .inl (y 1, 24, .inr (.inl (fun _ => 0)))), (a4 6, .inl (y 1, 24, .inr (.inl (fun _ => 0)))), (a4 7, .inl (y 1, 24, .inr (.inl (fun _ => 0)))), (a4 8, .inl (y 1, 24, .inr (.inl (fun _ => 0)))), (a4 9, .inl (y 1, 24, .inr (.inl (fun _ => 0)))), (a4 10, .inl (y 1, 24, .inr (.inl (fun _ => 0)))), (a4 11, .inl (y 1, 24, .inr (.inl (fun _ => 0)))), (a4 12, .inl (y 1, 24, .inr (.inl (fun _ => 0)))), (a4 13, .inl (y 1, 24, .inr (.inl (fun _ => 0)))), (a4 14, .inl (y 1, 24, .inr (.inl (fun _ => 0)))), (a4 15, .inl (y 1, 24, .inr (.inl (fun _ => 0)))), (a4 16, .inl (y 1, 24, .inr (.inl (fun _ => 0)))), (a5 0, .inr (4, [.ref (a5 1)])), (a5 1, .inl (y 4, 15, .inr (.inr (.inr (.inr (fun j => some (a5 (j + 2)))))))), (a5 2, .inl (y 1, 24, .inr (.inl (fun _ => 0)))), (a5 3, .inl (y 1, 24, .inr (.inl (fun _ => 0)))), (a5 4, .inl (y 1, 24, .inr (.inl (fun _ => 0)))), (a5 5, .inl (y 1, 24, .inr (.inl (fun _ => 0)))), (a5 6, .inl (y 1, 24, .inr (.inl (fun _ => 0)))), (a5 7, .inl (y 1, 24, .inr (.inl (fun _ => 0)))), (a5 8, .inl (y 1, 24, .inr (.inl (fun _ => 0)))), (a5 9, .inl (y 1, 24, .inr (.inl (fun _ => 0)))), (a5 10, .inl (y 1, 24, .inr (.inl (fun _ => 0)))), (a5 11, .inl (y 1, 24, .inr (.inl (fun _ => 0)))), (a5 12, .inl (y 1, 24, .inr (.inl (fun _ => 0)))), (a5 13, .inl (y 1, 24, .inr (.inl (fun _ => 0)))), (a5 14, .inl (y 1, 24, .inr (.inl (fun _ => 0)))), (a5 15, .inl (y 1, 24, .inr (.inl (fun _ => 0)))), (a5 16, .inl (y 1, 24, .inr (.inl (fun _ => 0)))), (q6, .inl (y 1, 24, .inr (.inl (fun _ => 0)))), (a7 0, .inr (5, [.ref (a7 1), .int 0])), (a7 1, .inl (y 1, 5, .inr (.inl (fun _ => 0))))] := hD
  obtain ⟨a, ea⟩ : ∃ a : Nat → Nat, a = fun k => [h0, a1 0, a1 1, a2 0, a2 1, a2 2, a2 3, a2 4, a3 0, a3 1, a3 2, a3 3, a3 4, a3 5, a3 6, a3 7, a3 8, a3 9, a3 10, a3 11, a3 12, a3 13, a3 14, a3 15, a3 16, a3 17, a3 18, a3 19, a3 20, a3 21, a3 22, a3 23, a3 24, a3 25, a3 26, a3 27, a3 28, a3 29, a3 30, a3 31, a3 32, a3 33, a3 34, a3 35, a3 36, a3 37, a3 38, a3 39, a3 40, a3 41, a3 42, a3 43, a3 44, a3 45, a3 46, a3 47, a3 48, a3 49, a3 50, a3 51, a3 52, a3 53, a3 54, a3 55, a4 0, a4 1, a4 2, a4 3, a4 4, a4 5, a4 6, a4 7, a4 8, a4 9, a4 10, a4 11, a4 12, a4 13, a4 14, a4 15, a4 16, a5 0, a5 1, a5 2, a5 3, a5 4, a5 5, a5 6, a5 7, a5 8, a5 9, a5 10, a5 11, a5 12, a5 13, a5 14, a5 15, a5 16, q6, a7 0, a7 1].getD k 0 := ⟨_, rfl⟩
  have hP := zz_swapE (k := 15) (f' := fun j => some (a (16 + 3 * j))) hP rfl (fun j hj => by
      subst ea
      match j, hj with
      | 0, _ => rfl
      | 1, _ => rfl
      | 2, _ => rfl
      | 3, _ => rfl
      | 4, _ => rfl
      | 5, _ => rfl
      | 6, _ => rfl
      | 7, _ => rfl
      | 8, _ => rfl
      | 9, _ => rfl
      )
  have hD := hD.set (p := 15) (e := .inl (y 3, 10, .inr (.inr (.inr (.inr (fun j => some (a (16 + 3 * j)))))))) rfl
  have hP := zz_swapE (k := 65) (f' := fun j => some (a (64 + 2 + j))) hP rfl (fun j hj => by
      subst ea
      match j, hj with
      | 0, _ => rfl
      | 1, _ => rfl
      | 2, _ => rfl
      | 3, _ => rfl
      | 4, _ => rfl
      | 5, _ => rfl
      | 6, _ => rfl
      | 7, _ => rfl
      | 8, _ => rfl
      | 9, _ => rfl
      | 10, _ => rfl
      | 11, _ => rfl
      | 12, _ => rfl
      | 13, _ => rfl
      | 14, _ => rfl
      )
  have hD := hD.set (p := 65) (e := .inl (y 4, 15, .inr (.inr (.inr (.inr (fun j => some (a (64 + 2 + j)))))))) rfl
  have hP := zz_swapE (k := 82) (f' := fun j => some (a (81 + 2 + j))) hP rfl (fun j hj => by
      subst ea
      match j, hj with
      | 0, _ => rfl
      | 1, _ => rfl
      | 2, _ => rfl
      | 3, _ => rfl
      | 4, _ => rfl
      | 5, _ => rfl
      | 6, _ => rfl
      | 7, _ => rfl
      | 8, _ => rfl
      | 9, _ => rfl
      | 10, _ => rfl
      | 11, _ => rfl
      | 12, _ => rfl
      | 13, _ => rfl
      | 14, _ => rfl
      )
  have hD := hD.set (p := 82) (e := .inl (y 4, 15, .inr (.inr (.inr (.inr (fun j => some (a (81 + 2 + j)))))))) rfl
  have hP9 : va_P D vwCl (wC y a zz_z0) H := by
    subst ea
    exact hP
  have hD9 : va_D A (wC y a zz_z0) := by
    subst ea
    exact hD
  have e0 : a 0 = h0 := by rw [ea]; rfl
  exact W.vret hx hb hr (fun t ht hW => ⟨⟨a, rfl, e0, by rw [ht]; exact hP9, va_K.moved hW.alike hK, hD9⟩, hS.F ht⟩) hS.2.2 dX10_init_78
