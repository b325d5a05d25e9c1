def mX10_bill_b38 (v1 : Int32) (z : zz_M) : Option (Int32 × zz_M) := some (v1, z)
def mX10_bill (z : zz_M) : Option (Int32 × zz_M) := zz_b2 (mX1_read z) (fun r1 z3 => zz_nm (zz_sF z3 65 (0 : Int32)) (fun z4 => if r1 < (0 : Int32) then (mX10_bill_b38 r1 z4) else (zz_b2 (mX2_startWith 4 z4) (fun r6 z8 => mX10_bill_b38 r1 z8))))
theorem nX10_bill_X1 : ∀ w ∈ wsX10, w ∈ wsX10_bill := fun _ h => List.mem_cons_of_mem _ (List.mem_append_left _ (List.mem_append_left _ (List.mem_append_left _ (List.mem_append_left _ (List.mem_append_left _ (List.mem_append_right _ (h)))))))
theorem nX10_bill_X10 : ∀ w ∈ wsX100, w ∈ wsX10_bill := fun _ h => List.mem_cons_of_mem _ (List.mem_append_left _ (List.mem_append_left _ (List.mem_append_left _ (List.mem_append_left _ (List.mem_append_left _ (List.mem_append_left _ (List.mem_append_left _ (List.mem_append_right _ (h)))))))))
theorem nX10_bill_X9 : ∀ w ∈ wsX90, w ∈ wsX10_bill := fun _ h => List.mem_cons_of_mem _ (List.mem_append_left _ (List.mem_append_left _ (List.mem_append_left _ (List.mem_append_left _ (List.mem_append_left _ (List.mem_append_left _ (List.mem_append_right _ (h))))))))
theorem zdX10_bill : yX10_bill.cls = RX10 ∧ yX10_bill.cls ≠ "java/lang/invoke/MethodHandle" ∧ yX10_bill.cls ≠ "java/lang/invoke/VarHandle" ∧ (parseMethodDescriptor yX10_bill.desc).map (fun d => d.parameters.length) = some 0 := by decide +kernel
set_option maxHeartbeats 4000000 in
set_option maxRecDepth 100000 in
theorem zX10_bill (l : Launch) (D : va_G) (y : Nat → ClassId) (a : Nat → Nat) (sz : Nat) (z : zz_M) {r : Int32} {zt : zz_M} (hm : mX10_bill z = some (r, zt)) : Met l yX10_bill wsX10_bill { frames := 5, cells := 0, slots := 0, locals := 112 } (zz_Pc D y (wC y a z) sz [.ref (a 0)]) (zz_Qi D y (wC y a) (va_A (wC y a z) sz) r zt) 0 0 (va_A (wC y a z) sz) := by
  refine Met.ofW (cc := cX10_bill) (maxL := 2) (ret := (some .int)) (by decide) rfl ?_
  intro p e s m args below meth c s₁ B hml hv
  obtain ⟨rfl, hsz, hP, hK, hD0, hN, hg⟩ := hv
  have hx := B.exec
  have hb := B.bytes
  have hr := B.returns
  have hts := atoms_spec (ws := wsX10_bill) B.pre
  have hown : s.vm.findClass RX10 = some m.cls := findClass_of_methodNamed B.named
  have hlocks := B.notSynchronized
  clear B
  subst hsz
  have hD := hD0.self (sz := s.heap.size)
  generalize hAe : va_A (wC y a z) s.heap.size = A at hD hg ⊢
  have hA : ∀ q : Nat, s.heap.size ≤ q → A q := fun q h => by rw [← hAe]; exact Or.inr h
  clear hAe hD0
  have hl := lv_entry ([.ref (a 0)]) (n := 2) (Nat.le_of_ble_eq_true rfl)
  rw [lg_entry_eq]
  generalize (lg_sl ([.ref (a 0)]) ++ List.replicate (2 - (lg_sl ([.ref (a 0)])).length) Slot.unset).toArray = ls at hl ⊢
  replace hl : lv_has ls 2 [(0, .ref (a 0))] := hl
  refine zz_go (w := wC y a) hP hD va_S.rf hl (fun G hG => ?_)
  clear hP hD hl ls
  have J38 : ∀ (v1 : Int32) (z : zz_M), mX10_bill_b38 v1 z = some (r, zt) → G 38 [(1, .int v1)] [] z := by
    intro v1 z hm
    rw [mX10_bill_b38] at hm
    rw [hG]
    intro H locs ls hP hD hS hl
    refine lv_iload_n hx hb dX10_bill_38 rfl (lv_at hl 0 rfl) ?_
    exact zz_iret hx hb hr hlocks (zz_some2 hm) hP hK hD hS dX10_bill_39
  rw [hG]
  intro H locs ls hP hD hS hl
  unfold mX10_bill at hm
  refine lv_aload_n hx hb dX10_bill_0 rfl (lv_at hl 0 rfl) ?_
  refine va_get (D := D) (ci := 10) (v := .ref (a 3)) (C := RX10) (T := TX10) (N := 7) hx hb hts nX10_bill_X10 hown hK hP 0 (wC_0 y a z) rfl 1 (by decide) (hts (.fieldLink RX10 19 "WorksDesk" "reader" "LWorksDesk$BillReader;") (List.mem_of_getElem? (i := 1) rfl)) (fun _ h9 => h9) rfl dX10_bill_1 ?_
  refine lv_aload_n hx hb dX10_bill_4 rfl (lv_at hl 0 rfl) ?_
  refine va_get (D := D) (ci := 10) (v := .ref (a 1)) (C := RX10) (T := TX10) (N := 7) hx hb hts nX10_bill_X10 hown hK hP 0 (wC_0 y a z) rfl 0 (by decide) (hts (.fieldLink RX10 12 "WorksDesk" "text" "LWorksDesk$Text;") (List.mem_of_getElem? (i := 2) rfl)) (fun _ h9 => h9) rfl dX10_bill_5 ?_
  obtain ⟨r1, z3, h2, hm⟩ := zz_b2_some hm
  refine zz_calli (zz_runV (w := wC y a) (As := [.ref (a 1)]) (rest := []) ⟨hx, hb, hml, hown, hts⟩ (zX1_read l D y a H.size z h2) (cwV 1 hts gX10_bill_X1_read rfl rfl rfl zdX1_read ⟨Nat.le_of_ble_eq_true rfl, Nat.le_of_ble_eq_true rfl⟩) hK hN hg hP hD hS hA 3 (wC_3 y a z) rfl rfl hl.1 rfl (Nat.le_of_ble_eq_true rfl) dX10_bill_8 ⟨Nat.le_of_ble_eq_true rfl, Nat.le_of_ble_eq_true rfl⟩) hD hS hA (fun H locs hP hD hS => ?_)
  refine lv_istore_n (lv' := [(1, .int r1), (0, .ref (a 0))]) hx hb dX10_bill_11 rfl hl (by decide) rfl (fun ls hl => ?_)
  refine lv_aload_n hx hb dX10_bill_12 rfl (lv_at hl 1 rfl) ?_
  refine va_get (D := D) (ci := 10) (v := .ref (a 1)) (C := RX10) (T := TX10) (N := 7) hx hb hts nX10_bill_X10 hown hK hP 0 (wC_0 y a z3) rfl 0 (by decide) (hts (.fieldLink RX10 12 "WorksDesk" "text" "LWorksDesk$Text;") (List.mem_of_getElem? (i := 2) rfl)) (fun _ h9 => h9) rfl dX10_bill_13 ?_
  refine lv_iconst (v := (0 : Int32)) hx hb dX10_bill_16 (by decide) ?_
  refine va_put (D := D) (ci := 9) (v := .int (0 : Int32)) (ty := .int) (C := RX9) (T := TX9) (N := 2) hx hb hts nX10_bill_X9 tyX9 tyX9_ok nmX9 hown hK hP hD hS 1 (wC_1 y a z3) rfl 1 (by decide) (hts (.fieldLink RX10 55 "WorksDesk$Text" "size" "I") (List.mem_of_getElem? (i := 3) rfl)) (fun _ h9 => h9) rfl (tyX9_ok 1 (by decide)) rfl rfl (Nat.le_of_ble_eq_true rfl) dX10_bill_17 (fun H locs hP hD hS => ?_)
  obtain ⟨z4, hP, hD, hm⟩ := zz_up (w := wC y a) (wC_f1_1 y a z3 (0 : Int32)) hP hD hm
  refine lv_iload_n hx hb dX10_bill_20 rfl (lv_at hl 0 rfl) ?_
  refine lv_if_lt (tgt := 38) hx hb dX10_bill_21 (by decide) (fun c5 => ?_) (fun c5 => ?_)
  · replace hm := zz_pos c5 hm
    have j := J38 r1 z4 hm
    rw [hG] at j
    exact j H locs ls hP hD hS (lv_sub hl [0] rfl)
  · replace hm := zz_neg c5 hm
    refine lv_aload_n hx hb dX10_bill_24 rfl (lv_at hl 1 rfl) ?_
    refine va_get (D := D) (ci := 10) (v := .ref (a 8)) (C := RX10) (T := TX10) (N := 7) hx hb hts nX10_bill_X10 hown hK hP 0 (wC_0 y a z4) rfl 2 (by decide) (hts (.fieldLink RX10 26 "WorksDesk" "book" "LWorksDesk$Book;") (List.mem_of_getElem? (i := 4) rfl)) (fun _ h9 => h9) rfl dX10_bill_25 ?_
    refine lv_aload_n hx hb dX10_bill_28 rfl (lv_at hl 1 rfl) ?_
    refine va_get (D := D) (ci := 10) (v := .ref (a 3)) (C := RX10) (T := TX10) (N := 7) hx hb hts nX10_bill_X10 hown hK hP 0 (wC_0 y a z4) rfl 1 (by decide) (hts (.fieldLink RX10 19 "WorksDesk" "reader" "LWorksDesk$BillReader;") (List.mem_of_getElem? (i := 1) rfl)) (fun _ h9 => h9) rfl dX10_bill_29 ?_
    refine va_get (D := D) (ci := 1) (v := .ref (a 4)) (C := RX1) (T := TX1) (N := 2) hx hb hts nX10_bill_X1 hown hK hP 3 (wC_3 y a z4) rfl 0 (by decide) (hts (.fieldLink RX10 66 "WorksDesk$BillReader" "draft" "LWorksDesk$Bill;") (List.mem_of_getElem? (i := 5) rfl)) (fun _ h9 => h9) rfl dX10_bill_32 ?_
    obtain ⟨r6, z8, h7, hm⟩ := zz_b2_some hm
    refine zz_callv (zz_runV (w := wC y a) (As := [.ref (a 4)]) (rest := []) ⟨hx, hb, hml, hown, hts⟩ (zX2_startWith l D y a H.size 4 (Or.inl rfl) z4 h7) (cwV 1 hts gX10_bill_X2_startWith rfl rfl rfl zdX2_startWith ⟨Nat.le_of_ble_eq_true rfl, Nat.le_of_ble_eq_true rfl⟩) hK hN hg hP hD hS hA 8 (wC_8 y a z4) rfl rfl hl.1 rfl (Nat.le_of_ble_eq_true rfl) dX10_bill_35 ⟨Nat.le_of_ble_eq_true rfl, Nat.le_of_ble_eq_true rfl⟩) hD hS hA (fun H locs hP hD hS => ?_)
    have j := J38 r1 z8 hm
    rw [hG] at j
    exact j H locs ls hP hD hS (lv_sub hl [0] rfl)
def mX10_isRate (x0 : Int32) : Option Int32 := zz_b1 (mX10_isWithin x0 (0 : Int32) (999 : Int32)) (fun r1 => zz_ck (zz_bool r1) (some r1))
theorem zdX10_isRate : yX10_isRate.cls ≠ "java/lang/invoke/MethodHandle" ∧ yX10_isRate.cls ≠ "java/lang/invoke/VarHandle" ∧ (parseMethodDescriptor yX10_isRate.desc).map (fun d => d.parameters.length) = some 1 := by decide +kernel
set_option maxHeartbeats 4000000 in
set_option maxRecDepth 100000 in
theorem zX10_isRate (l : Launch) (D : va_G) (y : Nat → ClassId) (a : Nat → Nat) (sz : Nat) (x0 : Int32) (z : zz_M) {r : Int32} (hm : mX10_isRate x0 = some r) : Met l yX10_isRate wsX10_isRate { frames := 1, cells := 0, slots := 0, locals := 22 } (zz_Pc D y (wC y a z) sz [.int x0]) (zz_Qi D y (wC y a) (va_A (wC y a z) sz) r z) 0 0 (va_A (wC y a z) sz) := by
  refine Met.ofW (cc := cX10_isRate) (maxL := 1) (ret := (some .boolean)) (by decide) rfl ?_
  intro p e s m args below meth c s₁ B hml hv
  obtain ⟨rfl, hsz, hP, hK, hD0, hN, hg⟩ := hv
  have hx := B.exec
  have hb := B.bytes
  have hr := B.returns
  have hts := atoms_spec (ws := wsX10_isRate) B.pre
  have hown : s.vm.findClass RX10 = some m.cls := findClass_of_methodNamed B.named
  have hlocks := B.notSynchronized
  clear B
  subst hsz
  have hD := hD0.self (sz := s.heap.size)
  generalize hAe : va_A (wC y a z) s.heap.size = A at hD hg ⊢
  have hA : ∀ q : Nat, s.heap.size ≤ q → A q := fun q h => by rw [← hAe]; exact Or.inr h
  clear hAe hD0
  have hl := lv_entry ([.int x0]) (n := 1) (Nat.le_of_ble_eq_true rfl)
  rw [lg_entry_eq]
  generalize (lg_sl ([.int x0]) ++ List.replicate (1 - (lg_sl ([.int x0])).length) Slot.unset).toArray = ls at hl ⊢
  replace hl : lv_has ls 1 [(0, .int x0)] := hl
  refine zz_go (w := wC y a) hP hD va_S.rf hl (fun G hG => ?_)
  clear hP hD hl ls
  rw [hG]
  intro H locs ls hP hD hS hl
  unfold mX10_isRate at hm
  refine lv_iload_n hx hb dX10_isRate_0 rfl (lv_at hl 0 rfl) ?_
  refine lv_iconst (v := (0 : Int32)) hx hb dX10_isRate_1 (by decide) ?_
  refine lv_sipush (v := (999 : Int32)) hx hb dX10_isRate_2 (by decide) ?_
  obtain ⟨r1, h2, hm⟩ := zz_b1_some hm
  refine zz_calli (zz_runS (w := wC y a) (As := [.int x0, .int (0 : Int32), .int (999 : Int32)]) (rest := []) ⟨hx, hb, hml, hown, hts⟩ (zX10_isWithin l D y a H.size x0 (0 : Int32) (999 : Int32) z h2) (va_cwS 3 hts gX10_isRate_X10_isWithin rfl rfl rfl zdX10_isWithin ⟨Nat.le_of_ble_eq_true rfl, Nat.le_of_ble_eq_true rfl⟩) hK hN hg hP hD hS hA rfl hl.1 rfl (Nat.le_of_ble_eq_true rfl) dX10_isRate_5 ⟨Nat.le_of_ble_eq_true rfl, Nat.le_of_ble_eq_true rfl⟩) hD hS hA (fun H locs hP hD hS => ?_)
  obtain ⟨c3, hm⟩ := zz_ck_some hm
  exact zz_zret hx hb hr hlocks c3 ⟨zz_some1 hm, rfl⟩ hP hK hD hS dX10_isRate_8
def mX3_add (x1 : Int32) (x2 : Int32) (x3 : Int32) (x4 : Int32) (z : zz_M) : Option (Int32 × zz_M) := if (z.2.2.1 3332) < (8 : Int32) then (zz_ck (zz_in (z.2.2.1 3332) 8) (zz_nm (zz_wI z 53 (z.2.2.1 3332) x1) (fun z3 => zz_ck (zz_in (z3.2.2.1 3332) 8) (zz_nm (zz_wI z3 54 (z3.2.2.1 3332) x2) (fun z5 => zz_ck (zz_in (z5.2.2.1 3332) 8) (zz_nm (zz_wI z5 55 (z5.2.2.1 3332) x3) (fun z7 => zz_ck (zz_in (z7.2.2.1 3332) 8) (zz_nm (zz_wI z7 56 (z7.2.2.1 3332) x4) (fun z9 => zz_nm (zz_sF z9 3332 ((z9.2.2.1 3332) + (1 : Int32))) (fun z10 => some ((z10.2.2.1 3332) - (1 : Int32), z10))))))))))) else (some ((-1 : Int32), z))
theorem nX3_add_X3 : ∀ w ∈ wsX30, w ∈ wsX3_add := fun _ h => List.mem_cons_of_mem _ (List.mem_append_right _ (h))
theorem zdX3_add : yX3_add.cls = RX3 ∧ yX3_add.cls ≠ "java/lang/invoke/MethodHandle" ∧ yX3_add.cls ≠ "java/lang/invoke/VarHandle" ∧ (parseMethodDescriptor yX3_add.desc).map (fun d => d.parameters.length) = some 4 := by decide +kernel
set_option maxHeartbeats 4000000 in
set_option maxRecDepth 100000 in
theorem zX3_add (l : Launch) (D : va_G) (y : Nat → ClassId) (a : Nat → Nat) (sz : Nat) (x1 : Int32) (x2 : Int32) (x3 : Int32) (x4 : Int32) (z : zz_M) {r : Int32} {zt : zz_M} (hm : mX3_add x1 x2 x3 x4 z = some (r, zt)) : Met l yX3_add wsX3_add { frames := 0, cells := 0, slots := 0, locals := 0 } (zz_Pc D y (wC y a z) sz [.ref (a 52), .int x1, .int x2, .int x3, .int x4]) (zz_Qi D y (wC y a) (va_A (wC y a z) sz) r zt) 0 0 (va_A (wC y a z) sz) := by
  refine Met.ofW (cc := cX3_add) (maxL := 5) (ret := (some .int)) (by decide) rfl ?_
  intro p e s m args below meth c s₁ B hml hv
  obtain ⟨rfl, hsz, hP, hK, hD0, hN, hg⟩ := hv
  have hx := B.exec
  have hb := B.bytes
  have hr := B.returns
  have hts := atoms_spec (ws := wsX3_add) B.pre
  have hown : s.vm.findClass RX3 = some m.cls := findClass_of_methodNamed B.named
  have hlocks := B.notSynchronized
  clear B
  subst hsz
  have hD := hD0.self (sz := s.heap.size)
  generalize hAe : va_A (wC y a z) s.heap.size = A at hD hg ⊢
  have hA : ∀ q : Nat, s.heap.size ≤ q → A q := fun q h => by rw [← hAe]; exact Or.inr h
  clear hAe hD0
  have hl := lv_entry ([.ref (a 52), .int x1, .int x2, .int x3, .int x4]) (n := 5) (Nat.le_of_ble_eq_true rfl)
  rw [lg_entry_eq]
  generalize (lg_sl ([.ref (a 52), .int x1, .int x2, .int x3, .int x4]) ++ List.replicate (5 - (lg_sl ([.ref (a 52), .int x1, .int x2, .int x3, .int x4])).length) Slot.unset).toArray = ls at hl ⊢
  replace hl : lv_has ls 5 [(0, .ref (a 52)), (1, .int x1), (2, .int x2), (3, .int x3), (4, .int x4)] := hl
  refine zz_go (w := wC y a) hP hD va_S.rf hl (fun G hG => ?_)
  clear hP hD hl ls
  rw [hG]
  intro H locs ls hP hD hS hl
  unfold mX3_add at hm
  refine lv_aload_n hx hb dX3_add_0 rfl (lv_at hl 0 rfl) ?_
  refine va_get (D := D) (ci := 3) (v := .int (z.2.2.1 3332)) (C := RX3) (T := TX3) (N := 5) hx hb hts nX3_add_X3 hown hK hP 52 (wC_52 y a z) rfl 4 (by decide) (hts (.fieldLink RX3 24 "WorksDesk$Changes" "size" "I") (List.mem_of_getElem? (i := 1) rfl)) (fun _ h9 => h9) rfl dX3_add_1 ?_
  refine lv_bipush (v := (8 : Int32)) hx hb dX3_add_4 (by decide) ?_
  refine lv_icmp_lt (tgt := 11) hx hb dX3_add_6 (by decide) (fun c1 => ?_) (fun c1 => ?_)
  · replace hm := zz_pos c1 hm
    refine lv_aload_n hx hb dX3_add_11 rfl (lv_at hl 0 rfl) ?_
    refine va_get (D := D) (ci := 3) (v := .ref (a 53)) (C := RX3) (T := TX3) (N := 5) hx hb hts nX3_add_X3 hown hK hP 52 (wC_52 y a z) rfl 0 (by decide) (hts (.fieldLink RX3 9 "WorksDesk$Changes" "months" "[I") (List.mem_of_getElem? (i := 2) rfl)) (fun _ h9 => h9) rfl dX3_add_12 ?_
    refine lv_aload_n hx hb dX3_add_15 rfl (lv_at hl 0 rfl) ?_
    refine va_get (D := D) (ci := 3) (v := .int (z.2.2.1 3332)) (C := RX3) (T := TX3) (N := 5) hx hb hts nX3_add_X3 hown hK hP 52 (wC_52 y a z) rfl 4 (by decide) (hts (.fieldLink RX3 24 "WorksDesk$Changes" "size" "I") (List.mem_of_getElem? (i := 1) rfl)) (fun _ h9 => h9) rfl dX3_add_16 ?_
    refine lv_iload_n hx hb dX3_add_19 rfl (lv_at hl 1 rfl) ?_
    obtain ⟨c2, hm⟩ := zz_ck_some hm
    refine va_iast hx hb hK hP hD hS 53 0 (wC_53 y a z) rfl c2 dX3_add_20 (fun H locs hP hD hS => ?_)
    obtain ⟨z3, hP, hD, hm⟩ := zz_up (w := wC y a) (wC_w53 y a z (z.2.2.1 3332) x1) hP hD hm
    refine lv_aload_n hx hb dX3_add_21 rfl (lv_at hl 0 rfl) ?_
    refine va_get (D := D) (ci := 3) (v := .ref (a 54)) (C := RX3) (T := TX3) (N := 5) hx hb hts nX3_add_X3 hown hK hP 52 (wC_52 y a z3) rfl 1 (by decide) (hts (.fieldLink RX3 15 "WorksDesk$Changes" "kinds" "[I") (List.mem_of_getElem? (i := 3) rfl)) (fun _ h9 => h9) rfl dX3_add_22 ?_
    refine lv_aload_n hx hb dX3_add_25 rfl (lv_at hl 0 rfl) ?_
    refine va_get (D := D) (ci := 3) (v := .int (z3.2.2.1 3332)) (C := RX3) (T := TX3) (N := 5) hx hb hts nX3_add_X3 hown hK hP 52 (wC_52 y a z3) rfl 4 (by decide) (hts (.fieldLink RX3 24 "WorksDesk$Changes" "size" "I") (List.mem_of_getElem? (i := 1) rfl)) (fun _ h9 => h9) rfl dX3_add_26 ?_
    refine lv_iload_n hx hb dX3_add_29 rfl (lv_at hl 2 rfl) ?_
    obtain ⟨c4, hm⟩ := zz_ck_some hm
    refine va_iast hx hb hK hP hD hS 54 0 (wC_54 y a z3) rfl c4 dX3_add_30 (fun H locs hP hD hS => ?_)
    obtain ⟨z5, hP, hD, hm⟩ := zz_up (w := wC y a) (wC_w54 y a z3 (z3.2.2.1 3332) x2) hP hD hm
    refine lv_aload_n hx hb dX3_add_31 rfl (lv_at hl 0 rfl) ?_
    refine va_get (D := D) (ci := 3) (v := .ref (a 55)) (C := RX3) (T := TX3) (N := 5) hx hb hts nX3_add_X3 hown hK hP 52 (wC_52 y a z5) rfl 2 (by decide) (hts (.fieldLink RX3 18 "WorksDesk$Changes" "quantities" "[I") (List.mem_of_getElem? (i := 4) rfl)) (fun _ h9 => h9) rfl dX3_add_32 ?_
    refine lv_aload_n hx hb dX3_add_35 rfl (lv_at hl 0 rfl) ?_
    refine va_get (D := D) (ci := 3) (v := .int (z5.2.2.1 3332)) (C := RX3) (T := TX3) (N := 5) hx hb hts nX3_add_X3 hown hK hP 52 (wC_52 y a z5) rfl 4 (by decide) (hts (.fieldLink RX3 24 "WorksDesk$Changes" "size" "I") (List.mem_of_getElem? (i := 1) rfl)) (fun _ h9 => h9) rfl dX3_add_36 ?_
    refine lv_iload_n hx hb dX3_add_39 rfl (lv_at hl 3 rfl) ?_
    obtain ⟨c6, hm⟩ := zz_ck_some hm
    refine va_iast hx hb hK hP hD hS 55 0 (wC_55 y a z5) rfl c6 dX3_add_40 (fun H locs hP hD hS => ?_)
    obtain ⟨z7, hP, hD, hm⟩ := zz_up (w := wC y a) (wC_w55 y a z5 (z5.2.2.1 3332) x3) hP hD hm
    refine lv_aload_n hx hb dX3_add_41 rfl (lv_at hl 0 rfl) ?_
    refine va_get (D := D) (ci := 3) (v := .ref (a 56)) (C := RX3) (T := TX3) (N := 5) hx hb hts nX3_add_X3 hown hK hP 52 (wC_52 y a z7) rfl 3 (by decide) (hts (.fieldLink RX3 21 "WorksDesk$Changes" "prices" "[I") (List.mem_of_getElem? (i := 5) rfl)) (fun _ h9 => h9) rfl dX3_add_42 ?_
    refine lv_aload_n hx hb dX3_add_45 rfl (lv_at hl 0 rfl) ?_
    refine va_get (D := D) (ci := 3) (v := .int (z7.2.2.1 3332)) (C := RX3) (T := TX3) (N := 5) hx hb hts nX3_add_X3 hown hK hP 52 (wC_52 y a z7) rfl 4 (by decide) (hts (.fieldLink RX3 24 "WorksDesk$Changes" "size" "I") (List.mem_of_getElem? (i := 1) rfl)) (fun _ h9 => h9) rfl dX3_add_46 ?_
    refine lv_iload hx hb dX3_add_49 (lv_at hl 4 rfl) ?_
    obtain ⟨c8, hm⟩ := zz_ck_some hm
    refine va_iast hx hb hK hP hD hS 56 0 (wC_56 y a z7) rfl c8 dX3_add_51 (fun H locs hP hD hS => ?_)
    obtain ⟨z9, hP, hD, hm⟩ := zz_up (w := wC y a) (wC_w56 y a z7 (z7.2.2.1 3332) x4) hP hD hm
    refine lv_aload_n hx hb dX3_add_52 rfl (lv_at hl 0 rfl) ?_
    refine lv_dup hx hb dX3_add_53 rfl ?_
    refine va_get (D := D) (ci := 3) (v := .int (z9.2.2.1 3332)) (C := RX3) (T := TX3) (N := 5) hx hb hts nX3_add_X3 hown hK hP 52 (wC_52 y a z9) rfl 4 (by decide) (hts (.fieldLink RX3 24 "WorksDesk$Changes" "size" "I") (List.mem_of_getElem? (i := 1) rfl)) (fun _ h9 => h9) rfl dX3_add_54 ?_
    refine lv_iconst (v := (1 : Int32)) hx hb dX3_add_57 (by decide) ?_
    refine lv_iadd hx hb dX3_add_58 ?_
    refine va_put (D := D) (ci := 3) (v := .int ((z9.2.2.1 3332) + (1 : Int32))) (ty := .int) (C := RX3) (T := TX3) (N := 5) hx hb hts nX3_add_X3 tyX3 tyX3_ok nmX3 hown hK hP hD hS 52 (wC_52 y a z9) rfl 4 (by decide) (hts (.fieldLink RX3 24 "WorksDesk$Changes" "size" "I") (List.mem_of_getElem? (i := 1) rfl)) (fun _ h9 => h9) rfl (tyX3_ok 4 (by decide)) rfl rfl (Nat.le_of_ble_eq_true rfl) dX3_add_59 (fun H locs hP hD hS => ?_)
    obtain ⟨z10, hP, hD, hm⟩ := zz_up (w := wC y a) (wC_f52_4 y a z9 ((z9.2.2.1 3332) + (1 : Int32))) hP hD hm
    refine lv_aload_n hx hb dX3_add_62 rfl (lv_at hl 0 rfl) ?_
    refine va_get (D := D) (ci := 3) (v := .int (z10.2.2.1 3332)) (C := RX3) (T := TX3) (N := 5) hx hb hts nX3_add_X3 hown hK hP 52 (wC_52 y a z10) rfl 4 (by decide) (hts (.fieldLink RX3 24 "WorksDesk$Changes" "size" "I") (List.mem_of_getElem? (i := 1) rfl)) (fun _ h9 => h9) rfl dX3_add_63 ?_
    refine lv_iconst (v := (1 : Int32)) hx hb dX3_add_66 (by decide) ?_
    refine lv_isub hx hb dX3_add_67 ?_
    exact zz_iret hx hb hr hlocks (zz_some2 hm) hP hK hD hS dX3_add_68
  · replace hm := zz_neg c1 hm
    refine lv_iconst (v := (-1 : Int32)) hx hb dX3_add_9 (by decide) ?_
    exact zz_iret hx hb hr hlocks (zz_some2 hm) hP hK hD hS dX3_add_10
def mX10_change_b29 (z : zz_M) : Option (Int32 × zz_M) := some ((-1 : Int32), z)
def mX10_change (x1 : Int32) (x2 : Int32) (x3 : Int32) (x4 : Int32) (z : zz_M) : Option (Int32 × zz_M) := zz_b1 (mX10_isMonth x1) (fun r1 => if r1 = (0 : Int32) then (mX10_change_b29 z) else (zz_b1 (mX10_isKind x2) (fun r4 => if r4 = (0 : Int32) then (mX10_change_b29 z) else (zz_b1 (mX10_isChanged x3) (fun r7 => if r7 = (0 : Int32) then (mX10_change_b29 z) else (zz_b1 (mX10_isRate x4) (fun r10 => if r10 = (0 : Int32) then (mX10_change_b29 z) else (if (z.2.2.1 3332) < (8 : Int32) then (zz_b1 (mX0_price 9 x2 x4 z) (fun r14 => zz_b2 (mX3_add x1 x2 x3 r14 z) (fun r16 z18 => some (r16, z18)))) else (some ((-2 : Int32), z))))))))))
theorem nX10_change_X10 : ∀ w ∈ wsX100, w ∈ wsX10_change := fun _ h => List.mem_cons_of_mem _ (List.mem_append_left _ (List.mem_append_left _ (List.mem_append_left _ (List.mem_append_right _ (h)))))
theorem nX10_change_X2 : ∀ w ∈ wsX20, w ∈ wsX10_change := fun _ h => List.mem_cons_of_mem _ (List.mem_append_left _ (List.mem_append_left _ (List.mem_append_right _ (h))))
theorem nX10_change_X3 : ∀ w ∈ wsX30, w ∈ wsX10_change := fun _ h => List.mem_cons_of_mem _ (List.mem_append_left _ (List.mem_append_right _ (h)))
theorem zdX10_change : yX10_change.cls = RX10 ∧ yX10_change.cls ≠ "java/lang/invoke/MethodHandle" ∧ yX10_change.cls ≠ "java/lang/invoke/VarHandle" ∧ (parseMethodDescriptor yX10_change.desc).map (fun d => d.parameters.length) = some 4 := by decide +kernel
set_option maxHeartbeats 4000000 in
set_option maxRecDepth 100000 in
theorem zX10_change (l : Launch) (D : va_G) (y : Nat → ClassId) (a : Nat → Nat) (sz : Nat) (x1 : Int32) (x2 : Int32) (x3 : Int32) (x4 : Int32) (z : zz_M) {r : Int32} {zt : zz_M} (hm : mX10_change x1 x2 x3 x4 z = some (r, zt)) : Met l yX10_change wsX10_change { frames := 2, cells := 0, slots := 0, locals := 42 } (zz_Pc D y (wC y a z) sz [.ref (a 0), .int x1, .int x2, .int x3, .int x4]) (zz_Qi D y (wC y a) (va_A (wC y a z) sz) r zt) 0 0 (va_A (wC y a z) sz) := by
  refine Met.ofW (cc := cX10_change) (maxL := 5) (ret := (some .int)) (by decide) rfl ?_
  intro p e s m args below meth c s₁ B hml hv
  obtain ⟨rfl, hsz, hP, hK, hD0, hN, hg⟩ := hv
  have hx := B.exec
  have hb := B.bytes
  have hr := B.returns
  have hts := atoms_spec (ws := wsX10_change) B.pre
  have hown : s.vm.findClass RX10 = some m.cls := findClass_of_methodNamed B.named
  have hlocks := B.notSynchronized
  clear B
  subst hsz
  have hD := hD0.self (sz := s.heap.size)
  generalize hAe : va_A (wC y a z) s.heap.size = A at hD hg ⊢
  have hA : ∀ q : Nat, s.heap.size ≤ q → A q := fun q h => by rw [← hAe]; exact Or.inr h
  clear hAe hD0
  have hl := lv_entry ([.ref (a 0), .int x1, .int x2, .int x3, .int x4]) (n := 5) (Nat.le_of_ble_eq_true rfl)
  rw [lg_entry_eq]
  generalize (lg_sl ([.ref (a 0), .int x1, .int x2, .int x3, .int x4]) ++ List.replicate (5 - (lg_sl ([.ref (a 0), .int x1, .int x2, .int x3, .int x4])).length) Slot.unset).toArray = ls at hl ⊢
  replace hl : lv_has ls 5 [(0, .ref (a 0)), (1, .int x1), (2, .int x2), (3, .int x3), (4, .int x4)] := hl
  refine zz_go (w := wC y a) hP hD va_S.rf hl (fun G hG => ?_)
  clear hP hD hl ls
  have J29 : ∀ (z : zz_M), mX10_change_b29 z = some (r, zt) → G 29 [] [] z := by
    intro z hm
    rw [mX10_change_b29] at hm
    rw [hG]
    intro H locs ls hP hD hS hl
    refine lv_iconst (v := (-1 : Int32)) hx hb dX10_change_29 (by decide) ?_
    exact zz_iret hx hb hr hlocks (zz_some2 hm) hP hK hD hS dX10_change_30
  rw [hG]
  intro H locs ls hP hD hS hl
  unfold mX10_change at hm
  refine lv_iload_n hx hb dX10_change_0 rfl (lv_at hl 1 rfl) ?_
  obtain ⟨r1, h2, hm⟩ := zz_b1_some hm
  refine zz_calli (zz_runS (w := wC y a) (As := [.int x1]) (rest := []) ⟨hx, hb, hml, hown, hts⟩ (zX10_isMonth l D y a H.size x1 z h2) (va_cwS 1 hts gX10_change_X10_isMonth rfl rfl rfl zdX10_isMonth ⟨Nat.le_of_ble_eq_true rfl, Nat.le_of_ble_eq_true rfl⟩) hK hN hg hP hD hS hA rfl hl.1 rfl (Nat.le_of_ble_eq_true rfl) dX10_change_1 ⟨Nat.le_of_ble_eq_true rfl, Nat.le_of_ble_eq_true rfl⟩) hD hS hA (fun H locs hP hD hS => ?_)
  refine lv_if_eq (tgt := 29) hx hb dX10_change_4 (by decide) (fun c3 => ?_) (fun c3 => ?_)
  · replace hm := zz_pos c3 hm
    have j := J29 z hm
    rw [hG] at j
    exact j H locs ls hP hD hS (lv_sub hl [] rfl)
  · replace hm := zz_neg c3 hm
    refine lv_iload_n hx hb dX10_change_7 rfl (lv_at hl 2 rfl) ?_
    obtain ⟨r4, h5, hm⟩ := zz_b1_some hm
    refine zz_calli (zz_runS (w := wC y a) (As := [.int x2]) (rest := []) ⟨hx, hb, hml, hown, hts⟩ (zX10_isKind l D y a H.size x2 z h5) (va_cwS 1 hts gX10_change_X10_isKind rfl rfl rfl zdX10_isKind ⟨Nat.le_of_ble_eq_true rfl, Nat.le_of_ble_eq_true rfl⟩) hK hN hg hP hD hS hA rfl hl.1 rfl (Nat.le_of_ble_eq_true rfl) dX10_change_8 ⟨Nat.le_of_ble_eq_true rfl, Nat.le_of_ble_eq_true rfl⟩) hD hS hA (fun H locs hP hD hS => ?_)
    refine lv_if_eq (tgt := 29) hx hb dX10_change_11 (by decide) (fun c6 => ?_) (fun c6 => ?_)
    · replace hm := zz_pos c6 hm
      have j := J29 z hm
      rw [hG] at j
      exact j H locs ls hP hD hS (lv_sub hl [] rfl)
    · replace hm := zz_neg c6 hm
      refine lv_iload_n hx hb dX10_change_14 rfl (lv_at hl 3 rfl) ?_
      obtain ⟨r7, h8, hm⟩ := zz_b1_some hm
      refine zz_calli (zz_runS (w := wC y a) (As := [.int x3]) (rest := []) ⟨hx, hb, hml, hown, hts⟩ (zX10_isChanged l D y a H.size x3 z h8) (va_cwS 1 hts gX10_change_X10_isChanged rfl rfl rfl zdX10_isChanged ⟨Nat.le_of_ble_eq_true rfl, Nat.le_of_ble_eq_true rfl⟩) hK hN hg hP hD hS hA rfl hl.1 rfl (Nat.le_of_ble_eq_true rfl) dX10_change_15 ⟨Nat.le_of_ble_eq_true rfl, Nat.le_of_ble_eq_true rfl⟩) hD hS hA (fun H locs hP hD hS => ?_)
      refine lv_if_eq (tgt := 29) hx hb dX10_change_18 (by decide) (fun c9 => ?_) (fun c9 => ?_)
      · replace hm := zz_pos c9 hm
        have j := J29 z hm
        rw [hG] at j
        exact j H locs ls hP hD hS (lv_sub hl [] rfl)
      · replace hm := zz_neg c9 hm
        refine lv_iload hx hb dX10_change_21 (lv_at hl 4 rfl) ?_
        obtain ⟨r10, h11, hm⟩ := zz_b1_some hm
        refine zz_calli (zz_runS (w := wC y a) (As := [.int x4]) (rest := []) ⟨hx, hb, hml, hown, hts⟩ (zX10_isRate l D y a H.size x4 z h11) (va_cwS 1 hts gX10_change_X10_isRate rfl rfl rfl zdX10_isRate ⟨Nat.le_of_ble_eq_true rfl, Nat.le_of_ble_eq_true rfl⟩) hK hN hg hP hD hS hA rfl hl.1 rfl (Nat.le_of_ble_eq_true rfl) dX10_change_23 ⟨Nat.le_of_ble_eq_true rfl, Nat.le_of_ble_eq_true rfl⟩) hD hS hA (fun H locs hP hD hS => ?_)
        refine lv_if_ne (tgt := 31) hx hb dX10_change_26 (by decide) (fun c12 => ?_) (fun c12 => ?_)
        · replace hm := zz_neg c12 hm
          refine lv_aload_n hx hb dX10_change_31 rfl (lv_at hl 0 rfl) ?_
          refine va_get (D := D) (ci := 10) (v := .ref (a 8)) (C := RX10) (T := TX10) (N := 7) hx hb hts nX10_change_X10 hown hK hP 0 (wC_0 y a z) rfl 2 (by decide) (hts (.fieldLink RX10 26 "WorksDesk" "book" "LWorksDesk$Book;") (List.mem_of_getElem? (i := 1) rfl)) (fun _ h9 => h9) rfl dX10_change_32 ?_
          refine va_get (D := D) (ci := 2) (v := .ref (a 52)) (C := RX2) (T := TX2) (N := 12) hx hb hts nX10_change_X2 hown hK hP 8 (wC_8 y a z) rfl 5 (by decide) (hts (.fieldLink RX10 143 "WorksDesk$Book" "changes" "LWorksDesk$Changes;") (List.mem_of_getElem? (i := 2) rfl)) (fun _ h9 => h9) rfl dX10_change_35 ?_
          refine va_get (D := D) (ci := 3) (v := .int (z.2.2.1 3332)) (C := RX3) (T := TX3) (N := 5) hx hb hts nX10_change_X3 hown hK hP 52 (wC_52 y a z) rfl 4 (by decide) (hts (.fieldLink RX10 147 "WorksDesk$Changes" "size" "I") (List.mem_of_getElem? (i := 3) rfl)) (fun _ h9 => h9) rfl dX10_change_38 ?_
          refine lv_bipush (v := (8 : Int32)) hx hb dX10_change_41 (by decide) ?_
          refine lv_icmp_lt (tgt := 49) hx hb dX10_change_43 (by decide) (fun c13 => ?_) (fun c13 => ?_)
          · replace hm := zz_pos c13 hm
            refine lv_aload_n hx hb dX10_change_49 rfl (lv_at hl 0 rfl) ?_
            refine va_get (D := D) (ci := 10) (v := .ref (a 8)) (C := RX10) (T := TX10) (N := 7) hx hb hts nX10_change_X10 hown hK hP 0 (wC_0 y a z) rfl 2 (by decide) (hts (.fieldLink RX10 26 "WorksDesk" "book" "LWorksDesk$Book;") (List.mem_of_getElem? (i := 1) rfl)) (fun _ h9 => h9) rfl dX10_change_50 ?_
            refine va_get (D := D) (ci := 2) (v := .ref (a 52)) (C := RX2) (T := TX2) (N := 12) hx hb hts nX10_change_X2 hown hK hP 8 (wC_8 y a z) rfl 5 (by decide) (hts (.fieldLink RX10 143 "WorksDesk$Book" "changes" "LWorksDesk$Changes;") (List.mem_of_getElem? (i := 2) rfl)) (fun _ h9 => h9) rfl dX10_change_53 ?_
            refine lv_iload_n hx hb dX10_change_56 rfl (lv_at hl 1 rfl) ?_
            refine lv_iload_n hx hb dX10_change_57 rfl (lv_at hl 2 rfl) ?_
            refine lv_iload_n hx hb dX10_change_58 rfl (lv_at hl 3 rfl) ?_
            refine lv_aload_n hx hb dX10_change_59 rfl (lv_at hl 0 rfl) ?_
            refine va_get (D := D) (ci := 10) (v := .ref (a 8)) (C := RX10) (T := TX10) (N := 7) hx hb hts nX10_change_X10 hown hK hP 0 (wC_0 y a z) rfl 2 (by decide) (hts (.fieldLink RX10 26 "WorksDesk" "book" "LWorksDesk$Book;") (List.mem_of_getElem? (i := 1) rfl)) (fun _ h9 => h9) rfl dX10_change_60 ?_
            refine va_get (D := D) (ci := 2) (v := .ref (a 9)) (C := RX2) (T := TX2) (N := 12) hx hb hts nX10_change_X2 hown hK hP 8 (wC_8 y a z) rfl 0 (by decide) (hts (.fieldLink RX10 107 "WorksDesk$Book" "items" "LWorksDesk$Bill;") (List.mem_of_getElem? (i := 4) rfl)) (fun _ h9 => h9) rfl dX10_change_63 ?_
            refine lv_iload_n hx hb dX10_change_66 rfl (lv_at hl 2 rfl) ?_
            refine lv_iload hx hb dX10_change_67 (lv_at hl 4 rfl) ?_
            obtain ⟨r14, h15, hm⟩ := zz_b1_some hm
            refine zz_calli (zz_runV (w := wC y a) (As := [.int x2, .int x4]) (rest := [.int x3, .int x2, .int x1, .ref (a 52)]) ⟨hx, hb, hml, hown, hts⟩ (zX0_price l D y a H.size 9 x2 x4 (Or.inr rfl) z h15) (cwV 2 hts gX10_change_X0_price rfl rfl rfl zdX0_price ⟨Nat.le_of_ble_eq_true rfl, Nat.le_of_ble_eq_true rfl⟩) hK hN hg hP hD hS hA 9 (wC_bill y a z 9 (Or.inr rfl)) rfl rfl hl.1 rfl (Nat.le_of_ble_eq_true rfl) dX10_change_69 ⟨Nat.le_of_ble_eq_true rfl, Nat.le_of_ble_eq_true rfl⟩) hD hS hA (fun H locs hP hD hS => ?_)
            obtain ⟨r16, z18, h17, hm⟩ := zz_b2_some hm
            refine zz_calli (zz_runV (w := wC y a) (As := [.int x1, .int x2, .int x3, .int r14]) (rest := []) ⟨hx, hb, hml, hown, hts⟩ (zX3_add l D y a H.size x1 x2 x3 r14 z h17) (cwV 4 hts gX10_change_X3_add rfl rfl rfl zdX3_add ⟨Nat.le_of_ble_eq_true rfl, Nat.le_of_ble_eq_true rfl⟩) hK hN hg hP hD hS hA 52 (wC_52 y a z) rfl rfl hl.1 rfl (Nat.le_of_ble_eq_true rfl) dX10_change_72 ⟨Nat.le_of_ble_eq_true rfl, Nat.le_of_ble_eq_true rfl⟩) hD hS hA (fun H locs hP hD hS => ?_)
            exact zz_iret hx hb hr hlocks (zz_some2 hm) hP hK hD hS dX10_change_75
          · replace hm := zz_neg c13 hm
            refine lv_bipush (v := (-2 : Int32)) hx hb dX10_change_46 (by decide) ?_
            exact zz_iret hx hb hr hlocks (zz_some2 hm) hP hK hD hS dX10_change_48
        · replace hm := zz_pos c12 hm
          have j := J29 z hm
          rw [hG] at j
          exact j H locs ls hP hD hS (lv_sub hl [] rfl)
def mX10_clears (x1 : Int32) (z : zz_M) : Option (Int32 × zz_M) := zz_b1 (mX10_isMonth x1) (fun r1 => if r1 = (0 : Int32) then (some ((-1 : Int32), z)) else (zz_b2 (mX4_reckon 64 z) (fun r4 z6 => zz_b1 (mX4_of 64 (9 : Int32) x1 z6) (fun r7 => zz_nm (zz_sJ z6 98 (va_cpy (z6.2.1 63) (z6.2.1 98) (0 : Int32).toNatClampNeg (0 : Int32).toNatClampNeg (24 : Int32).toNatClampNeg)) (fun z9 => zz_ck (zz_in x1 24) (zz_ck (zz_in x1 24) (zz_nm (zz_wJ z9 98 x1 ((z9.2.1 98 x1.toNatClampNeg) + r7)) (fun z12 => zz_b2 (mX4_reckonDebt 64 98 z12) (fun r13 z15 => zz_b2 (mX5_start r7 z15) (fun r16 z18 => zz_b1 (mX4_of 64 (11 : Int32) (23 : Int32) z18) (fun r19 => zz_b2 (mX5_then r19 z18) (fun r21 z23 => some ((0 : Int32), z23)))))))))))))
theorem nX10_clears_X10 : ∀ w ∈ wsX100, w ∈ wsX10_clears := fun _ h => List.mem_cons_of_mem _ (List.mem_append_left _ (List.mem_append_left _ (List.mem_append_left _ (List.mem_append_left _ (List.mem_append_left _ (List.mem_append_left _ (List.mem_append_left _ (List.mem_append_left _ (List.mem_append_right _ (h))))))))))
theorem nX10_clears_X2 : ∀ w ∈ wsX20, w ∈ wsX10_clears := fun _ h => List.mem_cons_of_mem _ (List.mem_append_left _ (List.mem_append_left _ (List.mem_append_left _ (List.mem_append_left _ (List.mem_append_left _ (List.mem_append_left _ (List.mem_append_left _ (List.mem_append_right _ (h)))))))))
theorem zdX10_clears : yX10_clears.cls = RX10 ∧ yX10_clears.cls ≠ "java/lang/invoke/MethodHandle" ∧ yX10_clears.cls ≠ "java/lang/invoke/VarHandle" ∧ (parseMethodDescriptor yX10_clears.desc).map (fun d => d.parameters.length) = some 1 := by decide +kernel
set_option maxHeartbeats 4000000 in
set_option maxRecDepth 100000 in
theorem zX10_clears (l : Launch) (D : va_G) (y : Nat → ClassId) (a : Nat → Nat) (sz : Nat) (x1 : Int32) (z : zz_M) {r : Int32} {zt : zz_M} (hm : mX10_clears x1 z = some (r, zt)) : Met l yX10_clears wsX10_clears { frames := 5, cells := 0, slots := 0, locals := 129 } (zz_Pc D y (wC y a z) sz [.ref (a 0), .int x1]) (zz_Qi D y (wC y a) (va_A (wC y a z) sz) r zt) 0 0 (va_A (wC y a z) sz) := by
  refine Met.ofW (cc := cX10_clears) (maxL := 4) (ret := (some .int)) (by decide) rfl ?_
  intro p e s m args below meth c s₁ B hml hv
  obtain ⟨rfl, hsz, hP, hK, hD0, hN, hg⟩ := hv
  have hx := B.exec
  have hb := B.bytes
  have hr := B.returns
  have hts := atoms_spec (ws := wsX10_clears) B.pre
  have hown : s.vm.findClass RX10 = some m.cls := findClass_of_methodNamed B.named
  have hlocks := B.notSynchronized
  clear B
  subst hsz
  have hD := hD0.self (sz := s.heap.size)
  generalize hAe : va_A (wC y a z) s.heap.size = A at hD hg ⊢
  have hA : ∀ q : Nat, s.heap.size ≤ q → A q := fun q h => by rw [← hAe]; exact Or.inr h
  clear hAe hD0
  have hl := lv_entry ([.ref (a 0), .int x1]) (n := 4) (Nat.le_of_ble_eq_true rfl)
  rw [lg_entry_eq]
  generalize (lg_sl ([.ref (a 0), .int x1]) ++ List.replicate (4 - (lg_sl ([.ref (a 0), .int x1])).length) Slot.unset).toArray = ls at hl ⊢
  replace hl : lv_has ls 4 [(0, .ref (a 0)), (1, .int x1)] := hl
  refine zz_go (w := wC y a) hP hD va_S.rf hl (fun G hG => ?_)
  clear hP hD hl ls
  rw [hG]
  intro H locs ls hP hD hS hl
  unfold mX10_clears at hm
  refine lv_iload_n hx hb dX10_clears_0 rfl (lv_at hl 1 rfl) ?_
  obtain ⟨r1, h2, hm⟩ := zz_b1_some hm
  refine zz_calli (zz_runS (w := wC y a) (As := [.int x1]) (rest := []) ⟨hx, hb, hml, hown, hts⟩ (zX10_isMonth l D y a H.size x1 z h2) (va_cwS 1 hts gX10_clears_X10_isMonth rfl rfl rfl zdX10_isMonth ⟨Nat.le_of_ble_eq_true rfl, Nat.le_of_ble_eq_true rfl⟩) hK hN hg hP hD hS hA rfl hl.1 rfl (Nat.le_of_ble_eq_true rfl) dX10_clears_1 ⟨Nat.le_of_ble_eq_true rfl, Nat.le_of_ble_eq_true rfl⟩) hD hS hA (fun H locs hP hD hS => ?_)
  refine lv_if_ne (tgt := 9) hx hb dX10_clears_4 (by decide) (fun c3 => ?_) (fun c3 => ?_)
  · replace hm := zz_neg c3 hm
    refine lv_aload_n hx hb dX10_clears_9 rfl (lv_at hl 0 rfl) ?_
    refine va_get (D := D) (ci := 10) (v := .ref (a 64)) (C := RX10) (T := TX10) (N := 7) hx hb hts nX10_clears_X10 hown hK hP 0 (wC_0 y a z) rfl 3 (by decide) (hts (.fieldLink RX10 33 "WorksDesk" "real" "LWorksDesk$Figures;") (List.mem_of_getElem? (i := 1) rfl)) (fun _ h9 => h9) rfl dX10_clears_10 ?_
    refine lv_aload_n hx hb dX10_clears_13 rfl (lv_at hl 0 rfl) ?_
    refine va_get (D := D) (ci := 10) (v := .ref (a 8)) (C := RX10) (T := TX10) (N := 7) hx hb hts nX10_clears_X10 hown hK hP 0 (wC_0 y a z) rfl 2 (by decide) (hts (.fieldLink RX10 26 "WorksDesk" "book" "LWorksDesk$Book;") (List.mem_of_getElem? (i := 2) rfl)) (fun _ h9 => h9) rfl dX10_clears_14 ?_
    obtain ⟨r4, z6, h5, hm⟩ := zz_b2_some hm
    refine zz_callv (zz_runV (w := wC y a) (As := [.ref (a 8)]) (rest := []) ⟨hx, hb, hml, hown, hts⟩ (zX4_reckon l D y a H.size 64 (Or.inl rfl) z h5) (cwV 1 hts gX10_clears_X4_reckon rfl rfl rfl zdX4_reckon ⟨Nat.le_of_ble_eq_true rfl, Nat.le_of_ble_eq_true rfl⟩) hK hN hg hP hD hS hA 64 (wC_fig y a z 64 (Or.inl rfl)) rfl rfl hl.1 rfl (Nat.le_of_ble_eq_true rfl) dX10_clears_17 ⟨Nat.le_of_ble_eq_true rfl, Nat.le_of_ble_eq_true rfl⟩) hD hS hA (fun H locs hP hD hS => ?_)
    refine lv_aload_n hx hb dX10_clears_20 rfl (lv_at hl 0 rfl) ?_
    refine va_get (D := D) (ci := 10) (v := .ref (a 64)) (C := RX10) (T := TX10) (N := 7) hx hb hts nX10_clears_X10 hown hK hP 0 (wC_0 y a z6) rfl 3 (by decide) (hts (.fieldLink RX10 33 "WorksDesk" "real" "LWorksDesk$Figures;") (List.mem_of_getElem? (i := 1) rfl)) (fun _ h9 => h9) rfl dX10_clears_21 ?_
    refine lv_bipush (v := (9 : Int32)) hx hb dX10_clears_24 (by decide) ?_
    refine lv_iload_n hx hb dX10_clears_26 rfl (lv_at hl 1 rfl) ?_
    obtain ⟨r7, h8, hm⟩ := zz_b1_some hm
    refine zz_calll (zz_runV (w := wC y a) (As := [.int (9 : Int32), .int x1]) (rest := []) ⟨hx, hb, hml, hown, hts⟩ (zX4_of l D y a H.size 64 (9 : Int32) x1 (Or.inl rfl) z6 h8) (cwV 2 hts gX10_clears_X4_of rfl rfl rfl zdX4_of ⟨Nat.le_of_ble_eq_true rfl, Nat.le_of_ble_eq_true rfl⟩) hK hN hg hP hD hS hA 64 (wC_fig y a z6 64 (Or.inl rfl)) rfl rfl hl.1 rfl (Nat.le_of_ble_eq_true rfl) dX10_clears_27 ⟨Nat.le_of_ble_eq_true rfl, Nat.le_of_ble_eq_true rfl⟩) hD hS hA (fun H locs hP hD hS => ?_)
    refine lv_lstore_n (lv' := [(2, .long r7), (0, .ref (a 0)), (1, .int x1)]) hx hb dX10_clears_30 rfl hl (by decide) rfl (fun ls hl => ?_)
    refine lv_aload_n hx hb dX10_clears_31 rfl (lv_at hl 1 rfl) ?_
    refine va_get (D := D) (ci := 10) (v := .ref (a 8)) (C := RX10) (T := TX10) (N := 7) hx hb hts nX10_clears_X10 hown hK hP 0 (wC_0 y a z6) rfl 2 (by decide) (hts (.fieldLink RX10 26 "WorksDesk" "book" "LWorksDesk$Book;") (List.mem_of_getElem? (i := 2) rfl)) (fun _ h9 => h9) rfl dX10_clears_32 ?_
    refine va_get (D := D) (ci := 2) (v := .ref (a 63)) (C := RX2) (T := TX2) (N := 12) hx hb hts nX10_clears_X2 hown hK hP 8 (wC_8 y a z6) rfl 7 (by decide) (hts (.fieldLink RX10 205 "WorksDesk$Book" "paid" "[J") (List.mem_of_getElem? (i := 3) rfl)) (fun _ h9 => h9) rfl dX10_clears_35 ?_
    refine lv_iconst (v := (0 : Int32)) hx hb dX10_clears_38 (by decide) ?_
    refine lv_aload_n hx hb dX10_clears_39 rfl (lv_at hl 1 rfl) ?_
    refine va_get (D := D) (ci := 10) (v := .ref (a 98)) (C := RX10) (T := TX10) (N := 7) hx hb hts nX10_clears_X10 hown hK hP 0 (wC_0 y a z6) rfl 5 (by decide) (hts (.fieldLink RX10 40 "WorksDesk" "otherPayments" "[J") (List.mem_of_getElem? (i := 4) rfl)) (fun _ h9 => h9) rfl dX10_clears_40 ?_
    refine lv_iconst (v := (0 : Int32)) hx hb dX10_clears_43 (by decide) ?_
    refine lv_bipush (v := (24 : Int32)) hx hb dX10_clears_44 (by decide) ?_
    refine va_copyl hx hb (hml.trans hl.1.symm) hown (hts (.methodLink RX10 300 arraycopyName) (List.mem_of_getElem? (i := 5) rfl)) (hts (.native arraycopyName) (List.mem_of_getElem? (i := 6) rfl)) (hts (.static arraycopyName) (List.mem_of_getElem? (i := 7) rfl)) (hts (.initialized "java/lang/System") (List.mem_of_getElem? (i := 8) rfl)) hK hP hD hS 63 98 1 1 (wC_63 y a z6) (wC_98 y a z6) rfl rfl rfl (by decide) (by decide) (by decide) (by decide) (by decide) (fun _ _ => rfl) (Nat.le_of_ble_eq_true rfl) (Nat.le_of_ble_eq_true rfl) dX10_clears_46 (fun H locs hP hD hS => ?_)
    obtain ⟨z9, hP, hD, hm⟩ := zz_up (w := wC y a) (wC_s98 y a z6 _) hP hD hm
    refine lv_aload_n hx hb dX10_clears_49 rfl (lv_at hl 1 rfl) ?_
    refine va_get (D := D) (ci := 10) (v := .ref (a 98)) (C := RX10) (T := TX10) (N := 7) hx hb hts nX10_clears_X10 hown hK hP 0 (wC_0 y a z9) rfl 5 (by decide) (hts (.fieldLink RX10 40 "WorksDesk" "otherPayments" "[J") (List.mem_of_getElem? (i := 4) rfl)) (fun _ h9 => h9) rfl dX10_clears_50 ?_
    refine lv_iload_n hx hb dX10_clears_53 rfl (lv_at hl 2 rfl) ?_
    refine lv_dup2_11 hx hb dX10_clears_54 rfl rfl ?_
    obtain ⟨c10, hm⟩ := zz_ck_some hm
    refine va_lald hx hb hK hP 98 1 (wC_98 y a z9) rfl c10 dX10_clears_55 ?_
    refine lv_lload_n hx hb dX10_clears_56 rfl (lv_at hl 0 rfl) ?_
    refine lv_ladd hx hb dX10_clears_57 ?_
    obtain ⟨c11, hm⟩ := zz_ck_some hm
    refine va_last hx hb hK hP hD hS 98 1 (wC_98 y a z9) rfl c11 dX10_clears_58 (fun H locs hP hD hS => ?_)
    obtain ⟨z12, hP, hD, hm⟩ := zz_up (w := wC y a) (wC_w98 y a z9 x1 ((z9.2.1 98 x1.toNatClampNeg) + r7)) hP hD hm
    refine lv_aload_n hx hb dX10_clears_59 rfl (lv_at hl 1 rfl) ?_
    refine va_get (D := D) (ci := 10) (v := .ref (a 64)) (C := RX10) (T := TX10) (N := 7) hx hb hts nX10_clears_X10 hown hK hP 0 (wC_0 y a z12) rfl 3 (by decide) (hts (.fieldLink RX10 33 "WorksDesk" "real" "LWorksDesk$Figures;") (List.mem_of_getElem? (i := 1) rfl)) (fun _ h9 => h9) rfl dX10_clears_60 ?_
    refine lv_aload_n hx hb dX10_clears_63 rfl (lv_at hl 1 rfl) ?_
    refine va_get (D := D) (ci := 10) (v := .ref (a 8)) (C := RX10) (T := TX10) (N := 7) hx hb hts nX10_clears_X10 hown hK hP 0 (wC_0 y a z12) rfl 2 (by decide) (hts (.fieldLink RX10 26 "WorksDesk" "book" "LWorksDesk$Book;") (List.mem_of_getElem? (i := 2) rfl)) (fun _ h9 => h9) rfl dX10_clears_64 ?_
    refine va_get (D := D) (ci := 2) (v := .ref (a 13)) (C := RX2) (T := TX2) (N := 12) hx hb hts nX10_clears_X2 hown hK hP 8 (wC_8 y a z12) rfl 1 (by decide) (hts (.fieldLink RX10 80 "WorksDesk$Book" "clauses" "LWorksDesk$Terms;") (List.mem_of_getElem? (i := 9) rfl)) (fun _ h9 => h9) rfl dX10_clears_67 ?_
    refine lv_aload_n hx hb dX10_clears_70 rfl (lv_at hl 1 rfl) ?_
    refine va_get (D := D) (ci := 10) (v := .ref (a 98)) (C := RX10) (T := TX10) (N := 7) hx hb hts nX10_clears_X10 hown hK hP 0 (wC_0 y a z12) rfl 5 (by decide) (hts (.fieldLink RX10 40 "WorksDesk" "otherPayments" "[J") (List.mem_of_getElem? (i := 4) rfl)) (fun _ h9 => h9) rfl dX10_clears_71 ?_
    obtain ⟨r13, z15, h14, hm⟩ := zz_b2_some hm
    refine zz_callv (zz_runV (w := wC y a) (As := [.ref (a 13), .ref (a 98)]) (rest := []) ⟨hx, hb, hml, hown, hts⟩ (zX4_reckonDebt l D y a H.size 64 98 (Or.inl rfl) (Or.inr rfl) z12 h14) (cwV 2 hts gX10_clears_X4_reckonDebt rfl rfl rfl zdX4_reckonDebt ⟨Nat.le_of_ble_eq_true rfl, Nat.le_of_ble_eq_true rfl⟩) hK hN hg hP hD hS hA 64 (wC_fig y a z12 64 (Or.inl rfl)) rfl rfl hl.1 rfl (Nat.le_of_ble_eq_true rfl) dX10_clears_74 ⟨Nat.le_of_ble_eq_true rfl, Nat.le_of_ble_eq_true rfl⟩) hD hS hA (fun H locs hP hD hS => ?_)
    refine lv_aload_n hx hb dX10_clears_77 rfl (lv_at hl 1 rfl) ?_
    refine va_get (D := D) (ci := 10) (v := .ref (a 99)) (C := RX10) (T := TX10) (N := 7) hx hb hts nX10_clears_X10 hown hK hP 0 (wC_0 y a z15) rfl 6 (by decide) (hts (.fieldLink RX10 47 "WorksDesk" "lastRow" "LWorksDesk$Row;") (List.mem_of_getElem? (i := 10) rfl)) (fun _ h9 => h9) rfl dX10_clears_78 ?_
    refine lv_lload_n hx hb dX10_clears_81 rfl (lv_at hl 0 rfl) ?_
    obtain ⟨r16, z18, h17, hm⟩ := zz_b2_some hm
    refine zz_callr (zz_runV (w := wC y a) (As := [.long r7]) (rest := []) ⟨hx, hb, hml, hown, hts⟩ (zX5_start l D y a H.size r7 z15 h17) (cwV 1 hts gX10_clears_X5_start rfl rfl rfl zdX5_start ⟨Nat.le_of_ble_eq_true rfl, Nat.le_of_ble_eq_true rfl⟩) hK hN hg hP hD hS hA 99 (wC_99 y a z15) rfl rfl hl.1 rfl (Nat.le_of_ble_eq_true rfl) dX10_clears_82 ⟨Nat.le_of_ble_eq_true rfl, Nat.le_of_ble_eq_true rfl⟩) hD hS hA (fun H locs hP hD hS => ?_)
    refine lv_aload_n hx hb dX10_clears_85 rfl (lv_at hl 1 rfl) ?_
    refine va_get (D := D) (ci := 10) (v := .ref (a 64)) (C := RX10) (T := TX10) (N := 7) hx hb hts nX10_clears_X10 hown hK hP 0 (wC_0 y a z18) rfl 3 (by decide) (hts (.fieldLink RX10 33 "WorksDesk" "real" "LWorksDesk$Figures;") (List.mem_of_getElem? (i := 1) rfl)) (fun _ h9 => h9) rfl dX10_clears_86 ?_
    refine lv_bipush (v := (11 : Int32)) hx hb dX10_clears_89 (by decide) ?_
    refine lv_bipush (v := (23 : Int32)) hx hb dX10_clears_91 (by decide) ?_
    obtain ⟨r19, h20, hm⟩ := zz_b1_some hm
    refine zz_calll (zz_runV (w := wC y a) (As := [.int (11 : Int32), .int (23 : Int32)]) (rest := [.ref (a 99)]) ⟨hx, hb, hml, hown, hts⟩ (zX4_of l D y a H.size 64 (11 : Int32) (23 : Int32) (Or.inl rfl) z18 h20) (cwV 2 hts gX10_clears_X4_of rfl rfl rfl zdX4_of ⟨Nat.le_of_ble_eq_true rfl, Nat.le_of_ble_eq_true rfl⟩) hK hN hg hP hD hS hA 64 (wC_fig y a z18 64 (Or.inl rfl)) rfl rfl hl.1 rfl (Nat.le_of_ble_eq_true rfl) dX10_clears_93 ⟨Nat.le_of_ble_eq_true rfl, Nat.le_of_ble_eq_true rfl⟩) hD hS hA (fun H locs hP hD hS => ?_)
    obtain ⟨r21, z23, h22, hm⟩ := zz_b2_some hm
    refine zz_callr (zz_runV (w := wC y a) (As := [.long r19]) (rest := []) ⟨hx, hb, hml, hown, hts⟩ (zX5_then l D y a H.size r19 z18 h22) (cwV 1 hts gX10_clears_X5_then rfl rfl rfl zdX5_then ⟨Nat.le_of_ble_eq_true rfl, Nat.le_of_ble_eq_true rfl⟩) hK hN hg hP hD hS hA 99 (wC_99 y a z18) rfl rfl hl.1 rfl (Nat.le_of_ble_eq_true rfl) dX10_clears_96 ⟨Nat.le_of_ble_eq_true rfl, Nat.le_of_ble_eq_true rfl⟩) hD hS hA (fun H locs hP hD hS => ?_)
    refine lv_pop hx hb dX10_clears_99 rfl ?_
    refine lv_iconst (v := (0 : Int32)) hx hb dX10_clears_100 (by decide) ?_
    exact zz_iret hx hb hr hlocks (zz_some2 hm) hP hK hD hS dX10_clears_101
  · replace hm := zz_pos c3 hm
    refine lv_iconst (v := (-1 : Int32)) hx hb dX10_clears_7 (by decide) ?_
    exact zz_iret hx hb hr hlocks (zz_some2 hm) hP hK hD hS dX10_clears_8
def mX10_closes (x1 : Int32) (z : zz_M) : Option (Int32 × zz_M) := zz_b1 (mX10_isMonth x1) (fun r1 => if r1 = (0 : Int32) then (some ((-1 : Int32), z)) else (if (z.2.2.1 521) = x1 then (some ((-2 : Int32), z)) else (if (z.2.2.1 520) ≤ x1 then (zz_nm (zz_sF z 521 x1) (fun z6 => some (z.2.2.1 521, z6))) else (some ((-3 : Int32), z)))))
theorem nX10_closes_X10 : ∀ w ∈ wsX100, w ∈ wsX10_closes := fun _ h => List.mem_cons_of_mem _ (List.mem_append_left _ (List.mem_append_right _ (h)))
theorem nX10_closes_X2 : ∀ w ∈ wsX20, w ∈ wsX10_closes := fun _ h => List.mem_cons_of_mem _ (List.mem_append_right _ (h))
theorem zdX10_closes : yX10_closes.cls = RX10 ∧ yX10_closes.cls ≠ "java/lang/invoke/MethodHandle" ∧ yX10_closes.cls ≠ "java/lang/invoke/VarHandle" ∧ (parseMethodDescriptor yX10_closes.desc).map (fun d => d.parameters.length) = some 1 := by decide +kernel
set_option maxHeartbeats 4000000 in
set_option maxRecDepth 100000 in
theorem zX10_closes (l : Launch) (D : va_G) (y : Nat → ClassId) (a : Nat → Nat) (sz : Nat) (x1 : Int32) (z : zz_M) {r : Int32} {zt : zz_M} (hm : mX10_closes x1 z = some (r, zt)) : Met l yX10_closes wsX10_closes { frames := 2, cells := 0, slots := 0, locals := 42 } (zz_Pc D y (wC y a z) sz [.ref (a 0), .int x1]) (zz_Qi D y (wC y a) (va_A (wC y a z) sz) r zt) 0 0 (va_A (wC y a z) sz) := by
  refine Met.ofW (cc := cX10_closes) (maxL := 3) (ret := (some .int)) (by decide) rfl ?_
  intro p e s m args below meth c s₁ B hml hv
  obtain ⟨rfl, hsz, hP, hK, hD0, hN, hg⟩ := hv
  have hx := B.exec
  have hb := B.bytes
  have hr := B.returns
  have hts := atoms_spec (ws := wsX10_closes) B.pre
  have hown : s.vm.findClass RX10 = some m.cls := findClass_of_methodNamed B.named
  have hlocks := B.notSynchronized
  clear B
  subst hsz
  have hD := hD0.self (sz := s.heap.size)
  generalize hAe : va_A (wC y a z) s.heap.size = A at hD hg ⊢
  have hA : ∀ q : Nat, s.heap.size ≤ q → A q := fun q h => by rw [← hAe]; exact Or.inr h
  clear hAe hD0
  have hl := lv_entry ([.ref (a 0), .int x1]) (n := 3) (Nat.le_of_ble_eq_true rfl)
  rw [lg_entry_eq]
  generalize (lg_sl ([.ref (a 0), .int x1]) ++ List.replicate (3 - (lg_sl ([.ref (a 0), .int x1])).length) Slot.unset).toArray = ls at hl ⊢
  replace hl : lv_has ls 3 [(0, .ref (a 0)), (1, .int x1)] := hl
  refine zz_go (w := wC y a) hP hD va_S.rf hl (fun G hG => ?_)
  clear hP hD hl ls
  rw [hG]
  intro H locs ls hP hD hS hl
  unfold mX10_closes at hm
  refine lv_iload_n hx hb dX10_closes_0 rfl (lv_at hl 1 rfl) ?_
  obtain ⟨r1, h2, hm⟩ := zz_b1_some hm
  refine zz_calli (zz_runS (w := wC y a) (As := [.int x1]) (rest := []) ⟨hx, hb, hml, hown, hts⟩ (zX10_isMonth l D y a H.size x1 z h2) (va_cwS 1 hts gX10_closes_X10_isMonth rfl rfl rfl zdX10_isMonth ⟨Nat.le_of_ble_eq_true rfl, Nat.le_of_ble_eq_true rfl⟩) hK hN hg hP hD hS hA rfl hl.1 rfl (Nat.le_of_ble_eq_true rfl) dX10_closes_1 ⟨Nat.le_of_ble_eq_true rfl, Nat.le_of_ble_eq_true rfl⟩) hD hS hA (fun H locs hP hD hS => ?_)
  refine lv_if_ne (tgt := 9) hx hb dX10_closes_4 (by decide) (fun c3 => ?_) (fun c3 => ?_)
  · replace hm := zz_neg c3 hm
    refine lv_aload_n hx hb dX10_closes_9 rfl (lv_at hl 0 rfl) ?_
    refine va_get (D := D) (ci := 10) (v := .ref (a 8)) (C := RX10) (T := TX10) (N := 7) hx hb hts nX10_closes_X10 hown hK hP 0 (wC_0 y a z) rfl 2 (by decide) (hts (.fieldLink RX10 26 "WorksDesk" "book" "LWorksDesk$Book;") (List.mem_of_getElem? (i := 1) rfl)) (fun _ h9 => h9) rfl dX10_closes_10 ?_
    refine va_get (D := D) (ci := 2) (v := .int (z.2.2.1 521)) (C := RX2) (T := TX2) (N := 12) hx hb hts nX10_closes_X2 hown hK hP 8 (wC_8 y a z) rfl 9 (by decide) (hts (.fieldLink RX10 201 "WorksDesk$Book" "closed" "I") (List.mem_of_getElem? (i := 2) rfl)) (fun _ h9 => h9) rfl dX10_closes_13 ?_
    refine lv_istore_n (lv' := [(2, .int (z.2.2.1 521)), (0, .ref (a 0)), (1, .int x1)]) hx hb dX10_closes_16 rfl hl (by decide) rfl (fun ls hl => ?_)
    refine lv_iload_n hx hb dX10_closes_17 rfl (lv_at hl 0 rfl) ?_
    refine lv_iload_n hx hb dX10_closes_18 rfl (lv_at hl 2 rfl) ?_
    refine lv_icmp_ne (tgt := 25) hx hb dX10_closes_19 (by decide) (fun c4 => ?_) (fun c4 => ?_)
    · replace hm := zz_neg c4 hm
      refine lv_aload_n hx hb dX10_closes_25 rfl (lv_at hl 1 rfl) ?_
      refine va_get (D := D) (ci := 10) (v := .ref (a 8)) (C := RX10) (T := TX10) (N := 7) hx hb hts nX10_closes_X10 hown hK hP 0 (wC_0 y a z) rfl 2 (by decide) (hts (.fieldLink RX10 26 "WorksDesk" "book" "LWorksDesk$Book;") (List.mem_of_getElem? (i := 1) rfl)) (fun _ h9 => h9) rfl dX10_closes_26 ?_
      refine va_get (D := D) (ci := 2) (v := .int (z.2.2.1 520)) (C := RX2) (T := TX2) (N := 12) hx hb hts nX10_closes_X2 hown hK hP 8 (wC_8 y a z) rfl 8 (by decide) (hts (.fieldLink RX10 198 "WorksDesk$Book" "handedOver" "I") (List.mem_of_getElem? (i := 3) rfl)) (fun _ h9 => h9) rfl dX10_closes_29 ?_
      refine lv_iload_n hx hb dX10_closes_32 rfl (lv_at hl 2 rfl) ?_
      refine lv_icmp_le (tgt := 39) hx hb dX10_closes_33 (by decide) (fun c5 => ?_) (fun c5 => ?_)
      · replace hm := zz_pos c5 hm
        refine lv_aload_n hx hb dX10_closes_39 rfl (lv_at hl 1 rfl) ?_
        refine va_get (D := D) (ci := 10) (v := .ref (a 8)) (C := RX10) (T := TX10) (N := 7) hx hb hts nX10_closes_X10 hown hK hP 0 (wC_0 y a z) rfl 2 (by decide) (hts (.fieldLink RX10 26 "WorksDesk" "book" "LWorksDesk$Book;") (List.mem_of_getElem? (i := 1) rfl)) (fun _ h9 => h9) rfl dX10_closes_40 ?_
        refine lv_iload_n hx hb dX10_closes_43 rfl (lv_at hl 2 rfl) ?_
        refine va_put (D := D) (ci := 2) (v := .int x1) (ty := .int) (C := RX2) (T := TX2) (N := 12) hx hb hts nX10_closes_X2 tyX2 tyX2_ok nmX2 hown hK hP hD hS 8 (wC_8 y a z) rfl 9 (by decide) (hts (.fieldLink RX10 201 "WorksDesk$Book" "closed" "I") (List.mem_of_getElem? (i := 2) rfl)) (fun _ h9 => h9) rfl (tyX2_ok 9 (by decide)) rfl rfl (Nat.le_of_ble_eq_true rfl) dX10_closes_44 (fun H locs hP hD hS => ?_)
        obtain ⟨z6, hP, hD, hm⟩ := zz_up (w := wC y a) (wC_f8_9 y a z x1) hP hD hm
        refine lv_iload_n hx hb dX10_closes_47 rfl (lv_at hl 0 rfl) ?_
        exact zz_iret hx hb hr hlocks (zz_some2 hm) hP hK hD hS dX10_closes_48
      · replace hm := zz_neg c5 hm
        refine lv_bipush (v := (-3 : Int32)) hx hb dX10_closes_36 (by decide) ?_
        exact zz_iret hx hb hr hlocks (zz_some2 hm) hP hK hD hS dX10_closes_38
    · replace hm := zz_pos c4 hm
      refine lv_bipush (v := (-2 : Int32)) hx hb dX10_closes_22 (by decide) ?_
      exact zz_iret hx hb hr hlocks (zz_some2 hm) hP hK hD hS dX10_closes_24
  · replace hm := zz_pos c3 hm
    refine lv_iconst (v := (-1 : Int32)) hx hb dX10_closes_7 (by decide) ?_
    exact zz_iret hx hb hr hlocks (zz_some2 hm) hP hK hD hS dX10_closes_8
def mX10_monthOrNone_b11 (t0 : Int32) : Option Int32 := some t0
def mX10_monthOrNone (x0 : Int32) : Option Int32 := if x0 = (24 : Int32) then (mX10_monthOrNone_b11 (-1 : Int32)) else (mX10_monthOrNone_b11 x0)
theorem zdX10_monthOrNone : yX10_monthOrNone.cls ≠ "java/lang/invoke/MethodHandle" ∧ yX10_monthOrNone.cls ≠ "java/lang/invoke/VarHandle" ∧ (parseMethodDescriptor yX10_monthOrNone.desc).map (fun d => d.parameters.length) = some 1 := by decide +kernel
set_option maxHeartbeats 4000000 in
set_option maxRecDepth 100000 in
theorem zX10_monthOrNone (l : Launch) (D : va_G) (y : Nat → ClassId) (a : Nat → Nat) (sz : Nat) (x0 : Int32) (z : zz_M) {r : Int32} (hm : mX10_monthOrNone x0 = some r) : Met l yX10_monthOrNone wsX10_monthOrNone { frames := 0, cells := 0, slots := 0, locals := 0 } (zz_Pc D y (wC y a z) sz [.int x0]) (zz_Qi D y (wC y a) (va_A (wC y a z) sz) r z) 0 0 (va_A (wC y a z) sz) := by
  refine Met.ofW (cc := cX10_monthOrNone) (maxL := 1) (ret := (some .int)) (by decide) rfl ?_
  intro p e s m args below meth c s₁ B hml hv
  obtain ⟨rfl, hsz, hP, hK, hD0, hN, hg⟩ := hv
  have hx := B.exec
  have hb := B.bytes
  have hr := B.returns
  have hts := atoms_spec (ws := wsX10_monthOrNone) B.pre
  have hown : s.vm.findClass RX10 = some m.cls := findClass_of_methodNamed B.named
  have hlocks := B.notSynchronized
  clear B
  subst hsz
  have hD := hD0.self (sz := s.heap.size)
  generalize hAe : va_A (wC y a z) s.heap.size = A at hD hg ⊢
  have hA : ∀ q : Nat, s.heap.size ≤ q → A q := fun q h => by rw [← hAe]; exact Or.inr h
  clear hAe hD0
  have hl := lv_entry ([.int x0]) (n := 1) (Nat.le_of_ble_eq_true rfl)
  rw [lg_entry_eq]
  generalize (lg_sl ([.int x0]) ++ List.replicate (1 - (lg_sl ([.int x0])).length) Slot.unset).toArray = ls at hl ⊢
  replace hl : lv_has ls 1 [(0, .int x0)] := hl
  refine zz_go (w := wC y a) hP hD va_S.rf hl (fun G hG => ?_)
  clear hP hD hl ls
  have J11 : ∀ (t0 : Int32), mX10_monthOrNone_b11 t0 = some r → G 11 [] [.int t0] z := by
    intro t0 hm
    rw [mX10_monthOrNone_b11] at hm
    rw [hG]
    intro H locs ls hP hD hS hl
    exact zz_iret hx hb hr hlocks ⟨zz_some1 hm, rfl⟩ hP hK hD hS dX10_monthOrNone_11
  rw [hG]
  intro H locs ls hP hD hS hl
  unfold mX10_monthOrNone at hm
  refine lv_iload_n hx hb dX10_monthOrNone_0 rfl (lv_at hl 0 rfl) ?_
  refine lv_bipush (v := (24 : Int32)) hx hb dX10_monthOrNone_1 (by decide) ?_
  refine lv_icmp_ne (tgt := 10) hx hb dX10_monthOrNone_3 (by decide) (fun c1 => ?_) (fun c1 => ?_)
  · replace hm := zz_neg c1 hm
    refine lv_iload_n hx hb dX10_monthOrNone_10 rfl (lv_at hl 0 rfl) ?_
    have j := J11 x0 hm
    rw [hG] at j
    exact j H locs ls hP hD hS (lv_sub hl [] rfl)
  · replace hm := zz_pos c1 hm
    refine lv_iconst (v := (-1 : Int32)) hx hb dX10_monthOrNone_6 (by decide) ?_
    refine lv_goto (tgt := 11) hx hb dX10_monthOrNone_7 (by decide) ?_
    have j := J11 (-1 : Int32) hm
    rw [hG] at j
    exact j H locs ls hP hD hS (lv_sub hl [] rfl)
def mX6_isTold_b15 (fk : Nat) (z : zz_M) (t0 : Int32) : Option Int32 := zz_ck (zz_bool t0) (some t0)
def mX6_isTold (fk : Nat) (x1 : Int32) (z : zz_M) : Option Int32 := zz_ck (zz_in x1 24) (if (z.1 (16 + 3 * fk + 1) x1.toNatClampNeg) = (-1 : Int32) then (mX6_isTold_b15 fk z (0 : Int32)) else (mX6_isTold_b15 fk z (1 : Int32)))
theorem nX6_isTold_X6 : ∀ w ∈ wsX60, w ∈ wsX6_isTold := fun _ h => List.mem_cons_of_mem _ (List.mem_append_right _ (h))
theorem zdX6_isTold : yX6_isTold.cls = RX6 ∧ yX6_isTold.cls ≠ "java/lang/invoke/MethodHandle" ∧ yX6_isTold.cls ≠ "java/lang/invoke/VarHandle" ∧ (parseMethodDescriptor yX6_isTold.desc).map (fun d => d.parameters.length) = some 1 := by decide +kernel
set_option maxHeartbeats 4000000 in
set_option maxRecDepth 100000 in
theorem zX6_isTold (l : Launch) (D : va_G) (y : Nat → ClassId) (a : Nat → Nat) (sz : Nat) (fk : Nat) (x1 : Int32) (hfk : fk < 12) (z : zz_M) {r : Int32} (hm : mX6_isTold fk x1 z = some r) : Met l yX6_isTold wsX6_isTold { frames := 0, cells := 0, slots := 0, locals := 0 } (zz_Pc D y (wC y a z) sz [.ref (a (16 + 3 * fk)), .int x1]) (zz_Qi D y (wC y a) (va_A (wC y a z) sz) r z) 0 0 (va_A (wC y a z) sz) := by
  refine Met.ofW (cc := cX6_isTold) (maxL := 2) (ret := (some .boolean)) (by decide) rfl ?_
  intro p e s m args below meth c s₁ B hml hv
  obtain ⟨rfl, hsz, hP, hK, hD0, hN, hg⟩ := hv
  have hx := B.exec
  have hb := B.bytes
  have hr := B.returns
  have hts := atoms_spec (ws := wsX6_isTold) B.pre
  have hown : s.vm.findClass RX6 = some m.cls := findClass_of_methodNamed B.named
  have hlocks := B.notSynchronized
  clear B
  subst hsz
  have hD := hD0.self (sz := s.heap.size)
  generalize hAe : va_A (wC y a z) s.heap.size = A at hD hg ⊢
  have hA : ∀ q : Nat, s.heap.size ≤ q → A q := fun q h => by rw [← hAe]; exact Or.inr h
  clear hAe hD0
  have hl := lv_entry ([.ref (a (16 + 3 * fk)), .int x1]) (n := 2) (Nat.le_of_ble_eq_true rfl)
  rw [lg_entry_eq]
  generalize (lg_sl ([.ref (a (16 + 3 * fk)), .int x1]) ++ List.replicate (2 - (lg_sl ([.ref (a (16 + 3 * fk)), .int x1])).length) Slot.unset).toArray = ls at hl ⊢
  replace hl : lv_has ls 2 [(0, .ref (a (16 + 3 * fk))), (1, .int x1)] := hl
  refine zz_go (w := wC y a) hP hD va_S.rf hl (fun G hG => ?_)
  clear hP hD hl ls
  have J15 : ∀ (t0 : Int32), mX6_isTold_b15 fk z t0 = some r → G 15 [] [.int t0] z := by
    intro t0 hm
    rw [mX6_isTold_b15] at hm
    rw [hG]
    intro H locs ls hP hD hS hl
    obtain ⟨c1, hm⟩ := zz_ck_some hm
    exact zz_zret hx hb hr hlocks c1 ⟨zz_some1 hm, rfl⟩ hP hK hD hS dX6_isTold_15
  rw [hG]
  intro H locs ls hP hD hS hl
  unfold mX6_isTold at hm
  refine lv_aload_n hx hb dX6_isTold_0 rfl (lv_at hl 0 rfl) ?_
  refine va_get (D := D) (ci := 6) (v := .ref (a (16 + 3 * fk + 1))) (C := RX6) (T := TX6) (N := 3) hx hb hts nX6_isTold_X6 hown hK hP (16 + 3 * fk) (wC_ser y a z fk hfk) rfl 0 (by decide) (hts (.fieldLink RX6 9 "WorksDesk$Series" "told" "[I") (List.mem_of_getElem? (i := 1) rfl)) (fun _ h9 => h9) rfl dX6_isTold_1 ?_
  refine lv_iload_n hx hb dX6_isTold_4 rfl (lv_at hl 1 rfl) ?_
  obtain ⟨c2, hm⟩ := zz_ck_some hm
  refine va_iald hx hb hK hP (16 + 3 * fk + 1) 0 (wC_serA1 y a z fk hfk) rfl c2 dX6_isTold_5 ?_
  refine lv_iconst (v := (-1 : Int32)) hx hb dX6_isTold_6 (by decide) ?_
  refine lv_icmp_eq (tgt := 14) hx hb dX6_isTold_7 (by decide) (fun c3 => ?_) (fun c3 => ?_)
  · replace hm := zz_pos c3 hm
    refine lv_iconst (v := (0 : Int32)) hx hb dX6_isTold_14 (by decide) ?_
    have j := J15 (0 : Int32) hm
    rw [hG] at j
    exact j H locs ls hP hD hS (lv_sub hl [] rfl)
  · replace hm := zz_neg c3 hm
    refine lv_iconst (v := (1 : Int32)) hx hb dX6_isTold_10 (by decide) ?_
    refine lv_goto (tgt := 15) hx hb dX6_isTold_11 (by decide) ?_
    have j := J15 (1 : Int32) hm
    rw [hG] at j
    exact j H locs ls hP hD hS (lv_sub hl [] rfl)
def mX2_isMeasured_b2 (z : zz_M) : Nat → Int32 → Int32 → Option Int32
  | 0, _, _ => none
  | n + 1, v1, v2 => if (z.2.2.1 579) ≤ v2 then (some (0 : Int32)) else (zz_ck (zz_in v2 10) (zz_b1 (mX6_isTold v2.toNatClampNeg v1 z) (fun r3 => if r3 = (0 : Int32) then (zz_nm (v2 + (1 : Int32)) (fun n6 => (mX2_isMeasured_b2 z n) v1 n6)) else (some (1 : Int32)))))
def mX2_isMeasured (x1 : Int32) (z : zz_M) : Option Int32 := mX2_isMeasured_b2 z zz_N x1 (0 : Int32)
theorem nX2_isMeasured_X0 : ∀ w ∈ wsX00, w ∈ wsX2_isMeasured := fun _ h => List.mem_cons_of_mem _ (List.mem_append_left _ (List.mem_append_right _ (h)))
theorem nX2_isMeasured_X2 : ∀ w ∈ wsX20, w ∈ wsX2_isMeasured := fun _ h => List.mem_cons_of_mem _ (List.mem_append_left _ (List.mem_append_left _ (List.mem_append_right _ (h))))
theorem zdX2_isMeasured : yX2_isMeasured.cls = RX2 ∧ yX2_isMeasured.cls ≠ "java/lang/invoke/MethodHandle" ∧ yX2_isMeasured.cls ≠ "java/lang/invoke/VarHandle" ∧ (parseMethodDescriptor yX2_isMeasured.desc).map (fun d => d.parameters.length) = some 1 := by decide +kernel
set_option maxHeartbeats 4000000 in
set_option maxRecDepth 100000 in
theorem zX2_isMeasured (l : Launch) (D : va_G) (y : Nat → ClassId) (a : Nat → Nat) (sz : Nat) (x1 : Int32) (z : zz_M) {r : Int32} (hm : mX2_isMeasured x1 z = some r) : Met l yX2_isMeasured wsX2_isMeasured { frames := 1, cells := 0, slots := 0, locals := 21 } (zz_Pc D y (wC y a z) sz [.ref (a 8), .int x1]) (zz_Qi D y (wC y a) (va_A (wC y a z) sz) r z) 0 0 (va_A (wC y a z) sz) := by
  refine Met.ofW (cc := cX2_isMeasured) (maxL := 3) (ret := (some .boolean)) (by decide) rfl ?_
  intro p e s m args below meth c s₁ B hml hv
  obtain ⟨rfl, hsz, hP, hK, hD0, hN, hg⟩ := hv
  have hx := B.exec
  have hb := B.bytes
  have hr := B.returns
  have hts := atoms_spec (ws := wsX2_isMeasured) B.pre
  have hown : s.vm.findClass RX2 = some m.cls := findClass_of_methodNamed B.named
  have hlocks := B.notSynchronized
  clear B
  subst hsz
  have hD := hD0.self (sz := s.heap.size)
  generalize hAe : va_A (wC y a z) s.heap.size = A at hD hg ⊢
  have hA : ∀ q : Nat, s.heap.size ≤ q → A q := fun q h => by rw [← hAe]; exact Or.inr h
  clear hAe hD0
  have hl := lv_entry ([.ref (a 8), .int x1]) (n := 3) (Nat.le_of_ble_eq_true rfl)
  rw [lg_entry_eq]
  generalize (lg_sl ([.ref (a 8), .int x1]) ++ List.replicate (3 - (lg_sl ([.ref (a 8), .int x1])).length) Slot.unset).toArray = ls at hl ⊢
  replace hl : lv_has ls 3 [(0, .ref (a 8)), (1, .int x1)] := hl
  refine zz_go (w := wC y a) hP hD va_S.rf hl (fun G hG => ?_)
  clear hP hD hl ls
  have J2 : ∀ (n : Nat) (v1 : Int32) (v2 : Int32), mX2_isMeasured_b2 z n v1 v2 = some r → G 2 [(0, .ref (a 8)), (1, .int v1), (2, .int v2)] [] z := by
    intro n
    induction n with
    | zero =>
      intro v1 v2 hm
      exact zz_none hm
    | succ n ih =>
      intro v1 v2 hm
      rw [mX2_isMeasured_b2] at hm
      rw [hG]
      intro H locs ls hP hD hS hl
      refine lv_iload_n hx hb dX2_isMeasured_2 rfl (lv_at hl 2 rfl) ?_
      refine lv_aload_n hx hb dX2_isMeasured_3 rfl (lv_at hl 0 rfl) ?_
      refine va_get (D := D) (ci := 2) (v := .ref (a 9)) (C := RX2) (T := TX2) (N := 12) hx hb hts nX2_isMeasured_X2 hown hK hP 8 (wC_8 y a z) rfl 0 (by decide) (hts (.fieldLink RX2 12 "WorksDesk$Book" "items" "LWorksDesk$Bill;") (List.mem_of_getElem? (i := 1) rfl)) (fun _ h9 => h9) rfl dX2_isMeasured_4 ?_
      refine va_get (D := D) (ci := 0) (v := .int (z.2.2.1 579)) (C := RX0) (T := TX0) (N := 5) hx hb hts nX2_isMeasured_X0 hown hK hP 9 (wC_bill y a z 9 (Or.inr rfl)) rfl 3 (by decide) (hts (.fieldLink RX2 93 "WorksDesk$Bill" "size" "I") (List.mem_of_getElem? (i := 2) rfl)) (fun _ h9 => h9) rfl dX2_isMeasured_7 ?_
      refine lv_icmp_ge (tgt := 34) hx hb dX2_isMeasured_10 (by decide) (fun c1 => ?_) (fun c1 => ?_)
      · replace hm := zz_pos c1 hm
        refine lv_iconst (v := (0 : Int32)) hx hb dX2_isMeasured_34 (by decide) ?_
        exact zz_zret hx hb hr hlocks (by decide) ⟨zz_some1 hm, rfl⟩ hP hK hD hS dX2_isMeasured_35
      · replace hm := zz_neg c1 hm
        refine lv_aload_n hx hb dX2_isMeasured_13 rfl (lv_at hl 0 rfl) ?_
        refine va_get (D := D) (ci := 2) (v := .ref (a 15)) (C := RX2) (T := TX2) (N := 12) hx hb hts nX2_isMeasured_X2 hown hK hP 8 (wC_8 y a z) rfl 2 (by decide) (hts (.fieldLink RX2 27 "WorksDesk$Book" "measured" "[LWorksDesk$Series;") (List.mem_of_getElem? (i := 3) rfl)) (fun _ h9 => h9) rfl dX2_isMeasured_14 ?_
        refine lv_iload_n hx hb dX2_isMeasured_17 rfl (lv_at hl 2 rfl) ?_
        obtain ⟨c2, hm⟩ := zz_ck_some hm
        refine va_aldq (C := RX6) hx hb hK hP 15 3 (wC_15 y a z) rfl c2 dX2_isMeasured_18 ?_
        refine W.eq (g2 := F0 m 19 ls [.ref (a (16 + 3 * v2.toNatClampNeg))]) rfl ?_
        refine lv_iload_n hx hb dX2_isMeasured_19 rfl (lv_at hl 1 rfl) ?_
        obtain ⟨r3, h4, hm⟩ := zz_b1_some hm
        refine zz_calli (zz_runV (w := wC y a) (As := [.int v1]) (rest := []) ⟨hx, hb, hml, hown, hts⟩ (zX6_isTold l D y a H.size v2.toNatClampNeg v1 (zz_lt c2 (by decide)) z h4) (cwV 1 hts gX2_isMeasured_X6_isTold rfl rfl rfl zdX6_isTold ⟨Nat.le_of_ble_eq_true rfl, Nat.le_of_ble_eq_true rfl⟩) hK hN hg hP hD hS hA (16 + 3 * v2.toNatClampNeg) (wC_ser y a z v2.toNatClampNeg (zz_lt c2 (by decide))) rfl rfl hl.1 rfl (Nat.le_of_ble_eq_true rfl) dX2_isMeasured_20 ⟨Nat.le_of_ble_eq_true rfl, Nat.le_of_ble_eq_true rfl⟩) hD hS hA (fun H locs hP hD hS => ?_)
        refine lv_if_eq (tgt := 28) hx hb dX2_isMeasured_23 (by decide) (fun c5 => ?_) (fun c5 => ?_)
        · replace hm := zz_pos c5 hm
          obtain ⟨n6, en6⟩ : ∃ q : Int32, q = v2 + (1 : Int32) := ⟨_, rfl⟩
          replace hm := zz_nm_some en6 hm
          refine lv_iinc (v := n6) (lv' := [(2, .int n6), (0, .ref (a 8)), (1, .int v1)]) hx hb dX2_isMeasured_28 hl (k := 2) rfl (by rw [en6]; rfl) (by decide) rfl (fun ls hl => ?_)
          refine lv_goto (tgt := 2) hx hb dX2_isMeasured_31 (by decide) ?_
          have j := ih v1 n6 hm
          rw [hG] at j
          exact j H locs ls hP hD hS (lv_sub hl [1, 2, 0] rfl)
        · replace hm := zz_neg c5 hm
          refine lv_iconst (v := (1 : Int32)) hx hb dX2_isMeasured_26 (by decide) ?_
          exact zz_zret hx hb hr hlocks (by decide) ⟨zz_some1 hm, rfl⟩ hP hK hD hS dX2_isMeasured_27
  rw [hG]
  intro H locs ls hP hD hS hl
  unfold mX2_isMeasured at hm
  refine lv_iconst (v := (0 : Int32)) hx hb dX2_isMeasured_0 (by decide) ?_
  refine lv_istore_n (lv' := [(2, .int (0 : Int32)), (0, .ref (a 8)), (1, .int x1)]) hx hb dX2_isMeasured_1 rfl hl (by decide) rfl (fun ls hl => ?_)
  have j := J2 zz_N x1 (0 : Int32) hm
  rw [hG] at j
  exact j H locs ls hP hD hS (lv_sub hl [1, 2, 0] rfl)
def mX2_measuredMonths_b24 (z : zz_M) (k4 : Int32 → Int32 → Option Int32) (v2 : Int32) (t0 : Int32) (t1 : Int32) : Option Int32 := zz_nm (t1 + t0) (fun n1 => zz_nm (v2 + (1 : Int32)) (fun n2 => k4 n1 n2))
def mX2_measuredMonths_b4 (z : zz_M) : Nat → Int32 → Int32 → Option Int32
  | 0, _, _ => none
  | n + 1, v1, v2 => if (24 : Int32) ≤ v2 then (some v1) else (zz_b1 (mX2_isMeasured v2 z) (fun r4 => if r4 = (0 : Int32) then (mX2_measuredMonths_b24 z (mX2_measuredMonths_b4 z n) v2 (0 : Int32) v1) else (mX2_measuredMonths_b24 z (mX2_measuredMonths_b4 z n) v2 (1 : Int32) v1)))
def mX2_measuredMonths (z : zz_M) : Option Int32 := mX2_measuredMonths_b4 z zz_N (0 : Int32) (0 : Int32)
theorem zdX2_measuredMonths : yX2_measuredMonths.cls = RX2 ∧ yX2_measuredMonths.cls ≠ "java/lang/invoke/MethodHandle" ∧ yX2_measuredMonths.cls ≠ "java/lang/invoke/VarHandle" ∧ (parseMethodDescriptor yX2_measuredMonths.desc).map (fun d => d.parameters.length) = some 0 := by decide +kernel
set_option maxHeartbeats 4000000 in
set_option maxRecDepth 100000 in
theorem zX2_measuredMonths (l : Launch) (D : va_G) (y : Nat → ClassId) (a : Nat → Nat) (sz : Nat) (z : zz_M) {r : Int32} (hm : mX2_measuredMonths z = some r) : Met l yX2_measuredMonths wsX2_measuredMonths { frames := 2, cells := 0, slots := 0, locals := 43 } (zz_Pc D y (wC y a z) sz [.ref (a 8)]) (zz_Qi D y (wC y a) (va_A (wC y a z) sz) r z) 0 0 (va_A (wC y a z) sz) := by
  refine Met.ofW (cc := cX2_measuredMonths) (maxL := 3) (ret := (some .int)) (by decide) rfl ?_
  intro p e s m args below meth c s₁ B hml hv
  obtain ⟨rfl, hsz, hP, hK, hD0, hN, hg⟩ := hv
  have hx := B.exec
  have hb := B.bytes
  have hr := B.returns
  have hts := atoms_spec (ws := wsX2_measuredMonths) B.pre
  have hown : s.vm.findClass RX2 = some m.cls := findClass_of_methodNamed B.named
  have hlocks := B.notSynchronized
  clear B
  subst hsz
  have hD := hD0.self (sz := s.heap.size)
  generalize hAe : va_A (wC y a z) s.heap.size = A at hD hg ⊢
  have hA : ∀ q : Nat, s.heap.size ≤ q → A q := fun q h => by rw [← hAe]; exact Or.inr h
  clear hAe hD0
  have hl := lv_entry ([.ref (a 8)]) (n := 3) (Nat.le_of_ble_eq_true rfl)
  rw [lg_entry_eq]
  generalize (lg_sl ([.ref (a 8)]) ++ List.replicate (3 - (lg_sl ([.ref (a 8)])).length) Slot.unset).toArray = ls at hl ⊢
  replace hl : lv_has ls 3 [(0, .ref (a 8))] := hl
  refine zz_go (w := wC y a) hP hD va_S.rf hl (fun G hG => ?_)
  clear hP hD hl ls
  have J24 : ∀ (k4 : Int32 → Int32 → Option Int32) (K4 : ∀ (v1 : Int32) (v2 : Int32), k4 v1 v2 = some r → G 4 [(0, .ref (a 8)), (1, .int v1), (2, .int v2)] [] z) (v2 : Int32) (t0 : Int32) (t1 : Int32), mX2_measuredMonths_b24 z k4 v2 t0 t1 = some r → G 24 [(0, .ref (a 8)), (2, .int v2)] [.int t0, .int t1] z := by
    intro k4 K4 v2 t0 t1 hm
    rw [mX2_measuredMonths_b24] at hm
    rw [hG]
    intro H locs ls hP hD hS hl
    refine lv_iadd hx hb dX2_measuredMonths_24 ?_
    refine lv_topi (fun n1 en1 => ?_)
    replace hm := zz_nm_some en1 hm
    refine lv_istore_n (lv' := [(1, .int n1), (0, .ref (a 8)), (2, .int v2)]) hx hb dX2_measuredMonths_25 rfl hl (by decide) rfl (fun ls hl => ?_)
    obtain ⟨n2, en2⟩ : ∃ q : Int32, q = v2 + (1 : Int32) := ⟨_, rfl⟩
    replace hm := zz_nm_some en2 hm
    refine lv_iinc (v := n2) (lv' := [(2, .int n2), (1, .int n1), (0, .ref (a 8))]) hx hb dX2_measuredMonths_26 hl (k := 2) rfl (by rw [en2]; rfl) (by decide) rfl (fun ls hl => ?_)
    refine lv_goto (tgt := 4) hx hb dX2_measuredMonths_29 (by decide) ?_
    have j := K4 n1 n2 hm
    rw [hG] at j
    exact j H locs ls hP hD hS (lv_sub hl [2, 1, 0] rfl)
  have J4 : ∀ (n : Nat) (v1 : Int32) (v2 : Int32), mX2_measuredMonths_b4 z n v1 v2 = some r → G 4 [(0, .ref (a 8)), (1, .int v1), (2, .int v2)] [] z := by
    intro n
    induction n with
    | zero =>
      intro v1 v2 hm
      exact zz_none hm
    | succ n ih =>
      intro v1 v2 hm
      rw [mX2_measuredMonths_b4] at hm
      rw [hG]
      intro H locs ls hP hD hS hl
      refine lv_iload_n hx hb dX2_measuredMonths_4 rfl (lv_at hl 2 rfl) ?_
      refine lv_bipush (v := (24 : Int32)) hx hb dX2_measuredMonths_5 (by decide) ?_
      refine lv_icmp_ge (tgt := 32) hx hb dX2_measuredMonths_7 (by decide) (fun c3 => ?_) (fun c3 => ?_)
      · replace hm := zz_pos c3 hm
        refine lv_iload_n hx hb dX2_measuredMonths_32 rfl (lv_at hl 1 rfl) ?_
        exact zz_iret hx hb hr hlocks ⟨zz_some1 hm, rfl⟩ hP hK hD hS dX2_measuredMonths_33
      · replace hm := zz_neg c3 hm
        refine lv_iload_n hx hb dX2_measuredMonths_10 rfl (lv_at hl 1 rfl) ?_
        refine lv_aload_n hx hb dX2_measuredMonths_11 rfl (lv_at hl 0 rfl) ?_
        refine lv_iload_n hx hb dX2_measuredMonths_12 rfl (lv_at hl 2 rfl) ?_
        obtain ⟨r4, h5, hm⟩ := zz_b1_some hm
        refine zz_calli (zz_runV (w := wC y a) (As := [.int v2]) (rest := [.int v1]) ⟨hx, hb, hml, hown, hts⟩ (zX2_isMeasured l D y a H.size v2 z h5) (cwV 1 hts gX2_measuredMonths_X2_isMeasured rfl rfl rfl zdX2_isMeasured ⟨Nat.le_of_ble_eq_true rfl, Nat.le_of_ble_eq_true rfl⟩) hK hN hg hP hD hS hA 8 (wC_8 y a z) rfl rfl hl.1 rfl (Nat.le_of_ble_eq_true rfl) dX2_measuredMonths_13 ⟨Nat.le_of_ble_eq_true rfl, Nat.le_of_ble_eq_true rfl⟩) hD hS hA (fun H locs hP hD hS => ?_)
        refine lv_if_eq (tgt := 23) hx hb dX2_measuredMonths_16 (by decide) (fun c6 => ?_) (fun c6 => ?_)
        · replace hm := zz_pos c6 hm
          refine lv_iconst (v := (0 : Int32)) hx hb dX2_measuredMonths_23 (by decide) ?_
          have j := J24 (mX2_measuredMonths_b4 z n) ih v2 (0 : Int32) v1 hm
          rw [hG] at j
          exact j H locs ls hP hD hS (lv_sub hl [0, 2] rfl)
        · replace hm := zz_neg c6 hm
          refine lv_iconst (v := (1 : Int32)) hx hb dX2_measuredMonths_19 (by decide) ?_
          refine lv_goto (tgt := 24) hx hb dX2_measuredMonths_20 (by decide) ?_
          have j := J24 (mX2_measuredMonths_b4 z n) ih v2 (1 : Int32) v1 hm
          rw [hG] at j
          exact j H locs ls hP hD hS (lv_sub hl [0, 2] rfl)
  rw [hG]
  intro H locs ls hP hD hS hl
  unfold mX2_measuredMonths at hm
  refine lv_iconst (v := (0 : Int32)) hx hb dX2_measuredMonths_0 (by decide) ?_
  refine lv_istore_n (lv' := [(1, .int (0 : Int32)), (0, .ref (a 8))]) hx hb dX2_measuredMonths_1 rfl hl (by decide) rfl (fun ls hl => ?_)
  refine lv_iconst (v := (0 : Int32)) hx hb dX2_measuredMonths_2 (by decide) ?_
  refine lv_istore_n (lv' := [(2, .int (0 : Int32)), (1, .int (0 : Int32)), (0, .ref (a 8))]) hx hb dX2_measuredMonths_3 rfl hl (by decide) rfl (fun ls hl => ?_)
  have j := J4 zz_N (0 : Int32) (0 : Int32) hm
  rw [hG] at j
  exact j H locs ls hP hD hS (lv_sub hl [2, 1, 0] rfl)
def mX8_has_b15 (t0 : Int32) : Option Int32 := zz_ck (zz_bool t0) (some t0)
def mX8_has_b14 : Option Int32 := mX8_has_b15 (0 : Int32)
def mX8_has (x0 : Int32) : Option Int32 := if x0 < (0 : Int32) then (mX8_has_b14) else (if (14 : Int32) ≤ x0 then (mX8_has_b14) else (mX8_has_b15 (1 : Int32)))
theorem zdX8_has : yX8_has.cls ≠ "java/lang/invoke/MethodHandle" ∧ yX8_has.cls ≠ "java/lang/invoke/VarHandle" ∧ (parseMethodDescriptor yX8_has.desc).map (fun d => d.parameters.length) = some 1 := by decide +kernel
set_option maxHeartbeats 4000000 in
set_option maxRecDepth 100000 in
theorem zX8_has (l : Launch) (D : va_G) (y : Nat → ClassId) (a : Nat → Nat) (sz : Nat) (x0 : Int32) (z : zz_M) {r : Int32} (hm : mX8_has x0 = some r) : Met l yX8_has wsX8_has { frames := 0, cells := 0, slots := 0, locals := 0 } (zz_Pc D y (wC y a z) sz [.int x0]) (zz_Qi D y (wC y a) (va_A (wC y a z) sz) r z) 0 0 (va_A (wC y a z) sz) := by
  refine Met.ofW (cc := cX8_has) (maxL := 1) (ret := (some .boolean)) (by decide) rfl ?_
  intro p e s m args below meth c s₁ B hml hv
  obtain ⟨rfl, hsz, hP, hK, hD0, hN, hg⟩ := hv
  have hx := B.exec
  have hb := B.bytes
  have hr := B.returns
  have hts := atoms_spec (ws := wsX8_has) B.pre
  have hown : s.vm.findClass RX8 = some m.cls := findClass_of_methodNamed B.named
  have hlocks := B.notSynchronized
  clear B
  subst hsz
  have hD := hD0.self (sz := s.heap.size)
  generalize hAe : va_A (wC y a z) s.heap.size = A at hD hg ⊢
  have hA : ∀ q : Nat, s.heap.size ≤ q → A q := fun q h => by rw [← hAe]; exact Or.inr h
  clear hAe hD0
  have hl := lv_entry ([.int x0]) (n := 1) (Nat.le_of_ble_eq_true rfl)
  rw [lg_entry_eq]
  generalize (lg_sl ([.int x0]) ++ List.replicate (1 - (lg_sl ([.int x0])).length) Slot.unset).toArray = ls at hl ⊢
  replace hl : lv_has ls 1 [(0, .int x0)] := hl
  refine zz_go (w := wC y a) hP hD va_S.rf hl (fun G hG => ?_)
  clear hP hD hl ls
  have J15 : ∀ (t0 : Int32), mX8_has_b15 t0 = some r → G 15 [] [.int t0] z := by
    intro t0 hm
    rw [mX8_has_b15] at hm
    rw [hG]
    intro H locs ls hP hD hS hl
    obtain ⟨c1, hm⟩ := zz_ck_some hm
    exact zz_zret hx hb hr hlocks c1 ⟨zz_some1 hm, rfl⟩ hP hK hD hS dX8_has_15
  have J14 : mX8_has_b14 = some r → G 14 [] [] z := by
    intro hm
    rw [mX8_has_b14] at hm
    rw [hG]
    intro H locs ls hP hD hS hl
    refine lv_iconst (v := (0 : Int32)) hx hb dX8_has_14 (by decide) ?_
    have j := J15 (0 : Int32) hm
    rw [hG] at j
    exact j H locs ls hP hD hS (lv_sub hl [] rfl)
  rw [hG]
  intro H locs ls hP hD hS hl
  unfold mX8_has at hm
  refine lv_iload_n hx hb dX8_has_0 rfl (lv_at hl 0 rfl) ?_
  refine lv_if_lt (tgt := 14) hx hb dX8_has_1 (by decide) (fun c2 => ?_) (fun c2 => ?_)
  · replace hm := zz_pos c2 hm
    have j := J14 hm
    rw [hG] at j
    exact j H locs ls hP hD hS (lv_sub hl [] rfl)
  · replace hm := zz_neg c2 hm
    refine lv_iload_n hx hb dX8_has_4 rfl (lv_at hl 0 rfl) ?_
    refine lv_bipush (v := (14 : Int32)) hx hb dX8_has_5 (by decide) ?_
    refine lv_icmp_ge (tgt := 14) hx hb dX8_has_7 (by decide) (fun c3 => ?_) (fun c3 => ?_)
    · replace hm := zz_pos c3 hm
      have j := J14 hm
      rw [hG] at j
      exact j H locs ls hP hD hS (lv_sub hl [] rfl)
    · replace hm := zz_neg c3 hm
      refine lv_iconst (v := (1 : Int32)) hx hb dX8_has_10 (by decide) ?_
      refine lv_goto (tgt := 15) hx hb dX8_has_11 (by decide) ?_
      have j := J15 (1 : Int32) hm
      rw [hG] at j
      exact j H locs ls hP hD hS (lv_sub hl [] rfl)
def mX10_count_b202 (z : zz_M) (t0 : Int32) : Option Int32 := some t0
def mX10_count_b34 (z : zz_M) (t0 : Int32) : Option Int32 := some t0
def mX10_count (x1 : Int32) (z : zz_M) : Option Int32 := if x1 < (10 : Int32) then (if x1 = (0 : Int32) then (some (z.2.2.1 579)) else (if x1 = (1 : Int32) then (some (z.2.2.1 3332)) else (if x1 = (2 : Int32) then (some (z.2.2.1 3653)) else (if x1 = (3 : Int32) then (zz_b1 (mX10_monthOrNone (z.2.2.1 520)) (fun r6 => some r6)) else (if x1 = (4 : Int32) then (zz_b1 (mX10_monthOrNone (z.2.2.1 521)) (fun r9 => some r9)) else (if x1 = (5 : Int32) then (zz_b1 (mX2_measuredMonths z) (fun r12 => some r12)) else (if x1 = (6 : Int32) then (some (z.2.2.1 6337)) else (if x1 = (7 : Int32) then (some (z.2.2.1 65)) else (if x1 = (8 : Int32) then (if (z.2.2.1 522) = (24 : Int32) then (mX10_count_b202 z (-1 : Int32)) else (mX10_count_b202 z ((z.2.2.1 522) + (z.2.2.1 523)))) else (if x1 = (9 : Int32) then (some (z.2.2.1 523)) else (some (-1 : Int32)))))))))))) else (zz_b1 (mX8_has (x1 - (10 : Int32))) (fun r19 => if r19 = (0 : Int32) then (mX10_count_b34 z (-1 : Int32)) else (zz_b1 (mX8_of (x1 - (10 : Int32)) z) (fun r22 => mX10_count_b34 z r22))))
theorem nX10_count_X0 : ∀ w ∈ wsX00, w ∈ wsX10_count := fun _ h => List.mem_cons_of_mem _ (List.mem_append_left _ (List.mem_append_left _ (List.mem_append_left _ (List.mem_append_left _ (List.mem_append_left _ (List.mem_append_left _ (List.mem_append_right _ (h))))))))
theorem nX10_count_X10 : ∀ w ∈ wsX100, w ∈ wsX10_count := fun _ h => List.mem_cons_of_mem _ (List.mem_append_left _ (List.mem_append_left _ (List.mem_append_left _ (List.mem_append_left _ (List.mem_append_left _ (List.mem_append_left _ (List.mem_append_left _ (List.mem_append_left _ (List.mem_append_right _ (h))))))))))
theorem nX10_count_X2 : ∀ w ∈ wsX20, w ∈ wsX10_count := fun _ h => List.mem_cons_of_mem _ (List.mem_append_left _ (List.mem_append_left _ (List.mem_append_left _ (List.mem_append_left _ (List.mem_append_left _ (List.mem_append_left _ (List.mem_append_left _ (List.mem_append_right _ (h)))))))))
theorem nX10_count_X3 : ∀ w ∈ wsX30, w ∈ wsX10_count := fun _ h => List.mem_cons_of_mem _ (List.mem_append_left _ (List.mem_append_left _ (List.mem_append_left _ (List.mem_append_left _ (List.mem_append_left _ (List.mem_append_right _ (h)))))))
theorem nX10_count_X5 : ∀ w ∈ wsX50, w ∈ wsX10_count := fun _ h => List.mem_cons_of_mem _ (List.mem_append_left _ (List.mem_append_left _ (List.mem_append_left _ (List.mem_append_right _ (h)))))
theorem nX10_count_X7 : ∀ w ∈ wsX70, w ∈ wsX10_count := fun _ h => List.mem_cons_of_mem _ (List.mem_append_left _ (List.mem_append_left _ (List.mem_append_left _ (List.mem_append_left _ (List.mem_append_right _ (h))))))
theorem nX10_count_X9 : ∀ w ∈ wsX90, w ∈ wsX10_count := fun _ h => List.mem_cons_of_mem _ (List.mem_append_left _ (List.mem_append_left _ (List.mem_append_right _ (h))))
theorem zdX10_count : yX10_count.cls = RX10 ∧ yX10_count.cls ≠ "java/lang/invoke/MethodHandle" ∧ yX10_count.cls ≠ "java/lang/invoke/VarHandle" ∧ (parseMethodDescriptor yX10_count.desc).map (fun d => d.parameters.length) = some 1 := by decide +kernel
set_option maxHeartbeats 4000000 in
set_option maxRecDepth 100000 in
theorem zX10_count (l : Launch) (D : va_G) (y : Nat → ClassId) (a : Nat → Nat) (sz : Nat) (x1 : Int32) (z : zz_M) {r : Int32} (hm : mX10_count x1 z = some r) : Met l yX10_count wsX10_count { frames := 3, cells := 0, slots := 0, locals := 65 } (zz_Pc D y (wC y a z) sz [.ref (a 0), .int x1]) (zz_Qi D y (wC y a) (va_A (wC y a z) sz) r z) 0 0 (va_A (wC y a z) sz) := by
  refine Met.ofW (cc := cX10_count) (maxL := 2) (ret := (some .int)) (by decide) rfl ?_
  intro p e s m args below meth c s₁ B hml hv
  obtain ⟨rfl, hsz, hP, hK, hD0, hN, hg⟩ := hv
  have hx := B.exec
  have hb := B.bytes
  have hr := B.returns
  have hts := atoms_spec (ws := wsX10_count) B.pre
  have hown : s.vm.findClass RX10 = some m.cls := findClass_of_methodNamed B.named
  have hlocks := B.notSynchronized
  clear B
  subst hsz
  have hD := hD0.self (sz := s.heap.size)
  generalize hAe : va_A (wC y a z) s.heap.size = A at hD hg ⊢
  have hA : ∀ q : Nat, s.heap.size ≤ q → A q := fun q h => by rw [← hAe]; exact Or.inr h
  clear hAe hD0
  have hl := lv_entry ([.ref (a 0), .int x1]) (n := 2) (Nat.le_of_ble_eq_true rfl)
  rw [lg_entry_eq]
  generalize (lg_sl ([.ref (a 0), .int x1]) ++ List.replicate (2 - (lg_sl ([.ref (a 0), .int x1])).length) Slot.unset).toArray = ls at hl ⊢
  replace hl : lv_has ls 2 [(0, .ref (a 0)), (1, .int x1)] := hl
  refine zz_go (w := wC y a) hP hD va_S.rf hl (fun G hG => ?_)
  clear hP hD hl ls
  have J202 : ∀ (t0 : Int32), mX10_count_b202 z t0 = some r → G 202 [] [.int t0] z := by
    intro t0 hm
    rw [mX10_count_b202] at hm
    rw [hG]
    intro H locs ls hP hD hS hl
    exact zz_iret hx hb hr hlocks ⟨zz_some1 hm, rfl⟩ hP hK hD hS dX10_count_202
  have J34 : ∀ (t0 : Int32), mX10_count_b34 z t0 = some r → G 34 [] [.int t0] z := by
    intro t0 hm
    rw [mX10_count_b34] at hm
    rw [hG]
    intro H locs ls hP hD hS hl
    exact zz_iret hx hb hr hlocks ⟨zz_some1 hm, rfl⟩ hP hK hD hS dX10_count_34
  rw [hG]
  intro H locs ls hP hD hS hl
  unfold mX10_count at hm
  refine lv_iload_n hx hb dX10_count_0 rfl (lv_at hl 1 rfl) ?_
  refine lv_bipush (v := (10 : Int32)) hx hb dX10_count_1 (by decide) ?_
  refine lv_icmp_lt (tgt := 35) hx hb dX10_count_3 (by decide) (fun c1 => ?_) (fun c1 => ?_)
  · replace hm := zz_pos c1 hm
    refine lv_iload_n hx hb dX10_count_35 rfl (lv_at hl 1 rfl) ?_
    by_cases c2 : x1 = (0 : Int32)
    · replace hm := zz_pos c2 hm
      refine lv_tableIn (tgt := 92) hx hb dX10_count_36 (by rw [c2]; decide) (by rw [c2]; decide) (by rw [c2]; rfl) (by decide) ?_
      refine lv_aload_n hx hb dX10_count_92 rfl (lv_at hl 0 rfl) ?_
      refine va_get (D := D) (ci := 10) (v := .ref (a 8)) (C := RX10) (T := TX10) (N := 7) hx hb hts nX10_count_X10 hown hK hP 0 (wC_0 y a z) rfl 2 (by decide) (hts (.fieldLink RX10 26 "WorksDesk" "book" "LWorksDesk$Book;") (List.mem_of_getElem? (i := 1) rfl)) (fun _ h9 => h9) rfl dX10_count_93 ?_
      refine va_get (D := D) (ci := 2) (v := .ref (a 9)) (C := RX2) (T := TX2) (N := 12) hx hb hts nX10_count_X2 hown hK hP 8 (wC_8 y a z) rfl 0 (by decide) (hts (.fieldLink RX10 107 "WorksDesk$Book" "items" "LWorksDesk$Bill;") (List.mem_of_getElem? (i := 3) rfl)) (fun _ h9 => h9) rfl dX10_count_96 ?_
      refine va_get (D := D) (ci := 0) (v := .int (z.2.2.1 579)) (C := RX0) (T := TX0) (N := 5) hx hb hts nX10_count_X0 hown hK hP 9 (wC_bill y a z 9 (Or.inr rfl)) rfl 3 (by decide) (hts (.fieldLink RX10 284 "WorksDesk$Bill" "size" "I") (List.mem_of_getElem? (i := 4) rfl)) (fun _ h9 => h9) rfl dX10_count_99 ?_
      exact zz_iret hx hb hr hlocks ⟨zz_some1 hm, rfl⟩ hP hK hD hS dX10_count_102
    · replace hm := zz_neg c2 hm
      by_cases c3 : x1 = (1 : Int32)
      · replace hm := zz_pos c3 hm
        refine lv_tableIn (tgt := 103) hx hb dX10_count_36 (by rw [c3]; decide) (by rw [c3]; decide) (by rw [c3]; rfl) (by decide) ?_
        refine lv_aload_n hx hb dX10_count_103 rfl (lv_at hl 0 rfl) ?_
        refine va_get (D := D) (ci := 10) (v := .ref (a 8)) (C := RX10) (T := TX10) (N := 7) hx hb hts nX10_count_X10 hown hK hP 0 (wC_0 y a z) rfl 2 (by decide) (hts (.fieldLink RX10 26 "WorksDesk" "book" "LWorksDesk$Book;") (List.mem_of_getElem? (i := 1) rfl)) (fun _ h9 => h9) rfl dX10_count_104 ?_
        refine va_get (D := D) (ci := 2) (v := .ref (a 52)) (C := RX2) (T := TX2) (N := 12) hx hb hts nX10_count_X2 hown hK hP 8 (wC_8 y a z) rfl 5 (by decide) (hts (.fieldLink RX10 143 "WorksDesk$Book" "changes" "LWorksDesk$Changes;") (List.mem_of_getElem? (i := 5) rfl)) (fun _ h9 => h9) rfl dX10_count_107 ?_
        refine va_get (D := D) (ci := 3) (v := .int (z.2.2.1 3332)) (C := RX3) (T := TX3) (N := 5) hx hb hts nX10_count_X3 hown hK hP 52 (wC_52 y a z) rfl 4 (by decide) (hts (.fieldLink RX10 147 "WorksDesk$Changes" "size" "I") (List.mem_of_getElem? (i := 6) rfl)) (fun _ h9 => h9) rfl dX10_count_110 ?_
        exact zz_iret hx hb hr hlocks ⟨zz_some1 hm, rfl⟩ hP hK hD hS dX10_count_113
      · replace hm := zz_neg c3 hm
        by_cases c4 : x1 = (2 : Int32)
        · replace hm := zz_pos c4 hm
          refine lv_tableIn (tgt := 114) hx hb dX10_count_36 (by rw [c4]; decide) (by rw [c4]; decide) (by rw [c4]; rfl) (by decide) ?_
          refine lv_aload_n hx hb dX10_count_114 rfl (lv_at hl 0 rfl) ?_
          refine va_get (D := D) (ci := 10) (v := .ref (a 8)) (C := RX10) (T := TX10) (N := 7) hx hb hts nX10_count_X10 hown hK hP 0 (wC_0 y a z) rfl 2 (by decide) (hts (.fieldLink RX10 26 "WorksDesk" "book" "LWorksDesk$Book;") (List.mem_of_getElem? (i := 1) rfl)) (fun _ h9 => h9) rfl dX10_count_115 ?_
          refine va_get (D := D) (ci := 2) (v := .ref (a 57)) (C := RX2) (T := TX2) (N := 12) hx hb hts nX10_count_X2 hown hK hP 8 (wC_8 y a z) rfl 6 (by decide) (hts (.fieldLink RX10 163 "WorksDesk$Book" "setOffs" "LWorksDesk$SetOffs;") (List.mem_of_getElem? (i := 7) rfl)) (fun _ h9 => h9) rfl dX10_count_118 ?_
          refine va_get (D := D) (ci := 7) (v := .int (z.2.2.1 3653)) (C := RX7) (T := TX7) (N := 6) hx hb hts nX10_count_X7 hown hK hP 57 (wC_57 y a z) rfl 5 (by decide) (hts (.fieldLink RX10 167 "WorksDesk$SetOffs" "size" "I") (List.mem_of_getElem? (i := 8) rfl)) (fun _ h9 => h9) rfl dX10_count_121 ?_
          exact zz_iret hx hb hr hlocks ⟨zz_some1 hm, rfl⟩ hP hK hD hS dX10_count_124
        · replace hm := zz_neg c4 hm
          by_cases c5 : x1 = (3 : Int32)
          · replace hm := zz_pos c5 hm
            refine lv_tableIn (tgt := 125) hx hb dX10_count_36 (by rw [c5]; decide) (by rw [c5]; decide) (by rw [c5]; rfl) (by decide) ?_
            refine lv_aload_n hx hb dX10_count_125 rfl (lv_at hl 0 rfl) ?_
            refine va_get (D := D) (ci := 10) (v := .ref (a 8)) (C := RX10) (T := TX10) (N := 7) hx hb hts nX10_count_X10 hown hK hP 0 (wC_0 y a z) rfl 2 (by decide) (hts (.fieldLink RX10 26 "WorksDesk" "book" "LWorksDesk$Book;") (List.mem_of_getElem? (i := 1) rfl)) (fun _ h9 => h9) rfl dX10_count_126 ?_
            refine va_get (D := D) (ci := 2) (v := .int (z.2.2.1 520)) (C := RX2) (T := TX2) (N := 12) hx hb hts nX10_count_X2 hown hK hP 8 (wC_8 y a z) rfl 8 (by decide) (hts (.fieldLink RX10 198 "WorksDesk$Book" "handedOver" "I") (List.mem_of_getElem? (i := 9) rfl)) (fun _ h9 => h9) rfl dX10_count_129 ?_
            obtain ⟨r6, h7, hm⟩ := zz_b1_some hm
            refine zz_calli (zz_runS (w := wC y a) (As := [.int (z.2.2.1 520)]) (rest := []) ⟨hx, hb, hml, hown, hts⟩ (zX10_monthOrNone l D y a H.size (z.2.2.1 520) z h7) (va_cwS 1 hts gX10_count_X10_monthOrNone rfl rfl rfl zdX10_monthOrNone ⟨Nat.le_of_ble_eq_true rfl, Nat.le_of_ble_eq_true rfl⟩) hK hN hg hP hD hS hA rfl hl.1 rfl (Nat.le_of_ble_eq_true rfl) dX10_count_132 ⟨Nat.le_of_ble_eq_true rfl, Nat.le_of_ble_eq_true rfl⟩) hD hS hA (fun H locs hP hD hS => ?_)
            exact zz_iret hx hb hr hlocks ⟨zz_some1 hm, rfl⟩ hP hK hD hS dX10_count_135
          · replace hm := zz_neg c5 hm
            by_cases c8 : x1 = (4 : Int32)
            · replace hm := zz_pos c8 hm
              refine lv_tableIn (tgt := 136) hx hb dX10_count_36 (by rw [c8]; decide) (by rw [c8]; decide) (by rw [c8]; rfl) (by decide) ?_
              refine lv_aload_n hx hb dX10_count_136 rfl (lv_at hl 0 rfl) ?_
              refine va_get (D := D) (ci := 10) (v := .ref (a 8)) (C := RX10) (T := TX10) (N := 7) hx hb hts nX10_count_X10 hown hK hP 0 (wC_0 y a z) rfl 2 (by decide) (hts (.fieldLink RX10 26 "WorksDesk" "book" "LWorksDesk$Book;") (List.mem_of_getElem? (i := 1) rfl)) (fun _ h9 => h9) rfl dX10_count_137 ?_
              refine va_get (D := D) (ci := 2) (v := .int (z.2.2.1 521)) (C := RX2) (T := TX2) (N := 12) hx hb hts nX10_count_X2 hown hK hP 8 (wC_8 y a z) rfl 9 (by decide) (hts (.fieldLink RX10 201 "WorksDesk$Book" "closed" "I") (List.mem_of_getElem? (i := 10) rfl)) (fun _ h9 => h9) rfl dX10_count_140 ?_
              obtain ⟨r9, h10, hm⟩ := zz_b1_some hm
              refine zz_calli (zz_runS (w := wC y a) (As := [.int (z.2.2.1 521)]) (rest := []) ⟨hx, hb, hml, hown, hts⟩ (zX10_monthOrNone l D y a H.size (z.2.2.1 521) z h10) (va_cwS 1 hts gX10_count_X10_monthOrNone rfl rfl rfl zdX10_monthOrNone ⟨Nat.le_of_ble_eq_true rfl, Nat.le_of_ble_eq_true rfl⟩) hK hN hg hP hD hS hA rfl hl.1 rfl (Nat.le_of_ble_eq_true rfl) dX10_count_143 ⟨Nat.le_of_ble_eq_true rfl, Nat.le_of_ble_eq_true rfl⟩) hD hS hA (fun H locs hP hD hS => ?_)
              exact zz_iret hx hb hr hlocks ⟨zz_some1 hm, rfl⟩ hP hK hD hS dX10_count_146
            · replace hm := zz_neg c8 hm
              by_cases c11 : x1 = (5 : Int32)
              · replace hm := zz_pos c11 hm
                refine lv_tableIn (tgt := 147) hx hb dX10_count_36 (by rw [c11]; decide) (by rw [c11]; decide) (by rw [c11]; rfl) (by decide) ?_
                refine lv_aload_n hx hb dX10_count_147 rfl (lv_at hl 0 rfl) ?_
                refine va_get (D := D) (ci := 10) (v := .ref (a 8)) (C := RX10) (T := TX10) (N := 7) hx hb hts nX10_count_X10 hown hK hP 0 (wC_0 y a z) rfl 2 (by decide) (hts (.fieldLink RX10 26 "WorksDesk" "book" "LWorksDesk$Book;") (List.mem_of_getElem? (i := 1) rfl)) (fun _ h9 => h9) rfl dX10_count_148 ?_
                obtain ⟨r12, h13, hm⟩ := zz_b1_some hm
                refine zz_calli (zz_runV (w := wC y a) (As := []) (rest := []) ⟨hx, hb, hml, hown, hts⟩ (zX2_measuredMonths l D y a H.size z h13) (cwV 0 hts gX10_count_X2_measuredMonths rfl rfl rfl zdX2_measuredMonths ⟨Nat.le_of_ble_eq_true rfl, Nat.le_of_ble_eq_true rfl⟩) hK hN hg hP hD hS hA 8 (wC_8 y a z) rfl rfl hl.1 rfl (Nat.le_of_ble_eq_true rfl) dX10_count_151 ⟨Nat.le_of_ble_eq_true rfl, Nat.le_of_ble_eq_true rfl⟩) hD hS hA (fun H locs hP hD hS => ?_)
                exact zz_iret hx hb hr hlocks ⟨zz_some1 hm, rfl⟩ hP hK hD hS dX10_count_154
              · replace hm := zz_neg c11 hm
                by_cases c14 : x1 = (6 : Int32)
                · replace hm := zz_pos c14 hm
                  refine lv_tableIn (tgt := 155) hx hb dX10_count_36 (by rw [c14]; decide) (by rw [c14]; decide) (by rw [c14]; rfl) (by decide) ?_
                  refine lv_aload_n hx hb dX10_count_155 rfl (lv_at hl 0 rfl) ?_
                  refine va_get (D := D) (ci := 10) (v := .ref (a 99)) (C := RX10) (T := TX10) (N := 7) hx hb hts nX10_count_X10 hown hK hP 0 (wC_0 y a z) rfl 6 (by decide) (hts (.fieldLink RX10 47 "WorksDesk" "lastRow" "LWorksDesk$Row;") (List.mem_of_getElem? (i := 11) rfl)) (fun _ h9 => h9) rfl dX10_count_156 ?_
                  refine va_get (D := D) (ci := 5) (v := .int (z.2.2.1 6337)) (C := RX5) (T := TX5) (N := 2) hx hb hts nX10_count_X5 hown hK hP 99 (wC_99 y a z) rfl 1 (by decide) (hts (.fieldLink RX10 373 "WorksDesk$Row" "size" "I") (List.mem_of_getElem? (i := 12) rfl)) (fun _ h9 => h9) rfl dX10_count_159 ?_
                  exact zz_iret hx hb hr hlocks ⟨zz_some1 hm, rfl⟩ hP hK hD hS dX10_count_162
                · replace hm := zz_neg c14 hm
                  by_cases c15 : x1 = (7 : Int32)
                  · replace hm := zz_pos c15 hm
                    refine lv_tableIn (tgt := 163) hx hb dX10_count_36 (by rw [c15]; decide) (by rw [c15]; decide) (by rw [c15]; rfl) (by decide) ?_
                    refine lv_aload_n hx hb dX10_count_163 rfl (lv_at hl 0 rfl) ?_
                    refine va_get (D := D) (ci := 10) (v := .ref (a 1)) (C := RX10) (T := TX10) (N := 7) hx hb hts nX10_count_X10 hown hK hP 0 (wC_0 y a z) rfl 0 (by decide) (hts (.fieldLink RX10 12 "WorksDesk" "text" "LWorksDesk$Text;") (List.mem_of_getElem? (i := 13) rfl)) (fun _ h9 => h9) rfl dX10_count_164 ?_
                    refine va_get (D := D) (ci := 9) (v := .int (z.2.2.1 65)) (C := RX9) (T := TX9) (N := 2) hx hb hts nX10_count_X9 hown hK hP 1 (wC_1 y a z) rfl 1 (by decide) (hts (.fieldLink RX10 55 "WorksDesk$Text" "size" "I") (List.mem_of_getElem? (i := 14) rfl)) (fun _ h9 => h9) rfl dX10_count_167 ?_
                    exact zz_iret hx hb hr hlocks ⟨zz_some1 hm, rfl⟩ hP hK hD hS dX10_count_170
                  · replace hm := zz_neg c15 hm
                    by_cases c16 : x1 = (8 : Int32)
                    · replace hm := zz_pos c16 hm
                      refine lv_tableIn (tgt := 171) hx hb dX10_count_36 (by rw [c16]; decide) (by rw [c16]; decide) (by rw [c16]; rfl) (by decide) ?_
                      refine lv_aload_n hx hb dX10_count_171 rfl (lv_at hl 0 rfl) ?_
                      refine va_get (D := D) (ci := 10) (v := .ref (a 8)) (C := RX10) (T := TX10) (N := 7) hx hb hts nX10_count_X10 hown hK hP 0 (wC_0 y a z) rfl 2 (by decide) (hts (.fieldLink RX10 26 "WorksDesk" "book" "LWorksDesk$Book;") (List.mem_of_getElem? (i := 1) rfl)) (fun _ h9 => h9) rfl dX10_count_172 ?_
                      refine va_get (D := D) (ci := 2) (v := .int (z.2.2.1 522)) (C := RX2) (T := TX2) (N := 12) hx hb hts nX10_count_X2 hown hK hP 8 (wC_8 y a z) rfl 10 (by decide) (hts (.fieldLink RX10 208 "WorksDesk$Book" "dueBy" "I") (List.mem_of_getElem? (i := 15) rfl)) (fun _ h9 => h9) rfl dX10_count_175 ?_
                      refine lv_bipush (v := (24 : Int32)) hx hb dX10_count_178 (by decide) ?_
                      refine lv_icmp_ne (tgt := 187) hx hb dX10_count_180 (by decide) (fun c17 => ?_) (fun c17 => ?_)
                      · replace hm := zz_neg c17 hm
                        refine lv_aload_n hx hb dX10_count_187 rfl (lv_at hl 0 rfl) ?_
                        refine va_get (D := D) (ci := 10) (v := .ref (a 8)) (C := RX10) (T := TX10) (N := 7) hx hb hts nX10_count_X10 hown hK hP 0 (wC_0 y a z) rfl 2 (by decide) (hts (.fieldLink RX10 26 "WorksDesk" "book" "LWorksDesk$Book;") (List.mem_of_getElem? (i := 1) rfl)) (fun _ h9 => h9) rfl dX10_count_188 ?_
                        refine va_get (D := D) (ci := 2) (v := .int (z.2.2.1 522)) (C := RX2) (T := TX2) (N := 12) hx hb hts nX10_count_X2 hown hK hP 8 (wC_8 y a z) rfl 10 (by decide) (hts (.fieldLink RX10 208 "WorksDesk$Book" "dueBy" "I") (List.mem_of_getElem? (i := 15) rfl)) (fun _ h9 => h9) rfl dX10_count_191 ?_
                        refine lv_aload_n hx hb dX10_count_194 rfl (lv_at hl 0 rfl) ?_
                        refine va_get (D := D) (ci := 10) (v := .ref (a 8)) (C := RX10) (T := TX10) (N := 7) hx hb hts nX10_count_X10 hown hK hP 0 (wC_0 y a z) rfl 2 (by decide) (hts (.fieldLink RX10 26 "WorksDesk" "book" "LWorksDesk$Book;") (List.mem_of_getElem? (i := 1) rfl)) (fun _ h9 => h9) rfl dX10_count_195 ?_
                        refine va_get (D := D) (ci := 2) (v := .int (z.2.2.1 523)) (C := RX2) (T := TX2) (N := 12) hx hb hts nX10_count_X2 hown hK hP 8 (wC_8 y a z) rfl 11 (by decide) (hts (.fieldLink RX10 211 "WorksDesk$Book" "granted" "I") (List.mem_of_getElem? (i := 16) rfl)) (fun _ h9 => h9) rfl dX10_count_198 ?_
                        refine lv_iadd hx hb dX10_count_201 ?_
                        have j := J202 ((z.2.2.1 522) + (z.2.2.1 523)) hm
                        rw [hG] at j
                        exact j H locs ls hP hD hS (lv_sub hl [] rfl)
                      · replace hm := zz_pos c17 hm
                        refine lv_iconst (v := (-1 : Int32)) hx hb dX10_count_183 (by decide) ?_
                        refine lv_goto (tgt := 202) hx hb dX10_count_184 (by decide) ?_
                        have j := J202 (-1 : Int32) hm
                        rw [hG] at j
                        exact j H locs ls hP hD hS (lv_sub hl [] rfl)
                    · replace hm := zz_neg c16 hm
                      by_cases c18 : x1 = (9 : Int32)
                      · replace hm := zz_pos c18 hm
                        refine lv_tableIn (tgt := 203) hx hb dX10_count_36 (by rw [c18]; decide) (by rw [c18]; decide) (by rw [c18]; rfl) (by decide) ?_
                        refine lv_aload_n hx hb dX10_count_203 rfl (lv_at hl 0 rfl) ?_
                        refine va_get (D := D) (ci := 10) (v := .ref (a 8)) (C := RX10) (T := TX10) (N := 7) hx hb hts nX10_count_X10 hown hK hP 0 (wC_0 y a z) rfl 2 (by decide) (hts (.fieldLink RX10 26 "WorksDesk" "book" "LWorksDesk$Book;") (List.mem_of_getElem? (i := 1) rfl)) (fun _ h9 => h9) rfl dX10_count_204 ?_
                        refine va_get (D := D) (ci := 2) (v := .int (z.2.2.1 523)) (C := RX2) (T := TX2) (N := 12) hx hb hts nX10_count_X2 hown hK hP 8 (wC_8 y a z) rfl 11 (by decide) (hts (.fieldLink RX10 211 "WorksDesk$Book" "granted" "I") (List.mem_of_getElem? (i := 16) rfl)) (fun _ h9 => h9) rfl dX10_count_207 ?_
                        exact zz_iret hx hb hr hlocks ⟨zz_some1 hm, rfl⟩ hP hK hD hS dX10_count_210
                      · replace hm := zz_neg c18 hm
                        refine lv_tableOut (tgt := 211) hx hb dX10_count_36 (by have ec2 := lv_neT (a := 0) c2 (by decide); have ec3 := lv_neT (a := 1) c3 (by decide); have ec4 := lv_neT (a := 2) c4 (by decide); have ec5 := lv_neT (a := 3) c5 (by decide); have ec8 := lv_neT (a := 4) c8 (by decide); have ec11 := lv_neT (a := 5) c11 (by decide); have ec14 := lv_neT (a := 6) c14 (by decide); have ec15 := lv_neT (a := 7) c15 (by decide); have ec16 := lv_neT (a := 8) c16 (by decide); have ec18 := lv_neT (a := 9) c18 (by decide); omega) (by decide) ?_
                        refine lv_iconst (v := (-1 : Int32)) hx hb dX10_count_211 (by decide) ?_
                        exact zz_iret hx hb hr hlocks ⟨zz_some1 hm, rfl⟩ hP hK hD hS dX10_count_212
  · replace hm := zz_neg c1 hm
    refine lv_iload_n hx hb dX10_count_6 rfl (lv_at hl 1 rfl) ?_
    refine lv_bipush (v := (10 : Int32)) hx hb dX10_count_7 (by decide) ?_
    refine lv_isub hx hb dX10_count_9 ?_
    obtain ⟨r19, h20, hm⟩ := zz_b1_some hm
    refine zz_calli (zz_runS (w := wC y a) (As := [.int (x1 - (10 : Int32))]) (rest := []) ⟨hx, hb, hml, hown, hts⟩ (zX8_has l D y a H.size (x1 - (10 : Int32)) z h20) (va_cwS 1 hts gX10_count_X8_has rfl rfl rfl zdX8_has ⟨Nat.le_of_ble_eq_true rfl, Nat.le_of_ble_eq_true rfl⟩) hK hN hg hP hD hS hA rfl hl.1 rfl (Nat.le_of_ble_eq_true rfl) dX10_count_10 ⟨Nat.le_of_ble_eq_true rfl, Nat.le_of_ble_eq_true rfl⟩) hD hS hA (fun H locs hP hD hS => ?_)
    refine lv_if_eq (tgt := 33) hx hb dX10_count_13 (by decide) (fun c21 => ?_) (fun c21 => ?_)
    · replace hm := zz_pos c21 hm
      refine lv_iconst (v := (-1 : Int32)) hx hb dX10_count_33 (by decide) ?_
      have j := J34 (-1 : Int32) hm
      rw [hG] at j
      exact j H locs ls hP hD hS (lv_sub hl [] rfl)
    · replace hm := zz_neg c21 hm
      refine lv_aload_n hx hb dX10_count_16 rfl (lv_at hl 0 rfl) ?_
      refine va_get (D := D) (ci := 10) (v := .ref (a 8)) (C := RX10) (T := TX10) (N := 7) hx hb hts nX10_count_X10 hown hK hP 0 (wC_0 y a z) rfl 2 (by decide) (hts (.fieldLink RX10 26 "WorksDesk" "book" "LWorksDesk$Book;") (List.mem_of_getElem? (i := 1) rfl)) (fun _ h9 => h9) rfl dX10_count_17 ?_
      refine va_get (D := D) (ci := 2) (v := .ref (a 13)) (C := RX2) (T := TX2) (N := 12) hx hb hts nX10_count_X2 hown hK hP 8 (wC_8 y a z) rfl 1 (by decide) (hts (.fieldLink RX10 80 "WorksDesk$Book" "clauses" "LWorksDesk$Terms;") (List.mem_of_getElem? (i := 2) rfl)) (fun _ h9 => h9) rfl dX10_count_20 ?_
      refine lv_iload_n hx hb dX10_count_23 rfl (lv_at hl 1 rfl) ?_
      refine lv_bipush (v := (10 : Int32)) hx hb dX10_count_24 (by decide) ?_
      refine lv_isub hx hb dX10_count_26 ?_
      obtain ⟨r22, h23, hm⟩ := zz_b1_some hm
      refine zz_calli (zz_runV (w := wC y a) (As := [.int (x1 - (10 : Int32))]) (rest := []) ⟨hx, hb, hml, hown, hts⟩ (zX8_of l D y a H.size (x1 - (10 : Int32)) z h23) (cwV 1 hts gX10_count_X8_of rfl rfl rfl zdX8_of ⟨Nat.le_of_ble_eq_true rfl, Nat.le_of_ble_eq_true rfl⟩) hK hN hg hP hD hS hA 13 (wC_13 y a z) rfl rfl hl.1 rfl (Nat.le_of_ble_eq_true rfl) dX10_count_27 ⟨Nat.le_of_ble_eq_true rfl, Nat.le_of_ble_eq_true rfl⟩) hD hS hA (fun H locs hP hD hS => ?_)
      refine lv_goto (tgt := 34) hx hb dX10_count_30 (by decide) ?_
      have j := J34 r22 hm
      rw [hG] at j
      exact j H locs ls hP hD hS (lv_sub hl [] rfl)
def mX10_reckonAsIfDisputed (x1 : Int32) (x2 : Int32) (z : zz_M) : Option (Unit × zz_M) := zz_ck (zz_in x1 6) (zz_nm (z.1 60 x1.toNatClampNeg) (fun n2 => zz_ck (zz_in x1 6) (zz_nm (z.1 61 x1.toNatClampNeg) (fun n4 => zz_ck (zz_in x1 6) (zz_nm (zz_wI z 60 x1 x2) (fun z6 => zz_ck (zz_in x1 6) (zz_nm (zz_wI z6 61 x1 (24 : Int32)) (fun z8 => zz_b2 (mX4_reckon 81 z8) (fun r9 z11 => zz_ck (zz_in x1 6) (zz_nm (zz_wI z11 60 x1 n2) (fun z13 => zz_ck (zz_in x1 6) (zz_nm (zz_wI z13 61 x1 n4) (fun z15 => some ((), z15))))))))))))))
theorem nX10_reckonAsIfDisputed_X10 : ∀ w ∈ wsX100, w ∈ wsX10_reckonAsIfDisputed := fun _ h => List.mem_cons_of_mem _ (List.mem_append_left _ (List.mem_append_left _ (List.mem_append_left _ (List.mem_append_left _ (List.mem_append_left _ (List.mem_append_left _ (List.mem_append_left _ (List.mem_append_right _ (h)))))))))
theorem nX10_reckonAsIfDisputed_X2 : ∀ w ∈ wsX20, w ∈ wsX10_reckonAsIfDisputed := fun _ h => List.mem_cons_of_mem _ (List.mem_append_left _ (List.mem_append_left _ (List.mem_append_left _ (List.mem_append_left _ (List.mem_append_left _ (List.mem_append_left _ (List.mem_append_right _ (h))))))))
theorem nX10_reckonAsIfDisputed_X7 : ∀ w ∈ wsX70, w ∈ wsX10_reckonAsIfDisputed := fun _ h => List.mem_cons_of_mem _ (List.mem_append_left _ (List.mem_append_left _ (List.mem_append_left _ (List.mem_append_left _ (List.mem_append_left _ (List.mem_append_right _ (h)))))))
theorem zdX10_reckonAsIfDisputed : yX10_reckonAsIfDisputed.cls = RX10 ∧ yX10_reckonAsIfDisputed.cls ≠ "java/lang/invoke/MethodHandle" ∧ yX10_reckonAsIfDisputed.cls ≠ "java/lang/invoke/VarHandle" ∧ (parseMethodDescriptor yX10_reckonAsIfDisputed.desc).map (fun d => d.parameters.length) = some 2 := by decide +kernel
set_option maxHeartbeats 4000000 in
set_option maxRecDepth 100000 in
theorem zX10_reckonAsIfDisputed (l : Launch) (D : va_G) (y : Nat → ClassId) (a : Nat → Nat) (sz : Nat) (x1 : Int32) (x2 : Int32) (z : zz_M) {r : Unit} {zt : zz_M} (hm : mX10_reckonAsIfDisputed x1 x2 z = some (r, zt)) : Met l yX10_reckonAsIfDisputed wsX10_reckonAsIfDisputed { frames := 5, cells := 0, slots := 0, locals := 129 } (zz_Pc D y (wC y a z) sz [.ref (a 0), .int x1, .int x2]) (zz_Qv D y (wC y a) (va_A (wC y a z) sz) zt) 0 0 (va_A (wC y a z) sz) := by
  refine Met.ofW (cc := cX10_reckonAsIfDisputed) (maxL := 6) (ret := none) (by decide) rfl ?_
  intro p e s m args below meth c s₁ B hml hv
  obtain ⟨rfl, hsz, hP, hK, hD0, hN, hg⟩ := hv
  have hx := B.exec
  have hb := B.bytes
  have hr := B.returns
  have hts := atoms_spec (ws := wsX10_reckonAsIfDisputed) B.pre
  have hown : s.vm.findClass RX10 = some m.cls := findClass_of_methodNamed B.named
  have hlocks := B.notSynchronized
  clear B
  subst hsz
  have hD := hD0.self (sz := s.heap.size)
  generalize hAe : va_A (wC y a z) s.heap.size = A at hD hg ⊢
  have hA : ∀ q : Nat, s.heap.size ≤ q → A q := fun q h => by rw [← hAe]; exact Or.inr h
  clear hAe hD0
  have hl := lv_entry ([.ref (a 0), .int x1, .int x2]) (n := 6) (Nat.le_of_ble_eq_true rfl)
  rw [lg_entry_eq]
  generalize (lg_sl ([.ref (a 0), .int x1, .int x2]) ++ List.replicate (6 - (lg_sl ([.ref (a 0), .int x1, .int x2])).length) Slot.unset).toArray = ls at hl ⊢
  replace hl : lv_has ls 6 [(0, .ref (a 0)), (1, .int x1), (2, .int x2)] := hl
  refine zz_go (w := wC y a) hP hD va_S.rf hl (fun G hG => ?_)
  clear hP hD hl ls
  rw [hG]
  intro H locs ls hP hD hS hl
  unfold mX10_reckonAsIfDisputed at hm
  refine lv_aload_n hx hb dX10_reckonAsIfDisputed_0 rfl (lv_at hl 0 rfl) ?_
  refine va_get (D := D) (ci := 10) (v := .ref (a 8)) (C := RX10) (T := TX10) (N := 7) hx hb hts nX10_reckonAsIfDisputed_X10 hown hK hP 0 (wC_0 y a z) rfl 2 (by decide) (hts (.fieldLink RX10 26 "WorksDesk" "book" "LWorksDesk$Book;") (List.mem_of_getElem? (i := 1) rfl)) (fun _ h9 => h9) rfl dX10_reckonAsIfDisputed_1 ?_
  refine va_get (D := D) (ci := 2) (v := .ref (a 57)) (C := RX2) (T := TX2) (N := 12) hx hb hts nX10_reckonAsIfDisputed_X2 hown hK hP 8 (wC_8 y a z) rfl 6 (by decide) (hts (.fieldLink RX10 163 "WorksDesk$Book" "setOffs" "LWorksDesk$SetOffs;") (List.mem_of_getElem? (i := 2) rfl)) (fun _ h9 => h9) rfl dX10_reckonAsIfDisputed_4 ?_
  refine lv_astore_n (lv' := [(3, .ref (a 57)), (0, .ref (a 0)), (1, .int x1), (2, .int x2)]) hx hb dX10_reckonAsIfDisputed_7 rfl hl (by decide) rfl (fun ls hl => ?_)
  refine lv_aload_n hx hb dX10_reckonAsIfDisputed_8 rfl (lv_at hl 0 rfl) ?_
  refine va_get (D := D) (ci := 7) (v := .ref (a 60)) (C := RX7) (T := TX7) (N := 6) hx hb hts nX10_reckonAsIfDisputed_X7 hown hK hP 57 (wC_57 y a z) rfl 2 (by decide) (hts (.fieldLink RX10 178 "WorksDesk$SetOffs" "disputed" "[I") (List.mem_of_getElem? (i := 3) rfl)) (fun _ h9 => h9) rfl dX10_reckonAsIfDisputed_9 ?_
  refine lv_iload_n hx hb dX10_reckonAsIfDisputed_12 rfl (lv_at hl 2 rfl) ?_
  obtain ⟨c1, hm⟩ := zz_ck_some hm
  refine va_iald hx hb hK hP 60 0 (wC_60 y a z) rfl c1 dX10_reckonAsIfDisputed_13 ?_
  refine lv_topi (fun n2 en2 => ?_)
  replace hm := zz_nm_some en2 hm
  refine lv_istore (lv' := [(4, .int n2), (3, .ref (a 57)), (0, .ref (a 0)), (1, .int x1), (2, .int x2)]) hx hb dX10_reckonAsIfDisputed_14 hl (by decide) rfl (fun ls hl => ?_)
  refine lv_aload_n hx hb dX10_reckonAsIfDisputed_16 rfl (lv_at hl 1 rfl) ?_
  refine va_get (D := D) (ci := 7) (v := .ref (a 61)) (C := RX7) (T := TX7) (N := 6) hx hb hts nX10_reckonAsIfDisputed_X7 hown hK hP 57 (wC_57 y a z) rfl 3 (by decide) (hts (.fieldLink RX10 189 "WorksDesk$SetOffs" "decided" "[I") (List.mem_of_getElem? (i := 4) rfl)) (fun _ h9 => h9) rfl dX10_reckonAsIfDisputed_17 ?_
  refine lv_iload_n hx hb dX10_reckonAsIfDisputed_20 rfl (lv_at hl 3 rfl) ?_
  obtain ⟨c3, hm⟩ := zz_ck_some hm
  refine va_iald hx hb hK hP 61 0 (wC_61 y a z) rfl c3 dX10_reckonAsIfDisputed_21 ?_
  refine lv_topi (fun n4 en4 => ?_)
  replace hm := zz_nm_some en4 hm
  refine lv_istore (lv' := [(5, .int n4), (4, .int n2), (3, .ref (a 57)), (0, .ref (a 0)), (1, .int x1), (2, .int x2)]) hx hb dX10_reckonAsIfDisputed_22 hl (by decide) rfl (fun ls hl => ?_)
  refine lv_aload_n hx hb dX10_reckonAsIfDisputed_24 rfl (lv_at hl 2 rfl) ?_
  refine va_get (D := D) (ci := 7) (v := .ref (a 60)) (C := RX7) (T := TX7) (N := 6) hx hb hts nX10_reckonAsIfDisputed_X7 hown hK hP 57 (wC_57 y a z) rfl 2 (by decide) (hts (.fieldLink RX10 178 "WorksDesk$SetOffs" "disputed" "[I") (List.mem_of_getElem? (i := 3) rfl)) (fun _ h9 => h9) rfl dX10_reckonAsIfDisputed_25 ?_
  refine lv_iload_n hx hb dX10_reckonAsIfDisputed_28 rfl (lv_at hl 4 rfl) ?_
  refine lv_iload_n hx hb dX10_reckonAsIfDisputed_29 rfl (lv_at hl 5 rfl) ?_
  obtain ⟨c5, hm⟩ := zz_ck_some hm
  refine va_iast hx hb hK hP hD hS 60 0 (wC_60 y a z) rfl c5 dX10_reckonAsIfDisputed_30 (fun H locs hP hD hS => ?_)
  obtain ⟨z6, hP, hD, hm⟩ := zz_up (w := wC y a) (wC_w60 y a z x1 x2) hP hD hm
  refine lv_aload_n hx hb dX10_reckonAsIfDisputed_31 rfl (lv_at hl 2 rfl) ?_
  refine va_get (D := D) (ci := 7) (v := .ref (a 61)) (C := RX7) (T := TX7) (N := 6) hx hb hts nX10_reckonAsIfDisputed_X7 hown hK hP 57 (wC_57 y a z6) rfl 3 (by decide) (hts (.fieldLink RX10 189 "WorksDesk$SetOffs" "decided" "[I") (List.mem_of_getElem? (i := 4) rfl)) (fun _ h9 => h9) rfl dX10_reckonAsIfDisputed_32 ?_
  refine lv_iload_n hx hb dX10_reckonAsIfDisputed_35 rfl (lv_at hl 4 rfl) ?_
  refine lv_bipush (v := (24 : Int32)) hx hb dX10_reckonAsIfDisputed_36 (by decide) ?_
  obtain ⟨c7, hm⟩ := zz_ck_some hm
  refine va_iast hx hb hK hP hD hS 61 0 (wC_61 y a z6) rfl c7 dX10_reckonAsIfDisputed_38 (fun H locs hP hD hS => ?_)
  obtain ⟨z8, hP, hD, hm⟩ := zz_up (w := wC y a) (wC_w61 y a z6 x1 (24 : Int32)) hP hD hm
  refine lv_aload_n hx hb dX10_reckonAsIfDisputed_39 rfl (lv_at hl 3 rfl) ?_
  refine va_get (D := D) (ci := 10) (v := .ref (a 81)) (C := RX10) (T := TX10) (N := 7) hx hb hts nX10_reckonAsIfDisputed_X10 hown hK hP 0 (wC_0 y a z8) rfl 4 (by decide) (hts (.fieldLink RX10 37 "WorksDesk" "asIf" "LWorksDesk$Figures;") (List.mem_of_getElem? (i := 5) rfl)) (fun _ h9 => h9) rfl dX10_reckonAsIfDisputed_40 ?_
  refine lv_aload_n hx hb dX10_reckonAsIfDisputed_43 rfl (lv_at hl 3 rfl) ?_
  refine va_get (D := D) (ci := 10) (v := .ref (a 8)) (C := RX10) (T := TX10) (N := 7) hx hb hts nX10_reckonAsIfDisputed_X10 hown hK hP 0 (wC_0 y a z8) rfl 2 (by decide) (hts (.fieldLink RX10 26 "WorksDesk" "book" "LWorksDesk$Book;") (List.mem_of_getElem? (i := 1) rfl)) (fun _ h9 => h9) rfl dX10_reckonAsIfDisputed_44 ?_
  obtain ⟨r9, z11, h10, hm⟩ := zz_b2_some hm
  refine zz_callv (zz_runV (w := wC y a) (As := [.ref (a 8)]) (rest := []) ⟨hx, hb, hml, hown, hts⟩ (zX4_reckon l D y a H.size 81 (Or.inr rfl) z8 h10) (cwV 1 hts gX10_reckonAsIfDisputed_X4_reckon rfl rfl rfl zdX4_reckon ⟨Nat.le_of_ble_eq_true rfl, Nat.le_of_ble_eq_true rfl⟩) hK hN hg hP hD hS hA 81 (wC_fig y a z8 81 (Or.inr rfl)) rfl rfl hl.1 rfl (Nat.le_of_ble_eq_true rfl) dX10_reckonAsIfDisputed_47 ⟨Nat.le_of_ble_eq_true rfl, Nat.le_of_ble_eq_true rfl⟩) hD hS hA (fun H locs hP hD hS => ?_)
  refine lv_aload_n hx hb dX10_reckonAsIfDisputed_50 rfl (lv_at hl 2 rfl) ?_
  refine va_get (D := D) (ci := 7) (v := .ref (a 60)) (C := RX7) (T := TX7) (N := 6) hx hb hts nX10_reckonAsIfDisputed_X7 hown hK hP 57 (wC_57 y a z11) rfl 2 (by decide) (hts (.fieldLink RX10 178 "WorksDesk$SetOffs" "disputed" "[I") (List.mem_of_getElem? (i := 3) rfl)) (fun _ h9 => h9) rfl dX10_reckonAsIfDisputed_51 ?_
  refine lv_iload_n hx hb dX10_reckonAsIfDisputed_54 rfl (lv_at hl 4 rfl) ?_
  refine lv_iload hx hb dX10_reckonAsIfDisputed_55 (lv_at hl 1 rfl) ?_
  obtain ⟨c12, hm⟩ := zz_ck_some hm
  refine va_iast hx hb hK hP hD hS 60 0 (wC_60 y a z11) rfl c12 dX10_reckonAsIfDisputed_57 (fun H locs hP hD hS => ?_)
  obtain ⟨z13, hP, hD, hm⟩ := zz_up (w := wC y a) (wC_w60 y a z11 x1 n2) hP hD hm
  refine lv_aload_n hx hb dX10_reckonAsIfDisputed_58 rfl (lv_at hl 2 rfl) ?_
  refine va_get (D := D) (ci := 7) (v := .ref (a 61)) (C := RX7) (T := TX7) (N := 6) hx hb hts nX10_reckonAsIfDisputed_X7 hown hK hP 57 (wC_57 y a z13) rfl 3 (by decide) (hts (.fieldLink RX10 189 "WorksDesk$SetOffs" "decided" "[I") (List.mem_of_getElem? (i := 4) rfl)) (fun _ h9 => h9) rfl dX10_reckonAsIfDisputed_59 ?_
  refine lv_iload_n hx hb dX10_reckonAsIfDisputed_62 rfl (lv_at hl 4 rfl) ?_
  refine lv_iload hx hb dX10_reckonAsIfDisputed_63 (lv_at hl 0 rfl) ?_
  obtain ⟨c14, hm⟩ := zz_ck_some hm
  refine va_iast hx hb hK hP hD hS 61 0 (wC_61 y a z13) rfl c14 dX10_reckonAsIfDisputed_65 (fun H locs hP hD hS => ?_)
  obtain ⟨z15, hP, hD, hm⟩ := zz_up (w := wC y a) (wC_w61 y a z13 x1 n4) hP hD hm
  exact zz_vret hx hb hr hlocks (zz_some2 hm).2 hP hK hD hS dX10_reckonAsIfDisputed_66
def mX7_isDisputed_b16 (z : zz_M) (t0 : Int32) : Option Int32 := zz_ck (zz_bool t0) (some t0)
def mX7_isDisputed (x1 : Int32) (z : zz_M) : Option Int32 := zz_ck (zz_in x1 6) (if (z.1 60 x1.toNatClampNeg) = (24 : Int32) then (mX7_isDisputed_b16 z (0 : Int32)) else (mX7_isDisputed_b16 z (1 : Int32)))
theorem nX7_isDisputed_X7 : ∀ w ∈ wsX70, w ∈ wsX7_isDisputed := fun _ h => List.mem_cons_of_mem _ (List.mem_append_right _ (h))
theorem zdX7_isDisputed : yX7_isDisputed.cls = RX7 ∧ yX7_isDisputed.cls ≠ "java/lang/invoke/MethodHandle" ∧ yX7_isDisputed.cls ≠ "java/lang/invoke/VarHandle" ∧ (parseMethodDescriptor yX7_isDisputed.desc).map (fun d => d.parameters.length) = some 1 := by decide +kernel
set_option maxHeartbeats 4000000 in
set_option maxRecDepth 100000 in
theorem zX7_isDisputed (l : Launch) (D : va_G) (y : Nat → ClassId) (a : Nat → Nat) (sz : Nat) (x1 : Int32) (z : zz_M) {r : Int32} (hm : mX7_isDisputed x1 z = some r) : Met l yX7_isDisputed wsX7_isDisputed { frames := 0, cells := 0, slots := 0, locals := 0 } (zz_Pc D y (wC y a z) sz [.ref (a 57), .int x1]) (zz_Qi D y (wC y a) (va_A (wC y a z) sz) r z) 0 0 (va_A (wC y a z) sz) := by
  refine Met.ofW (cc := cX7_isDisputed) (maxL := 2) (ret := (some .boolean)) (by decide) rfl ?_
  intro p e s m args below meth c s₁ B hml hv
  obtain ⟨rfl, hsz, hP, hK, hD0, hN, hg⟩ := hv
  have hx := B.exec
  have hb := B.bytes
  have hr := B.returns
  have hts := atoms_spec (ws := wsX7_isDisputed) B.pre
  have hown : s.vm.findClass RX7 = some m.cls := findClass_of_methodNamed B.named
  have hlocks := B.notSynchronized
  clear B
  subst hsz
  have hD := hD0.self (sz := s.heap.size)
  generalize hAe : va_A (wC y a z) s.heap.size = A at hD hg ⊢
  have hA : ∀ q : Nat, s.heap.size ≤ q → A q := fun q h => by rw [← hAe]; exact Or.inr h
  clear hAe hD0
  have hl := lv_entry ([.ref (a 57), .int x1]) (n := 2) (Nat.le_of_ble_eq_true rfl)
  rw [lg_entry_eq]
  generalize (lg_sl ([.ref (a 57), .int x1]) ++ List.replicate (2 - (lg_sl ([.ref (a 57), .int x1])).length) Slot.unset).toArray = ls at hl ⊢
  replace hl : lv_has ls 2 [(0, .ref (a 57)), (1, .int x1)] := hl
  refine zz_go (w := wC y a) hP hD va_S.rf hl (fun G hG => ?_)
  clear hP hD hl ls
  have J16 : ∀ (t0 : Int32), mX7_isDisputed_b16 z t0 = some r → G 16 [] [.int t0] z := by
    intro t0 hm
    rw [mX7_isDisputed_b16] at hm
    rw [hG]
    intro H locs ls hP hD hS hl
    obtain ⟨c1, hm⟩ := zz_ck_some hm
    exact zz_zret hx hb hr hlocks c1 ⟨zz_some1 hm, rfl⟩ hP hK hD hS dX7_isDisputed_16
  rw [hG]
  intro H locs ls hP hD hS hl
  unfold mX7_isDisputed at hm
  refine lv_aload_n hx hb dX7_isDisputed_0 rfl (lv_at hl 0 rfl) ?_
  refine va_get (D := D) (ci := 7) (v := .ref (a 60)) (C := RX7) (T := TX7) (N := 6) hx hb hts nX7_isDisputed_X7 hown hK hP 57 (wC_57 y a z) rfl 2 (by decide) (hts (.fieldLink RX7 18 "WorksDesk$SetOffs" "disputed" "[I") (List.mem_of_getElem? (i := 1) rfl)) (fun _ h9 => h9) rfl dX7_isDisputed_1 ?_
  refine lv_iload_n hx hb dX7_isDisputed_4 rfl (lv_at hl 1 rfl) ?_
  obtain ⟨c2, hm⟩ := zz_ck_some hm
  refine va_iald hx hb hK hP 60 0 (wC_60 y a z) rfl c2 dX7_isDisputed_5 ?_
  refine lv_bipush (v := (24 : Int32)) hx hb dX7_isDisputed_6 (by decide) ?_
  refine lv_icmp_eq (tgt := 15) hx hb dX7_isDisputed_8 (by decide) (fun c3 => ?_) (fun c3 => ?_)
  · replace hm := zz_pos c3 hm
    refine lv_iconst (v := (0 : Int32)) hx hb dX7_isDisputed_15 (by decide) ?_
    have j := J16 (0 : Int32) hm
    rw [hG] at j
    exact j H locs ls hP hD hS (lv_sub hl [] rfl)
  · replace hm := zz_neg c3 hm
    refine lv_iconst (v := (1 : Int32)) hx hb dX7_isDisputed_11 (by decide) ?_
    refine lv_goto (tgt := 16) hx hb dX7_isDisputed_12 (by decide) ?_
    have j := J16 (1 : Int32) hm
    rw [hG] at j
    exact j H locs ls hP hD hS (lv_sub hl [] rfl)
def mX10_dearest_b107 (v1 : Int32) (z : zz_M) : Option (Int32 × zz_M) := some (v1, z)
def mX10_dearest_b88 (k10 : Int32 → Int64 → Int32 → zz_M → Option (Int32 × zz_M)) (v1 : Int32) (v2 : Int64) (v4 : Int32) (z : zz_M) : Option (Int32 × zz_M) := zz_nm (v4 + (1 : Int32)) (fun n1 => k10 v1 v2 n1 z)
def mX10_dearest_b10 : Nat → Int32 → Int64 → Int32 → zz_M → Option (Int32 × zz_M)
  | 0, _, _, _, _ => none
  | n + 1, v1, v2, v4, z => if (z.2.2.1 3653) ≤ v4 then (if v1 < (0 : Int32) then (mX10_dearest_b107 v1 z) else (zz_b2 (mX5_start v2 z) (fun r4 z6 => mX10_dearest_b107 v1 z6))) else (zz_b1 (mX7_isDisputed v4 z) (fun r7 => if r7 = (0 : Int32) then (zz_ck (zz_in v4 6) (zz_b2 (mX10_reckonAsIfDisputed v4 (z.1 58 v4.toNatClampNeg) z) (fun r11 z13 => zz_b1 (mX4_of 81 (11 : Int32) (23 : Int32) z13) (fun r14 => if (lg_cmp r14 v2) ≤ (0 : Int32) then (mX10_dearest_b88 (mX10_dearest_b10 n) v1 v2 v4 z13) else (mX10_dearest_b88 (mX10_dearest_b10 n) v4 r14 v4 z13))))) else (mX10_dearest_b88 (mX10_dearest_b10 n) v1 v2 v4 z)))
def mX10_dearest (z : zz_M) : Option (Int32 × zz_M) := mX10_dearest_b10 zz_N (-2 : Int32) (-1 : Int64) (0 : Int32) z
theorem nX10_dearest_X10 : ∀ w ∈ wsX100, w ∈ wsX10_dearest := fun _ h => List.mem_cons_of_mem _ (List.mem_append_left _ (List.mem_append_left _ (List.mem_append_left _ (List.mem_append_left _ (List.mem_append_left _ (List.mem_append_left _ (List.mem_append_left _ (List.mem_append_left _ (List.mem_append_right _ (h))))))))))
theorem nX10_dearest_X2 : ∀ w ∈ wsX20, w ∈ wsX10_dearest := fun _ h => List.mem_cons_of_mem _ (List.mem_append_left _ (List.mem_append_left _ (List.mem_append_left _ (List.mem_append_left _ (List.mem_append_left _ (List.mem_append_left _ (List.mem_append_left _ (List.mem_append_right _ (h)))))))))
theorem nX10_dearest_X7 : ∀ w ∈ wsX70, w ∈ wsX10_dearest := fun _ h => List.mem_cons_of_mem _ (List.mem_append_left _ (List.mem_append_left _ (List.mem_append_left _ (List.mem_append_left _ (List.mem_append_left _ (List.mem_append_left _ (List.mem_append_right _ (h))))))))
theorem zdX10_dearest : yX10_dearest.cls = RX10 ∧ yX10_dearest.cls ≠ "java/lang/invoke/MethodHandle" ∧ yX10_dearest.cls ≠ "java/lang/invoke/VarHandle" ∧ (parseMethodDescriptor yX10_dearest.desc).map (fun d => d.parameters.length) = some 0 := by decide +kernel
set_option maxHeartbeats 4000000 in
set_option maxRecDepth 100000 in
theorem zX10_dearest (l : Launch) (D : va_G) (y : Nat → ClassId) (a : Nat → Nat) (sz : Nat) (z : zz_M) {r : Int32} {zt : zz_M} (hm : mX10_dearest z = some (r, zt)) : Met l yX10_dearest wsX10_dearest { frames := 6, cells := 0, slots := 0, locals := 154 } (zz_Pc D y (wC y a z) sz [.ref (a 0)]) (zz_Qi D y (wC y a) (va_A (wC y a z) sz) r zt) 0 0 (va_A (wC y a z) sz) := by
  refine Met.ofW (cc := cX10_dearest) (maxL := 7) (ret := (some .int)) (by decide) rfl ?_
  intro p e s m args below meth c s₁ B hml hv
  obtain ⟨rfl, hsz, hP, hK, hD0, hN, hg⟩ := hv
  have hx := B.exec
  have hb := B.bytes
  have hr := B.returns
  have hts := atoms_spec (ws := wsX10_dearest) B.pre
  have hown : s.vm.findClass RX10 = some m.cls := findClass_of_methodNamed B.named
  have hlocks := B.notSynchronized
  clear B
  subst hsz
  have hD := hD0.self (sz := s.heap.size)
  generalize hAe : va_A (wC y a z) s.heap.size = A at hD hg ⊢
  have hA : ∀ q : Nat, s.heap.size ≤ q → A q := fun q h => by rw [← hAe]; exact Or.inr h
  clear hAe hD0
  have hl := lv_entry ([.ref (a 0)]) (n := 7) (Nat.le_of_ble_eq_true rfl)
  rw [lg_entry_eq]
  generalize (lg_sl ([.ref (a 0)]) ++ List.replicate (7 - (lg_sl ([.ref (a 0)])).length) Slot.unset).toArray = ls at hl ⊢
  replace hl : lv_has ls 7 [(0, .ref (a 0))] := hl
  refine zz_go (w := wC y a) hP hD va_S.rf hl (fun G hG => ?_)
  clear hP hD hl ls
  have J107 : ∀ (v1 : Int32) (z : zz_M), mX10_dearest_b107 v1 z = some (r, zt) → G 107 [(1, .int v1)] [] z := by
    intro v1 z hm
    rw [mX10_dearest_b107] at hm
    rw [hG]
    intro H locs ls hP hD hS hl
    refine lv_iload_n hx hb dX10_dearest_107 rfl (lv_at hl 0 rfl) ?_
    exact zz_iret hx hb hr hlocks (zz_some2 hm) hP hK hD hS dX10_dearest_108
  have J88 : ∀ (k10 : Int32 → Int64 → Int32 → zz_M → Option (Int32 × zz_M)) (K10 : ∀ (v1 : Int32) (v2 : Int64) (v4 : Int32) (z : zz_M), k10 v1 v2 v4 z = some (r, zt) → G 10 [(0, .ref (a 0)), (1, .int v1), (2, .long v2), (4, .int v4)] [] z) (v1 : Int32) (v2 : Int64) (v4 : Int32) (z : zz_M), mX10_dearest_b88 k10 v1 v2 v4 z = some (r, zt) → G 88 [(0, .ref (a 0)), (1, .int v1), (2, .long v2), (4, .int v4)] [] z := by
    intro k10 K10 v1 v2 v4 z hm
    rw [mX10_dearest_b88] at hm
    rw [hG]
    intro H locs ls hP hD hS hl
    obtain ⟨n1, en1⟩ : ∃ q : Int32, q = v4 + (1 : Int32) := ⟨_, rfl⟩
    replace hm := zz_nm_some en1 hm
    refine lv_iinc (v := n1) (lv' := [(4, .int n1), (0, .ref (a 0)), (1, .int v1), (2, .long v2)]) hx hb dX10_dearest_88 hl (k := 3) rfl (by rw [en1]; rfl) (by decide) rfl (fun ls hl => ?_)
    refine lv_goto (tgt := 10) hx hb dX10_dearest_91 (by decide) ?_
    have j := K10 v1 v2 n1 z hm
    rw [hG] at j
    exact j H locs ls hP hD hS (lv_sub hl [1, 2, 3, 0] rfl)
  have J10 : ∀ (n : Nat) (v1 : Int32) (v2 : Int64) (v4 : Int32) (z : zz_M), mX10_dearest_b10 n v1 v2 v4 z = some (r, zt) → G 10 [(0, .ref (a 0)), (1, .int v1), (2, .long v2), (4, .int v4)] [] z := by
    intro n
    induction n with
    | zero =>
      intro v1 v2 v4 z hm
      exact zz_none hm
    | succ n ih =>
      intro v1 v2 v4 z hm
      rw [mX10_dearest_b10] at hm
      rw [hG]
      intro H locs ls hP hD hS hl
      refine lv_iload hx hb dX10_dearest_10 (lv_at hl 3 rfl) ?_
      refine lv_aload_n hx hb dX10_dearest_12 rfl (lv_at hl 0 rfl) ?_
      refine va_get (D := D) (ci := 10) (v := .ref (a 8)) (C := RX10) (T := TX10) (N := 7) hx hb hts nX10_dearest_X10 hown hK hP 0 (wC_0 y a z) rfl 2 (by decide) (hts (.fieldLink RX10 26 "WorksDesk" "book" "LWorksDesk$Book;") (List.mem_of_getElem? (i := 2) rfl)) (fun _ h9 => h9) rfl dX10_dearest_13 ?_
      refine va_get (D := D) (ci := 2) (v := .ref (a 57)) (C := RX2) (T := TX2) (N := 12) hx hb hts nX10_dearest_X2 hown hK hP 8 (wC_8 y a z) rfl 6 (by decide) (hts (.fieldLink RX10 163 "WorksDesk$Book" "setOffs" "LWorksDesk$SetOffs;") (List.mem_of_getElem? (i := 3) rfl)) (fun _ h9 => h9) rfl dX10_dearest_16 ?_
      refine va_get (D := D) (ci := 7) (v := .int (z.2.2.1 3653)) (C := RX7) (T := TX7) (N := 6) hx hb hts nX10_dearest_X7 hown hK hP 57 (wC_57 y a z) rfl 5 (by decide) (hts (.fieldLink RX10 167 "WorksDesk$SetOffs" "size" "I") (List.mem_of_getElem? (i := 4) rfl)) (fun _ h9 => h9) rfl dX10_dearest_19 ?_
      refine lv_icmp_ge (tgt := 94) hx hb dX10_dearest_22 (by decide) (fun c2 => ?_) (fun c2 => ?_)
      · replace hm := zz_pos c2 hm
        refine lv_iload_n hx hb dX10_dearest_94 rfl (lv_at hl 1 rfl) ?_
        refine lv_if_lt (tgt := 107) hx hb dX10_dearest_95 (by decide) (fun c3 => ?_) (fun c3 => ?_)
        · replace hm := zz_pos c3 hm
          have j := J107 v1 z hm
          rw [hG] at j
          exact j H locs ls hP hD hS (lv_sub hl [1] rfl)
        · replace hm := zz_neg c3 hm
          refine lv_aload_n hx hb dX10_dearest_98 rfl (lv_at hl 0 rfl) ?_
          refine va_get (D := D) (ci := 10) (v := .ref (a 99)) (C := RX10) (T := TX10) (N := 7) hx hb hts nX10_dearest_X10 hown hK hP 0 (wC_0 y a z) rfl 6 (by decide) (hts (.fieldLink RX10 47 "WorksDesk" "lastRow" "LWorksDesk$Row;") (List.mem_of_getElem? (i := 7) rfl)) (fun _ h9 => h9) rfl dX10_dearest_99 ?_
          refine lv_lload_n hx hb dX10_dearest_102 rfl (lv_at hl 2 rfl) ?_
          obtain ⟨r4, z6, h5, hm⟩ := zz_b2_some hm
          refine zz_callr (zz_runV (w := wC y a) (As := [.long v2]) (rest := []) ⟨hx, hb, hml, hown, hts⟩ (zX5_start l D y a H.size v2 z h5) (cwV 1 hts gX10_dearest_X5_start rfl rfl rfl zdX5_start ⟨Nat.le_of_ble_eq_true rfl, Nat.le_of_ble_eq_true rfl⟩) hK hN hg hP hD hS hA 99 (wC_99 y a z) rfl rfl hl.1 rfl (Nat.le_of_ble_eq_true rfl) dX10_dearest_103 ⟨Nat.le_of_ble_eq_true rfl, Nat.le_of_ble_eq_true rfl⟩) hD hS hA (fun H locs hP hD hS => ?_)
          refine lv_pop hx hb dX10_dearest_106 rfl ?_
          have j := J107 v1 z6 hm
          rw [hG] at j
          exact j H locs ls hP hD hS (lv_sub hl [1] rfl)
      · replace hm := zz_neg c2 hm
        refine lv_aload_n hx hb dX10_dearest_25 rfl (lv_at hl 0 rfl) ?_
        refine va_get (D := D) (ci := 10) (v := .ref (a 8)) (C := RX10) (T := TX10) (N := 7) hx hb hts nX10_dearest_X10 hown hK hP 0 (wC_0 y a z) rfl 2 (by decide) (hts (.fieldLink RX10 26 "WorksDesk" "book" "LWorksDesk$Book;") (List.mem_of_getElem? (i := 2) rfl)) (fun _ h9 => h9) rfl dX10_dearest_26 ?_
        refine va_get (D := D) (ci := 2) (v := .ref (a 57)) (C := RX2) (T := TX2) (N := 12) hx hb hts nX10_dearest_X2 hown hK hP 8 (wC_8 y a z) rfl 6 (by decide) (hts (.fieldLink RX10 163 "WorksDesk$Book" "setOffs" "LWorksDesk$SetOffs;") (List.mem_of_getElem? (i := 3) rfl)) (fun _ h9 => h9) rfl dX10_dearest_29 ?_
        refine lv_iload hx hb dX10_dearest_32 (lv_at hl 3 rfl) ?_
        obtain ⟨r7, h8, hm⟩ := zz_b1_some hm
        refine zz_calli (zz_runV (w := wC y a) (As := [.int v4]) (rest := []) ⟨hx, hb, hml, hown, hts⟩ (zX7_isDisputed l D y a H.size v4 z h8) (cwV 1 hts gX10_dearest_X7_isDisputed rfl rfl rfl zdX7_isDisputed ⟨Nat.le_of_ble_eq_true rfl, Nat.le_of_ble_eq_true rfl⟩) hK hN hg hP hD hS hA 57 (wC_57 y a z) rfl rfl hl.1 rfl (Nat.le_of_ble_eq_true rfl) dX10_dearest_34 ⟨Nat.le_of_ble_eq_true rfl, Nat.le_of_ble_eq_true rfl⟩) hD hS hA (fun H locs hP hD hS => ?_)
        refine lv_if_eq (tgt := 43) hx hb dX10_dearest_37 (by decide) (fun c9 => ?_) (fun c9 => ?_)
        · replace hm := zz_pos c9 hm
          refine lv_aload_n hx hb dX10_dearest_43 rfl (lv_at hl 0 rfl) ?_
          refine lv_iload hx hb dX10_dearest_44 (lv_at hl 3 rfl) ?_
          refine lv_aload_n hx hb dX10_dearest_46 rfl (lv_at hl 0 rfl) ?_
          refine va_get (D := D) (ci := 10) (v := .ref (a 8)) (C := RX10) (T := TX10) (N := 7) hx hb hts nX10_dearest_X10 hown hK hP 0 (wC_0 y a z) rfl 2 (by decide) (hts (.fieldLink RX10 26 "WorksDesk" "book" "LWorksDesk$Book;") (List.mem_of_getElem? (i := 2) rfl)) (fun _ h9 => h9) rfl dX10_dearest_47 ?_
          refine va_get (D := D) (ci := 2) (v := .ref (a 57)) (C := RX2) (T := TX2) (N := 12) hx hb hts nX10_dearest_X2 hown hK hP 8 (wC_8 y a z) rfl 6 (by decide) (hts (.fieldLink RX10 163 "WorksDesk$Book" "setOffs" "LWorksDesk$SetOffs;") (List.mem_of_getElem? (i := 3) rfl)) (fun _ h9 => h9) rfl dX10_dearest_50 ?_
          refine va_get (D := D) (ci := 7) (v := .ref (a 58)) (C := RX7) (T := TX7) (N := 6) hx hb hts nX10_dearest_X7 hown hK hP 57 (wC_57 y a z) rfl 0 (by decide) (hts (.fieldLink RX10 270 "WorksDesk$SetOffs" "months" "[I") (List.mem_of_getElem? (i := 5) rfl)) (fun _ h9 => h9) rfl dX10_dearest_53 ?_
          refine lv_iload hx hb dX10_dearest_56 (lv_at hl 3 rfl) ?_
          obtain ⟨c10, hm⟩ := zz_ck_some hm
          refine va_iald hx hb hK hP 58 0 (wC_58 y a z) rfl c10 dX10_dearest_58 ?_
          obtain ⟨r11, z13, h12, hm⟩ := zz_b2_some hm
          refine zz_callv (zz_runV (w := wC y a) (As := [.int v4, .int (z.1 58 v4.toNatClampNeg)]) (rest := []) ⟨hx, hb, hml, hown, hts⟩ (zX10_reckonAsIfDisputed l D y a H.size v4 (z.1 58 v4.toNatClampNeg) z h12) (cwV 2 hts gX10_dearest_X10_reckonAsIfDisputed rfl rfl rfl zdX10_reckonAsIfDisputed ⟨Nat.le_of_ble_eq_true rfl, Nat.le_of_ble_eq_true rfl⟩) hK hN hg hP hD hS hA 0 (wC_0 y a z) rfl rfl hl.1 rfl (Nat.le_of_ble_eq_true rfl) dX10_dearest_59 ⟨Nat.le_of_ble_eq_true rfl, Nat.le_of_ble_eq_true rfl⟩) hD hS hA (fun H locs hP hD hS => ?_)
          refine lv_aload_n hx hb dX10_dearest_62 rfl (lv_at hl 0 rfl) ?_
          refine va_get (D := D) (ci := 10) (v := .ref (a 81)) (C := RX10) (T := TX10) (N := 7) hx hb hts nX10_dearest_X10 hown hK hP 0 (wC_0 y a z13) rfl 4 (by decide) (hts (.fieldLink RX10 37 "WorksDesk" "asIf" "LWorksDesk$Figures;") (List.mem_of_getElem? (i := 6) rfl)) (fun _ h9 => h9) rfl dX10_dearest_63 ?_
          refine lv_bipush (v := (11 : Int32)) hx hb dX10_dearest_66 (by decide) ?_
          refine lv_bipush (v := (23 : Int32)) hx hb dX10_dearest_68 (by decide) ?_
          obtain ⟨r14, h15, hm⟩ := zz_b1_some hm
          refine zz_calll (zz_runV (w := wC y a) (As := [.int (11 : Int32), .int (23 : Int32)]) (rest := []) ⟨hx, hb, hml, hown, hts⟩ (zX4_of l D y a H.size 81 (11 : Int32) (23 : Int32) (Or.inr rfl) z13 h15) (cwV 2 hts gX10_dearest_X4_of rfl rfl rfl zdX4_of ⟨Nat.le_of_ble_eq_true rfl, Nat.le_of_ble_eq_true rfl⟩) hK hN hg hP hD hS hA 81 (wC_fig y a z13 81 (Or.inr rfl)) rfl rfl hl.1 rfl (Nat.le_of_ble_eq_true rfl) dX10_dearest_70 ⟨Nat.le_of_ble_eq_true rfl, Nat.le_of_ble_eq_true rfl⟩) hD hS hA (fun H locs hP hD hS => ?_)
          refine lv_lstore (lv' := [(5, .long r14), (0, .ref (a 0)), (1, .int v1), (2, .long v2), (4, .int v4)]) hx hb dX10_dearest_73 hl (by decide) rfl (fun ls hl => ?_)
          refine lv_lload hx hb dX10_dearest_75 (lv_at hl 0 rfl) ?_
          refine lv_lload_n hx hb dX10_dearest_77 rfl (lv_at hl 3 rfl) ?_
          refine W.lcmp hx hb dX10_dearest_78 ?_
          refine lv_if_le (tgt := 88) hx hb dX10_dearest_79 (by decide) (fun c16 => ?_) (fun c16 => ?_)
          · replace hm := zz_pos c16 hm
            have j := J88 (mX10_dearest_b10 n) ih v1 v2 v4 z13 hm
            rw [hG] at j
            exact j H locs ls hP hD hS (lv_sub hl [1, 2, 3, 4] rfl)
          · replace hm := zz_neg c16 hm
            refine lv_lload hx hb dX10_dearest_82 (lv_at hl 0 rfl) ?_
            refine lv_lstore_n (lv' := [(2, .long r14), (5, .long r14), (0, .ref (a 0)), (1, .int v1), (4, .int v4)]) hx hb dX10_dearest_84 rfl hl (by decide) rfl (fun ls hl => ?_)
            refine lv_iload hx hb dX10_dearest_85 (lv_at hl 4 rfl) ?_
            refine lv_istore_n (lv' := [(1, .int v4), (2, .long r14), (5, .long r14), (0, .ref (a 0)), (4, .int v4)]) hx hb dX10_dearest_87 rfl hl (by decide) rfl (fun ls hl => ?_)
            have j := J88 (mX10_dearest_b10 n) ih v4 r14 v4 z13 hm
            rw [hG] at j
            exact j H locs ls hP hD hS (lv_sub hl [3, 0, 1, 4] rfl)
        · replace hm := zz_neg c9 hm
          refine lv_goto (tgt := 88) hx hb dX10_dearest_40 (by decide) ?_
          have j := J88 (mX10_dearest_b10 n) ih v1 v2 v4 z hm
          rw [hG] at j
          exact j H locs ls hP hD hS (lv_sub hl [0, 1, 2, 3] rfl)
  rw [hG]
  intro H locs ls hP hD hS hl
  unfold mX10_dearest at hm
  refine lv_bipush (v := (-2 : Int32)) hx hb dX10_dearest_0 (by decide) ?_
  refine lv_istore_n (lv' := [(1, .int (-2 : Int32)), (0, .ref (a 0))]) hx hb dX10_dearest_2 rfl hl (by decide) rfl (fun ls hl => ?_)
  refine lv_ldc2 (v := (-1 : Int64)) hx hb hown (hts (.constantLong RX10 339 (-1)) (List.mem_of_getElem? (i := 1) rfl)) dX10_dearest_3 ?_
  refine lv_lstore_n (lv' := [(2, .long (-1 : Int64)), (1, .int (-2 : Int32)), (0, .ref (a 0))]) hx hb dX10_dearest_6 rfl hl (by decide) rfl (fun ls hl => ?_)
  refine lv_iconst (v := (0 : Int32)) hx hb dX10_dearest_7 (by decide) ?_
  refine lv_istore (lv' := [(4, .int (0 : Int32)), (2, .long (-1 : Int64)), (1, .int (-2 : Int32)), (0, .ref (a 0))]) hx hb dX10_dearest_8 hl (by decide) rfl (fun ls hl => ?_)
  have j := J10 zz_N (-2 : Int32) (-1 : Int64) (0 : Int32) z hm
  rw [hG] at j
  exact j H locs ls hP hD hS (lv_sub hl [3, 2, 1, 0] rfl)
def mX7_has_b17 (z : zz_M) (t0 : Int32) : Option Int32 := zz_ck (zz_bool t0) (some t0)
def mX7_has_b16 (z : zz_M) : Option Int32 := mX7_has_b17 z (0 : Int32)
def mX7_has (x1 : Int32) (z : zz_M) : Option Int32 := if x1 < (0 : Int32) then (mX7_has_b16 z) else (if (z.2.2.1 3653) ≤ x1 then (mX7_has_b16 z) else (mX7_has_b17 z (1 : Int32)))
theorem nX7_has_X7 : ∀ w ∈ wsX70, w ∈ wsX7_has := fun _ h => List.mem_cons_of_mem _ (List.mem_append_right _ (h))
theorem zdX7_has : yX7_has.cls = RX7 ∧ yX7_has.cls ≠ "java/lang/invoke/MethodHandle" ∧ yX7_has.cls ≠ "java/lang/invoke/VarHandle" ∧ (parseMethodDescriptor yX7_has.desc).map (fun d => d.parameters.length) = some 1 := by decide +kernel
set_option maxHeartbeats 4000000 in
set_option maxRecDepth 100000 in
theorem zX7_has (l : Launch) (D : va_G) (y : Nat → ClassId) (a : Nat → Nat) (sz : Nat) (x1 : Int32) (z : zz_M) {r : Int32} (hm : mX7_has x1 z = some r) : Met l yX7_has wsX7_has { frames := 0, cells := 0, slots := 0, locals := 0 } (zz_Pc D y (wC y a z) sz [.ref (a 57), .int x1]) (zz_Qi D y (wC y a) (va_A (wC y a z) sz) r z) 0 0 (va_A (wC y a z) sz) := by
  refine Met.ofW (cc := cX7_has) (maxL := 2) (ret := (some .boolean)) (by decide) rfl ?_
  intro p e s m args below meth c s₁ B hml hv
  obtain ⟨rfl, hsz, hP, hK, hD0, hN, hg⟩ := hv
  have hx := B.exec
  have hb := B.bytes
  have hr := B.returns
  have hts := atoms_spec (ws := wsX7_has) B.pre
  have hown : s.vm.findClass RX7 = some m.cls := findClass_of_methodNamed B.named
  have hlocks := B.notSynchronized
  clear B
  subst hsz
  have hD := hD0.self (sz := s.heap.size)
  generalize hAe : va_A (wC y a z) s.heap.size = A at hD hg ⊢
  have hA : ∀ q : Nat, s.heap.size ≤ q → A q := fun q h => by rw [← hAe]; exact Or.inr h
  clear hAe hD0
  have hl := lv_entry ([.ref (a 57), .int x1]) (n := 2) (Nat.le_of_ble_eq_true rfl)
  rw [lg_entry_eq]
  generalize (lg_sl ([.ref (a 57), .int x1]) ++ List.replicate (2 - (lg_sl ([.ref (a 57), .int x1])).length) Slot.unset).toArray = ls at hl ⊢
  replace hl : lv_has ls 2 [(0, .ref (a 57)), (1, .int x1)] := hl
  refine zz_go (w := wC y a) hP hD va_S.rf hl (fun G hG => ?_)
  clear hP hD hl ls
  have J17 : ∀ (t0 : Int32), mX7_has_b17 z t0 = some r → G 17 [] [.int t0] z := by
    intro t0 hm
    rw [mX7_has_b17] at hm
    rw [hG]
    intro H locs ls hP hD hS hl
    obtain ⟨c1, hm⟩ := zz_ck_some hm
    exact zz_zret hx hb hr hlocks c1 ⟨zz_some1 hm, rfl⟩ hP hK hD hS dX7_has_17
  have J16 : mX7_has_b16 z = some r → G 16 [] [] z := by
    intro hm
    rw [mX7_has_b16] at hm
    rw [hG]
    intro H locs ls hP hD hS hl
    refine lv_iconst (v := (0 : Int32)) hx hb dX7_has_16 (by decide) ?_
    have j := J17 (0 : Int32) hm
    rw [hG] at j
    exact j H locs ls hP hD hS (lv_sub hl [] rfl)
  rw [hG]
  intro H locs ls hP hD hS hl
  unfold mX7_has at hm
  refine lv_iload_n hx hb dX7_has_0 rfl (lv_at hl 1 rfl) ?_
  refine lv_if_lt (tgt := 16) hx hb dX7_has_1 (by decide) (fun c2 => ?_) (fun c2 => ?_)
  · replace hm := zz_pos c2 hm
    have j := J16 hm
    rw [hG] at j
    exact j H locs ls hP hD hS (lv_sub hl [] rfl)
  · replace hm := zz_neg c2 hm
    refine lv_iload_n hx hb dX7_has_4 rfl (lv_at hl 1 rfl) ?_
    refine lv_aload_n hx hb dX7_has_5 rfl (lv_at hl 0 rfl) ?_
    refine va_get (D := D) (ci := 7) (v := .int (z.2.2.1 3653)) (C := RX7) (T := TX7) (N := 6) hx hb hts nX7_has_X7 hown hK hP 57 (wC_57 y a z) rfl 5 (by decide) (hts (.fieldLink RX7 27 "WorksDesk$SetOffs" "size" "I") (List.mem_of_getElem? (i := 1) rfl)) (fun _ h9 => h9) rfl dX7_has_6 ?_
    refine lv_icmp_ge (tgt := 16) hx hb dX7_has_9 (by decide) (fun c3 => ?_) (fun c3 => ?_)
    · replace hm := zz_pos c3 hm
      have j := J16 hm
      rw [hG] at j
      exact j H locs ls hP hD hS (lv_sub hl [] rfl)
    · replace hm := zz_neg c3 hm
      refine lv_iconst (v := (1 : Int32)) hx hb dX7_has_12 (by decide) ?_
      refine lv_goto (tgt := 17) hx hb dX7_has_13 (by decide) ?_
      have j := J17 (1 : Int32) hm
      rw [hG] at j
      exact j H locs ls hP hD hS (lv_sub hl [] rfl)
def mX7_isDecided_b16 (z : zz_M) (t0 : Int32) : Option Int32 := zz_ck (zz_bool t0) (some t0)
def mX7_isDecided (x1 : Int32) (z : zz_M) : Option Int32 := zz_ck (zz_in x1 6) (if (z.1 61 x1.toNatClampNeg) = (24 : Int32) then (mX7_isDecided_b16 z (0 : Int32)) else (mX7_isDecided_b16 z (1 : Int32)))
theorem nX7_isDecided_X7 : ∀ w ∈ wsX70, w ∈ wsX7_isDecided := fun _ h => List.mem_cons_of_mem _ (List.mem_append_right _ (h))
theorem zdX7_isDecided : yX7_isDecided.cls = RX7 ∧ yX7_isDecided.cls ≠ "java/lang/invoke/MethodHandle" ∧ yX7_isDecided.cls ≠ "java/lang/invoke/VarHandle" ∧ (parseMethodDescriptor yX7_isDecided.desc).map (fun d => d.parameters.length) = some 1 := by decide +kernel
set_option maxHeartbeats 4000000 in
set_option maxRecDepth 100000 in
theorem zX7_isDecided (l : Launch) (D : va_G) (y : Nat → ClassId) (a : Nat → Nat) (sz : Nat) (x1 : Int32) (z : zz_M) {r : Int32} (hm : mX7_isDecided x1 z = some r) : Met l yX7_isDecided wsX7_isDecided { frames := 0, cells := 0, slots := 0, locals := 0 } (zz_Pc D y (wC y a z) sz [.ref (a 57), .int x1]) (zz_Qi D y (wC y a) (va_A (wC y a z) sz) r z) 0 0 (va_A (wC y a z) sz) := by
  refine Met.ofW (cc := cX7_isDecided) (maxL := 2) (ret := (some .boolean)) (by decide) rfl ?_
  intro p e s m args below meth c s₁ B hml hv
  obtain ⟨rfl, hsz, hP, hK, hD0, hN, hg⟩ := hv
  have hx := B.exec
  have hb := B.bytes
  have hr := B.returns
  have hts := atoms_spec (ws := wsX7_isDecided) B.pre
  have hown : s.vm.findClass RX7 = some m.cls := findClass_of_methodNamed B.named
  have hlocks := B.notSynchronized
  clear B
  subst hsz
  have hD := hD0.self (sz := s.heap.size)
  generalize hAe : va_A (wC y a z) s.heap.size = A at hD hg ⊢
  have hA : ∀ q : Nat, s.heap.size ≤ q → A q := fun q h => by rw [← hAe]; exact Or.inr h
  clear hAe hD0
  have hl := lv_entry ([.ref (a 57), .int x1]) (n := 2) (Nat.le_of_ble_eq_true rfl)
  rw [lg_entry_eq]
  generalize (lg_sl ([.ref (a 57), .int x1]) ++ List.replicate (2 - (lg_sl ([.ref (a 57), .int x1])).length) Slot.unset).toArray = ls at hl ⊢
  replace hl : lv_has ls 2 [(0, .ref (a 57)), (1, .int x1)] := hl
  refine zz_go (w := wC y a) hP hD va_S.rf hl (fun G hG => ?_)
  clear hP hD hl ls
  have J16 : ∀ (t0 : Int32), mX7_isDecided_b16 z t0 = some r → G 16 [] [.int t0] z := by
    intro t0 hm
    rw [mX7_isDecided_b16] at hm
    rw [hG]
    intro H locs ls hP hD hS hl
    obtain ⟨c1, hm⟩ := zz_ck_some hm
    exact zz_zret hx hb hr hlocks c1 ⟨zz_some1 hm, rfl⟩ hP hK hD hS dX7_isDecided_16
  rw [hG]
  intro H locs ls hP hD hS hl
  unfold mX7_isDecided at hm
  refine lv_aload_n hx hb dX7_isDecided_0 rfl (lv_at hl 0 rfl) ?_
  refine va_get (D := D) (ci := 7) (v := .ref (a 61)) (C := RX7) (T := TX7) (N := 6) hx hb hts nX7_isDecided_X7 hown hK hP 57 (wC_57 y a z) rfl 3 (by decide) (hts (.fieldLink RX7 21 "WorksDesk$SetOffs" "decided" "[I") (List.mem_of_getElem? (i := 1) rfl)) (fun _ h9 => h9) rfl dX7_isDecided_1 ?_
  refine lv_iload_n hx hb dX7_isDecided_4 rfl (lv_at hl 1 rfl) ?_
  obtain ⟨c2, hm⟩ := zz_ck_some hm
  refine va_iald hx hb hK hP 61 0 (wC_61 y a z) rfl c2 dX7_isDecided_5 ?_
  refine lv_bipush (v := (24 : Int32)) hx hb dX7_isDecided_6 (by decide) ?_
  refine lv_icmp_eq (tgt := 15) hx hb dX7_isDecided_8 (by decide) (fun c3 => ?_) (fun c3 => ?_)
  · replace hm := zz_pos c3 hm
    refine lv_iconst (v := (0 : Int32)) hx hb dX7_isDecided_15 (by decide) ?_
    have j := J16 (0 : Int32) hm
    rw [hG] at j
    exact j H locs ls hP hD hS (lv_sub hl [] rfl)
  · replace hm := zz_neg c3 hm
    refine lv_iconst (v := (1 : Int32)) hx hb dX7_isDecided_11 (by decide) ?_
    refine lv_goto (tgt := 16) hx hb dX7_isDecided_12 (by decide) ?_
    have j := J16 (1 : Int32) hm
    rw [hG] at j
    exact j H locs ls hP hD hS (lv_sub hl [] rfl)
def mX10_decides_b64 (v1 : Int32) (v2 : Int32) (v3 : Int32) (v5 : Int32) (z : zz_M) : Option (Int32 × zz_M) := if v5 = (0 : Int32) then (some ((-2 : Int32), z)) else (zz_b1 (mX7_isDecided v1 z) (fun r2 => if r2 = (0 : Int32) then (zz_ck (zz_in v1 6) (zz_nm (zz_wI z 61 v1 v2) (fun z6 => zz_ck (zz_in v1 6) (zz_nm (zz_wI z6 62 v1 v3) (fun z8 => zz_b1 (mX7_heldIn v1 v2 z8) (fun r9 => some (r9, z8))))))) else (some ((-3 : Int32), z))))
def mX10_decides_b36 (z : zz_M) : Option (Int32 × zz_M) := some ((-1 : Int32), z)
def mX10_decides (x1 : Int32) (x2 : Int32) (x3 : Int32) (z : zz_M) : Option (Int32 × zz_M) := zz_b1 (mX7_has x1 z) (fun r11 => if r11 = (0 : Int32) then (mX10_decides_b36 z) else (zz_b1 (mX10_isMonth x2) (fun r14 => if r14 = (0 : Int32) then (mX10_decides_b36 z) else (zz_b1 (mX10_isWithin x3 (0 : Int32) (1000 : Int32)) (fun r17 => if r17 = (0 : Int32) then (mX10_decides_b36 z) else (zz_b1 (mX7_isDisputed x1 z) (fun r20 => if r20 = (0 : Int32) then (mX10_decides_b64 x1 x2 x3 r20 z) else (zz_ck (zz_in x1 6) (if (z.1 60 x1.toNatClampNeg) ≤ x2 then (mX10_decides_b64 x1 x2 x3 r20 z) else (some ((-1 : Int32), z)))))))))))
theorem nX10_decides_X10 : ∀ w ∈ wsX100, w ∈ wsX10_decides := fun _ h => List.mem_cons_of_mem _ (List.mem_append_left _ (List.mem_append_left _ (List.mem_append_right _ (h))))
theorem nX10_decides_X2 : ∀ w ∈ wsX20, w ∈ wsX10_decides := fun _ h => List.mem_cons_of_mem _ (List.mem_append_left _ (List.mem_append_right _ (h)))
theorem nX10_decides_X7 : ∀ w ∈ wsX70, w ∈ wsX10_decides := fun _ h => List.mem_cons_of_mem _ (List.mem_append_right _ (h))
theorem zdX10_decides : yX10_decides.cls = RX10 ∧ yX10_decides.cls ≠ "java/lang/invoke/MethodHandle" ∧ yX10_decides.cls ≠ "java/lang/invoke/VarHandle" ∧ (parseMethodDescriptor yX10_decides.desc).map (fun d => d.parameters.length) = some 3 := by decide +kernel
set_option maxHeartbeats 4000000 in
set_option maxRecDepth 100000 in
theorem zX10_decides (l : Launch) (D : va_G) (y : Nat → ClassId) (a : Nat → Nat) (sz : Nat) (x1 : Int32) (x2 : Int32) (x3 : Int32) (z : zz_M) {r : Int32} {zt : zz_M} (hm : mX10_decides x1 x2 x3 z = some (r, zt)) : Met l yX10_decides wsX10_decides { frames := 2, cells := 0, slots := 0, locals := 44 } (zz_Pc D y (wC y a z) sz [.ref (a 0), .int x1, .int x2, .int x3]) (zz_Qi D y (wC y a) (va_A (wC y a z) sz) r zt) 0 0 (va_A (wC y a z) sz) := by
  refine Met.ofW (cc := cX10_decides) (maxL := 6) (ret := (some .int)) (by decide) rfl ?_
  intro p e s m args below meth c s₁ B hml hv
  obtain ⟨rfl, hsz, hP, hK, hD0, hN, hg⟩ := hv
  have hx := B.exec
  have hb := B.bytes
  have hr := B.returns
  have hts := atoms_spec (ws := wsX10_decides) B.pre
  have hown : s.vm.findClass RX10 = some m.cls := findClass_of_methodNamed B.named
  have hlocks := B.notSynchronized
  clear B
  subst hsz
  have hD := hD0.self (sz := s.heap.size)
  generalize hAe : va_A (wC y a z) s.heap.size = A at hD hg ⊢
  have hA : ∀ q : Nat, s.heap.size ≤ q → A q := fun q h => by rw [← hAe]; exact Or.inr h
  clear hAe hD0
  have hl := lv_entry ([.ref (a 0), .int x1, .int x2, .int x3]) (n := 6) (Nat.le_of_ble_eq_true rfl)
  rw [lg_entry_eq]
  generalize (lg_sl ([.ref (a 0), .int x1, .int x2, .int x3]) ++ List.replicate (6 - (lg_sl ([.ref (a 0), .int x1, .int x2, .int x3])).length) Slot.unset).toArray = ls at hl ⊢
  replace hl : lv_has ls 6 [(0, .ref (a 0)), (1, .int x1), (2, .int x2), (3, .int x3)] := hl
  refine zz_go (w := wC y a) hP hD va_S.rf hl (fun G hG => ?_)
  clear hP hD hl ls
  have J64 : ∀ (v1 : Int32) (v2 : Int32) (v3 : Int32) (v5 : Int32) (z : zz_M), mX10_decides_b64 v1 v2 v3 v5 z = some (r, zt) → G 64 [(1, .int v1), (2, .int v2), (3, .int v3), (4, .ref (a 57)), (5, .int v5)] [] z := by
    intro v1 v2 v3 v5 z hm
    rw [mX10_decides_b64] at hm
    rw [hG]
    intro H locs ls hP hD hS hl
    refine lv_iload hx hb dX10_decides_64 (lv_at hl 4 rfl) ?_
    refine lv_if_ne (tgt := 72) hx hb dX10_decides_66 (by decide) (fun c1 => ?_) (fun c1 => ?_)
    · replace hm := zz_neg c1 hm
      refine lv_aload hx hb dX10_decides_72 (lv_at hl 3 rfl) ?_
      refine lv_iload_n hx hb dX10_decides_74 rfl (lv_at hl 0 rfl) ?_
      obtain ⟨r2, h3, hm⟩ := zz_b1_some hm
      refine zz_calli (zz_runV (w := wC y a) (As := [.int v1]) (rest := []) ⟨hx, hb, hml, hown, hts⟩ (zX7_isDecided l D y a H.size v1 z h3) (cwV 1 hts gX10_decides_X7_isDecided rfl rfl rfl zdX7_isDecided ⟨Nat.le_of_ble_eq_true rfl, Nat.le_of_ble_eq_true rfl⟩) hK hN hg hP hD hS hA 57 (wC_57 y a z) rfl rfl hl.1 rfl (Nat.le_of_ble_eq_true rfl) dX10_decides_75 ⟨Nat.le_of_ble_eq_true rfl, Nat.le_of_ble_eq_true rfl⟩) hD hS hA (fun H locs hP hD hS => ?_)
      refine lv_if_eq (tgt := 84) hx hb dX10_decides_78 (by decide) (fun c4 => ?_) (fun c4 => ?_)
      · replace hm := zz_pos c4 hm
        refine lv_aload hx hb dX10_decides_84 (lv_at hl 3 rfl) ?_
        refine va_get (D := D) (ci := 7) (v := .ref (a 61)) (C := RX7) (T := TX7) (N := 6) hx hb hts nX10_decides_X7 hown hK hP 57 (wC_57 y a z) rfl 3 (by decide) (hts (.fieldLink RX10 189 "WorksDesk$SetOffs" "decided" "[I") (List.mem_of_getElem? (i := 4) rfl)) (fun _ h9 => h9) rfl dX10_decides_86 ?_
        refine lv_iload_n hx hb dX10_decides_89 rfl (lv_at hl 0 rfl) ?_
        refine lv_iload_n hx hb dX10_decides_90 rfl (lv_at hl 1 rfl) ?_
        obtain ⟨c5, hm⟩ := zz_ck_some hm
        refine va_iast hx hb hK hP hD hS 61 0 (wC_61 y a z) rfl c5 dX10_decides_91 (fun H locs hP hD hS => ?_)
        obtain ⟨z6, hP, hD, hm⟩ := zz_up (w := wC y a) (wC_w61 y a z v1 v2) hP hD hm
        refine lv_aload hx hb dX10_decides_92 (lv_at hl 3 rfl) ?_
        refine va_get (D := D) (ci := 7) (v := .ref (a 62)) (C := RX7) (T := TX7) (N := 6) hx hb hts nX10_decides_X7 hown hK hP 57 (wC_57 y a z6) rfl 4 (by decide) (hts (.fieldLink RX10 192 "WorksDesk$SetOffs" "upheld" "[I") (List.mem_of_getElem? (i := 5) rfl)) (fun _ h9 => h9) rfl dX10_decides_94 ?_
        refine lv_iload_n hx hb dX10_decides_97 rfl (lv_at hl 0 rfl) ?_
        refine lv_iload_n hx hb dX10_decides_98 rfl (lv_at hl 2 rfl) ?_
        obtain ⟨c7, hm⟩ := zz_ck_some hm
        refine va_iast hx hb hK hP hD hS 62 0 (wC_62 y a z6) rfl c7 dX10_decides_99 (fun H locs hP hD hS => ?_)
        obtain ⟨z8, hP, hD, hm⟩ := zz_up (w := wC y a) (wC_w62 y a z6 v1 v3) hP hD hm
        refine lv_aload hx hb dX10_decides_100 (lv_at hl 3 rfl) ?_
        refine lv_iload_n hx hb dX10_decides_102 rfl (lv_at hl 0 rfl) ?_
        refine lv_iload_n hx hb dX10_decides_103 rfl (lv_at hl 1 rfl) ?_
        obtain ⟨r9, h10, hm⟩ := zz_b1_some hm
        refine zz_calli (zz_runV (w := wC y a) (As := [.int v1, .int v2]) (rest := []) ⟨hx, hb, hml, hown, hts⟩ (zX7_heldIn l D y a H.size v1 v2 z8 h10) (cwV 2 hts gX10_decides_X7_heldIn rfl rfl rfl zdX7_heldIn ⟨Nat.le_of_ble_eq_true rfl, Nat.le_of_ble_eq_true rfl⟩) hK hN hg hP hD hS hA 57 (wC_57 y a z8) rfl rfl hl.1 rfl (Nat.le_of_ble_eq_true rfl) dX10_decides_104 ⟨Nat.le_of_ble_eq_true rfl, Nat.le_of_ble_eq_true rfl⟩) hD hS hA (fun H locs hP hD hS => ?_)
        exact zz_iret hx hb hr hlocks (zz_some2 hm) hP hK hD hS dX10_decides_107
      · replace hm := zz_neg c4 hm
        refine lv_bipush (v := (-3 : Int32)) hx hb dX10_decides_81 (by decide) ?_
        exact zz_iret hx hb hr hlocks (zz_some2 hm) hP hK hD hS dX10_decides_83
    · replace hm := zz_pos c1 hm
      refine lv_bipush (v := (-2 : Int32)) hx hb dX10_decides_69 (by decide) ?_
      exact zz_iret hx hb hr hlocks (zz_some2 hm) hP hK hD hS dX10_decides_71
  have J36 : ∀ (z : zz_M), mX10_decides_b36 z = some (r, zt) → G 36 [] [] z := by
    intro z hm
    rw [mX10_decides_b36] at hm
    rw [hG]
    intro H locs ls hP hD hS hl
    refine lv_iconst (v := (-1 : Int32)) hx hb dX10_decides_36 (by decide) ?_
    exact zz_iret hx hb hr hlocks (zz_some2 hm) hP hK hD hS dX10_decides_37
  rw [hG]
  intro H locs ls hP hD hS hl
  unfold mX10_decides at hm
  refine lv_aload_n hx hb dX10_decides_0 rfl (lv_at hl 0 rfl) ?_
  refine va_get (D := D) (ci := 10) (v := .ref (a 8)) (C := RX10) (T := TX10) (N := 7) hx hb hts nX10_decides_X10 hown hK hP 0 (wC_0 y a z) rfl 2 (by decide) (hts (.fieldLink RX10 26 "WorksDesk" "book" "LWorksDesk$Book;") (List.mem_of_getElem? (i := 1) rfl)) (fun _ h9 => h9) rfl dX10_decides_1 ?_
  refine va_get (D := D) (ci := 2) (v := .ref (a 57)) (C := RX2) (T := TX2) (N := 12) hx hb hts nX10_decides_X2 hown hK hP 8 (wC_8 y a z) rfl 6 (by decide) (hts (.fieldLink RX10 163 "WorksDesk$Book" "setOffs" "LWorksDesk$SetOffs;") (List.mem_of_getElem? (i := 2) rfl)) (fun _ h9 => h9) rfl dX10_decides_4 ?_
  refine lv_astore (lv' := [(4, .ref (a 57)), (0, .ref (a 0)), (1, .int x1), (2, .int x2), (3, .int x3)]) hx hb dX10_decides_7 hl (by decide) rfl (fun ls hl => ?_)
  refine lv_aload hx hb dX10_decides_9 (lv_at hl 0 rfl) ?_
  refine lv_iload_n hx hb dX10_decides_11 rfl (lv_at hl 2 rfl) ?_
  obtain ⟨r11, h12, hm⟩ := zz_b1_some hm
  refine zz_calli (zz_runV (w := wC y a) (As := [.int x1]) (rest := []) ⟨hx, hb, hml, hown, hts⟩ (zX7_has l D y a H.size x1 z h12) (cwV 1 hts gX10_decides_X7_has rfl rfl rfl zdX7_has ⟨Nat.le_of_ble_eq_true rfl, Nat.le_of_ble_eq_true rfl⟩) hK hN hg hP hD hS hA 57 (wC_57 y a z) rfl rfl hl.1 rfl (Nat.le_of_ble_eq_true rfl) dX10_decides_12 ⟨Nat.le_of_ble_eq_true rfl, Nat.le_of_ble_eq_true rfl⟩) hD hS hA (fun H locs hP hD hS => ?_)
  refine lv_if_eq (tgt := 36) hx hb dX10_decides_15 (by decide) (fun c13 => ?_) (fun c13 => ?_)
  · replace hm := zz_pos c13 hm
    have j := J36 z hm
    rw [hG] at j
    exact j H locs ls hP hD hS (lv_sub hl [] rfl)
  · replace hm := zz_neg c13 hm
    refine lv_iload_n hx hb dX10_decides_18 rfl (lv_at hl 3 rfl) ?_
    obtain ⟨r14, h15, hm⟩ := zz_b1_some hm
    refine zz_calli (zz_runS (w := wC y a) (As := [.int x2]) (rest := []) ⟨hx, hb, hml, hown, hts⟩ (zX10_isMonth l D y a H.size x2 z h15) (va_cwS 1 hts gX10_decides_X10_isMonth rfl rfl rfl zdX10_isMonth ⟨Nat.le_of_ble_eq_true rfl, Nat.le_of_ble_eq_true rfl⟩) hK hN hg hP hD hS hA rfl hl.1 rfl (Nat.le_of_ble_eq_true rfl) dX10_decides_19 ⟨Nat.le_of_ble_eq_true rfl, Nat.le_of_ble_eq_true rfl⟩) hD hS hA (fun H locs hP hD hS => ?_)
    refine lv_if_eq (tgt := 36) hx hb dX10_decides_22 (by decide) (fun c16 => ?_) (fun c16 => ?_)
    · replace hm := zz_pos c16 hm
      have j := J36 z hm
      rw [hG] at j
      exact j H locs ls hP hD hS (lv_sub hl [] rfl)
    · replace hm := zz_neg c16 hm
      refine lv_iload_n hx hb dX10_decides_25 rfl (lv_at hl 4 rfl) ?_
      refine lv_iconst (v := (0 : Int32)) hx hb dX10_decides_26 (by decide) ?_
      refine lv_sipush (v := (1000 : Int32)) hx hb dX10_decides_27 (by decide) ?_
      obtain ⟨r17, h18, hm⟩ := zz_b1_some hm
      refine zz_calli (zz_runS (w := wC y a) (As := [.int x3, .int (0 : Int32), .int (1000 : Int32)]) (rest := []) ⟨hx, hb, hml, hown, hts⟩ (zX10_isWithin l D y a H.size x3 (0 : Int32) (1000 : Int32) z h18) (va_cwS 3 hts gX10_decides_X10_isWithin rfl rfl rfl zdX10_isWithin ⟨Nat.le_of_ble_eq_true rfl, Nat.le_of_ble_eq_true rfl⟩) hK hN hg hP hD hS hA rfl hl.1 rfl (Nat.le_of_ble_eq_true rfl) dX10_decides_30 ⟨Nat.le_of_ble_eq_true rfl, Nat.le_of_ble_eq_true rfl⟩) hD hS hA (fun H locs hP hD hS => ?_)
      refine lv_if_ne (tgt := 38) hx hb dX10_decides_33 (by decide) (fun c19 => ?_) (fun c19 => ?_)
      · replace hm := zz_neg c19 hm
        refine lv_aload hx hb dX10_decides_38 (lv_at hl 0 rfl) ?_
        refine lv_iload_n hx hb dX10_decides_40 rfl (lv_at hl 2 rfl) ?_
        obtain ⟨r20, h21, hm⟩ := zz_b1_some hm
        refine zz_calli (zz_runV (w := wC y a) (As := [.int x1]) (rest := []) ⟨hx, hb, hml, hown, hts⟩ (zX7_isDisputed l D y a H.size x1 z h21) (cwV 1 hts gX10_decides_X7_isDisputed rfl rfl rfl zdX7_isDisputed ⟨Nat.le_of_ble_eq_true rfl, Nat.le_of_ble_eq_true rfl⟩) hK hN hg hP hD hS hA 57 (wC_57 y a z) rfl rfl hl.1 rfl (Nat.le_of_ble_eq_true rfl) dX10_decides_41 ⟨Nat.le_of_ble_eq_true rfl, Nat.le_of_ble_eq_true rfl⟩) hD hS hA (fun H locs hP hD hS => ?_)
        refine lv_istore (lv' := [(5, .int r20), (4, .ref (a 57)), (0, .ref (a 0)), (1, .int x1), (2, .int x2), (3, .int x3)]) hx hb dX10_decides_44 hl (by decide) rfl (fun ls hl => ?_)
        refine lv_iload hx hb dX10_decides_46 (lv_at hl 0 rfl) ?_
        refine lv_if_eq (tgt := 64) hx hb dX10_decides_48 (by decide) (fun c22 => ?_) (fun c22 => ?_)
        · replace hm := zz_pos c22 hm
          have j := J64 x1 x2 x3 r20 z hm
          rw [hG] at j
          exact j H locs ls hP hD hS (lv_sub hl [3, 4, 5, 1, 0] rfl)
        · replace hm := zz_neg c22 hm
          refine lv_iload_n hx hb dX10_decides_51 rfl (lv_at hl 4 rfl) ?_
          refine lv_aload hx hb dX10_decides_52 (lv_at hl 1 rfl) ?_
          refine va_get (D := D) (ci := 7) (v := .ref (a 60)) (C := RX7) (T := TX7) (N := 6) hx hb hts nX10_decides_X7 hown hK hP 57 (wC_57 y a z) rfl 2 (by decide) (hts (.fieldLink RX10 178 "WorksDesk$SetOffs" "disputed" "[I") (List.mem_of_getElem? (i := 3) rfl)) (fun _ h9 => h9) rfl dX10_decides_54 ?_
          refine lv_iload_n hx hb dX10_decides_57 rfl (lv_at hl 3 rfl) ?_
          obtain ⟨c23, hm⟩ := zz_ck_some hm
          refine va_iald hx hb hK hP 60 0 (wC_60 y a z) rfl c23 dX10_decides_58 ?_
          refine lv_icmp_ge (tgt := 64) hx hb dX10_decides_59 (by decide) (fun c24 => ?_) (fun c24 => ?_)
          · replace hm := zz_pos c24 hm
            have j := J64 x1 x2 x3 r20 z hm
            rw [hG] at j
            exact j H locs ls hP hD hS (lv_sub hl [3, 4, 5, 1, 0] rfl)
          · replace hm := zz_neg c24 hm
            refine lv_iconst (v := (-1 : Int32)) hx hb dX10_decides_62 (by decide) ?_
            exact zz_iret hx hb hr hlocks (zz_some2 hm) hP hK hD hS dX10_decides_63
      · replace hm := zz_pos c19 hm
        have j := J36 z hm
        rw [hG] at j
        exact j H locs ls hP hD hS (lv_sub hl [] rfl)
def mX10_isDispute_b42 (z : zz_M) (t0 : Int32) : Option Int32 := zz_ck (zz_bool t0) (some t0)
def mX10_isDispute_b41 (z : zz_M) : Option Int32 := mX10_isDispute_b42 z (0 : Int32)
def mX10_isDispute (x1 : Int32) (x2 : Int32) (z : zz_M) : Option Int32 := zz_b1 (mX7_has x1 z) (fun r2 => if r2 = (0 : Int32) then (mX10_isDispute_b41 z) else (zz_b1 (mX10_isMonth x2) (fun r5 => if r5 = (0 : Int32) then (mX10_isDispute_b41 z) else (zz_ck (zz_in x1 6) (if x2 < (z.1 58 x1.toNatClampNeg) then (mX10_isDispute_b41 z) else (mX10_isDispute_b42 z (1 : Int32)))))))
theorem nX10_isDispute_X10 : ∀ w ∈ wsX100, w ∈ wsX10_isDispute := fun _ h => List.mem_cons_of_mem _ (List.mem_append_left _ (List.mem_append_left _ (List.mem_append_right _ (h))))
theorem nX10_isDispute_X2 : ∀ w ∈ wsX20, w ∈ wsX10_isDispute := fun _ h => List.mem_cons_of_mem _ (List.mem_append_left _ (List.mem_append_right _ (h)))
theorem nX10_isDispute_X7 : ∀ w ∈ wsX70, w ∈ wsX10_isDispute := fun _ h => List.mem_cons_of_mem _ (List.mem_append_right _ (h))
theorem zdX10_isDispute : yX10_isDispute.cls = RX10 ∧ yX10_isDispute.cls ≠ "java/lang/invoke/MethodHandle" ∧ yX10_isDispute.cls ≠ "java/lang/invoke/VarHandle" ∧ (parseMethodDescriptor yX10_isDispute.desc).map (fun d => d.parameters.length) = some 2 := by decide +kernel
set_option maxHeartbeats 4000000 in
set_option maxRecDepth 100000 in
theorem zX10_isDispute (l : Launch) (D : va_G) (y : Nat → ClassId) (a : Nat → Nat) (sz : Nat) (x1 : Int32) (x2 : Int32) (z : zz_M) {r : Int32} (hm : mX10_isDispute x1 x2 z = some r) : Met l yX10_isDispute wsX10_isDispute { frames := 2, cells := 0, slots := 0, locals := 42 } (zz_Pc D y (wC y a z) sz [.ref (a 0), .int x1, .int x2]) (zz_Qi D y (wC y a) (va_A (wC y a z) sz) r z) 0 0 (va_A (wC y a z) sz) := by
  refine Met.ofW (cc := cX10_isDispute) (maxL := 3) (ret := (some .boolean)) (by decide) rfl ?_
  intro p e s m args below meth c s₁ B hml hv
  obtain ⟨rfl, hsz, hP, hK, hD0, hN, hg⟩ := hv
  have hx := B.exec
  have hb := B.bytes
  have hr := B.returns
  have hts := atoms_spec (ws := wsX10_isDispute) B.pre
  have hown : s.vm.findClass RX10 = some m.cls := findClass_of_methodNamed B.named
  have hlocks := B.notSynchronized
  clear B
  subst hsz
  have hD := hD0.self (sz := s.heap.size)
  generalize hAe : va_A (wC y a z) s.heap.size = A at hD hg ⊢
  have hA : ∀ q : Nat, s.heap.size ≤ q → A q := fun q h => by rw [← hAe]; exact Or.inr h
  clear hAe hD0
  have hl := lv_entry ([.ref (a 0), .int x1, .int x2]) (n := 3) (Nat.le_of_ble_eq_true rfl)
  rw [lg_entry_eq]
  generalize (lg_sl ([.ref (a 0), .int x1, .int x2]) ++ List.replicate (3 - (lg_sl ([.ref (a 0), .int x1, .int x2])).length) Slot.unset).toArray = ls at hl ⊢
  replace hl : lv_has ls 3 [(0, .ref (a 0)), (1, .int x1), (2, .int x2)] := hl
  refine zz_go (w := wC y a) hP hD va_S.rf hl (fun G hG => ?_)
  clear hP hD hl ls
  have J42 : ∀ (t0 : Int32), mX10_isDispute_b42 z t0 = some r → G 42 [] [.int t0] z := by
    intro t0 hm
    rw [mX10_isDispute_b42] at hm
    rw [hG]
    intro H locs ls hP hD hS hl
    obtain ⟨c1, hm⟩ := zz_ck_some hm
    exact zz_zret hx hb hr hlocks c1 ⟨zz_some1 hm, rfl⟩ hP hK hD hS dX10_isDispute_42
  have J41 : mX10_isDispute_b41 z = some r → G 41 [] [] z := by
    intro hm
    rw [mX10_isDispute_b41] at hm
    rw [hG]
    intro H locs ls hP hD hS hl
    refine lv_iconst (v := (0 : Int32)) hx hb dX10_isDispute_41 (by decide) ?_
    have j := J42 (0 : Int32) hm
    rw [hG] at j
    exact j H locs ls hP hD hS (lv_sub hl [] rfl)
  rw [hG]
  intro H locs ls hP hD hS hl
  unfold mX10_isDispute at hm
  refine lv_aload_n hx hb dX10_isDispute_0 rfl (lv_at hl 0 rfl) ?_
  refine va_get (D := D) (ci := 10) (v := .ref (a 8)) (C := RX10) (T := TX10) (N := 7) hx hb hts nX10_isDispute_X10 hown hK hP 0 (wC_0 y a z) rfl 2 (by decide) (hts (.fieldLink RX10 26 "WorksDesk" "book" "LWorksDesk$Book;") (List.mem_of_getElem? (i := 1) rfl)) (fun _ h9 => h9) rfl dX10_isDispute_1 ?_
  refine va_get (D := D) (ci := 2) (v := .ref (a 57)) (C := RX2) (T := TX2) (N := 12) hx hb hts nX10_isDispute_X2 hown hK hP 8 (wC_8 y a z) rfl 6 (by decide) (hts (.fieldLink RX10 163 "WorksDesk$Book" "setOffs" "LWorksDesk$SetOffs;") (List.mem_of_getElem? (i := 2) rfl)) (fun _ h9 => h9) rfl dX10_isDispute_4 ?_
  refine lv_iload_n hx hb dX10_isDispute_7 rfl (lv_at hl 1 rfl) ?_
  obtain ⟨r2, h3, hm⟩ := zz_b1_some hm
  refine zz_calli (zz_runV (w := wC y a) (As := [.int x1]) (rest := []) ⟨hx, hb, hml, hown, hts⟩ (zX7_has l D y a H.size x1 z h3) (cwV 1 hts gX10_isDispute_X7_has rfl rfl rfl zdX7_has ⟨Nat.le_of_ble_eq_true rfl, Nat.le_of_ble_eq_true rfl⟩) hK hN hg hP hD hS hA 57 (wC_57 y a z) rfl rfl hl.1 rfl (Nat.le_of_ble_eq_true rfl) dX10_isDispute_8 ⟨Nat.le_of_ble_eq_true rfl, Nat.le_of_ble_eq_true rfl⟩) hD hS hA (fun H locs hP hD hS => ?_)
  refine lv_if_eq (tgt := 41) hx hb dX10_isDispute_11 (by decide) (fun c4 => ?_) (fun c4 => ?_)
  · replace hm := zz_pos c4 hm
    have j := J41 hm
    rw [hG] at j
    exact j H locs ls hP hD hS (lv_sub hl [] rfl)
  · replace hm := zz_neg c4 hm
    refine lv_iload_n hx hb dX10_isDispute_14 rfl (lv_at hl 2 rfl) ?_
    obtain ⟨r5, h6, hm⟩ := zz_b1_some hm
    refine zz_calli (zz_runS (w := wC y a) (As := [.int x2]) (rest := []) ⟨hx, hb, hml, hown, hts⟩ (zX10_isMonth l D y a H.size x2 z h6) (va_cwS 1 hts gX10_isDispute_X10_isMonth rfl rfl rfl zdX10_isMonth ⟨Nat.le_of_ble_eq_true rfl, Nat.le_of_ble_eq_true rfl⟩) hK hN hg hP hD hS hA rfl hl.1 rfl (Nat.le_of_ble_eq_true rfl) dX10_isDispute_15 ⟨Nat.le_of_ble_eq_true rfl, Nat.le_of_ble_eq_true rfl⟩) hD hS hA (fun H locs hP hD hS => ?_)
    refine lv_if_eq (tgt := 41) hx hb dX10_isDispute_18 (by decide) (fun c7 => ?_) (fun c7 => ?_)
    · replace hm := zz_pos c7 hm
      have j := J41 hm
      rw [hG] at j
      exact j H locs ls hP hD hS (lv_sub hl [] rfl)
    · replace hm := zz_neg c7 hm
      refine lv_iload_n hx hb dX10_isDispute_21 rfl (lv_at hl 2 rfl) ?_
      refine lv_aload_n hx hb dX10_isDispute_22 rfl (lv_at hl 0 rfl) ?_
      refine va_get (D := D) (ci := 10) (v := .ref (a 8)) (C := RX10) (T := TX10) (N := 7) hx hb hts nX10_isDispute_X10 hown hK hP 0 (wC_0 y a z) rfl 2 (by decide) (hts (.fieldLink RX10 26 "WorksDesk" "book" "LWorksDesk$Book;") (List.mem_of_getElem? (i := 1) rfl)) (fun _ h9 => h9) rfl dX10_isDispute_23 ?_
      refine va_get (D := D) (ci := 2) (v := .ref (a 57)) (C := RX2) (T := TX2) (N := 12) hx hb hts nX10_isDispute_X2 hown hK hP 8 (wC_8 y a z) rfl 6 (by decide) (hts (.fieldLink RX10 163 "WorksDesk$Book" "setOffs" "LWorksDesk$SetOffs;") (List.mem_of_getElem? (i := 2) rfl)) (fun _ h9 => h9) rfl dX10_isDispute_26 ?_
      refine va_get (D := D) (ci := 7) (v := .ref (a 58)) (C := RX7) (T := TX7) (N := 6) hx hb hts nX10_isDispute_X7 hown hK hP 57 (wC_57 y a z) rfl 0 (by decide) (hts (.fieldLink RX10 270 "WorksDesk$SetOffs" "months" "[I") (List.mem_of_getElem? (i := 3) rfl)) (fun _ h9 => h9) rfl dX10_isDispute_29 ?_
      refine lv_iload_n hx hb dX10_isDispute_32 rfl (lv_at hl 1 rfl) ?_
      obtain ⟨c8, hm⟩ := zz_ck_some hm
      refine va_iald hx hb hK hP 58 0 (wC_58 y a z) rfl c8 dX10_isDispute_33 ?_
      refine lv_icmp_lt (tgt := 41) hx hb dX10_isDispute_34 (by decide) (fun c9 => ?_) (fun c9 => ?_)
      · replace hm := zz_pos c9 hm
        have j := J41 hm
        rw [hG] at j
        exact j H locs ls hP hD hS (lv_sub hl [] rfl)
      · replace hm := zz_neg c9 hm
        refine lv_iconst (v := (1 : Int32)) hx hb dX10_isDispute_37 (by decide) ?_
        refine lv_goto (tgt := 42) hx hb dX10_isDispute_38 (by decide) ?_
        have j := J42 (1 : Int32) hm
        rw [hG] at j
        exact j H locs ls hP hD hS (lv_sub hl [] rfl)
def mX7_open_b31 (z : zz_M) (k4 : Int32 → Int32 → Option Int32) (v1 : Int32) (v2 : Int32) : Option Int32 := zz_nm (v2 + (1 : Int32)) (fun n1 => k4 v1 n1)
def mX7_open_b4 (z : zz_M) : Nat → Int32 → Int32 → Option Int32
  | 0, _, _ => none
  | n + 1, v1, v2 => if (z.2.2.1 3653) ≤ v2 then (some v1) else (zz_b1 (mX7_isDisputed v2 z) (fun r3 => if r3 = (0 : Int32) then (mX7_open_b31 z (mX7_open_b4 z n) v1 v2) else (zz_b1 (mX7_isDecided v2 z) (fun r6 => if r6 = (0 : Int32) then (zz_nm (v1 + (1 : Int32)) (fun n9 => mX7_open_b31 z (mX7_open_b4 z n) n9 v2)) else (mX7_open_b31 z (mX7_open_b4 z n) v1 v2)))))
def mX7_open (z : zz_M) : Option Int32 := mX7_open_b4 z zz_N (0 : Int32) (0 : Int32)
theorem nX7_open_X7 : ∀ w ∈ wsX70, w ∈ wsX7_open := fun _ h => List.mem_cons_of_mem _ (List.mem_append_right _ (h))
theorem zdX7_open : yX7_open.cls = RX7 ∧ yX7_open.cls ≠ "java/lang/invoke/MethodHandle" ∧ yX7_open.cls ≠ "java/lang/invoke/VarHandle" ∧ (parseMethodDescriptor yX7_open.desc).map (fun d => d.parameters.length) = some 0 := by decide +kernel
set_option maxHeartbeats 4000000 in
set_option maxRecDepth 100000 in
theorem zX7_open (l : Launch) (D : va_G) (y : Nat → ClassId) (a : Nat → Nat) (sz : Nat) (z : zz_M) {r : Int32} (hm : mX7_open z = some r) : Met l yX7_open wsX7_open { frames := 1, cells := 0, slots := 0, locals := 21 } (zz_Pc D y (wC y a z) sz [.ref (a 57)]) (zz_Qi D y (wC y a) (va_A (wC y a z) sz) r z) 0 0 (va_A (wC y a z) sz) := by
  refine Met.ofW (cc := cX7_open) (maxL := 3) (ret := (some .int)) (by decide) rfl ?_
  intro p e s m args below meth c s₁ B hml hv
  obtain ⟨rfl, hsz, hP, hK, hD0, hN, hg⟩ := hv
  have hx := B.exec
  have hb := B.bytes
  have hr := B.returns
  have hts := atoms_spec (ws := wsX7_open) B.pre
  have hown : s.vm.findClass RX7 = some m.cls := findClass_of_methodNamed B.named
  have hlocks := B.notSynchronized
  clear B
  subst hsz
  have hD := hD0.self (sz := s.heap.size)
  generalize hAe : va_A (wC y a z) s.heap.size = A at hD hg ⊢
  have hA : ∀ q : Nat, s.heap.size ≤ q → A q := fun q h => by rw [← hAe]; exact Or.inr h
  clear hAe hD0
  have hl := lv_entry ([.ref (a 57)]) (n := 3) (Nat.le_of_ble_eq_true rfl)
  rw [lg_entry_eq]
  generalize (lg_sl ([.ref (a 57)]) ++ List.replicate (3 - (lg_sl ([.ref (a 57)])).length) Slot.unset).toArray = ls at hl ⊢
  replace hl : lv_has ls 3 [(0, .ref (a 57))] := hl
  refine zz_go (w := wC y a) hP hD va_S.rf hl (fun G hG => ?_)
  clear hP hD hl ls
  have J31 : ∀ (k4 : Int32 → Int32 → Option Int32) (K4 : ∀ (v1 : Int32) (v2 : Int32), k4 v1 v2 = some r → G 4 [(0, .ref (a 57)), (1, .int v1), (2, .int v2)] [] z) (v1 : Int32) (v2 : Int32), mX7_open_b31 z k4 v1 v2 = some r → G 31 [(0, .ref (a 57)), (1, .int v1), (2, .int v2)] [] z := by
    intro k4 K4 v1 v2 hm
    rw [mX7_open_b31] at hm
    rw [hG]
    intro H locs ls hP hD hS hl
    obtain ⟨n1, en1⟩ : ∃ q : Int32, q = v2 + (1 : Int32) := ⟨_, rfl⟩
    replace hm := zz_nm_some en1 hm
    refine lv_iinc (v := n1) (lv' := [(2, .int n1), (0, .ref (a 57)), (1, .int v1)]) hx hb dX7_open_31 hl (k := 2) rfl (by rw [en1]; rfl) (by decide) rfl (fun ls hl => ?_)
    refine lv_goto (tgt := 4) hx hb dX7_open_34 (by decide) ?_
    have j := K4 v1 n1 hm
    rw [hG] at j
    exact j H locs ls hP hD hS (lv_sub hl [1, 2, 0] rfl)
  have J4 : ∀ (n : Nat) (v1 : Int32) (v2 : Int32), mX7_open_b4 z n v1 v2 = some r → G 4 [(0, .ref (a 57)), (1, .int v1), (2, .int v2)] [] z := by
    intro n
    induction n with
    | zero =>
      intro v1 v2 hm
      exact zz_none hm
    | succ n ih =>
      intro v1 v2 hm
      rw [mX7_open_b4] at hm
      rw [hG]
      intro H locs ls hP hD hS hl
      refine lv_iload_n hx hb dX7_open_4 rfl (lv_at hl 2 rfl) ?_
      refine lv_aload_n hx hb dX7_open_5 rfl (lv_at hl 0 rfl) ?_
      refine va_get (D := D) (ci := 7) (v := .int (z.2.2.1 3653)) (C := RX7) (T := TX7) (N := 6) hx hb hts nX7_open_X7 hown hK hP 57 (wC_57 y a z) rfl 5 (by decide) (hts (.fieldLink RX7 27 "WorksDesk$SetOffs" "size" "I") (List.mem_of_getElem? (i := 1) rfl)) (fun _ h9 => h9) rfl dX7_open_6 ?_
      refine lv_icmp_ge (tgt := 37) hx hb dX7_open_9 (by decide) (fun c2 => ?_) (fun c2 => ?_)
      · replace hm := zz_pos c2 hm
        refine lv_iload_n hx hb dX7_open_37 rfl (lv_at hl 1 rfl) ?_
        exact zz_iret hx hb hr hlocks ⟨zz_some1 hm, rfl⟩ hP hK hD hS dX7_open_38
      · replace hm := zz_neg c2 hm
        refine lv_aload_n hx hb dX7_open_12 rfl (lv_at hl 0 rfl) ?_
        refine lv_iload_n hx hb dX7_open_13 rfl (lv_at hl 2 rfl) ?_
        obtain ⟨r3, h4, hm⟩ := zz_b1_some hm
        refine zz_calli (zz_runV (w := wC y a) (As := [.int v2]) (rest := []) ⟨hx, hb, hml, hown, hts⟩ (zX7_isDisputed l D y a H.size v2 z h4) (cwV 1 hts gX7_open_X7_isDisputed rfl rfl rfl zdX7_isDisputed ⟨Nat.le_of_ble_eq_true rfl, Nat.le_of_ble_eq_true rfl⟩) hK hN hg hP hD hS hA 57 (wC_57 y a z) rfl rfl hl.1 rfl (Nat.le_of_ble_eq_true rfl) dX7_open_14 ⟨Nat.le_of_ble_eq_true rfl, Nat.le_of_ble_eq_true rfl⟩) hD hS hA (fun H locs hP hD hS => ?_)
        refine lv_if_eq (tgt := 31) hx hb dX7_open_17 (by decide) (fun c5 => ?_) (fun c5 => ?_)
        · replace hm := zz_pos c5 hm
          have j := J31 (mX7_open_b4 z n) ih v1 v2 hm
          rw [hG] at j
          exact j H locs ls hP hD hS (lv_sub hl [0, 1, 2] rfl)
        · replace hm := zz_neg c5 hm
          refine lv_aload_n hx hb dX7_open_20 rfl (lv_at hl 0 rfl) ?_
          refine lv_iload_n hx hb dX7_open_21 rfl (lv_at hl 2 rfl) ?_
          obtain ⟨r6, h7, hm⟩ := zz_b1_some hm
          refine zz_calli (zz_runV (w := wC y a) (As := [.int v2]) (rest := []) ⟨hx, hb, hml, hown, hts⟩ (zX7_isDecided l D y a H.size v2 z h7) (cwV 1 hts gX7_open_X7_isDecided rfl rfl rfl zdX7_isDecided ⟨Nat.le_of_ble_eq_true rfl, Nat.le_of_ble_eq_true rfl⟩) hK hN hg hP hD hS hA 57 (wC_57 y a z) rfl rfl hl.1 rfl (Nat.le_of_ble_eq_true rfl) dX7_open_22 ⟨Nat.le_of_ble_eq_true rfl, Nat.le_of_ble_eq_true rfl⟩) hD hS hA (fun H locs hP hD hS => ?_)
          refine lv_if_ne (tgt := 31) hx hb dX7_open_25 (by decide) (fun c8 => ?_) (fun c8 => ?_)
          · replace hm := zz_neg c8 hm
            have j := J31 (mX7_open_b4 z n) ih v1 v2 hm
            rw [hG] at j
            exact j H locs ls hP hD hS (lv_sub hl [0, 1, 2] rfl)
          · replace hm := zz_pos c8 hm
            obtain ⟨n9, en9⟩ : ∃ q : Int32, q = v1 + (1 : Int32) := ⟨_, rfl⟩
            replace hm := zz_nm_some en9 hm
            refine lv_iinc (v := n9) (lv' := [(1, .int n9), (0, .ref (a 57)), (2, .int v2)]) hx hb dX7_open_28 hl (k := 1) rfl (by rw [en9]; rfl) (by decide) rfl (fun ls hl => ?_)
            have j := J31 (mX7_open_b4 z n) ih n9 v2 hm
            rw [hG] at j
            exact j H locs ls hP hD hS (lv_sub hl [1, 0, 2] rfl)
  rw [hG]
  intro H locs ls hP hD hS hl
  unfold mX7_open at hm
  refine lv_iconst (v := (0 : Int32)) hx hb dX7_open_0 (by decide) ?_
  refine lv_istore_n (lv' := [(1, .int (0 : Int32)), (0, .ref (a 57))]) hx hb dX7_open_1 rfl hl (by decide) rfl (fun ls hl => ?_)
  refine lv_iconst (v := (0 : Int32)) hx hb dX7_open_2 (by decide) ?_
  refine lv_istore_n (lv' := [(2, .int (0 : Int32)), (1, .int (0 : Int32)), (0, .ref (a 57))]) hx hb dX7_open_3 rfl hl (by decide) rfl (fun ls hl => ?_)
  have j := J4 zz_N (0 : Int32) (0 : Int32) hm
  rw [hG] at j
  exact j H locs ls hP hD hS (lv_sub hl [2, 1, 0] rfl)
def mX10_disputes (x1 : Int32) (x2 : Int32) (z : zz_M) : Option (Int32 × zz_M) := zz_b1 (mX10_isDispute x1 x2 z) (fun r1 => if r1 = (0 : Int32) then (some ((-1 : Int32), z)) else (zz_b1 (mX7_isDisputed x1 z) (fun r4 => if r4 = (0 : Int32) then (zz_ck (zz_in x1 6) (zz_nm (zz_wI z 60 x1 x2) (fun z8 => zz_b1 (mX7_open z8) (fun r9 => some (r9, z8))))) else (some ((-2 : Int32), z)))))
theorem nX10_disputes_X10 : ∀ w ∈ wsX100, w ∈ wsX10_disputes := fun _ h => List.mem_cons_of_mem _ (List.mem_append_left _ (List.mem_append_left _ (List.mem_append_right _ (h))))
theorem nX10_disputes_X2 : ∀ w ∈ wsX20, w ∈ wsX10_disputes := fun _ h => List.mem_cons_of_mem _ (List.mem_append_left _ (List.mem_append_right _ (h)))
theorem nX10_disputes_X7 : ∀ w ∈ wsX70, w ∈ wsX10_disputes := fun _ h => List.mem_cons_of_mem _ (List.mem_append_right _ (h))
theorem zdX10_disputes : yX10_disputes.cls = RX10 ∧ yX10_disputes.cls ≠ "java/lang/invoke/MethodHandle" ∧ yX10_disputes.cls ≠ "java/lang/invoke/VarHandle" ∧ (parseMethodDescriptor yX10_disputes.desc).map (fun d => d.parameters.length) = some 2 := by decide +kernel
set_option maxHeartbeats 4000000 in
set_option maxRecDepth 100000 in
theorem zX10_disputes (l : Launch) (D : va_G) (y : Nat → ClassId) (a : Nat → Nat) (sz : Nat) (x1 : Int32) (x2 : Int32) (z : zz_M) {r : Int32} {zt : zz_M} (hm : mX10_disputes x1 x2 z = some (r, zt)) : Met l yX10_disputes wsX10_disputes { frames := 3, cells := 0, slots := 0, locals := 64 } (zz_Pc D y (wC y a z) sz [.ref (a 0), .int x1, .int x2]) (zz_Qi D y (wC y a) (va_A (wC y a z) sz) r zt) 0 0 (va_A (wC y a z) sz) := by
  refine Met.ofW (cc := cX10_disputes) (maxL := 3) (ret := (some .int)) (by decide) rfl ?_
  intro p e s m args below meth c s₁ B hml hv
  obtain ⟨rfl, hsz, hP, hK, hD0, hN, hg⟩ := hv
  have hx := B.exec
  have hb := B.bytes
  have hr := B.returns
  have hts := atoms_spec (ws := wsX10_disputes) B.pre
  have hown : s.vm.findClass RX10 = some m.cls := findClass_of_methodNamed B.named
  have hlocks := B.notSynchronized
  clear B
  subst hsz
  have hD := hD0.self (sz := s.heap.size)
  generalize hAe : va_A (wC y a z) s.heap.size = A at hD hg ⊢
  have hA : ∀ q : Nat, s.heap.size ≤ q → A q := fun q h => by rw [← hAe]; exact Or.inr h
  clear hAe hD0
  have hl := lv_entry ([.ref (a 0), .int x1, .int x2]) (n := 3) (Nat.le_of_ble_eq_true rfl)
  rw [lg_entry_eq]
  generalize (lg_sl ([.ref (a 0), .int x1, .int x2]) ++ List.replicate (3 - (lg_sl ([.ref (a 0), .int x1, .int x2])).length) Slot.unset).toArray = ls at hl ⊢
  replace hl : lv_has ls 3 [(0, .ref (a 0)), (1, .int x1), (2, .int x2)] := hl
  refine zz_go (w := wC y a) hP hD va_S.rf hl (fun G hG => ?_)
  clear hP hD hl ls
  rw [hG]
  intro H locs ls hP hD hS hl
  unfold mX10_disputes at hm
  refine lv_aload_n hx hb dX10_disputes_0 rfl (lv_at hl 0 rfl) ?_
  refine lv_iload_n hx hb dX10_disputes_1 rfl (lv_at hl 1 rfl) ?_
  refine lv_iload_n hx hb dX10_disputes_2 rfl (lv_at hl 2 rfl) ?_
  obtain ⟨r1, h2, hm⟩ := zz_b1_some hm
  refine zz_calli (zz_runV (w := wC y a) (As := [.int x1, .int x2]) (rest := []) ⟨hx, hb, hml, hown, hts⟩ (zX10_isDispute l D y a H.size x1 x2 z h2) (cwV 2 hts gX10_disputes_X10_isDispute rfl rfl rfl zdX10_isDispute ⟨Nat.le_of_ble_eq_true rfl, Nat.le_of_ble_eq_true rfl⟩) hK hN hg hP hD hS hA 0 (wC_0 y a z) rfl rfl hl.1 rfl (Nat.le_of_ble_eq_true rfl) dX10_disputes_3 ⟨Nat.le_of_ble_eq_true rfl, Nat.le_of_ble_eq_true rfl⟩) hD hS hA (fun H locs hP hD hS => ?_)
  refine lv_if_ne (tgt := 11) hx hb dX10_disputes_6 (by decide) (fun c3 => ?_) (fun c3 => ?_)
  · replace hm := zz_neg c3 hm
    refine lv_aload_n hx hb dX10_disputes_11 rfl (lv_at hl 0 rfl) ?_
    refine va_get (D := D) (ci := 10) (v := .ref (a 8)) (C := RX10) (T := TX10) (N := 7) hx hb hts nX10_disputes_X10 hown hK hP 0 (wC_0 y a z) rfl 2 (by decide) (hts (.fieldLink RX10 26 "WorksDesk" "book" "LWorksDesk$Book;") (List.mem_of_getElem? (i := 1) rfl)) (fun _ h9 => h9) rfl dX10_disputes_12 ?_
    refine va_get (D := D) (ci := 2) (v := .ref (a 57)) (C := RX2) (T := TX2) (N := 12) hx hb hts nX10_disputes_X2 hown hK hP 8 (wC_8 y a z) rfl 6 (by decide) (hts (.fieldLink RX10 163 "WorksDesk$Book" "setOffs" "LWorksDesk$SetOffs;") (List.mem_of_getElem? (i := 2) rfl)) (fun _ h9 => h9) rfl dX10_disputes_15 ?_
    refine lv_iload_n hx hb dX10_disputes_18 rfl (lv_at hl 1 rfl) ?_
    obtain ⟨r4, h5, hm⟩ := zz_b1_some hm
    refine zz_calli (zz_runV (w := wC y a) (As := [.int x1]) (rest := []) ⟨hx, hb, hml, hown, hts⟩ (zX7_isDisputed l D y a H.size x1 z h5) (cwV 1 hts gX10_disputes_X7_isDisputed rfl rfl rfl zdX7_isDisputed ⟨Nat.le_of_ble_eq_true rfl, Nat.le_of_ble_eq_true rfl⟩) hK hN hg hP hD hS hA 57 (wC_57 y a z) rfl rfl hl.1 rfl (Nat.le_of_ble_eq_true rfl) dX10_disputes_19 ⟨Nat.le_of_ble_eq_true rfl, Nat.le_of_ble_eq_true rfl⟩) hD hS hA (fun H locs hP hD hS => ?_)
    refine lv_if_eq (tgt := 28) hx hb dX10_disputes_22 (by decide) (fun c6 => ?_) (fun c6 => ?_)
    · replace hm := zz_pos c6 hm
      refine lv_aload_n hx hb dX10_disputes_28 rfl (lv_at hl 0 rfl) ?_
      refine va_get (D := D) (ci := 10) (v := .ref (a 8)) (C := RX10) (T := TX10) (N := 7) hx hb hts nX10_disputes_X10 hown hK hP 0 (wC_0 y a z) rfl 2 (by decide) (hts (.fieldLink RX10 26 "WorksDesk" "book" "LWorksDesk$Book;") (List.mem_of_getElem? (i := 1) rfl)) (fun _ h9 => h9) rfl dX10_disputes_29 ?_
      refine va_get (D := D) (ci := 2) (v := .ref (a 57)) (C := RX2) (T := TX2) (N := 12) hx hb hts nX10_disputes_X2 hown hK hP 8 (wC_8 y a z) rfl 6 (by decide) (hts (.fieldLink RX10 163 "WorksDesk$Book" "setOffs" "LWorksDesk$SetOffs;") (List.mem_of_getElem? (i := 2) rfl)) (fun _ h9 => h9) rfl dX10_disputes_32 ?_
      refine va_get (D := D) (ci := 7) (v := .ref (a 60)) (C := RX7) (T := TX7) (N := 6) hx hb hts nX10_disputes_X7 hown hK hP 57 (wC_57 y a z) rfl 2 (by decide) (hts (.fieldLink RX10 178 "WorksDesk$SetOffs" "disputed" "[I") (List.mem_of_getElem? (i := 3) rfl)) (fun _ h9 => h9) rfl dX10_disputes_35 ?_
      refine lv_iload_n hx hb dX10_disputes_38 rfl (lv_at hl 1 rfl) ?_
      refine lv_iload_n hx hb dX10_disputes_39 rfl (lv_at hl 2 rfl) ?_
      obtain ⟨c7, hm⟩ := zz_ck_some hm
      refine va_iast hx hb hK hP hD hS 60 0 (wC_60 y a z) rfl c7 dX10_disputes_40 (fun H locs hP hD hS => ?_)
      obtain ⟨z8, hP, hD, hm⟩ := zz_up (w := wC y a) (wC_w60 y a z x1 x2) hP hD hm
      refine lv_aload_n hx hb dX10_disputes_41 rfl (lv_at hl 0 rfl) ?_
      refine va_get (D := D) (ci := 10) (v := .ref (a 8)) (C := RX10) (T := TX10) (N := 7) hx hb hts nX10_disputes_X10 hown hK hP 0 (wC_0 y a z8) rfl 2 (by decide) (hts (.fieldLink RX10 26 "WorksDesk" "book" "LWorksDesk$Book;") (List.mem_of_getElem? (i := 1) rfl)) (fun _ h9 => h9) rfl dX10_disputes_42 ?_
      refine va_get (D := D) (ci := 2) (v := .ref (a 57)) (C := RX2) (T := TX2) (N := 12) hx hb hts nX10_disputes_X2 hown hK hP 8 (wC_8 y a z8) rfl 6 (by decide) (hts (.fieldLink RX10 163 "WorksDesk$Book" "setOffs" "LWorksDesk$SetOffs;") (List.mem_of_getElem? (i := 2) rfl)) (fun _ h9 => h9) rfl dX10_disputes_45 ?_
      obtain ⟨r9, h10, hm⟩ := zz_b1_some hm
      refine zz_calli (zz_runV (w := wC y a) (As := []) (rest := []) ⟨hx, hb, hml, hown, hts⟩ (zX7_open l D y a H.size z8 h10) (cwV 0 hts gX10_disputes_X7_open rfl rfl rfl zdX7_open ⟨Nat.le_of_ble_eq_true rfl, Nat.le_of_ble_eq_true rfl⟩) hK hN hg hP hD hS hA 57 (wC_57 y a z8) rfl rfl hl.1 rfl (Nat.le_of_ble_eq_true rfl) dX10_disputes_48 ⟨Nat.le_of_ble_eq_true rfl, Nat.le_of_ble_eq_true rfl⟩) hD hS hA (fun H locs hP hD hS => ?_)
      exact zz_iret hx hb hr hlocks (zz_some2 hm) hP hK hD hS dX10_disputes_51
    · replace hm := zz_neg c6 hm
      refine lv_bipush (v := (-2 : Int32)) hx hb dX10_disputes_25 (by decide) ?_
      exact zz_iret hx hb hr hlocks (zz_some2 hm) hP hK hD hS dX10_disputes_27
  · replace hm := zz_pos c3 hm
    refine lv_iconst (v := (-1 : Int32)) hx hb dX10_disputes_9 (by decide) ?_
    exact zz_iret hx hb hr hlocks (zz_some2 hm) hP hK hD hS dX10_disputes_10
def mX10_due (x1 : Int32) (z : zz_M) : Option (Int32 × zz_M) := zz_b1 (mX10_isMonth x1) (fun r1 => if r1 = (0 : Int32) then (some ((-1 : Int32), z)) else (if (z.2.2.1 522) = x1 then (some ((-2 : Int32), z)) else (zz_nm (zz_sF z 522 x1) (fun z5 => some (z.2.2.1 522, z5)))))
theorem nX10_due_X10 : ∀ w ∈ wsX100, w ∈ wsX10_due := fun _ h => List.mem_cons_of_mem _ (List.mem_append_left _ (List.mem_append_right _ (h)))
theorem nX10_due_X2 : ∀ w ∈ wsX20, w ∈ wsX10_due := fun _ h => List.mem_cons_of_mem _ (List.mem_append_right _ (h))
theorem zdX10_due : yX10_due.cls = RX10 ∧ yX10_due.cls ≠ "java/lang/invoke/MethodHandle" ∧ yX10_due.cls ≠ "java/lang/invoke/VarHandle" ∧ (parseMethodDescriptor yX10_due.desc).map (fun d => d.parameters.length) = some 1 := by decide +kernel
set_option maxHeartbeats 4000000 in
set_option maxRecDepth 100000 in
theorem zX10_due (l : Launch) (D : va_G) (y : Nat → ClassId) (a : Nat → Nat) (sz : Nat) (x1 : Int32) (z : zz_M) {r : Int32} {zt : zz_M} (hm : mX10_due x1 z = some (r, zt)) : Met l yX10_due wsX10_due { frames := 2, cells := 0, slots := 0, locals := 42 } (zz_Pc D y (wC y a z) sz [.ref (a 0), .int x1]) (zz_Qi D y (wC y a) (va_A (wC y a z) sz) r zt) 0 0 (va_A (wC y a z) sz) := by
  refine Met.ofW (cc := cX10_due) (maxL := 3) (ret := (some .int)) (by decide) rfl ?_
  intro p e s m args below meth c s₁ B hml hv
  obtain ⟨rfl, hsz, hP, hK, hD0, hN, hg⟩ := hv
  have hx := B.exec
  have hb := B.bytes
  have hr := B.returns
  have hts := atoms_spec (ws := wsX10_due) B.pre
  have hown : s.vm.findClass RX10 = some m.cls := findClass_of_methodNamed B.named
  have hlocks := B.notSynchronized
  clear B
  subst hsz
  have hD := hD0.self (sz := s.heap.size)
  generalize hAe : va_A (wC y a z) s.heap.size = A at hD hg ⊢
  have hA : ∀ q : Nat, s.heap.size ≤ q → A q := fun q h => by rw [← hAe]; exact Or.inr h
  clear hAe hD0
  have hl := lv_entry ([.ref (a 0), .int x1]) (n := 3) (Nat.le_of_ble_eq_true rfl)
  rw [lg_entry_eq]
  generalize (lg_sl ([.ref (a 0), .int x1]) ++ List.replicate (3 - (lg_sl ([.ref (a 0), .int x1])).length) Slot.unset).toArray = ls at hl ⊢
  replace hl : lv_has ls 3 [(0, .ref (a 0)), (1, .int x1)] := hl
  refine zz_go (w := wC y a) hP hD va_S.rf hl (fun G hG => ?_)
  clear hP hD hl ls
  rw [hG]
  intro H locs ls hP hD hS hl
  unfold mX10_due at hm
  refine lv_iload_n hx hb dX10_due_0 rfl (lv_at hl 1 rfl) ?_
  obtain ⟨r1, h2, hm⟩ := zz_b1_some hm
  refine zz_calli (zz_runS (w := wC y a) (As := [.int x1]) (rest := []) ⟨hx, hb, hml, hown, hts⟩ (zX10_isMonth l D y a H.size x1 z h2) (va_cwS 1 hts gX10_due_X10_isMonth rfl rfl rfl zdX10_isMonth ⟨Nat.le_of_ble_eq_true rfl, Nat.le_of_ble_eq_true rfl⟩) hK hN hg hP hD hS hA rfl hl.1 rfl (Nat.le_of_ble_eq_true rfl) dX10_due_1 ⟨Nat.le_of_ble_eq_true rfl, Nat.le_of_ble_eq_true rfl⟩) hD hS hA (fun H locs hP hD hS => ?_)
  refine lv_if_ne (tgt := 9) hx hb dX10_due_4 (by decide) (fun c3 => ?_) (fun c3 => ?_)
  · replace hm := zz_neg c3 hm
    refine lv_aload_n hx hb dX10_due_9 rfl (lv_at hl 0 rfl) ?_
    refine va_get (D := D) (ci := 10) (v := .ref (a 8)) (C := RX10) (T := TX10) (N := 7) hx hb hts nX10_due_X10 hown hK hP 0 (wC_0 y a z) rfl 2 (by decide) (hts (.fieldLink RX10 26 "WorksDesk" "book" "LWorksDesk$Book;") (List.mem_of_getElem? (i := 1) rfl)) (fun _ h9 => h9) rfl dX10_due_10 ?_
    refine va_get (D := D) (ci := 2) (v := .int (z.2.2.1 522)) (C := RX2) (T := TX2) (N := 12) hx hb hts nX10_due_X2 hown hK hP 8 (wC_8 y a z) rfl 10 (by decide) (hts (.fieldLink RX10 208 "WorksDesk$Book" "dueBy" "I") (List.mem_of_getElem? (i := 2) rfl)) (fun _ h9 => h9) rfl dX10_due_13 ?_
    refine lv_istore_n (lv' := [(2, .int (z.2.2.1 522)), (0, .ref (a 0)), (1, .int x1)]) hx hb dX10_due_16 rfl hl (by decide) rfl (fun ls hl => ?_)
    refine lv_iload_n hx hb dX10_due_17 rfl (lv_at hl 0 rfl) ?_
    refine lv_iload_n hx hb dX10_due_18 rfl (lv_at hl 2 rfl) ?_
    refine lv_icmp_ne (tgt := 25) hx hb dX10_due_19 (by decide) (fun c4 => ?_) (fun c4 => ?_)
    · replace hm := zz_neg c4 hm
      refine lv_aload_n hx hb dX10_due_25 rfl (lv_at hl 1 rfl) ?_
      refine va_get (D := D) (ci := 10) (v := .ref (a 8)) (C := RX10) (T := TX10) (N := 7) hx hb hts nX10_due_X10 hown hK hP 0 (wC_0 y a z) rfl 2 (by decide) (hts (.fieldLink RX10 26 "WorksDesk" "book" "LWorksDesk$Book;") (List.mem_of_getElem? (i := 1) rfl)) (fun _ h9 => h9) rfl dX10_due_26 ?_
      refine lv_iload_n hx hb dX10_due_29 rfl (lv_at hl 2 rfl) ?_
      refine va_put (D := D) (ci := 2) (v := .int x1) (ty := .int) (C := RX2) (T := TX2) (N := 12) hx hb hts nX10_due_X2 tyX2 tyX2_ok nmX2 hown hK hP hD hS 8 (wC_8 y a z) rfl 10 (by decide) (hts (.fieldLink RX10 208 "WorksDesk$Book" "dueBy" "I") (List.mem_of_getElem? (i := 2) rfl)) (fun _ h9 => h9) rfl (tyX2_ok 10 (by decide)) rfl rfl (Nat.le_of_ble_eq_true rfl) dX10_due_30 (fun H locs hP hD hS => ?_)
      obtain ⟨z5, hP, hD, hm⟩ := zz_up (w := wC y a) (wC_f8_10 y a z x1) hP hD hm
      refine lv_iload_n hx hb dX10_due_33 rfl (lv_at hl 0 rfl) ?_
      exact zz_iret hx hb hr hlocks (zz_some2 hm) hP hK hD hS dX10_due_34
    · replace hm := zz_pos c4 hm
      refine lv_bipush (v := (-2 : Int32)) hx hb dX10_due_22 (by decide) ?_
      exact zz_iret hx hb hr hlocks (zz_some2 hm) hP hK hD hS dX10_due_24
  · replace hm := zz_pos c3 hm
    refine lv_iconst (v := (-1 : Int32)) hx hb dX10_due_7 (by decide) ?_
    exact zz_iret hx hb hr hlocks (zz_some2 hm) hP hK hD hS dX10_due_8
def mX9_cutTo_b12 (z : zz_M) : Option (Int32 × zz_M) := some ((0 : Int32), z)
def mX9_cutTo (x1 : Int32) (z : zz_M) : Option (Int32 × zz_M) := if x1 < (0 : Int32) then (mX9_cutTo_b12 z) else (if x1 ≤ (z.2.2.1 65) then (zz_nm (zz_sF z 65 x1) (fun z3 => some ((1 : Int32), z3))) else (mX9_cutTo_b12 z))
theorem nX9_cutTo_X9 : ∀ w ∈ wsX90, w ∈ wsX9_cutTo := fun _ h => List.mem_cons_of_mem _ (List.mem_append_right _ (h))
theorem zdX9_cutTo : yX9_cutTo.cls = RX9 ∧ yX9_cutTo.cls ≠ "java/lang/invoke/MethodHandle" ∧ yX9_cutTo.cls ≠ "java/lang/invoke/VarHandle" ∧ (parseMethodDescriptor yX9_cutTo.desc).map (fun d => d.parameters.length) = some 1 := by decide +kernel
set_option maxHeartbeats 4000000 in
set_option maxRecDepth 100000 in
theorem zX9_cutTo (l : Launch) (D : va_G) (y : Nat → ClassId) (a : Nat → Nat) (sz : Nat) (x1 : Int32) (z : zz_M) {r : Int32} {zt : zz_M} (hm : mX9_cutTo x1 z = some (r, zt)) : Met l yX9_cutTo wsX9_cutTo { frames := 0, cells := 0, slots := 0, locals := 0 } (zz_Pc D y (wC y a z) sz [.ref (a 1), .int x1]) (zz_Qi D y (wC y a) (va_A (wC y a z) sz) r zt) 0 0 (va_A (wC y a z) sz) := by
  refine Met.ofW (cc := cX9_cutTo) (maxL := 2) (ret := (some .boolean)) (by decide) rfl ?_
  intro p e s m args below meth c s₁ B hml hv
  obtain ⟨rfl, hsz, hP, hK, hD0, hN, hg⟩ := hv
  have hx := B.exec
  have hb := B.bytes
  have hr := B.returns
  have hts := atoms_spec (ws := wsX9_cutTo) B.pre
  have hown : s.vm.findClass RX9 = some m.cls := findClass_of_methodNamed B.named
  have hlocks := B.notSynchronized
  clear B
  subst hsz
  have hD := hD0.self (sz := s.heap.size)
  generalize hAe : va_A (wC y a z) s.heap.size = A at hD hg ⊢
  have hA : ∀ q : Nat, s.heap.size ≤ q → A q := fun q h => by rw [← hAe]; exact Or.inr h
  clear hAe hD0
  have hl := lv_entry ([.ref (a 1), .int x1]) (n := 2) (Nat.le_of_ble_eq_true rfl)
  rw [lg_entry_eq]
  generalize (lg_sl ([.ref (a 1), .int x1]) ++ List.replicate (2 - (lg_sl ([.ref (a 1), .int x1])).length) Slot.unset).toArray = ls at hl ⊢
  replace hl : lv_has ls 2 [(0, .ref (a 1)), (1, .int x1)] := hl
  refine zz_go (w := wC y a) hP hD va_S.rf hl (fun G hG => ?_)
  clear hP hD hl ls
  have J12 : ∀ (z : zz_M), mX9_cutTo_b12 z = some (r, zt) → G 12 [] [] z := by
    intro z hm
    rw [mX9_cutTo_b12] at hm
    rw [hG]
    intro H locs ls hP hD hS hl
    refine lv_iconst (v := (0 : Int32)) hx hb dX9_cutTo_12 (by decide) ?_
    exact zz_zret hx hb hr hlocks (by decide) (zz_some2 hm) hP hK hD hS dX9_cutTo_13
  rw [hG]
  intro H locs ls hP hD hS hl
  unfold mX9_cutTo at hm
  refine lv_iload_n hx hb dX9_cutTo_0 rfl (lv_at hl 1 rfl) ?_
  refine lv_if_lt (tgt := 12) hx hb dX9_cutTo_1 (by decide) (fun c1 => ?_) (fun c1 => ?_)
  · replace hm := zz_pos c1 hm
    have j := J12 z hm
    rw [hG] at j
    exact j H locs ls hP hD hS (lv_sub hl [] rfl)
  · replace hm := zz_neg c1 hm
    refine lv_iload_n hx hb dX9_cutTo_4 rfl (lv_at hl 1 rfl) ?_
    refine lv_aload_n hx hb dX9_cutTo_5 rfl (lv_at hl 0 rfl) ?_
    refine va_get (D := D) (ci := 9) (v := .int (z.2.2.1 65)) (C := RX9) (T := TX9) (N := 2) hx hb hts nX9_cutTo_X9 hown hK hP 1 (wC_1 y a z) rfl 1 (by decide) (hts (.fieldLink RX9 15 "WorksDesk$Text" "size" "I") (List.mem_of_getElem? (i := 1) rfl)) (fun _ h9 => h9) rfl dX9_cutTo_6 ?_
    refine lv_icmp_le (tgt := 14) hx hb dX9_cutTo_9 (by decide) (fun c2 => ?_) (fun c2 => ?_)
    · replace hm := zz_pos c2 hm
      refine lv_aload_n hx hb dX9_cutTo_14 rfl (lv_at hl 0 rfl) ?_
      refine lv_iload_n hx hb dX9_cutTo_15 rfl (lv_at hl 1 rfl) ?_
      refine va_put (D := D) (ci := 9) (v := .int x1) (ty := .int) (C := RX9) (T := TX9) (N := 2) hx hb hts nX9_cutTo_X9 tyX9 tyX9_ok nmX9 hown hK hP hD hS 1 (wC_1 y a z) rfl 1 (by decide) (hts (.fieldLink RX9 15 "WorksDesk$Text" "size" "I") (List.mem_of_getElem? (i := 1) rfl)) (fun _ h9 => h9) rfl (tyX9_ok 1 (by decide)) rfl rfl (Nat.le_of_ble_eq_true rfl) dX9_cutTo_16 (fun H locs hP hD hS => ?_)
      obtain ⟨z3, hP, hD, hm⟩ := zz_up (w := wC y a) (wC_f1_1 y a z x1) hP hD hm
      refine lv_iconst (v := (1 : Int32)) hx hb dX9_cutTo_19 (by decide) ?_
      exact zz_zret hx hb hr hlocks (by decide) (zz_some2 hm) hP hK hD hS dX9_cutTo_20
    · replace hm := zz_neg c2 hm
      have j := J12 z hm
      rw [hG] at j
      exact j H locs ls hP hD hS (lv_sub hl [] rfl)
def mX10_end (x1 : Int32) (z : zz_M) : Option (Int32 × zz_M) := zz_b2 (mX9_cutTo x1 z) (fun r1 z3 => zz_ck (zz_bool r1) (some (r1, z3)))
theorem nX10_end_X10 : ∀ w ∈ wsX100, w ∈ wsX10_end := fun _ h => List.mem_cons_of_mem _ (List.mem_append_left _ (List.mem_append_right _ (h)))
theorem zdX10_end : yX10_end.cls = RX10 ∧ yX10_end.cls ≠ "java/lang/invoke/MethodHandle" ∧ yX10_end.cls ≠ "java/lang/invoke/VarHandle" ∧ (parseMethodDescriptor yX10_end.desc).map (fun d => d.parameters.length) = some 1 := by decide +kernel
set_option maxHeartbeats 4000000 in
set_option maxRecDepth 100000 in
theorem zX10_end (l : Launch) (D : va_G) (y : Nat → ClassId) (a : Nat → Nat) (sz : Nat) (x1 : Int32) (z : zz_M) {r : Int32} {zt : zz_M} (hm : mX10_end x1 z = some (r, zt)) : Met l yX10_end wsX10_end { frames := 1, cells := 0, slots := 0, locals := 21 } (zz_Pc D y (wC y a z) sz [.ref (a 0), .int x1]) (zz_Qi D y (wC y a) (va_A (wC y a z) sz) r zt) 0 0 (va_A (wC y a z) sz) := by
  refine Met.ofW (cc := cX10_end) (maxL := 2) (ret := (some .boolean)) (by decide) rfl ?_
  intro p e s m args below meth c s₁ B hml hv
  obtain ⟨rfl, hsz, hP, hK, hD0, hN, hg⟩ := hv
  have hx := B.exec
  have hb := B.bytes
  have hr := B.returns
  have hts := atoms_spec (ws := wsX10_end) B.pre
  have hown : s.vm.findClass RX10 = some m.cls := findClass_of_methodNamed B.named
  have hlocks := B.notSynchronized
  clear B
  subst hsz
  have hD := hD0.self (sz := s.heap.size)
  generalize hAe : va_A (wC y a z) s.heap.size = A at hD hg ⊢
  have hA : ∀ q : Nat, s.heap.size ≤ q → A q := fun q h => by rw [← hAe]; exact Or.inr h
  clear hAe hD0
  have hl := lv_entry ([.ref (a 0), .int x1]) (n := 2) (Nat.le_of_ble_eq_true rfl)
  rw [lg_entry_eq]
  generalize (lg_sl ([.ref (a 0), .int x1]) ++ List.replicate (2 - (lg_sl ([.ref (a 0), .int x1])).length) Slot.unset).toArray = ls at hl ⊢
  replace hl : lv_has ls 2 [(0, .ref (a 0)), (1, .int x1)] := hl
  refine zz_go (w := wC y a) hP hD va_S.rf hl (fun G hG => ?_)
  clear hP hD hl ls
  rw [hG]
  intro H locs ls hP hD hS hl
  unfold mX10_end at hm
  refine lv_aload_n hx hb dX10_end_0 rfl (lv_at hl 0 rfl) ?_
  refine va_get (D := D) (ci := 10) (v := .ref (a 1)) (C := RX10) (T := TX10) (N := 7) hx hb hts nX10_end_X10 hown hK hP 0 (wC_0 y a z) rfl 0 (by decide) (hts (.fieldLink RX10 12 "WorksDesk" "text" "LWorksDesk$Text;") (List.mem_of_getElem? (i := 1) rfl)) (fun _ h9 => h9) rfl dX10_end_1 ?_
  refine lv_iload_n hx hb dX10_end_4 rfl (lv_at hl 1 rfl) ?_
  obtain ⟨r1, z3, h2, hm⟩ := zz_b2_some hm
  refine zz_calli (zz_runV (w := wC y a) (As := [.int x1]) (rest := []) ⟨hx, hb, hml, hown, hts⟩ (zX9_cutTo l D y a H.size x1 z h2) (cwV 1 hts gX10_end_X9_cutTo rfl rfl rfl zdX9_cutTo ⟨Nat.le_of_ble_eq_true rfl, Nat.le_of_ble_eq_true rfl⟩) hK hN hg hP hD hS hA 1 (wC_1 y a z) rfl rfl hl.1 rfl (Nat.le_of_ble_eq_true rfl) dX10_end_5 ⟨Nat.le_of_ble_eq_true rfl, Nat.le_of_ble_eq_true rfl⟩) hD hS hA (fun H locs hP hD hS => ?_)
  obtain ⟨c4, hm⟩ := zz_ck_some hm
  exact zz_zret hx hb hr hlocks c4 (zz_some2 hm) hP hK hD hS dX10_end_8
def mX6_firstAtLeast_b2 (fk : Nat) (z : zz_M) : Nat → Int32 → Int32 → Option Int32
  | 0, _, _ => none
  | n + 1, v1, v2 => if (24 : Int32) ≤ v2 then (some (-1 : Int32)) else (zz_ck (zz_in v2 24) (if (z.1 (16 + 3 * fk + 2) v2.toNatClampNeg) < v1 then (zz_nm (v2 + (1 : Int32)) (fun n4 => (mX6_firstAtLeast_b2 fk z n) v1 n4)) else (some v2)))
def mX6_firstAtLeast (fk : Nat) (x1 : Int32) (z : zz_M) : Option Int32 := mX6_firstAtLeast_b2 fk z zz_N x1 (0 : Int32)
theorem nX6_firstAtLeast_X6 : ∀ w ∈ wsX60, w ∈ wsX6_firstAtLeast := fun _ h => List.mem_cons_of_mem _ (List.mem_append_right _ (h))
theorem zdX6_firstAtLeast : yX6_firstAtLeast.cls = RX6 ∧ yX6_firstAtLeast.cls ≠ "java/lang/invoke/MethodHandle" ∧ yX6_firstAtLeast.cls ≠ "java/lang/invoke/VarHandle" ∧ (parseMethodDescriptor yX6_firstAtLeast.desc).map (fun d => d.parameters.length) = some 1 := by decide +kernel
set_option maxHeartbeats 4000000 in
set_option maxRecDepth 100000 in
theorem zX6_firstAtLeast (l : Launch) (D : va_G) (y : Nat → ClassId) (a : Nat → Nat) (sz : Nat) (fk : Nat) (x1 : Int32) (hfk : fk < 12) (z : zz_M) {r : Int32} (hm : mX6_firstAtLeast fk x1 z = some r) : Met l yX6_firstAtLeast wsX6_firstAtLeast { frames := 0, cells := 0, slots := 0, locals := 0 } (zz_Pc D y (wC y a z) sz [.ref (a (16 + 3 * fk)), .int x1]) (zz_Qi D y (wC y a) (va_A (wC y a z) sz) r z) 0 0 (va_A (wC y a z) sz) := by
  refine Met.ofW (cc := cX6_firstAtLeast) (maxL := 3) (ret := (some .int)) (by decide) rfl ?_
  intro p e s m args below meth c s₁ B hml hv
  obtain ⟨rfl, hsz, hP, hK, hD0, hN, hg⟩ := hv
  have hx := B.exec
  have hb := B.bytes
  have hr := B.returns
  have hts := atoms_spec (ws := wsX6_firstAtLeast) B.pre
  have hown : s.vm.findClass RX6 = some m.cls := findClass_of_methodNamed B.named
  have hlocks := B.notSynchronized
  clear B
  subst hsz
  have hD := hD0.self (sz := s.heap.size)
  generalize hAe : va_A (wC y a z) s.heap.size = A at hD hg ⊢
  have hA : ∀ q : Nat, s.heap.size ≤ q → A q := fun q h => by rw [← hAe]; exact Or.inr h
  clear hAe hD0
  have hl := lv_entry ([.ref (a (16 + 3 * fk)), .int x1]) (n := 3) (Nat.le_of_ble_eq_true rfl)
  rw [lg_entry_eq]
  generalize (lg_sl ([.ref (a (16 + 3 * fk)), .int x1]) ++ List.replicate (3 - (lg_sl ([.ref (a (16 + 3 * fk)), .int x1])).length) Slot.unset).toArray = ls at hl ⊢
  replace hl : lv_has ls 3 [(0, .ref (a (16 + 3 * fk))), (1, .int x1)] := hl
  refine zz_go (w := wC y a) hP hD va_S.rf hl (fun G hG => ?_)
  clear hP hD hl ls
  have J2 : ∀ (n : Nat) (v1 : Int32) (v2 : Int32), mX6_firstAtLeast_b2 fk z n v1 v2 = some r → G 2 [(0, .ref (a (16 + 3 * fk))), (1, .int v1), (2, .int v2)] [] z := by
    intro n
    induction n with
    | zero =>
      intro v1 v2 hm
      exact zz_none hm
    | succ n ih =>
      intro v1 v2 hm
      rw [mX6_firstAtLeast_b2] at hm
      rw [hG]
      intro H locs ls hP hD hS hl
      refine lv_iload_n hx hb dX6_firstAtLeast_2 rfl (lv_at hl 2 rfl) ?_
      refine lv_bipush (v := (24 : Int32)) hx hb dX6_firstAtLeast_3 (by decide) ?_
      refine lv_icmp_ge (tgt := 26) hx hb dX6_firstAtLeast_5 (by decide) (fun c1 => ?_) (fun c1 => ?_)
      · replace hm := zz_pos c1 hm
        refine lv_iconst (v := (-1 : Int32)) hx hb dX6_firstAtLeast_26 (by decide) ?_
        exact zz_iret hx hb hr hlocks ⟨zz_some1 hm, rfl⟩ hP hK hD hS dX6_firstAtLeast_27
      · replace hm := zz_neg c1 hm
        refine lv_aload_n hx hb dX6_firstAtLeast_8 rfl (lv_at hl 0 rfl) ?_
        refine va_get (D := D) (ci := 6) (v := .ref (a (16 + 3 * fk + 2))) (C := RX6) (T := TX6) (N := 3) hx hb hts nX6_firstAtLeast_X6 hown hK hP (16 + 3 * fk) (wC_ser y a z fk hfk) rfl 1 (by decide) (hts (.fieldLink RX6 15 "WorksDesk$Series" "standing" "[I") (List.mem_of_getElem? (i := 1) rfl)) (fun _ h9 => h9) rfl dX6_firstAtLeast_9 ?_
        refine lv_iload_n hx hb dX6_firstAtLeast_12 rfl (lv_at hl 2 rfl) ?_
        obtain ⟨c2, hm⟩ := zz_ck_some hm
        refine va_iald hx hb hK hP (16 + 3 * fk + 2) 0 (wC_serA2 y a z fk hfk) rfl c2 dX6_firstAtLeast_13 ?_
        refine lv_iload_n hx hb dX6_firstAtLeast_14 rfl (lv_at hl 1 rfl) ?_
        refine lv_icmp_lt (tgt := 20) hx hb dX6_firstAtLeast_15 (by decide) (fun c3 => ?_) (fun c3 => ?_)
        · replace hm := zz_pos c3 hm
          obtain ⟨n4, en4⟩ : ∃ q : Int32, q = v2 + (1 : Int32) := ⟨_, rfl⟩
          replace hm := zz_nm_some en4 hm
          refine lv_iinc (v := n4) (lv' := [(2, .int n4), (0, .ref (a (16 + 3 * fk))), (1, .int v1)]) hx hb dX6_firstAtLeast_20 hl (k := 2) rfl (by rw [en4]; rfl) (by decide) rfl (fun ls hl => ?_)
          refine lv_goto (tgt := 2) hx hb dX6_firstAtLeast_23 (by decide) ?_
          have j := ih v1 n4 hm
          rw [hG] at j
          exact j H locs ls hP hD hS (lv_sub hl [1, 2, 0] rfl)
        · replace hm := zz_neg c3 hm
          refine lv_iload_n hx hb dX6_firstAtLeast_18 rfl (lv_at hl 2 rfl) ?_
          exact zz_iret hx hb hr hlocks ⟨zz_some1 hm, rfl⟩ hP hK hD hS dX6_firstAtLeast_19
  rw [hG]
  intro H locs ls hP hD hS hl
  unfold mX6_firstAtLeast at hm
  refine lv_iconst (v := (0 : Int32)) hx hb dX6_firstAtLeast_0 (by decide) ?_
  refine lv_istore_n (lv' := [(2, .int (0 : Int32)), (0, .ref (a (16 + 3 * fk))), (1, .int x1)]) hx hb dX6_firstAtLeast_1 rfl hl (by decide) rfl (fun ls hl => ?_)
  have j := J2 zz_N x1 (0 : Int32) hm
  rw [hG] at j
  exact j H locs ls hP hD hS (lv_sub hl [1, 2, 0] rfl)
def mX6_lastToldAhead_b4 (fk : Nat) (z : zz_M) : Nat → Int32 → Option Int32
  | 0, _ => none
  | n + 1, v2 => if v2 < (0 : Int32) then (some (-1 : Int32)) else (zz_b1 (mX6_isTold fk v2 z) (fun r2 => if r2 = (0 : Int32) then (zz_nm (v2 + (-1 : Int32)) (fun n5 => (mX6_lastToldAhead_b4 fk z n) n5)) else (some v2)))
def mX6_lastToldAhead (fk : Nat) (x1 : Int32) (z : zz_M) : Option Int32 := zz_nm (x1 - (1 : Int32)) (fun n6 => mX6_lastToldAhead_b4 fk z zz_N n6)
theorem zdX6_lastToldAhead : yX6_lastToldAhead.cls = RX6 ∧ yX6_lastToldAhead.cls ≠ "java/lang/invoke/MethodHandle" ∧ yX6_lastToldAhead.cls ≠ "java/lang/invoke/VarHandle" ∧ (parseMethodDescriptor yX6_lastToldAhead.desc).map (fun d => d.parameters.length) = some 1 := by decide +kernel
set_option maxHeartbeats 4000000 in
set_option maxRecDepth 100000 in
theorem zX6_lastToldAhead (l : Launch) (D : va_G) (y : Nat → ClassId) (a : Nat → Nat) (sz : Nat) (fk : Nat) (x1 : Int32) (hfk : fk < 12) (z : zz_M) {r : Int32} (hm : mX6_lastToldAhead fk x1 z = some r) : Met l yX6_lastToldAhead wsX6_lastToldAhead { frames := 1, cells := 0, slots := 0, locals := 21 } (zz_Pc D y (wC y a z) sz [.ref (a (16 + 3 * fk)), .int x1]) (zz_Qi D y (wC y a) (va_A (wC y a z) sz) r z) 0 0 (va_A (wC y a z) sz) := by
  refine Met.ofW (cc := cX6_lastToldAhead) (maxL := 3) (ret := (some .int)) (by decide) rfl ?_
  intro p e s m args below meth c s₁ B hml hv
  obtain ⟨rfl, hsz, hP, hK, hD0, hN, hg⟩ := hv
  have hx := B.exec
  have hb := B.bytes
  have hr := B.returns
  have hts := atoms_spec (ws := wsX6_lastToldAhead) B.pre
  have hown : s.vm.findClass RX6 = some m.cls := findClass_of_methodNamed B.named
  have hlocks := B.notSynchronized
  clear B
  subst hsz
  have hD := hD0.self (sz := s.heap.size)
  generalize hAe : va_A (wC y a z) s.heap.size = A at hD hg ⊢
  have hA : ∀ q : Nat, s.heap.size ≤ q → A q := fun q h => by rw [← hAe]; exact Or.inr h
  clear hAe hD0
  have hl := lv_entry ([.ref (a (16 + 3 * fk)), .int x1]) (n := 3) (Nat.le_of_ble_eq_true rfl)
  rw [lg_entry_eq]
  generalize (lg_sl ([.ref (a (16 + 3 * fk)), .int x1]) ++ List.replicate (3 - (lg_sl ([.ref (a (16 + 3 * fk)), .int x1])).length) Slot.unset).toArray = ls at hl ⊢
  replace hl : lv_has ls 3 [(0, .ref (a (16 + 3 * fk))), (1, .int x1)] := hl
  refine zz_go (w := wC y a) hP hD va_S.rf hl (fun G hG => ?_)
  clear hP hD hl ls
  have J4 : ∀ (n : Nat) (v2 : Int32), mX6_lastToldAhead_b4 fk z n v2 = some r → G 4 [(0, .ref (a (16 + 3 * fk))), (2, .int v2)] [] z := by
    intro n
    induction n with
    | zero =>
      intro v2 hm
      exact zz_none hm
    | succ n ih =>
      intro v2 hm
      rw [mX6_lastToldAhead_b4] at hm
      rw [hG]
      intro H locs ls hP hD hS hl
      refine lv_iload_n hx hb dX6_lastToldAhead_4 rfl (lv_at hl 1 rfl) ?_
      refine lv_if_lt (tgt := 24) hx hb dX6_lastToldAhead_5 (by decide) (fun c1 => ?_) (fun c1 => ?_)
      · replace hm := zz_pos c1 hm
        refine lv_iconst (v := (-1 : Int32)) hx hb dX6_lastToldAhead_24 (by decide) ?_
        exact zz_iret hx hb hr hlocks ⟨zz_some1 hm, rfl⟩ hP hK hD hS dX6_lastToldAhead_25
      · replace hm := zz_neg c1 hm
        refine lv_aload_n hx hb dX6_lastToldAhead_8 rfl (lv_at hl 0 rfl) ?_
        refine lv_iload_n hx hb dX6_lastToldAhead_9 rfl (lv_at hl 1 rfl) ?_
        obtain ⟨r2, h3, hm⟩ := zz_b1_some hm
        refine zz_calli (zz_runV (w := wC y a) (As := [.int v2]) (rest := []) ⟨hx, hb, hml, hown, hts⟩ (zX6_isTold l D y a H.size fk v2 hfk z h3) (cwV 1 hts gX6_lastToldAhead_X6_isTold rfl rfl rfl zdX6_isTold ⟨Nat.le_of_ble_eq_true rfl, Nat.le_of_ble_eq_true rfl⟩) hK hN hg hP hD hS hA (16 + 3 * fk) (wC_ser y a z fk hfk) rfl rfl hl.1 rfl (Nat.le_of_ble_eq_true rfl) dX6_lastToldAhead_10 ⟨Nat.le_of_ble_eq_true rfl, Nat.le_of_ble_eq_true rfl⟩) hD hS hA (fun H locs hP hD hS => ?_)
        refine lv_if_eq (tgt := 18) hx hb dX6_lastToldAhead_13 (by decide) (fun c4 => ?_) (fun c4 => ?_)
        · replace hm := zz_pos c4 hm
          obtain ⟨n5, en5⟩ : ∃ q : Int32, q = v2 + (-1 : Int32) := ⟨_, rfl⟩
          replace hm := zz_nm_some en5 hm
          refine lv_iinc (v := n5) (lv' := [(2, .int n5), (0, .ref (a (16 + 3 * fk)))]) hx hb dX6_lastToldAhead_18 hl (k := 1) rfl (by rw [en5]; rfl) (by decide) rfl (fun ls hl => ?_)
          refine lv_goto (tgt := 4) hx hb dX6_lastToldAhead_21 (by decide) ?_
          have j := ih n5 hm
          rw [hG] at j
          exact j H locs ls hP hD hS (lv_sub hl [1, 0] rfl)
        · replace hm := zz_neg c4 hm
          refine lv_iload_n hx hb dX6_lastToldAhead_16 rfl (lv_at hl 1 rfl) ?_
          exact zz_iret hx hb hr hlocks ⟨zz_some1 hm, rfl⟩ hP hK hD hS dX6_lastToldAhead_17
  rw [hG]
  intro H locs ls hP hD hS hl
  unfold mX6_lastToldAhead at hm
  refine lv_iload_n hx hb dX6_lastToldAhead_0 rfl (lv_at hl 1 rfl) ?_
  refine lv_iconst (v := (1 : Int32)) hx hb dX6_lastToldAhead_1 (by decide) ?_
  refine lv_isub hx hb dX6_lastToldAhead_2 ?_
  refine lv_topi (fun n6 en6 => ?_)
  replace hm := zz_nm_some en6 hm
  refine lv_istore_n (lv' := [(2, .int n6), (0, .ref (a (16 + 3 * fk))), (1, .int x1)]) hx hb dX6_lastToldAhead_3 rfl hl (by decide) rfl (fun ls hl => ?_)
  have j := J4 zz_N n6 hm
  rw [hG] at j
  exact j H locs ls hP hD hS (lv_sub hl [1, 0] rfl)
def mX6_pace_b16 (fk : Nat) (z : zz_M) (v1 : Int32) : Option Int32 := zz_ck (zz_in v1 24) (some (z.1 (16 + 3 * fk + 2) v1.toNatClampNeg))
def mX6_pace (fk : Nat) (x1 : Int32) (z : zz_M) : Option Int32 := zz_b1 (mX6_lastToldAhead fk x1 z) (fun r2 => if r2 = (-1 : Int32) then (mX6_pace_b16 fk z x1) else (if r2 < x1 then (zz_ck (zz_in x1 24) (zz_ck (zz_in r2 24) (zz_ck (¬ (x1 - r2) = (0 : Int32)) (some (((z.1 (16 + 3 * fk + 2) x1.toNatClampNeg) - (z.1 (16 + 3 * fk + 2) r2.toNatClampNeg)) / (x1 - r2)))))) else (mX6_pace_b16 fk z x1)))
theorem nX6_pace_X6 : ∀ w ∈ wsX60, w ∈ wsX6_pace := fun _ h => List.mem_cons_of_mem _ (List.mem_append_right _ (h))
theorem zdX6_pace : yX6_pace.cls = RX6 ∧ yX6_pace.cls ≠ "java/lang/invoke/MethodHandle" ∧ yX6_pace.cls ≠ "java/lang/invoke/VarHandle" ∧ (parseMethodDescriptor yX6_pace.desc).map (fun d => d.parameters.length) = some 1 := by decide +kernel
set_option maxHeartbeats 4000000 in
set_option maxRecDepth 100000 in
theorem zX6_pace (l : Launch) (D : va_G) (y : Nat → ClassId) (a : Nat → Nat) (sz : Nat) (fk : Nat) (x1 : Int32) (hfk : fk < 12) (z : zz_M) {r : Int32} (hm : mX6_pace fk x1 z = some r) : Met l yX6_pace wsX6_pace { frames := 2, cells := 0, slots := 0, locals := 43 } (zz_Pc D y (wC y a z) sz [.ref (a (16 + 3 * fk)), .int x1]) (zz_Qi D y (wC y a) (va_A (wC y a z) sz) r z) 0 0 (va_A (wC y a z) sz) := by
  refine Met.ofW (cc := cX6_pace) (maxL := 3) (ret := (some .int)) (by decide) rfl ?_
  intro p e s m args below meth c s₁ B hml hv
  obtain ⟨rfl, hsz, hP, hK, hD0, hN, hg⟩ := hv
  have hx := B.exec
  have hb := B.bytes
  have hr := B.returns
  have hts := atoms_spec (ws := wsX6_pace) B.pre
  have hown : s.vm.findClass RX6 = some m.cls := findClass_of_methodNamed B.named
  have hlocks := B.notSynchronized
  clear B
  subst hsz
  have hD := hD0.self (sz := s.heap.size)
  generalize hAe : va_A (wC y a z) s.heap.size = A at hD hg ⊢
  have hA : ∀ q : Nat, s.heap.size ≤ q → A q := fun q h => by rw [← hAe]; exact Or.inr h
  clear hAe hD0
  have hl := lv_entry ([.ref (a (16 + 3 * fk)), .int x1]) (n := 3) (Nat.le_of_ble_eq_true rfl)
  rw [lg_entry_eq]
  generalize (lg_sl ([.ref (a (16 + 3 * fk)), .int x1]) ++ List.replicate (3 - (lg_sl ([.ref (a (16 + 3 * fk)), .int x1])).length) Slot.unset).toArray = ls at hl ⊢
  replace hl : lv_has ls 3 [(0, .ref (a (16 + 3 * fk))), (1, .int x1)] := hl
  refine zz_go (w := wC y a) hP hD va_S.rf hl (fun G hG => ?_)
  clear hP hD hl ls
  have J16 : ∀ (v1 : Int32), mX6_pace_b16 fk z v1 = some r → G 16 [(0, .ref (a (16 + 3 * fk))), (1, .int v1)] [] z := by
    intro v1 hm
    rw [mX6_pace_b16] at hm
    rw [hG]
    intro H locs ls hP hD hS hl
    refine lv_aload_n hx hb dX6_pace_16 rfl (lv_at hl 0 rfl) ?_
    refine va_get (D := D) (ci := 6) (v := .ref (a (16 + 3 * fk + 2))) (C := RX6) (T := TX6) (N := 3) hx hb hts nX6_pace_X6 hown hK hP (16 + 3 * fk) (wC_ser y a z fk hfk) rfl 1 (by decide) (hts (.fieldLink RX6 15 "WorksDesk$Series" "standing" "[I") (List.mem_of_getElem? (i := 1) rfl)) (fun _ h9 => h9) rfl dX6_pace_17 ?_
    refine lv_iload_n hx hb dX6_pace_20 rfl (lv_at hl 1 rfl) ?_
    obtain ⟨c1, hm⟩ := zz_ck_some hm
    refine va_iald hx hb hK hP (16 + 3 * fk + 2) 0 (wC_serA2 y a z fk hfk) rfl c1 dX6_pace_21 ?_
    exact zz_iret hx hb hr hlocks ⟨zz_some1 hm, rfl⟩ hP hK hD hS dX6_pace_22
  rw [hG]
  intro H locs ls hP hD hS hl
  unfold mX6_pace at hm
  refine lv_aload_n hx hb dX6_pace_0 rfl (lv_at hl 0 rfl) ?_
  refine lv_iload_n hx hb dX6_pace_1 rfl (lv_at hl 1 rfl) ?_
  obtain ⟨r2, h3, hm⟩ := zz_b1_some hm
  refine zz_calli (zz_runV (w := wC y a) (As := [.int x1]) (rest := []) ⟨hx, hb, hml, hown, hts⟩ (zX6_lastToldAhead l D y a H.size fk x1 hfk z h3) (cwV 1 hts gX6_pace_X6_lastToldAhead rfl rfl rfl zdX6_lastToldAhead ⟨Nat.le_of_ble_eq_true rfl, Nat.le_of_ble_eq_true rfl⟩) hK hN hg hP hD hS hA (16 + 3 * fk) (wC_ser y a z fk hfk) rfl rfl hl.1 rfl (Nat.le_of_ble_eq_true rfl) dX6_pace_2 ⟨Nat.le_of_ble_eq_true rfl, Nat.le_of_ble_eq_true rfl⟩) hD hS hA (fun H locs hP hD hS => ?_)
  refine lv_istore_n (lv' := [(2, .int r2), (0, .ref (a (16 + 3 * fk))), (1, .int x1)]) hx hb dX6_pace_5 rfl hl (by decide) rfl (fun ls hl => ?_)
  refine lv_iload_n hx hb dX6_pace_6 rfl (lv_at hl 0 rfl) ?_
  refine lv_iconst (v := (-1 : Int32)) hx hb dX6_pace_7 (by decide) ?_
  refine lv_icmp_eq (tgt := 16) hx hb dX6_pace_8 (by decide) (fun c4 => ?_) (fun c4 => ?_)
  · replace hm := zz_pos c4 hm
    have j := J16 x1 hm
    rw [hG] at j
    exact j H locs ls hP hD hS (lv_sub hl [1, 2] rfl)
  · replace hm := zz_neg c4 hm
    refine lv_iload_n hx hb dX6_pace_11 rfl (lv_at hl 0 rfl) ?_
    refine lv_iload_n hx hb dX6_pace_12 rfl (lv_at hl 2 rfl) ?_
    refine lv_icmp_lt (tgt := 23) hx hb dX6_pace_13 (by decide) (fun c5 => ?_) (fun c5 => ?_)
    · replace hm := zz_pos c5 hm
      refine lv_aload_n hx hb dX6_pace_23 rfl (lv_at hl 1 rfl) ?_
      refine va_get (D := D) (ci := 6) (v := .ref (a (16 + 3 * fk + 2))) (C := RX6) (T := TX6) (N := 3) hx hb hts nX6_pace_X6 hown hK hP (16 + 3 * fk) (wC_ser y a z fk hfk) rfl 1 (by decide) (hts (.fieldLink RX6 15 "WorksDesk$Series" "standing" "[I") (List.mem_of_getElem? (i := 1) rfl)) (fun _ h9 => h9) rfl dX6_pace_24 ?_
      refine lv_iload_n hx hb dX6_pace_27 rfl (lv_at hl 2 rfl) ?_
      obtain ⟨c6, hm⟩ := zz_ck_some hm
      refine va_iald hx hb hK hP (16 + 3 * fk + 2) 0 (wC_serA2 y a z fk hfk) rfl c6 dX6_pace_28 ?_
      refine lv_aload_n hx hb dX6_pace_29 rfl (lv_at hl 1 rfl) ?_
      refine va_get (D := D) (ci := 6) (v := .ref (a (16 + 3 * fk + 2))) (C := RX6) (T := TX6) (N := 3) hx hb hts nX6_pace_X6 hown hK hP (16 + 3 * fk) (wC_ser y a z fk hfk) rfl 1 (by decide) (hts (.fieldLink RX6 15 "WorksDesk$Series" "standing" "[I") (List.mem_of_getElem? (i := 1) rfl)) (fun _ h9 => h9) rfl dX6_pace_30 ?_
      refine lv_iload_n hx hb dX6_pace_33 rfl (lv_at hl 0 rfl) ?_
      obtain ⟨c7, hm⟩ := zz_ck_some hm
      refine va_iald hx hb hK hP (16 + 3 * fk + 2) 0 (wC_serA2 y a z fk hfk) rfl c7 dX6_pace_34 ?_
      refine lv_isub hx hb dX6_pace_35 ?_
      refine lv_iload_n hx hb dX6_pace_36 rfl (lv_at hl 2 rfl) ?_
      refine lv_iload_n hx hb dX6_pace_37 rfl (lv_at hl 0 rfl) ?_
      refine lv_isub hx hb dX6_pace_38 ?_
      obtain ⟨c8, hm⟩ := zz_ck_some hm
      refine lv_idiv hx hb dX6_pace_39 c8 ?_
      exact zz_iret hx hb hr hlocks ⟨zz_some1 hm, rfl⟩ hP hK hD hS dX6_pace_40
    · replace hm := zz_neg c5 hm
      have j := J16 x1 hm
      rw [hG] at j
      exact j H locs ls hP hD hS (lv_sub hl [1, 2] rfl)
