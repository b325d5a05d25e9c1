def mX2_damages (x1 : Int32) (z : zz_M) : Option Int64 := zz_b1 (mX2_lateMonths x1 z) (fun r1 => zz_b1 (mX8_of (11 : Int32) z) (fun r3 => zz_b1 (mX10_thousandths r3 ((z.2.2.1 580).toInt64)) (fun r5 => zz_nm (r1.toInt64 * r5) (fun n7 => zz_b1 (mX2_mostDamages z) (fun r8 => some (if r8 < n7 then r8 else n7))))))
theorem nX2_damages_X0 : ∀ w ∈ wsX00, w ∈ wsX2_damages := fun _ h => List.mem_cons_of_mem _ (List.mem_append_left _ (List.mem_append_right _ (h)))
theorem nX2_damages_X2 : ∀ w ∈ wsX20, w ∈ wsX2_damages := fun _ h => List.mem_cons_of_mem _ (List.mem_append_left _ (List.mem_append_left _ (List.mem_append_right _ (h))))
theorem zdX2_damages : yX2_damages.cls = RX2 ∧ yX2_damages.cls ≠ "java/lang/invoke/MethodHandle" ∧ yX2_damages.cls ≠ "java/lang/invoke/VarHandle" ∧ (parseMethodDescriptor yX2_damages.desc).map (fun d => d.parameters.length) = some 1 := by decide +kernel
set_option maxHeartbeats 4000000 in
set_option maxRecDepth 100000 in
theorem zX2_damages (l : Launch) (D : va_G) (y : Nat → ClassId) (a : Nat → Nat) (sz : Nat) (x1 : Int32) (z : zz_M) {r : Int64} (hm : mX2_damages x1 z = some r) : Met l yX2_damages wsX2_damages { frames := 2, cells := 0, slots := 0, locals := 45 } (zz_Pc D y (wC y a z) sz [.ref (a 8), .int x1]) (zz_Ql D y (wC y a) (va_A (wC y a z) sz) r z) 0 0 (va_A (wC y a z) sz) := by
  refine Met.ofW (cc := cX2_damages) (maxL := 4) (ret := (some .long)) (by decide) rfl ?_
  intro p e s m args below meth c s₁ B hml hv
  obtain ⟨rfl, hsz, hP, hK, hD0, hN, hg⟩ := hv
  have hx := B.exec
  have hb := B.bytes
  have hr := B.returns
  have hts := atoms_spec (ws := wsX2_damages) B.pre
  have hown : s.vm.findClass RX2 = some m.cls := findClass_of_methodNamed B.named
  have hlocks := B.notSynchronized
  clear B
  subst hsz
  have hD := hD0.self (sz := s.heap.size)
  generalize hAe : va_A (wC y a z) s.heap.size = A at hD hg ⊢
  have hA : ∀ q : Nat, s.heap.size ≤ q → A q := fun q h => by rw [← hAe]; exact Or.inr h
  clear hAe hD0
  have hl := lv_entry ([.ref (a 8), .int x1]) (n := 4) (Nat.le_of_ble_eq_true rfl)
  rw [lg_entry_eq]
  generalize (lg_sl ([.ref (a 8), .int x1]) ++ List.replicate (4 - (lg_sl ([.ref (a 8), .int x1])).length) Slot.unset).toArray = ls at hl ⊢
  replace hl : lv_has ls 4 [(0, .ref (a 8)), (1, .int x1)] := hl
  refine zz_go (w := wC y a) hP hD va_S.rf hl (fun G hG => ?_)
  clear hP hD hl ls
  rw [hG]
  intro H locs ls hP hD hS hl
  unfold mX2_damages at hm
  refine lv_aload_n hx hb dX2_damages_0 rfl (lv_at hl 0 rfl) ?_
  refine lv_iload_n hx hb dX2_damages_1 rfl (lv_at hl 1 rfl) ?_
  obtain ⟨r1, h2, hm⟩ := zz_b1_some hm
  refine zz_calli (zz_runV (w := wC y a) (As := [.int x1]) (rest := []) ⟨hx, hb, hml, hown, hts⟩ (zX2_lateMonths l D y a H.size x1 z h2) (cwV 1 hts gX2_damages_X2_lateMonths rfl rfl rfl zdX2_lateMonths ⟨Nat.le_of_ble_eq_true rfl, Nat.le_of_ble_eq_true rfl⟩) hK hN hg hP hD hS hA 8 (wC_8 y a z) rfl rfl hl.1 rfl (Nat.le_of_ble_eq_true rfl) dX2_damages_2 ⟨Nat.le_of_ble_eq_true rfl, Nat.le_of_ble_eq_true rfl⟩) hD hS hA (fun H locs hP hD hS => ?_)
  refine lv_i2l hx hb dX2_damages_5 rfl ?_
  refine lv_aload_n hx hb dX2_damages_6 rfl (lv_at hl 0 rfl) ?_
  refine va_get (D := D) (ci := 2) (v := .ref (a 13)) (C := RX2) (T := TX2) (N := 12) hx hb hts nX2_damages_X2 hown hK hP 8 (wC_8 y a z) rfl 1 (by decide) (hts (.fieldLink RX2 21 "WorksDesk$Book" "clauses" "LWorksDesk$Terms;") (List.mem_of_getElem? (i := 1) rfl)) (fun _ h9 => h9) rfl dX2_damages_7 ?_
  refine lv_bipush (v := (11 : Int32)) hx hb dX2_damages_10 (by decide) ?_
  obtain ⟨r3, h4, hm⟩ := zz_b1_some hm
  refine zz_calli (zz_runV (w := wC y a) (As := [.int (11 : Int32)]) (rest := [.long r1.toInt64]) ⟨hx, hb, hml, hown, hts⟩ (zX8_of l D y a H.size (11 : Int32) z h4) (cwV 1 hts gX2_damages_X8_of rfl rfl rfl zdX8_of ⟨Nat.le_of_ble_eq_true rfl, Nat.le_of_ble_eq_true rfl⟩) hK hN hg hP hD hS hA 13 (wC_13 y a z) rfl rfl hl.1 rfl (Nat.le_of_ble_eq_true rfl) dX2_damages_12 ⟨Nat.le_of_ble_eq_true rfl, Nat.le_of_ble_eq_true rfl⟩) hD hS hA (fun H locs hP hD hS => ?_)
  refine lv_aload_n hx hb dX2_damages_15 rfl (lv_at hl 0 rfl) ?_
  refine va_get (D := D) (ci := 2) (v := .ref (a 9)) (C := RX2) (T := TX2) (N := 12) hx hb hts nX2_damages_X2 hown hK hP 8 (wC_8 y a z) rfl 0 (by decide) (hts (.fieldLink RX2 12 "WorksDesk$Book" "items" "LWorksDesk$Bill;") (List.mem_of_getElem? (i := 2) rfl)) (fun _ h9 => h9) rfl dX2_damages_16 ?_
  refine va_get (D := D) (ci := 0) (v := .int (z.2.2.1 580)) (C := RX0) (T := TX0) (N := 5) hx hb hts nX2_damages_X0 hown hK hP 9 (wC_bill y a z 9 (Or.inr rfl)) rfl 4 (by decide) (hts (.fieldLink RX2 101 "WorksDesk$Bill" "total" "I") (List.mem_of_getElem? (i := 3) rfl)) (fun _ h9 => h9) rfl dX2_damages_19 ?_
  refine lv_i2l hx hb dX2_damages_22 rfl ?_
  obtain ⟨r5, h6, hm⟩ := zz_b1_some hm
  refine zz_calll (zz_runSN (w := wC y a) (As := [.int r3, .long ((z.2.2.1 580).toInt64)]) (rest := [.long r1.toInt64]) ⟨hx, hb, hml, hown, hts⟩ (zX10_thousandths l D y a H.size r3 ((z.2.2.1 580).toInt64) z h6) ⟨va_cnB 2 hts gX2_damages_X10_thousandths_n104 rfl rfl rfl (hN _ (List.mem_of_getElem? (i := 7) rfl)) (hts (.initialized RX10) (List.mem_of_getElem? (i := 29) rfl)) zdX10_thousandths ⟨Nat.le_of_ble_eq_true rfl, Nat.le_of_ble_eq_true rfl⟩, (hts (.static yX10_thousandths) (List.mem_of_getElem? (i := 28) rfl)), trivial⟩ hK hN hg hP hD hS hA rfl hl.1 rfl (Nat.le_of_ble_eq_true rfl) dX2_damages_23 ⟨Nat.le_of_ble_eq_true rfl, Nat.le_of_ble_eq_true rfl⟩) hD hS hA (fun H locs hP hD hS => ?_)
  refine lv_lmul hx hb dX2_damages_26 ?_
  refine lv_topl (fun n7 en7 => ?_)
  replace hm := zz_nm_some en7 hm
  refine lv_lstore_n (lv' := [(2, .long n7), (0, .ref (a 8)), (1, .int x1)]) hx hb dX2_damages_27 rfl hl (by decide) rfl (fun ls hl => ?_)
  refine lv_lload_n hx hb dX2_damages_28 rfl (lv_at hl 0 rfl) ?_
  refine lv_aload_n hx hb dX2_damages_29 rfl (lv_at hl 1 rfl) ?_
  obtain ⟨r8, h9, hm⟩ := zz_b1_some hm
  refine zz_calll (zz_runV (w := wC y a) (As := []) (rest := [.long n7]) ⟨hx, hb, hml, hown, hts⟩ (zX2_mostDamages l D y a H.size z h9) (cwV 0 hts gX2_damages_X2_mostDamages rfl rfl rfl zdX2_mostDamages ⟨Nat.le_of_ble_eq_true rfl, Nat.le_of_ble_eq_true rfl⟩) hK hN hg hP hD hS hA 8 (wC_8 y a z) rfl rfl hl.1 rfl (Nat.le_of_ble_eq_true rfl) dX2_damages_30 ⟨Nat.le_of_ble_eq_true rfl, Nat.le_of_ble_eq_true rfl⟩) hD hS hA (fun H locs hP hD hS => ?_)
  refine va_mmin_long hx hb (hml.trans hl.1.symm) hown (hts (.methodLink RX2 137 Lib.MathLoose.min_long.x) (List.mem_of_getElem? (i := 4) rfl)) (hts (.static Lib.MathLoose.min_long.x) (List.mem_of_getElem? (i := 5) rfl)) (hts (.initialized "java/lang/Math") (List.mem_of_getElem? (i := 6) rfl)) (hts (.code Lib.MathLoose.min_long.x Lib.MathLoose.min_long.code 4 (some .long)) (List.mem_of_getElem? (i := 7) rfl)) (Nat.le_of_ble_eq_true rfl) (Nat.le_of_ble_eq_true rfl) (Nat.le_of_ble_eq_true rfl) (Nat.le_of_ble_eq_true rfl) dX2_damages_33 ?_
  exact zz_lret hx hb hr hlocks ⟨zz_some1 hm, rfl⟩ hP hK hD hS dX2_damages_36
def mX2_materials_b33 (z : zz_M) (t0 : Int64) : Option Int64 := some t0
def mX2_materials (x1 : Int32) (z : zz_M) : Option Int64 := if x1 < (z.2.2.1 520) then (zz_b1 (mX8_of (6 : Int32) z) (fun r2 => zz_b1 (mX6_latest 10 x1 z) (fun r4 => zz_b1 (mX10_thousandths r2 r4.toInt64) (fun r6 => mX2_materials_b33 z r6)))) else (mX2_materials_b33 z (0 : Int64))
theorem nX2_materials_X2 : ∀ w ∈ wsX20, w ∈ wsX2_materials := fun _ h => List.mem_cons_of_mem _ (List.mem_append_left _ (List.mem_append_left _ (List.mem_append_right _ (h))))
theorem zdX2_materials : yX2_materials.cls = RX2 ∧ yX2_materials.cls ≠ "java/lang/invoke/MethodHandle" ∧ yX2_materials.cls ≠ "java/lang/invoke/VarHandle" ∧ (parseMethodDescriptor yX2_materials.desc).map (fun d => d.parameters.length) = some 1 := by decide +kernel
set_option maxHeartbeats 4000000 in
set_option maxRecDepth 100000 in
theorem zX2_materials (l : Launch) (D : va_G) (y : Nat → ClassId) (a : Nat → Nat) (sz : Nat) (x1 : Int32) (z : zz_M) {r : Int64} (hm : mX2_materials x1 z = some r) : Met l yX2_materials wsX2_materials { frames := 1, cells := 0, slots := 0, locals := 22 } (zz_Pc D y (wC y a z) sz [.ref (a 8), .int x1]) (zz_Ql D y (wC y a) (va_A (wC y a z) sz) r z) 0 0 (va_A (wC y a z) sz) := by
  refine Met.ofW (cc := cX2_materials) (maxL := 2) (ret := (some .long)) (by decide) rfl ?_
  intro p e s m args below meth c s₁ B hml hv
  obtain ⟨rfl, hsz, hP, hK, hD0, hN, hg⟩ := hv
  have hx := B.exec
  have hb := B.bytes
  have hr := B.returns
  have hts := atoms_spec (ws := wsX2_materials) B.pre
  have hown : s.vm.findClass RX2 = some m.cls := findClass_of_methodNamed B.named
  have hlocks := B.notSynchronized
  clear B
  subst hsz
  have hD := hD0.self (sz := s.heap.size)
  generalize hAe : va_A (wC y a z) s.heap.size = A at hD hg ⊢
  have hA : ∀ q : Nat, s.heap.size ≤ q → A q := fun q h => by rw [← hAe]; exact Or.inr h
  clear hAe hD0
  have hl := lv_entry ([.ref (a 8), .int x1]) (n := 2) (Nat.le_of_ble_eq_true rfl)
  rw [lg_entry_eq]
  generalize (lg_sl ([.ref (a 8), .int x1]) ++ List.replicate (2 - (lg_sl ([.ref (a 8), .int x1])).length) Slot.unset).toArray = ls at hl ⊢
  replace hl : lv_has ls 2 [(0, .ref (a 8)), (1, .int x1)] := hl
  refine zz_go (w := wC y a) hP hD va_S.rf hl (fun G hG => ?_)
  clear hP hD hl ls
  have J33 : ∀ (t0 : Int64), mX2_materials_b33 z t0 = some r → G 33 [] [.long t0] z := by
    intro t0 hm
    rw [mX2_materials_b33] at hm
    rw [hG]
    intro H locs ls hP hD hS hl
    exact zz_lret hx hb hr hlocks ⟨zz_some1 hm, rfl⟩ hP hK hD hS dX2_materials_33
  rw [hG]
  intro H locs ls hP hD hS hl
  unfold mX2_materials at hm
  refine lv_iload_n hx hb dX2_materials_0 rfl (lv_at hl 1 rfl) ?_
  refine lv_aload_n hx hb dX2_materials_1 rfl (lv_at hl 0 rfl) ?_
  refine va_get (D := D) (ci := 2) (v := .int (z.2.2.1 520)) (C := RX2) (T := TX2) (N := 12) hx hb hts nX2_materials_X2 hown hK hP 8 (wC_8 y a z) rfl 8 (by decide) (hts (.fieldLink RX2 59 "WorksDesk$Book" "handedOver" "I") (List.mem_of_getElem? (i := 1) rfl)) (fun _ h9 => h9) rfl dX2_materials_2 ?_
  refine lv_icmp_lt (tgt := 12) hx hb dX2_materials_5 (by decide) (fun c1 => ?_) (fun c1 => ?_)
  · replace hm := zz_pos c1 hm
    refine lv_aload_n hx hb dX2_materials_12 rfl (lv_at hl 0 rfl) ?_
    refine va_get (D := D) (ci := 2) (v := .ref (a 13)) (C := RX2) (T := TX2) (N := 12) hx hb hts nX2_materials_X2 hown hK hP 8 (wC_8 y a z) rfl 1 (by decide) (hts (.fieldLink RX2 21 "WorksDesk$Book" "clauses" "LWorksDesk$Terms;") (List.mem_of_getElem? (i := 2) rfl)) (fun _ h9 => h9) rfl dX2_materials_13 ?_
    refine lv_bipush (v := (6 : Int32)) hx hb dX2_materials_16 (by decide) ?_
    obtain ⟨r2, h3, hm⟩ := zz_b1_some hm
    refine zz_calli (zz_runV (w := wC y a) (As := [.int (6 : Int32)]) (rest := []) ⟨hx, hb, hml, hown, hts⟩ (zX8_of l D y a H.size (6 : Int32) z h3) (cwV 1 hts gX2_materials_X8_of rfl rfl rfl zdX8_of ⟨Nat.le_of_ble_eq_true rfl, Nat.le_of_ble_eq_true rfl⟩) hK hN hg hP hD hS hA 13 (wC_13 y a z) rfl rfl hl.1 rfl (Nat.le_of_ble_eq_true rfl) dX2_materials_18 ⟨Nat.le_of_ble_eq_true rfl, Nat.le_of_ble_eq_true rfl⟩) hD hS hA (fun H locs hP hD hS => ?_)
    refine lv_aload_n hx hb dX2_materials_21 rfl (lv_at hl 0 rfl) ?_
    refine va_get (D := D) (ci := 2) (v := .ref (a 46)) (C := RX2) (T := TX2) (N := 12) hx hb hts nX2_materials_X2 hown hK hP 8 (wC_8 y a z) rfl 3 (by decide) (hts (.fieldLink RX2 34 "WorksDesk$Book" "stored" "LWorksDesk$Series;") (List.mem_of_getElem? (i := 3) rfl)) (fun _ h9 => h9) rfl dX2_materials_22 ?_
    refine lv_iload_n hx hb dX2_materials_25 rfl (lv_at hl 1 rfl) ?_
    obtain ⟨r4, h5, hm⟩ := zz_b1_some hm
    refine zz_calli (zz_runV (w := wC y a) (As := [.int x1]) (rest := [.int r2]) ⟨hx, hb, hml, hown, hts⟩ (zX6_latest l D y a H.size 10 x1 (by decide) z h5) (cwV 1 hts gX2_materials_X6_latest rfl rfl rfl zdX6_latest ⟨Nat.le_of_ble_eq_true rfl, Nat.le_of_ble_eq_true rfl⟩) hK hN hg hP hD hS hA 46 (wC_ser y a z 10 (by decide)) rfl rfl hl.1 rfl (Nat.le_of_ble_eq_true rfl) dX2_materials_26 ⟨Nat.le_of_ble_eq_true rfl, Nat.le_of_ble_eq_true rfl⟩) hD hS hA (fun H locs hP hD hS => ?_)
    refine lv_i2l hx hb dX2_materials_29 rfl ?_
    obtain ⟨r6, h7, hm⟩ := zz_b1_some hm
    refine zz_calll (zz_runSN (w := wC y a) (As := [.int r2, .long r4.toInt64]) (rest := []) ⟨hx, hb, hml, hown, hts⟩ (zX10_thousandths l D y a H.size r2 r4.toInt64 z h7) ⟨va_cnB 2 hts gX2_materials_X10_thousandths_n104 rfl rfl rfl (hN _ (List.mem_of_getElem? (i := 7) rfl)) (hts (.initialized RX10) (List.mem_of_getElem? (i := 17) rfl)) zdX10_thousandths ⟨Nat.le_of_ble_eq_true rfl, Nat.le_of_ble_eq_true rfl⟩, (hts (.static yX10_thousandths) (List.mem_of_getElem? (i := 16) rfl)), trivial⟩ hK hN hg hP hD hS hA rfl hl.1 rfl (Nat.le_of_ble_eq_true rfl) dX2_materials_30 ⟨Nat.le_of_ble_eq_true rfl, Nat.le_of_ble_eq_true rfl⟩) hD hS hA (fun H locs hP hD hS => ?_)
    have j := J33 r6 hm
    rw [hG] at j
    exact j H locs ls hP hD hS (lv_sub hl [] rfl)
  · replace hm := zz_neg c1 hm
    refine lv_lconst (v := (0 : Int64)) hx hb dX2_materials_8 (by decide) ?_
    refine lv_goto (tgt := 33) hx hb dX2_materials_9 (by decide) ?_
    have j := J33 (0 : Int64) hm
    rw [hG] at j
    exact j H locs ls hP hD hS (lv_sub hl [] rfl)
def mX2_recoveredFor (x1 : Int64) (x3 : Int64) (x5 : Int32) (z : zz_M) : Option Int64 := zz_b1 (mX2_advanced z) (fun r1 => if x5 < (z.2.2.1 521) then (zz_b1 (mX8_of (4 : Int32) z) (fun r4 => zz_b1 (mX10_thousandths r4 ((z.2.2.1 580).toInt64)) (fun r6 => zz_nm (if (x1 - r6) < (0 : Int64) then (0 : Int64) else (x1 - r6)) (fun n8 => zz_b1 (mX8_of (5 : Int32) z) (fun r9 => zz_b1 (mX10_thousandths r9 n8) (fun r11 => some (if (if r11 < r1 then r11 else r1) < x3 then x3 else (if r11 < r1 then r11 else r1)))))))) else (some r1))
theorem nX2_recoveredFor_X0 : ∀ w ∈ wsX00, w ∈ wsX2_recoveredFor := fun _ h => List.mem_cons_of_mem _ (List.mem_append_left _ (List.mem_append_right _ (h)))
theorem nX2_recoveredFor_X2 : ∀ w ∈ wsX20, w ∈ wsX2_recoveredFor := fun _ h => List.mem_cons_of_mem _ (List.mem_append_left _ (List.mem_append_left _ (List.mem_append_right _ (h))))
theorem zdX2_recoveredFor : yX2_recoveredFor.cls = RX2 ∧ yX2_recoveredFor.cls ≠ "java/lang/invoke/MethodHandle" ∧ yX2_recoveredFor.cls ≠ "java/lang/invoke/VarHandle" ∧ (parseMethodDescriptor yX2_recoveredFor.desc).map (fun d => d.parameters.length) = some 3 := by decide +kernel
set_option maxHeartbeats 4000000 in
set_option maxRecDepth 100000 in
theorem zX2_recoveredFor (l : Launch) (D : va_G) (y : Nat → ClassId) (a : Nat → Nat) (sz : Nat) (x1 : Int64) (x3 : Int64) (x5 : Int32) (z : zz_M) {r : Int64} (hm : mX2_recoveredFor x1 x3 x5 z = some r) : Met l yX2_recoveredFor wsX2_recoveredFor { frames := 2, cells := 0, slots := 0, locals := 42 } (zz_Pc D y (wC y a z) sz [.ref (a 8), .long x1, .long x3, .int x5]) (zz_Ql D y (wC y a) (va_A (wC y a z) sz) r z) 0 0 (va_A (wC y a z) sz) := by
  refine Met.ofW (cc := cX2_recoveredFor) (maxL := 10) (ret := (some .long)) (by decide) rfl ?_
  intro p e s m args below meth c s₁ B hml hv
  obtain ⟨rfl, hsz, hP, hK, hD0, hN, hg⟩ := hv
  have hx := B.exec
  have hb := B.bytes
  have hr := B.returns
  have hts := atoms_spec (ws := wsX2_recoveredFor) B.pre
  have hown : s.vm.findClass RX2 = some m.cls := findClass_of_methodNamed B.named
  have hlocks := B.notSynchronized
  clear B
  subst hsz
  have hD := hD0.self (sz := s.heap.size)
  generalize hAe : va_A (wC y a z) s.heap.size = A at hD hg ⊢
  have hA : ∀ q : Nat, s.heap.size ≤ q → A q := fun q h => by rw [← hAe]; exact Or.inr h
  clear hAe hD0
  have hl := lv_entry ([.ref (a 8), .long x1, .long x3, .int x5]) (n := 10) (Nat.le_of_ble_eq_true rfl)
  rw [lg_entry_eq]
  generalize (lg_sl ([.ref (a 8), .long x1, .long x3, .int x5]) ++ List.replicate (10 - (lg_sl ([.ref (a 8), .long x1, .long x3, .int x5])).length) Slot.unset).toArray = ls at hl ⊢
  replace hl : lv_has ls 10 [(0, .ref (a 8)), (1, .long x1), (3, .long x3), (5, .int x5)] := hl
  refine zz_go (w := wC y a) hP hD va_S.rf hl (fun G hG => ?_)
  clear hP hD hl ls
  rw [hG]
  intro H locs ls hP hD hS hl
  unfold mX2_recoveredFor at hm
  refine lv_aload_n hx hb dX2_recoveredFor_0 rfl (lv_at hl 0 rfl) ?_
  obtain ⟨r1, h2, hm⟩ := zz_b1_some hm
  refine zz_calll (zz_runV (w := wC y a) (As := []) (rest := []) ⟨hx, hb, hml, hown, hts⟩ (zX2_advanced l D y a H.size z h2) (cwV 0 hts gX2_recoveredFor_X2_advanced rfl rfl rfl zdX2_advanced ⟨Nat.le_of_ble_eq_true rfl, Nat.le_of_ble_eq_true rfl⟩) hK hN hg hP hD hS hA 8 (wC_8 y a z) rfl rfl hl.1 rfl (Nat.le_of_ble_eq_true rfl) dX2_recoveredFor_1 ⟨Nat.le_of_ble_eq_true rfl, Nat.le_of_ble_eq_true rfl⟩) hD hS hA (fun H locs hP hD hS => ?_)
  refine lv_lstore (lv' := [(6, .long r1), (0, .ref (a 8)), (1, .long x1), (3, .long x3), (5, .int x5)]) hx hb dX2_recoveredFor_4 hl (by decide) rfl (fun ls hl => ?_)
  refine lv_iload hx hb dX2_recoveredFor_6 (lv_at hl 4 rfl) ?_
  refine lv_aload_n hx hb dX2_recoveredFor_8 rfl (lv_at hl 1 rfl) ?_
  refine va_get (D := D) (ci := 2) (v := .int (z.2.2.1 521)) (C := RX2) (T := TX2) (N := 12) hx hb hts nX2_recoveredFor_X2 hown hK hP 8 (wC_8 y a z) rfl 9 (by decide) (hts (.fieldLink RX2 63 "WorksDesk$Book" "closed" "I") (List.mem_of_getElem? (i := 1) rfl)) (fun _ h9 => h9) rfl dX2_recoveredFor_9 ?_
  refine lv_icmp_lt (tgt := 18) hx hb dX2_recoveredFor_12 (by decide) (fun c3 => ?_) (fun c3 => ?_)
  · replace hm := zz_pos c3 hm
    refine lv_lconst (v := (0 : Int64)) hx hb dX2_recoveredFor_18 (by decide) ?_
    refine lv_lload_n hx hb dX2_recoveredFor_19 rfl (lv_at hl 2 rfl) ?_
    refine lv_aload_n hx hb dX2_recoveredFor_20 rfl (lv_at hl 1 rfl) ?_
    refine va_get (D := D) (ci := 2) (v := .ref (a 13)) (C := RX2) (T := TX2) (N := 12) hx hb hts nX2_recoveredFor_X2 hown hK hP 8 (wC_8 y a z) rfl 1 (by decide) (hts (.fieldLink RX2 21 "WorksDesk$Book" "clauses" "LWorksDesk$Terms;") (List.mem_of_getElem? (i := 2) rfl)) (fun _ h9 => h9) rfl dX2_recoveredFor_21 ?_
    refine lv_iconst (v := (4 : Int32)) hx hb dX2_recoveredFor_24 (by decide) ?_
    obtain ⟨r4, h5, hm⟩ := zz_b1_some hm
    refine zz_calli (zz_runV (w := wC y a) (As := [.int (4 : Int32)]) (rest := [.long x1, .long (0 : Int64)]) ⟨hx, hb, hml, hown, hts⟩ (zX8_of l D y a H.size (4 : Int32) z h5) (cwV 1 hts gX2_recoveredFor_X8_of rfl rfl rfl zdX8_of ⟨Nat.le_of_ble_eq_true rfl, Nat.le_of_ble_eq_true rfl⟩) hK hN hg hP hD hS hA 13 (wC_13 y a z) rfl rfl hl.1 rfl (Nat.le_of_ble_eq_true rfl) dX2_recoveredFor_25 ⟨Nat.le_of_ble_eq_true rfl, Nat.le_of_ble_eq_true rfl⟩) hD hS hA (fun H locs hP hD hS => ?_)
    refine lv_aload_n hx hb dX2_recoveredFor_28 rfl (lv_at hl 1 rfl) ?_
    refine va_get (D := D) (ci := 2) (v := .ref (a 9)) (C := RX2) (T := TX2) (N := 12) hx hb hts nX2_recoveredFor_X2 hown hK hP 8 (wC_8 y a z) rfl 0 (by decide) (hts (.fieldLink RX2 12 "WorksDesk$Book" "items" "LWorksDesk$Bill;") (List.mem_of_getElem? (i := 3) rfl)) (fun _ h9 => h9) rfl dX2_recoveredFor_29 ?_
    refine va_get (D := D) (ci := 0) (v := .int (z.2.2.1 580)) (C := RX0) (T := TX0) (N := 5) hx hb hts nX2_recoveredFor_X0 hown hK hP 9 (wC_bill y a z 9 (Or.inr rfl)) rfl 4 (by decide) (hts (.fieldLink RX2 101 "WorksDesk$Bill" "total" "I") (List.mem_of_getElem? (i := 4) rfl)) (fun _ h9 => h9) rfl dX2_recoveredFor_32 ?_
    refine lv_i2l hx hb dX2_recoveredFor_35 rfl ?_
    obtain ⟨r6, h7, hm⟩ := zz_b1_some hm
    refine zz_calll (zz_runSN (w := wC y a) (As := [.int r4, .long ((z.2.2.1 580).toInt64)]) (rest := [.long x1, .long (0 : Int64)]) ⟨hx, hb, hml, hown, hts⟩ (zX10_thousandths l D y a H.size r4 ((z.2.2.1 580).toInt64) z h7) ⟨va_cnB 2 hts gX2_recoveredFor_X10_thousandths_n104 rfl rfl rfl (hN _ (List.mem_of_getElem? (i := 7) rfl)) (hts (.initialized RX10) (List.mem_of_getElem? (i := 24) rfl)) zdX10_thousandths ⟨Nat.le_of_ble_eq_true rfl, Nat.le_of_ble_eq_true rfl⟩, (hts (.static yX10_thousandths) (List.mem_of_getElem? (i := 23) rfl)), trivial⟩ hK hN hg hP hD hS hA rfl hl.1 rfl (Nat.le_of_ble_eq_true rfl) dX2_recoveredFor_36 ⟨Nat.le_of_ble_eq_true rfl, Nat.le_of_ble_eq_true rfl⟩) hD hS hA (fun H locs hP hD hS => ?_)
    refine lv_lsub hx hb dX2_recoveredFor_39 ?_
    refine va_mmax_long hx hb (hml.trans hl.1.symm) hown (hts (.methodLink RX2 146 Lib.MathLoose.max_long.x) (List.mem_of_getElem? (i := 5) rfl)) (hts (.static Lib.MathLoose.max_long.x) (List.mem_of_getElem? (i := 6) rfl)) (hts (.initialized "java/lang/Math") (List.mem_of_getElem? (i := 7) rfl)) (hts (.code Lib.MathLoose.max_long.x Lib.MathLoose.max_long.code 4 (some .long)) (List.mem_of_getElem? (i := 8) rfl)) (Nat.le_of_ble_eq_true rfl) (Nat.le_of_ble_eq_true rfl) (Nat.le_of_ble_eq_true rfl) (Nat.le_of_ble_eq_true rfl) dX2_recoveredFor_40 ?_
    refine lv_topl (fun n8 en8 => ?_)
    replace hm := zz_nm_some en8 hm
    refine lv_lstore (lv' := [(8, .long n8), (6, .long r1), (0, .ref (a 8)), (1, .long x1), (3, .long x3), (5, .int x5)]) hx hb dX2_recoveredFor_43 hl (by decide) rfl (fun ls hl => ?_)
    refine lv_lload_n hx hb dX2_recoveredFor_45 rfl (lv_at hl 4 rfl) ?_
    refine lv_lload hx hb dX2_recoveredFor_46 (lv_at hl 1 rfl) ?_
    refine lv_aload_n hx hb dX2_recoveredFor_48 rfl (lv_at hl 2 rfl) ?_
    refine va_get (D := D) (ci := 2) (v := .ref (a 13)) (C := RX2) (T := TX2) (N := 12) hx hb hts nX2_recoveredFor_X2 hown hK hP 8 (wC_8 y a z) rfl 1 (by decide) (hts (.fieldLink RX2 21 "WorksDesk$Book" "clauses" "LWorksDesk$Terms;") (List.mem_of_getElem? (i := 2) rfl)) (fun _ h9 => h9) rfl dX2_recoveredFor_49 ?_
    refine lv_iconst (v := (5 : Int32)) hx hb dX2_recoveredFor_52 (by decide) ?_
    obtain ⟨r9, h10, hm⟩ := zz_b1_some hm
    refine zz_calli (zz_runV (w := wC y a) (As := [.int (5 : Int32)]) (rest := [.long r1, .long x3]) ⟨hx, hb, hml, hown, hts⟩ (zX8_of l D y a H.size (5 : Int32) z h10) (cwV 1 hts gX2_recoveredFor_X8_of rfl rfl rfl zdX8_of ⟨Nat.le_of_ble_eq_true rfl, Nat.le_of_ble_eq_true rfl⟩) hK hN hg hP hD hS hA 13 (wC_13 y a z) rfl rfl hl.1 rfl (Nat.le_of_ble_eq_true rfl) dX2_recoveredFor_53 ⟨Nat.le_of_ble_eq_true rfl, Nat.le_of_ble_eq_true rfl⟩) hD hS hA (fun H locs hP hD hS => ?_)
    refine lv_lload hx hb dX2_recoveredFor_56 (lv_at hl 0 rfl) ?_
    obtain ⟨r11, h12, hm⟩ := zz_b1_some hm
    refine zz_calll (zz_runSN (w := wC y a) (As := [.int r9, .long n8]) (rest := [.long r1, .long x3]) ⟨hx, hb, hml, hown, hts⟩ (zX10_thousandths l D y a H.size r9 n8 z h12) ⟨va_cnB 2 hts gX2_recoveredFor_X10_thousandths_n104 rfl rfl rfl (hN _ (List.mem_of_getElem? (i := 7) rfl)) (hts (.initialized RX10) (List.mem_of_getElem? (i := 24) rfl)) zdX10_thousandths ⟨Nat.le_of_ble_eq_true rfl, Nat.le_of_ble_eq_true rfl⟩, (hts (.static yX10_thousandths) (List.mem_of_getElem? (i := 23) rfl)), trivial⟩ hK hN hg hP hD hS hA rfl hl.1 rfl (Nat.le_of_ble_eq_true rfl) dX2_recoveredFor_58 ⟨Nat.le_of_ble_eq_true rfl, Nat.le_of_ble_eq_true rfl⟩) hD hS hA (fun H locs hP hD hS => ?_)
    refine va_mmin_long hx hb (hml.trans hl.1.symm) hown (hts (.methodLink RX2 137 Lib.MathLoose.min_long.x) (List.mem_of_getElem? (i := 9) rfl)) (hts (.static Lib.MathLoose.min_long.x) (List.mem_of_getElem? (i := 10) rfl)) (hts (.initialized "java/lang/Math") (List.mem_of_getElem? (i := 7) rfl)) (hts (.code Lib.MathLoose.min_long.x Lib.MathLoose.min_long.code 4 (some .long)) (List.mem_of_getElem? (i := 11) rfl)) (Nat.le_of_ble_eq_true rfl) (Nat.le_of_ble_eq_true rfl) (Nat.le_of_ble_eq_true rfl) (Nat.le_of_ble_eq_true rfl) dX2_recoveredFor_61 ?_
    refine va_mmax_long hx hb (hml.trans hl.1.symm) hown (hts (.methodLink RX2 146 Lib.MathLoose.max_long.x) (List.mem_of_getElem? (i := 5) rfl)) (hts (.static Lib.MathLoose.max_long.x) (List.mem_of_getElem? (i := 6) rfl)) (hts (.initialized "java/lang/Math") (List.mem_of_getElem? (i := 7) rfl)) (hts (.code Lib.MathLoose.max_long.x Lib.MathLoose.max_long.code 4 (some .long)) (List.mem_of_getElem? (i := 8) rfl)) (Nat.le_of_ble_eq_true rfl) (Nat.le_of_ble_eq_true rfl) (Nat.le_of_ble_eq_true rfl) (Nat.le_of_ble_eq_true rfl) dX2_recoveredFor_64 ?_
    exact zz_lret hx hb hr hlocks ⟨zz_some1 hm, rfl⟩ hP hK hD hS dX2_recoveredFor_67
  · replace hm := zz_neg c3 hm
    refine lv_lload hx hb dX2_recoveredFor_15 (lv_at hl 0 rfl) ?_
    exact zz_lret hx hb hr hlocks ⟨zz_some1 hm, rfl⟩ hP hK hD hS dX2_recoveredFor_17
def mX2_limit (z : zz_M) : Option Int64 := zz_b1 (mX8_of (1 : Int32) z) (fun r1 => zz_b1 (mX10_thousandths r1 ((z.2.2.1 580).toInt64)) (fun r3 => some r3))
theorem nX2_limit_X0 : ∀ w ∈ wsX00, w ∈ wsX2_limit := fun _ h => List.mem_cons_of_mem _ (List.mem_append_left _ (List.mem_append_right _ (h)))
theorem nX2_limit_X2 : ∀ w ∈ wsX20, w ∈ wsX2_limit := fun _ h => List.mem_cons_of_mem _ (List.mem_append_left _ (List.mem_append_left _ (List.mem_append_right _ (h))))
theorem zdX2_limit : yX2_limit.cls = RX2 ∧ yX2_limit.cls ≠ "java/lang/invoke/MethodHandle" ∧ yX2_limit.cls ≠ "java/lang/invoke/VarHandle" ∧ (parseMethodDescriptor yX2_limit.desc).map (fun d => d.parameters.length) = some 0 := by decide +kernel
set_option maxHeartbeats 4000000 in
set_option maxRecDepth 100000 in
theorem zX2_limit (l : Launch) (D : va_G) (y : Nat → ClassId) (a : Nat → Nat) (sz : Nat) (z : zz_M) {r : Int64} (hm : mX2_limit z = some r) : Met l yX2_limit wsX2_limit { frames := 1, cells := 0, slots := 0, locals := 22 } (zz_Pc D y (wC y a z) sz [.ref (a 8)]) (zz_Ql D y (wC y a) (va_A (wC y a z) sz) r z) 0 0 (va_A (wC y a z) sz) := by
  refine Met.ofW (cc := cX2_limit) (maxL := 1) (ret := (some .long)) (by decide) rfl ?_
  intro p e s m args below meth c s₁ B hml hv
  obtain ⟨rfl, hsz, hP, hK, hD0, hN, hg⟩ := hv
  have hx := B.exec
  have hb := B.bytes
  have hr := B.returns
  have hts := atoms_spec (ws := wsX2_limit) B.pre
  have hown : s.vm.findClass RX2 = some m.cls := findClass_of_methodNamed B.named
  have hlocks := B.notSynchronized
  clear B
  subst hsz
  have hD := hD0.self (sz := s.heap.size)
  generalize hAe : va_A (wC y a z) s.heap.size = A at hD hg ⊢
  have hA : ∀ q : Nat, s.heap.size ≤ q → A q := fun q h => by rw [← hAe]; exact Or.inr h
  clear hAe hD0
  have hl := lv_entry ([.ref (a 8)]) (n := 1) (Nat.le_of_ble_eq_true rfl)
  rw [lg_entry_eq]
  generalize (lg_sl ([.ref (a 8)]) ++ List.replicate (1 - (lg_sl ([.ref (a 8)])).length) Slot.unset).toArray = ls at hl ⊢
  replace hl : lv_has ls 1 [(0, .ref (a 8))] := hl
  refine zz_go (w := wC y a) hP hD va_S.rf hl (fun G hG => ?_)
  clear hP hD hl ls
  rw [hG]
  intro H locs ls hP hD hS hl
  unfold mX2_limit at hm
  refine lv_aload_n hx hb dX2_limit_0 rfl (lv_at hl 0 rfl) ?_
  refine va_get (D := D) (ci := 2) (v := .ref (a 13)) (C := RX2) (T := TX2) (N := 12) hx hb hts nX2_limit_X2 hown hK hP 8 (wC_8 y a z) rfl 1 (by decide) (hts (.fieldLink RX2 21 "WorksDesk$Book" "clauses" "LWorksDesk$Terms;") (List.mem_of_getElem? (i := 1) rfl)) (fun _ h9 => h9) rfl dX2_limit_1 ?_
  refine lv_iconst (v := (1 : Int32)) hx hb dX2_limit_4 (by decide) ?_
  obtain ⟨r1, h2, hm⟩ := zz_b1_some hm
  refine zz_calli (zz_runV (w := wC y a) (As := [.int (1 : Int32)]) (rest := []) ⟨hx, hb, hml, hown, hts⟩ (zX8_of l D y a H.size (1 : Int32) z h2) (cwV 1 hts gX2_limit_X8_of rfl rfl rfl zdX8_of ⟨Nat.le_of_ble_eq_true rfl, Nat.le_of_ble_eq_true rfl⟩) hK hN hg hP hD hS hA 13 (wC_13 y a z) rfl rfl hl.1 rfl (Nat.le_of_ble_eq_true rfl) dX2_limit_5 ⟨Nat.le_of_ble_eq_true rfl, Nat.le_of_ble_eq_true rfl⟩) hD hS hA (fun H locs hP hD hS => ?_)
  refine lv_aload_n hx hb dX2_limit_8 rfl (lv_at hl 0 rfl) ?_
  refine va_get (D := D) (ci := 2) (v := .ref (a 9)) (C := RX2) (T := TX2) (N := 12) hx hb hts nX2_limit_X2 hown hK hP 8 (wC_8 y a z) rfl 0 (by decide) (hts (.fieldLink RX2 12 "WorksDesk$Book" "items" "LWorksDesk$Bill;") (List.mem_of_getElem? (i := 2) rfl)) (fun _ h9 => h9) rfl dX2_limit_9 ?_
  refine va_get (D := D) (ci := 0) (v := .int (z.2.2.1 580)) (C := RX0) (T := TX0) (N := 5) hx hb hts nX2_limit_X0 hown hK hP 9 (wC_bill y a z 9 (Or.inr rfl)) rfl 4 (by decide) (hts (.fieldLink RX2 101 "WorksDesk$Bill" "total" "I") (List.mem_of_getElem? (i := 3) rfl)) (fun _ h9 => h9) rfl dX2_limit_12 ?_
  refine lv_i2l hx hb dX2_limit_15 rfl ?_
  obtain ⟨r3, h4, hm⟩ := zz_b1_some hm
  refine zz_calll (zz_runSN (w := wC y a) (As := [.int r1, .long ((z.2.2.1 580).toInt64)]) (rest := []) ⟨hx, hb, hml, hown, hts⟩ (zX10_thousandths l D y a H.size r1 ((z.2.2.1 580).toInt64) z h4) ⟨va_cnB 2 hts gX2_limit_X10_thousandths_n104 rfl rfl rfl (hN _ (List.mem_of_getElem? (i := 7) rfl)) (hts (.initialized RX10) (List.mem_of_getElem? (i := 11) rfl)) zdX10_thousandths ⟨Nat.le_of_ble_eq_true rfl, Nat.le_of_ble_eq_true rfl⟩, (hts (.static yX10_thousandths) (List.mem_of_getElem? (i := 10) rfl)), trivial⟩ hK hN hg hP hD hS hA rfl hl.1 rfl (Nat.le_of_ble_eq_true rfl) dX2_limit_16 ⟨Nat.le_of_ble_eq_true rfl, Nat.le_of_ble_eq_true rfl⟩) hD hS hA (fun H locs hP hD hS => ?_)
  exact zz_lret hx hb hr hlocks ⟨zz_some1 hm, rfl⟩ hP hK hD hS dX2_limit_19
def mX2_retained_b61 (z : zz_M) (t0 : Int64) : Option Int64 := some t0
def mX2_retained_b15 (z : zz_M) : Option Int64 := some (0 : Int64)
def mX2_retained (x1 : Int32) (x2 : Int64) (x4 : Int32) (z : zz_M) : Option Int64 := if (z.2.2.1 521) ≤ x4 then (mX2_retained_b15 z) else (if (0 : Int32) ≤ (lg_cmp x2 (0 : Int64)) then (zz_b1 (mX10_thousandths x1 x2) (fun r3 => zz_b1 (mX2_limit z) (fun r5 => zz_nm (if r5 < r3 then r5 else r3) (fun n7 => if x4 < (z.2.2.1 520) then (mX2_retained_b61 z n7) else (zz_b1 (mX8_of (2 : Int32) z) (fun r9 => zz_b1 (mX10_thousandths r9 n7) (fun r11 => mX2_retained_b61 z (n7 - r11)))))))) else (mX2_retained_b15 z))
theorem nX2_retained_X2 : ∀ w ∈ wsX20, w ∈ wsX2_retained := fun _ h => List.mem_cons_of_mem _ (List.mem_append_left _ (List.mem_append_left _ (List.mem_append_right _ (h))))
theorem zdX2_retained : yX2_retained.cls = RX2 ∧ yX2_retained.cls ≠ "java/lang/invoke/MethodHandle" ∧ yX2_retained.cls ≠ "java/lang/invoke/VarHandle" ∧ (parseMethodDescriptor yX2_retained.desc).map (fun d => d.parameters.length) = some 3 := by decide +kernel
set_option maxHeartbeats 4000000 in
set_option maxRecDepth 100000 in
theorem zX2_retained (l : Launch) (D : va_G) (y : Nat → ClassId) (a : Nat → Nat) (sz : Nat) (x1 : Int32) (x2 : Int64) (x4 : Int32) (z : zz_M) {r : Int64} (hm : mX2_retained x1 x2 x4 z = some r) : Met l yX2_retained wsX2_retained { frames := 2, cells := 0, slots := 0, locals := 42 } (zz_Pc D y (wC y a z) sz [.ref (a 8), .int x1, .long x2, .int x4]) (zz_Ql D y (wC y a) (va_A (wC y a z) sz) r z) 0 0 (va_A (wC y a z) sz) := by
  refine Met.ofW (cc := cX2_retained) (maxL := 7) (ret := (some .long)) (by decide) rfl ?_
  intro p e s m args below meth c s₁ B hml hv
  obtain ⟨rfl, hsz, hP, hK, hD0, hN, hg⟩ := hv
  have hx := B.exec
  have hb := B.bytes
  have hr := B.returns
  have hts := atoms_spec (ws := wsX2_retained) B.pre
  have hown : s.vm.findClass RX2 = some m.cls := findClass_of_methodNamed B.named
  have hlocks := B.notSynchronized
  clear B
  subst hsz
  have hD := hD0.self (sz := s.heap.size)
  generalize hAe : va_A (wC y a z) s.heap.size = A at hD hg ⊢
  have hA : ∀ q : Nat, s.heap.size ≤ q → A q := fun q h => by rw [← hAe]; exact Or.inr h
  clear hAe hD0
  have hl := lv_entry ([.ref (a 8), .int x1, .long x2, .int x4]) (n := 7) (Nat.le_of_ble_eq_true rfl)
  rw [lg_entry_eq]
  generalize (lg_sl ([.ref (a 8), .int x1, .long x2, .int x4]) ++ List.replicate (7 - (lg_sl ([.ref (a 8), .int x1, .long x2, .int x4])).length) Slot.unset).toArray = ls at hl ⊢
  replace hl : lv_has ls 7 [(0, .ref (a 8)), (1, .int x1), (2, .long x2), (4, .int x4)] := hl
  refine zz_go (w := wC y a) hP hD va_S.rf hl (fun G hG => ?_)
  clear hP hD hl ls
  have J61 : ∀ (t0 : Int64), mX2_retained_b61 z t0 = some r → G 61 [] [.long t0] z := by
    intro t0 hm
    rw [mX2_retained_b61] at hm
    rw [hG]
    intro H locs ls hP hD hS hl
    exact zz_lret hx hb hr hlocks ⟨zz_some1 hm, rfl⟩ hP hK hD hS dX2_retained_61
  have J15 : mX2_retained_b15 z = some r → G 15 [] [] z := by
    intro hm
    rw [mX2_retained_b15] at hm
    rw [hG]
    intro H locs ls hP hD hS hl
    refine lv_lconst (v := (0 : Int64)) hx hb dX2_retained_15 (by decide) ?_
    exact zz_lret hx hb hr hlocks ⟨zz_some1 hm, rfl⟩ hP hK hD hS dX2_retained_16
  rw [hG]
  intro H locs ls hP hD hS hl
  unfold mX2_retained at hm
  refine lv_iload hx hb dX2_retained_0 (lv_at hl 3 rfl) ?_
  refine lv_aload_n hx hb dX2_retained_2 rfl (lv_at hl 0 rfl) ?_
  refine va_get (D := D) (ci := 2) (v := .int (z.2.2.1 521)) (C := RX2) (T := TX2) (N := 12) hx hb hts nX2_retained_X2 hown hK hP 8 (wC_8 y a z) rfl 9 (by decide) (hts (.fieldLink RX2 63 "WorksDesk$Book" "closed" "I") (List.mem_of_getElem? (i := 1) rfl)) (fun _ h9 => h9) rfl dX2_retained_3 ?_
  refine lv_icmp_ge (tgt := 15) hx hb dX2_retained_6 (by decide) (fun c1 => ?_) (fun c1 => ?_)
  · replace hm := zz_pos c1 hm
    have j := J15 hm
    rw [hG] at j
    exact j H locs ls hP hD hS (lv_sub hl [] rfl)
  · replace hm := zz_neg c1 hm
    refine lv_lload_n hx hb dX2_retained_9 rfl (lv_at hl 2 rfl) ?_
    refine lv_lconst (v := (0 : Int64)) hx hb dX2_retained_10 (by decide) ?_
    refine W.lcmp hx hb dX2_retained_11 ?_
    refine lv_if_ge (tgt := 17) hx hb dX2_retained_12 (by decide) (fun c2 => ?_) (fun c2 => ?_)
    · replace hm := zz_pos c2 hm
      refine lv_iload_n hx hb dX2_retained_17 rfl (lv_at hl 1 rfl) ?_
      refine lv_lload_n hx hb dX2_retained_18 rfl (lv_at hl 2 rfl) ?_
      obtain ⟨r3, h4, hm⟩ := zz_b1_some hm
      refine zz_calll (zz_runSN (w := wC y a) (As := [.int x1, .long x2]) (rest := []) ⟨hx, hb, hml, hown, hts⟩ (zX10_thousandths l D y a H.size x1 x2 z h4) ⟨va_cnB 2 hts gX2_retained_X10_thousandths_n104 rfl rfl rfl (hN _ (List.mem_of_getElem? (i := 7) rfl)) (hts (.initialized RX10) (List.mem_of_getElem? (i := 9) rfl)) zdX10_thousandths ⟨Nat.le_of_ble_eq_true rfl, Nat.le_of_ble_eq_true rfl⟩, (hts (.static yX10_thousandths) (List.mem_of_getElem? (i := 8) rfl)), trivial⟩ hK hN hg hP hD hS hA rfl hl.1 rfl (Nat.le_of_ble_eq_true rfl) dX2_retained_19 ⟨Nat.le_of_ble_eq_true rfl, Nat.le_of_ble_eq_true rfl⟩) hD hS hA (fun H locs hP hD hS => ?_)
      refine lv_aload_n hx hb dX2_retained_22 rfl (lv_at hl 0 rfl) ?_
      obtain ⟨r5, h6, hm⟩ := zz_b1_some hm
      refine zz_calll (zz_runV (w := wC y a) (As := []) (rest := [.long r3]) ⟨hx, hb, hml, hown, hts⟩ (zX2_limit l D y a H.size z h6) (cwV 0 hts gX2_retained_X2_limit rfl rfl rfl zdX2_limit ⟨Nat.le_of_ble_eq_true rfl, Nat.le_of_ble_eq_true rfl⟩) hK hN hg hP hD hS hA 8 (wC_8 y a z) rfl rfl hl.1 rfl (Nat.le_of_ble_eq_true rfl) dX2_retained_23 ⟨Nat.le_of_ble_eq_true rfl, Nat.le_of_ble_eq_true rfl⟩) hD hS hA (fun H locs hP hD hS => ?_)
      refine va_mmin_long hx hb (hml.trans hl.1.symm) hown (hts (.methodLink RX2 137 Lib.MathLoose.min_long.x) (List.mem_of_getElem? (i := 2) rfl)) (hts (.static Lib.MathLoose.min_long.x) (List.mem_of_getElem? (i := 3) rfl)) (hts (.initialized "java/lang/Math") (List.mem_of_getElem? (i := 4) rfl)) (hts (.code Lib.MathLoose.min_long.x Lib.MathLoose.min_long.code 4 (some .long)) (List.mem_of_getElem? (i := 5) rfl)) (Nat.le_of_ble_eq_true rfl) (Nat.le_of_ble_eq_true rfl) (Nat.le_of_ble_eq_true rfl) (Nat.le_of_ble_eq_true rfl) dX2_retained_26 ?_
      refine lv_topl (fun n7 en7 => ?_)
      replace hm := zz_nm_some en7 hm
      refine lv_lstore (lv' := [(5, .long n7), (0, .ref (a 8)), (1, .int x1), (2, .long x2), (4, .int x4)]) hx hb dX2_retained_29 hl (by decide) rfl (fun ls hl => ?_)
      refine lv_iload hx hb dX2_retained_31 (lv_at hl 4 rfl) ?_
      refine lv_aload_n hx hb dX2_retained_33 rfl (lv_at hl 1 rfl) ?_
      refine va_get (D := D) (ci := 2) (v := .int (z.2.2.1 520)) (C := RX2) (T := TX2) (N := 12) hx hb hts nX2_retained_X2 hown hK hP 8 (wC_8 y a z) rfl 8 (by decide) (hts (.fieldLink RX2 59 "WorksDesk$Book" "handedOver" "I") (List.mem_of_getElem? (i := 6) rfl)) (fun _ h9 => h9) rfl dX2_retained_34 ?_
      refine lv_icmp_lt (tgt := 59) hx hb dX2_retained_37 (by decide) (fun c8 => ?_) (fun c8 => ?_)
      · replace hm := zz_pos c8 hm
        refine lv_lload hx hb dX2_retained_59 (lv_at hl 0 rfl) ?_
        have j := J61 n7 hm
        rw [hG] at j
        exact j H locs ls hP hD hS (lv_sub hl [] rfl)
      · replace hm := zz_neg c8 hm
        refine lv_lload hx hb dX2_retained_40 (lv_at hl 0 rfl) ?_
        refine lv_aload_n hx hb dX2_retained_42 rfl (lv_at hl 1 rfl) ?_
        refine va_get (D := D) (ci := 2) (v := .ref (a 13)) (C := RX2) (T := TX2) (N := 12) hx hb hts nX2_retained_X2 hown hK hP 8 (wC_8 y a z) rfl 1 (by decide) (hts (.fieldLink RX2 21 "WorksDesk$Book" "clauses" "LWorksDesk$Terms;") (List.mem_of_getElem? (i := 7) rfl)) (fun _ h9 => h9) rfl dX2_retained_43 ?_
        refine lv_iconst (v := (2 : Int32)) hx hb dX2_retained_46 (by decide) ?_
        obtain ⟨r9, h10, hm⟩ := zz_b1_some hm
        refine zz_calli (zz_runV (w := wC y a) (As := [.int (2 : Int32)]) (rest := [.long n7]) ⟨hx, hb, hml, hown, hts⟩ (zX8_of l D y a H.size (2 : Int32) z h10) (cwV 1 hts gX2_retained_X8_of rfl rfl rfl zdX8_of ⟨Nat.le_of_ble_eq_true rfl, Nat.le_of_ble_eq_true rfl⟩) hK hN hg hP hD hS hA 13 (wC_13 y a z) rfl rfl hl.1 rfl (Nat.le_of_ble_eq_true rfl) dX2_retained_47 ⟨Nat.le_of_ble_eq_true rfl, Nat.le_of_ble_eq_true rfl⟩) hD hS hA (fun H locs hP hD hS => ?_)
        refine lv_lload hx hb dX2_retained_50 (lv_at hl 0 rfl) ?_
        obtain ⟨r11, h12, hm⟩ := zz_b1_some hm
        refine zz_calll (zz_runSN (w := wC y a) (As := [.int r9, .long n7]) (rest := [.long n7]) ⟨hx, hb, hml, hown, hts⟩ (zX10_thousandths l D y a H.size r9 n7 z h12) ⟨va_cnB 2 hts gX2_retained_X10_thousandths_n104 rfl rfl rfl (hN _ (List.mem_of_getElem? (i := 7) rfl)) (hts (.initialized RX10) (List.mem_of_getElem? (i := 9) rfl)) zdX10_thousandths ⟨Nat.le_of_ble_eq_true rfl, Nat.le_of_ble_eq_true rfl⟩, (hts (.static yX10_thousandths) (List.mem_of_getElem? (i := 8) rfl)), trivial⟩ hK hN hg hP hD hS hA rfl hl.1 rfl (Nat.le_of_ble_eq_true rfl) dX2_retained_52 ⟨Nat.le_of_ble_eq_true rfl, Nat.le_of_ble_eq_true rfl⟩) hD hS hA (fun H locs hP hD hS => ?_)
        refine lv_lsub hx hb dX2_retained_55 ?_
        refine lv_goto (tgt := 61) hx hb dX2_retained_56 (by decide) ?_
        have j := J61 (n7 - r11) hm
        rw [hG] at j
        exact j H locs ls hP hD hS (lv_sub hl [] rfl)
    · replace hm := zz_neg c2 hm
      have j := J15 hm
      rw [hG] at j
      exact j H locs ls hP hD hS (lv_sub hl [] rfl)
def mX4_fresh (ff : Nat) (x1 : Int32) (x2 : Int32) (z : zz_M) : Option Int64 := zz_b1 (mX4_of ff x1 x2 z) (fun r1 => zz_b1 (mX4_ahead ff x1 x2 z) (fun r3 => some (r1 - r3)))
theorem zdX4_fresh : yX4_fresh.cls = RX4 ∧ yX4_fresh.cls ≠ "java/lang/invoke/MethodHandle" ∧ yX4_fresh.cls ≠ "java/lang/invoke/VarHandle" ∧ (parseMethodDescriptor yX4_fresh.desc).map (fun d => d.parameters.length) = some 2 := by decide +kernel
set_option maxHeartbeats 4000000 in
set_option maxRecDepth 100000 in
theorem zX4_fresh (l : Launch) (D : va_G) (y : Nat → ClassId) (a : Nat → Nat) (sz : Nat) (ff : Nat) (x1 : Int32) (x2 : Int32) (hff : ff = 64 ∨ ff = 81) (z : zz_M) {r : Int64} (hm : mX4_fresh ff x1 x2 z = some r) : Met l yX4_fresh wsX4_fresh { frames := 1, cells := 0, slots := 0, locals := 22 } (zz_Pc D y (wC y a z) sz [.ref (a ff), .int x1, .int x2]) (zz_Ql D y (wC y a) (va_A (wC y a z) sz) r z) 0 0 (va_A (wC y a z) sz) := by
  refine Met.ofW (cc := cX4_fresh) (maxL := 3) (ret := (some .long)) (by decide) rfl ?_
  intro p e s m args below meth c s₁ B hml hv
  obtain ⟨rfl, hsz, hP, hK, hD0, hN, hg⟩ := hv
  have hx := B.exec
  have hb := B.bytes
  have hr := B.returns
  have hts := atoms_spec (ws := wsX4_fresh) B.pre
  have hown : s.vm.findClass RX4 = some m.cls := findClass_of_methodNamed B.named
  have hlocks := B.notSynchronized
  clear B
  subst hsz
  have hD := hD0.self (sz := s.heap.size)
  generalize hAe : va_A (wC y a z) s.heap.size = A at hD hg ⊢
  have hA : ∀ q : Nat, s.heap.size ≤ q → A q := fun q h => by rw [← hAe]; exact Or.inr h
  clear hAe hD0
  have hl := lv_entry ([.ref (a ff), .int x1, .int x2]) (n := 3) (Nat.le_of_ble_eq_true rfl)
  rw [lg_entry_eq]
  generalize (lg_sl ([.ref (a ff), .int x1, .int x2]) ++ List.replicate (3 - (lg_sl ([.ref (a ff), .int x1, .int x2])).length) Slot.unset).toArray = ls at hl ⊢
  replace hl : lv_has ls 3 [(0, .ref (a ff)), (1, .int x1), (2, .int x2)] := hl
  refine zz_go (w := wC y a) hP hD va_S.rf hl (fun G hG => ?_)
  clear hP hD hl ls
  rw [hG]
  intro H locs ls hP hD hS hl
  unfold mX4_fresh at hm
  refine lv_aload_n hx hb dX4_fresh_0 rfl (lv_at hl 0 rfl) ?_
  refine lv_iload_n hx hb dX4_fresh_1 rfl (lv_at hl 1 rfl) ?_
  refine lv_iload_n hx hb dX4_fresh_2 rfl (lv_at hl 2 rfl) ?_
  obtain ⟨r1, h2, hm⟩ := zz_b1_some hm
  refine zz_calll (zz_runV (w := wC y a) (As := [.int x1, .int x2]) (rest := []) ⟨hx, hb, hml, hown, hts⟩ (zX4_of l D y a H.size ff x1 x2 hff z h2) (cwV 2 hts gX4_fresh_X4_of rfl rfl rfl zdX4_of ⟨Nat.le_of_ble_eq_true rfl, Nat.le_of_ble_eq_true rfl⟩) hK hN hg hP hD hS hA ff (wC_fig y a z ff hff) rfl rfl hl.1 rfl (Nat.le_of_ble_eq_true rfl) dX4_fresh_3 ⟨Nat.le_of_ble_eq_true rfl, Nat.le_of_ble_eq_true rfl⟩) hD hS hA (fun H locs hP hD hS => ?_)
  refine lv_aload_n hx hb dX4_fresh_6 rfl (lv_at hl 0 rfl) ?_
  refine lv_iload_n hx hb dX4_fresh_7 rfl (lv_at hl 1 rfl) ?_
  refine lv_iload_n hx hb dX4_fresh_8 rfl (lv_at hl 2 rfl) ?_
  obtain ⟨r3, h4, hm⟩ := zz_b1_some hm
  refine zz_calll (zz_runV (w := wC y a) (As := [.int x1, .int x2]) (rest := [.long r1]) ⟨hx, hb, hml, hown, hts⟩ (zX4_ahead l D y a H.size ff x1 x2 hff z h4) (cwV 2 hts gX4_fresh_X4_ahead rfl rfl rfl zdX4_ahead ⟨Nat.le_of_ble_eq_true rfl, Nat.le_of_ble_eq_true rfl⟩) hK hN hg hP hD hS hA ff (wC_fig y a z ff hff) rfl rfl hl.1 rfl (Nat.le_of_ble_eq_true rfl) dX4_fresh_9 ⟨Nat.le_of_ble_eq_true rfl, Nat.le_of_ble_eq_true rfl⟩) hD hS hA (fun H locs hP hD hS => ?_)
  refine lv_lsub hx hb dX4_fresh_12 ?_
  exact zz_lret hx hb hr hlocks ⟨zz_some1 hm, rfl⟩ hP hK hD hS dX4_fresh_13
def mX7_heldIn_b60 (z : zz_M) (t0 : Int32) : Option Int32 := some t0
def mX7_heldIn (x1 : Int32) (x2 : Int32) (z : zz_M) : Option Int32 := zz_ck (zz_in x1 6) (if (z.1 58 x1.toNatClampNeg) ≤ x2 then (zz_ck (zz_in x1 6) (if x2 < (z.1 61 x1.toNatClampNeg) then (zz_ck (zz_in x1 6) (if x2 < (z.1 60 x1.toNatClampNeg) then (zz_ck (zz_in x1 6) (mX7_heldIn_b60 z (z.1 59 x1.toNatClampNeg))) else (mX7_heldIn_b60 z (0 : Int32)))) else (zz_ck (zz_in x1 6) (zz_ck (zz_in x1 6) (zz_b1 (mX10_thousandths (z.1 62 x1.toNatClampNeg) ((z.1 59 x1.toNatClampNeg).toInt64)) (fun r10 => some r10.toInt32)))))) else (some (0 : Int32)))
theorem nX7_heldIn_X7 : ∀ w ∈ wsX70, w ∈ wsX7_heldIn := fun _ h => List.mem_cons_of_mem _ (List.mem_append_right _ (h))
theorem zdX7_heldIn : yX7_heldIn.cls = RX7 ∧ yX7_heldIn.cls ≠ "java/lang/invoke/MethodHandle" ∧ yX7_heldIn.cls ≠ "java/lang/invoke/VarHandle" ∧ (parseMethodDescriptor yX7_heldIn.desc).map (fun d => d.parameters.length) = some 2 := by decide +kernel
set_option maxHeartbeats 4000000 in
set_option maxRecDepth 100000 in
theorem zX7_heldIn (l : Launch) (D : va_G) (y : Nat → ClassId) (a : Nat → Nat) (sz : Nat) (x1 : Int32) (x2 : Int32) (z : zz_M) {r : Int32} (hm : mX7_heldIn x1 x2 z = some r) : Met l yX7_heldIn wsX7_heldIn { frames := 1, cells := 0, slots := 0, locals := 22 } (zz_Pc D y (wC y a z) sz [.ref (a 57), .int x1, .int x2]) (zz_Qi D y (wC y a) (va_A (wC y a z) sz) r z) 0 0 (va_A (wC y a z) sz) := by
  refine Met.ofW (cc := cX7_heldIn) (maxL := 3) (ret := (some .int)) (by decide) rfl ?_
  intro p e s m args below meth c s₁ B hml hv
  obtain ⟨rfl, hsz, hP, hK, hD0, hN, hg⟩ := hv
  have hx := B.exec
  have hb := B.bytes
  have hr := B.returns
  have hts := atoms_spec (ws := wsX7_heldIn) B.pre
  have hown : s.vm.findClass RX7 = some m.cls := findClass_of_methodNamed B.named
  have hlocks := B.notSynchronized
  clear B
  subst hsz
  have hD := hD0.self (sz := s.heap.size)
  generalize hAe : va_A (wC y a z) s.heap.size = A at hD hg ⊢
  have hA : ∀ q : Nat, s.heap.size ≤ q → A q := fun q h => by rw [← hAe]; exact Or.inr h
  clear hAe hD0
  have hl := lv_entry ([.ref (a 57), .int x1, .int x2]) (n := 3) (Nat.le_of_ble_eq_true rfl)
  rw [lg_entry_eq]
  generalize (lg_sl ([.ref (a 57), .int x1, .int x2]) ++ List.replicate (3 - (lg_sl ([.ref (a 57), .int x1, .int x2])).length) Slot.unset).toArray = ls at hl ⊢
  replace hl : lv_has ls 3 [(0, .ref (a 57)), (1, .int x1), (2, .int x2)] := hl
  refine zz_go (w := wC y a) hP hD va_S.rf hl (fun G hG => ?_)
  clear hP hD hl ls
  have J60 : ∀ (t0 : Int32), mX7_heldIn_b60 z t0 = some r → G 60 [] [.int t0] z := by
    intro t0 hm
    rw [mX7_heldIn_b60] at hm
    rw [hG]
    intro H locs ls hP hD hS hl
    exact zz_iret hx hb hr hlocks ⟨zz_some1 hm, rfl⟩ hP hK hD hS dX7_heldIn_60
  rw [hG]
  intro H locs ls hP hD hS hl
  unfold mX7_heldIn at hm
  refine lv_iload_n hx hb dX7_heldIn_0 rfl (lv_at hl 2 rfl) ?_
  refine lv_aload_n hx hb dX7_heldIn_1 rfl (lv_at hl 0 rfl) ?_
  refine va_get (D := D) (ci := 7) (v := .ref (a 58)) (C := RX7) (T := TX7) (N := 6) hx hb hts nX7_heldIn_X7 hown hK hP 57 (wC_57 y a z) rfl 0 (by decide) (hts (.fieldLink RX7 9 "WorksDesk$SetOffs" "months" "[I") (List.mem_of_getElem? (i := 1) rfl)) (fun _ h9 => h9) rfl dX7_heldIn_2 ?_
  refine lv_iload_n hx hb dX7_heldIn_5 rfl (lv_at hl 1 rfl) ?_
  obtain ⟨c1, hm⟩ := zz_ck_some hm
  refine va_iald hx hb hK hP 58 0 (wC_58 y a z) rfl c1 dX7_heldIn_6 ?_
  refine lv_icmp_ge (tgt := 12) hx hb dX7_heldIn_7 (by decide) (fun c2 => ?_) (fun c2 => ?_)
  · replace hm := zz_pos c2 hm
    refine lv_iload_n hx hb dX7_heldIn_12 rfl (lv_at hl 2 rfl) ?_
    refine lv_aload_n hx hb dX7_heldIn_13 rfl (lv_at hl 0 rfl) ?_
    refine va_get (D := D) (ci := 7) (v := .ref (a 61)) (C := RX7) (T := TX7) (N := 6) hx hb hts nX7_heldIn_X7 hown hK hP 57 (wC_57 y a z) rfl 3 (by decide) (hts (.fieldLink RX7 21 "WorksDesk$SetOffs" "decided" "[I") (List.mem_of_getElem? (i := 2) rfl)) (fun _ h9 => h9) rfl dX7_heldIn_14 ?_
    refine lv_iload_n hx hb dX7_heldIn_17 rfl (lv_at hl 1 rfl) ?_
    obtain ⟨c3, hm⟩ := zz_ck_some hm
    refine va_iald hx hb hK hP 61 0 (wC_61 y a z) rfl c3 dX7_heldIn_18 ?_
    refine lv_icmp_lt (tgt := 40) hx hb dX7_heldIn_19 (by decide) (fun c4 => ?_) (fun c4 => ?_)
    · replace hm := zz_pos c4 hm
      refine lv_iload_n hx hb dX7_heldIn_40 rfl (lv_at hl 2 rfl) ?_
      refine lv_aload_n hx hb dX7_heldIn_41 rfl (lv_at hl 0 rfl) ?_
      refine va_get (D := D) (ci := 7) (v := .ref (a 60)) (C := RX7) (T := TX7) (N := 6) hx hb hts nX7_heldIn_X7 hown hK hP 57 (wC_57 y a z) rfl 2 (by decide) (hts (.fieldLink RX7 18 "WorksDesk$SetOffs" "disputed" "[I") (List.mem_of_getElem? (i := 5) rfl)) (fun _ h9 => h9) rfl dX7_heldIn_42 ?_
      refine lv_iload_n hx hb dX7_heldIn_45 rfl (lv_at hl 1 rfl) ?_
      obtain ⟨c5, hm⟩ := zz_ck_some hm
      refine va_iald hx hb hK hP 60 0 (wC_60 y a z) rfl c5 dX7_heldIn_46 ?_
      refine lv_icmp_lt (tgt := 54) hx hb dX7_heldIn_47 (by decide) (fun c6 => ?_) (fun c6 => ?_)
      · replace hm := zz_pos c6 hm
        refine lv_aload_n hx hb dX7_heldIn_54 rfl (lv_at hl 0 rfl) ?_
        refine va_get (D := D) (ci := 7) (v := .ref (a 59)) (C := RX7) (T := TX7) (N := 6) hx hb hts nX7_heldIn_X7 hown hK hP 57 (wC_57 y a z) rfl 1 (by decide) (hts (.fieldLink RX7 15 "WorksDesk$SetOffs" "amounts" "[I") (List.mem_of_getElem? (i := 4) rfl)) (fun _ h9 => h9) rfl dX7_heldIn_55 ?_
        refine lv_iload_n hx hb dX7_heldIn_58 rfl (lv_at hl 1 rfl) ?_
        obtain ⟨c7, hm⟩ := zz_ck_some hm
        refine va_iald hx hb hK hP 59 0 (wC_59 y a z) rfl c7 dX7_heldIn_59 ?_
        have j := J60 (z.1 59 x1.toNatClampNeg) hm
        rw [hG] at j
        exact j H locs ls hP hD hS (lv_sub hl [] rfl)
      · replace hm := zz_neg c6 hm
        refine lv_iconst (v := (0 : Int32)) hx hb dX7_heldIn_50 (by decide) ?_
        refine lv_goto (tgt := 60) hx hb dX7_heldIn_51 (by decide) ?_
        have j := J60 (0 : Int32) hm
        rw [hG] at j
        exact j H locs ls hP hD hS (lv_sub hl [] rfl)
    · replace hm := zz_neg c4 hm
      refine lv_aload_n hx hb dX7_heldIn_22 rfl (lv_at hl 0 rfl) ?_
      refine va_get (D := D) (ci := 7) (v := .ref (a 62)) (C := RX7) (T := TX7) (N := 6) hx hb hts nX7_heldIn_X7 hown hK hP 57 (wC_57 y a z) rfl 4 (by decide) (hts (.fieldLink RX7 24 "WorksDesk$SetOffs" "upheld" "[I") (List.mem_of_getElem? (i := 3) rfl)) (fun _ h9 => h9) rfl dX7_heldIn_23 ?_
      refine lv_iload_n hx hb dX7_heldIn_26 rfl (lv_at hl 1 rfl) ?_
      obtain ⟨c8, hm⟩ := zz_ck_some hm
      refine va_iald hx hb hK hP 62 0 (wC_62 y a z) rfl c8 dX7_heldIn_27 ?_
      refine lv_aload_n hx hb dX7_heldIn_28 rfl (lv_at hl 0 rfl) ?_
      refine va_get (D := D) (ci := 7) (v := .ref (a 59)) (C := RX7) (T := TX7) (N := 6) hx hb hts nX7_heldIn_X7 hown hK hP 57 (wC_57 y a z) rfl 1 (by decide) (hts (.fieldLink RX7 15 "WorksDesk$SetOffs" "amounts" "[I") (List.mem_of_getElem? (i := 4) rfl)) (fun _ h9 => h9) rfl dX7_heldIn_29 ?_
      refine lv_iload_n hx hb dX7_heldIn_32 rfl (lv_at hl 1 rfl) ?_
      obtain ⟨c9, hm⟩ := zz_ck_some hm
      refine va_iald hx hb hK hP 59 0 (wC_59 y a z) rfl c9 dX7_heldIn_33 ?_
      refine lv_i2l hx hb dX7_heldIn_34 rfl ?_
      obtain ⟨r10, h11, hm⟩ := zz_b1_some hm
      refine zz_calll (zz_runSN (w := wC y a) (As := [.int (z.1 62 x1.toNatClampNeg), .long ((z.1 59 x1.toNatClampNeg).toInt64)]) (rest := []) ⟨hx, hb, hml, hown, hts⟩ (zX10_thousandths l D y a H.size (z.1 62 x1.toNatClampNeg) ((z.1 59 x1.toNatClampNeg).toInt64) z h11) ⟨va_cnB 2 hts gX7_heldIn_X10_thousandths_n38 rfl rfl rfl (hN _ (List.mem_of_getElem? (i := 12) rfl)) (hts (.initialized RX10) (List.mem_of_getElem? (i := 7) rfl)) zdX10_thousandths ⟨Nat.le_of_ble_eq_true rfl, Nat.le_of_ble_eq_true rfl⟩, (hts (.static yX10_thousandths) (List.mem_of_getElem? (i := 6) rfl)), trivial⟩ hK hN hg hP hD hS hA rfl hl.1 rfl (Nat.le_of_ble_eq_true rfl) dX7_heldIn_35 ⟨Nat.le_of_ble_eq_true rfl, Nat.le_of_ble_eq_true rfl⟩) hD hS hA (fun H locs hP hD hS => ?_)
      refine lv_l2i hx hb dX7_heldIn_38 rfl ?_
      exact zz_iret hx hb hr hlocks ⟨zz_some1 hm, rfl⟩ hP hK hD hS dX7_heldIn_39
  · replace hm := zz_neg c2 hm
    refine lv_iconst (v := (0 : Int32)) hx hb dX7_heldIn_10 (by decide) ?_
    exact zz_iret hx hb hr hlocks ⟨zz_some1 hm, rfl⟩ hP hK hD hS dX7_heldIn_11
def mX7_allHeldIn_b5 (z : zz_M) : Nat → Int32 → Int64 → Int32 → Option Int64
  | 0, _, _, _ => none
  | n + 1, v1, v2, v4 => if (z.2.2.1 3653) ≤ v4 then (some v2) else (zz_b1 (mX7_heldIn v4 v1 z) (fun r2 => zz_nm (v2 + r2.toInt64) (fun n4 => zz_nm (v4 + (1 : Int32)) (fun n5 => (mX7_allHeldIn_b5 z n) v1 n4 n5))))
def mX7_allHeldIn (x1 : Int32) (z : zz_M) : Option Int64 := mX7_allHeldIn_b5 z zz_N x1 (0 : Int64) (0 : Int32)
theorem nX7_allHeldIn_X7 : ∀ w ∈ wsX70, w ∈ wsX7_allHeldIn := fun _ h => List.mem_cons_of_mem _ (List.mem_append_right _ (h))
theorem zdX7_allHeldIn : yX7_allHeldIn.cls = RX7 ∧ yX7_allHeldIn.cls ≠ "java/lang/invoke/MethodHandle" ∧ yX7_allHeldIn.cls ≠ "java/lang/invoke/VarHandle" ∧ (parseMethodDescriptor yX7_allHeldIn.desc).map (fun d => d.parameters.length) = some 1 := by decide +kernel
set_option maxHeartbeats 4000000 in
set_option maxRecDepth 100000 in
theorem zX7_allHeldIn (l : Launch) (D : va_G) (y : Nat → ClassId) (a : Nat → Nat) (sz : Nat) (x1 : Int32) (z : zz_M) {r : Int64} (hm : mX7_allHeldIn x1 z = some r) : Met l yX7_allHeldIn wsX7_allHeldIn { frames := 2, cells := 0, slots := 0, locals := 44 } (zz_Pc D y (wC y a z) sz [.ref (a 57), .int x1]) (zz_Ql D y (wC y a) (va_A (wC y a z) sz) r z) 0 0 (va_A (wC y a z) sz) := by
  refine Met.ofW (cc := cX7_allHeldIn) (maxL := 5) (ret := (some .long)) (by decide) rfl ?_
  intro p e s m args below meth c s₁ B hml hv
  obtain ⟨rfl, hsz, hP, hK, hD0, hN, hg⟩ := hv
  have hx := B.exec
  have hb := B.bytes
  have hr := B.returns
  have hts := atoms_spec (ws := wsX7_allHeldIn) B.pre
  have hown : s.vm.findClass RX7 = some m.cls := findClass_of_methodNamed B.named
  have hlocks := B.notSynchronized
  clear B
  subst hsz
  have hD := hD0.self (sz := s.heap.size)
  generalize hAe : va_A (wC y a z) s.heap.size = A at hD hg ⊢
  have hA : ∀ q : Nat, s.heap.size ≤ q → A q := fun q h => by rw [← hAe]; exact Or.inr h
  clear hAe hD0
  have hl := lv_entry ([.ref (a 57), .int x1]) (n := 5) (Nat.le_of_ble_eq_true rfl)
  rw [lg_entry_eq]
  generalize (lg_sl ([.ref (a 57), .int x1]) ++ List.replicate (5 - (lg_sl ([.ref (a 57), .int x1])).length) Slot.unset).toArray = ls at hl ⊢
  replace hl : lv_has ls 5 [(0, .ref (a 57)), (1, .int x1)] := hl
  refine zz_go (w := wC y a) hP hD va_S.rf hl (fun G hG => ?_)
  clear hP hD hl ls
  have J5 : ∀ (n : Nat) (v1 : Int32) (v2 : Int64) (v4 : Int32), mX7_allHeldIn_b5 z n v1 v2 v4 = some r → G 5 [(0, .ref (a 57)), (1, .int v1), (2, .long v2), (4, .int v4)] [] z := by
    intro n
    induction n with
    | zero =>
      intro v1 v2 v4 hm
      exact zz_none hm
    | succ n ih =>
      intro v1 v2 v4 hm
      rw [mX7_allHeldIn_b5] at hm
      rw [hG]
      intro H locs ls hP hD hS hl
      refine lv_iload hx hb dX7_allHeldIn_5 (lv_at hl 3 rfl) ?_
      refine lv_aload_n hx hb dX7_allHeldIn_7 rfl (lv_at hl 0 rfl) ?_
      refine va_get (D := D) (ci := 7) (v := .int (z.2.2.1 3653)) (C := RX7) (T := TX7) (N := 6) hx hb hts nX7_allHeldIn_X7 hown hK hP 57 (wC_57 y a z) rfl 5 (by decide) (hts (.fieldLink RX7 27 "WorksDesk$SetOffs" "size" "I") (List.mem_of_getElem? (i := 1) rfl)) (fun _ h9 => h9) rfl dX7_allHeldIn_8 ?_
      refine lv_icmp_ge (tgt := 31) hx hb dX7_allHeldIn_11 (by decide) (fun c1 => ?_) (fun c1 => ?_)
      · replace hm := zz_pos c1 hm
        refine lv_lload_n hx hb dX7_allHeldIn_31 rfl (lv_at hl 2 rfl) ?_
        exact zz_lret hx hb hr hlocks ⟨zz_some1 hm, rfl⟩ hP hK hD hS dX7_allHeldIn_32
      · replace hm := zz_neg c1 hm
        refine lv_lload_n hx hb dX7_allHeldIn_14 rfl (lv_at hl 2 rfl) ?_
        refine lv_aload_n hx hb dX7_allHeldIn_15 rfl (lv_at hl 0 rfl) ?_
        refine lv_iload hx hb dX7_allHeldIn_16 (lv_at hl 3 rfl) ?_
        refine lv_iload_n hx hb dX7_allHeldIn_18 rfl (lv_at hl 1 rfl) ?_
        obtain ⟨r2, h3, hm⟩ := zz_b1_some hm
        refine zz_calli (zz_runV (w := wC y a) (As := [.int v4, .int v1]) (rest := [.long v2]) ⟨hx, hb, hml, hown, hts⟩ (zX7_heldIn l D y a H.size v4 v1 z h3) (cwV 2 hts gX7_allHeldIn_X7_heldIn rfl rfl rfl zdX7_heldIn ⟨Nat.le_of_ble_eq_true rfl, Nat.le_of_ble_eq_true rfl⟩) hK hN hg hP hD hS hA 57 (wC_57 y a z) rfl rfl hl.1 rfl (Nat.le_of_ble_eq_true rfl) dX7_allHeldIn_19 ⟨Nat.le_of_ble_eq_true rfl, Nat.le_of_ble_eq_true rfl⟩) hD hS hA (fun H locs hP hD hS => ?_)
        refine lv_i2l hx hb dX7_allHeldIn_22 rfl ?_
        refine lv_ladd hx hb dX7_allHeldIn_23 ?_
        refine lv_topl (fun n4 en4 => ?_)
        replace hm := zz_nm_some en4 hm
        refine lv_lstore_n (lv' := [(2, .long n4), (0, .ref (a 57)), (1, .int v1), (4, .int v4)]) hx hb dX7_allHeldIn_24 rfl hl (by decide) rfl (fun ls hl => ?_)
        obtain ⟨n5, en5⟩ : ∃ q : Int32, q = v4 + (1 : Int32) := ⟨_, rfl⟩
        replace hm := zz_nm_some en5 hm
        refine lv_iinc (v := n5) (lv' := [(4, .int n5), (2, .long n4), (0, .ref (a 57)), (1, .int v1)]) hx hb dX7_allHeldIn_25 hl (k := 3) rfl (by rw [en5]; rfl) (by decide) rfl (fun ls hl => ?_)
        refine lv_goto (tgt := 5) hx hb dX7_allHeldIn_28 (by decide) ?_
        have j := ih v1 n4 n5 hm
        rw [hG] at j
        exact j H locs ls hP hD hS (lv_sub hl [2, 3, 1, 0] rfl)
  rw [hG]
  intro H locs ls hP hD hS hl
  unfold mX7_allHeldIn at hm
  refine lv_lconst (v := (0 : Int64)) hx hb dX7_allHeldIn_0 (by decide) ?_
  refine lv_lstore_n (lv' := [(2, .long (0 : Int64)), (0, .ref (a 57)), (1, .int x1)]) hx hb dX7_allHeldIn_1 rfl hl (by decide) rfl (fun ls hl => ?_)
  refine lv_iconst (v := (0 : Int32)) hx hb dX7_allHeldIn_2 (by decide) ?_
  refine lv_istore (lv' := [(4, .int (0 : Int32)), (2, .long (0 : Int64)), (0, .ref (a 57)), (1, .int x1)]) hx hb dX7_allHeldIn_3 hl (by decide) rfl (fun ls hl => ?_)
  have j := J5 zz_N x1 (0 : Int64) (0 : Int32) hm
  rw [hG] at j
  exact j H locs ls hP hD hS (lv_sub hl [2, 3, 1, 0] rfl)
def mX4_reckonNet (ff : Nat) (x2 : Int32) (z : zz_M) : Option (Unit × zz_M) := zz_b1 (mX4_of ff (0 : Int32) x2 z) (fun r1 => zz_b1 (mX2_materials x2 z) (fun r3 => zz_b1 (mX4_ahead ff (14 : Int32) x2 z) (fun r5 => zz_b1 (mX4_fresh ff (0 : Int32) x2 z) (fun r7 => zz_b1 (mX2_adjustedFor r7 x2 z) (fun r9 => zz_nm (r5 + r9) (fun n11 => zz_b1 (mX8_of (0 : Int32) z) (fun r12 => zz_b1 (mX2_retained r12 r1 x2 z) (fun r14 => zz_b1 (mX4_ahead ff (4 : Int32) x2 z) (fun r16 => zz_b1 (mX2_recoveredFor r1 r16 x2 z) (fun r18 => zz_b1 (mX7_allHeldIn x2 z) (fun r20 => zz_b1 (mX2_damages x2 z) (fun r22 => zz_ck (zz_in (2 : Int32) 15) (zz_ck (zz_in x2 24) (zz_nm (zz_wJ z (ff + 2 + (2 : Int32).toNatClampNeg) x2 r3) (fun z26 => zz_ck (zz_in (14 : Int32) 15) (zz_ck (zz_in x2 24) (zz_nm (zz_wJ z26 (ff + 2 + (14 : Int32).toNatClampNeg) x2 n11) (fun z29 => zz_ck (zz_in (3 : Int32) 15) (zz_ck (zz_in x2 24) (zz_nm (zz_wJ z29 (ff + 2 + (3 : Int32).toNatClampNeg) x2 r14) (fun z32 => zz_ck (zz_in (4 : Int32) 15) (zz_ck (zz_in x2 24) (zz_nm (zz_wJ z32 (ff + 2 + (4 : Int32).toNatClampNeg) x2 r18) (fun z35 => zz_ck (zz_in (5 : Int32) 15) (zz_ck (zz_in x2 24) (zz_nm (zz_wJ z35 (ff + 2 + (5 : Int32).toNatClampNeg) x2 r20) (fun z38 => zz_ck (zz_in (13 : Int32) 15) (zz_ck (zz_in x2 24) (zz_nm (zz_wJ z38 (ff + 2 + (13 : Int32).toNatClampNeg) x2 r22) (fun z41 => zz_ck (zz_in (6 : Int32) 15) (zz_b1 (mX2_advanced z41) (fun r43 => zz_ck (zz_in x2 24) (zz_nm (zz_wJ z41 (ff + 2 + (6 : Int32).toNatClampNeg) x2 (((((((r1 + r3) + r43) + n11) - r14) - r18) - r20) - r22)) (fun z46 => some ((), z46)))))))))))))))))))))))))))))))))))
theorem nX4_reckonNet_X2 : ∀ w ∈ wsX20, w ∈ wsX4_reckonNet := fun _ h => List.mem_cons_of_mem _ (List.mem_append_left _ (List.mem_append_left _ (List.mem_append_left _ (List.mem_append_left _ (List.mem_append_left _ (List.mem_append_right _ (h)))))))
theorem nX4_reckonNet_X4 : ∀ w ∈ wsX40, w ∈ wsX4_reckonNet := fun _ h => List.mem_cons_of_mem _ (List.mem_append_left _ (List.mem_append_left _ (List.mem_append_left _ (List.mem_append_left _ (List.mem_append_right _ (h))))))
theorem zdX4_reckonNet : yX4_reckonNet.cls = RX4 ∧ yX4_reckonNet.cls ≠ "java/lang/invoke/MethodHandle" ∧ yX4_reckonNet.cls ≠ "java/lang/invoke/VarHandle" ∧ (parseMethodDescriptor yX4_reckonNet.desc).map (fun d => d.parameters.length) = some 2 := by decide +kernel
set_option maxHeartbeats 4000000 in
set_option maxRecDepth 100000 in
theorem zX4_reckonNet (l : Launch) (D : va_G) (y : Nat → ClassId) (a : Nat → Nat) (sz : Nat) (ff : Nat) (x2 : Int32) (hff : ff = 64 ∨ ff = 81) (z : zz_M) {r : Unit} {zt : zz_M} (hm : mX4_reckonNet ff x2 z = some (r, zt)) : Met l yX4_reckonNet wsX4_reckonNet { frames := 3, cells := 0, slots := 0, locals := 71 } (zz_Pc D y (wC y a z) sz [.ref (a ff), .ref (a 8), .int x2]) (zz_Qv D y (wC y a) (va_A (wC y a z) sz) zt) 0 0 (va_A (wC y a z) sz) := by
  refine Met.ofW (cc := cX4_reckonNet) (maxL := 17) (ret := none) (by decide) rfl ?_
  intro p e s m args below meth c s₁ B hml hv
  obtain ⟨rfl, hsz, hP, hK, hD0, hN, hg⟩ := hv
  have hx := B.exec
  have hb := B.bytes
  have hr := B.returns
  have hts := atoms_spec (ws := wsX4_reckonNet) B.pre
  have hown : s.vm.findClass RX4 = some m.cls := findClass_of_methodNamed B.named
  have hlocks := B.notSynchronized
  clear B
  subst hsz
  have hD := hD0.self (sz := s.heap.size)
  generalize hAe : va_A (wC y a z) s.heap.size = A at hD hg ⊢
  have hA : ∀ q : Nat, s.heap.size ≤ q → A q := fun q h => by rw [← hAe]; exact Or.inr h
  clear hAe hD0
  have hl := lv_entry ([.ref (a ff), .ref (a 8), .int x2]) (n := 17) (Nat.le_of_ble_eq_true rfl)
  rw [lg_entry_eq]
  generalize (lg_sl ([.ref (a ff), .ref (a 8), .int x2]) ++ List.replicate (17 - (lg_sl ([.ref (a ff), .ref (a 8), .int x2])).length) Slot.unset).toArray = ls at hl ⊢
  replace hl : lv_has ls 17 [(0, .ref (a ff)), (1, .ref (a 8)), (2, .int x2)] := hl
  refine zz_go (w := wC y a) hP hD va_S.rf hl (fun G hG => ?_)
  clear hP hD hl ls
  rw [hG]
  intro H locs ls hP hD hS hl
  unfold mX4_reckonNet at hm
  refine lv_aload_n hx hb dX4_reckonNet_0 rfl (lv_at hl 0 rfl) ?_
  refine lv_iconst (v := (0 : Int32)) hx hb dX4_reckonNet_1 (by decide) ?_
  refine lv_iload_n hx hb dX4_reckonNet_2 rfl (lv_at hl 2 rfl) ?_
  obtain ⟨r1, h2, hm⟩ := zz_b1_some hm
  refine zz_calll (zz_runV (w := wC y a) (As := [.int (0 : Int32), .int x2]) (rest := []) ⟨hx, hb, hml, hown, hts⟩ (zX4_of l D y a H.size ff (0 : Int32) x2 hff z h2) (cwV 2 hts gX4_reckonNet_X4_of rfl rfl rfl zdX4_of ⟨Nat.le_of_ble_eq_true rfl, Nat.le_of_ble_eq_true rfl⟩) hK hN hg hP hD hS hA ff (wC_fig y a z ff hff) rfl rfl hl.1 rfl (Nat.le_of_ble_eq_true rfl) dX4_reckonNet_3 ⟨Nat.le_of_ble_eq_true rfl, Nat.le_of_ble_eq_true rfl⟩) hD hS hA (fun H locs hP hD hS => ?_)
  refine lv_lstore_n (lv' := [(3, .long r1), (0, .ref (a ff)), (1, .ref (a 8)), (2, .int x2)]) hx hb dX4_reckonNet_6 rfl hl (by decide) rfl (fun ls hl => ?_)
  refine lv_aload_n hx hb dX4_reckonNet_7 rfl (lv_at hl 2 rfl) ?_
  refine lv_iload_n hx hb dX4_reckonNet_8 rfl (lv_at hl 3 rfl) ?_
  obtain ⟨r3, h4, hm⟩ := zz_b1_some hm
  refine zz_calll (zz_runV (w := wC y a) (As := [.int x2]) (rest := []) ⟨hx, hb, hml, hown, hts⟩ (zX2_materials l D y a H.size x2 z h4) (cwV 1 hts gX4_reckonNet_X2_materials rfl rfl rfl zdX2_materials ⟨Nat.le_of_ble_eq_true rfl, Nat.le_of_ble_eq_true rfl⟩) hK hN hg hP hD hS hA 8 (wC_8 y a z) rfl rfl hl.1 rfl (Nat.le_of_ble_eq_true rfl) dX4_reckonNet_9 ⟨Nat.le_of_ble_eq_true rfl, Nat.le_of_ble_eq_true rfl⟩) hD hS hA (fun H locs hP hD hS => ?_)
  refine lv_lstore (lv' := [(5, .long r3), (3, .long r1), (0, .ref (a ff)), (1, .ref (a 8)), (2, .int x2)]) hx hb dX4_reckonNet_12 hl (by decide) rfl (fun ls hl => ?_)
  refine lv_aload_n hx hb dX4_reckonNet_14 rfl (lv_at hl 2 rfl) ?_
  refine lv_bipush (v := (14 : Int32)) hx hb dX4_reckonNet_15 (by decide) ?_
  refine lv_iload_n hx hb dX4_reckonNet_17 rfl (lv_at hl 4 rfl) ?_
  obtain ⟨r5, h6, hm⟩ := zz_b1_some hm
  refine zz_calll (zz_runV (w := wC y a) (As := [.int (14 : Int32), .int x2]) (rest := []) ⟨hx, hb, hml, hown, hts⟩ (zX4_ahead l D y a H.size ff (14 : Int32) x2 hff z h6) (cwV 2 hts gX4_reckonNet_X4_ahead rfl rfl rfl zdX4_ahead ⟨Nat.le_of_ble_eq_true rfl, Nat.le_of_ble_eq_true rfl⟩) hK hN hg hP hD hS hA ff (wC_fig y a z ff hff) rfl rfl hl.1 rfl (Nat.le_of_ble_eq_true rfl) dX4_reckonNet_18 ⟨Nat.le_of_ble_eq_true rfl, Nat.le_of_ble_eq_true rfl⟩) hD hS hA (fun H locs hP hD hS => ?_)
  refine lv_aload_n hx hb dX4_reckonNet_21 rfl (lv_at hl 3 rfl) ?_
  refine lv_aload_n hx hb dX4_reckonNet_22 rfl (lv_at hl 2 rfl) ?_
  refine lv_iconst (v := (0 : Int32)) hx hb dX4_reckonNet_23 (by decide) ?_
  refine lv_iload_n hx hb dX4_reckonNet_24 rfl (lv_at hl 4 rfl) ?_
  obtain ⟨r7, h8, hm⟩ := zz_b1_some hm
  refine zz_calll (zz_runV (w := wC y a) (As := [.int (0 : Int32), .int x2]) (rest := [.ref (a 8), .long r5]) ⟨hx, hb, hml, hown, hts⟩ (zX4_fresh l D y a H.size ff (0 : Int32) x2 hff z h8) (cwV 2 hts gX4_reckonNet_X4_fresh rfl rfl rfl zdX4_fresh ⟨Nat.le_of_ble_eq_true rfl, Nat.le_of_ble_eq_true rfl⟩) hK hN hg hP hD hS hA ff (wC_fig y a z ff hff) rfl rfl hl.1 rfl (Nat.le_of_ble_eq_true rfl) dX4_reckonNet_25 ⟨Nat.le_of_ble_eq_true rfl, Nat.le_of_ble_eq_true rfl⟩) hD hS hA (fun H locs hP hD hS => ?_)
  refine lv_iload_n hx hb dX4_reckonNet_28 rfl (lv_at hl 4 rfl) ?_
  obtain ⟨r9, h10, hm⟩ := zz_b1_some hm
  refine zz_calll (zz_runV (w := wC y a) (As := [.long r7, .int x2]) (rest := [.long r5]) ⟨hx, hb, hml, hown, hts⟩ (zX2_adjustedFor l D y a H.size r7 x2 z h10) (cwV 2 hts gX4_reckonNet_X2_adjustedFor rfl rfl rfl zdX2_adjustedFor ⟨Nat.le_of_ble_eq_true rfl, Nat.le_of_ble_eq_true rfl⟩) hK hN hg hP hD hS hA 8 (wC_8 y a z) rfl rfl hl.1 rfl (Nat.le_of_ble_eq_true rfl) dX4_reckonNet_29 ⟨Nat.le_of_ble_eq_true rfl, Nat.le_of_ble_eq_true rfl⟩) hD hS hA (fun H locs hP hD hS => ?_)
  refine lv_ladd hx hb dX4_reckonNet_32 ?_
  refine lv_topl (fun n11 en11 => ?_)
  replace hm := zz_nm_some en11 hm
  refine lv_lstore (lv' := [(7, .long n11), (5, .long r3), (3, .long r1), (0, .ref (a ff)), (1, .ref (a 8)), (2, .int x2)]) hx hb dX4_reckonNet_33 hl (by decide) rfl (fun ls hl => ?_)
  refine lv_aload_n hx hb dX4_reckonNet_35 rfl (lv_at hl 4 rfl) ?_
  refine lv_aload_n hx hb dX4_reckonNet_36 rfl (lv_at hl 4 rfl) ?_
  refine va_get (D := D) (ci := 2) (v := .ref (a 13)) (C := RX2) (T := TX2) (N := 12) hx hb hts nX4_reckonNet_X2 hown hK hP 8 (wC_8 y a z) rfl 1 (by decide) (hts (.fieldLink RX4 45 "WorksDesk$Book" "clauses" "LWorksDesk$Terms;") (List.mem_of_getElem? (i := 1) rfl)) (fun _ h9 => h9) rfl dX4_reckonNet_37 ?_
  refine lv_iconst (v := (0 : Int32)) hx hb dX4_reckonNet_40 (by decide) ?_
  obtain ⟨r12, h13, hm⟩ := zz_b1_some hm
  refine zz_calli (zz_runV (w := wC y a) (As := [.int (0 : Int32)]) (rest := [.ref (a 8)]) ⟨hx, hb, hml, hown, hts⟩ (zX8_of l D y a H.size (0 : Int32) z h13) (cwV 1 hts gX4_reckonNet_X8_of rfl rfl rfl zdX8_of ⟨Nat.le_of_ble_eq_true rfl, Nat.le_of_ble_eq_true rfl⟩) hK hN hg hP hD hS hA 13 (wC_13 y a z) rfl rfl hl.1 rfl (Nat.le_of_ble_eq_true rfl) dX4_reckonNet_41 ⟨Nat.le_of_ble_eq_true rfl, Nat.le_of_ble_eq_true rfl⟩) hD hS hA (fun H locs hP hD hS => ?_)
  refine lv_lload_n hx hb dX4_reckonNet_44 rfl (lv_at hl 2 rfl) ?_
  refine lv_iload_n hx hb dX4_reckonNet_45 rfl (lv_at hl 5 rfl) ?_
  obtain ⟨r14, h15, hm⟩ := zz_b1_some hm
  refine zz_calll (zz_runV (w := wC y a) (As := [.int r12, .long r1, .int x2]) (rest := []) ⟨hx, hb, hml, hown, hts⟩ (zX2_retained l D y a H.size r12 r1 x2 z h15) (cwV 3 hts gX4_reckonNet_X2_retained rfl rfl rfl zdX2_retained ⟨Nat.le_of_ble_eq_true rfl, Nat.le_of_ble_eq_true rfl⟩) hK hN hg hP hD hS hA 8 (wC_8 y a z) rfl rfl hl.1 rfl (Nat.le_of_ble_eq_true rfl) dX4_reckonNet_46 ⟨Nat.le_of_ble_eq_true rfl, Nat.le_of_ble_eq_true rfl⟩) hD hS hA (fun H locs hP hD hS => ?_)
  refine lv_lstore (lv' := [(9, .long r14), (7, .long n11), (5, .long r3), (3, .long r1), (0, .ref (a ff)), (1, .ref (a 8)), (2, .int x2)]) hx hb dX4_reckonNet_49 hl (by decide) rfl (fun ls hl => ?_)
  refine lv_aload_n hx hb dX4_reckonNet_51 rfl (lv_at hl 5 rfl) ?_
  refine lv_lload_n hx hb dX4_reckonNet_52 rfl (lv_at hl 3 rfl) ?_
  refine lv_aload_n hx hb dX4_reckonNet_53 rfl (lv_at hl 4 rfl) ?_
  refine lv_iconst (v := (4 : Int32)) hx hb dX4_reckonNet_54 (by decide) ?_
  refine lv_iload_n hx hb dX4_reckonNet_55 rfl (lv_at hl 6 rfl) ?_
  obtain ⟨r16, h17, hm⟩ := zz_b1_some hm
  refine zz_calll (zz_runV (w := wC y a) (As := [.int (4 : Int32), .int x2]) (rest := [.long r1, .ref (a 8)]) ⟨hx, hb, hml, hown, hts⟩ (zX4_ahead l D y a H.size ff (4 : Int32) x2 hff z h17) (cwV 2 hts gX4_reckonNet_X4_ahead rfl rfl rfl zdX4_ahead ⟨Nat.le_of_ble_eq_true rfl, Nat.le_of_ble_eq_true rfl⟩) hK hN hg hP hD hS hA ff (wC_fig y a z ff hff) rfl rfl hl.1 rfl (Nat.le_of_ble_eq_true rfl) dX4_reckonNet_56 ⟨Nat.le_of_ble_eq_true rfl, Nat.le_of_ble_eq_true rfl⟩) hD hS hA (fun H locs hP hD hS => ?_)
  refine lv_iload_n hx hb dX4_reckonNet_59 rfl (lv_at hl 6 rfl) ?_
  obtain ⟨r18, h19, hm⟩ := zz_b1_some hm
  refine zz_calll (zz_runV (w := wC y a) (As := [.long r1, .long r16, .int x2]) (rest := []) ⟨hx, hb, hml, hown, hts⟩ (zX2_recoveredFor l D y a H.size r1 r16 x2 z h19) (cwV 3 hts gX4_reckonNet_X2_recoveredFor rfl rfl rfl zdX2_recoveredFor ⟨Nat.le_of_ble_eq_true rfl, Nat.le_of_ble_eq_true rfl⟩) hK hN hg hP hD hS hA 8 (wC_8 y a z) rfl rfl hl.1 rfl (Nat.le_of_ble_eq_true rfl) dX4_reckonNet_60 ⟨Nat.le_of_ble_eq_true rfl, Nat.le_of_ble_eq_true rfl⟩) hD hS hA (fun H locs hP hD hS => ?_)
  refine lv_lstore (lv' := [(11, .long r18), (9, .long r14), (7, .long n11), (5, .long r3), (3, .long r1), (0, .ref (a ff)), (1, .ref (a 8)), (2, .int x2)]) hx hb dX4_reckonNet_63 hl (by decide) rfl (fun ls hl => ?_)
  refine lv_aload_n hx hb dX4_reckonNet_65 rfl (lv_at hl 6 rfl) ?_
  refine va_get (D := D) (ci := 2) (v := .ref (a 57)) (C := RX2) (T := TX2) (N := 12) hx hb hts nX4_reckonNet_X2 hown hK hP 8 (wC_8 y a z) rfl 6 (by decide) (hts (.fieldLink RX4 80 "WorksDesk$Book" "setOffs" "LWorksDesk$SetOffs;") (List.mem_of_getElem? (i := 2) rfl)) (fun _ h9 => h9) rfl dX4_reckonNet_66 ?_
  refine lv_iload_n hx hb dX4_reckonNet_69 rfl (lv_at hl 7 rfl) ?_
  obtain ⟨r20, h21, hm⟩ := zz_b1_some hm
  refine zz_calll (zz_runV (w := wC y a) (As := [.int x2]) (rest := []) ⟨hx, hb, hml, hown, hts⟩ (zX7_allHeldIn l D y a H.size x2 z h21) (cwV 1 hts gX4_reckonNet_X7_allHeldIn rfl rfl rfl zdX7_allHeldIn ⟨Nat.le_of_ble_eq_true rfl, Nat.le_of_ble_eq_true rfl⟩) hK hN hg hP hD hS hA 57 (wC_57 y a z) rfl rfl hl.1 rfl (Nat.le_of_ble_eq_true rfl) dX4_reckonNet_70 ⟨Nat.le_of_ble_eq_true rfl, Nat.le_of_ble_eq_true rfl⟩) hD hS hA (fun H locs hP hD hS => ?_)
  refine lv_lstore (lv' := [(13, .long r20), (11, .long r18), (9, .long r14), (7, .long n11), (5, .long r3), (3, .long r1), (0, .ref (a ff)), (1, .ref (a 8)), (2, .int x2)]) hx hb dX4_reckonNet_73 hl (by decide) rfl (fun ls hl => ?_)
  refine lv_aload_n hx hb dX4_reckonNet_75 rfl (lv_at hl 7 rfl) ?_
  refine lv_iload_n hx hb dX4_reckonNet_76 rfl (lv_at hl 8 rfl) ?_
  obtain ⟨r22, h23, hm⟩ := zz_b1_some hm
  refine zz_calll (zz_runV (w := wC y a) (As := [.int x2]) (rest := []) ⟨hx, hb, hml, hown, hts⟩ (zX2_damages l D y a H.size x2 z h23) (cwV 1 hts gX4_reckonNet_X2_damages rfl rfl rfl zdX2_damages ⟨Nat.le_of_ble_eq_true rfl, Nat.le_of_ble_eq_true rfl⟩) hK hN hg hP hD hS hA 8 (wC_8 y a z) rfl rfl hl.1 rfl (Nat.le_of_ble_eq_true rfl) dX4_reckonNet_77 ⟨Nat.le_of_ble_eq_true rfl, Nat.le_of_ble_eq_true rfl⟩) hD hS hA (fun H locs hP hD hS => ?_)
  refine lv_lstore (lv' := [(15, .long r22), (13, .long r20), (11, .long r18), (9, .long r14), (7, .long n11), (5, .long r3), (3, .long r1), (0, .ref (a ff)), (1, .ref (a 8)), (2, .int x2)]) hx hb dX4_reckonNet_80 hl (by decide) rfl (fun ls hl => ?_)
  refine lv_aload_n hx hb dX4_reckonNet_82 rfl (lv_at hl 7 rfl) ?_
  refine va_get (D := D) (ci := 4) (v := .ref (a (ff + 1))) (C := RX4) (T := TX4) (N := 1) hx hb hts nX4_reckonNet_X4 hown hK hP ff (wC_fig y a z ff hff) rfl 0 (by decide) (hts (.fieldLink RX4 11 "WorksDesk$Figures" "rows" "[[J") (List.mem_of_getElem? (i := 3) rfl)) (fun _ h9 => h9) rfl dX4_reckonNet_83 ?_
  refine lv_iconst (v := (2 : Int32)) hx hb dX4_reckonNet_86 (by decide) ?_
  obtain ⟨c24, hm⟩ := zz_ck_some hm
  refine zz_aldA hx hb hK hP (ff + 1) 4 (wC_figR y a z ff hff) rfl c24 dX4_reckonNet_87 ?_
  refine W.eq (g2 := F0 m 88 ls [.ref (a (ff + 2 + (2 : Int32).toNatClampNeg))]) rfl ?_
  refine lv_iload_n hx hb dX4_reckonNet_88 rfl (lv_at hl 9 rfl) ?_
  refine lv_lload hx hb dX4_reckonNet_89 (lv_at hl 5 rfl) ?_
  obtain ⟨c25, hm⟩ := zz_ck_some hm
  refine va_last hx hb hK hP hD hS (ff + 2 + (2 : Int32).toNatClampNeg) 1 (wC_row y a z ff ((2 : Int32).toNatClampNeg) hff (zz_lt c24 (by decide))) rfl c25 dX4_reckonNet_91 (fun H locs hP hD hS => ?_)
  obtain ⟨z26, hP, hD, hm⟩ := zz_up (w := wC y a) (wC_roww y a z x2 r3 ff ((2 : Int32).toNatClampNeg) hff (zz_lt c24 (by decide))) hP hD hm
  refine lv_aload_n hx hb dX4_reckonNet_92 rfl (lv_at hl 7 rfl) ?_
  refine va_get (D := D) (ci := 4) (v := .ref (a (ff + 1))) (C := RX4) (T := TX4) (N := 1) hx hb hts nX4_reckonNet_X4 hown hK hP ff (wC_fig y a z26 ff hff) rfl 0 (by decide) (hts (.fieldLink RX4 11 "WorksDesk$Figures" "rows" "[[J") (List.mem_of_getElem? (i := 3) rfl)) (fun _ h9 => h9) rfl dX4_reckonNet_93 ?_
  refine lv_bipush (v := (14 : Int32)) hx hb dX4_reckonNet_96 (by decide) ?_
  obtain ⟨c27, hm⟩ := zz_ck_some hm
  refine zz_aldA hx hb hK hP (ff + 1) 4 (wC_figR y a z26 ff hff) rfl c27 dX4_reckonNet_98 ?_
  refine W.eq (g2 := F0 m 99 ls [.ref (a (ff + 2 + (14 : Int32).toNatClampNeg))]) rfl ?_
  refine lv_iload_n hx hb dX4_reckonNet_99 rfl (lv_at hl 9 rfl) ?_
  refine lv_lload hx hb dX4_reckonNet_100 (lv_at hl 4 rfl) ?_
  obtain ⟨c28, hm⟩ := zz_ck_some hm
  refine va_last hx hb hK hP hD hS (ff + 2 + (14 : Int32).toNatClampNeg) 1 (wC_row y a z26 ff ((14 : Int32).toNatClampNeg) hff (zz_lt c27 (by decide))) rfl c28 dX4_reckonNet_102 (fun H locs hP hD hS => ?_)
  obtain ⟨z29, hP, hD, hm⟩ := zz_up (w := wC y a) (wC_roww y a z26 x2 n11 ff ((14 : Int32).toNatClampNeg) hff (zz_lt c27 (by decide))) hP hD hm
  refine lv_aload_n hx hb dX4_reckonNet_103 rfl (lv_at hl 7 rfl) ?_
  refine va_get (D := D) (ci := 4) (v := .ref (a (ff + 1))) (C := RX4) (T := TX4) (N := 1) hx hb hts nX4_reckonNet_X4 hown hK hP ff (wC_fig y a z29 ff hff) rfl 0 (by decide) (hts (.fieldLink RX4 11 "WorksDesk$Figures" "rows" "[[J") (List.mem_of_getElem? (i := 3) rfl)) (fun _ h9 => h9) rfl dX4_reckonNet_104 ?_
  refine lv_iconst (v := (3 : Int32)) hx hb dX4_reckonNet_107 (by decide) ?_
  obtain ⟨c30, hm⟩ := zz_ck_some hm
  refine zz_aldA hx hb hK hP (ff + 1) 4 (wC_figR y a z29 ff hff) rfl c30 dX4_reckonNet_108 ?_
  refine W.eq (g2 := F0 m 109 ls [.ref (a (ff + 2 + (3 : Int32).toNatClampNeg))]) rfl ?_
  refine lv_iload_n hx hb dX4_reckonNet_109 rfl (lv_at hl 9 rfl) ?_
  refine lv_lload hx hb dX4_reckonNet_110 (lv_at hl 3 rfl) ?_
  obtain ⟨c31, hm⟩ := zz_ck_some hm
  refine va_last hx hb hK hP hD hS (ff + 2 + (3 : Int32).toNatClampNeg) 1 (wC_row y a z29 ff ((3 : Int32).toNatClampNeg) hff (zz_lt c30 (by decide))) rfl c31 dX4_reckonNet_112 (fun H locs hP hD hS => ?_)
  obtain ⟨z32, hP, hD, hm⟩ := zz_up (w := wC y a) (wC_roww y a z29 x2 r14 ff ((3 : Int32).toNatClampNeg) hff (zz_lt c30 (by decide))) hP hD hm
  refine lv_aload_n hx hb dX4_reckonNet_113 rfl (lv_at hl 7 rfl) ?_
  refine va_get (D := D) (ci := 4) (v := .ref (a (ff + 1))) (C := RX4) (T := TX4) (N := 1) hx hb hts nX4_reckonNet_X4 hown hK hP ff (wC_fig y a z32 ff hff) rfl 0 (by decide) (hts (.fieldLink RX4 11 "WorksDesk$Figures" "rows" "[[J") (List.mem_of_getElem? (i := 3) rfl)) (fun _ h9 => h9) rfl dX4_reckonNet_114 ?_
  refine lv_iconst (v := (4 : Int32)) hx hb dX4_reckonNet_117 (by decide) ?_
  obtain ⟨c33, hm⟩ := zz_ck_some hm
  refine zz_aldA hx hb hK hP (ff + 1) 4 (wC_figR y a z32 ff hff) rfl c33 dX4_reckonNet_118 ?_
  refine W.eq (g2 := F0 m 119 ls [.ref (a (ff + 2 + (4 : Int32).toNatClampNeg))]) rfl ?_
  refine lv_iload_n hx hb dX4_reckonNet_119 rfl (lv_at hl 9 rfl) ?_
  refine lv_lload hx hb dX4_reckonNet_120 (lv_at hl 2 rfl) ?_
  obtain ⟨c34, hm⟩ := zz_ck_some hm
  refine va_last hx hb hK hP hD hS (ff + 2 + (4 : Int32).toNatClampNeg) 1 (wC_row y a z32 ff ((4 : Int32).toNatClampNeg) hff (zz_lt c33 (by decide))) rfl c34 dX4_reckonNet_122 (fun H locs hP hD hS => ?_)
  obtain ⟨z35, hP, hD, hm⟩ := zz_up (w := wC y a) (wC_roww y a z32 x2 r18 ff ((4 : Int32).toNatClampNeg) hff (zz_lt c33 (by decide))) hP hD hm
  refine lv_aload_n hx hb dX4_reckonNet_123 rfl (lv_at hl 7 rfl) ?_
  refine va_get (D := D) (ci := 4) (v := .ref (a (ff + 1))) (C := RX4) (T := TX4) (N := 1) hx hb hts nX4_reckonNet_X4 hown hK hP ff (wC_fig y a z35 ff hff) rfl 0 (by decide) (hts (.fieldLink RX4 11 "WorksDesk$Figures" "rows" "[[J") (List.mem_of_getElem? (i := 3) rfl)) (fun _ h9 => h9) rfl dX4_reckonNet_124 ?_
  refine lv_iconst (v := (5 : Int32)) hx hb dX4_reckonNet_127 (by decide) ?_
  obtain ⟨c36, hm⟩ := zz_ck_some hm
  refine zz_aldA hx hb hK hP (ff + 1) 4 (wC_figR y a z35 ff hff) rfl c36 dX4_reckonNet_128 ?_
  refine W.eq (g2 := F0 m 129 ls [.ref (a (ff + 2 + (5 : Int32).toNatClampNeg))]) rfl ?_
  refine lv_iload_n hx hb dX4_reckonNet_129 rfl (lv_at hl 9 rfl) ?_
  refine lv_lload hx hb dX4_reckonNet_130 (lv_at hl 1 rfl) ?_
  obtain ⟨c37, hm⟩ := zz_ck_some hm
  refine va_last hx hb hK hP hD hS (ff + 2 + (5 : Int32).toNatClampNeg) 1 (wC_row y a z35 ff ((5 : Int32).toNatClampNeg) hff (zz_lt c36 (by decide))) rfl c37 dX4_reckonNet_132 (fun H locs hP hD hS => ?_)
  obtain ⟨z38, hP, hD, hm⟩ := zz_up (w := wC y a) (wC_roww y a z35 x2 r20 ff ((5 : Int32).toNatClampNeg) hff (zz_lt c36 (by decide))) hP hD hm
  refine lv_aload_n hx hb dX4_reckonNet_133 rfl (lv_at hl 7 rfl) ?_
  refine va_get (D := D) (ci := 4) (v := .ref (a (ff + 1))) (C := RX4) (T := TX4) (N := 1) hx hb hts nX4_reckonNet_X4 hown hK hP ff (wC_fig y a z38 ff hff) rfl 0 (by decide) (hts (.fieldLink RX4 11 "WorksDesk$Figures" "rows" "[[J") (List.mem_of_getElem? (i := 3) rfl)) (fun _ h9 => h9) rfl dX4_reckonNet_134 ?_
  refine lv_bipush (v := (13 : Int32)) hx hb dX4_reckonNet_137 (by decide) ?_
  obtain ⟨c39, hm⟩ := zz_ck_some hm
  refine zz_aldA hx hb hK hP (ff + 1) 4 (wC_figR y a z38 ff hff) rfl c39 dX4_reckonNet_139 ?_
  refine W.eq (g2 := F0 m 140 ls [.ref (a (ff + 2 + (13 : Int32).toNatClampNeg))]) rfl ?_
  refine lv_iload_n hx hb dX4_reckonNet_140 rfl (lv_at hl 9 rfl) ?_
  refine lv_lload hx hb dX4_reckonNet_141 (lv_at hl 0 rfl) ?_
  obtain ⟨c40, hm⟩ := zz_ck_some hm
  refine va_last hx hb hK hP hD hS (ff + 2 + (13 : Int32).toNatClampNeg) 1 (wC_row y a z38 ff ((13 : Int32).toNatClampNeg) hff (zz_lt c39 (by decide))) rfl c40 dX4_reckonNet_143 (fun H locs hP hD hS => ?_)
  obtain ⟨z41, hP, hD, hm⟩ := zz_up (w := wC y a) (wC_roww y a z38 x2 r22 ff ((13 : Int32).toNatClampNeg) hff (zz_lt c39 (by decide))) hP hD hm
  refine lv_aload_n hx hb dX4_reckonNet_144 rfl (lv_at hl 7 rfl) ?_
  refine va_get (D := D) (ci := 4) (v := .ref (a (ff + 1))) (C := RX4) (T := TX4) (N := 1) hx hb hts nX4_reckonNet_X4 hown hK hP ff (wC_fig y a z41 ff hff) rfl 0 (by decide) (hts (.fieldLink RX4 11 "WorksDesk$Figures" "rows" "[[J") (List.mem_of_getElem? (i := 3) rfl)) (fun _ h9 => h9) rfl dX4_reckonNet_145 ?_
  refine lv_bipush (v := (6 : Int32)) hx hb dX4_reckonNet_148 (by decide) ?_
  obtain ⟨c42, hm⟩ := zz_ck_some hm
  refine zz_aldA hx hb hK hP (ff + 1) 4 (wC_figR y a z41 ff hff) rfl c42 dX4_reckonNet_150 ?_
  refine W.eq (g2 := F0 m 151 ls [.ref (a (ff + 2 + (6 : Int32).toNatClampNeg))]) rfl ?_
  refine lv_iload_n hx hb dX4_reckonNet_151 rfl (lv_at hl 9 rfl) ?_
  refine lv_lload_n hx hb dX4_reckonNet_152 rfl (lv_at hl 6 rfl) ?_
  refine lv_lload hx hb dX4_reckonNet_153 (lv_at hl 5 rfl) ?_
  refine lv_ladd hx hb dX4_reckonNet_155 ?_
  refine lv_aload_n hx hb dX4_reckonNet_156 rfl (lv_at hl 8 rfl) ?_
  obtain ⟨r43, h44, hm⟩ := zz_b1_some hm
  refine zz_calll (zz_runV (w := wC y a) (As := []) (rest := [.long (r1 + r3), .int x2, .ref (a (ff + 2 + (6 : Int32).toNatClampNeg))]) ⟨hx, hb, hml, hown, hts⟩ (zX2_advanced l D y a H.size z41 h44) (cwV 0 hts gX4_reckonNet_X2_advanced rfl rfl rfl zdX2_advanced ⟨Nat.le_of_ble_eq_true rfl, Nat.le_of_ble_eq_true rfl⟩) hK hN hg hP hD hS hA 8 (wC_8 y a z41) rfl rfl hl.1 rfl (Nat.le_of_ble_eq_true rfl) dX4_reckonNet_157 ⟨Nat.le_of_ble_eq_true rfl, Nat.le_of_ble_eq_true rfl⟩) hD hS hA (fun H locs hP hD hS => ?_)
  refine lv_ladd hx hb dX4_reckonNet_160 ?_
  refine lv_lload hx hb dX4_reckonNet_161 (lv_at hl 4 rfl) ?_
  refine lv_ladd hx hb dX4_reckonNet_163 ?_
  refine lv_lload hx hb dX4_reckonNet_164 (lv_at hl 3 rfl) ?_
  refine lv_lsub hx hb dX4_reckonNet_166 ?_
  refine lv_lload hx hb dX4_reckonNet_167 (lv_at hl 2 rfl) ?_
  refine lv_lsub hx hb dX4_reckonNet_169 ?_
  refine lv_lload hx hb dX4_reckonNet_170 (lv_at hl 1 rfl) ?_
  refine lv_lsub hx hb dX4_reckonNet_172 ?_
  refine lv_lload hx hb dX4_reckonNet_173 (lv_at hl 0 rfl) ?_
  refine lv_lsub hx hb dX4_reckonNet_175 ?_
  obtain ⟨c45, hm⟩ := zz_ck_some hm
  refine va_last hx hb hK hP hD hS (ff + 2 + (6 : Int32).toNatClampNeg) 1 (wC_row y a z41 ff ((6 : Int32).toNatClampNeg) hff (zz_lt c42 (by decide))) rfl c45 dX4_reckonNet_176 (fun H locs hP hD hS => ?_)
  obtain ⟨z46, hP, hD, hm⟩ := zz_up (w := wC y a) (wC_roww y a z41 x2 (((((((r1 + r3) + r43) + n11) - r14) - r18) - r20) - r22) ff ((6 : Int32).toNatClampNeg) hff (zz_lt c42 (by decide))) hP hD hm
  exact zz_vret hx hb hr hlocks (zz_some2 hm).2 hP hK hD hS dX4_reckonNet_177
def mX4_reckon_b2 (ff : Nat) : Nat → Int32 → zz_M → Option (Unit × zz_M)
  | 0, _, _ => none
  | n + 1, v2, z => if (24 : Int32) ≤ v2 then (zz_b2 (mX4_reckonDebt ff 63 z) (fun r2 z4 => some ((), z4))) else (zz_ck (zz_in (0 : Int32) 15) (zz_b1 (mX2_work v2 z) (fun r6 => zz_ck (zz_in v2 24) (zz_nm (zz_wJ z (ff + 2 + (0 : Int32).toNatClampNeg) v2 r6) (fun z9 => zz_ck (zz_in (1 : Int32) 15) (zz_b1 (mX3_worthTill v2 z9) (fun r11 => zz_ck (zz_in v2 24) (zz_nm (zz_wJ z9 (ff + 2 + (1 : Int32).toNatClampNeg) v2 r11) (fun z14 => zz_b2 (mX4_reckonNet ff v2 z14) (fun r15 z17 => zz_b2 (mX4_reckonCertified ff v2 z17) (fun r18 z20 => zz_nm (v2 + (1 : Int32)) (fun n21 => (mX4_reckon_b2 ff n) n21 z20))))))))))))
def mX4_reckon (ff : Nat) (z : zz_M) : Option (Unit × zz_M) := mX4_reckon_b2 ff zz_N (0 : Int32) z
theorem nX4_reckon_X2 : ∀ w ∈ wsX20, w ∈ wsX4_reckon := fun _ h => List.mem_cons_of_mem _ (List.mem_append_left _ (List.mem_append_left _ (List.mem_append_left _ (List.mem_append_left _ (List.mem_append_left _ (List.mem_append_right _ (h)))))))
theorem nX4_reckon_X4 : ∀ w ∈ wsX40, w ∈ wsX4_reckon := fun _ h => List.mem_cons_of_mem _ (List.mem_append_left _ (List.mem_append_left _ (List.mem_append_left _ (List.mem_append_left _ (List.mem_append_left _ (List.mem_append_left _ (List.mem_append_right _ (h))))))))
theorem zdX4_reckon : yX4_reckon.cls = RX4 ∧ yX4_reckon.cls ≠ "java/lang/invoke/MethodHandle" ∧ yX4_reckon.cls ≠ "java/lang/invoke/VarHandle" ∧ (parseMethodDescriptor yX4_reckon.desc).map (fun d => d.parameters.length) = some 1 := by decide +kernel
set_option maxHeartbeats 4000000 in
set_option maxRecDepth 100000 in
theorem zX4_reckon (l : Launch) (D : va_G) (y : Nat → ClassId) (a : Nat → Nat) (sz : Nat) (ff : Nat) (hff : ff = 64 ∨ ff = 81) (z : zz_M) {r : Unit} {zt : zz_M} (hm : mX4_reckon ff z = some (r, zt)) : Met l yX4_reckon wsX4_reckon { frames := 4, cells := 0, slots := 0, locals := 107 } (zz_Pc D y (wC y a z) sz [.ref (a ff), .ref (a 8)]) (zz_Qv D y (wC y a) (va_A (wC y a z) sz) zt) 0 0 (va_A (wC y a z) sz) := by
  refine Met.ofW (cc := cX4_reckon) (maxL := 3) (ret := none) (by decide) rfl ?_
  intro p e s m args below meth c s₁ B hml hv
  obtain ⟨rfl, hsz, hP, hK, hD0, hN, hg⟩ := hv
  have hx := B.exec
  have hb := B.bytes
  have hr := B.returns
  have hts := atoms_spec (ws := wsX4_reckon) B.pre
  have hown : s.vm.findClass RX4 = some m.cls := findClass_of_methodNamed B.named
  have hlocks := B.notSynchronized
  clear B
  subst hsz
  have hD := hD0.self (sz := s.heap.size)
  generalize hAe : va_A (wC y a z) s.heap.size = A at hD hg ⊢
  have hA : ∀ q : Nat, s.heap.size ≤ q → A q := fun q h => by rw [← hAe]; exact Or.inr h
  clear hAe hD0
  have hl := lv_entry ([.ref (a ff), .ref (a 8)]) (n := 3) (Nat.le_of_ble_eq_true rfl)
  rw [lg_entry_eq]
  generalize (lg_sl ([.ref (a ff), .ref (a 8)]) ++ List.replicate (3 - (lg_sl ([.ref (a ff), .ref (a 8)])).length) Slot.unset).toArray = ls at hl ⊢
  replace hl : lv_has ls 3 [(0, .ref (a ff)), (1, .ref (a 8))] := hl
  refine zz_go (w := wC y a) hP hD va_S.rf hl (fun G hG => ?_)
  clear hP hD hl ls
  have J2 : ∀ (n : Nat) (v2 : Int32) (z : zz_M), mX4_reckon_b2 ff n v2 z = some (r, zt) → G 2 [(0, .ref (a ff)), (1, .ref (a 8)), (2, .int v2)] [] z := by
    intro n
    induction n with
    | zero =>
      intro v2 z hm
      exact zz_none hm
    | succ n ih =>
      intro v2 z hm
      rw [mX4_reckon_b2] at hm
      rw [hG]
      intro H locs ls hP hD hS hl
      refine lv_iload_n hx hb dX4_reckon_2 rfl (lv_at hl 2 rfl) ?_
      refine lv_bipush (v := (24 : Int32)) hx hb dX4_reckon_3 (by decide) ?_
      refine lv_icmp_ge (tgt := 55) hx hb dX4_reckon_5 (by decide) (fun c1 => ?_) (fun c1 => ?_)
      · replace hm := zz_pos c1 hm
        refine lv_aload_n hx hb dX4_reckon_55 rfl (lv_at hl 0 rfl) ?_
        refine lv_aload_n hx hb dX4_reckon_56 rfl (lv_at hl 1 rfl) ?_
        refine va_get (D := D) (ci := 2) (v := .ref (a 13)) (C := RX2) (T := TX2) (N := 12) hx hb hts nX4_reckon_X2 hown hK hP 8 (wC_8 y a z) rfl 1 (by decide) (hts (.fieldLink RX4 45 "WorksDesk$Book" "clauses" "LWorksDesk$Terms;") (List.mem_of_getElem? (i := 3) rfl)) (fun _ h9 => h9) rfl dX4_reckon_57 ?_
        refine lv_aload_n hx hb dX4_reckon_60 rfl (lv_at hl 1 rfl) ?_
        refine va_get (D := D) (ci := 2) (v := .ref (a 63)) (C := RX2) (T := TX2) (N := 12) hx hb hts nX4_reckon_X2 hown hK hP 8 (wC_8 y a z) rfl 7 (by decide) (hts (.fieldLink RX4 49 "WorksDesk$Book" "paid" "[J") (List.mem_of_getElem? (i := 4) rfl)) (fun _ h9 => h9) rfl dX4_reckon_61 ?_
        obtain ⟨r2, z4, h3, hm⟩ := zz_b2_some hm
        refine zz_callv (zz_runV (w := wC y a) (As := [.ref (a 13), .ref (a 63)]) (rest := []) ⟨hx, hb, hml, hown, hts⟩ (zX4_reckonDebt l D y a H.size ff 63 hff (Or.inl rfl) z h3) (cwV 2 hts gX4_reckon_X4_reckonDebt rfl rfl rfl zdX4_reckonDebt ⟨Nat.le_of_ble_eq_true rfl, Nat.le_of_ble_eq_true rfl⟩) hK hN hg hP hD hS hA ff (wC_fig y a z ff hff) rfl rfl hl.1 rfl (Nat.le_of_ble_eq_true rfl) dX4_reckon_64 ⟨Nat.le_of_ble_eq_true rfl, Nat.le_of_ble_eq_true rfl⟩) hD hS hA (fun H locs hP hD hS => ?_)
        exact zz_vret hx hb hr hlocks (zz_some2 hm).2 hP hK hD hS dX4_reckon_67
      · replace hm := zz_neg c1 hm
        refine lv_aload_n hx hb dX4_reckon_8 rfl (lv_at hl 0 rfl) ?_
        refine va_get (D := D) (ci := 4) (v := .ref (a (ff + 1))) (C := RX4) (T := TX4) (N := 1) hx hb hts nX4_reckon_X4 hown hK hP ff (wC_fig y a z ff hff) rfl 0 (by decide) (hts (.fieldLink RX4 11 "WorksDesk$Figures" "rows" "[[J") (List.mem_of_getElem? (i := 1) rfl)) (fun _ h9 => h9) rfl dX4_reckon_9 ?_
        refine lv_iconst (v := (0 : Int32)) hx hb dX4_reckon_12 (by decide) ?_
        obtain ⟨c5, hm⟩ := zz_ck_some hm
        refine zz_aldA hx hb hK hP (ff + 1) 4 (wC_figR y a z ff hff) rfl c5 dX4_reckon_13 ?_
        refine W.eq (g2 := F0 m 14 ls [.ref (a (ff + 2 + (0 : Int32).toNatClampNeg))]) rfl ?_
        refine lv_iload_n hx hb dX4_reckon_14 rfl (lv_at hl 2 rfl) ?_
        refine lv_aload_n hx hb dX4_reckon_15 rfl (lv_at hl 1 rfl) ?_
        refine lv_iload_n hx hb dX4_reckon_16 rfl (lv_at hl 2 rfl) ?_
        obtain ⟨r6, h7, hm⟩ := zz_b1_some hm
        refine zz_calll (zz_runV (w := wC y a) (As := [.int v2]) (rest := [.int v2, .ref (a (ff + 2 + (0 : Int32).toNatClampNeg))]) ⟨hx, hb, hml, hown, hts⟩ (zX2_work l D y a H.size v2 z h7) (cwV 1 hts gX4_reckon_X2_work rfl rfl rfl zdX2_work ⟨Nat.le_of_ble_eq_true rfl, Nat.le_of_ble_eq_true rfl⟩) hK hN hg hP hD hS hA 8 (wC_8 y a z) rfl rfl hl.1 rfl (Nat.le_of_ble_eq_true rfl) dX4_reckon_17 ⟨Nat.le_of_ble_eq_true rfl, Nat.le_of_ble_eq_true rfl⟩) hD hS hA (fun H locs hP hD hS => ?_)
        obtain ⟨c8, hm⟩ := zz_ck_some hm
        refine va_last hx hb hK hP hD hS (ff + 2 + (0 : Int32).toNatClampNeg) 1 (wC_row y a z ff ((0 : Int32).toNatClampNeg) hff (zz_lt c5 (by decide))) rfl c8 dX4_reckon_20 (fun H locs hP hD hS => ?_)
        obtain ⟨z9, hP, hD, hm⟩ := zz_up (w := wC y a) (wC_roww y a z v2 r6 ff ((0 : Int32).toNatClampNeg) hff (zz_lt c5 (by decide))) hP hD hm
        refine lv_aload_n hx hb dX4_reckon_21 rfl (lv_at hl 0 rfl) ?_
        refine va_get (D := D) (ci := 4) (v := .ref (a (ff + 1))) (C := RX4) (T := TX4) (N := 1) hx hb hts nX4_reckon_X4 hown hK hP ff (wC_fig y a z9 ff hff) rfl 0 (by decide) (hts (.fieldLink RX4 11 "WorksDesk$Figures" "rows" "[[J") (List.mem_of_getElem? (i := 1) rfl)) (fun _ h9 => h9) rfl dX4_reckon_22 ?_
        refine lv_iconst (v := (1 : Int32)) hx hb dX4_reckon_25 (by decide) ?_
        obtain ⟨c10, hm⟩ := zz_ck_some hm
        refine zz_aldA hx hb hK hP (ff + 1) 4 (wC_figR y a z9 ff hff) rfl c10 dX4_reckon_26 ?_
        refine W.eq (g2 := F0 m 27 ls [.ref (a (ff + 2 + (1 : Int32).toNatClampNeg))]) rfl ?_
        refine lv_iload_n hx hb dX4_reckon_27 rfl (lv_at hl 2 rfl) ?_
        refine lv_aload_n hx hb dX4_reckon_28 rfl (lv_at hl 1 rfl) ?_
        refine va_get (D := D) (ci := 2) (v := .ref (a 52)) (C := RX2) (T := TX2) (N := 12) hx hb hts nX4_reckon_X2 hown hK hP 8 (wC_8 y a z9) rfl 5 (by decide) (hts (.fieldLink RX4 29 "WorksDesk$Book" "changes" "LWorksDesk$Changes;") (List.mem_of_getElem? (i := 2) rfl)) (fun _ h9 => h9) rfl dX4_reckon_29 ?_
        refine lv_iload_n hx hb dX4_reckon_32 rfl (lv_at hl 2 rfl) ?_
        obtain ⟨r11, h12, hm⟩ := zz_b1_some hm
        refine zz_calll (zz_runV (w := wC y a) (As := [.int v2]) (rest := [.int v2, .ref (a (ff + 2 + (1 : Int32).toNatClampNeg))]) ⟨hx, hb, hml, hown, hts⟩ (zX3_worthTill l D y a H.size v2 z9 h12) (cwV 1 hts gX4_reckon_X3_worthTill rfl rfl rfl zdX3_worthTill ⟨Nat.le_of_ble_eq_true rfl, Nat.le_of_ble_eq_true rfl⟩) hK hN hg hP hD hS hA 52 (wC_52 y a z9) rfl rfl hl.1 rfl (Nat.le_of_ble_eq_true rfl) dX4_reckon_33 ⟨Nat.le_of_ble_eq_true rfl, Nat.le_of_ble_eq_true rfl⟩) hD hS hA (fun H locs hP hD hS => ?_)
        obtain ⟨c13, hm⟩ := zz_ck_some hm
        refine va_last hx hb hK hP hD hS (ff + 2 + (1 : Int32).toNatClampNeg) 1 (wC_row y a z9 ff ((1 : Int32).toNatClampNeg) hff (zz_lt c10 (by decide))) rfl c13 dX4_reckon_36 (fun H locs hP hD hS => ?_)
        obtain ⟨z14, hP, hD, hm⟩ := zz_up (w := wC y a) (wC_roww y a z9 v2 r11 ff ((1 : Int32).toNatClampNeg) hff (zz_lt c10 (by decide))) hP hD hm
        refine lv_aload_n hx hb dX4_reckon_37 rfl (lv_at hl 0 rfl) ?_
        refine lv_aload_n hx hb dX4_reckon_38 rfl (lv_at hl 1 rfl) ?_
        refine lv_iload_n hx hb dX4_reckon_39 rfl (lv_at hl 2 rfl) ?_
        obtain ⟨r15, z17, h16, hm⟩ := zz_b2_some hm
        refine zz_callv (zz_runV (w := wC y a) (As := [.ref (a 8), .int v2]) (rest := []) ⟨hx, hb, hml, hown, hts⟩ (zX4_reckonNet l D y a H.size ff v2 hff z14 h16) (cwV 2 hts gX4_reckon_X4_reckonNet rfl rfl rfl zdX4_reckonNet ⟨Nat.le_of_ble_eq_true rfl, Nat.le_of_ble_eq_true rfl⟩) hK hN hg hP hD hS hA ff (wC_fig y a z14 ff hff) rfl rfl hl.1 rfl (Nat.le_of_ble_eq_true rfl) dX4_reckon_40 ⟨Nat.le_of_ble_eq_true rfl, Nat.le_of_ble_eq_true rfl⟩) hD hS hA (fun H locs hP hD hS => ?_)
        refine lv_aload_n hx hb dX4_reckon_43 rfl (lv_at hl 0 rfl) ?_
        refine lv_aload_n hx hb dX4_reckon_44 rfl (lv_at hl 1 rfl) ?_
        refine lv_iload_n hx hb dX4_reckon_45 rfl (lv_at hl 2 rfl) ?_
        obtain ⟨r18, z20, h19, hm⟩ := zz_b2_some hm
        refine zz_callv (zz_runV (w := wC y a) (As := [.ref (a 8), .int v2]) (rest := []) ⟨hx, hb, hml, hown, hts⟩ (zX4_reckonCertified l D y a H.size ff v2 hff z17 h19) (cwV 2 hts gX4_reckon_X4_reckonCertified rfl rfl rfl zdX4_reckonCertified ⟨Nat.le_of_ble_eq_true rfl, Nat.le_of_ble_eq_true rfl⟩) hK hN hg hP hD hS hA ff (wC_fig y a z17 ff hff) rfl rfl hl.1 rfl (Nat.le_of_ble_eq_true rfl) dX4_reckon_46 ⟨Nat.le_of_ble_eq_true rfl, Nat.le_of_ble_eq_true rfl⟩) hD hS hA (fun H locs hP hD hS => ?_)
        obtain ⟨n21, en21⟩ : ∃ q : Int32, q = v2 + (1 : Int32) := ⟨_, rfl⟩
        replace hm := zz_nm_some en21 hm
        refine lv_iinc (v := n21) (lv' := [(2, .int n21), (0, .ref (a ff)), (1, .ref (a 8))]) hx hb dX4_reckon_49 hl (k := 2) rfl (by rw [en21]; rfl) (by decide) rfl (fun ls hl => ?_)
        refine lv_goto (tgt := 2) hx hb dX4_reckon_52 (by decide) ?_
        have j := ih n21 z20 hm
        rw [hG] at j
        exact j H locs ls hP hD hS (lv_sub hl [1, 2, 0] rfl)
  rw [hG]
  intro H locs ls hP hD hS hl
  unfold mX4_reckon at hm
  refine lv_iconst (v := (0 : Int32)) hx hb dX4_reckon_0 (by decide) ?_
  refine lv_istore_n (lv' := [(2, .int (0 : Int32)), (0, .ref (a ff)), (1, .ref (a 8))]) hx hb dX4_reckon_1 rfl hl (by decide) rfl (fun ls hl => ?_)
  have j := J2 zz_N (0 : Int32) z hm
  rw [hG] at j
  exact j H locs ls hP hD hS (lv_sub hl [1, 2, 0] rfl)
def mX10_account (z : zz_M) : Option (Int32 × zz_M) := zz_b1 (mX10_isMonth (z.2.2.1 521)) (fun r1 => if r1 = (0 : Int32) then (some ((-2 : Int32), z)) else (zz_b2 (mX4_reckon 64 z) (fun r4 z6 => zz_b1 (mX4_of 64 (12 : Int32) (z.2.2.1 521) z6) (fun r7 => zz_b1 (mX4_of 64 (0 : Int32) (z.2.2.1 521) z6) (fun r9 => zz_b2 (mX5_start r9 z6) (fun r11 z13 => zz_b1 (mX4_of 64 (5 : Int32) (z.2.2.1 521) z13) (fun r14 => zz_b2 (mX5_then r14 z13) (fun r16 z18 => zz_b2 (mX5_then r7 z18) (fun r19 z21 => zz_b1 (mX4_of 64 (8 : Int32) (z.2.2.1 521) z21) (fun r22 => zz_b2 (mX5_then (r22 - r7) z21) (fun r24 z26 => zz_b1 (mX4_of 64 (11 : Int32) (z.2.2.1 521) z26) (fun r27 => zz_b2 (mX5_then r27 z26) (fun r29 z31 => some ((0 : Int32), z31))))))))))))))
theorem nX10_account_X10 : ∀ w ∈ wsX100, w ∈ wsX10_account := fun _ h => List.mem_cons_of_mem _ (List.mem_append_left _ (List.mem_append_left _ (List.mem_append_left _ (List.mem_append_left _ (List.mem_append_left _ (List.mem_append_left _ (List.mem_append_left _ (List.mem_append_left _ (List.mem_append_right _ (h))))))))))
theorem nX10_account_X2 : ∀ w ∈ wsX20, w ∈ wsX10_account := fun _ h => List.mem_cons_of_mem _ (List.mem_append_left _ (List.mem_append_left _ (List.mem_append_left _ (List.mem_append_left _ (List.mem_append_left _ (List.mem_append_left _ (List.mem_append_left _ (List.mem_append_right _ (h)))))))))
theorem zdX10_account : yX10_account.cls = RX10 ∧ yX10_account.cls ≠ "java/lang/invoke/MethodHandle" ∧ yX10_account.cls ≠ "java/lang/invoke/VarHandle" ∧ (parseMethodDescriptor yX10_account.desc).map (fun d => d.parameters.length) = some 0 := by decide +kernel
set_option maxHeartbeats 4000000 in
set_option maxRecDepth 100000 in
theorem zX10_account (l : Launch) (D : va_G) (y : Nat → ClassId) (a : Nat → Nat) (sz : Nat) (z : zz_M) {r : Int32} {zt : zz_M} (hm : mX10_account z = some (r, zt)) : Met l yX10_account wsX10_account { frames := 5, cells := 0, slots := 0, locals := 129 } (zz_Pc D y (wC y a z) sz [.ref (a 0)]) (zz_Qi D y (wC y a) (va_A (wC y a z) sz) r zt) 0 0 (va_A (wC y a z) sz) := by
  refine Met.ofW (cc := cX10_account) (maxL := 4) (ret := (some .int)) (by decide) rfl ?_
  intro p e s m args below meth c s₁ B hml hv
  obtain ⟨rfl, hsz, hP, hK, hD0, hN, hg⟩ := hv
  have hx := B.exec
  have hb := B.bytes
  have hr := B.returns
  have hts := atoms_spec (ws := wsX10_account) B.pre
  have hown : s.vm.findClass RX10 = some m.cls := findClass_of_methodNamed B.named
  have hlocks := B.notSynchronized
  clear B
  subst hsz
  have hD := hD0.self (sz := s.heap.size)
  generalize hAe : va_A (wC y a z) s.heap.size = A at hD hg ⊢
  have hA : ∀ q : Nat, s.heap.size ≤ q → A q := fun q h => by rw [← hAe]; exact Or.inr h
  clear hAe hD0
  have hl := lv_entry ([.ref (a 0)]) (n := 4) (Nat.le_of_ble_eq_true rfl)
  rw [lg_entry_eq]
  generalize (lg_sl ([.ref (a 0)]) ++ List.replicate (4 - (lg_sl ([.ref (a 0)])).length) Slot.unset).toArray = ls at hl ⊢
  replace hl : lv_has ls 4 [(0, .ref (a 0))] := hl
  refine zz_go (w := wC y a) hP hD va_S.rf hl (fun G hG => ?_)
  clear hP hD hl ls
  rw [hG]
  intro H locs ls hP hD hS hl
  unfold mX10_account at hm
  refine lv_aload_n hx hb dX10_account_0 rfl (lv_at hl 0 rfl) ?_
  refine va_get (D := D) (ci := 10) (v := .ref (a 8)) (C := RX10) (T := TX10) (N := 7) hx hb hts nX10_account_X10 hown hK hP 0 (wC_0 y a z) rfl 2 (by decide) (hts (.fieldLink RX10 26 "WorksDesk" "book" "LWorksDesk$Book;") (List.mem_of_getElem? (i := 1) rfl)) (fun _ h9 => h9) rfl dX10_account_1 ?_
  refine va_get (D := D) (ci := 2) (v := .int (z.2.2.1 521)) (C := RX2) (T := TX2) (N := 12) hx hb hts nX10_account_X2 hown hK hP 8 (wC_8 y a z) rfl 9 (by decide) (hts (.fieldLink RX10 201 "WorksDesk$Book" "closed" "I") (List.mem_of_getElem? (i := 2) rfl)) (fun _ h9 => h9) rfl dX10_account_4 ?_
  refine lv_istore_n (lv' := [(1, .int (z.2.2.1 521)), (0, .ref (a 0))]) hx hb dX10_account_7 rfl hl (by decide) rfl (fun ls hl => ?_)
  refine lv_iload_n hx hb dX10_account_8 rfl (lv_at hl 0 rfl) ?_
  obtain ⟨r1, h2, hm⟩ := zz_b1_some hm
  refine zz_calli (zz_runS (w := wC y a) (As := [.int (z.2.2.1 521)]) (rest := []) ⟨hx, hb, hml, hown, hts⟩ (zX10_isMonth l D y a H.size (z.2.2.1 521) z h2) (va_cwS 1 hts gX10_account_X10_isMonth rfl rfl rfl zdX10_isMonth ⟨Nat.le_of_ble_eq_true rfl, Nat.le_of_ble_eq_true rfl⟩) hK hN hg hP hD hS hA rfl hl.1 rfl (Nat.le_of_ble_eq_true rfl) dX10_account_9 ⟨Nat.le_of_ble_eq_true rfl, Nat.le_of_ble_eq_true rfl⟩) hD hS hA (fun H locs hP hD hS => ?_)
  refine lv_if_ne (tgt := 18) hx hb dX10_account_12 (by decide) (fun c3 => ?_) (fun c3 => ?_)
  · replace hm := zz_neg c3 hm
    refine lv_aload_n hx hb dX10_account_18 rfl (lv_at hl 1 rfl) ?_
    refine va_get (D := D) (ci := 10) (v := .ref (a 64)) (C := RX10) (T := TX10) (N := 7) hx hb hts nX10_account_X10 hown hK hP 0 (wC_0 y a z) rfl 3 (by decide) (hts (.fieldLink RX10 33 "WorksDesk" "real" "LWorksDesk$Figures;") (List.mem_of_getElem? (i := 3) rfl)) (fun _ h9 => h9) rfl dX10_account_19 ?_
    refine lv_aload_n hx hb dX10_account_22 rfl (lv_at hl 1 rfl) ?_
    refine va_get (D := D) (ci := 10) (v := .ref (a 8)) (C := RX10) (T := TX10) (N := 7) hx hb hts nX10_account_X10 hown hK hP 0 (wC_0 y a z) rfl 2 (by decide) (hts (.fieldLink RX10 26 "WorksDesk" "book" "LWorksDesk$Book;") (List.mem_of_getElem? (i := 1) rfl)) (fun _ h9 => h9) rfl dX10_account_23 ?_
    obtain ⟨r4, z6, h5, hm⟩ := zz_b2_some hm
    refine zz_callv (zz_runV (w := wC y a) (As := [.ref (a 8)]) (rest := []) ⟨hx, hb, hml, hown, hts⟩ (zX4_reckon l D y a H.size 64 (Or.inl rfl) z h5) (cwV 1 hts gX10_account_X4_reckon rfl rfl rfl zdX4_reckon ⟨Nat.le_of_ble_eq_true rfl, Nat.le_of_ble_eq_true rfl⟩) hK hN hg hP hD hS hA 64 (wC_fig y a z 64 (Or.inl rfl)) rfl rfl hl.1 rfl (Nat.le_of_ble_eq_true rfl) dX10_account_26 ⟨Nat.le_of_ble_eq_true rfl, Nat.le_of_ble_eq_true rfl⟩) hD hS hA (fun H locs hP hD hS => ?_)
    refine lv_aload_n hx hb dX10_account_29 rfl (lv_at hl 1 rfl) ?_
    refine va_get (D := D) (ci := 10) (v := .ref (a 64)) (C := RX10) (T := TX10) (N := 7) hx hb hts nX10_account_X10 hown hK hP 0 (wC_0 y a z6) rfl 3 (by decide) (hts (.fieldLink RX10 33 "WorksDesk" "real" "LWorksDesk$Figures;") (List.mem_of_getElem? (i := 3) rfl)) (fun _ h9 => h9) rfl dX10_account_30 ?_
    refine lv_bipush (v := (12 : Int32)) hx hb dX10_account_33 (by decide) ?_
    refine lv_iload_n hx hb dX10_account_35 rfl (lv_at hl 0 rfl) ?_
    obtain ⟨r7, h8, hm⟩ := zz_b1_some hm
    refine zz_calll (zz_runV (w := wC y a) (As := [.int (12 : Int32), .int (z.2.2.1 521)]) (rest := []) ⟨hx, hb, hml, hown, hts⟩ (zX4_of l D y a H.size 64 (12 : Int32) (z.2.2.1 521) (Or.inl rfl) z6 h8) (cwV 2 hts gX10_account_X4_of rfl rfl rfl zdX4_of ⟨Nat.le_of_ble_eq_true rfl, Nat.le_of_ble_eq_true rfl⟩) hK hN hg hP hD hS hA 64 (wC_fig y a z6 64 (Or.inl rfl)) rfl rfl hl.1 rfl (Nat.le_of_ble_eq_true rfl) dX10_account_36 ⟨Nat.le_of_ble_eq_true rfl, Nat.le_of_ble_eq_true rfl⟩) hD hS hA (fun H locs hP hD hS => ?_)
    refine lv_lstore_n (lv' := [(2, .long r7), (1, .int (z.2.2.1 521)), (0, .ref (a 0))]) hx hb dX10_account_39 rfl hl (by decide) rfl (fun ls hl => ?_)
    refine lv_aload_n hx hb dX10_account_40 rfl (lv_at hl 2 rfl) ?_
    refine va_get (D := D) (ci := 10) (v := .ref (a 99)) (C := RX10) (T := TX10) (N := 7) hx hb hts nX10_account_X10 hown hK hP 0 (wC_0 y a z6) rfl 6 (by decide) (hts (.fieldLink RX10 47 "WorksDesk" "lastRow" "LWorksDesk$Row;") (List.mem_of_getElem? (i := 4) rfl)) (fun _ h9 => h9) rfl dX10_account_41 ?_
    refine lv_aload_n hx hb dX10_account_44 rfl (lv_at hl 2 rfl) ?_
    refine va_get (D := D) (ci := 10) (v := .ref (a 64)) (C := RX10) (T := TX10) (N := 7) hx hb hts nX10_account_X10 hown hK hP 0 (wC_0 y a z6) rfl 3 (by decide) (hts (.fieldLink RX10 33 "WorksDesk" "real" "LWorksDesk$Figures;") (List.mem_of_getElem? (i := 3) rfl)) (fun _ h9 => h9) rfl dX10_account_45 ?_
    refine lv_iconst (v := (0 : Int32)) hx hb dX10_account_48 (by decide) ?_
    refine lv_iload_n hx hb dX10_account_49 rfl (lv_at hl 1 rfl) ?_
    obtain ⟨r9, h10, hm⟩ := zz_b1_some hm
    refine zz_calll (zz_runV (w := wC y a) (As := [.int (0 : Int32), .int (z.2.2.1 521)]) (rest := [.ref (a 99)]) ⟨hx, hb, hml, hown, hts⟩ (zX4_of l D y a H.size 64 (0 : Int32) (z.2.2.1 521) (Or.inl rfl) z6 h10) (cwV 2 hts gX10_account_X4_of rfl rfl rfl zdX4_of ⟨Nat.le_of_ble_eq_true rfl, Nat.le_of_ble_eq_true rfl⟩) hK hN hg hP hD hS hA 64 (wC_fig y a z6 64 (Or.inl rfl)) rfl rfl hl.1 rfl (Nat.le_of_ble_eq_true rfl) dX10_account_50 ⟨Nat.le_of_ble_eq_true rfl, Nat.le_of_ble_eq_true rfl⟩) hD hS hA (fun H locs hP hD hS => ?_)
    obtain ⟨r11, z13, h12, hm⟩ := zz_b2_some hm
    refine zz_callr (zz_runV (w := wC y a) (As := [.long r9]) (rest := []) ⟨hx, hb, hml, hown, hts⟩ (zX5_start l D y a H.size r9 z6 h12) (cwV 1 hts gX10_account_X5_start rfl rfl rfl zdX5_start ⟨Nat.le_of_ble_eq_true rfl, Nat.le_of_ble_eq_true rfl⟩) hK hN hg hP hD hS hA 99 (wC_99 y a z6) rfl rfl hl.1 rfl (Nat.le_of_ble_eq_true rfl) dX10_account_53 ⟨Nat.le_of_ble_eq_true rfl, Nat.le_of_ble_eq_true rfl⟩) hD hS hA (fun H locs hP hD hS => ?_)
    refine lv_aload_n hx hb dX10_account_56 rfl (lv_at hl 2 rfl) ?_
    refine va_get (D := D) (ci := 10) (v := .ref (a 64)) (C := RX10) (T := TX10) (N := 7) hx hb hts nX10_account_X10 hown hK hP 0 (wC_0 y a z13) rfl 3 (by decide) (hts (.fieldLink RX10 33 "WorksDesk" "real" "LWorksDesk$Figures;") (List.mem_of_getElem? (i := 3) rfl)) (fun _ h9 => h9) rfl dX10_account_57 ?_
    refine lv_iconst (v := (5 : Int32)) hx hb dX10_account_60 (by decide) ?_
    refine lv_iload_n hx hb dX10_account_61 rfl (lv_at hl 1 rfl) ?_
    obtain ⟨r14, h15, hm⟩ := zz_b1_some hm
    refine zz_calll (zz_runV (w := wC y a) (As := [.int (5 : Int32), .int (z.2.2.1 521)]) (rest := [.ref (a 99)]) ⟨hx, hb, hml, hown, hts⟩ (zX4_of l D y a H.size 64 (5 : Int32) (z.2.2.1 521) (Or.inl rfl) z13 h15) (cwV 2 hts gX10_account_X4_of rfl rfl rfl zdX4_of ⟨Nat.le_of_ble_eq_true rfl, Nat.le_of_ble_eq_true rfl⟩) hK hN hg hP hD hS hA 64 (wC_fig y a z13 64 (Or.inl rfl)) rfl rfl hl.1 rfl (Nat.le_of_ble_eq_true rfl) dX10_account_62 ⟨Nat.le_of_ble_eq_true rfl, Nat.le_of_ble_eq_true rfl⟩) hD hS hA (fun H locs hP hD hS => ?_)
    obtain ⟨r16, z18, h17, hm⟩ := zz_b2_some hm
    refine zz_callr (zz_runV (w := wC y a) (As := [.long r14]) (rest := []) ⟨hx, hb, hml, hown, hts⟩ (zX5_then l D y a H.size r14 z13 h17) (cwV 1 hts gX10_account_X5_then rfl rfl rfl zdX5_then ⟨Nat.le_of_ble_eq_true rfl, Nat.le_of_ble_eq_true rfl⟩) hK hN hg hP hD hS hA 99 (wC_99 y a z13) rfl rfl hl.1 rfl (Nat.le_of_ble_eq_true rfl) dX10_account_65 ⟨Nat.le_of_ble_eq_true rfl, Nat.le_of_ble_eq_true rfl⟩) hD hS hA (fun H locs hP hD hS => ?_)
    refine lv_lload_n hx hb dX10_account_68 rfl (lv_at hl 0 rfl) ?_
    obtain ⟨r19, z21, h20, hm⟩ := zz_b2_some hm
    refine zz_callr (zz_runV (w := wC y a) (As := [.long r7]) (rest := []) ⟨hx, hb, hml, hown, hts⟩ (zX5_then l D y a H.size r7 z18 h20) (cwV 1 hts gX10_account_X5_then rfl rfl rfl zdX5_then ⟨Nat.le_of_ble_eq_true rfl, Nat.le_of_ble_eq_true rfl⟩) hK hN hg hP hD hS hA 99 (wC_99 y a z18) rfl rfl hl.1 rfl (Nat.le_of_ble_eq_true rfl) dX10_account_69 ⟨Nat.le_of_ble_eq_true rfl, Nat.le_of_ble_eq_true rfl⟩) hD hS hA (fun H locs hP hD hS => ?_)
    refine lv_pop hx hb dX10_account_72 rfl ?_
    refine lv_aload_n hx hb dX10_account_73 rfl (lv_at hl 2 rfl) ?_
    refine va_get (D := D) (ci := 10) (v := .ref (a 99)) (C := RX10) (T := TX10) (N := 7) hx hb hts nX10_account_X10 hown hK hP 0 (wC_0 y a z21) rfl 6 (by decide) (hts (.fieldLink RX10 47 "WorksDesk" "lastRow" "LWorksDesk$Row;") (List.mem_of_getElem? (i := 4) rfl)) (fun _ h9 => h9) rfl dX10_account_74 ?_
    refine lv_aload_n hx hb dX10_account_77 rfl (lv_at hl 2 rfl) ?_
    refine va_get (D := D) (ci := 10) (v := .ref (a 64)) (C := RX10) (T := TX10) (N := 7) hx hb hts nX10_account_X10 hown hK hP 0 (wC_0 y a z21) rfl 3 (by decide) (hts (.fieldLink RX10 33 "WorksDesk" "real" "LWorksDesk$Figures;") (List.mem_of_getElem? (i := 3) rfl)) (fun _ h9 => h9) rfl dX10_account_78 ?_
    refine lv_bipush (v := (8 : Int32)) hx hb dX10_account_81 (by decide) ?_
    refine lv_iload_n hx hb dX10_account_83 rfl (lv_at hl 1 rfl) ?_
    obtain ⟨r22, h23, hm⟩ := zz_b1_some hm
    refine zz_calll (zz_runV (w := wC y a) (As := [.int (8 : Int32), .int (z.2.2.1 521)]) (rest := [.ref (a 99)]) ⟨hx, hb, hml, hown, hts⟩ (zX4_of l D y a H.size 64 (8 : Int32) (z.2.2.1 521) (Or.inl rfl) z21 h23) (cwV 2 hts gX10_account_X4_of rfl rfl rfl zdX4_of ⟨Nat.le_of_ble_eq_true rfl, Nat.le_of_ble_eq_true rfl⟩) hK hN hg hP hD hS hA 64 (wC_fig y a z21 64 (Or.inl rfl)) rfl rfl hl.1 rfl (Nat.le_of_ble_eq_true rfl) dX10_account_84 ⟨Nat.le_of_ble_eq_true rfl, Nat.le_of_ble_eq_true rfl⟩) hD hS hA (fun H locs hP hD hS => ?_)
    refine lv_lload_n hx hb dX10_account_87 rfl (lv_at hl 0 rfl) ?_
    refine lv_lsub hx hb dX10_account_88 ?_
    obtain ⟨r24, z26, h25, hm⟩ := zz_b2_some hm
    refine zz_callr (zz_runV (w := wC y a) (As := [.long (r22 - r7)]) (rest := []) ⟨hx, hb, hml, hown, hts⟩ (zX5_then l D y a H.size (r22 - r7) z21 h25) (cwV 1 hts gX10_account_X5_then rfl rfl rfl zdX5_then ⟨Nat.le_of_ble_eq_true rfl, Nat.le_of_ble_eq_true rfl⟩) hK hN hg hP hD hS hA 99 (wC_99 y a z21) rfl rfl hl.1 rfl (Nat.le_of_ble_eq_true rfl) dX10_account_89 ⟨Nat.le_of_ble_eq_true rfl, Nat.le_of_ble_eq_true rfl⟩) hD hS hA (fun H locs hP hD hS => ?_)
    refine lv_aload_n hx hb dX10_account_92 rfl (lv_at hl 2 rfl) ?_
    refine va_get (D := D) (ci := 10) (v := .ref (a 64)) (C := RX10) (T := TX10) (N := 7) hx hb hts nX10_account_X10 hown hK hP 0 (wC_0 y a z26) rfl 3 (by decide) (hts (.fieldLink RX10 33 "WorksDesk" "real" "LWorksDesk$Figures;") (List.mem_of_getElem? (i := 3) rfl)) (fun _ h9 => h9) rfl dX10_account_93 ?_
    refine lv_bipush (v := (11 : Int32)) hx hb dX10_account_96 (by decide) ?_
    refine lv_iload_n hx hb dX10_account_98 rfl (lv_at hl 1 rfl) ?_
    obtain ⟨r27, h28, hm⟩ := zz_b1_some hm
    refine zz_calll (zz_runV (w := wC y a) (As := [.int (11 : Int32), .int (z.2.2.1 521)]) (rest := [.ref (a 99)]) ⟨hx, hb, hml, hown, hts⟩ (zX4_of l D y a H.size 64 (11 : Int32) (z.2.2.1 521) (Or.inl rfl) z26 h28) (cwV 2 hts gX10_account_X4_of rfl rfl rfl zdX4_of ⟨Nat.le_of_ble_eq_true rfl, Nat.le_of_ble_eq_true rfl⟩) hK hN hg hP hD hS hA 64 (wC_fig y a z26 64 (Or.inl rfl)) rfl rfl hl.1 rfl (Nat.le_of_ble_eq_true rfl) dX10_account_99 ⟨Nat.le_of_ble_eq_true rfl, Nat.le_of_ble_eq_true rfl⟩) hD hS hA (fun H locs hP hD hS => ?_)
    obtain ⟨r29, z31, h30, hm⟩ := zz_b2_some hm
    refine zz_callr (zz_runV (w := wC y a) (As := [.long r27]) (rest := []) ⟨hx, hb, hml, hown, hts⟩ (zX5_then l D y a H.size r27 z26 h30) (cwV 1 hts gX10_account_X5_then rfl rfl rfl zdX5_then ⟨Nat.le_of_ble_eq_true rfl, Nat.le_of_ble_eq_true rfl⟩) hK hN hg hP hD hS hA 99 (wC_99 y a z26) rfl rfl hl.1 rfl (Nat.le_of_ble_eq_true rfl) dX10_account_102 ⟨Nat.le_of_ble_eq_true rfl, Nat.le_of_ble_eq_true rfl⟩) hD hS hA (fun H locs hP hD hS => ?_)
    refine lv_pop hx hb dX10_account_105 rfl ?_
    refine lv_iconst (v := (0 : Int32)) hx hb dX10_account_106 (by decide) ?_
    exact zz_iret hx hb hr hlocks (zz_some2 hm) hP hK hD hS dX10_account_107
  · replace hm := zz_pos c3 hm
    refine lv_bipush (v := (-2 : Int32)) hx hb dX10_account_15 (by decide) ?_
    exact zz_iret hx hb hr hlocks (zz_some2 hm) hP hK hD hS dX10_account_17
def mX10_isChanged_b22 (t0 : Int32) : Option Int32 := zz_ck (zz_bool t0) (some t0)
def mX10_isChanged_b21 : Option Int32 := mX10_isChanged_b22 (0 : Int32)
def mX10_isChanged (x0 : Int32) : Option Int32 := if x0 = (0 : Int32) then (mX10_isChanged_b21) else (zz_b1 (mX10_isWithin x0 (-999 : Int32) (999 : Int32)) (fun r3 => if r3 = (0 : Int32) then (mX10_isChanged_b21) else (mX10_isChanged_b22 (1 : Int32))))
theorem zdX10_isChanged : yX10_isChanged.cls ≠ "java/lang/invoke/MethodHandle" ∧ yX10_isChanged.cls ≠ "java/lang/invoke/VarHandle" ∧ (parseMethodDescriptor yX10_isChanged.desc).map (fun d => d.parameters.length) = some 1 := by decide +kernel
set_option maxHeartbeats 4000000 in
set_option maxRecDepth 100000 in
theorem zX10_isChanged (l : Launch) (D : va_G) (y : Nat → ClassId) (a : Nat → Nat) (sz : Nat) (x0 : Int32) (z : zz_M) {r : Int32} (hm : mX10_isChanged x0 = some r) : Met l yX10_isChanged wsX10_isChanged { frames := 1, cells := 0, slots := 0, locals := 22 } (zz_Pc D y (wC y a z) sz [.int x0]) (zz_Qi D y (wC y a) (va_A (wC y a z) sz) r z) 0 0 (va_A (wC y a z) sz) := by
  refine Met.ofW (cc := cX10_isChanged) (maxL := 1) (ret := (some .boolean)) (by decide) rfl ?_
  intro p e s m args below meth c s₁ B hml hv
  obtain ⟨rfl, hsz, hP, hK, hD0, hN, hg⟩ := hv
  have hx := B.exec
  have hb := B.bytes
  have hr := B.returns
  have hts := atoms_spec (ws := wsX10_isChanged) B.pre
  have hown : s.vm.findClass RX10 = some m.cls := findClass_of_methodNamed B.named
  have hlocks := B.notSynchronized
  clear B
  subst hsz
  have hD := hD0.self (sz := s.heap.size)
  generalize hAe : va_A (wC y a z) s.heap.size = A at hD hg ⊢
  have hA : ∀ q : Nat, s.heap.size ≤ q → A q := fun q h => by rw [← hAe]; exact Or.inr h
  clear hAe hD0
  have hl := lv_entry ([.int x0]) (n := 1) (Nat.le_of_ble_eq_true rfl)
  rw [lg_entry_eq]
  generalize (lg_sl ([.int x0]) ++ List.replicate (1 - (lg_sl ([.int x0])).length) Slot.unset).toArray = ls at hl ⊢
  replace hl : lv_has ls 1 [(0, .int x0)] := hl
  refine zz_go (w := wC y a) hP hD va_S.rf hl (fun G hG => ?_)
  clear hP hD hl ls
  have J22 : ∀ (t0 : Int32), mX10_isChanged_b22 t0 = some r → G 22 [] [.int t0] z := by
    intro t0 hm
    rw [mX10_isChanged_b22] at hm
    rw [hG]
    intro H locs ls hP hD hS hl
    obtain ⟨c1, hm⟩ := zz_ck_some hm
    exact zz_zret hx hb hr hlocks c1 ⟨zz_some1 hm, rfl⟩ hP hK hD hS dX10_isChanged_22
  have J21 : mX10_isChanged_b21 = some r → G 21 [] [] z := by
    intro hm
    rw [mX10_isChanged_b21] at hm
    rw [hG]
    intro H locs ls hP hD hS hl
    refine lv_iconst (v := (0 : Int32)) hx hb dX10_isChanged_21 (by decide) ?_
    have j := J22 (0 : Int32) hm
    rw [hG] at j
    exact j H locs ls hP hD hS (lv_sub hl [] rfl)
  rw [hG]
  intro H locs ls hP hD hS hl
  unfold mX10_isChanged at hm
  refine lv_iload_n hx hb dX10_isChanged_0 rfl (lv_at hl 0 rfl) ?_
  refine lv_if_eq (tgt := 21) hx hb dX10_isChanged_1 (by decide) (fun c2 => ?_) (fun c2 => ?_)
  · replace hm := zz_pos c2 hm
    have j := J21 hm
    rw [hG] at j
    exact j H locs ls hP hD hS (lv_sub hl [] rfl)
  · replace hm := zz_neg c2 hm
    refine lv_iload_n hx hb dX10_isChanged_4 rfl (lv_at hl 0 rfl) ?_
    refine lv_sipush (v := (-999 : Int32)) hx hb dX10_isChanged_5 (by decide) ?_
    refine lv_sipush (v := (999 : Int32)) hx hb dX10_isChanged_8 (by decide) ?_
    obtain ⟨r3, h4, hm⟩ := zz_b1_some hm
    refine zz_calli (zz_runS (w := wC y a) (As := [.int x0, .int (-999 : Int32), .int (999 : Int32)]) (rest := []) ⟨hx, hb, hml, hown, hts⟩ (zX10_isWithin l D y a H.size x0 (-999 : Int32) (999 : Int32) z h4) (va_cwS 3 hts gX10_isChanged_X10_isWithin rfl rfl rfl zdX10_isWithin ⟨Nat.le_of_ble_eq_true rfl, Nat.le_of_ble_eq_true rfl⟩) hK hN hg hP hD hS hA rfl hl.1 rfl (Nat.le_of_ble_eq_true rfl) dX10_isChanged_11 ⟨Nat.le_of_ble_eq_true rfl, Nat.le_of_ble_eq_true rfl⟩) hD hS hA (fun H locs hP hD hS => ?_)
    refine lv_if_eq (tgt := 21) hx hb dX10_isChanged_14 (by decide) (fun c5 => ?_) (fun c5 => ?_)
    · replace hm := zz_pos c5 hm
      have j := J21 hm
      rw [hG] at j
      exact j H locs ls hP hD hS (lv_sub hl [] rfl)
    · replace hm := zz_neg c5 hm
      refine lv_iconst (v := (1 : Int32)) hx hb dX10_isChanged_17 (by decide) ?_
      refine lv_goto (tgt := 22) hx hb dX10_isChanged_18 (by decide) ?_
      have j := J22 (1 : Int32) hm
      rw [hG] at j
      exact j H locs ls hP hD hS (lv_sub hl [] rfl)
def mX3_has_b17 (z : zz_M) (t0 : Int32) : Option Int32 := zz_ck (zz_bool t0) (some t0)
def mX3_has_b16 (z : zz_M) : Option Int32 := mX3_has_b17 z (0 : Int32)
def mX3_has (x1 : Int32) (z : zz_M) : Option Int32 := if x1 < (0 : Int32) then (mX3_has_b16 z) else (if (z.2.2.1 3332) ≤ x1 then (mX3_has_b16 z) else (mX3_has_b17 z (1 : Int32)))
theorem nX3_has_X3 : ∀ w ∈ wsX30, w ∈ wsX3_has := fun _ h => List.mem_cons_of_mem _ (List.mem_append_right _ (h))
theorem zdX3_has : yX3_has.cls = RX3 ∧ yX3_has.cls ≠ "java/lang/invoke/MethodHandle" ∧ yX3_has.cls ≠ "java/lang/invoke/VarHandle" ∧ (parseMethodDescriptor yX3_has.desc).map (fun d => d.parameters.length) = some 1 := by decide +kernel
set_option maxHeartbeats 4000000 in
set_option maxRecDepth 100000 in
theorem zX3_has (l : Launch) (D : va_G) (y : Nat → ClassId) (a : Nat → Nat) (sz : Nat) (x1 : Int32) (z : zz_M) {r : Int32} (hm : mX3_has x1 z = some r) : Met l yX3_has wsX3_has { frames := 0, cells := 0, slots := 0, locals := 0 } (zz_Pc D y (wC y a z) sz [.ref (a 52), .int x1]) (zz_Qi D y (wC y a) (va_A (wC y a z) sz) r z) 0 0 (va_A (wC y a z) sz) := by
  refine Met.ofW (cc := cX3_has) (maxL := 2) (ret := (some .boolean)) (by decide) rfl ?_
  intro p e s m args below meth c s₁ B hml hv
  obtain ⟨rfl, hsz, hP, hK, hD0, hN, hg⟩ := hv
  have hx := B.exec
  have hb := B.bytes
  have hr := B.returns
  have hts := atoms_spec (ws := wsX3_has) B.pre
  have hown : s.vm.findClass RX3 = some m.cls := findClass_of_methodNamed B.named
  have hlocks := B.notSynchronized
  clear B
  subst hsz
  have hD := hD0.self (sz := s.heap.size)
  generalize hAe : va_A (wC y a z) s.heap.size = A at hD hg ⊢
  have hA : ∀ q : Nat, s.heap.size ≤ q → A q := fun q h => by rw [← hAe]; exact Or.inr h
  clear hAe hD0
  have hl := lv_entry ([.ref (a 52), .int x1]) (n := 2) (Nat.le_of_ble_eq_true rfl)
  rw [lg_entry_eq]
  generalize (lg_sl ([.ref (a 52), .int x1]) ++ List.replicate (2 - (lg_sl ([.ref (a 52), .int x1])).length) Slot.unset).toArray = ls at hl ⊢
  replace hl : lv_has ls 2 [(0, .ref (a 52)), (1, .int x1)] := hl
  refine zz_go (w := wC y a) hP hD va_S.rf hl (fun G hG => ?_)
  clear hP hD hl ls
  have J17 : ∀ (t0 : Int32), mX3_has_b17 z t0 = some r → G 17 [] [.int t0] z := by
    intro t0 hm
    rw [mX3_has_b17] at hm
    rw [hG]
    intro H locs ls hP hD hS hl
    obtain ⟨c1, hm⟩ := zz_ck_some hm
    exact zz_zret hx hb hr hlocks c1 ⟨zz_some1 hm, rfl⟩ hP hK hD hS dX3_has_17
  have J16 : mX3_has_b16 z = some r → G 16 [] [] z := by
    intro hm
    rw [mX3_has_b16] at hm
    rw [hG]
    intro H locs ls hP hD hS hl
    refine lv_iconst (v := (0 : Int32)) hx hb dX3_has_16 (by decide) ?_
    have j := J17 (0 : Int32) hm
    rw [hG] at j
    exact j H locs ls hP hD hS (lv_sub hl [] rfl)
  rw [hG]
  intro H locs ls hP hD hS hl
  unfold mX3_has at hm
  refine lv_iload_n hx hb dX3_has_0 rfl (lv_at hl 1 rfl) ?_
  refine lv_if_lt (tgt := 16) hx hb dX3_has_1 (by decide) (fun c2 => ?_) (fun c2 => ?_)
  · replace hm := zz_pos c2 hm
    have j := J16 hm
    rw [hG] at j
    exact j H locs ls hP hD hS (lv_sub hl [] rfl)
  · replace hm := zz_neg c2 hm
    refine lv_iload_n hx hb dX3_has_4 rfl (lv_at hl 1 rfl) ?_
    refine lv_aload_n hx hb dX3_has_5 rfl (lv_at hl 0 rfl) ?_
    refine va_get (D := D) (ci := 3) (v := .int (z.2.2.1 3332)) (C := RX3) (T := TX3) (N := 5) hx hb hts nX3_has_X3 hown hK hP 52 (wC_52 y a z) rfl 4 (by decide) (hts (.fieldLink RX3 24 "WorksDesk$Changes" "size" "I") (List.mem_of_getElem? (i := 1) rfl)) (fun _ h9 => h9) rfl dX3_has_6 ?_
    refine lv_icmp_ge (tgt := 16) hx hb dX3_has_9 (by decide) (fun c3 => ?_) (fun c3 => ?_)
    · replace hm := zz_pos c3 hm
      have j := J16 hm
      rw [hG] at j
      exact j H locs ls hP hD hS (lv_sub hl [] rfl)
    · replace hm := zz_neg c3 hm
      refine lv_iconst (v := (1 : Int32)) hx hb dX3_has_12 (by decide) ?_
      refine lv_goto (tgt := 17) hx hb dX3_has_13 (by decide) ?_
      have j := J17 (1 : Int32) hm
      rw [hG] at j
      exact j H locs ls hP hD hS (lv_sub hl [] rfl)
def mX10_alters_b21 (z : zz_M) : Option (Int32 × zz_M) := some ((-1 : Int32), z)
def mX10_alters (x1 : Int32) (x2 : Int32) (z : zz_M) : Option (Int32 × zz_M) := zz_b1 (mX3_has x1 z) (fun r1 => if r1 = (0 : Int32) then (mX10_alters_b21 z) else (zz_b1 (mX10_isChanged x2) (fun r4 => if r4 = (0 : Int32) then (mX10_alters_b21 z) else (zz_ck (zz_in x1 8) (zz_nm (z.1 55 x1.toNatClampNeg) (fun n8 => if n8 = x2 then (some ((-2 : Int32), z)) else (zz_ck (zz_in x1 8) (zz_nm (zz_wI z 55 x1 x2) (fun z11 => some (n8, z11))))))))))
theorem nX10_alters_X10 : ∀ w ∈ wsX100, w ∈ wsX10_alters := fun _ h => List.mem_cons_of_mem _ (List.mem_append_left _ (List.mem_append_left _ (List.mem_append_right _ (h))))
theorem nX10_alters_X2 : ∀ w ∈ wsX20, w ∈ wsX10_alters := fun _ h => List.mem_cons_of_mem _ (List.mem_append_left _ (List.mem_append_right _ (h)))
theorem nX10_alters_X3 : ∀ w ∈ wsX30, w ∈ wsX10_alters := fun _ h => List.mem_cons_of_mem _ (List.mem_append_right _ (h))
theorem zdX10_alters : yX10_alters.cls = RX10 ∧ yX10_alters.cls ≠ "java/lang/invoke/MethodHandle" ∧ yX10_alters.cls ≠ "java/lang/invoke/VarHandle" ∧ (parseMethodDescriptor yX10_alters.desc).map (fun d => d.parameters.length) = some 2 := by decide +kernel
set_option maxHeartbeats 4000000 in
set_option maxRecDepth 100000 in
theorem zX10_alters (l : Launch) (D : va_G) (y : Nat → ClassId) (a : Nat → Nat) (sz : Nat) (x1 : Int32) (x2 : Int32) (z : zz_M) {r : Int32} {zt : zz_M} (hm : mX10_alters x1 x2 z = some (r, zt)) : Met l yX10_alters wsX10_alters { frames := 2, cells := 0, slots := 0, locals := 42 } (zz_Pc D y (wC y a z) sz [.ref (a 0), .int x1, .int x2]) (zz_Qi D y (wC y a) (va_A (wC y a z) sz) r zt) 0 0 (va_A (wC y a z) sz) := by
  refine Met.ofW (cc := cX10_alters) (maxL := 4) (ret := (some .int)) (by decide) rfl ?_
  intro p e s m args below meth c s₁ B hml hv
  obtain ⟨rfl, hsz, hP, hK, hD0, hN, hg⟩ := hv
  have hx := B.exec
  have hb := B.bytes
  have hr := B.returns
  have hts := atoms_spec (ws := wsX10_alters) B.pre
  have hown : s.vm.findClass RX10 = some m.cls := findClass_of_methodNamed B.named
  have hlocks := B.notSynchronized
  clear B
  subst hsz
  have hD := hD0.self (sz := s.heap.size)
  generalize hAe : va_A (wC y a z) s.heap.size = A at hD hg ⊢
  have hA : ∀ q : Nat, s.heap.size ≤ q → A q := fun q h => by rw [← hAe]; exact Or.inr h
  clear hAe hD0
  have hl := lv_entry ([.ref (a 0), .int x1, .int x2]) (n := 4) (Nat.le_of_ble_eq_true rfl)
  rw [lg_entry_eq]
  generalize (lg_sl ([.ref (a 0), .int x1, .int x2]) ++ List.replicate (4 - (lg_sl ([.ref (a 0), .int x1, .int x2])).length) Slot.unset).toArray = ls at hl ⊢
  replace hl : lv_has ls 4 [(0, .ref (a 0)), (1, .int x1), (2, .int x2)] := hl
  refine zz_go (w := wC y a) hP hD va_S.rf hl (fun G hG => ?_)
  clear hP hD hl ls
  have J21 : ∀ (z : zz_M), mX10_alters_b21 z = some (r, zt) → G 21 [] [] z := by
    intro z hm
    rw [mX10_alters_b21] at hm
    rw [hG]
    intro H locs ls hP hD hS hl
    refine lv_iconst (v := (-1 : Int32)) hx hb dX10_alters_21 (by decide) ?_
    exact zz_iret hx hb hr hlocks (zz_some2 hm) hP hK hD hS dX10_alters_22
  rw [hG]
  intro H locs ls hP hD hS hl
  unfold mX10_alters at hm
  refine lv_aload_n hx hb dX10_alters_0 rfl (lv_at hl 0 rfl) ?_
  refine va_get (D := D) (ci := 10) (v := .ref (a 8)) (C := RX10) (T := TX10) (N := 7) hx hb hts nX10_alters_X10 hown hK hP 0 (wC_0 y a z) rfl 2 (by decide) (hts (.fieldLink RX10 26 "WorksDesk" "book" "LWorksDesk$Book;") (List.mem_of_getElem? (i := 1) rfl)) (fun _ h9 => h9) rfl dX10_alters_1 ?_
  refine va_get (D := D) (ci := 2) (v := .ref (a 52)) (C := RX2) (T := TX2) (N := 12) hx hb hts nX10_alters_X2 hown hK hP 8 (wC_8 y a z) rfl 5 (by decide) (hts (.fieldLink RX10 143 "WorksDesk$Book" "changes" "LWorksDesk$Changes;") (List.mem_of_getElem? (i := 2) rfl)) (fun _ h9 => h9) rfl dX10_alters_4 ?_
  refine lv_iload_n hx hb dX10_alters_7 rfl (lv_at hl 1 rfl) ?_
  obtain ⟨r1, h2, hm⟩ := zz_b1_some hm
  refine zz_calli (zz_runV (w := wC y a) (As := [.int x1]) (rest := []) ⟨hx, hb, hml, hown, hts⟩ (zX3_has l D y a H.size x1 z h2) (cwV 1 hts gX10_alters_X3_has rfl rfl rfl zdX3_has ⟨Nat.le_of_ble_eq_true rfl, Nat.le_of_ble_eq_true rfl⟩) hK hN hg hP hD hS hA 52 (wC_52 y a z) rfl rfl hl.1 rfl (Nat.le_of_ble_eq_true rfl) dX10_alters_8 ⟨Nat.le_of_ble_eq_true rfl, Nat.le_of_ble_eq_true rfl⟩) hD hS hA (fun H locs hP hD hS => ?_)
  refine lv_if_eq (tgt := 21) hx hb dX10_alters_11 (by decide) (fun c3 => ?_) (fun c3 => ?_)
  · replace hm := zz_pos c3 hm
    have j := J21 z hm
    rw [hG] at j
    exact j H locs ls hP hD hS (lv_sub hl [] rfl)
  · replace hm := zz_neg c3 hm
    refine lv_iload_n hx hb dX10_alters_14 rfl (lv_at hl 2 rfl) ?_
    obtain ⟨r4, h5, hm⟩ := zz_b1_some hm
    refine zz_calli (zz_runS (w := wC y a) (As := [.int x2]) (rest := []) ⟨hx, hb, hml, hown, hts⟩ (zX10_isChanged l D y a H.size x2 z h5) (va_cwS 1 hts gX10_alters_X10_isChanged rfl rfl rfl zdX10_isChanged ⟨Nat.le_of_ble_eq_true rfl, Nat.le_of_ble_eq_true rfl⟩) hK hN hg hP hD hS hA rfl hl.1 rfl (Nat.le_of_ble_eq_true rfl) dX10_alters_15 ⟨Nat.le_of_ble_eq_true rfl, Nat.le_of_ble_eq_true rfl⟩) hD hS hA (fun H locs hP hD hS => ?_)
    refine lv_if_ne (tgt := 23) hx hb dX10_alters_18 (by decide) (fun c6 => ?_) (fun c6 => ?_)
    · replace hm := zz_neg c6 hm
      refine lv_aload_n hx hb dX10_alters_23 rfl (lv_at hl 0 rfl) ?_
      refine va_get (D := D) (ci := 10) (v := .ref (a 8)) (C := RX10) (T := TX10) (N := 7) hx hb hts nX10_alters_X10 hown hK hP 0 (wC_0 y a z) rfl 2 (by decide) (hts (.fieldLink RX10 26 "WorksDesk" "book" "LWorksDesk$Book;") (List.mem_of_getElem? (i := 1) rfl)) (fun _ h9 => h9) rfl dX10_alters_24 ?_
      refine va_get (D := D) (ci := 2) (v := .ref (a 52)) (C := RX2) (T := TX2) (N := 12) hx hb hts nX10_alters_X2 hown hK hP 8 (wC_8 y a z) rfl 5 (by decide) (hts (.fieldLink RX10 143 "WorksDesk$Book" "changes" "LWorksDesk$Changes;") (List.mem_of_getElem? (i := 2) rfl)) (fun _ h9 => h9) rfl dX10_alters_27 ?_
      refine va_get (D := D) (ci := 3) (v := .ref (a 55)) (C := RX3) (T := TX3) (N := 5) hx hb hts nX10_alters_X3 hown hK hP 52 (wC_52 y a z) rfl 2 (by decide) (hts (.fieldLink RX10 159 "WorksDesk$Changes" "quantities" "[I") (List.mem_of_getElem? (i := 3) rfl)) (fun _ h9 => h9) rfl dX10_alters_30 ?_
      refine lv_iload_n hx hb dX10_alters_33 rfl (lv_at hl 1 rfl) ?_
      obtain ⟨c7, hm⟩ := zz_ck_some hm
      refine va_iald hx hb hK hP 55 0 (wC_55 y a z) rfl c7 dX10_alters_34 ?_
      refine lv_topi (fun n8 en8 => ?_)
      replace hm := zz_nm_some en8 hm
      refine lv_istore_n (lv' := [(3, .int n8), (0, .ref (a 0)), (1, .int x1), (2, .int x2)]) hx hb dX10_alters_35 rfl hl (by decide) rfl (fun ls hl => ?_)
      refine lv_iload_n hx hb dX10_alters_36 rfl (lv_at hl 0 rfl) ?_
      refine lv_iload_n hx hb dX10_alters_37 rfl (lv_at hl 3 rfl) ?_
      refine lv_icmp_ne (tgt := 44) hx hb dX10_alters_38 (by decide) (fun c9 => ?_) (fun c9 => ?_)
      · replace hm := zz_neg c9 hm
        refine lv_aload_n hx hb dX10_alters_44 rfl (lv_at hl 1 rfl) ?_
        refine va_get (D := D) (ci := 10) (v := .ref (a 8)) (C := RX10) (T := TX10) (N := 7) hx hb hts nX10_alters_X10 hown hK hP 0 (wC_0 y a z) rfl 2 (by decide) (hts (.fieldLink RX10 26 "WorksDesk" "book" "LWorksDesk$Book;") (List.mem_of_getElem? (i := 1) rfl)) (fun _ h9 => h9) rfl dX10_alters_45 ?_
        refine va_get (D := D) (ci := 2) (v := .ref (a 52)) (C := RX2) (T := TX2) (N := 12) hx hb hts nX10_alters_X2 hown hK hP 8 (wC_8 y a z) rfl 5 (by decide) (hts (.fieldLink RX10 143 "WorksDesk$Book" "changes" "LWorksDesk$Changes;") (List.mem_of_getElem? (i := 2) rfl)) (fun _ h9 => h9) rfl dX10_alters_48 ?_
        refine va_get (D := D) (ci := 3) (v := .ref (a 55)) (C := RX3) (T := TX3) (N := 5) hx hb hts nX10_alters_X3 hown hK hP 52 (wC_52 y a z) rfl 2 (by decide) (hts (.fieldLink RX10 159 "WorksDesk$Changes" "quantities" "[I") (List.mem_of_getElem? (i := 3) rfl)) (fun _ h9 => h9) rfl dX10_alters_51 ?_
        refine lv_iload_n hx hb dX10_alters_54 rfl (lv_at hl 2 rfl) ?_
        refine lv_iload_n hx hb dX10_alters_55 rfl (lv_at hl 3 rfl) ?_
        obtain ⟨c10, hm⟩ := zz_ck_some hm
        refine va_iast hx hb hK hP hD hS 55 0 (wC_55 y a z) rfl c10 dX10_alters_56 (fun H locs hP hD hS => ?_)
        obtain ⟨z11, hP, hD, hm⟩ := zz_up (w := wC y a) (wC_w55 y a z x1 x2) hP hD hm
        refine lv_iload_n hx hb dX10_alters_57 rfl (lv_at hl 0 rfl) ?_
        exact zz_iret hx hb hr hlocks (zz_some2 hm) hP hK hD hS dX10_alters_58
      · replace hm := zz_pos c9 hm
        refine lv_bipush (v := (-2 : Int32)) hx hb dX10_alters_41 (by decide) ?_
        exact zz_iret hx hb hr hlocks (zz_some2 hm) hP hK hD hS dX10_alters_43
    · replace hm := zz_pos c6 hm
      have j := J21 z hm
      rw [hG] at j
      exact j H locs ls hP hD hS (lv_sub hl [] rfl)
def mX9_signAt_b22 (z : zz_M) (t0 : Int32) : Option Int32 := some t0
def mX9_signAt_b21 (z : zz_M) : Option Int32 := mX9_signAt_b22 z (-1 : Int32)
def mX9_signAt (x1 : Int32) (z : zz_M) : Option Int32 := if x1 < (0 : Int32) then (mX9_signAt_b21 z) else (if (z.2.2.1 65) ≤ x1 then (mX9_signAt_b21 z) else (zz_ck (zz_in x1 120) (mX9_signAt_b22 z (z.1 2 x1.toNatClampNeg))))
theorem nX9_signAt_X9 : ∀ w ∈ wsX90, w ∈ wsX9_signAt := fun _ h => List.mem_cons_of_mem _ (List.mem_append_right _ (h))
theorem zdX9_signAt : yX9_signAt.cls = RX9 ∧ yX9_signAt.cls ≠ "java/lang/invoke/MethodHandle" ∧ yX9_signAt.cls ≠ "java/lang/invoke/VarHandle" ∧ (parseMethodDescriptor yX9_signAt.desc).map (fun d => d.parameters.length) = some 1 := by decide +kernel
set_option maxHeartbeats 4000000 in
set_option maxRecDepth 100000 in
theorem zX9_signAt (l : Launch) (D : va_G) (y : Nat → ClassId) (a : Nat → Nat) (sz : Nat) (x1 : Int32) (z : zz_M) {r : Int32} (hm : mX9_signAt x1 z = some r) : Met l yX9_signAt wsX9_signAt { frames := 0, cells := 0, slots := 0, locals := 0 } (zz_Pc D y (wC y a z) sz [.ref (a 1), .int x1]) (zz_Qi D y (wC y a) (va_A (wC y a z) sz) r z) 0 0 (va_A (wC y a z) sz) := by
  refine Met.ofW (cc := cX9_signAt) (maxL := 2) (ret := (some .int)) (by decide) rfl ?_
  intro p e s m args below meth c s₁ B hml hv
  obtain ⟨rfl, hsz, hP, hK, hD0, hN, hg⟩ := hv
  have hx := B.exec
  have hb := B.bytes
  have hr := B.returns
  have hts := atoms_spec (ws := wsX9_signAt) B.pre
  have hown : s.vm.findClass RX9 = some m.cls := findClass_of_methodNamed B.named
  have hlocks := B.notSynchronized
  clear B
  subst hsz
  have hD := hD0.self (sz := s.heap.size)
  generalize hAe : va_A (wC y a z) s.heap.size = A at hD hg ⊢
  have hA : ∀ q : Nat, s.heap.size ≤ q → A q := fun q h => by rw [← hAe]; exact Or.inr h
  clear hAe hD0
  have hl := lv_entry ([.ref (a 1), .int x1]) (n := 2) (Nat.le_of_ble_eq_true rfl)
  rw [lg_entry_eq]
  generalize (lg_sl ([.ref (a 1), .int x1]) ++ List.replicate (2 - (lg_sl ([.ref (a 1), .int x1])).length) Slot.unset).toArray = ls at hl ⊢
  replace hl : lv_has ls 2 [(0, .ref (a 1)), (1, .int x1)] := hl
  refine zz_go (w := wC y a) hP hD va_S.rf hl (fun G hG => ?_)
  clear hP hD hl ls
  have J22 : ∀ (t0 : Int32), mX9_signAt_b22 z t0 = some r → G 22 [] [.int t0] z := by
    intro t0 hm
    rw [mX9_signAt_b22] at hm
    rw [hG]
    intro H locs ls hP hD hS hl
    exact zz_iret hx hb hr hlocks ⟨zz_some1 hm, rfl⟩ hP hK hD hS dX9_signAt_22
  have J21 : mX9_signAt_b21 z = some r → G 21 [] [] z := by
    intro hm
    rw [mX9_signAt_b21] at hm
    rw [hG]
    intro H locs ls hP hD hS hl
    refine lv_iconst (v := (-1 : Int32)) hx hb dX9_signAt_21 (by decide) ?_
    have j := J22 (-1 : Int32) hm
    rw [hG] at j
    exact j H locs ls hP hD hS (lv_sub hl [] rfl)
  rw [hG]
  intro H locs ls hP hD hS hl
  unfold mX9_signAt at hm
  refine lv_iload_n hx hb dX9_signAt_0 rfl (lv_at hl 1 rfl) ?_
  refine lv_if_lt (tgt := 21) hx hb dX9_signAt_1 (by decide) (fun c1 => ?_) (fun c1 => ?_)
  · replace hm := zz_pos c1 hm
    have j := J21 hm
    rw [hG] at j
    exact j H locs ls hP hD hS (lv_sub hl [] rfl)
  · replace hm := zz_neg c1 hm
    refine lv_iload_n hx hb dX9_signAt_4 rfl (lv_at hl 1 rfl) ?_
    refine lv_aload_n hx hb dX9_signAt_5 rfl (lv_at hl 0 rfl) ?_
    refine va_get (D := D) (ci := 9) (v := .int (z.2.2.1 65)) (C := RX9) (T := TX9) (N := 2) hx hb hts nX9_signAt_X9 hown hK hP 1 (wC_1 y a z) rfl 1 (by decide) (hts (.fieldLink RX9 15 "WorksDesk$Text" "size" "I") (List.mem_of_getElem? (i := 1) rfl)) (fun _ h9 => h9) rfl dX9_signAt_6 ?_
    refine lv_icmp_ge (tgt := 21) hx hb dX9_signAt_9 (by decide) (fun c2 => ?_) (fun c2 => ?_)
    · replace hm := zz_pos c2 hm
      have j := J21 hm
      rw [hG] at j
      exact j H locs ls hP hD hS (lv_sub hl [] rfl)
    · replace hm := zz_neg c2 hm
      refine lv_aload_n hx hb dX9_signAt_12 rfl (lv_at hl 0 rfl) ?_
      refine va_get (D := D) (ci := 9) (v := .ref (a 2)) (C := RX9) (T := TX9) (N := 2) hx hb hts nX9_signAt_X9 hown hK hP 1 (wC_1 y a z) rfl 0 (by decide) (hts (.fieldLink RX9 9 "WorksDesk$Text" "signs" "[I") (List.mem_of_getElem? (i := 2) rfl)) (fun _ h9 => h9) rfl dX9_signAt_13 ?_
      refine lv_iload_n hx hb dX9_signAt_16 rfl (lv_at hl 1 rfl) ?_
      obtain ⟨c3, hm⟩ := zz_ck_some hm
      refine va_iald hx hb hK hP 2 0 (wC_2 y a z) rfl c3 dX9_signAt_17 ?_
      refine lv_goto (tgt := 22) hx hb dX9_signAt_18 (by decide) ?_
      have j := J22 (z.1 2 x1.toNatClampNeg) hm
      rw [hG] at j
      exact j H locs ls hP hD hS (lv_sub hl [] rfl)
def mX1_pass (x2 : Int32) (z : zz_M) : Option (Int32 × zz_M) := zz_b1 (mX9_signAt (z.2.2.1 193) z) (fun r1 => if r1 = x2 then (zz_nm (zz_sF z 193 ((z.2.2.1 193) + (1 : Int32))) (fun z4 => some ((1 : Int32), z4))) else (some ((0 : Int32), z)))
theorem nX1_pass_X1 : ∀ w ∈ wsX10, w ∈ wsX1_pass := fun _ h => List.mem_cons_of_mem _ (List.mem_append_left _ (List.mem_append_right _ (h)))
theorem zdX1_pass : yX1_pass.cls = RX1 ∧ yX1_pass.cls ≠ "java/lang/invoke/MethodHandle" ∧ yX1_pass.cls ≠ "java/lang/invoke/VarHandle" ∧ (parseMethodDescriptor yX1_pass.desc).map (fun d => d.parameters.length) = some 2 := by decide +kernel
set_option maxHeartbeats 4000000 in
set_option maxRecDepth 100000 in
theorem zX1_pass (l : Launch) (D : va_G) (y : Nat → ClassId) (a : Nat → Nat) (sz : Nat) (x2 : Int32) (z : zz_M) {r : Int32} {zt : zz_M} (hm : mX1_pass x2 z = some (r, zt)) : Met l yX1_pass wsX1_pass { frames := 1, cells := 0, slots := 0, locals := 21 } (zz_Pc D y (wC y a z) sz [.ref (a 3), .ref (a 1), .int x2]) (zz_Qi D y (wC y a) (va_A (wC y a z) sz) r zt) 0 0 (va_A (wC y a z) sz) := by
  refine Met.ofW (cc := cX1_pass) (maxL := 3) (ret := (some .boolean)) (by decide) rfl ?_
  intro p e s m args below meth c s₁ B hml hv
  obtain ⟨rfl, hsz, hP, hK, hD0, hN, hg⟩ := hv
  have hx := B.exec
  have hb := B.bytes
  have hr := B.returns
  have hts := atoms_spec (ws := wsX1_pass) B.pre
  have hown : s.vm.findClass RX1 = some m.cls := findClass_of_methodNamed B.named
  have hlocks := B.notSynchronized
  clear B
  subst hsz
  have hD := hD0.self (sz := s.heap.size)
  generalize hAe : va_A (wC y a z) s.heap.size = A at hD hg ⊢
  have hA : ∀ q : Nat, s.heap.size ≤ q → A q := fun q h => by rw [← hAe]; exact Or.inr h
  clear hAe hD0
  have hl := lv_entry ([.ref (a 3), .ref (a 1), .int x2]) (n := 3) (Nat.le_of_ble_eq_true rfl)
  rw [lg_entry_eq]
  generalize (lg_sl ([.ref (a 3), .ref (a 1), .int x2]) ++ List.replicate (3 - (lg_sl ([.ref (a 3), .ref (a 1), .int x2])).length) Slot.unset).toArray = ls at hl ⊢
  replace hl : lv_has ls 3 [(0, .ref (a 3)), (1, .ref (a 1)), (2, .int x2)] := hl
  refine zz_go (w := wC y a) hP hD va_S.rf hl (fun G hG => ?_)
  clear hP hD hl ls
  rw [hG]
  intro H locs ls hP hD hS hl
  unfold mX1_pass at hm
  refine lv_aload_n hx hb dX1_pass_0 rfl (lv_at hl 1 rfl) ?_
  refine lv_aload_n hx hb dX1_pass_1 rfl (lv_at hl 0 rfl) ?_
  refine va_get (D := D) (ci := 1) (v := .int (z.2.2.1 193)) (C := RX1) (T := TX1) (N := 2) hx hb hts nX1_pass_X1 hown hK hP 3 (wC_3 y a z) rfl 1 (by decide) (hts (.fieldLink RX1 18 "WorksDesk$BillReader" "at" "I") (List.mem_of_getElem? (i := 1) rfl)) (fun _ h9 => h9) rfl dX1_pass_2 ?_
  obtain ⟨r1, h2, hm⟩ := zz_b1_some hm
  refine zz_calli (zz_runV (w := wC y a) (As := [.int (z.2.2.1 193)]) (rest := []) ⟨hx, hb, hml, hown, hts⟩ (zX9_signAt l D y a H.size (z.2.2.1 193) z h2) (cwV 1 hts gX1_pass_X9_signAt rfl rfl rfl zdX9_signAt ⟨Nat.le_of_ble_eq_true rfl, Nat.le_of_ble_eq_true rfl⟩) hK hN hg hP hD hS hA 1 (wC_1 y a z) rfl rfl hl.1 rfl (Nat.le_of_ble_eq_true rfl) dX1_pass_5 ⟨Nat.le_of_ble_eq_true rfl, Nat.le_of_ble_eq_true rfl⟩) hD hS hA (fun H locs hP hD hS => ?_)
  refine lv_iload_n hx hb dX1_pass_8 rfl (lv_at hl 2 rfl) ?_
  refine lv_icmp_eq (tgt := 14) hx hb dX1_pass_9 (by decide) (fun c3 => ?_) (fun c3 => ?_)
  · replace hm := zz_pos c3 hm
    refine lv_aload_n hx hb dX1_pass_14 rfl (lv_at hl 0 rfl) ?_
    refine lv_dup hx hb dX1_pass_15 rfl ?_
    refine va_get (D := D) (ci := 1) (v := .int (z.2.2.1 193)) (C := RX1) (T := TX1) (N := 2) hx hb hts nX1_pass_X1 hown hK hP 3 (wC_3 y a z) rfl 1 (by decide) (hts (.fieldLink RX1 18 "WorksDesk$BillReader" "at" "I") (List.mem_of_getElem? (i := 1) rfl)) (fun _ h9 => h9) rfl dX1_pass_16 ?_
    refine lv_iconst (v := (1 : Int32)) hx hb dX1_pass_19 (by decide) ?_
    refine lv_iadd hx hb dX1_pass_20 ?_
    refine va_put (D := D) (ci := 1) (v := .int ((z.2.2.1 193) + (1 : Int32))) (ty := .int) (C := RX1) (T := TX1) (N := 2) hx hb hts nX1_pass_X1 tyX1 tyX1_ok nmX1 hown hK hP hD hS 3 (wC_3 y a z) rfl 1 (by decide) (hts (.fieldLink RX1 18 "WorksDesk$BillReader" "at" "I") (List.mem_of_getElem? (i := 1) rfl)) (fun _ h9 => h9) rfl (tyX1_ok 1 (by decide)) rfl rfl (Nat.le_of_ble_eq_true rfl) dX1_pass_21 (fun H locs hP hD hS => ?_)
    obtain ⟨z4, hP, hD, hm⟩ := zz_up (w := wC y a) (wC_f3_1 y a z ((z.2.2.1 193) + (1 : Int32))) hP hD hm
    refine lv_iconst (v := (1 : Int32)) hx hb dX1_pass_24 (by decide) ?_
    exact zz_zret hx hb hr hlocks (by decide) (zz_some2 hm) hP hK hD hS dX1_pass_25
  · replace hm := zz_neg c3 hm
    refine lv_iconst (v := (0 : Int32)) hx hb dX1_pass_12 (by decide) ?_
    exact zz_zret hx hb hr hlocks (by decide) (zz_some2 hm) hP hK hD hS dX1_pass_13
def mX10_isKind (x0 : Int32) : Option Int32 := zz_b1 (mX10_isWithin x0 (0 : Int32) (4 : Int32)) (fun r1 => zz_ck (zz_bool r1) (some r1))
theorem zdX10_isKind : yX10_isKind.cls ≠ "java/lang/invoke/MethodHandle" ∧ yX10_isKind.cls ≠ "java/lang/invoke/VarHandle" ∧ (parseMethodDescriptor yX10_isKind.desc).map (fun d => d.parameters.length) = some 1 := by decide +kernel
set_option maxHeartbeats 4000000 in
set_option maxRecDepth 100000 in
theorem zX10_isKind (l : Launch) (D : va_G) (y : Nat → ClassId) (a : Nat → Nat) (sz : Nat) (x0 : Int32) (z : zz_M) {r : Int32} (hm : mX10_isKind x0 = some r) : Met l yX10_isKind wsX10_isKind { frames := 1, cells := 0, slots := 0, locals := 22 } (zz_Pc D y (wC y a z) sz [.int x0]) (zz_Qi D y (wC y a) (va_A (wC y a z) sz) r z) 0 0 (va_A (wC y a z) sz) := by
  refine Met.ofW (cc := cX10_isKind) (maxL := 1) (ret := (some .boolean)) (by decide) rfl ?_
  intro p e s m args below meth c s₁ B hml hv
  obtain ⟨rfl, hsz, hP, hK, hD0, hN, hg⟩ := hv
  have hx := B.exec
  have hb := B.bytes
  have hr := B.returns
  have hts := atoms_spec (ws := wsX10_isKind) B.pre
  have hown : s.vm.findClass RX10 = some m.cls := findClass_of_methodNamed B.named
  have hlocks := B.notSynchronized
  clear B
  subst hsz
  have hD := hD0.self (sz := s.heap.size)
  generalize hAe : va_A (wC y a z) s.heap.size = A at hD hg ⊢
  have hA : ∀ q : Nat, s.heap.size ≤ q → A q := fun q h => by rw [← hAe]; exact Or.inr h
  clear hAe hD0
  have hl := lv_entry ([.int x0]) (n := 1) (Nat.le_of_ble_eq_true rfl)
  rw [lg_entry_eq]
  generalize (lg_sl ([.int x0]) ++ List.replicate (1 - (lg_sl ([.int x0])).length) Slot.unset).toArray = ls at hl ⊢
  replace hl : lv_has ls 1 [(0, .int x0)] := hl
  refine zz_go (w := wC y a) hP hD va_S.rf hl (fun G hG => ?_)
  clear hP hD hl ls
  rw [hG]
  intro H locs ls hP hD hS hl
  unfold mX10_isKind at hm
  refine lv_iload_n hx hb dX10_isKind_0 rfl (lv_at hl 0 rfl) ?_
  refine lv_iconst (v := (0 : Int32)) hx hb dX10_isKind_1 (by decide) ?_
  refine lv_iconst (v := (4 : Int32)) hx hb dX10_isKind_2 (by decide) ?_
  obtain ⟨r1, h2, hm⟩ := zz_b1_some hm
  refine zz_calli (zz_runS (w := wC y a) (As := [.int x0, .int (0 : Int32), .int (4 : Int32)]) (rest := []) ⟨hx, hb, hml, hown, hts⟩ (zX10_isWithin l D y a H.size x0 (0 : Int32) (4 : Int32) z h2) (va_cwS 3 hts gX10_isKind_X10_isWithin rfl rfl rfl zdX10_isWithin ⟨Nat.le_of_ble_eq_true rfl, Nat.le_of_ble_eq_true rfl⟩) hK hN hg hP hD hS hA rfl hl.1 rfl (Nat.le_of_ble_eq_true rfl) dX10_isKind_3 ⟨Nat.le_of_ble_eq_true rfl, Nat.le_of_ble_eq_true rfl⟩) hD hS hA (fun H locs hP hD hS => ?_)
  obtain ⟨c3, hm⟩ := zz_ck_some hm
  exact zz_zret hx hb hr hlocks c3 ⟨zz_some1 hm, rfl⟩ hP hK hD hS dX10_isKind_6
def mX1_isDigit (z : zz_M) : Option Int32 := zz_b1 (mX9_signAt (z.2.2.1 193) z) (fun r1 => zz_b1 (mX10_isWithin r1 (48 : Int32) (57 : Int32)) (fun r3 => zz_ck (zz_bool r3) (some r3)))
theorem nX1_isDigit_X1 : ∀ w ∈ wsX10, w ∈ wsX1_isDigit := fun _ h => List.mem_cons_of_mem _ (List.mem_append_left _ (List.mem_append_right _ (h)))
theorem zdX1_isDigit : yX1_isDigit.cls = RX1 ∧ yX1_isDigit.cls ≠ "java/lang/invoke/MethodHandle" ∧ yX1_isDigit.cls ≠ "java/lang/invoke/VarHandle" ∧ (parseMethodDescriptor yX1_isDigit.desc).map (fun d => d.parameters.length) = some 1 := by decide +kernel
set_option maxHeartbeats 4000000 in
set_option maxRecDepth 100000 in
theorem zX1_isDigit (l : Launch) (D : va_G) (y : Nat → ClassId) (a : Nat → Nat) (sz : Nat) (z : zz_M) {r : Int32} (hm : mX1_isDigit z = some r) : Met l yX1_isDigit wsX1_isDigit { frames := 1, cells := 0, slots := 0, locals := 22 } (zz_Pc D y (wC y a z) sz [.ref (a 3), .ref (a 1)]) (zz_Qi D y (wC y a) (va_A (wC y a z) sz) r z) 0 0 (va_A (wC y a z) sz) := by
  refine Met.ofW (cc := cX1_isDigit) (maxL := 2) (ret := (some .boolean)) (by decide) rfl ?_
  intro p e s m args below meth c s₁ B hml hv
  obtain ⟨rfl, hsz, hP, hK, hD0, hN, hg⟩ := hv
  have hx := B.exec
  have hb := B.bytes
  have hr := B.returns
  have hts := atoms_spec (ws := wsX1_isDigit) B.pre
  have hown : s.vm.findClass RX1 = some m.cls := findClass_of_methodNamed B.named
  have hlocks := B.notSynchronized
  clear B
  subst hsz
  have hD := hD0.self (sz := s.heap.size)
  generalize hAe : va_A (wC y a z) s.heap.size = A at hD hg ⊢
  have hA : ∀ q : Nat, s.heap.size ≤ q → A q := fun q h => by rw [← hAe]; exact Or.inr h
  clear hAe hD0
  have hl := lv_entry ([.ref (a 3), .ref (a 1)]) (n := 2) (Nat.le_of_ble_eq_true rfl)
  rw [lg_entry_eq]
  generalize (lg_sl ([.ref (a 3), .ref (a 1)]) ++ List.replicate (2 - (lg_sl ([.ref (a 3), .ref (a 1)])).length) Slot.unset).toArray = ls at hl ⊢
  replace hl : lv_has ls 2 [(0, .ref (a 3)), (1, .ref (a 1))] := hl
  refine zz_go (w := wC y a) hP hD va_S.rf hl (fun G hG => ?_)
  clear hP hD hl ls
  rw [hG]
  intro H locs ls hP hD hS hl
  unfold mX1_isDigit at hm
  refine lv_aload_n hx hb dX1_isDigit_0 rfl (lv_at hl 1 rfl) ?_
  refine lv_aload_n hx hb dX1_isDigit_1 rfl (lv_at hl 0 rfl) ?_
  refine va_get (D := D) (ci := 1) (v := .int (z.2.2.1 193)) (C := RX1) (T := TX1) (N := 2) hx hb hts nX1_isDigit_X1 hown hK hP 3 (wC_3 y a z) rfl 1 (by decide) (hts (.fieldLink RX1 18 "WorksDesk$BillReader" "at" "I") (List.mem_of_getElem? (i := 1) rfl)) (fun _ h9 => h9) rfl dX1_isDigit_2 ?_
  obtain ⟨r1, h2, hm⟩ := zz_b1_some hm
  refine zz_calli (zz_runV (w := wC y a) (As := [.int (z.2.2.1 193)]) (rest := []) ⟨hx, hb, hml, hown, hts⟩ (zX9_signAt l D y a H.size (z.2.2.1 193) z h2) (cwV 1 hts gX1_isDigit_X9_signAt rfl rfl rfl zdX9_signAt ⟨Nat.le_of_ble_eq_true rfl, Nat.le_of_ble_eq_true rfl⟩) hK hN hg hP hD hS hA 1 (wC_1 y a z) rfl rfl hl.1 rfl (Nat.le_of_ble_eq_true rfl) dX1_isDigit_5 ⟨Nat.le_of_ble_eq_true rfl, Nat.le_of_ble_eq_true rfl⟩) hD hS hA (fun H locs hP hD hS => ?_)
  refine lv_bipush (v := (48 : Int32)) hx hb dX1_isDigit_8 (by decide) ?_
  refine lv_bipush (v := (57 : Int32)) hx hb dX1_isDigit_10 (by decide) ?_
  obtain ⟨r3, h4, hm⟩ := zz_b1_some hm
  refine zz_calli (zz_runSN (w := wC y a) (As := [.int r1, .int (48 : Int32), .int (57 : Int32)]) (rest := []) ⟨hx, hb, hml, hown, hts⟩ (zX10_isWithin l D y a H.size r1 (48 : Int32) (57 : Int32) z h4) ⟨va_cnB 3 hts gX1_isDigit_X10_isWithin_n58 rfl rfl rfl (hN _ (List.mem_of_getElem? (i := 6) rfl)) (hts (.initialized RX10) (List.mem_of_getElem? (i := 10) rfl)) zdX10_isWithin ⟨Nat.le_of_ble_eq_true rfl, Nat.le_of_ble_eq_true rfl⟩, (hts (.static yX10_isWithin) (List.mem_of_getElem? (i := 9) rfl)), trivial⟩ hK hN hg hP hD hS hA rfl hl.1 rfl (Nat.le_of_ble_eq_true rfl) dX1_isDigit_12 ⟨Nat.le_of_ble_eq_true rfl, Nat.le_of_ble_eq_true rfl⟩) hD hS hA (fun H locs hP hD hS => ?_)
  obtain ⟨c5, hm⟩ := zz_ck_some hm
  exact zz_zret hx hb hr hlocks c5 ⟨zz_some1 hm, rfl⟩ hP hK hD hS dX1_isDigit_15
def mX1_readNumber_b76 (v2 : Int32) (z : zz_M) : Option (Int32 × zz_M) := some (v2, z)
def mX1_readNumber_b50 (v2 : Int32) (v3 : Int32) (z : zz_M) : Option (Int32 × zz_M) := if v3 ≤ (0 : Int32) then (mX1_readNumber_b76 v2 z) else (if v2 = (0 : Int32) then (zz_b1 (mX1_isDigit z) (fun r3 => if r3 = (0 : Int32) then (zz_nm (zz_sF z 193 ((z.2.2.1 193) - (1 : Int32))) (fun z6 => mX1_readNumber_b76 v2 z6)) else (mX1_readNumber_b76 v2 z))) else (mX1_readNumber_b76 v2 z))
def mX1_readNumber_b4 : Nat → Int32 → Int32 → zz_M → Option (Int32 × zz_M)
  | 0, _, _, _ => none
  | n + 1, v2, v3, z => if (3 : Int32) ≤ v3 then (mX1_readNumber_b50 v2 v3 z) else (zz_b1 (mX1_isDigit z) (fun r8 => if r8 = (0 : Int32) then (mX1_readNumber_b50 v2 v3 z) else (zz_b1 (mX9_signAt (z.2.2.1 193) z) (fun r11 => zz_nm ((((10 : Int32) * v2) + r11) - (48 : Int32)) (fun n13 => zz_nm (v3 + (1 : Int32)) (fun n14 => zz_nm (zz_sF z 193 ((z.2.2.1 193) + (1 : Int32))) (fun z15 => (mX1_readNumber_b4 n) n13 n14 z15)))))))
def mX1_readNumber (z : zz_M) : Option (Int32 × zz_M) := mX1_readNumber_b4 zz_N (0 : Int32) (0 : Int32) z
theorem nX1_readNumber_X1 : ∀ w ∈ wsX10, w ∈ wsX1_readNumber := fun _ h => List.mem_cons_of_mem _ (List.mem_append_left _ (List.mem_append_right _ (h)))
theorem zdX1_readNumber : yX1_readNumber.cls = RX1 ∧ yX1_readNumber.cls ≠ "java/lang/invoke/MethodHandle" ∧ yX1_readNumber.cls ≠ "java/lang/invoke/VarHandle" ∧ (parseMethodDescriptor yX1_readNumber.desc).map (fun d => d.parameters.length) = some 1 := by decide +kernel
set_option maxHeartbeats 4000000 in
set_option maxRecDepth 100000 in
theorem zX1_readNumber (l : Launch) (D : va_G) (y : Nat → ClassId) (a : Nat → Nat) (sz : Nat) (z : zz_M) {r : Int32} {zt : zz_M} (hm : mX1_readNumber z = some (r, zt)) : Met l yX1_readNumber wsX1_readNumber { frames := 2, cells := 0, slots := 0, locals := 43 } (zz_Pc D y (wC y a z) sz [.ref (a 3), .ref (a 1)]) (zz_Qi D y (wC y a) (va_A (wC y a z) sz) r zt) 0 0 (va_A (wC y a z) sz) := by
  refine Met.ofW (cc := cX1_readNumber) (maxL := 4) (ret := (some .int)) (by decide) rfl ?_
  intro p e s m args below meth c s₁ B hml hv
  obtain ⟨rfl, hsz, hP, hK, hD0, hN, hg⟩ := hv
  have hx := B.exec
  have hb := B.bytes
  have hr := B.returns
  have hts := atoms_spec (ws := wsX1_readNumber) B.pre
  have hown : s.vm.findClass RX1 = some m.cls := findClass_of_methodNamed B.named
  have hlocks := B.notSynchronized
  clear B
  subst hsz
  have hD := hD0.self (sz := s.heap.size)
  generalize hAe : va_A (wC y a z) s.heap.size = A at hD hg ⊢
  have hA : ∀ q : Nat, s.heap.size ≤ q → A q := fun q h => by rw [← hAe]; exact Or.inr h
  clear hAe hD0
  have hl := lv_entry ([.ref (a 3), .ref (a 1)]) (n := 4) (Nat.le_of_ble_eq_true rfl)
  rw [lg_entry_eq]
  generalize (lg_sl ([.ref (a 3), .ref (a 1)]) ++ List.replicate (4 - (lg_sl ([.ref (a 3), .ref (a 1)])).length) Slot.unset).toArray = ls at hl ⊢
  replace hl : lv_has ls 4 [(0, .ref (a 3)), (1, .ref (a 1))] := hl
  refine zz_go (w := wC y a) hP hD va_S.rf hl (fun G hG => ?_)
  clear hP hD hl ls
  have J76 : ∀ (v2 : Int32) (z : zz_M), mX1_readNumber_b76 v2 z = some (r, zt) → G 76 [(2, .int v2)] [] z := by
    intro v2 z hm
    rw [mX1_readNumber_b76] at hm
    rw [hG]
    intro H locs ls hP hD hS hl
    refine lv_iload_n hx hb dX1_readNumber_76 rfl (lv_at hl 0 rfl) ?_
    exact zz_iret hx hb hr hlocks (zz_some2 hm) hP hK hD hS dX1_readNumber_77
  have J50 : ∀ (v2 : Int32) (v3 : Int32) (z : zz_M), mX1_readNumber_b50 v2 v3 z = some (r, zt) → G 50 [(0, .ref (a 3)), (1, .ref (a 1)), (2, .int v2), (3, .int v3)] [] z := by
    intro v2 v3 z hm
    rw [mX1_readNumber_b50] at hm
    rw [hG]
    intro H locs ls hP hD hS hl
    refine lv_iload_n hx hb dX1_readNumber_50 rfl (lv_at hl 3 rfl) ?_
    refine lv_if_le (tgt := 76) hx hb dX1_readNumber_51 (by decide) (fun c1 => ?_) (fun c1 => ?_)
    · replace hm := zz_pos c1 hm
      have j := J76 v2 z hm
      rw [hG] at j
      exact j H locs ls hP hD hS (lv_sub hl [2] rfl)
    · replace hm := zz_neg c1 hm
      refine lv_iload_n hx hb dX1_readNumber_54 rfl (lv_at hl 2 rfl) ?_
      refine lv_if_ne (tgt := 76) hx hb dX1_readNumber_55 (by decide) (fun c2 => ?_) (fun c2 => ?_)
      · replace hm := zz_neg c2 hm
        have j := J76 v2 z hm
        rw [hG] at j
        exact j H locs ls hP hD hS (lv_sub hl [2] rfl)
      · replace hm := zz_pos c2 hm
        refine lv_aload_n hx hb dX1_readNumber_58 rfl (lv_at hl 0 rfl) ?_
        refine lv_aload_n hx hb dX1_readNumber_59 rfl (lv_at hl 1 rfl) ?_
        obtain ⟨r3, h4, hm⟩ := zz_b1_some hm
        refine zz_calli (zz_runV (w := wC y a) (As := [.ref (a 1)]) (rest := []) ⟨hx, hb, hml, hown, hts⟩ (zX1_isDigit l D y a H.size z h4) (cwV 1 hts gX1_readNumber_X1_isDigit rfl rfl rfl zdX1_isDigit ⟨Nat.le_of_ble_eq_true rfl, Nat.le_of_ble_eq_true rfl⟩) hK hN hg hP hD hS hA 3 (wC_3 y a z) rfl rfl hl.1 rfl (Nat.le_of_ble_eq_true rfl) dX1_readNumber_60 ⟨Nat.le_of_ble_eq_true rfl, Nat.le_of_ble_eq_true rfl⟩) hD hS hA (fun H locs hP hD hS => ?_)
        refine lv_if_ne (tgt := 76) hx hb dX1_readNumber_63 (by decide) (fun c5 => ?_) (fun c5 => ?_)
        · replace hm := zz_neg c5 hm
          have j := J76 v2 z hm
          rw [hG] at j
          exact j H locs ls hP hD hS (lv_sub hl [2] rfl)
        · replace hm := zz_pos c5 hm
          refine lv_aload_n hx hb dX1_readNumber_66 rfl (lv_at hl 0 rfl) ?_
          refine lv_dup hx hb dX1_readNumber_67 rfl ?_
          refine va_get (D := D) (ci := 1) (v := .int (z.2.2.1 193)) (C := RX1) (T := TX1) (N := 2) hx hb hts nX1_readNumber_X1 hown hK hP 3 (wC_3 y a z) rfl 1 (by decide) (hts (.fieldLink RX1 18 "WorksDesk$BillReader" "at" "I") (List.mem_of_getElem? (i := 1) rfl)) (fun _ h9 => h9) rfl dX1_readNumber_68 ?_
          refine lv_iconst (v := (1 : Int32)) hx hb dX1_readNumber_71 (by decide) ?_
          refine lv_isub hx hb dX1_readNumber_72 ?_
          refine va_put (D := D) (ci := 1) (v := .int ((z.2.2.1 193) - (1 : Int32))) (ty := .int) (C := RX1) (T := TX1) (N := 2) hx hb hts nX1_readNumber_X1 tyX1 tyX1_ok nmX1 hown hK hP hD hS 3 (wC_3 y a z) rfl 1 (by decide) (hts (.fieldLink RX1 18 "WorksDesk$BillReader" "at" "I") (List.mem_of_getElem? (i := 1) rfl)) (fun _ h9 => h9) rfl (tyX1_ok 1 (by decide)) rfl rfl (Nat.le_of_ble_eq_true rfl) dX1_readNumber_73 (fun H locs hP hD hS => ?_)
          obtain ⟨z6, hP, hD, hm⟩ := zz_up (w := wC y a) (wC_f3_1 y a z ((z.2.2.1 193) - (1 : Int32))) hP hD hm
          have j := J76 v2 z6 hm
          rw [hG] at j
          exact j H locs ls hP hD hS (lv_sub hl [2] rfl)
  have J4 : ∀ (n : Nat) (v2 : Int32) (v3 : Int32) (z : zz_M), mX1_readNumber_b4 n v2 v3 z = some (r, zt) → G 4 [(0, .ref (a 3)), (1, .ref (a 1)), (2, .int v2), (3, .int v3)] [] z := by
    intro n
    induction n with
    | zero =>
      intro v2 v3 z hm
      exact zz_none hm
    | succ n ih =>
      intro v2 v3 z hm
      rw [mX1_readNumber_b4] at hm
      rw [hG]
      intro H locs ls hP hD hS hl
      refine lv_iload_n hx hb dX1_readNumber_4 rfl (lv_at hl 3 rfl) ?_
      refine lv_iconst (v := (3 : Int32)) hx hb dX1_readNumber_5 (by decide) ?_
      refine lv_icmp_ge (tgt := 50) hx hb dX1_readNumber_6 (by decide) (fun c7 => ?_) (fun c7 => ?_)
      · replace hm := zz_pos c7 hm
        have j := J50 v2 v3 z hm
        rw [hG] at j
        exact j H locs ls hP hD hS (lv_sub hl [0, 1, 2, 3] rfl)
      · replace hm := zz_neg c7 hm
        refine lv_aload_n hx hb dX1_readNumber_9 rfl (lv_at hl 0 rfl) ?_
        refine lv_aload_n hx hb dX1_readNumber_10 rfl (lv_at hl 1 rfl) ?_
        obtain ⟨r8, h9, hm⟩ := zz_b1_some hm
        refine zz_calli (zz_runV (w := wC y a) (As := [.ref (a 1)]) (rest := []) ⟨hx, hb, hml, hown, hts⟩ (zX1_isDigit l D y a H.size z h9) (cwV 1 hts gX1_readNumber_X1_isDigit rfl rfl rfl zdX1_isDigit ⟨Nat.le_of_ble_eq_true rfl, Nat.le_of_ble_eq_true rfl⟩) hK hN hg hP hD hS hA 3 (wC_3 y a z) rfl rfl hl.1 rfl (Nat.le_of_ble_eq_true rfl) dX1_readNumber_11 ⟨Nat.le_of_ble_eq_true rfl, Nat.le_of_ble_eq_true rfl⟩) hD hS hA (fun H locs hP hD hS => ?_)
        refine lv_if_eq (tgt := 50) hx hb dX1_readNumber_14 (by decide) (fun c10 => ?_) (fun c10 => ?_)
        · replace hm := zz_pos c10 hm
          have j := J50 v2 v3 z hm
          rw [hG] at j
          exact j H locs ls hP hD hS (lv_sub hl [0, 1, 2, 3] rfl)
        · replace hm := zz_neg c10 hm
          refine lv_bipush (v := (10 : Int32)) hx hb dX1_readNumber_17 (by decide) ?_
          refine lv_iload_n hx hb dX1_readNumber_19 rfl (lv_at hl 2 rfl) ?_
          refine lv_imul hx hb dX1_readNumber_20 ?_
          refine lv_aload_n hx hb dX1_readNumber_21 rfl (lv_at hl 1 rfl) ?_
          refine lv_aload_n hx hb dX1_readNumber_22 rfl (lv_at hl 0 rfl) ?_
          refine va_get (D := D) (ci := 1) (v := .int (z.2.2.1 193)) (C := RX1) (T := TX1) (N := 2) hx hb hts nX1_readNumber_X1 hown hK hP 3 (wC_3 y a z) rfl 1 (by decide) (hts (.fieldLink RX1 18 "WorksDesk$BillReader" "at" "I") (List.mem_of_getElem? (i := 1) rfl)) (fun _ h9 => h9) rfl dX1_readNumber_23 ?_
          obtain ⟨r11, h12, hm⟩ := zz_b1_some hm
          refine zz_calli (zz_runV (w := wC y a) (As := [.int (z.2.2.1 193)]) (rest := [.int ((10 : Int32) * v2)]) ⟨hx, hb, hml, hown, hts⟩ (zX9_signAt l D y a H.size (z.2.2.1 193) z h12) (cwV 1 hts gX1_readNumber_X9_signAt rfl rfl rfl zdX9_signAt ⟨Nat.le_of_ble_eq_true rfl, Nat.le_of_ble_eq_true rfl⟩) hK hN hg hP hD hS hA 1 (wC_1 y a z) rfl rfl hl.1 rfl (Nat.le_of_ble_eq_true rfl) dX1_readNumber_26 ⟨Nat.le_of_ble_eq_true rfl, Nat.le_of_ble_eq_true rfl⟩) hD hS hA (fun H locs hP hD hS => ?_)
          refine lv_iadd hx hb dX1_readNumber_29 ?_
          refine lv_bipush (v := (48 : Int32)) hx hb dX1_readNumber_30 (by decide) ?_
          refine lv_isub hx hb dX1_readNumber_32 ?_
          refine lv_topi (fun n13 en13 => ?_)
          replace hm := zz_nm_some en13 hm
          refine lv_istore_n (lv' := [(2, .int n13), (0, .ref (a 3)), (1, .ref (a 1)), (3, .int v3)]) hx hb dX1_readNumber_33 rfl hl (by decide) rfl (fun ls hl => ?_)
          obtain ⟨n14, en14⟩ : ∃ q : Int32, q = v3 + (1 : Int32) := ⟨_, rfl⟩
          replace hm := zz_nm_some en14 hm
          refine lv_iinc (v := n14) (lv' := [(3, .int n14), (2, .int n13), (0, .ref (a 3)), (1, .ref (a 1))]) hx hb dX1_readNumber_34 hl (k := 3) rfl (by rw [en14]; rfl) (by decide) rfl (fun ls hl => ?_)
          refine lv_aload_n hx hb dX1_readNumber_37 rfl (lv_at hl 2 rfl) ?_
          refine lv_dup hx hb dX1_readNumber_38 rfl ?_
          refine va_get (D := D) (ci := 1) (v := .int (z.2.2.1 193)) (C := RX1) (T := TX1) (N := 2) hx hb hts nX1_readNumber_X1 hown hK hP 3 (wC_3 y a z) rfl 1 (by decide) (hts (.fieldLink RX1 18 "WorksDesk$BillReader" "at" "I") (List.mem_of_getElem? (i := 1) rfl)) (fun _ h9 => h9) rfl dX1_readNumber_39 ?_
          refine lv_iconst (v := (1 : Int32)) hx hb dX1_readNumber_42 (by decide) ?_
          refine lv_iadd hx hb dX1_readNumber_43 ?_
          refine va_put (D := D) (ci := 1) (v := .int ((z.2.2.1 193) + (1 : Int32))) (ty := .int) (C := RX1) (T := TX1) (N := 2) hx hb hts nX1_readNumber_X1 tyX1 tyX1_ok nmX1 hown hK hP hD hS 3 (wC_3 y a z) rfl 1 (by decide) (hts (.fieldLink RX1 18 "WorksDesk$BillReader" "at" "I") (List.mem_of_getElem? (i := 1) rfl)) (fun _ h9 => h9) rfl (tyX1_ok 1 (by decide)) rfl rfl (Nat.le_of_ble_eq_true rfl) dX1_readNumber_44 (fun H locs hP hD hS => ?_)
          obtain ⟨z15, hP, hD, hm⟩ := zz_up (w := wC y a) (wC_f3_1 y a z ((z.2.2.1 193) + (1 : Int32))) hP hD hm
          refine lv_goto (tgt := 4) hx hb dX1_readNumber_47 (by decide) ?_
          have j := ih n13 n14 z15 hm
          rw [hG] at j
          exact j H locs ls hP hD hS (lv_sub hl [2, 3, 1, 0] rfl)
  rw [hG]
  intro H locs ls hP hD hS hl
  unfold mX1_readNumber at hm
  refine lv_iconst (v := (0 : Int32)) hx hb dX1_readNumber_0 (by decide) ?_
  refine lv_istore_n (lv' := [(2, .int (0 : Int32)), (0, .ref (a 3)), (1, .ref (a 1))]) hx hb dX1_readNumber_1 rfl hl (by decide) rfl (fun ls hl => ?_)
  refine lv_iconst (v := (0 : Int32)) hx hb dX1_readNumber_2 (by decide) ?_
  refine lv_istore_n (lv' := [(3, .int (0 : Int32)), (2, .int (0 : Int32)), (0, .ref (a 3)), (1, .ref (a 1))]) hx hb dX1_readNumber_3 rfl hl (by decide) rfl (fun ls hl => ?_)
  have j := J4 zz_N (0 : Int32) (0 : Int32) z hm
  rw [hG] at j
  exact j H locs ls hP hD hS (lv_sub hl [2, 3, 1, 0] rfl)
def mX1_readItem_b63 (z : zz_M) : Option (Int32 × zz_M) := some ((0 : Int32), z)
def mX1_readItem (z : zz_M) : Option (Int32 × zz_M) := zz_b1 (mX9_signAt (z.2.2.1 193) z) (fun r1 => zz_nm (r1 - (48 : Int32)) (fun n3 => zz_b1 (mX10_isKind n3) (fun r4 => if r4 = (0 : Int32) then (some ((0 : Int32), z)) else (zz_nm (zz_sF z 193 ((z.2.2.1 193) + (1 : Int32))) (fun z7 => zz_b2 (mX1_pass (58 : Int32) z7) (fun r8 z10 => if r8 = (0 : Int32) then (some ((0 : Int32), z10)) else (zz_b2 (mX1_readNumber z10) (fun r12 z14 => if r12 = (0 : Int32) then (mX1_readItem_b63 z14) else (zz_b2 (mX1_pass (42 : Int32) z14) (fun r16 z18 => if r16 = (0 : Int32) then (mX1_readItem_b63 z18) else (zz_b2 (mX1_readNumber z18) (fun r20 z22 => if r20 = (0 : Int32) then (some ((0 : Int32), z22)) else (zz_b2 (mX0_add 4 n3 r12 r20 z22) (fun r24 z26 => some ((1 : Int32), z26)))))))))))))))
theorem nX1_readItem_X1 : ∀ w ∈ wsX10, w ∈ wsX1_readItem := fun _ h => List.mem_cons_of_mem _ (List.mem_append_left _ (List.mem_append_left _ (List.mem_append_right _ (h))))
theorem zdX1_readItem : yX1_readItem.cls = RX1 ∧ yX1_readItem.cls ≠ "java/lang/invoke/MethodHandle" ∧ yX1_readItem.cls ≠ "java/lang/invoke/VarHandle" ∧ (parseMethodDescriptor yX1_readItem.desc).map (fun d => d.parameters.length) = some 1 := by decide +kernel
set_option maxHeartbeats 4000000 in
set_option maxRecDepth 100000 in
theorem zX1_readItem (l : Launch) (D : va_G) (y : Nat → ClassId) (a : Nat → Nat) (sz : Nat) (z : zz_M) {r : Int32} {zt : zz_M} (hm : mX1_readItem z = some (r, zt)) : Met l yX1_readItem wsX1_readItem { frames := 3, cells := 0, slots := 0, locals := 66 } (zz_Pc D y (wC y a z) sz [.ref (a 3), .ref (a 1)]) (zz_Qi D y (wC y a) (va_A (wC y a z) sz) r zt) 0 0 (va_A (wC y a z) sz) := by
  refine Met.ofW (cc := cX1_readItem) (maxL := 5) (ret := (some .boolean)) (by decide) rfl ?_
  intro p e s m args below meth c s₁ B hml hv
  obtain ⟨rfl, hsz, hP, hK, hD0, hN, hg⟩ := hv
  have hx := B.exec
  have hb := B.bytes
  have hr := B.returns
  have hts := atoms_spec (ws := wsX1_readItem) B.pre
  have hown : s.vm.findClass RX1 = some m.cls := findClass_of_methodNamed B.named
  have hlocks := B.notSynchronized
  clear B
  subst hsz
  have hD := hD0.self (sz := s.heap.size)
  generalize hAe : va_A (wC y a z) s.heap.size = A at hD hg ⊢
  have hA : ∀ q : Nat, s.heap.size ≤ q → A q := fun q h => by rw [← hAe]; exact Or.inr h
  clear hAe hD0
  have hl := lv_entry ([.ref (a 3), .ref (a 1)]) (n := 5) (Nat.le_of_ble_eq_true rfl)
  rw [lg_entry_eq]
  generalize (lg_sl ([.ref (a 3), .ref (a 1)]) ++ List.replicate (5 - (lg_sl ([.ref (a 3), .ref (a 1)])).length) Slot.unset).toArray = ls at hl ⊢
  replace hl : lv_has ls 5 [(0, .ref (a 3)), (1, .ref (a 1))] := hl
  refine zz_go (w := wC y a) hP hD va_S.rf hl (fun G hG => ?_)
  clear hP hD hl ls
  have J63 : ∀ (z : zz_M), mX1_readItem_b63 z = some (r, zt) → G 63 [] [] z := by
    intro z hm
    rw [mX1_readItem_b63] at hm
    rw [hG]
    intro H locs ls hP hD hS hl
    refine lv_iconst (v := (0 : Int32)) hx hb dX1_readItem_63 (by decide) ?_
    exact zz_zret hx hb hr hlocks (by decide) (zz_some2 hm) hP hK hD hS dX1_readItem_64
  rw [hG]
  intro H locs ls hP hD hS hl
  unfold mX1_readItem at hm
  refine lv_aload_n hx hb dX1_readItem_0 rfl (lv_at hl 1 rfl) ?_
  refine lv_aload_n hx hb dX1_readItem_1 rfl (lv_at hl 0 rfl) ?_
  refine va_get (D := D) (ci := 1) (v := .int (z.2.2.1 193)) (C := RX1) (T := TX1) (N := 2) hx hb hts nX1_readItem_X1 hown hK hP 3 (wC_3 y a z) rfl 1 (by decide) (hts (.fieldLink RX1 18 "WorksDesk$BillReader" "at" "I") (List.mem_of_getElem? (i := 1) rfl)) (fun _ h9 => h9) rfl dX1_readItem_2 ?_
  obtain ⟨r1, h2, hm⟩ := zz_b1_some hm
  refine zz_calli (zz_runV (w := wC y a) (As := [.int (z.2.2.1 193)]) (rest := []) ⟨hx, hb, hml, hown, hts⟩ (zX9_signAt l D y a H.size (z.2.2.1 193) z h2) (cwV 1 hts gX1_readItem_X9_signAt rfl rfl rfl zdX9_signAt ⟨Nat.le_of_ble_eq_true rfl, Nat.le_of_ble_eq_true rfl⟩) hK hN hg hP hD hS hA 1 (wC_1 y a z) rfl rfl hl.1 rfl (Nat.le_of_ble_eq_true rfl) dX1_readItem_5 ⟨Nat.le_of_ble_eq_true rfl, Nat.le_of_ble_eq_true rfl⟩) hD hS hA (fun H locs hP hD hS => ?_)
  refine lv_bipush (v := (48 : Int32)) hx hb dX1_readItem_8 (by decide) ?_
  refine lv_isub hx hb dX1_readItem_10 ?_
  refine lv_topi (fun n3 en3 => ?_)
  replace hm := zz_nm_some en3 hm
  refine lv_istore_n (lv' := [(2, .int n3), (0, .ref (a 3)), (1, .ref (a 1))]) hx hb dX1_readItem_11 rfl hl (by decide) rfl (fun ls hl => ?_)
  refine lv_iload_n hx hb dX1_readItem_12 rfl (lv_at hl 0 rfl) ?_
  obtain ⟨r4, h5, hm⟩ := zz_b1_some hm
  refine zz_calli (zz_runSN (w := wC y a) (As := [.int n3]) (rest := []) ⟨hx, hb, hml, hown, hts⟩ (zX10_isKind l D y a H.size n3 z h5) ⟨va_cnB 1 hts gX1_readItem_X10_isKind_n43 rfl rfl rfl (hN _ (List.mem_of_getElem? (i := 5) rfl)) (hts (.initialized RX10) (List.mem_of_getElem? (i := 11) rfl)) zdX10_isKind ⟨Nat.le_of_ble_eq_true rfl, Nat.le_of_ble_eq_true rfl⟩, (hts (.static yX10_isKind) (List.mem_of_getElem? (i := 10) rfl)), trivial⟩ hK hN hg hP hD hS hA rfl hl.1 rfl (Nat.le_of_ble_eq_true rfl) dX1_readItem_13 ⟨Nat.le_of_ble_eq_true rfl, Nat.le_of_ble_eq_true rfl⟩) hD hS hA (fun H locs hP hD hS => ?_)
  refine lv_if_ne (tgt := 21) hx hb dX1_readItem_16 (by decide) (fun c6 => ?_) (fun c6 => ?_)
  · replace hm := zz_neg c6 hm
    refine lv_aload_n hx hb dX1_readItem_21 rfl (lv_at hl 1 rfl) ?_
    refine lv_dup hx hb dX1_readItem_22 rfl ?_
    refine va_get (D := D) (ci := 1) (v := .int (z.2.2.1 193)) (C := RX1) (T := TX1) (N := 2) hx hb hts nX1_readItem_X1 hown hK hP 3 (wC_3 y a z) rfl 1 (by decide) (hts (.fieldLink RX1 18 "WorksDesk$BillReader" "at" "I") (List.mem_of_getElem? (i := 1) rfl)) (fun _ h9 => h9) rfl dX1_readItem_23 ?_
    refine lv_iconst (v := (1 : Int32)) hx hb dX1_readItem_26 (by decide) ?_
    refine lv_iadd hx hb dX1_readItem_27 ?_
    refine va_put (D := D) (ci := 1) (v := .int ((z.2.2.1 193) + (1 : Int32))) (ty := .int) (C := RX1) (T := TX1) (N := 2) hx hb hts nX1_readItem_X1 tyX1 tyX1_ok nmX1 hown hK hP hD hS 3 (wC_3 y a z) rfl 1 (by decide) (hts (.fieldLink RX1 18 "WorksDesk$BillReader" "at" "I") (List.mem_of_getElem? (i := 1) rfl)) (fun _ h9 => h9) rfl (tyX1_ok 1 (by decide)) rfl rfl (Nat.le_of_ble_eq_true rfl) dX1_readItem_28 (fun H locs hP hD hS => ?_)
    obtain ⟨z7, hP, hD, hm⟩ := zz_up (w := wC y a) (wC_f3_1 y a z ((z.2.2.1 193) + (1 : Int32))) hP hD hm
    refine lv_aload_n hx hb dX1_readItem_31 rfl (lv_at hl 1 rfl) ?_
    refine lv_aload_n hx hb dX1_readItem_32 rfl (lv_at hl 2 rfl) ?_
    refine lv_bipush (v := (58 : Int32)) hx hb dX1_readItem_33 (by decide) ?_
    obtain ⟨r8, z10, h9, hm⟩ := zz_b2_some hm
    refine zz_calli (zz_runV (w := wC y a) (As := [.ref (a 1), .int (58 : Int32)]) (rest := []) ⟨hx, hb, hml, hown, hts⟩ (zX1_pass l D y a H.size (58 : Int32) z7 h9) (cwV 2 hts gX1_readItem_X1_pass rfl rfl rfl zdX1_pass ⟨Nat.le_of_ble_eq_true rfl, Nat.le_of_ble_eq_true rfl⟩) hK hN hg hP hD hS hA 3 (wC_3 y a z7) rfl rfl hl.1 rfl (Nat.le_of_ble_eq_true rfl) dX1_readItem_35 ⟨Nat.le_of_ble_eq_true rfl, Nat.le_of_ble_eq_true rfl⟩) hD hS hA (fun H locs hP hD hS => ?_)
    refine lv_if_ne (tgt := 43) hx hb dX1_readItem_38 (by decide) (fun c11 => ?_) (fun c11 => ?_)
    · replace hm := zz_neg c11 hm
      refine lv_aload_n hx hb dX1_readItem_43 rfl (lv_at hl 1 rfl) ?_
      refine lv_aload_n hx hb dX1_readItem_44 rfl (lv_at hl 2 rfl) ?_
      obtain ⟨r12, z14, h13, hm⟩ := zz_b2_some hm
      refine zz_calli (zz_runV (w := wC y a) (As := [.ref (a 1)]) (rest := []) ⟨hx, hb, hml, hown, hts⟩ (zX1_readNumber l D y a H.size z10 h13) (cwV 1 hts gX1_readItem_X1_readNumber rfl rfl rfl zdX1_readNumber ⟨Nat.le_of_ble_eq_true rfl, Nat.le_of_ble_eq_true rfl⟩) hK hN hg hP hD hS hA 3 (wC_3 y a z10) rfl rfl hl.1 rfl (Nat.le_of_ble_eq_true rfl) dX1_readItem_45 ⟨Nat.le_of_ble_eq_true rfl, Nat.le_of_ble_eq_true rfl⟩) hD hS hA (fun H locs hP hD hS => ?_)
      refine lv_istore_n (lv' := [(3, .int r12), (2, .int n3), (0, .ref (a 3)), (1, .ref (a 1))]) hx hb dX1_readItem_48 rfl hl (by decide) rfl (fun ls hl => ?_)
      refine lv_iload_n hx hb dX1_readItem_49 rfl (lv_at hl 0 rfl) ?_
      refine lv_if_eq (tgt := 63) hx hb dX1_readItem_50 (by decide) (fun c15 => ?_) (fun c15 => ?_)
      · replace hm := zz_pos c15 hm
        have j := J63 z14 hm
        rw [hG] at j
        exact j H locs ls hP hD hS (lv_sub hl [] rfl)
      · replace hm := zz_neg c15 hm
        refine lv_aload_n hx hb dX1_readItem_53 rfl (lv_at hl 2 rfl) ?_
        refine lv_aload_n hx hb dX1_readItem_54 rfl (lv_at hl 3 rfl) ?_
        refine lv_bipush (v := (42 : Int32)) hx hb dX1_readItem_55 (by decide) ?_
        obtain ⟨r16, z18, h17, hm⟩ := zz_b2_some hm
        refine zz_calli (zz_runV (w := wC y a) (As := [.ref (a 1), .int (42 : Int32)]) (rest := []) ⟨hx, hb, hml, hown, hts⟩ (zX1_pass l D y a H.size (42 : Int32) z14 h17) (cwV 2 hts gX1_readItem_X1_pass rfl rfl rfl zdX1_pass ⟨Nat.le_of_ble_eq_true rfl, Nat.le_of_ble_eq_true rfl⟩) hK hN hg hP hD hS hA 3 (wC_3 y a z14) rfl rfl hl.1 rfl (Nat.le_of_ble_eq_true rfl) dX1_readItem_57 ⟨Nat.le_of_ble_eq_true rfl, Nat.le_of_ble_eq_true rfl⟩) hD hS hA (fun H locs hP hD hS => ?_)
        refine lv_if_ne (tgt := 65) hx hb dX1_readItem_60 (by decide) (fun c19 => ?_) (fun c19 => ?_)
        · replace hm := zz_neg c19 hm
          refine lv_aload_n hx hb dX1_readItem_65 rfl (lv_at hl 2 rfl) ?_
          refine lv_aload_n hx hb dX1_readItem_66 rfl (lv_at hl 3 rfl) ?_
          obtain ⟨r20, z22, h21, hm⟩ := zz_b2_some hm
          refine zz_calli (zz_runV (w := wC y a) (As := [.ref (a 1)]) (rest := []) ⟨hx, hb, hml, hown, hts⟩ (zX1_readNumber l D y a H.size z18 h21) (cwV 1 hts gX1_readItem_X1_readNumber rfl rfl rfl zdX1_readNumber ⟨Nat.le_of_ble_eq_true rfl, Nat.le_of_ble_eq_true rfl⟩) hK hN hg hP hD hS hA 3 (wC_3 y a z18) rfl rfl hl.1 rfl (Nat.le_of_ble_eq_true rfl) dX1_readItem_67 ⟨Nat.le_of_ble_eq_true rfl, Nat.le_of_ble_eq_true rfl⟩) hD hS hA (fun H locs hP hD hS => ?_)
          refine lv_istore (lv' := [(4, .int r20), (3, .int r12), (2, .int n3), (0, .ref (a 3)), (1, .ref (a 1))]) hx hb dX1_readItem_70 hl (by decide) rfl (fun ls hl => ?_)
          refine lv_iload hx hb dX1_readItem_72 (lv_at hl 0 rfl) ?_
          refine lv_if_ne (tgt := 79) hx hb dX1_readItem_74 (by decide) (fun c23 => ?_) (fun c23 => ?_)
          · replace hm := zz_neg c23 hm
            refine lv_aload_n hx hb dX1_readItem_79 rfl (lv_at hl 3 rfl) ?_
            refine va_get (D := D) (ci := 1) (v := .ref (a 4)) (C := RX1) (T := TX1) (N := 2) hx hb hts nX1_readItem_X1 hown hK hP 3 (wC_3 y a z22) rfl 0 (by decide) (hts (.fieldLink RX1 12 "WorksDesk$BillReader" "draft" "LWorksDesk$Bill;") (List.mem_of_getElem? (i := 2) rfl)) (fun _ h9 => h9) rfl dX1_readItem_80 ?_
            refine lv_iload_n hx hb dX1_readItem_83 rfl (lv_at hl 2 rfl) ?_
            refine lv_iload_n hx hb dX1_readItem_84 rfl (lv_at hl 1 rfl) ?_
            refine lv_iload hx hb dX1_readItem_85 (lv_at hl 0 rfl) ?_
            obtain ⟨r24, z26, h25, hm⟩ := zz_b2_some hm
            refine zz_callv (zz_runV (w := wC y a) (As := [.int n3, .int r12, .int r20]) (rest := []) ⟨hx, hb, hml, hown, hts⟩ (zX0_add l D y a H.size 4 n3 r12 r20 (Or.inl rfl) z22 h25) (cwV 3 hts gX1_readItem_X0_add rfl rfl rfl zdX0_add ⟨Nat.le_of_ble_eq_true rfl, Nat.le_of_ble_eq_true rfl⟩) hK hN hg hP hD hS hA 4 (wC_bill y a z22 4 (Or.inl rfl)) rfl rfl hl.1 rfl (Nat.le_of_ble_eq_true rfl) dX1_readItem_87 ⟨Nat.le_of_ble_eq_true rfl, Nat.le_of_ble_eq_true rfl⟩) hD hS hA (fun H locs hP hD hS => ?_)
            refine lv_iconst (v := (1 : Int32)) hx hb dX1_readItem_90 (by decide) ?_
            exact zz_zret hx hb hr hlocks (by decide) (zz_some2 hm) hP hK hD hS dX1_readItem_91
          · replace hm := zz_pos c23 hm
            refine lv_iconst (v := (0 : Int32)) hx hb dX1_readItem_77 (by decide) ?_
            exact zz_zret hx hb hr hlocks (by decide) (zz_some2 hm) hP hK hD hS dX1_readItem_78
        · replace hm := zz_pos c19 hm
          have j := J63 z18 hm
          rw [hG] at j
          exact j H locs ls hP hD hS (lv_sub hl [] rfl)
    · replace hm := zz_pos c11 hm
      refine lv_iconst (v := (0 : Int32)) hx hb dX1_readItem_41 (by decide) ?_
      exact zz_zret hx hb hr hlocks (by decide) (zz_some2 hm) hP hK hD hS dX1_readItem_42
  · replace hm := zz_pos c6 hm
    refine lv_iconst (v := (0 : Int32)) hx hb dX1_readItem_19 (by decide) ?_
    exact zz_zret hx hb hr hlocks (by decide) (zz_some2 hm) hP hK hD hS dX1_readItem_20
def mX1_read_b79 (z : zz_M) : Option (Int32 × zz_M) := some ((-1 : Int32) - (z.2.2.1 193), z)
def mX1_read_b23 : Nat → Int32 → zz_M → Option (Int32 × zz_M)
  | 0, _, _ => none
  | n + 1, v2, z => if (10 : Int32) ≤ v2 then (some ((-1 : Int32) - (z.2.2.1 193), z)) else (zz_b2 (mX1_readItem z) (fun r2 z4 => if r2 = (0 : Int32) then (some ((-1 : Int32) - (z4.2.2.1 193), z4)) else (if (z4.2.2.1 193) = (z4.2.2.1 65) then (some (z4.2.2.1 259, z4)) else (if v2 = (9 : Int32) then (mX1_read_b79 z4) else (zz_b2 (mX1_pass (59 : Int32) z4) (fun r8 z10 => if r8 = (0 : Int32) then (mX1_read_b79 z10) else (zz_nm (v2 + (1 : Int32)) (fun n12 => (mX1_read_b23 n) n12 z10))))))))
def mX1_read (z : zz_M) : Option (Int32 × zz_M) := zz_nm (zz_sF z 193 (0 : Int32)) (fun z13 => zz_b2 (mX0_clear 4 z13) (fun r14 z16 => if (z16.2.2.1 65) = (0 : Int32) then (some ((0 : Int32), z16)) else (mX1_read_b23 zz_N (0 : Int32) z16)))
theorem nX1_read_X0 : ∀ w ∈ wsX00, w ∈ wsX1_read := fun _ h => List.mem_cons_of_mem _ (List.mem_append_right _ (h))
theorem nX1_read_X1 : ∀ w ∈ wsX10, w ∈ wsX1_read := fun _ h => List.mem_cons_of_mem _ (List.mem_append_left _ (List.mem_append_left _ (List.mem_append_right _ (h))))
theorem nX1_read_X9 : ∀ w ∈ wsX90, w ∈ wsX1_read := fun _ h => List.mem_cons_of_mem _ (List.mem_append_left _ (List.mem_append_right _ (h)))
theorem zdX1_read : yX1_read.cls = RX1 ∧ yX1_read.cls ≠ "java/lang/invoke/MethodHandle" ∧ yX1_read.cls ≠ "java/lang/invoke/VarHandle" ∧ (parseMethodDescriptor yX1_read.desc).map (fun d => d.parameters.length) = some 1 := by decide +kernel
set_option maxHeartbeats 4000000 in
set_option maxRecDepth 100000 in
theorem zX1_read (l : Launch) (D : va_G) (y : Nat → ClassId) (a : Nat → Nat) (sz : Nat) (z : zz_M) {r : Int32} {zt : zz_M} (hm : mX1_read z = some (r, zt)) : Met l yX1_read wsX1_read { frames := 4, cells := 0, slots := 0, locals := 90 } (zz_Pc D y (wC y a z) sz [.ref (a 3), .ref (a 1)]) (zz_Qi D y (wC y a) (va_A (wC y a z) sz) r zt) 0 0 (va_A (wC y a z) sz) := by
  refine Met.ofW (cc := cX1_read) (maxL := 3) (ret := (some .int)) (by decide) rfl ?_
  intro p e s m args below meth c s₁ B hml hv
  obtain ⟨rfl, hsz, hP, hK, hD0, hN, hg⟩ := hv
  have hx := B.exec
  have hb := B.bytes
  have hr := B.returns
  have hts := atoms_spec (ws := wsX1_read) B.pre
  have hown : s.vm.findClass RX1 = some m.cls := findClass_of_methodNamed B.named
  have hlocks := B.notSynchronized
  clear B
  subst hsz
  have hD := hD0.self (sz := s.heap.size)
  generalize hAe : va_A (wC y a z) s.heap.size = A at hD hg ⊢
  have hA : ∀ q : Nat, s.heap.size ≤ q → A q := fun q h => by rw [← hAe]; exact Or.inr h
  clear hAe hD0
  have hl := lv_entry ([.ref (a 3), .ref (a 1)]) (n := 3) (Nat.le_of_ble_eq_true rfl)
  rw [lg_entry_eq]
  generalize (lg_sl ([.ref (a 3), .ref (a 1)]) ++ List.replicate (3 - (lg_sl ([.ref (a 3), .ref (a 1)])).length) Slot.unset).toArray = ls at hl ⊢
  replace hl : lv_has ls 3 [(0, .ref (a 3)), (1, .ref (a 1))] := hl
  refine zz_go (w := wC y a) hP hD va_S.rf hl (fun G hG => ?_)
  clear hP hD hl ls
  have J79 : ∀ (z : zz_M), mX1_read_b79 z = some (r, zt) → G 79 [(0, .ref (a 3))] [] z := by
    intro z hm
    rw [mX1_read_b79] at hm
    rw [hG]
    intro H locs ls hP hD hS hl
    refine lv_iconst (v := (-1 : Int32)) hx hb dX1_read_79 (by decide) ?_
    refine lv_aload_n hx hb dX1_read_80 rfl (lv_at hl 0 rfl) ?_
    refine va_get (D := D) (ci := 1) (v := .int (z.2.2.1 193)) (C := RX1) (T := TX1) (N := 2) hx hb hts nX1_read_X1 hown hK hP 3 (wC_3 y a z) rfl 1 (by decide) (hts (.fieldLink RX1 18 "WorksDesk$BillReader" "at" "I") (List.mem_of_getElem? (i := 1) rfl)) (fun _ h9 => h9) rfl dX1_read_81 ?_
    refine lv_isub hx hb dX1_read_84 ?_
    exact zz_iret hx hb hr hlocks (zz_some2 hm) hP hK hD hS dX1_read_85
  have J23 : ∀ (n : Nat) (v2 : Int32) (z : zz_M), mX1_read_b23 n v2 z = some (r, zt) → G 23 [(0, .ref (a 3)), (1, .ref (a 1)), (2, .int v2)] [] z := by
    intro n
    induction n with
    | zero =>
      intro v2 z hm
      exact zz_none hm
    | succ n ih =>
      intro v2 z hm
      rw [mX1_read_b23] at hm
      rw [hG]
      intro H locs ls hP hD hS hl
      refine lv_iload_n hx hb dX1_read_23 rfl (lv_at hl 2 rfl) ?_
      refine lv_bipush (v := (10 : Int32)) hx hb dX1_read_24 (by decide) ?_
      refine lv_icmp_ge (tgt := 92) hx hb dX1_read_26 (by decide) (fun c1 => ?_) (fun c1 => ?_)
      · replace hm := zz_pos c1 hm
        refine lv_iconst (v := (-1 : Int32)) hx hb dX1_read_92 (by decide) ?_
        refine lv_aload_n hx hb dX1_read_93 rfl (lv_at hl 0 rfl) ?_
        refine va_get (D := D) (ci := 1) (v := .int (z.2.2.1 193)) (C := RX1) (T := TX1) (N := 2) hx hb hts nX1_read_X1 hown hK hP 3 (wC_3 y a z) rfl 1 (by decide) (hts (.fieldLink RX1 18 "WorksDesk$BillReader" "at" "I") (List.mem_of_getElem? (i := 1) rfl)) (fun _ h9 => h9) rfl dX1_read_94 ?_
        refine lv_isub hx hb dX1_read_97 ?_
        exact zz_iret hx hb hr hlocks (zz_some2 hm) hP hK hD hS dX1_read_98
      · replace hm := zz_neg c1 hm
        refine lv_aload_n hx hb dX1_read_29 rfl (lv_at hl 0 rfl) ?_
        refine lv_aload_n hx hb dX1_read_30 rfl (lv_at hl 1 rfl) ?_
        obtain ⟨r2, z4, h3, hm⟩ := zz_b2_some hm
        refine zz_calli (zz_runV (w := wC y a) (As := [.ref (a 1)]) (rest := []) ⟨hx, hb, hml, hown, hts⟩ (zX1_readItem l D y a H.size z h3) (cwV 1 hts gX1_read_X1_readItem rfl rfl rfl zdX1_readItem ⟨Nat.le_of_ble_eq_true rfl, Nat.le_of_ble_eq_true rfl⟩) hK hN hg hP hD hS hA 3 (wC_3 y a z) rfl rfl hl.1 rfl (Nat.le_of_ble_eq_true rfl) dX1_read_31 ⟨Nat.le_of_ble_eq_true rfl, Nat.le_of_ble_eq_true rfl⟩) hD hS hA (fun H locs hP hD hS => ?_)
        refine lv_if_ne (tgt := 44) hx hb dX1_read_34 (by decide) (fun c5 => ?_) (fun c5 => ?_)
        · replace hm := zz_neg c5 hm
          refine lv_aload_n hx hb dX1_read_44 rfl (lv_at hl 0 rfl) ?_
          refine va_get (D := D) (ci := 1) (v := .int (z4.2.2.1 193)) (C := RX1) (T := TX1) (N := 2) hx hb hts nX1_read_X1 hown hK hP 3 (wC_3 y a z4) rfl 1 (by decide) (hts (.fieldLink RX1 18 "WorksDesk$BillReader" "at" "I") (List.mem_of_getElem? (i := 1) rfl)) (fun _ h9 => h9) rfl dX1_read_45 ?_
          refine lv_aload_n hx hb dX1_read_48 rfl (lv_at hl 1 rfl) ?_
          refine va_get (D := D) (ci := 9) (v := .int (z4.2.2.1 65)) (C := RX9) (T := TX9) (N := 2) hx hb hts nX1_read_X9 hown hK hP 1 (wC_1 y a z4) rfl 1 (by decide) (hts (.fieldLink RX1 25 "WorksDesk$Text" "size" "I") (List.mem_of_getElem? (i := 3) rfl)) (fun _ h9 => h9) rfl dX1_read_49 ?_
          refine lv_icmp_ne (tgt := 63) hx hb dX1_read_52 (by decide) (fun c6 => ?_) (fun c6 => ?_)
          · replace hm := zz_neg c6 hm
            refine lv_iload_n hx hb dX1_read_63 rfl (lv_at hl 2 rfl) ?_
            refine lv_bipush (v := (9 : Int32)) hx hb dX1_read_64 (by decide) ?_
            refine lv_icmp_eq (tgt := 79) hx hb dX1_read_66 (by decide) (fun c7 => ?_) (fun c7 => ?_)
            · replace hm := zz_pos c7 hm
              have j := J79 z4 hm
              rw [hG] at j
              exact j H locs ls hP hD hS (lv_sub hl [0] rfl)
            · replace hm := zz_neg c7 hm
              refine lv_aload_n hx hb dX1_read_69 rfl (lv_at hl 0 rfl) ?_
              refine lv_aload_n hx hb dX1_read_70 rfl (lv_at hl 1 rfl) ?_
              refine lv_bipush (v := (59 : Int32)) hx hb dX1_read_71 (by decide) ?_
              obtain ⟨r8, z10, h9, hm⟩ := zz_b2_some hm
              refine zz_calli (zz_runV (w := wC y a) (As := [.ref (a 1), .int (59 : Int32)]) (rest := []) ⟨hx, hb, hml, hown, hts⟩ (zX1_pass l D y a H.size (59 : Int32) z4 h9) (cwV 2 hts gX1_read_X1_pass rfl rfl rfl zdX1_pass ⟨Nat.le_of_ble_eq_true rfl, Nat.le_of_ble_eq_true rfl⟩) hK hN hg hP hD hS hA 3 (wC_3 y a z4) rfl rfl hl.1 rfl (Nat.le_of_ble_eq_true rfl) dX1_read_73 ⟨Nat.le_of_ble_eq_true rfl, Nat.le_of_ble_eq_true rfl⟩) hD hS hA (fun H locs hP hD hS => ?_)
              refine lv_if_ne (tgt := 86) hx hb dX1_read_76 (by decide) (fun c11 => ?_) (fun c11 => ?_)
              · replace hm := zz_neg c11 hm
                obtain ⟨n12, en12⟩ : ∃ q : Int32, q = v2 + (1 : Int32) := ⟨_, rfl⟩
                replace hm := zz_nm_some en12 hm
                refine lv_iinc (v := n12) (lv' := [(2, .int n12), (0, .ref (a 3)), (1, .ref (a 1))]) hx hb dX1_read_86 hl (k := 2) rfl (by rw [en12]; rfl) (by decide) rfl (fun ls hl => ?_)
                refine lv_goto (tgt := 23) hx hb dX1_read_89 (by decide) ?_
                have j := ih n12 z10 hm
                rw [hG] at j
                exact j H locs ls hP hD hS (lv_sub hl [1, 2, 0] rfl)
              · replace hm := zz_pos c11 hm
                have j := J79 z10 hm
                rw [hG] at j
                exact j H locs ls hP hD hS (lv_sub hl [0] rfl)
          · replace hm := zz_pos c6 hm
            refine lv_aload_n hx hb dX1_read_55 rfl (lv_at hl 0 rfl) ?_
            refine va_get (D := D) (ci := 1) (v := .ref (a 4)) (C := RX1) (T := TX1) (N := 2) hx hb hts nX1_read_X1 hown hK hP 3 (wC_3 y a z4) rfl 0 (by decide) (hts (.fieldLink RX1 12 "WorksDesk$BillReader" "draft" "LWorksDesk$Bill;") (List.mem_of_getElem? (i := 2) rfl)) (fun _ h9 => h9) rfl dX1_read_56 ?_
            refine va_get (D := D) (ci := 0) (v := .int (z4.2.2.1 259)) (C := RX0) (T := TX0) (N := 5) hx hb hts nX1_read_X0 hown hK hP 4 (wC_bill y a z4 4 (Or.inl rfl)) rfl 3 (by decide) (hts (.fieldLink RX1 34 "WorksDesk$Bill" "size" "I") (List.mem_of_getElem? (i := 4) rfl)) (fun _ h9 => h9) rfl dX1_read_59 ?_
            exact zz_iret hx hb hr hlocks (zz_some2 hm) hP hK hD hS dX1_read_62
        · replace hm := zz_pos c5 hm
          refine lv_iconst (v := (-1 : Int32)) hx hb dX1_read_37 (by decide) ?_
          refine lv_aload_n hx hb dX1_read_38 rfl (lv_at hl 0 rfl) ?_
          refine va_get (D := D) (ci := 1) (v := .int (z4.2.2.1 193)) (C := RX1) (T := TX1) (N := 2) hx hb hts nX1_read_X1 hown hK hP 3 (wC_3 y a z4) rfl 1 (by decide) (hts (.fieldLink RX1 18 "WorksDesk$BillReader" "at" "I") (List.mem_of_getElem? (i := 1) rfl)) (fun _ h9 => h9) rfl dX1_read_39 ?_
          refine lv_isub hx hb dX1_read_42 ?_
          exact zz_iret hx hb hr hlocks (zz_some2 hm) hP hK hD hS dX1_read_43
  rw [hG]
  intro H locs ls hP hD hS hl
  unfold mX1_read at hm
  refine lv_aload_n hx hb dX1_read_0 rfl (lv_at hl 0 rfl) ?_
  refine lv_iconst (v := (0 : Int32)) hx hb dX1_read_1 (by decide) ?_
  refine va_put (D := D) (ci := 1) (v := .int (0 : Int32)) (ty := .int) (C := RX1) (T := TX1) (N := 2) hx hb hts nX1_read_X1 tyX1 tyX1_ok nmX1 hown hK hP hD hS 3 (wC_3 y a z) rfl 1 (by decide) (hts (.fieldLink RX1 18 "WorksDesk$BillReader" "at" "I") (List.mem_of_getElem? (i := 1) rfl)) (fun _ h9 => h9) rfl (tyX1_ok 1 (by decide)) rfl rfl (Nat.le_of_ble_eq_true rfl) dX1_read_2 (fun H locs hP hD hS => ?_)
  obtain ⟨z13, hP, hD, hm⟩ := zz_up (w := wC y a) (wC_f3_1 y a z (0 : Int32)) hP hD hm
  refine lv_aload_n hx hb dX1_read_5 rfl (lv_at hl 0 rfl) ?_
  refine va_get (D := D) (ci := 1) (v := .ref (a 4)) (C := RX1) (T := TX1) (N := 2) hx hb hts nX1_read_X1 hown hK hP 3 (wC_3 y a z13) rfl 0 (by decide) (hts (.fieldLink RX1 12 "WorksDesk$BillReader" "draft" "LWorksDesk$Bill;") (List.mem_of_getElem? (i := 2) rfl)) (fun _ h9 => h9) rfl dX1_read_6 ?_
  obtain ⟨r14, z16, h15, hm⟩ := zz_b2_some hm
  refine zz_callv (zz_runV (w := wC y a) (As := []) (rest := []) ⟨hx, hb, hml, hown, hts⟩ (zX0_clear l D y a H.size 4 (Or.inl rfl) z13 h15) (cwV 0 hts gX1_read_X0_clear rfl rfl rfl zdX0_clear ⟨Nat.le_of_ble_eq_true rfl, Nat.le_of_ble_eq_true rfl⟩) hK hN hg hP hD hS hA 4 (wC_bill y a z13 4 (Or.inl rfl)) rfl rfl hl.1 rfl (Nat.le_of_ble_eq_true rfl) dX1_read_9 ⟨Nat.le_of_ble_eq_true rfl, Nat.le_of_ble_eq_true rfl⟩) hD hS hA (fun H locs hP hD hS => ?_)
  refine lv_aload_n hx hb dX1_read_12 rfl (lv_at hl 1 rfl) ?_
  refine va_get (D := D) (ci := 9) (v := .int (z16.2.2.1 65)) (C := RX9) (T := TX9) (N := 2) hx hb hts nX1_read_X9 hown hK hP 1 (wC_1 y a z16) rfl 1 (by decide) (hts (.fieldLink RX1 25 "WorksDesk$Text" "size" "I") (List.mem_of_getElem? (i := 3) rfl)) (fun _ h9 => h9) rfl dX1_read_13 ?_
  refine lv_if_ne (tgt := 21) hx hb dX1_read_16 (by decide) (fun c17 => ?_) (fun c17 => ?_)
  · replace hm := zz_neg c17 hm
    refine lv_iconst (v := (0 : Int32)) hx hb dX1_read_21 (by decide) ?_
    refine lv_istore_n (lv' := [(2, .int (0 : Int32)), (0, .ref (a 3)), (1, .ref (a 1))]) hx hb dX1_read_22 rfl hl (by decide) rfl (fun ls hl => ?_)
    have j := J23 zz_N (0 : Int32) z16 hm
    rw [hG] at j
    exact j H locs ls hP hD hS (lv_sub hl [1, 2, 0] rfl)
  · replace hm := zz_pos c17 hm
    refine lv_iconst (v := (0 : Int32)) hx hb dX1_read_19 (by decide) ?_
    exact zz_iret hx hb hr hlocks (zz_some2 hm) hP hK hD hS dX1_read_20
def mX6_clear (fk : Nat) (z : zz_M) : Option (Unit × zz_M) := zz_b2 (mJ7_fill_53178 (16 + 3 * fk + 1) 24 (-1 : Int32) z) (fun r1 z3 => zz_b2 (mJ7_fill_53178 (16 + 3 * fk + 2) 24 (z3.2.2.1 (64 * (16 + 3 * fk) + 2)) z3) (fun r4 z6 => some ((), z6)))
theorem nX6_clear_X6 : ∀ w ∈ wsX60, w ∈ wsX6_clear := fun _ h => List.mem_cons_of_mem _ (List.mem_append_right _ (h))
theorem zdX6_clear : yX6_clear.cls = RX6 ∧ yX6_clear.cls ≠ "java/lang/invoke/MethodHandle" ∧ yX6_clear.cls ≠ "java/lang/invoke/VarHandle" ∧ (parseMethodDescriptor yX6_clear.desc).map (fun d => d.parameters.length) = some 0 := by decide +kernel
set_option maxHeartbeats 4000000 in
set_option maxRecDepth 100000 in
theorem zX6_clear (l : Launch) (D : va_G) (y : Nat → ClassId) (a : Nat → Nat) (sz : Nat) (fk : Nat) (hfk : fk < 12) (z : zz_M) {r : Unit} {zt : zz_M} (hm : mX6_clear fk z = some (r, zt)) : Met l yX6_clear wsX6_clear { frames := 1, cells := 0, slots := 0, locals := 23 } (zz_Pc D y (wC y a z) sz [.ref (a (16 + 3 * fk))]) (zz_Qv D y (wC y a) (va_A (wC y a z) sz) zt) 0 0 (va_A (wC y a z) sz) := by
  refine Met.ofW (cc := cX6_clear) (maxL := 1) (ret := none) (by decide) rfl ?_
  intro p e s m args below meth c s₁ B hml hv
  obtain ⟨rfl, hsz, hP, hK, hD0, hN, hg⟩ := hv
  have hx := B.exec
  have hb := B.bytes
  have hr := B.returns
  have hts := atoms_spec (ws := wsX6_clear) B.pre
  have hown : s.vm.findClass RX6 = some m.cls := findClass_of_methodNamed B.named
  have hlocks := B.notSynchronized
  clear B
  subst hsz
  have hD := hD0.self (sz := s.heap.size)
  generalize hAe : va_A (wC y a z) s.heap.size = A at hD hg ⊢
  have hA : ∀ q : Nat, s.heap.size ≤ q → A q := fun q h => by rw [← hAe]; exact Or.inr h
  clear hAe hD0
  have hl := lv_entry ([.ref (a (16 + 3 * fk))]) (n := 1) (Nat.le_of_ble_eq_true rfl)
  rw [lg_entry_eq]
  generalize (lg_sl ([.ref (a (16 + 3 * fk))]) ++ List.replicate (1 - (lg_sl ([.ref (a (16 + 3 * fk))])).length) Slot.unset).toArray = ls at hl ⊢
  replace hl : lv_has ls 1 [(0, .ref (a (16 + 3 * fk)))] := hl
  refine zz_go (w := wC y a) hP hD va_S.rf hl (fun G hG => ?_)
  clear hP hD hl ls
  rw [hG]
  intro H locs ls hP hD hS hl
  unfold mX6_clear at hm
  refine lv_aload_n hx hb dX6_clear_0 rfl (lv_at hl 0 rfl) ?_
  refine va_get (D := D) (ci := 6) (v := .ref (a (16 + 3 * fk + 1))) (C := RX6) (T := TX6) (N := 3) hx hb hts nX6_clear_X6 hown hK hP (16 + 3 * fk) (wC_ser y a z fk hfk) rfl 0 (by decide) (hts (.fieldLink RX6 9 "WorksDesk$Series" "told" "[I") (List.mem_of_getElem? (i := 1) rfl)) (fun _ h9 => h9) rfl dX6_clear_1 ?_
  refine lv_iconst (v := (-1 : Int32)) hx hb dX6_clear_4 (by decide) ?_
  obtain ⟨r1, z3, h2, hm⟩ := zz_b2_some hm
  refine zz_callv (zz_runS (w := wC y a) (As := [.ref (a (16 + 3 * fk + 1)), .int (-1 : Int32)]) (rest := []) ⟨hx, hb, hml, hown, hts⟩ (zJ7_fill_53178 l D y a H.size (16 + 3 * fk + 1) 24 (-1 : Int32) (wC y a) (a (16 + 3 * fk + 1)) (fun z => (wC_serA1 y a z fk hfk)) (fun z i x => (wC_serW1 y a z i x fk hfk)) z h2) (va_cwS 2 hts gX6_clear_J7_fill_53178 rfl rfl rfl zdJ7_fill_53178 ⟨Nat.le_of_ble_eq_true rfl, Nat.le_of_ble_eq_true rfl⟩) hK hN hg hP hD hS hA rfl hl.1 rfl (Nat.le_of_ble_eq_true rfl) dX6_clear_5 ⟨Nat.le_of_ble_eq_true rfl, Nat.le_of_ble_eq_true rfl⟩) hD hS hA (fun H locs hP hD hS => ?_)
  refine lv_aload_n hx hb dX6_clear_8 rfl (lv_at hl 0 rfl) ?_
  refine va_get (D := D) (ci := 6) (v := .ref (a (16 + 3 * fk + 2))) (C := RX6) (T := TX6) (N := 3) hx hb hts nX6_clear_X6 hown hK hP (16 + 3 * fk) (wC_ser y a z3 fk hfk) rfl 1 (by decide) (hts (.fieldLink RX6 15 "WorksDesk$Series" "standing" "[I") (List.mem_of_getElem? (i := 2) rfl)) (fun _ h9 => h9) rfl dX6_clear_9 ?_
  refine lv_aload_n hx hb dX6_clear_12 rfl (lv_at hl 0 rfl) ?_
  refine va_get (D := D) (ci := 6) (v := .int (z3.2.2.1 (64 * (16 + 3 * fk) + 2))) (C := RX6) (T := TX6) (N := 3) hx hb hts nX6_clear_X6 hown hK hP (16 + 3 * fk) (wC_ser y a z3 fk hfk) rfl 2 (by decide) (hts (.fieldLink RX6 18 "WorksDesk$Series" "without" "I") (List.mem_of_getElem? (i := 3) rfl)) (fun _ h9 => h9) rfl dX6_clear_13 ?_
  obtain ⟨r4, z6, h5, hm⟩ := zz_b2_some hm
  refine zz_callv (zz_runS (w := wC y a) (As := [.ref (a (16 + 3 * fk + 2)), .int (z3.2.2.1 (64 * (16 + 3 * fk) + 2))]) (rest := []) ⟨hx, hb, hml, hown, hts⟩ (zJ7_fill_53178 l D y a H.size (16 + 3 * fk + 2) 24 (z3.2.2.1 (64 * (16 + 3 * fk) + 2)) (wC y a) (a (16 + 3 * fk + 2)) (fun z => (wC_serA2 y a z fk hfk)) (fun z i x => (wC_serW2 y a z i x fk hfk)) z3 h5) (va_cwS 2 hts gX6_clear_J7_fill_53178 rfl rfl rfl zdJ7_fill_53178 ⟨Nat.le_of_ble_eq_true rfl, Nat.le_of_ble_eq_true rfl⟩) hK hN hg hP hD hS hA rfl hl.1 rfl (Nat.le_of_ble_eq_true rfl) dX6_clear_16 ⟨Nat.le_of_ble_eq_true rfl, Nat.le_of_ble_eq_true rfl⟩) hD hS hA (fun H locs hP hD hS => ?_)
  exact zz_vret hx hb hr hlocks (zz_some2 hm).2 hP hK hD hS dX6_clear_19
def mX2_startWith_b10 (gb : Nat) : Nat → Int32 → zz_M → Option (Unit × zz_M)
  | 0, _, _ => none
  | n + 1, v2, z => if (10 : Int32) ≤ v2 then (zz_b2 (mX6_clear 10 z) (fun r2 z4 => zz_b2 (mX6_clear 11 z4) (fun r5 z7 => zz_nm (zz_sF z7 3332 (0 : Int32)) (fun z8 => zz_nm (zz_sF z8 3653 (0 : Int32)) (fun z9 => zz_b2 (mJ7_fill_d0a16 63 24 (0 : Int64) z9) (fun r10 z12 => zz_nm (zz_sF z12 520 (24 : Int32)) (fun z13 => zz_nm (zz_sF z13 521 (24 : Int32)) (fun z14 => zz_nm (zz_sF z14 522 (24 : Int32)) (fun z15 => zz_nm (zz_sF z15 523 (0 : Int32)) (fun z16 => some ((), z16))))))))))) else (zz_ck (zz_in v2 10) (zz_b2 (mX6_clear v2.toNatClampNeg z) (fun r18 z20 => zz_nm (v2 + (1 : Int32)) (fun n21 => (mX2_startWith_b10 gb n) n21 z20))))
def mX2_startWith (gb : Nat) (z : zz_M) : Option (Unit × zz_M) := zz_b2 (mX0_take 9 gb z) (fun r22 z24 => mX2_startWith_b10 gb zz_N (0 : Int32) z24)
theorem nX2_startWith_X2 : ∀ w ∈ wsX20, w ∈ wsX2_startWith := fun _ h => List.mem_cons_of_mem _ (List.mem_append_left _ (List.mem_append_left _ (List.mem_append_left _ (List.mem_append_left _ (List.mem_append_right _ (h))))))
theorem nX2_startWith_X3 : ∀ w ∈ wsX30, w ∈ wsX2_startWith := fun _ h => List.mem_cons_of_mem _ (List.mem_append_left _ (List.mem_append_left _ (List.mem_append_left _ (List.mem_append_right _ (h)))))
theorem nX2_startWith_X7 : ∀ w ∈ wsX70, w ∈ wsX2_startWith := fun _ h => List.mem_cons_of_mem _ (List.mem_append_left _ (List.mem_append_left _ (List.mem_append_right _ (h))))
theorem zdX2_startWith : yX2_startWith.cls = RX2 ∧ yX2_startWith.cls ≠ "java/lang/invoke/MethodHandle" ∧ yX2_startWith.cls ≠ "java/lang/invoke/VarHandle" ∧ (parseMethodDescriptor yX2_startWith.desc).map (fun d => d.parameters.length) = some 1 := by decide +kernel
set_option maxHeartbeats 4000000 in
set_option maxRecDepth 100000 in
theorem zX2_startWith (l : Launch) (D : va_G) (y : Nat → ClassId) (a : Nat → Nat) (sz : Nat) (gb : Nat) (hgb : gb = 4 ∨ gb = 9) (z : zz_M) {r : Unit} {zt : zz_M} (hm : mX2_startWith gb z = some (r, zt)) : Met l yX2_startWith wsX2_startWith { frames := 2, cells := 0, slots := 0, locals := 45 } (zz_Pc D y (wC y a z) sz [.ref (a 8), .ref (a gb)]) (zz_Qv D y (wC y a) (va_A (wC y a z) sz) zt) 0 0 (va_A (wC y a z) sz) := by
  refine Met.ofW (cc := cX2_startWith) (maxL := 3) (ret := none) (by decide) rfl ?_
  intro p e s m args below meth c s₁ B hml hv
  obtain ⟨rfl, hsz, hP, hK, hD0, hN, hg⟩ := hv
  have hx := B.exec
  have hb := B.bytes
  have hr := B.returns
  have hts := atoms_spec (ws := wsX2_startWith) B.pre
  have hown : s.vm.findClass RX2 = some m.cls := findClass_of_methodNamed B.named
  have hlocks := B.notSynchronized
  clear B
  subst hsz
  have hD := hD0.self (sz := s.heap.size)
  generalize hAe : va_A (wC y a z) s.heap.size = A at hD hg ⊢
  have hA : ∀ q : Nat, s.heap.size ≤ q → A q := fun q h => by rw [← hAe]; exact Or.inr h
  clear hAe hD0
  have hl := lv_entry ([.ref (a 8), .ref (a gb)]) (n := 3) (Nat.le_of_ble_eq_true rfl)
  rw [lg_entry_eq]
  generalize (lg_sl ([.ref (a 8), .ref (a gb)]) ++ List.replicate (3 - (lg_sl ([.ref (a 8), .ref (a gb)])).length) Slot.unset).toArray = ls at hl ⊢
  replace hl : lv_has ls 3 [(0, .ref (a 8)), (1, .ref (a gb))] := hl
  refine zz_go (w := wC y a) hP hD va_S.rf hl (fun G hG => ?_)
  clear hP hD hl ls
  have J10 : ∀ (n : Nat) (v2 : Int32) (z : zz_M), mX2_startWith_b10 gb n v2 z = some (r, zt) → G 10 [(0, .ref (a 8)), (2, .int v2)] [] z := by
    intro n
    induction n with
    | zero =>
      intro v2 z hm
      exact zz_none hm
    | succ n ih =>
      intro v2 z hm
      rw [mX2_startWith_b10] at hm
      rw [hG]
      intro H locs ls hP hD hS hl
      refine lv_iload_n hx hb dX2_startWith_10 rfl (lv_at hl 1 rfl) ?_
      refine lv_bipush (v := (10 : Int32)) hx hb dX2_startWith_11 (by decide) ?_
      refine lv_icmp_ge (tgt := 31) hx hb dX2_startWith_13 (by decide) (fun c1 => ?_) (fun c1 => ?_)
      · replace hm := zz_pos c1 hm
        refine lv_aload_n hx hb dX2_startWith_31 rfl (lv_at hl 0 rfl) ?_
        refine va_get (D := D) (ci := 2) (v := .ref (a 46)) (C := RX2) (T := TX2) (N := 12) hx hb hts nX2_startWith_X2 hown hK hP 8 (wC_8 y a z) rfl 3 (by decide) (hts (.fieldLink RX2 34 "WorksDesk$Book" "stored" "LWorksDesk$Series;") (List.mem_of_getElem? (i := 3) rfl)) (fun _ h9 => h9) rfl dX2_startWith_32 ?_
        obtain ⟨r2, z4, h3, hm⟩ := zz_b2_some hm
        refine zz_callv (zz_runV (w := wC y a) (As := []) (rest := []) ⟨hx, hb, hml, hown, hts⟩ (zX6_clear l D y a H.size 10 (by decide) z h3) (cwV 0 hts gX2_startWith_X6_clear rfl rfl rfl zdX6_clear ⟨Nat.le_of_ble_eq_true rfl, Nat.le_of_ble_eq_true rfl⟩) hK hN hg hP hD hS hA 46 (wC_ser y a z 10 (by decide)) rfl rfl hl.1 rfl (Nat.le_of_ble_eq_true rfl) dX2_startWith_35 ⟨Nat.le_of_ble_eq_true rfl, Nat.le_of_ble_eq_true rfl⟩) hD hS hA (fun H locs hP hD hS => ?_)
        refine lv_aload_n hx hb dX2_startWith_38 rfl (lv_at hl 0 rfl) ?_
        refine va_get (D := D) (ci := 2) (v := .ref (a 49)) (C := RX2) (T := TX2) (N := 12) hx hb hts nX2_startWith_X2 hown hK hP 8 (wC_8 y a z4) rfl 4 (by decide) (hts (.fieldLink RX2 38 "WorksDesk$Book" "index" "LWorksDesk$Series;") (List.mem_of_getElem? (i := 4) rfl)) (fun _ h9 => h9) rfl dX2_startWith_39 ?_
        obtain ⟨r5, z7, h6, hm⟩ := zz_b2_some hm
        refine zz_callv (zz_runV (w := wC y a) (As := []) (rest := []) ⟨hx, hb, hml, hown, hts⟩ (zX6_clear l D y a H.size 11 (by decide) z4 h6) (cwV 0 hts gX2_startWith_X6_clear rfl rfl rfl zdX6_clear ⟨Nat.le_of_ble_eq_true rfl, Nat.le_of_ble_eq_true rfl⟩) hK hN hg hP hD hS hA 49 (wC_ser y a z4 11 (by decide)) rfl rfl hl.1 rfl (Nat.le_of_ble_eq_true rfl) dX2_startWith_42 ⟨Nat.le_of_ble_eq_true rfl, Nat.le_of_ble_eq_true rfl⟩) hD hS hA (fun H locs hP hD hS => ?_)
        refine lv_aload_n hx hb dX2_startWith_45 rfl (lv_at hl 0 rfl) ?_
        refine va_get (D := D) (ci := 2) (v := .ref (a 52)) (C := RX2) (T := TX2) (N := 12) hx hb hts nX2_startWith_X2 hown hK hP 8 (wC_8 y a z7) rfl 5 (by decide) (hts (.fieldLink RX2 44 "WorksDesk$Book" "changes" "LWorksDesk$Changes;") (List.mem_of_getElem? (i := 5) rfl)) (fun _ h9 => h9) rfl dX2_startWith_46 ?_
        refine lv_iconst (v := (0 : Int32)) hx hb dX2_startWith_49 (by decide) ?_
        refine va_put (D := D) (ci := 3) (v := .int (0 : Int32)) (ty := .int) (C := RX3) (T := TX3) (N := 5) hx hb hts nX2_startWith_X3 tyX3 tyX3_ok nmX3 hown hK hP hD hS 52 (wC_52 y a z7) rfl 4 (by decide) (hts (.fieldLink RX2 79 "WorksDesk$Changes" "size" "I") (List.mem_of_getElem? (i := 6) rfl)) (fun _ h9 => h9) rfl (tyX3_ok 4 (by decide)) rfl rfl (Nat.le_of_ble_eq_true rfl) dX2_startWith_50 (fun H locs hP hD hS => ?_)
        obtain ⟨z8, hP, hD, hm⟩ := zz_up (w := wC y a) (wC_f52_4 y a z7 (0 : Int32)) hP hD hm
        refine lv_aload_n hx hb dX2_startWith_53 rfl (lv_at hl 0 rfl) ?_
        refine va_get (D := D) (ci := 2) (v := .ref (a 57)) (C := RX2) (T := TX2) (N := 12) hx hb hts nX2_startWith_X2 hown hK hP 8 (wC_8 y a z8) rfl 6 (by decide) (hts (.fieldLink RX2 51 "WorksDesk$Book" "setOffs" "LWorksDesk$SetOffs;") (List.mem_of_getElem? (i := 7) rfl)) (fun _ h9 => h9) rfl dX2_startWith_54 ?_
        refine lv_iconst (v := (0 : Int32)) hx hb dX2_startWith_57 (by decide) ?_
        refine va_put (D := D) (ci := 7) (v := .int (0 : Int32)) (ty := .int) (C := RX7) (T := TX7) (N := 6) hx hb hts nX2_startWith_X7 tyX7 tyX7_ok nmX7 hown hK hP hD hS 57 (wC_57 y a z8) rfl 5 (by decide) (hts (.fieldLink RX2 82 "WorksDesk$SetOffs" "size" "I") (List.mem_of_getElem? (i := 8) rfl)) (fun _ h9 => h9) rfl (tyX7_ok 5 (by decide)) rfl rfl (Nat.le_of_ble_eq_true rfl) dX2_startWith_58 (fun H locs hP hD hS => ?_)
        obtain ⟨z9, hP, hD, hm⟩ := zz_up (w := wC y a) (wC_f57_5 y a z8 (0 : Int32)) hP hD hm
        refine lv_aload_n hx hb dX2_startWith_61 rfl (lv_at hl 0 rfl) ?_
        refine va_get (D := D) (ci := 2) (v := .ref (a 63)) (C := RX2) (T := TX2) (N := 12) hx hb hts nX2_startWith_X2 hown hK hP 8 (wC_8 y a z9) rfl 7 (by decide) (hts (.fieldLink RX2 55 "WorksDesk$Book" "paid" "[J") (List.mem_of_getElem? (i := 9) rfl)) (fun _ h9 => h9) rfl dX2_startWith_62 ?_
        refine lv_lconst (v := (0 : Int64)) hx hb dX2_startWith_65 (by decide) ?_
        obtain ⟨r10, z12, h11, hm⟩ := zz_b2_some hm
        refine zz_callv (zz_runS (w := wC y a) (As := [.ref (a 63), .long (0 : Int64)]) (rest := []) ⟨hx, hb, hml, hown, hts⟩ (zJ7_fill_d0a16 l D y a H.size 63 24 (0 : Int64) (wC y a) (a 63) (fun z => (wC_63 y a z)) (fun z i x => (wC_w63 y a z i x)) z9 h11) (va_cwS 2 hts gX2_startWith_J7_fill_d0a16 rfl rfl rfl zdJ7_fill_d0a16 ⟨Nat.le_of_ble_eq_true rfl, Nat.le_of_ble_eq_true rfl⟩) hK hN hg hP hD hS hA rfl hl.1 rfl (Nat.le_of_ble_eq_true rfl) dX2_startWith_66 ⟨Nat.le_of_ble_eq_true rfl, Nat.le_of_ble_eq_true rfl⟩) hD hS hA (fun H locs hP hD hS => ?_)
        refine lv_aload_n hx hb dX2_startWith_69 rfl (lv_at hl 0 rfl) ?_
        refine lv_bipush (v := (24 : Int32)) hx hb dX2_startWith_70 (by decide) ?_
        refine va_put (D := D) (ci := 2) (v := .int (24 : Int32)) (ty := .int) (C := RX2) (T := TX2) (N := 12) hx hb hts nX2_startWith_X2 tyX2 tyX2_ok nmX2 hown hK hP hD hS 8 (wC_8 y a z12) rfl 8 (by decide) (hts (.fieldLink RX2 59 "WorksDesk$Book" "handedOver" "I") (List.mem_of_getElem? (i := 10) rfl)) (fun _ h9 => h9) rfl (tyX2_ok 8 (by decide)) rfl rfl (Nat.le_of_ble_eq_true rfl) dX2_startWith_72 (fun H locs hP hD hS => ?_)
        obtain ⟨z13, hP, hD, hm⟩ := zz_up (w := wC y a) (wC_f8_8 y a z12 (24 : Int32)) hP hD hm
        refine lv_aload_n hx hb dX2_startWith_75 rfl (lv_at hl 0 rfl) ?_
        refine lv_bipush (v := (24 : Int32)) hx hb dX2_startWith_76 (by decide) ?_
        refine va_put (D := D) (ci := 2) (v := .int (24 : Int32)) (ty := .int) (C := RX2) (T := TX2) (N := 12) hx hb hts nX2_startWith_X2 tyX2 tyX2_ok nmX2 hown hK hP hD hS 8 (wC_8 y a z13) rfl 9 (by decide) (hts (.fieldLink RX2 63 "WorksDesk$Book" "closed" "I") (List.mem_of_getElem? (i := 11) rfl)) (fun _ h9 => h9) rfl (tyX2_ok 9 (by decide)) rfl rfl (Nat.le_of_ble_eq_true rfl) dX2_startWith_78 (fun H locs hP hD hS => ?_)
        obtain ⟨z14, hP, hD, hm⟩ := zz_up (w := wC y a) (wC_f8_9 y a z13 (24 : Int32)) hP hD hm
        refine lv_aload_n hx hb dX2_startWith_81 rfl (lv_at hl 0 rfl) ?_
        refine lv_bipush (v := (24 : Int32)) hx hb dX2_startWith_82 (by decide) ?_
        refine va_put (D := D) (ci := 2) (v := .int (24 : Int32)) (ty := .int) (C := RX2) (T := TX2) (N := 12) hx hb hts nX2_startWith_X2 tyX2 tyX2_ok nmX2 hown hK hP hD hS 8 (wC_8 y a z14) rfl 10 (by decide) (hts (.fieldLink RX2 66 "WorksDesk$Book" "dueBy" "I") (List.mem_of_getElem? (i := 12) rfl)) (fun _ h9 => h9) rfl (tyX2_ok 10 (by decide)) rfl rfl (Nat.le_of_ble_eq_true rfl) dX2_startWith_84 (fun H locs hP hD hS => ?_)
        obtain ⟨z15, hP, hD, hm⟩ := zz_up (w := wC y a) (wC_f8_10 y a z14 (24 : Int32)) hP hD hm
        refine lv_aload_n hx hb dX2_startWith_87 rfl (lv_at hl 0 rfl) ?_
        refine lv_iconst (v := (0 : Int32)) hx hb dX2_startWith_88 (by decide) ?_
        refine va_put (D := D) (ci := 2) (v := .int (0 : Int32)) (ty := .int) (C := RX2) (T := TX2) (N := 12) hx hb hts nX2_startWith_X2 tyX2 tyX2_ok nmX2 hown hK hP hD hS 8 (wC_8 y a z15) rfl 11 (by decide) (hts (.fieldLink RX2 69 "WorksDesk$Book" "granted" "I") (List.mem_of_getElem? (i := 13) rfl)) (fun _ h9 => h9) rfl (tyX2_ok 11 (by decide)) rfl rfl (Nat.le_of_ble_eq_true rfl) dX2_startWith_89 (fun H locs hP hD hS => ?_)
        obtain ⟨z16, hP, hD, hm⟩ := zz_up (w := wC y a) (wC_f8_11 y a z15 (0 : Int32)) hP hD hm
        exact zz_vret hx hb hr hlocks (zz_some2 hm).2 hP hK hD hS dX2_startWith_92
      · replace hm := zz_neg c1 hm
        refine lv_aload_n hx hb dX2_startWith_16 rfl (lv_at hl 0 rfl) ?_
        refine va_get (D := D) (ci := 2) (v := .ref (a 15)) (C := RX2) (T := TX2) (N := 12) hx hb hts nX2_startWith_X2 hown hK hP 8 (wC_8 y a z) rfl 2 (by decide) (hts (.fieldLink RX2 27 "WorksDesk$Book" "measured" "[LWorksDesk$Series;") (List.mem_of_getElem? (i := 2) rfl)) (fun _ h9 => h9) rfl dX2_startWith_17 ?_
        refine lv_iload_n hx hb dX2_startWith_20 rfl (lv_at hl 1 rfl) ?_
        obtain ⟨c17, hm⟩ := zz_ck_some hm
        refine va_aldq (C := RX6) hx hb hK hP 15 3 (wC_15 y a z) rfl c17 dX2_startWith_21 ?_
        refine W.eq (g2 := F0 m 22 ls [.ref (a (16 + 3 * v2.toNatClampNeg))]) rfl ?_
        obtain ⟨r18, z20, h19, hm⟩ := zz_b2_some hm
        refine zz_callv (zz_runV (w := wC y a) (As := []) (rest := []) ⟨hx, hb, hml, hown, hts⟩ (zX6_clear l D y a H.size v2.toNatClampNeg (zz_lt c17 (by decide)) z h19) (cwV 0 hts gX2_startWith_X6_clear rfl rfl rfl zdX6_clear ⟨Nat.le_of_ble_eq_true rfl, Nat.le_of_ble_eq_true rfl⟩) hK hN hg hP hD hS hA (16 + 3 * v2.toNatClampNeg) (wC_ser y a z v2.toNatClampNeg (zz_lt c17 (by decide))) rfl rfl hl.1 rfl (Nat.le_of_ble_eq_true rfl) dX2_startWith_22 ⟨Nat.le_of_ble_eq_true rfl, Nat.le_of_ble_eq_true rfl⟩) hD hS hA (fun H locs hP hD hS => ?_)
        obtain ⟨n21, en21⟩ : ∃ q : Int32, q = v2 + (1 : Int32) := ⟨_, rfl⟩
        replace hm := zz_nm_some en21 hm
        refine lv_iinc (v := n21) (lv' := [(2, .int n21), (0, .ref (a 8))]) hx hb dX2_startWith_25 hl (k := 1) rfl (by rw [en21]; rfl) (by decide) rfl (fun ls hl => ?_)
        refine lv_goto (tgt := 10) hx hb dX2_startWith_28 (by decide) ?_
        have j := ih n21 z20 hm
        rw [hG] at j
        exact j H locs ls hP hD hS (lv_sub hl [1, 0] rfl)
  rw [hG]
  intro H locs ls hP hD hS hl
  unfold mX2_startWith at hm
  refine lv_aload_n hx hb dX2_startWith_0 rfl (lv_at hl 0 rfl) ?_
  refine va_get (D := D) (ci := 2) (v := .ref (a 9)) (C := RX2) (T := TX2) (N := 12) hx hb hts nX2_startWith_X2 hown hK hP 8 (wC_8 y a z) rfl 0 (by decide) (hts (.fieldLink RX2 12 "WorksDesk$Book" "items" "LWorksDesk$Bill;") (List.mem_of_getElem? (i := 1) rfl)) (fun _ h9 => h9) rfl dX2_startWith_1 ?_
  refine lv_aload_n hx hb dX2_startWith_4 rfl (lv_at hl 1 rfl) ?_
  obtain ⟨r22, z24, h23, hm⟩ := zz_b2_some hm
  refine zz_callv (zz_runV (w := wC y a) (As := [.ref (a gb)]) (rest := []) ⟨hx, hb, hml, hown, hts⟩ (zX0_take l D y a H.size 9 gb (Or.inr rfl) hgb z h23) (cwV 1 hts gX2_startWith_X0_take rfl rfl rfl zdX0_take ⟨Nat.le_of_ble_eq_true rfl, Nat.le_of_ble_eq_true rfl⟩) hK hN hg hP hD hS hA 9 (wC_bill y a z 9 (Or.inr rfl)) rfl rfl hl.1 rfl (Nat.le_of_ble_eq_true rfl) dX2_startWith_5 ⟨Nat.le_of_ble_eq_true rfl, Nat.le_of_ble_eq_true rfl⟩) hD hS hA (fun H locs hP hD hS => ?_)
  refine lv_iconst (v := (0 : Int32)) hx hb dX2_startWith_8 (by decide) ?_
  refine lv_istore_n (lv' := [(2, .int (0 : Int32)), (0, .ref (a 8)), (1, .ref (a gb))]) hx hb dX2_startWith_9 rfl hl (by decide) rfl (fun ls hl => ?_)
  have j := J10 zz_N (0 : Int32) z24 hm
  rw [hG] at j
  exact j H locs ls hP hD hS (lv_sub hl [1, 0] rfl)
