def mX0_add (fb : Nat) (x1 : Int32) (x2 : Int32) (x3 : Int32) (z : zz_M) : Option (Unit × zz_M) := if (z.2.2.1 (64 * fb + 3)) < (10 : Int32) then (zz_ck (zz_in (z.2.2.1 (64 * fb + 3)) 10) (zz_nm (zz_wI z (fb + 1) (z.2.2.1 (64 * fb + 3)) x1) (fun z3 => zz_ck (zz_in (z3.2.2.1 (64 * fb + 3)) 10) (zz_nm (zz_wI z3 (fb + 2) (z3.2.2.1 (64 * fb + 3)) x2) (fun z5 => zz_ck (zz_in (z5.2.2.1 (64 * fb + 3)) 10) (zz_nm (zz_wI z5 (fb + 3) (z5.2.2.1 (64 * fb + 3)) x3) (fun z7 => zz_nm (zz_sF z7 (64 * fb + 3) ((z7.2.2.1 (64 * fb + 3)) + (1 : Int32))) (fun z8 => zz_nm (zz_sF z8 (64 * fb + 4) ((z8.2.2.1 (64 * fb + 4)) + (x2 * x3))) (fun z9 => some ((), z9)))))))))) else (some ((), z))
theorem nX0_add_X0 : ∀ w ∈ wsX00, w ∈ wsX0_add := fun _ h => List.mem_cons_of_mem _ (List.mem_append_right _ (h))
theorem zdX0_add : yX0_add.cls = RX0 ∧ yX0_add.cls ≠ "java/lang/invoke/MethodHandle" ∧ yX0_add.cls ≠ "java/lang/invoke/VarHandle" ∧ (parseMethodDescriptor yX0_add.desc).map (fun d => d.parameters.length) = some 3 := by decide +kernel
set_option maxHeartbeats 4000000 in
set_option maxRecDepth 100000 in
theorem zX0_add (l : Launch) (D : va_G) (y : Nat → ClassId) (a : Nat → Nat) (sz : Nat) (fb : Nat) (x1 : Int32) (x2 : Int32) (x3 : Int32) (hfb : fb = 4 ∨ fb = 9) (z : zz_M) {r : Unit} {zt : zz_M} (hm : mX0_add fb x1 x2 x3 z = some (r, zt)) : Met l yX0_add wsX0_add { frames := 0, cells := 0, slots := 0, locals := 0 } (zz_Pc D y (wC y a z) sz [.ref (a fb), .int x1, .int x2, .int x3]) (zz_Qv D y (wC y a) (va_A (wC y a z) sz) zt) 0 0 (va_A (wC y a z) sz) := by
  refine Met.ofW (cc := cX0_add) (maxL := 4) (ret := none) (by decide) rfl ?_
  intro p e s m args below meth c s₁ B hml hv
  obtain ⟨rfl, hsz, hP, hK, hD0, hN, hg⟩ := hv
  have hx := B.exec
  have hb := B.bytes
  have hr := B.returns
  have hts := atoms_spec (ws := wsX0_add) B.pre
  have hown : s.vm.findClass RX0 = some m.cls := findClass_of_methodNamed B.named
  have hlocks := B.notSynchronized
  clear B
  subst hsz
  have hD := hD0.self (sz := s.heap.size)
  generalize hAe : va_A (wC y a z) s.heap.size = A at hD hg ⊢
  have hA : ∀ q : Nat, s.heap.size ≤ q → A q := fun q h => by rw [← hAe]; exact Or.inr h
  clear hAe hD0
  have hl := lv_entry ([.ref (a fb), .int x1, .int x2, .int x3]) (n := 4) (Nat.le_of_ble_eq_true rfl)
  rw [lg_entry_eq]
  generalize (lg_sl ([.ref (a fb), .int x1, .int x2, .int x3]) ++ List.replicate (4 - (lg_sl ([.ref (a fb), .int x1, .int x2, .int x3])).length) Slot.unset).toArray = ls at hl ⊢
  replace hl : lv_has ls 4 [(0, .ref (a fb)), (1, .int x1), (2, .int x2), (3, .int x3)] := hl
  refine zz_go (w := wC y a) hP hD va_S.rf hl (fun G hG => ?_)
  clear hP hD hl ls
  rw [hG]
  intro H locs ls hP hD hS hl
  unfold mX0_add at hm
  refine lv_aload_n hx hb dX0_add_0 rfl (lv_at hl 0 rfl) ?_
  refine va_get (D := D) (ci := 0) (v := .int (z.2.2.1 (64 * fb + 3))) (C := RX0) (T := TX0) (N := 5) hx hb hts nX0_add_X0 hown hK hP fb (wC_bill y a z fb hfb) rfl 3 (by decide) (hts (.fieldLink RX0 21 "WorksDesk$Bill" "size" "I") (List.mem_of_getElem? (i := 1) rfl)) (fun _ h9 => h9) rfl dX0_add_1 ?_
  refine lv_bipush (v := (10 : Int32)) hx hb dX0_add_4 (by decide) ?_
  refine lv_icmp_lt (tgt := 10) hx hb dX0_add_6 (by decide) (fun c1 => ?_) (fun c1 => ?_)
  · replace hm := zz_pos c1 hm
    refine lv_aload_n hx hb dX0_add_10 rfl (lv_at hl 0 rfl) ?_
    refine va_get (D := D) (ci := 0) (v := .ref (a (fb + 1))) (C := RX0) (T := TX0) (N := 5) hx hb hts nX0_add_X0 hown hK hP fb (wC_bill y a z fb hfb) rfl 0 (by decide) (hts (.fieldLink RX0 9 "WorksDesk$Bill" "kinds" "[I") (List.mem_of_getElem? (i := 2) rfl)) (fun _ h9 => h9) rfl dX0_add_11 ?_
    refine lv_aload_n hx hb dX0_add_14 rfl (lv_at hl 0 rfl) ?_
    refine va_get (D := D) (ci := 0) (v := .int (z.2.2.1 (64 * fb + 3))) (C := RX0) (T := TX0) (N := 5) hx hb hts nX0_add_X0 hown hK hP fb (wC_bill y a z fb hfb) rfl 3 (by decide) (hts (.fieldLink RX0 21 "WorksDesk$Bill" "size" "I") (List.mem_of_getElem? (i := 1) rfl)) (fun _ h9 => h9) rfl dX0_add_15 ?_
    refine lv_iload_n hx hb dX0_add_18 rfl (lv_at hl 1 rfl) ?_
    obtain ⟨c2, hm⟩ := zz_ck_some hm
    refine va_iast hx hb hK hP hD hS (fb + 1) 0 (wC_billA1 y a z fb hfb) rfl c2 dX0_add_19 (fun H locs hP hD hS => ?_)
    obtain ⟨z3, hP, hD, hm⟩ := zz_up (w := wC y a) (wC_billW1 y a z (z.2.2.1 (64 * fb + 3)) x1 fb hfb) hP hD hm
    refine lv_aload_n hx hb dX0_add_20 rfl (lv_at hl 0 rfl) ?_
    refine va_get (D := D) (ci := 0) (v := .ref (a (fb + 2))) (C := RX0) (T := TX0) (N := 5) hx hb hts nX0_add_X0 hown hK hP fb (wC_bill y a z3 fb hfb) rfl 1 (by decide) (hts (.fieldLink RX0 15 "WorksDesk$Bill" "quantities" "[I") (List.mem_of_getElem? (i := 3) rfl)) (fun _ h9 => h9) rfl dX0_add_21 ?_
    refine lv_aload_n hx hb dX0_add_24 rfl (lv_at hl 0 rfl) ?_
    refine va_get (D := D) (ci := 0) (v := .int (z3.2.2.1 (64 * fb + 3))) (C := RX0) (T := TX0) (N := 5) hx hb hts nX0_add_X0 hown hK hP fb (wC_bill y a z3 fb hfb) rfl 3 (by decide) (hts (.fieldLink RX0 21 "WorksDesk$Bill" "size" "I") (List.mem_of_getElem? (i := 1) rfl)) (fun _ h9 => h9) rfl dX0_add_25 ?_
    refine lv_iload_n hx hb dX0_add_28 rfl (lv_at hl 2 rfl) ?_
    obtain ⟨c4, hm⟩ := zz_ck_some hm
    refine va_iast hx hb hK hP hD hS (fb + 2) 0 (wC_billA2 y a z3 fb hfb) rfl c4 dX0_add_29 (fun H locs hP hD hS => ?_)
    obtain ⟨z5, hP, hD, hm⟩ := zz_up (w := wC y a) (wC_billW2 y a z3 (z3.2.2.1 (64 * fb + 3)) x2 fb hfb) hP hD hm
    refine lv_aload_n hx hb dX0_add_30 rfl (lv_at hl 0 rfl) ?_
    refine va_get (D := D) (ci := 0) (v := .ref (a (fb + 3))) (C := RX0) (T := TX0) (N := 5) hx hb hts nX0_add_X0 hown hK hP fb (wC_bill y a z5 fb hfb) rfl 2 (by decide) (hts (.fieldLink RX0 18 "WorksDesk$Bill" "rates" "[I") (List.mem_of_getElem? (i := 4) rfl)) (fun _ h9 => h9) rfl dX0_add_31 ?_
    refine lv_aload_n hx hb dX0_add_34 rfl (lv_at hl 0 rfl) ?_
    refine va_get (D := D) (ci := 0) (v := .int (z5.2.2.1 (64 * fb + 3))) (C := RX0) (T := TX0) (N := 5) hx hb hts nX0_add_X0 hown hK hP fb (wC_bill y a z5 fb hfb) rfl 3 (by decide) (hts (.fieldLink RX0 21 "WorksDesk$Bill" "size" "I") (List.mem_of_getElem? (i := 1) rfl)) (fun _ h9 => h9) rfl dX0_add_35 ?_
    refine lv_iload_n hx hb dX0_add_38 rfl (lv_at hl 3 rfl) ?_
    obtain ⟨c6, hm⟩ := zz_ck_some hm
    refine va_iast hx hb hK hP hD hS (fb + 3) 0 (wC_billA3 y a z5 fb hfb) rfl c6 dX0_add_39 (fun H locs hP hD hS => ?_)
    obtain ⟨z7, hP, hD, hm⟩ := zz_up (w := wC y a) (wC_billW3 y a z5 (z5.2.2.1 (64 * fb + 3)) x3 fb hfb) hP hD hm
    refine lv_aload_n hx hb dX0_add_40 rfl (lv_at hl 0 rfl) ?_
    refine lv_dup hx hb dX0_add_41 rfl ?_
    refine va_get (D := D) (ci := 0) (v := .int (z7.2.2.1 (64 * fb + 3))) (C := RX0) (T := TX0) (N := 5) hx hb hts nX0_add_X0 hown hK hP fb (wC_bill y a z7 fb hfb) rfl 3 (by decide) (hts (.fieldLink RX0 21 "WorksDesk$Bill" "size" "I") (List.mem_of_getElem? (i := 1) rfl)) (fun _ h9 => h9) rfl dX0_add_42 ?_
    refine lv_iconst (v := (1 : Int32)) hx hb dX0_add_45 (by decide) ?_
    refine lv_iadd hx hb dX0_add_46 ?_
    refine va_put (D := D) (ci := 0) (v := .int ((z7.2.2.1 (64 * fb + 3)) + (1 : Int32))) (ty := .int) (C := RX0) (T := TX0) (N := 5) hx hb hts nX0_add_X0 tyX0 tyX0_ok nmX0 hown hK hP hD hS fb (wC_bill y a z7 fb hfb) rfl 3 (by decide) (hts (.fieldLink RX0 21 "WorksDesk$Bill" "size" "I") (List.mem_of_getElem? (i := 1) rfl)) (fun _ h9 => h9) rfl (tyX0_ok 3 (by decide)) rfl rfl (Nat.le_of_ble_eq_true rfl) dX0_add_47 (fun H locs hP hD hS => ?_)
    obtain ⟨z8, hP, hD, hm⟩ := zz_up (w := wC y a) (wC_billF3 y a z7 ((z7.2.2.1 (64 * fb + 3)) + (1 : Int32)) fb hfb) hP hD hm
    refine lv_aload_n hx hb dX0_add_50 rfl (lv_at hl 0 rfl) ?_
    refine lv_dup hx hb dX0_add_51 rfl ?_
    refine va_get (D := D) (ci := 0) (v := .int (z8.2.2.1 (64 * fb + 4))) (C := RX0) (T := TX0) (N := 5) hx hb hts nX0_add_X0 hown hK hP fb (wC_bill y a z8 fb hfb) rfl 4 (by decide) (hts (.fieldLink RX0 25 "WorksDesk$Bill" "total" "I") (List.mem_of_getElem? (i := 5) rfl)) (fun _ h9 => h9) rfl dX0_add_52 ?_
    refine lv_iload_n hx hb dX0_add_55 rfl (lv_at hl 2 rfl) ?_
    refine lv_iload_n hx hb dX0_add_56 rfl (lv_at hl 3 rfl) ?_
    refine lv_imul hx hb dX0_add_57 ?_
    refine lv_iadd hx hb dX0_add_58 ?_
    refine va_put (D := D) (ci := 0) (v := .int ((z8.2.2.1 (64 * fb + 4)) + (x2 * x3))) (ty := .int) (C := RX0) (T := TX0) (N := 5) hx hb hts nX0_add_X0 tyX0 tyX0_ok nmX0 hown hK hP hD hS fb (wC_bill y a z8 fb hfb) rfl 4 (by decide) (hts (.fieldLink RX0 25 "WorksDesk$Bill" "total" "I") (List.mem_of_getElem? (i := 5) rfl)) (fun _ h9 => h9) rfl (tyX0_ok 4 (by decide)) rfl rfl (Nat.le_of_ble_eq_true rfl) dX0_add_59 (fun H locs hP hD hS => ?_)
    obtain ⟨z9, hP, hD, hm⟩ := zz_up (w := wC y a) (wC_billF4 y a z8 ((z8.2.2.1 (64 * fb + 4)) + (x2 * x3)) fb hfb) hP hD hm
    exact zz_vret hx hb hr hlocks (zz_some2 hm).2 hP hK hD hS dX0_add_62
  · replace hm := zz_neg c1 hm
    exact zz_vret hx hb hr hlocks (zz_some2 hm).2 hP hK hD hS dX0_add_9
def mX0_clear (fb : Nat) (z : zz_M) : Option (Unit × zz_M) := zz_nm (zz_sF z (64 * fb + 3) (0 : Int32)) (fun z1 => zz_nm (zz_sF z1 (64 * fb + 4) (0 : Int32)) (fun z2 => some ((), z2)))
theorem nX0_clear_X0 : ∀ w ∈ wsX00, w ∈ wsX0_clear := fun _ h => List.mem_cons_of_mem _ (List.mem_append_right _ (h))
theorem zdX0_clear : yX0_clear.cls = RX0 ∧ yX0_clear.cls ≠ "java/lang/invoke/MethodHandle" ∧ yX0_clear.cls ≠ "java/lang/invoke/VarHandle" ∧ (parseMethodDescriptor yX0_clear.desc).map (fun d => d.parameters.length) = some 0 := by decide +kernel
set_option maxHeartbeats 4000000 in
set_option maxRecDepth 100000 in
theorem zX0_clear (l : Launch) (D : va_G) (y : Nat → ClassId) (a : Nat → Nat) (sz : Nat) (fb : Nat) (hfb : fb = 4 ∨ fb = 9) (z : zz_M) {r : Unit} {zt : zz_M} (hm : mX0_clear fb z = some (r, zt)) : Met l yX0_clear wsX0_clear { frames := 0, cells := 0, slots := 0, locals := 0 } (zz_Pc D y (wC y a z) sz [.ref (a fb)]) (zz_Qv D y (wC y a) (va_A (wC y a z) sz) zt) 0 0 (va_A (wC y a z) sz) := by
  refine Met.ofW (cc := cX0_clear) (maxL := 1) (ret := none) (by decide) rfl ?_
  intro p e s m args below meth c s₁ B hml hv
  obtain ⟨rfl, hsz, hP, hK, hD0, hN, hg⟩ := hv
  have hx := B.exec
  have hb := B.bytes
  have hr := B.returns
  have hts := atoms_spec (ws := wsX0_clear) B.pre
  have hown : s.vm.findClass RX0 = some m.cls := findClass_of_methodNamed B.named
  have hlocks := B.notSynchronized
  clear B
  subst hsz
  have hD := hD0.self (sz := s.heap.size)
  generalize hAe : va_A (wC y a z) s.heap.size = A at hD hg ⊢
  have hA : ∀ q : Nat, s.heap.size ≤ q → A q := fun q h => by rw [← hAe]; exact Or.inr h
  clear hAe hD0
  have hl := lv_entry ([.ref (a fb)]) (n := 1) (Nat.le_of_ble_eq_true rfl)
  rw [lg_entry_eq]
  generalize (lg_sl ([.ref (a fb)]) ++ List.replicate (1 - (lg_sl ([.ref (a fb)])).length) Slot.unset).toArray = ls at hl ⊢
  replace hl : lv_has ls 1 [(0, .ref (a fb))] := hl
  refine zz_go (w := wC y a) hP hD va_S.rf hl (fun G hG => ?_)
  clear hP hD hl ls
  rw [hG]
  intro H locs ls hP hD hS hl
  unfold mX0_clear at hm
  refine lv_aload_n hx hb dX0_clear_0 rfl (lv_at hl 0 rfl) ?_
  refine lv_iconst (v := (0 : Int32)) hx hb dX0_clear_1 (by decide) ?_
  refine va_put (D := D) (ci := 0) (v := .int (0 : Int32)) (ty := .int) (C := RX0) (T := TX0) (N := 5) hx hb hts nX0_clear_X0 tyX0 tyX0_ok nmX0 hown hK hP hD hS fb (wC_bill y a z fb hfb) rfl 3 (by decide) (hts (.fieldLink RX0 21 "WorksDesk$Bill" "size" "I") (List.mem_of_getElem? (i := 1) rfl)) (fun _ h9 => h9) rfl (tyX0_ok 3 (by decide)) rfl rfl (Nat.le_of_ble_eq_true rfl) dX0_clear_2 (fun H locs hP hD hS => ?_)
  obtain ⟨z1, hP, hD, hm⟩ := zz_up (w := wC y a) (wC_billF3 y a z (0 : Int32) fb hfb) hP hD hm
  refine lv_aload_n hx hb dX0_clear_5 rfl (lv_at hl 0 rfl) ?_
  refine lv_iconst (v := (0 : Int32)) hx hb dX0_clear_6 (by decide) ?_
  refine va_put (D := D) (ci := 0) (v := .int (0 : Int32)) (ty := .int) (C := RX0) (T := TX0) (N := 5) hx hb hts nX0_clear_X0 tyX0 tyX0_ok nmX0 hown hK hP hD hS fb (wC_bill y a z1 fb hfb) rfl 4 (by decide) (hts (.fieldLink RX0 25 "WorksDesk$Bill" "total" "I") (List.mem_of_getElem? (i := 2) rfl)) (fun _ h9 => h9) rfl (tyX0_ok 4 (by decide)) rfl rfl (Nat.le_of_ble_eq_true rfl) dX0_clear_7 (fun H locs hP hD hS => ?_)
  obtain ⟨z2, hP, hD, hm⟩ := zz_up (w := wC y a) (wC_billF4 y a z1 (0 : Int32) fb hfb) hP hD hm
  exact zz_vret hx hb hr hlocks (zz_some2 hm).2 hP hK hD hS dX0_clear_10
def mX0_greatestRate_b33 (fb : Nat) (z : zz_M) (k4 : Int32 → Int32 → Int32 → Option Int32) (v1 : Int32) (v2 : Int32) (v3 : Int32) : Option Int32 := zz_nm (v3 + (1 : Int32)) (fun n1 => k4 v1 v2 n1)
def mX0_greatestRate_b4 (fb : Nat) (z : zz_M) : Nat → Int32 → Int32 → Int32 → Option Int32
  | 0, _, _, _ => none
  | n + 1, v1, v2, v3 => if (z.2.2.1 (64 * fb + 3)) ≤ v3 then (some v2) else (zz_ck (zz_in v3 10) (if (z.1 (fb + 1) v3.toNatClampNeg) = v1 then (zz_ck (zz_in v3 10) (zz_nm (if v2 < (z.1 (fb + 3) v3.toNatClampNeg) then (z.1 (fb + 3) v3.toNatClampNeg) else v2) (fun n6 => mX0_greatestRate_b33 fb z (mX0_greatestRate_b4 fb z n) v1 n6 v3))) else (mX0_greatestRate_b33 fb z (mX0_greatestRate_b4 fb z n) v1 v2 v3)))
def mX0_greatestRate (fb : Nat) (x1 : Int32) (z : zz_M) : Option Int32 := mX0_greatestRate_b4 fb z zz_N x1 (0 : Int32) (0 : Int32)
theorem nX0_greatestRate_X0 : ∀ w ∈ wsX00, w ∈ wsX0_greatestRate := fun _ h => List.mem_cons_of_mem _ (List.mem_append_right _ (h))
theorem zdX0_greatestRate : yX0_greatestRate.cls = RX0 ∧ yX0_greatestRate.cls ≠ "java/lang/invoke/MethodHandle" ∧ yX0_greatestRate.cls ≠ "java/lang/invoke/VarHandle" ∧ (parseMethodDescriptor yX0_greatestRate.desc).map (fun d => d.parameters.length) = some 1 := by decide +kernel
set_option maxHeartbeats 4000000 in
set_option maxRecDepth 100000 in
theorem zX0_greatestRate (l : Launch) (D : va_G) (y : Nat → ClassId) (a : Nat → Nat) (sz : Nat) (fb : Nat) (x1 : Int32) (hfb : fb = 4 ∨ fb = 9) (z : zz_M) {r : Int32} (hm : mX0_greatestRate fb x1 z = some r) : Met l yX0_greatestRate wsX0_greatestRate { frames := 1, cells := 0, slots := 0, locals := 24 } (zz_Pc D y (wC y a z) sz [.ref (a fb), .int x1]) (zz_Qi D y (wC y a) (va_A (wC y a z) sz) r z) 0 0 (va_A (wC y a z) sz) := by
  refine Met.ofW (cc := cX0_greatestRate) (maxL := 4) (ret := (some .int)) (by decide) rfl ?_
  intro p e s m args below meth c s₁ B hml hv
  obtain ⟨rfl, hsz, hP, hK, hD0, hN, hg⟩ := hv
  have hx := B.exec
  have hb := B.bytes
  have hr := B.returns
  have hts := atoms_spec (ws := wsX0_greatestRate) B.pre
  have hown : s.vm.findClass RX0 = some m.cls := findClass_of_methodNamed B.named
  have hlocks := B.notSynchronized
  clear B
  subst hsz
  have hD := hD0.self (sz := s.heap.size)
  generalize hAe : va_A (wC y a z) s.heap.size = A at hD hg ⊢
  have hA : ∀ q : Nat, s.heap.size ≤ q → A q := fun q h => by rw [← hAe]; exact Or.inr h
  clear hAe hD0
  have hl := lv_entry ([.ref (a fb), .int x1]) (n := 4) (Nat.le_of_ble_eq_true rfl)
  rw [lg_entry_eq]
  generalize (lg_sl ([.ref (a fb), .int x1]) ++ List.replicate (4 - (lg_sl ([.ref (a fb), .int x1])).length) Slot.unset).toArray = ls at hl ⊢
  replace hl : lv_has ls 4 [(0, .ref (a fb)), (1, .int x1)] := hl
  refine zz_go (w := wC y a) hP hD va_S.rf hl (fun G hG => ?_)
  clear hP hD hl ls
  have J33 : ∀ (k4 : Int32 → Int32 → Int32 → Option Int32) (K4 : ∀ (v1 : Int32) (v2 : Int32) (v3 : Int32), k4 v1 v2 v3 = some r → G 4 [(0, .ref (a fb)), (1, .int v1), (2, .int v2), (3, .int v3)] [] z) (v1 : Int32) (v2 : Int32) (v3 : Int32), mX0_greatestRate_b33 fb z k4 v1 v2 v3 = some r → G 33 [(0, .ref (a fb)), (1, .int v1), (2, .int v2), (3, .int v3)] [] z := by
    intro k4 K4 v1 v2 v3 hm
    rw [mX0_greatestRate_b33] at hm
    rw [hG]
    intro H locs ls hP hD hS hl
    obtain ⟨n1, en1⟩ : ∃ q : Int32, q = v3 + (1 : Int32) := ⟨_, rfl⟩
    replace hm := zz_nm_some en1 hm
    refine lv_iinc (v := n1) (lv' := [(3, .int n1), (0, .ref (a fb)), (1, .int v1), (2, .int v2)]) hx hb dX0_greatestRate_33 hl (k := 3) rfl (by rw [en1]; rfl) (by decide) rfl (fun ls hl => ?_)
    refine lv_goto (tgt := 4) hx hb dX0_greatestRate_36 (by decide) ?_
    have j := K4 v1 v2 n1 hm
    rw [hG] at j
    exact j H locs ls hP hD hS (lv_sub hl [1, 2, 3, 0] rfl)
  have J4 : ∀ (n : Nat) (v1 : Int32) (v2 : Int32) (v3 : Int32), mX0_greatestRate_b4 fb z n v1 v2 v3 = some r → G 4 [(0, .ref (a fb)), (1, .int v1), (2, .int v2), (3, .int v3)] [] z := by
    intro n
    induction n with
    | zero =>
      intro v1 v2 v3 hm
      exact zz_none hm
    | succ n ih =>
      intro v1 v2 v3 hm
      rw [mX0_greatestRate_b4] at hm
      rw [hG]
      intro H locs ls hP hD hS hl
      refine lv_iload_n hx hb dX0_greatestRate_4 rfl (lv_at hl 3 rfl) ?_
      refine lv_aload_n hx hb dX0_greatestRate_5 rfl (lv_at hl 0 rfl) ?_
      refine va_get (D := D) (ci := 0) (v := .int (z.2.2.1 (64 * fb + 3))) (C := RX0) (T := TX0) (N := 5) hx hb hts nX0_greatestRate_X0 hown hK hP fb (wC_bill y a z fb hfb) rfl 3 (by decide) (hts (.fieldLink RX0 21 "WorksDesk$Bill" "size" "I") (List.mem_of_getElem? (i := 1) rfl)) (fun _ h9 => h9) rfl dX0_greatestRate_6 ?_
      refine lv_icmp_ge (tgt := 39) hx hb dX0_greatestRate_9 (by decide) (fun c2 => ?_) (fun c2 => ?_)
      · replace hm := zz_pos c2 hm
        refine lv_iload_n hx hb dX0_greatestRate_39 rfl (lv_at hl 2 rfl) ?_
        exact zz_iret hx hb hr hlocks ⟨zz_some1 hm, rfl⟩ hP hK hD hS dX0_greatestRate_40
      · replace hm := zz_neg c2 hm
        refine lv_aload_n hx hb dX0_greatestRate_12 rfl (lv_at hl 0 rfl) ?_
        refine va_get (D := D) (ci := 0) (v := .ref (a (fb + 1))) (C := RX0) (T := TX0) (N := 5) hx hb hts nX0_greatestRate_X0 hown hK hP fb (wC_bill y a z fb hfb) rfl 0 (by decide) (hts (.fieldLink RX0 9 "WorksDesk$Bill" "kinds" "[I") (List.mem_of_getElem? (i := 2) rfl)) (fun _ h9 => h9) rfl dX0_greatestRate_13 ?_
        refine lv_iload_n hx hb dX0_greatestRate_16 rfl (lv_at hl 3 rfl) ?_
        obtain ⟨c3, hm⟩ := zz_ck_some hm
        refine va_iald hx hb hK hP (fb + 1) 0 (wC_billA1 y a z fb hfb) rfl c3 dX0_greatestRate_17 ?_
        refine lv_iload_n hx hb dX0_greatestRate_18 rfl (lv_at hl 1 rfl) ?_
        refine lv_icmp_ne (tgt := 33) hx hb dX0_greatestRate_19 (by decide) (fun c4 => ?_) (fun c4 => ?_)
        · replace hm := zz_neg c4 hm
          have j := J33 (mX0_greatestRate_b4 fb z n) ih v1 v2 v3 hm
          rw [hG] at j
          exact j H locs ls hP hD hS (lv_sub hl [0, 1, 2, 3] rfl)
        · replace hm := zz_pos c4 hm
          refine lv_iload_n hx hb dX0_greatestRate_22 rfl (lv_at hl 2 rfl) ?_
          refine lv_aload_n hx hb dX0_greatestRate_23 rfl (lv_at hl 0 rfl) ?_
          refine va_get (D := D) (ci := 0) (v := .ref (a (fb + 3))) (C := RX0) (T := TX0) (N := 5) hx hb hts nX0_greatestRate_X0 hown hK hP fb (wC_bill y a z fb hfb) rfl 2 (by decide) (hts (.fieldLink RX0 18 "WorksDesk$Bill" "rates" "[I") (List.mem_of_getElem? (i := 3) rfl)) (fun _ h9 => h9) rfl dX0_greatestRate_24 ?_
          refine lv_iload_n hx hb dX0_greatestRate_27 rfl (lv_at hl 3 rfl) ?_
          obtain ⟨c5, hm⟩ := zz_ck_some hm
          refine va_iald hx hb hK hP (fb + 3) 0 (wC_billA3 y a z fb hfb) rfl c5 dX0_greatestRate_28 ?_
          refine va_mmax hx hb (hml.trans hl.1.symm) hown (hts (.methodLink RX0 35 Lib.Math.max.name) (List.mem_of_getElem? (i := 4) rfl)) (hts (.static Lib.Math.max.name) (List.mem_of_getElem? (i := 5) rfl)) (hts (.initialized "java/lang/Math") (List.mem_of_getElem? (i := 6) rfl)) (hts (.code Lib.Math.max.name Lib.Math.max.code 2 (some .int)) (List.mem_of_getElem? (i := 7) rfl)) (Nat.le_of_ble_eq_true rfl) (Nat.le_of_ble_eq_true rfl) (Nat.le_of_ble_eq_true rfl) (Nat.le_of_ble_eq_true rfl) dX0_greatestRate_29 ?_
          refine lv_topi (fun n6 en6 => ?_)
          replace hm := zz_nm_some en6 hm
          refine lv_istore_n (lv' := [(2, .int n6), (0, .ref (a fb)), (1, .int v1), (3, .int v3)]) hx hb dX0_greatestRate_32 rfl hl (by decide) rfl (fun ls hl => ?_)
          have j := J33 (mX0_greatestRate_b4 fb z n) ih v1 n6 v3 hm
          rw [hG] at j
          exact j H locs ls hP hD hS (lv_sub hl [1, 2, 0, 3] rfl)
  rw [hG]
  intro H locs ls hP hD hS hl
  unfold mX0_greatestRate at hm
  refine lv_iconst (v := (0 : Int32)) hx hb dX0_greatestRate_0 (by decide) ?_
  refine lv_istore_n (lv' := [(2, .int (0 : Int32)), (0, .ref (a fb)), (1, .int x1)]) hx hb dX0_greatestRate_1 rfl hl (by decide) rfl (fun ls hl => ?_)
  refine lv_iconst (v := (0 : Int32)) hx hb dX0_greatestRate_2 (by decide) ?_
  refine lv_istore_n (lv' := [(3, .int (0 : Int32)), (2, .int (0 : Int32)), (0, .ref (a fb)), (1, .int x1)]) hx hb dX0_greatestRate_3 rfl hl (by decide) rfl (fun ls hl => ?_)
  have j := J4 zz_N x1 (0 : Int32) (0 : Int32) hm
  rw [hG] at j
  exact j H locs ls hP hD hS (lv_sub hl [2, 3, 1, 0] rfl)
def mX0_has_b17 (fb : Nat) (z : zz_M) (t0 : Int32) : Option Int32 := zz_ck (zz_bool t0) (some t0)
def mX0_has_b16 (fb : Nat) (z : zz_M) : Option Int32 := mX0_has_b17 fb z (0 : Int32)
def mX0_has (fb : Nat) (x1 : Int32) (z : zz_M) : Option Int32 := if x1 < (0 : Int32) then (mX0_has_b16 fb z) else (if (z.2.2.1 (64 * fb + 3)) ≤ x1 then (mX0_has_b16 fb z) else (mX0_has_b17 fb z (1 : Int32)))
theorem nX0_has_X0 : ∀ w ∈ wsX00, w ∈ wsX0_has := fun _ h => List.mem_cons_of_mem _ (List.mem_append_right _ (h))
theorem zdX0_has : yX0_has.cls = RX0 ∧ yX0_has.cls ≠ "java/lang/invoke/MethodHandle" ∧ yX0_has.cls ≠ "java/lang/invoke/VarHandle" ∧ (parseMethodDescriptor yX0_has.desc).map (fun d => d.parameters.length) = some 1 := by decide +kernel
set_option maxHeartbeats 4000000 in
set_option maxRecDepth 100000 in
theorem zX0_has (l : Launch) (D : va_G) (y : Nat → ClassId) (a : Nat → Nat) (sz : Nat) (fb : Nat) (x1 : Int32) (hfb : fb = 4 ∨ fb = 9) (z : zz_M) {r : Int32} (hm : mX0_has fb x1 z = some r) : Met l yX0_has wsX0_has { frames := 0, cells := 0, slots := 0, locals := 0 } (zz_Pc D y (wC y a z) sz [.ref (a fb), .int x1]) (zz_Qi D y (wC y a) (va_A (wC y a z) sz) r z) 0 0 (va_A (wC y a z) sz) := by
  refine Met.ofW (cc := cX0_has) (maxL := 2) (ret := (some .boolean)) (by decide) rfl ?_
  intro p e s m args below meth c s₁ B hml hv
  obtain ⟨rfl, hsz, hP, hK, hD0, hN, hg⟩ := hv
  have hx := B.exec
  have hb := B.bytes
  have hr := B.returns
  have hts := atoms_spec (ws := wsX0_has) B.pre
  have hown : s.vm.findClass RX0 = some m.cls := findClass_of_methodNamed B.named
  have hlocks := B.notSynchronized
  clear B
  subst hsz
  have hD := hD0.self (sz := s.heap.size)
  generalize hAe : va_A (wC y a z) s.heap.size = A at hD hg ⊢
  have hA : ∀ q : Nat, s.heap.size ≤ q → A q := fun q h => by rw [← hAe]; exact Or.inr h
  clear hAe hD0
  have hl := lv_entry ([.ref (a fb), .int x1]) (n := 2) (Nat.le_of_ble_eq_true rfl)
  rw [lg_entry_eq]
  generalize (lg_sl ([.ref (a fb), .int x1]) ++ List.replicate (2 - (lg_sl ([.ref (a fb), .int x1])).length) Slot.unset).toArray = ls at hl ⊢
  replace hl : lv_has ls 2 [(0, .ref (a fb)), (1, .int x1)] := hl
  refine zz_go (w := wC y a) hP hD va_S.rf hl (fun G hG => ?_)
  clear hP hD hl ls
  have J17 : ∀ (t0 : Int32), mX0_has_b17 fb z t0 = some r → G 17 [] [.int t0] z := by
    intro t0 hm
    rw [mX0_has_b17] at hm
    rw [hG]
    intro H locs ls hP hD hS hl
    obtain ⟨c1, hm⟩ := zz_ck_some hm
    exact zz_zret hx hb hr hlocks c1 ⟨zz_some1 hm, rfl⟩ hP hK hD hS dX0_has_17
  have J16 : mX0_has_b16 fb z = some r → G 16 [] [] z := by
    intro hm
    rw [mX0_has_b16] at hm
    rw [hG]
    intro H locs ls hP hD hS hl
    refine lv_iconst (v := (0 : Int32)) hx hb dX0_has_16 (by decide) ?_
    have j := J17 (0 : Int32) hm
    rw [hG] at j
    exact j H locs ls hP hD hS (lv_sub hl [] rfl)
  rw [hG]
  intro H locs ls hP hD hS hl
  unfold mX0_has at hm
  refine lv_iload_n hx hb dX0_has_0 rfl (lv_at hl 1 rfl) ?_
  refine lv_if_lt (tgt := 16) hx hb dX0_has_1 (by decide) (fun c2 => ?_) (fun c2 => ?_)
  · replace hm := zz_pos c2 hm
    have j := J16 hm
    rw [hG] at j
    exact j H locs ls hP hD hS (lv_sub hl [] rfl)
  · replace hm := zz_neg c2 hm
    refine lv_iload_n hx hb dX0_has_4 rfl (lv_at hl 1 rfl) ?_
    refine lv_aload_n hx hb dX0_has_5 rfl (lv_at hl 0 rfl) ?_
    refine va_get (D := D) (ci := 0) (v := .int (z.2.2.1 (64 * fb + 3))) (C := RX0) (T := TX0) (N := 5) hx hb hts nX0_has_X0 hown hK hP fb (wC_bill y a z fb hfb) rfl 3 (by decide) (hts (.fieldLink RX0 21 "WorksDesk$Bill" "size" "I") (List.mem_of_getElem? (i := 1) rfl)) (fun _ h9 => h9) rfl dX0_has_6 ?_
    refine lv_icmp_ge (tgt := 16) hx hb dX0_has_9 (by decide) (fun c3 => ?_) (fun c3 => ?_)
    · replace hm := zz_pos c3 hm
      have j := J16 hm
      rw [hG] at j
      exact j H locs ls hP hD hS (lv_sub hl [] rfl)
    · replace hm := zz_neg c3 hm
      refine lv_iconst (v := (1 : Int32)) hx hb dX0_has_12 (by decide) ?_
      refine lv_goto (tgt := 17) hx hb dX0_has_13 (by decide) ?_
      have j := J17 (1 : Int32) hm
      rw [hG] at j
      exact j H locs ls hP hD hS (lv_sub hl [] rfl)
def mX0_leastRate_b43 (fb : Nat) (z : zz_M) (k4 : Int32 → Int32 → Int32 → Option Int32) (v1 : Int32) (v2 : Int32) (v3 : Int32) : Option Int32 := zz_nm (v3 + (1 : Int32)) (fun n1 => k4 v1 v2 n1)
def mX0_leastRate_b36 (fb : Nat) (z : zz_M) (k4 : Int32 → Int32 → Int32 → Option Int32) (v1 : Int32) (v3 : Int32) : Option Int32 := zz_ck (zz_in v3 10) (zz_nm (z.1 (fb + 3) v3.toNatClampNeg) (fun n3 => mX0_leastRate_b43 fb z k4 v1 n3 v3))
def mX0_leastRate_b4 (fb : Nat) (z : zz_M) : Nat → Int32 → Int32 → Int32 → Option Int32
  | 0, _, _, _ => none
  | n + 1, v1, v2, v3 => if (z.2.2.1 (64 * fb + 3)) ≤ v3 then (some v2) else (zz_ck (zz_in v3 10) (if (z.1 (fb + 1) v3.toNatClampNeg) = v1 then (if v2 = (0 : Int32) then (mX0_leastRate_b36 fb z (mX0_leastRate_b4 fb z n) v1 v3) else (zz_ck (zz_in v3 10) (if v2 ≤ (z.1 (fb + 3) v3.toNatClampNeg) then (mX0_leastRate_b43 fb z (mX0_leastRate_b4 fb z n) v1 v2 v3) else (mX0_leastRate_b36 fb z (mX0_leastRate_b4 fb z n) v1 v3)))) else (mX0_leastRate_b43 fb z (mX0_leastRate_b4 fb z n) v1 v2 v3)))
def mX0_leastRate (fb : Nat) (x1 : Int32) (z : zz_M) : Option Int32 := mX0_leastRate_b4 fb z zz_N x1 (0 : Int32) (0 : Int32)
theorem nX0_leastRate_X0 : ∀ w ∈ wsX00, w ∈ wsX0_leastRate := fun _ h => List.mem_cons_of_mem _ (List.mem_append_right _ (h))
theorem zdX0_leastRate : yX0_leastRate.cls = RX0 ∧ yX0_leastRate.cls ≠ "java/lang/invoke/MethodHandle" ∧ yX0_leastRate.cls ≠ "java/lang/invoke/VarHandle" ∧ (parseMethodDescriptor yX0_leastRate.desc).map (fun d => d.parameters.length) = some 1 := by decide +kernel
set_option maxHeartbeats 4000000 in
set_option maxRecDepth 100000 in
theorem zX0_leastRate (l : Launch) (D : va_G) (y : Nat → ClassId) (a : Nat → Nat) (sz : Nat) (fb : Nat) (x1 : Int32) (hfb : fb = 4 ∨ fb = 9) (z : zz_M) {r : Int32} (hm : mX0_leastRate fb x1 z = some r) : Met l yX0_leastRate wsX0_leastRate { frames := 0, cells := 0, slots := 0, locals := 0 } (zz_Pc D y (wC y a z) sz [.ref (a fb), .int x1]) (zz_Qi D y (wC y a) (va_A (wC y a z) sz) r z) 0 0 (va_A (wC y a z) sz) := by
  refine Met.ofW (cc := cX0_leastRate) (maxL := 4) (ret := (some .int)) (by decide) rfl ?_
  intro p e s m args below meth c s₁ B hml hv
  obtain ⟨rfl, hsz, hP, hK, hD0, hN, hg⟩ := hv
  have hx := B.exec
  have hb := B.bytes
  have hr := B.returns
  have hts := atoms_spec (ws := wsX0_leastRate) B.pre
  have hown : s.vm.findClass RX0 = some m.cls := findClass_of_methodNamed B.named
  have hlocks := B.notSynchronized
  clear B
  subst hsz
  have hD := hD0.self (sz := s.heap.size)
  generalize hAe : va_A (wC y a z) s.heap.size = A at hD hg ⊢
  have hA : ∀ q : Nat, s.heap.size ≤ q → A q := fun q h => by rw [← hAe]; exact Or.inr h
  clear hAe hD0
  have hl := lv_entry ([.ref (a fb), .int x1]) (n := 4) (Nat.le_of_ble_eq_true rfl)
  rw [lg_entry_eq]
  generalize (lg_sl ([.ref (a fb), .int x1]) ++ List.replicate (4 - (lg_sl ([.ref (a fb), .int x1])).length) Slot.unset).toArray = ls at hl ⊢
  replace hl : lv_has ls 4 [(0, .ref (a fb)), (1, .int x1)] := hl
  refine zz_go (w := wC y a) hP hD va_S.rf hl (fun G hG => ?_)
  clear hP hD hl ls
  have J43 : ∀ (k4 : Int32 → Int32 → Int32 → Option Int32) (K4 : ∀ (v1 : Int32) (v2 : Int32) (v3 : Int32), k4 v1 v2 v3 = some r → G 4 [(0, .ref (a fb)), (1, .int v1), (2, .int v2), (3, .int v3)] [] z) (v1 : Int32) (v2 : Int32) (v3 : Int32), mX0_leastRate_b43 fb z k4 v1 v2 v3 = some r → G 43 [(0, .ref (a fb)), (1, .int v1), (2, .int v2), (3, .int v3)] [] z := by
    intro k4 K4 v1 v2 v3 hm
    rw [mX0_leastRate_b43] at hm
    rw [hG]
    intro H locs ls hP hD hS hl
    obtain ⟨n1, en1⟩ : ∃ q : Int32, q = v3 + (1 : Int32) := ⟨_, rfl⟩
    replace hm := zz_nm_some en1 hm
    refine lv_iinc (v := n1) (lv' := [(3, .int n1), (0, .ref (a fb)), (1, .int v1), (2, .int v2)]) hx hb dX0_leastRate_43 hl (k := 3) rfl (by rw [en1]; rfl) (by decide) rfl (fun ls hl => ?_)
    refine lv_goto (tgt := 4) hx hb dX0_leastRate_46 (by decide) ?_
    have j := K4 v1 v2 n1 hm
    rw [hG] at j
    exact j H locs ls hP hD hS (lv_sub hl [1, 2, 3, 0] rfl)
  have J36 : ∀ (k4 : Int32 → Int32 → Int32 → Option Int32) (K4 : ∀ (v1 : Int32) (v2 : Int32) (v3 : Int32), k4 v1 v2 v3 = some r → G 4 [(0, .ref (a fb)), (1, .int v1), (2, .int v2), (3, .int v3)] [] z) (v1 : Int32) (v3 : Int32), mX0_leastRate_b36 fb z k4 v1 v3 = some r → G 36 [(0, .ref (a fb)), (1, .int v1), (3, .int v3)] [] z := by
    intro k4 K4 v1 v3 hm
    rw [mX0_leastRate_b36] at hm
    rw [hG]
    intro H locs ls hP hD hS hl
    refine lv_aload_n hx hb dX0_leastRate_36 rfl (lv_at hl 0 rfl) ?_
    refine va_get (D := D) (ci := 0) (v := .ref (a (fb + 3))) (C := RX0) (T := TX0) (N := 5) hx hb hts nX0_leastRate_X0 hown hK hP fb (wC_bill y a z fb hfb) rfl 2 (by decide) (hts (.fieldLink RX0 18 "WorksDesk$Bill" "rates" "[I") (List.mem_of_getElem? (i := 3) rfl)) (fun _ h9 => h9) rfl dX0_leastRate_37 ?_
    refine lv_iload_n hx hb dX0_leastRate_40 rfl (lv_at hl 2 rfl) ?_
    obtain ⟨c2, hm⟩ := zz_ck_some hm
    refine va_iald hx hb hK hP (fb + 3) 0 (wC_billA3 y a z fb hfb) rfl c2 dX0_leastRate_41 ?_
    refine lv_topi (fun n3 en3 => ?_)
    replace hm := zz_nm_some en3 hm
    refine lv_istore_n (lv' := [(2, .int n3), (0, .ref (a fb)), (1, .int v1), (3, .int v3)]) hx hb dX0_leastRate_42 rfl hl (by decide) rfl (fun ls hl => ?_)
    have j := J43 k4 K4 v1 n3 v3 hm
    rw [hG] at j
    exact j H locs ls hP hD hS (lv_sub hl [1, 2, 0, 3] rfl)
  have J4 : ∀ (n : Nat) (v1 : Int32) (v2 : Int32) (v3 : Int32), mX0_leastRate_b4 fb z n v1 v2 v3 = some r → G 4 [(0, .ref (a fb)), (1, .int v1), (2, .int v2), (3, .int v3)] [] z := by
    intro n
    induction n with
    | zero =>
      intro v1 v2 v3 hm
      exact zz_none hm
    | succ n ih =>
      intro v1 v2 v3 hm
      rw [mX0_leastRate_b4] at hm
      rw [hG]
      intro H locs ls hP hD hS hl
      refine lv_iload_n hx hb dX0_leastRate_4 rfl (lv_at hl 3 rfl) ?_
      refine lv_aload_n hx hb dX0_leastRate_5 rfl (lv_at hl 0 rfl) ?_
      refine va_get (D := D) (ci := 0) (v := .int (z.2.2.1 (64 * fb + 3))) (C := RX0) (T := TX0) (N := 5) hx hb hts nX0_leastRate_X0 hown hK hP fb (wC_bill y a z fb hfb) rfl 3 (by decide) (hts (.fieldLink RX0 21 "WorksDesk$Bill" "size" "I") (List.mem_of_getElem? (i := 1) rfl)) (fun _ h9 => h9) rfl dX0_leastRate_6 ?_
      refine lv_icmp_ge (tgt := 49) hx hb dX0_leastRate_9 (by decide) (fun c4 => ?_) (fun c4 => ?_)
      · replace hm := zz_pos c4 hm
        refine lv_iload_n hx hb dX0_leastRate_49 rfl (lv_at hl 2 rfl) ?_
        exact zz_iret hx hb hr hlocks ⟨zz_some1 hm, rfl⟩ hP hK hD hS dX0_leastRate_50
      · replace hm := zz_neg c4 hm
        refine lv_aload_n hx hb dX0_leastRate_12 rfl (lv_at hl 0 rfl) ?_
        refine va_get (D := D) (ci := 0) (v := .ref (a (fb + 1))) (C := RX0) (T := TX0) (N := 5) hx hb hts nX0_leastRate_X0 hown hK hP fb (wC_bill y a z fb hfb) rfl 0 (by decide) (hts (.fieldLink RX0 9 "WorksDesk$Bill" "kinds" "[I") (List.mem_of_getElem? (i := 2) rfl)) (fun _ h9 => h9) rfl dX0_leastRate_13 ?_
        refine lv_iload_n hx hb dX0_leastRate_16 rfl (lv_at hl 3 rfl) ?_
        obtain ⟨c5, hm⟩ := zz_ck_some hm
        refine va_iald hx hb hK hP (fb + 1) 0 (wC_billA1 y a z fb hfb) rfl c5 dX0_leastRate_17 ?_
        refine lv_iload_n hx hb dX0_leastRate_18 rfl (lv_at hl 1 rfl) ?_
        refine lv_icmp_ne (tgt := 43) hx hb dX0_leastRate_19 (by decide) (fun c6 => ?_) (fun c6 => ?_)
        · replace hm := zz_neg c6 hm
          have j := J43 (mX0_leastRate_b4 fb z n) ih v1 v2 v3 hm
          rw [hG] at j
          exact j H locs ls hP hD hS (lv_sub hl [0, 1, 2, 3] rfl)
        · replace hm := zz_pos c6 hm
          refine lv_iload_n hx hb dX0_leastRate_22 rfl (lv_at hl 2 rfl) ?_
          refine lv_if_eq (tgt := 36) hx hb dX0_leastRate_23 (by decide) (fun c7 => ?_) (fun c7 => ?_)
          · replace hm := zz_pos c7 hm
            have j := J36 (mX0_leastRate_b4 fb z n) ih v1 v3 hm
            rw [hG] at j
            exact j H locs ls hP hD hS (lv_sub hl [0, 1, 3] rfl)
          · replace hm := zz_neg c7 hm
            refine lv_aload_n hx hb dX0_leastRate_26 rfl (lv_at hl 0 rfl) ?_
            refine va_get (D := D) (ci := 0) (v := .ref (a (fb + 3))) (C := RX0) (T := TX0) (N := 5) hx hb hts nX0_leastRate_X0 hown hK hP fb (wC_bill y a z fb hfb) rfl 2 (by decide) (hts (.fieldLink RX0 18 "WorksDesk$Bill" "rates" "[I") (List.mem_of_getElem? (i := 3) rfl)) (fun _ h9 => h9) rfl dX0_leastRate_27 ?_
            refine lv_iload_n hx hb dX0_leastRate_30 rfl (lv_at hl 3 rfl) ?_
            obtain ⟨c8, hm⟩ := zz_ck_some hm
            refine va_iald hx hb hK hP (fb + 3) 0 (wC_billA3 y a z fb hfb) rfl c8 dX0_leastRate_31 ?_
            refine lv_iload_n hx hb dX0_leastRate_32 rfl (lv_at hl 2 rfl) ?_
            refine lv_icmp_ge (tgt := 43) hx hb dX0_leastRate_33 (by decide) (fun c9 => ?_) (fun c9 => ?_)
            · replace hm := zz_pos c9 hm
              have j := J43 (mX0_leastRate_b4 fb z n) ih v1 v2 v3 hm
              rw [hG] at j
              exact j H locs ls hP hD hS (lv_sub hl [0, 1, 2, 3] rfl)
            · replace hm := zz_neg c9 hm
              have j := J36 (mX0_leastRate_b4 fb z n) ih v1 v3 hm
              rw [hG] at j
              exact j H locs ls hP hD hS (lv_sub hl [0, 1, 3] rfl)
  rw [hG]
  intro H locs ls hP hD hS hl
  unfold mX0_leastRate at hm
  refine lv_iconst (v := (0 : Int32)) hx hb dX0_leastRate_0 (by decide) ?_
  refine lv_istore_n (lv' := [(2, .int (0 : Int32)), (0, .ref (a fb)), (1, .int x1)]) hx hb dX0_leastRate_1 rfl hl (by decide) rfl (fun ls hl => ?_)
  refine lv_iconst (v := (0 : Int32)) hx hb dX0_leastRate_2 (by decide) ?_
  refine lv_istore_n (lv' := [(3, .int (0 : Int32)), (2, .int (0 : Int32)), (0, .ref (a fb)), (1, .int x1)]) hx hb dX0_leastRate_3 rfl hl (by decide) rfl (fun ls hl => ?_)
  have j := J4 zz_N x1 (0 : Int32) (0 : Int32) hm
  rw [hG] at j
  exact j H locs ls hP hD hS (lv_sub hl [2, 3, 1, 0] rfl)
def mX0_likeBits_b30 (fb : Nat) (z : zz_M) (k4 : Int32 → Int32 → Int32 → Option Int32) (v1 : Int32) (v3 : Int32) (t0 : Int32) (t1 : Int32) : Option Int32 := zz_nm (t1 ||| t0) (fun n1 => zz_nm (v3 + (1 : Int32)) (fun n2 => k4 v1 n1 n2))
def mX0_likeBits_b4 (fb : Nat) (z : zz_M) : Nat → Int32 → Int32 → Int32 → Option Int32
  | 0, _, _, _ => none
  | n + 1, v1, v2, v3 => if (z.2.2.1 (64 * fb + 3)) ≤ v3 then (some v2) else (zz_ck (zz_in v3 10) (if (z.1 (fb + 1) v3.toNatClampNeg) = v1 then (mX0_likeBits_b30 fb z (mX0_likeBits_b4 fb z n) v1 v3 ((1 : Int32) <<< (v3 &&& 31)) v2) else (mX0_likeBits_b30 fb z (mX0_likeBits_b4 fb z n) v1 v3 (0 : Int32) v2)))
def mX0_likeBits (fb : Nat) (x1 : Int32) (z : zz_M) : Option Int32 := mX0_likeBits_b4 fb z zz_N x1 (0 : Int32) (0 : Int32)
theorem nX0_likeBits_X0 : ∀ w ∈ wsX00, w ∈ wsX0_likeBits := fun _ h => List.mem_cons_of_mem _ (List.mem_append_right _ (h))
theorem zdX0_likeBits : yX0_likeBits.cls = RX0 ∧ yX0_likeBits.cls ≠ "java/lang/invoke/MethodHandle" ∧ yX0_likeBits.cls ≠ "java/lang/invoke/VarHandle" ∧ (parseMethodDescriptor yX0_likeBits.desc).map (fun d => d.parameters.length) = some 1 := by decide +kernel
set_option maxHeartbeats 4000000 in
set_option maxRecDepth 100000 in
theorem zX0_likeBits (l : Launch) (D : va_G) (y : Nat → ClassId) (a : Nat → Nat) (sz : Nat) (fb : Nat) (x1 : Int32) (hfb : fb = 4 ∨ fb = 9) (z : zz_M) {r : Int32} (hm : mX0_likeBits fb x1 z = some r) : Met l yX0_likeBits wsX0_likeBits { frames := 0, cells := 0, slots := 0, locals := 0 } (zz_Pc D y (wC y a z) sz [.ref (a fb), .int x1]) (zz_Qi D y (wC y a) (va_A (wC y a z) sz) r z) 0 0 (va_A (wC y a z) sz) := by
  refine Met.ofW (cc := cX0_likeBits) (maxL := 4) (ret := (some .int)) (by decide) rfl ?_
  intro p e s m args below meth c s₁ B hml hv
  obtain ⟨rfl, hsz, hP, hK, hD0, hN, hg⟩ := hv
  have hx := B.exec
  have hb := B.bytes
  have hr := B.returns
  have hts := atoms_spec (ws := wsX0_likeBits) B.pre
  have hown : s.vm.findClass RX0 = some m.cls := findClass_of_methodNamed B.named
  have hlocks := B.notSynchronized
  clear B
  subst hsz
  have hD := hD0.self (sz := s.heap.size)
  generalize hAe : va_A (wC y a z) s.heap.size = A at hD hg ⊢
  have hA : ∀ q : Nat, s.heap.size ≤ q → A q := fun q h => by rw [← hAe]; exact Or.inr h
  clear hAe hD0
  have hl := lv_entry ([.ref (a fb), .int x1]) (n := 4) (Nat.le_of_ble_eq_true rfl)
  rw [lg_entry_eq]
  generalize (lg_sl ([.ref (a fb), .int x1]) ++ List.replicate (4 - (lg_sl ([.ref (a fb), .int x1])).length) Slot.unset).toArray = ls at hl ⊢
  replace hl : lv_has ls 4 [(0, .ref (a fb)), (1, .int x1)] := hl
  refine zz_go (w := wC y a) hP hD va_S.rf hl (fun G hG => ?_)
  clear hP hD hl ls
  have J30 : ∀ (k4 : Int32 → Int32 → Int32 → Option Int32) (K4 : ∀ (v1 : Int32) (v2 : Int32) (v3 : Int32), k4 v1 v2 v3 = some r → G 4 [(0, .ref (a fb)), (1, .int v1), (2, .int v2), (3, .int v3)] [] z) (v1 : Int32) (v3 : Int32) (t0 : Int32) (t1 : Int32), mX0_likeBits_b30 fb z k4 v1 v3 t0 t1 = some r → G 30 [(0, .ref (a fb)), (1, .int v1), (3, .int v3)] [.int t0, .int t1] z := by
    intro k4 K4 v1 v3 t0 t1 hm
    rw [mX0_likeBits_b30] at hm
    rw [hG]
    intro H locs ls hP hD hS hl
    refine lv_ior hx hb dX0_likeBits_30 ?_
    refine lv_topi (fun n1 en1 => ?_)
    replace hm := zz_nm_some en1 hm
    refine lv_istore_n (lv' := [(2, .int n1), (0, .ref (a fb)), (1, .int v1), (3, .int v3)]) hx hb dX0_likeBits_31 rfl hl (by decide) rfl (fun ls hl => ?_)
    obtain ⟨n2, en2⟩ : ∃ q : Int32, q = v3 + (1 : Int32) := ⟨_, rfl⟩
    replace hm := zz_nm_some en2 hm
    refine lv_iinc (v := n2) (lv' := [(3, .int n2), (2, .int n1), (0, .ref (a fb)), (1, .int v1)]) hx hb dX0_likeBits_32 hl (k := 3) rfl (by rw [en2]; rfl) (by decide) rfl (fun ls hl => ?_)
    refine lv_goto (tgt := 4) hx hb dX0_likeBits_35 (by decide) ?_
    have j := K4 v1 n1 n2 hm
    rw [hG] at j
    exact j H locs ls hP hD hS (lv_sub hl [2, 3, 1, 0] rfl)
  have J4 : ∀ (n : Nat) (v1 : Int32) (v2 : Int32) (v3 : Int32), mX0_likeBits_b4 fb z n v1 v2 v3 = some r → G 4 [(0, .ref (a fb)), (1, .int v1), (2, .int v2), (3, .int v3)] [] z := by
    intro n
    induction n with
    | zero =>
      intro v1 v2 v3 hm
      exact zz_none hm
    | succ n ih =>
      intro v1 v2 v3 hm
      rw [mX0_likeBits_b4] at hm
      rw [hG]
      intro H locs ls hP hD hS hl
      refine lv_iload_n hx hb dX0_likeBits_4 rfl (lv_at hl 3 rfl) ?_
      refine lv_aload_n hx hb dX0_likeBits_5 rfl (lv_at hl 0 rfl) ?_
      refine va_get (D := D) (ci := 0) (v := .int (z.2.2.1 (64 * fb + 3))) (C := RX0) (T := TX0) (N := 5) hx hb hts nX0_likeBits_X0 hown hK hP fb (wC_bill y a z fb hfb) rfl 3 (by decide) (hts (.fieldLink RX0 21 "WorksDesk$Bill" "size" "I") (List.mem_of_getElem? (i := 1) rfl)) (fun _ h9 => h9) rfl dX0_likeBits_6 ?_
      refine lv_icmp_ge (tgt := 38) hx hb dX0_likeBits_9 (by decide) (fun c3 => ?_) (fun c3 => ?_)
      · replace hm := zz_pos c3 hm
        refine lv_iload_n hx hb dX0_likeBits_38 rfl (lv_at hl 2 rfl) ?_
        exact zz_iret hx hb hr hlocks ⟨zz_some1 hm, rfl⟩ hP hK hD hS dX0_likeBits_39
      · replace hm := zz_neg c3 hm
        refine lv_iload_n hx hb dX0_likeBits_12 rfl (lv_at hl 2 rfl) ?_
        refine lv_aload_n hx hb dX0_likeBits_13 rfl (lv_at hl 0 rfl) ?_
        refine va_get (D := D) (ci := 0) (v := .ref (a (fb + 1))) (C := RX0) (T := TX0) (N := 5) hx hb hts nX0_likeBits_X0 hown hK hP fb (wC_bill y a z fb hfb) rfl 0 (by decide) (hts (.fieldLink RX0 9 "WorksDesk$Bill" "kinds" "[I") (List.mem_of_getElem? (i := 2) rfl)) (fun _ h9 => h9) rfl dX0_likeBits_14 ?_
        refine lv_iload_n hx hb dX0_likeBits_17 rfl (lv_at hl 3 rfl) ?_
        obtain ⟨c4, hm⟩ := zz_ck_some hm
        refine va_iald hx hb hK hP (fb + 1) 0 (wC_billA1 y a z fb hfb) rfl c4 dX0_likeBits_18 ?_
        refine lv_iload_n hx hb dX0_likeBits_19 rfl (lv_at hl 1 rfl) ?_
        refine lv_icmp_ne (tgt := 29) hx hb dX0_likeBits_20 (by decide) (fun c5 => ?_) (fun c5 => ?_)
        · replace hm := zz_neg c5 hm
          refine lv_iconst (v := (0 : Int32)) hx hb dX0_likeBits_29 (by decide) ?_
          have j := J30 (mX0_likeBits_b4 fb z n) ih v1 v3 (0 : Int32) v2 hm
          rw [hG] at j
          exact j H locs ls hP hD hS (lv_sub hl [0, 1, 3] rfl)
        · replace hm := zz_pos c5 hm
          refine lv_iconst (v := (1 : Int32)) hx hb dX0_likeBits_23 (by decide) ?_
          refine lv_iload_n hx hb dX0_likeBits_24 rfl (lv_at hl 3 rfl) ?_
          refine lv_ishl hx hb dX0_likeBits_25 ?_
          refine lv_goto (tgt := 30) hx hb dX0_likeBits_26 (by decide) ?_
          have j := J30 (mX0_likeBits_b4 fb z n) ih v1 v3 ((1 : Int32) <<< (v3 &&& 31)) v2 hm
          rw [hG] at j
          exact j H locs ls hP hD hS (lv_sub hl [0, 1, 3] rfl)
  rw [hG]
  intro H locs ls hP hD hS hl
  unfold mX0_likeBits at hm
  refine lv_iconst (v := (0 : Int32)) hx hb dX0_likeBits_0 (by decide) ?_
  refine lv_istore_n (lv' := [(2, .int (0 : Int32)), (0, .ref (a fb)), (1, .int x1)]) hx hb dX0_likeBits_1 rfl hl (by decide) rfl (fun ls hl => ?_)
  refine lv_iconst (v := (0 : Int32)) hx hb dX0_likeBits_2 (by decide) ?_
  refine lv_istore_n (lv' := [(3, .int (0 : Int32)), (2, .int (0 : Int32)), (0, .ref (a fb)), (1, .int x1)]) hx hb dX0_likeBits_3 rfl hl (by decide) rfl (fun ls hl => ?_)
  have j := J4 zz_N x1 (0 : Int32) (0 : Int32) hm
  rw [hG] at j
  exact j H locs ls hP hD hS (lv_sub hl [2, 3, 1, 0] rfl)
def mX0_price_b77 (fb : Nat) (z : zz_M) (t0 : Int32) : Option Int32 := some t0
def mX0_price_b58 (fb : Nat) (z : zz_M) (k8 : Int32 → Int32 → Int32 → Int32 → Int32 → Option Int32) (v1 : Int32) (v2 : Int32) (v3 : Int32) (v4 : Int32) (v5 : Int32) : Option Int32 := zz_nm (v5 + (1 : Int32)) (fun n1 => k8 v1 v2 v3 v4 n1)
def mX0_price_b8 (fb : Nat) (z : zz_M) : Nat → Int32 → Int32 → Int32 → Int32 → Int32 → Option Int32
  | 0, _, _, _, _, _ => none
  | n + 1, v1, v2, v3, v4, v5 => if (z.2.2.1 (64 * fb + 3)) ≤ v5 then (if v4 ≤ (0 : Int32) then (mX0_price_b77 fb z v2) else (zz_ck (¬ v4 = (0 : Int32)) (mX0_price_b77 fb z (v3 / v4)))) else (zz_ck (zz_in v5 10) (if (z.1 (fb + 1) v5.toNatClampNeg) = v1 then (zz_ck (zz_in v5 10) (zz_ck (zz_in v5 10) (zz_nm (v3 + ((z.1 (fb + 2) v5.toNatClampNeg) * (z.1 (fb + 3) v5.toNatClampNeg))) (fun n9 => zz_ck (zz_in v5 10) (zz_nm (v4 + (z.1 (fb + 2) v5.toNatClampNeg)) (fun n11 => mX0_price_b58 fb z (mX0_price_b8 fb z n) v1 v2 n9 n11 v5)))))) else (mX0_price_b58 fb z (mX0_price_b8 fb z n) v1 v2 v3 v4 v5)))
def mX0_price (fb : Nat) (x1 : Int32) (x2 : Int32) (z : zz_M) : Option Int32 := mX0_price_b8 fb z zz_N x1 x2 (0 : Int32) (0 : Int32) (0 : Int32)
theorem nX0_price_X0 : ∀ w ∈ wsX00, w ∈ wsX0_price := fun _ h => List.mem_cons_of_mem _ (List.mem_append_right _ (h))
theorem zdX0_price : yX0_price.cls = RX0 ∧ yX0_price.cls ≠ "java/lang/invoke/MethodHandle" ∧ yX0_price.cls ≠ "java/lang/invoke/VarHandle" ∧ (parseMethodDescriptor yX0_price.desc).map (fun d => d.parameters.length) = some 2 := by decide +kernel
set_option maxHeartbeats 4000000 in
set_option maxRecDepth 100000 in
theorem zX0_price (l : Launch) (D : va_G) (y : Nat → ClassId) (a : Nat → Nat) (sz : Nat) (fb : Nat) (x1 : Int32) (x2 : Int32) (hfb : fb = 4 ∨ fb = 9) (z : zz_M) {r : Int32} (hm : mX0_price fb x1 x2 z = some r) : Met l yX0_price wsX0_price { frames := 0, cells := 0, slots := 0, locals := 0 } (zz_Pc D y (wC y a z) sz [.ref (a fb), .int x1, .int x2]) (zz_Qi D y (wC y a) (va_A (wC y a z) sz) r z) 0 0 (va_A (wC y a z) sz) := by
  refine Met.ofW (cc := cX0_price) (maxL := 6) (ret := (some .int)) (by decide) rfl ?_
  intro p e s m args below meth c s₁ B hml hv
  obtain ⟨rfl, hsz, hP, hK, hD0, hN, hg⟩ := hv
  have hx := B.exec
  have hb := B.bytes
  have hr := B.returns
  have hts := atoms_spec (ws := wsX0_price) B.pre
  have hown : s.vm.findClass RX0 = some m.cls := findClass_of_methodNamed B.named
  have hlocks := B.notSynchronized
  clear B
  subst hsz
  have hD := hD0.self (sz := s.heap.size)
  generalize hAe : va_A (wC y a z) s.heap.size = A at hD hg ⊢
  have hA : ∀ q : Nat, s.heap.size ≤ q → A q := fun q h => by rw [← hAe]; exact Or.inr h
  clear hAe hD0
  have hl := lv_entry ([.ref (a fb), .int x1, .int x2]) (n := 6) (Nat.le_of_ble_eq_true rfl)
  rw [lg_entry_eq]
  generalize (lg_sl ([.ref (a fb), .int x1, .int x2]) ++ List.replicate (6 - (lg_sl ([.ref (a fb), .int x1, .int x2])).length) Slot.unset).toArray = ls at hl ⊢
  replace hl : lv_has ls 6 [(0, .ref (a fb)), (1, .int x1), (2, .int x2)] := hl
  refine zz_go (w := wC y a) hP hD va_S.rf hl (fun G hG => ?_)
  clear hP hD hl ls
  have J77 : ∀ (t0 : Int32), mX0_price_b77 fb z t0 = some r → G 77 [] [.int t0] z := by
    intro t0 hm
    rw [mX0_price_b77] at hm
    rw [hG]
    intro H locs ls hP hD hS hl
    exact zz_iret hx hb hr hlocks ⟨zz_some1 hm, rfl⟩ hP hK hD hS dX0_price_77
  have J58 : ∀ (k8 : Int32 → Int32 → Int32 → Int32 → Int32 → Option Int32) (K8 : ∀ (v1 : Int32) (v2 : Int32) (v3 : Int32) (v4 : Int32) (v5 : Int32), k8 v1 v2 v3 v4 v5 = some r → G 8 [(0, .ref (a fb)), (1, .int v1), (2, .int v2), (3, .int v3), (4, .int v4), (5, .int v5)] [] z) (v1 : Int32) (v2 : Int32) (v3 : Int32) (v4 : Int32) (v5 : Int32), mX0_price_b58 fb z k8 v1 v2 v3 v4 v5 = some r → G 58 [(0, .ref (a fb)), (1, .int v1), (2, .int v2), (3, .int v3), (4, .int v4), (5, .int v5)] [] z := by
    intro k8 K8 v1 v2 v3 v4 v5 hm
    rw [mX0_price_b58] at hm
    rw [hG]
    intro H locs ls hP hD hS hl
    obtain ⟨n1, en1⟩ : ∃ q : Int32, q = v5 + (1 : Int32) := ⟨_, rfl⟩
    replace hm := zz_nm_some en1 hm
    refine lv_iinc (v := n1) (lv' := [(5, .int n1), (0, .ref (a fb)), (1, .int v1), (2, .int v2), (3, .int v3), (4, .int v4)]) hx hb dX0_price_58 hl (k := 5) rfl (by rw [en1]; rfl) (by decide) rfl (fun ls hl => ?_)
    refine lv_goto (tgt := 8) hx hb dX0_price_61 (by decide) ?_
    have j := K8 v1 v2 v3 v4 n1 hm
    rw [hG] at j
    exact j H locs ls hP hD hS (lv_sub hl [1, 2, 3, 4, 5, 0] rfl)
  have J8 : ∀ (n : Nat) (v1 : Int32) (v2 : Int32) (v3 : Int32) (v4 : Int32) (v5 : Int32), mX0_price_b8 fb z n v1 v2 v3 v4 v5 = some r → G 8 [(0, .ref (a fb)), (1, .int v1), (2, .int v2), (3, .int v3), (4, .int v4), (5, .int v5)] [] z := by
    intro n
    induction n with
    | zero =>
      intro v1 v2 v3 v4 v5 hm
      exact zz_none hm
    | succ n ih =>
      intro v1 v2 v3 v4 v5 hm
      rw [mX0_price_b8] at hm
      rw [hG]
      intro H locs ls hP hD hS hl
      refine lv_iload hx hb dX0_price_8 (lv_at hl 5 rfl) ?_
      refine lv_aload_n hx hb dX0_price_10 rfl (lv_at hl 0 rfl) ?_
      refine va_get (D := D) (ci := 0) (v := .int (z.2.2.1 (64 * fb + 3))) (C := RX0) (T := TX0) (N := 5) hx hb hts nX0_price_X0 hown hK hP fb (wC_bill y a z fb hfb) rfl 3 (by decide) (hts (.fieldLink RX0 21 "WorksDesk$Bill" "size" "I") (List.mem_of_getElem? (i := 1) rfl)) (fun _ h9 => h9) rfl dX0_price_11 ?_
      refine lv_icmp_ge (tgt := 64) hx hb dX0_price_14 (by decide) (fun c2 => ?_) (fun c2 => ?_)
      · replace hm := zz_pos c2 hm
        refine lv_iload hx hb dX0_price_64 (lv_at hl 4 rfl) ?_
        refine lv_if_le (tgt := 76) hx hb dX0_price_66 (by decide) (fun c3 => ?_) (fun c3 => ?_)
        · replace hm := zz_pos c3 hm
          refine lv_iload_n hx hb dX0_price_76 rfl (lv_at hl 2 rfl) ?_
          have j := J77 v2 hm
          rw [hG] at j
          exact j H locs ls hP hD hS (lv_sub hl [] rfl)
        · replace hm := zz_neg c3 hm
          refine lv_iload_n hx hb dX0_price_69 rfl (lv_at hl 3 rfl) ?_
          refine lv_iload hx hb dX0_price_70 (lv_at hl 4 rfl) ?_
          obtain ⟨c4, hm⟩ := zz_ck_some hm
          refine lv_idiv hx hb dX0_price_72 c4 ?_
          refine lv_goto (tgt := 77) hx hb dX0_price_73 (by decide) ?_
          have j := J77 (v3 / v4) hm
          rw [hG] at j
          exact j H locs ls hP hD hS (lv_sub hl [] rfl)
      · replace hm := zz_neg c2 hm
        refine lv_aload_n hx hb dX0_price_17 rfl (lv_at hl 0 rfl) ?_
        refine va_get (D := D) (ci := 0) (v := .ref (a (fb + 1))) (C := RX0) (T := TX0) (N := 5) hx hb hts nX0_price_X0 hown hK hP fb (wC_bill y a z fb hfb) rfl 0 (by decide) (hts (.fieldLink RX0 9 "WorksDesk$Bill" "kinds" "[I") (List.mem_of_getElem? (i := 2) rfl)) (fun _ h9 => h9) rfl dX0_price_18 ?_
        refine lv_iload hx hb dX0_price_21 (lv_at hl 5 rfl) ?_
        obtain ⟨c5, hm⟩ := zz_ck_some hm
        refine va_iald hx hb hK hP (fb + 1) 0 (wC_billA1 y a z fb hfb) rfl c5 dX0_price_23 ?_
        refine lv_iload_n hx hb dX0_price_24 rfl (lv_at hl 1 rfl) ?_
        refine lv_icmp_ne (tgt := 58) hx hb dX0_price_25 (by decide) (fun c6 => ?_) (fun c6 => ?_)
        · replace hm := zz_neg c6 hm
          have j := J58 (mX0_price_b8 fb z n) ih v1 v2 v3 v4 v5 hm
          rw [hG] at j
          exact j H locs ls hP hD hS (lv_sub hl [0, 1, 2, 3, 4, 5] rfl)
        · replace hm := zz_pos c6 hm
          refine lv_iload_n hx hb dX0_price_28 rfl (lv_at hl 3 rfl) ?_
          refine lv_aload_n hx hb dX0_price_29 rfl (lv_at hl 0 rfl) ?_
          refine va_get (D := D) (ci := 0) (v := .ref (a (fb + 2))) (C := RX0) (T := TX0) (N := 5) hx hb hts nX0_price_X0 hown hK hP fb (wC_bill y a z fb hfb) rfl 1 (by decide) (hts (.fieldLink RX0 15 "WorksDesk$Bill" "quantities" "[I") (List.mem_of_getElem? (i := 3) rfl)) (fun _ h9 => h9) rfl dX0_price_30 ?_
          refine lv_iload hx hb dX0_price_33 (lv_at hl 5 rfl) ?_
          obtain ⟨c7, hm⟩ := zz_ck_some hm
          refine va_iald hx hb hK hP (fb + 2) 0 (wC_billA2 y a z fb hfb) rfl c7 dX0_price_35 ?_
          refine lv_aload_n hx hb dX0_price_36 rfl (lv_at hl 0 rfl) ?_
          refine va_get (D := D) (ci := 0) (v := .ref (a (fb + 3))) (C := RX0) (T := TX0) (N := 5) hx hb hts nX0_price_X0 hown hK hP fb (wC_bill y a z fb hfb) rfl 2 (by decide) (hts (.fieldLink RX0 18 "WorksDesk$Bill" "rates" "[I") (List.mem_of_getElem? (i := 4) rfl)) (fun _ h9 => h9) rfl dX0_price_37 ?_
          refine lv_iload hx hb dX0_price_40 (lv_at hl 5 rfl) ?_
          obtain ⟨c8, hm⟩ := zz_ck_some hm
          refine va_iald hx hb hK hP (fb + 3) 0 (wC_billA3 y a z fb hfb) rfl c8 dX0_price_42 ?_
          refine lv_imul hx hb dX0_price_43 ?_
          refine lv_iadd hx hb dX0_price_44 ?_
          refine lv_topi (fun n9 en9 => ?_)
          replace hm := zz_nm_some en9 hm
          refine lv_istore_n (lv' := [(3, .int n9), (0, .ref (a fb)), (1, .int v1), (2, .int v2), (4, .int v4), (5, .int v5)]) hx hb dX0_price_45 rfl hl (by decide) rfl (fun ls hl => ?_)
          refine lv_iload hx hb dX0_price_46 (lv_at hl 4 rfl) ?_
          refine lv_aload_n hx hb dX0_price_48 rfl (lv_at hl 1 rfl) ?_
          refine va_get (D := D) (ci := 0) (v := .ref (a (fb + 2))) (C := RX0) (T := TX0) (N := 5) hx hb hts nX0_price_X0 hown hK hP fb (wC_bill y a z fb hfb) rfl 1 (by decide) (hts (.fieldLink RX0 15 "WorksDesk$Bill" "quantities" "[I") (List.mem_of_getElem? (i := 3) rfl)) (fun _ h9 => h9) rfl dX0_price_49 ?_
          refine lv_iload hx hb dX0_price_52 (lv_at hl 5 rfl) ?_
          obtain ⟨c10, hm⟩ := zz_ck_some hm
          refine va_iald hx hb hK hP (fb + 2) 0 (wC_billA2 y a z fb hfb) rfl c10 dX0_price_54 ?_
          refine lv_iadd hx hb dX0_price_55 ?_
          refine lv_topi (fun n11 en11 => ?_)
          replace hm := zz_nm_some en11 hm
          refine lv_istore (lv' := [(4, .int n11), (3, .int n9), (0, .ref (a fb)), (1, .int v1), (2, .int v2), (5, .int v5)]) hx hb dX0_price_56 hl (by decide) rfl (fun ls hl => ?_)
          have j := J58 (mX0_price_b8 fb z n) ih v1 v2 n9 n11 v5 hm
          rw [hG] at j
          exact j H locs ls hP hD hS (lv_sub hl [2, 3, 4, 1, 0, 5] rfl)
  rw [hG]
  intro H locs ls hP hD hS hl
  unfold mX0_price at hm
  refine lv_iconst (v := (0 : Int32)) hx hb dX0_price_0 (by decide) ?_
  refine lv_istore_n (lv' := [(3, .int (0 : Int32)), (0, .ref (a fb)), (1, .int x1), (2, .int x2)]) hx hb dX0_price_1 rfl hl (by decide) rfl (fun ls hl => ?_)
  refine lv_iconst (v := (0 : Int32)) hx hb dX0_price_2 (by decide) ?_
  refine lv_istore (lv' := [(4, .int (0 : Int32)), (3, .int (0 : Int32)), (0, .ref (a fb)), (1, .int x1), (2, .int x2)]) hx hb dX0_price_3 hl (by decide) rfl (fun ls hl => ?_)
  refine lv_iconst (v := (0 : Int32)) hx hb dX0_price_5 (by decide) ?_
  refine lv_istore (lv' := [(5, .int (0 : Int32)), (4, .int (0 : Int32)), (3, .int (0 : Int32)), (0, .ref (a fb)), (1, .int x1), (2, .int x2)]) hx hb dX0_price_6 hl (by decide) rfl (fun ls hl => ?_)
  have j := J8 zz_N x1 x2 (0 : Int32) (0 : Int32) (0 : Int32) hm
  rw [hG] at j
  exact j H locs ls hP hD hS (lv_sub hl [3, 4, 5, 2, 1, 0] rfl)
def mX0_take_b6 (fb : Nat) (gb : Nat) : Nat → Int32 → zz_M → Option (Unit × zz_M)
  | 0, _, _ => none
  | n + 1, v2, z => if (z.2.2.1 (64 * gb + 3)) ≤ v2 then (some ((), z)) else (zz_ck (zz_in v2 10) (zz_ck (zz_in v2 10) (zz_ck (zz_in v2 10) (zz_b2 (mX0_add fb (z.1 (gb + 1) v2.toNatClampNeg) (z.1 (gb + 2) v2.toNatClampNeg) (z.1 (gb + 3) v2.toNatClampNeg) z) (fun r5 z7 => zz_nm (v2 + (1 : Int32)) (fun n8 => (mX0_take_b6 fb gb n) n8 z7))))))
def mX0_take (fb : Nat) (gb : Nat) (z : zz_M) : Option (Unit × zz_M) := zz_b2 (mX0_clear fb z) (fun r9 z11 => mX0_take_b6 fb gb zz_N (0 : Int32) z11)
theorem nX0_take_X0 : ∀ w ∈ wsX00, w ∈ wsX0_take := fun _ h => List.mem_cons_of_mem _ (List.mem_append_right _ (h))
theorem zdX0_take : yX0_take.cls = RX0 ∧ yX0_take.cls ≠ "java/lang/invoke/MethodHandle" ∧ yX0_take.cls ≠ "java/lang/invoke/VarHandle" ∧ (parseMethodDescriptor yX0_take.desc).map (fun d => d.parameters.length) = some 1 := by decide +kernel
set_option maxHeartbeats 4000000 in
set_option maxRecDepth 100000 in
theorem zX0_take (l : Launch) (D : va_G) (y : Nat → ClassId) (a : Nat → Nat) (sz : Nat) (fb : Nat) (gb : Nat) (hfb : fb = 4 ∨ fb = 9) (hgb : gb = 4 ∨ gb = 9) (z : zz_M) {r : Unit} {zt : zz_M} (hm : mX0_take fb gb z = some (r, zt)) : Met l yX0_take wsX0_take { frames := 1, cells := 0, slots := 0, locals := 23 } (zz_Pc D y (wC y a z) sz [.ref (a fb), .ref (a gb)]) (zz_Qv D y (wC y a) (va_A (wC y a z) sz) zt) 0 0 (va_A (wC y a z) sz) := by
  refine Met.ofW (cc := cX0_take) (maxL := 3) (ret := none) (by decide) rfl ?_
  intro p e s m args below meth c s₁ B hml hv
  obtain ⟨rfl, hsz, hP, hK, hD0, hN, hg⟩ := hv
  have hx := B.exec
  have hb := B.bytes
  have hr := B.returns
  have hts := atoms_spec (ws := wsX0_take) B.pre
  have hown : s.vm.findClass RX0 = some m.cls := findClass_of_methodNamed B.named
  have hlocks := B.notSynchronized
  clear B
  subst hsz
  have hD := hD0.self (sz := s.heap.size)
  generalize hAe : va_A (wC y a z) s.heap.size = A at hD hg ⊢
  have hA : ∀ q : Nat, s.heap.size ≤ q → A q := fun q h => by rw [← hAe]; exact Or.inr h
  clear hAe hD0
  have hl := lv_entry ([.ref (a fb), .ref (a gb)]) (n := 3) (Nat.le_of_ble_eq_true rfl)
  rw [lg_entry_eq]
  generalize (lg_sl ([.ref (a fb), .ref (a gb)]) ++ List.replicate (3 - (lg_sl ([.ref (a fb), .ref (a gb)])).length) Slot.unset).toArray = ls at hl ⊢
  replace hl : lv_has ls 3 [(0, .ref (a fb)), (1, .ref (a gb))] := hl
  refine zz_go (w := wC y a) hP hD va_S.rf hl (fun G hG => ?_)
  clear hP hD hl ls
  have J6 : ∀ (n : Nat) (v2 : Int32) (z : zz_M), mX0_take_b6 fb gb n v2 z = some (r, zt) → G 6 [(0, .ref (a fb)), (1, .ref (a gb)), (2, .int v2)] [] z := by
    intro n
    induction n with
    | zero =>
      intro v2 z hm
      exact zz_none hm
    | succ n ih =>
      intro v2 z hm
      rw [mX0_take_b6] at hm
      rw [hG]
      intro H locs ls hP hD hS hl
      refine lv_iload_n hx hb dX0_take_6 rfl (lv_at hl 2 rfl) ?_
      refine lv_aload_n hx hb dX0_take_7 rfl (lv_at hl 1 rfl) ?_
      refine va_get (D := D) (ci := 0) (v := .int (z.2.2.1 (64 * gb + 3))) (C := RX0) (T := TX0) (N := 5) hx hb hts nX0_take_X0 hown hK hP gb (wC_bill y a z gb hgb) rfl 3 (by decide) (hts (.fieldLink RX0 21 "WorksDesk$Bill" "size" "I") (List.mem_of_getElem? (i := 1) rfl)) (fun _ h9 => h9) rfl dX0_take_8 ?_
      refine lv_icmp_ge (tgt := 42) hx hb dX0_take_11 (by decide) (fun c1 => ?_) (fun c1 => ?_)
      · replace hm := zz_pos c1 hm
        exact zz_vret hx hb hr hlocks (zz_some2 hm).2 hP hK hD hS dX0_take_42
      · replace hm := zz_neg c1 hm
        refine lv_aload_n hx hb dX0_take_14 rfl (lv_at hl 0 rfl) ?_
        refine lv_aload_n hx hb dX0_take_15 rfl (lv_at hl 1 rfl) ?_
        refine va_get (D := D) (ci := 0) (v := .ref (a (gb + 1))) (C := RX0) (T := TX0) (N := 5) hx hb hts nX0_take_X0 hown hK hP gb (wC_bill y a z gb hgb) rfl 0 (by decide) (hts (.fieldLink RX0 9 "WorksDesk$Bill" "kinds" "[I") (List.mem_of_getElem? (i := 2) rfl)) (fun _ h9 => h9) rfl dX0_take_16 ?_
        refine lv_iload_n hx hb dX0_take_19 rfl (lv_at hl 2 rfl) ?_
        obtain ⟨c2, hm⟩ := zz_ck_some hm
        refine va_iald hx hb hK hP (gb + 1) 0 (wC_billA1 y a z gb hgb) rfl c2 dX0_take_20 ?_
        refine lv_aload_n hx hb dX0_take_21 rfl (lv_at hl 1 rfl) ?_
        refine va_get (D := D) (ci := 0) (v := .ref (a (gb + 2))) (C := RX0) (T := TX0) (N := 5) hx hb hts nX0_take_X0 hown hK hP gb (wC_bill y a z gb hgb) rfl 1 (by decide) (hts (.fieldLink RX0 15 "WorksDesk$Bill" "quantities" "[I") (List.mem_of_getElem? (i := 3) rfl)) (fun _ h9 => h9) rfl dX0_take_22 ?_
        refine lv_iload_n hx hb dX0_take_25 rfl (lv_at hl 2 rfl) ?_
        obtain ⟨c3, hm⟩ := zz_ck_some hm
        refine va_iald hx hb hK hP (gb + 2) 0 (wC_billA2 y a z gb hgb) rfl c3 dX0_take_26 ?_
        refine lv_aload_n hx hb dX0_take_27 rfl (lv_at hl 1 rfl) ?_
        refine va_get (D := D) (ci := 0) (v := .ref (a (gb + 3))) (C := RX0) (T := TX0) (N := 5) hx hb hts nX0_take_X0 hown hK hP gb (wC_bill y a z gb hgb) rfl 2 (by decide) (hts (.fieldLink RX0 18 "WorksDesk$Bill" "rates" "[I") (List.mem_of_getElem? (i := 4) rfl)) (fun _ h9 => h9) rfl dX0_take_28 ?_
        refine lv_iload_n hx hb dX0_take_31 rfl (lv_at hl 2 rfl) ?_
        obtain ⟨c4, hm⟩ := zz_ck_some hm
        refine va_iald hx hb hK hP (gb + 3) 0 (wC_billA3 y a z gb hgb) rfl c4 dX0_take_32 ?_
        obtain ⟨r5, z7, h6, hm⟩ := zz_b2_some hm
        refine zz_callv (zz_runV (w := wC y a) (As := [.int (z.1 (gb + 1) v2.toNatClampNeg), .int (z.1 (gb + 2) v2.toNatClampNeg), .int (z.1 (gb + 3) v2.toNatClampNeg)]) (rest := []) ⟨hx, hb, hml, hown, hts⟩ (zX0_add l D y a H.size fb (z.1 (gb + 1) v2.toNatClampNeg) (z.1 (gb + 2) v2.toNatClampNeg) (z.1 (gb + 3) v2.toNatClampNeg) hfb z h6) (cwV 3 hts gX0_take_X0_add rfl rfl rfl zdX0_add ⟨Nat.le_of_ble_eq_true rfl, Nat.le_of_ble_eq_true rfl⟩) hK hN hg hP hD hS hA fb (wC_bill y a z fb hfb) rfl rfl hl.1 rfl (Nat.le_of_ble_eq_true rfl) dX0_take_33 ⟨Nat.le_of_ble_eq_true rfl, Nat.le_of_ble_eq_true rfl⟩) hD hS hA (fun H locs hP hD hS => ?_)
        obtain ⟨n8, en8⟩ : ∃ q : Int32, q = v2 + (1 : Int32) := ⟨_, rfl⟩
        replace hm := zz_nm_some en8 hm
        refine lv_iinc (v := n8) (lv' := [(2, .int n8), (0, .ref (a fb)), (1, .ref (a gb))]) hx hb dX0_take_36 hl (k := 2) rfl (by rw [en8]; rfl) (by decide) rfl (fun ls hl => ?_)
        refine lv_goto (tgt := 6) hx hb dX0_take_39 (by decide) ?_
        have j := ih n8 z7 hm
        rw [hG] at j
        exact j H locs ls hP hD hS (lv_sub hl [1, 2, 0] rfl)
  rw [hG]
  intro H locs ls hP hD hS hl
  unfold mX0_take at hm
  refine lv_aload_n hx hb dX0_take_0 rfl (lv_at hl 0 rfl) ?_
  obtain ⟨r9, z11, h10, hm⟩ := zz_b2_some hm
  refine zz_callv (zz_runV (w := wC y a) (As := []) (rest := []) ⟨hx, hb, hml, hown, hts⟩ (zX0_clear l D y a H.size fb hfb z h10) (cwV 0 hts gX0_take_X0_clear rfl rfl rfl zdX0_clear ⟨Nat.le_of_ble_eq_true rfl, Nat.le_of_ble_eq_true rfl⟩) hK hN hg hP hD hS hA fb (wC_bill y a z fb hfb) rfl rfl hl.1 rfl (Nat.le_of_ble_eq_true rfl) dX0_take_1 ⟨Nat.le_of_ble_eq_true rfl, Nat.le_of_ble_eq_true rfl⟩) hD hS hA (fun H locs hP hD hS => ?_)
  refine lv_iconst (v := (0 : Int32)) hx hb dX0_take_4 (by decide) ?_
  refine lv_istore_n (lv' := [(2, .int (0 : Int32)), (0, .ref (a fb)), (1, .ref (a gb))]) hx hb dX0_take_5 rfl hl (by decide) rfl (fun ls hl => ?_)
  have j := J6 zz_N (0 : Int32) z11 hm
  rw [hG] at j
  exact j H locs ls hP hD hS (lv_sub hl [1, 2, 0] rfl)
def mX10_isWithin_b15 (t0 : Int32) : Option Int32 := zz_ck (zz_bool t0) (some t0)
def mX10_isWithin_b14 : Option Int32 := mX10_isWithin_b15 (0 : Int32)
def mX10_isWithin (x0 : Int32) (x1 : Int32) (x2 : Int32) : Option Int32 := if x0 < x1 then (mX10_isWithin_b14) else (if x2 < x0 then (mX10_isWithin_b14) else (mX10_isWithin_b15 (1 : Int32)))
theorem zdX10_isWithin : yX10_isWithin.cls ≠ "java/lang/invoke/MethodHandle" ∧ yX10_isWithin.cls ≠ "java/lang/invoke/VarHandle" ∧ (parseMethodDescriptor yX10_isWithin.desc).map (fun d => d.parameters.length) = some 3 := by decide +kernel
set_option maxHeartbeats 4000000 in
set_option maxRecDepth 100000 in
theorem zX10_isWithin (l : Launch) (D : va_G) (y : Nat → ClassId) (a : Nat → Nat) (sz : Nat) (x0 : Int32) (x1 : Int32) (x2 : Int32) (z : zz_M) {r : Int32} (hm : mX10_isWithin x0 x1 x2 = some r) : Met l yX10_isWithin wsX10_isWithin { frames := 0, cells := 0, slots := 0, locals := 0 } (zz_Pc D y (wC y a z) sz [.int x0, .int x1, .int x2]) (zz_Qi D y (wC y a) (va_A (wC y a z) sz) r z) 0 0 (va_A (wC y a z) sz) := by
  refine Met.ofW (cc := cX10_isWithin) (maxL := 3) (ret := (some .boolean)) (by decide) rfl ?_
  intro p e s m args below meth c s₁ B hml hv
  obtain ⟨rfl, hsz, hP, hK, hD0, hN, hg⟩ := hv
  have hx := B.exec
  have hb := B.bytes
  have hr := B.returns
  have hts := atoms_spec (ws := wsX10_isWithin) B.pre
  have hown : s.vm.findClass RX10 = some m.cls := findClass_of_methodNamed B.named
  have hlocks := B.notSynchronized
  clear B
  subst hsz
  have hD := hD0.self (sz := s.heap.size)
  generalize hAe : va_A (wC y a z) s.heap.size = A at hD hg ⊢
  have hA : ∀ q : Nat, s.heap.size ≤ q → A q := fun q h => by rw [← hAe]; exact Or.inr h
  clear hAe hD0
  have hl := lv_entry ([.int x0, .int x1, .int x2]) (n := 3) (Nat.le_of_ble_eq_true rfl)
  rw [lg_entry_eq]
  generalize (lg_sl ([.int x0, .int x1, .int x2]) ++ List.replicate (3 - (lg_sl ([.int x0, .int x1, .int x2])).length) Slot.unset).toArray = ls at hl ⊢
  replace hl : lv_has ls 3 [(0, .int x0), (1, .int x1), (2, .int x2)] := hl
  refine zz_go (w := wC y a) hP hD va_S.rf hl (fun G hG => ?_)
  clear hP hD hl ls
  have J15 : ∀ (t0 : Int32), mX10_isWithin_b15 t0 = some r → G 15 [] [.int t0] z := by
    intro t0 hm
    rw [mX10_isWithin_b15] at hm
    rw [hG]
    intro H locs ls hP hD hS hl
    obtain ⟨c1, hm⟩ := zz_ck_some hm
    exact zz_zret hx hb hr hlocks c1 ⟨zz_some1 hm, rfl⟩ hP hK hD hS dX10_isWithin_15
  have J14 : mX10_isWithin_b14 = some r → G 14 [] [] z := by
    intro hm
    rw [mX10_isWithin_b14] at hm
    rw [hG]
    intro H locs ls hP hD hS hl
    refine lv_iconst (v := (0 : Int32)) hx hb dX10_isWithin_14 (by decide) ?_
    have j := J15 (0 : Int32) hm
    rw [hG] at j
    exact j H locs ls hP hD hS (lv_sub hl [] rfl)
  rw [hG]
  intro H locs ls hP hD hS hl
  unfold mX10_isWithin at hm
  refine lv_iload_n hx hb dX10_isWithin_0 rfl (lv_at hl 0 rfl) ?_
  refine lv_iload_n hx hb dX10_isWithin_1 rfl (lv_at hl 1 rfl) ?_
  refine lv_icmp_lt (tgt := 14) hx hb dX10_isWithin_2 (by decide) (fun c2 => ?_) (fun c2 => ?_)
  · replace hm := zz_pos c2 hm
    have j := J14 hm
    rw [hG] at j
    exact j H locs ls hP hD hS (lv_sub hl [] rfl)
  · replace hm := zz_neg c2 hm
    refine lv_iload_n hx hb dX10_isWithin_5 rfl (lv_at hl 0 rfl) ?_
    refine lv_iload_n hx hb dX10_isWithin_6 rfl (lv_at hl 2 rfl) ?_
    refine lv_icmp_gt (tgt := 14) hx hb dX10_isWithin_7 (by decide) (fun c3 => ?_) (fun c3 => ?_)
    · replace hm := zz_pos c3 hm
      have j := J14 hm
      rw [hG] at j
      exact j H locs ls hP hD hS (lv_sub hl [] rfl)
    · replace hm := zz_neg c3 hm
      refine lv_iconst (v := (1 : Int32)) hx hb dX10_isWithin_10 (by decide) ?_
      refine lv_goto (tgt := 15) hx hb dX10_isWithin_11 (by decide) ?_
      have j := J15 (1 : Int32) hm
      rw [hG] at j
      exact j H locs ls hP hD hS (lv_sub hl [] rfl)
def mX10_isMonth (x0 : Int32) : Option Int32 := zz_b1 (mX10_isWithin x0 (0 : Int32) (23 : Int32)) (fun r1 => zz_ck (zz_bool r1) (some r1))
theorem zdX10_isMonth : yX10_isMonth.cls ≠ "java/lang/invoke/MethodHandle" ∧ yX10_isMonth.cls ≠ "java/lang/invoke/VarHandle" ∧ (parseMethodDescriptor yX10_isMonth.desc).map (fun d => d.parameters.length) = some 1 := by decide +kernel
set_option maxHeartbeats 4000000 in
set_option maxRecDepth 100000 in
theorem zX10_isMonth (l : Launch) (D : va_G) (y : Nat → ClassId) (a : Nat → Nat) (sz : Nat) (x0 : Int32) (z : zz_M) {r : Int32} (hm : mX10_isMonth x0 = some r) : Met l yX10_isMonth wsX10_isMonth { frames := 1, cells := 0, slots := 0, locals := 22 } (zz_Pc D y (wC y a z) sz [.int x0]) (zz_Qi D y (wC y a) (va_A (wC y a z) sz) r z) 0 0 (va_A (wC y a z) sz) := by
  refine Met.ofW (cc := cX10_isMonth) (maxL := 1) (ret := (some .boolean)) (by decide) rfl ?_
  intro p e s m args below meth c s₁ B hml hv
  obtain ⟨rfl, hsz, hP, hK, hD0, hN, hg⟩ := hv
  have hx := B.exec
  have hb := B.bytes
  have hr := B.returns
  have hts := atoms_spec (ws := wsX10_isMonth) B.pre
  have hown : s.vm.findClass RX10 = some m.cls := findClass_of_methodNamed B.named
  have hlocks := B.notSynchronized
  clear B
  subst hsz
  have hD := hD0.self (sz := s.heap.size)
  generalize hAe : va_A (wC y a z) s.heap.size = A at hD hg ⊢
  have hA : ∀ q : Nat, s.heap.size ≤ q → A q := fun q h => by rw [← hAe]; exact Or.inr h
  clear hAe hD0
  have hl := lv_entry ([.int x0]) (n := 1) (Nat.le_of_ble_eq_true rfl)
  rw [lg_entry_eq]
  generalize (lg_sl ([.int x0]) ++ List.replicate (1 - (lg_sl ([.int x0])).length) Slot.unset).toArray = ls at hl ⊢
  replace hl : lv_has ls 1 [(0, .int x0)] := hl
  refine zz_go (w := wC y a) hP hD va_S.rf hl (fun G hG => ?_)
  clear hP hD hl ls
  rw [hG]
  intro H locs ls hP hD hS hl
  unfold mX10_isMonth at hm
  refine lv_iload_n hx hb dX10_isMonth_0 rfl (lv_at hl 0 rfl) ?_
  refine lv_iconst (v := (0 : Int32)) hx hb dX10_isMonth_1 (by decide) ?_
  refine lv_bipush (v := (23 : Int32)) hx hb dX10_isMonth_2 (by decide) ?_
  obtain ⟨r1, h2, hm⟩ := zz_b1_some hm
  refine zz_calli (zz_runS (w := wC y a) (As := [.int x0, .int (0 : Int32), .int (23 : Int32)]) (rest := []) ⟨hx, hb, hml, hown, hts⟩ (zX10_isWithin l D y a H.size x0 (0 : Int32) (23 : Int32) z h2) (va_cwS 3 hts gX10_isMonth_X10_isWithin rfl rfl rfl zdX10_isWithin ⟨Nat.le_of_ble_eq_true rfl, Nat.le_of_ble_eq_true rfl⟩) hK hN hg hP hD hS hA rfl hl.1 rfl (Nat.le_of_ble_eq_true rfl) dX10_isMonth_4 ⟨Nat.le_of_ble_eq_true rfl, Nat.le_of_ble_eq_true rfl⟩) hD hS hA (fun H locs hP hD hS => ?_)
  obtain ⟨c3, hm⟩ := zz_ck_some hm
  exact zz_zret hx hb hr hlocks c3 ⟨zz_some1 hm, rfl⟩ hP hK hD hS dX10_isMonth_7
def mX6_latest (fk : Nat) (x1 : Int32) (z : zz_M) : Option Int32 := zz_ck (zz_in x1 24) (some (z.1 (16 + 3 * fk + 2) x1.toNatClampNeg))
theorem nX6_latest_X6 : ∀ w ∈ wsX60, w ∈ wsX6_latest := fun _ h => List.mem_cons_of_mem _ (List.mem_append_right _ (h))
theorem zdX6_latest : yX6_latest.cls = RX6 ∧ yX6_latest.cls ≠ "java/lang/invoke/MethodHandle" ∧ yX6_latest.cls ≠ "java/lang/invoke/VarHandle" ∧ (parseMethodDescriptor yX6_latest.desc).map (fun d => d.parameters.length) = some 1 := by decide +kernel
set_option maxHeartbeats 4000000 in
set_option maxRecDepth 100000 in
theorem zX6_latest (l : Launch) (D : va_G) (y : Nat → ClassId) (a : Nat → Nat) (sz : Nat) (fk : Nat) (x1 : Int32) (hfk : fk < 12) (z : zz_M) {r : Int32} (hm : mX6_latest fk x1 z = some r) : Met l yX6_latest wsX6_latest { frames := 0, cells := 0, slots := 0, locals := 0 } (zz_Pc D y (wC y a z) sz [.ref (a (16 + 3 * fk)), .int x1]) (zz_Qi D y (wC y a) (va_A (wC y a z) sz) r z) 0 0 (va_A (wC y a z) sz) := by
  refine Met.ofW (cc := cX6_latest) (maxL := 2) (ret := (some .int)) (by decide) rfl ?_
  intro p e s m args below meth c s₁ B hml hv
  obtain ⟨rfl, hsz, hP, hK, hD0, hN, hg⟩ := hv
  have hx := B.exec
  have hb := B.bytes
  have hr := B.returns
  have hts := atoms_spec (ws := wsX6_latest) B.pre
  have hown : s.vm.findClass RX6 = some m.cls := findClass_of_methodNamed B.named
  have hlocks := B.notSynchronized
  clear B
  subst hsz
  have hD := hD0.self (sz := s.heap.size)
  generalize hAe : va_A (wC y a z) s.heap.size = A at hD hg ⊢
  have hA : ∀ q : Nat, s.heap.size ≤ q → A q := fun q h => by rw [← hAe]; exact Or.inr h
  clear hAe hD0
  have hl := lv_entry ([.ref (a (16 + 3 * fk)), .int x1]) (n := 2) (Nat.le_of_ble_eq_true rfl)
  rw [lg_entry_eq]
  generalize (lg_sl ([.ref (a (16 + 3 * fk)), .int x1]) ++ List.replicate (2 - (lg_sl ([.ref (a (16 + 3 * fk)), .int x1])).length) Slot.unset).toArray = ls at hl ⊢
  replace hl : lv_has ls 2 [(0, .ref (a (16 + 3 * fk))), (1, .int x1)] := hl
  refine zz_go (w := wC y a) hP hD va_S.rf hl (fun G hG => ?_)
  clear hP hD hl ls
  rw [hG]
  intro H locs ls hP hD hS hl
  unfold mX6_latest at hm
  refine lv_aload_n hx hb dX6_latest_0 rfl (lv_at hl 0 rfl) ?_
  refine va_get (D := D) (ci := 6) (v := .ref (a (16 + 3 * fk + 2))) (C := RX6) (T := TX6) (N := 3) hx hb hts nX6_latest_X6 hown hK hP (16 + 3 * fk) (wC_ser y a z fk hfk) rfl 1 (by decide) (hts (.fieldLink RX6 15 "WorksDesk$Series" "standing" "[I") (List.mem_of_getElem? (i := 1) rfl)) (fun _ h9 => h9) rfl dX6_latest_1 ?_
  refine lv_iload_n hx hb dX6_latest_4 rfl (lv_at hl 1 rfl) ?_
  obtain ⟨c1, hm⟩ := zz_ck_some hm
  refine va_iald hx hb hK hP (16 + 3 * fk + 2) 0 (wC_serA2 y a z fk hfk) rfl c1 dX6_latest_5 ?_
  exact zz_iret hx hb hr hlocks ⟨zz_some1 hm, rfl⟩ hP hK hD hS dX6_latest_6
def mX2_done (x1 : Int32) (x2 : Int32) (z : zz_M) : Option Int32 := zz_ck (zz_in x1 10) (zz_b1 (mX6_latest x1.toNatClampNeg x2 z) (fun r2 => some r2))
theorem nX2_done_X2 : ∀ w ∈ wsX20, w ∈ wsX2_done := fun _ h => List.mem_cons_of_mem _ (List.mem_append_left _ (List.mem_append_right _ (h)))
theorem zdX2_done : yX2_done.cls = RX2 ∧ yX2_done.cls ≠ "java/lang/invoke/MethodHandle" ∧ yX2_done.cls ≠ "java/lang/invoke/VarHandle" ∧ (parseMethodDescriptor yX2_done.desc).map (fun d => d.parameters.length) = some 2 := by decide +kernel
set_option maxHeartbeats 4000000 in
set_option maxRecDepth 100000 in
theorem zX2_done (l : Launch) (D : va_G) (y : Nat → ClassId) (a : Nat → Nat) (sz : Nat) (x1 : Int32) (x2 : Int32) (z : zz_M) {r : Int32} (hm : mX2_done x1 x2 z = some r) : Met l yX2_done wsX2_done { frames := 1, cells := 0, slots := 0, locals := 21 } (zz_Pc D y (wC y a z) sz [.ref (a 8), .int x1, .int x2]) (zz_Qi D y (wC y a) (va_A (wC y a z) sz) r z) 0 0 (va_A (wC y a z) sz) := by
  refine Met.ofW (cc := cX2_done) (maxL := 3) (ret := (some .int)) (by decide) rfl ?_
  intro p e s m args below meth c s₁ B hml hv
  obtain ⟨rfl, hsz, hP, hK, hD0, hN, hg⟩ := hv
  have hx := B.exec
  have hb := B.bytes
  have hr := B.returns
  have hts := atoms_spec (ws := wsX2_done) B.pre
  have hown : s.vm.findClass RX2 = some m.cls := findClass_of_methodNamed B.named
  have hlocks := B.notSynchronized
  clear B
  subst hsz
  have hD := hD0.self (sz := s.heap.size)
  generalize hAe : va_A (wC y a z) s.heap.size = A at hD hg ⊢
  have hA : ∀ q : Nat, s.heap.size ≤ q → A q := fun q h => by rw [← hAe]; exact Or.inr h
  clear hAe hD0
  have hl := lv_entry ([.ref (a 8), .int x1, .int x2]) (n := 3) (Nat.le_of_ble_eq_true rfl)
  rw [lg_entry_eq]
  generalize (lg_sl ([.ref (a 8), .int x1, .int x2]) ++ List.replicate (3 - (lg_sl ([.ref (a 8), .int x1, .int x2])).length) Slot.unset).toArray = ls at hl ⊢
  replace hl : lv_has ls 3 [(0, .ref (a 8)), (1, .int x1), (2, .int x2)] := hl
  refine zz_go (w := wC y a) hP hD va_S.rf hl (fun G hG => ?_)
  clear hP hD hl ls
  rw [hG]
  intro H locs ls hP hD hS hl
  unfold mX2_done at hm
  refine lv_aload_n hx hb dX2_done_0 rfl (lv_at hl 0 rfl) ?_
  refine va_get (D := D) (ci := 2) (v := .ref (a 15)) (C := RX2) (T := TX2) (N := 12) hx hb hts nX2_done_X2 hown hK hP 8 (wC_8 y a z) rfl 2 (by decide) (hts (.fieldLink RX2 27 "WorksDesk$Book" "measured" "[LWorksDesk$Series;") (List.mem_of_getElem? (i := 1) rfl)) (fun _ h9 => h9) rfl dX2_done_1 ?_
  refine lv_iload_n hx hb dX2_done_4 rfl (lv_at hl 1 rfl) ?_
  obtain ⟨c1, hm⟩ := zz_ck_some hm
  refine va_aldq (C := RX6) hx hb hK hP 15 3 (wC_15 y a z) rfl c1 dX2_done_5 ?_
  refine W.eq (g2 := F0 m 6 ls [.ref (a (16 + 3 * x1.toNatClampNeg))]) rfl ?_
  refine lv_iload_n hx hb dX2_done_6 rfl (lv_at hl 2 rfl) ?_
  obtain ⟨r2, h3, hm⟩ := zz_b1_some hm
  refine zz_calli (zz_runV (w := wC y a) (As := [.int x2]) (rest := []) ⟨hx, hb, hml, hown, hts⟩ (zX6_latest l D y a H.size x1.toNatClampNeg x2 (zz_lt c1 (by decide)) z h3) (cwV 1 hts gX2_done_X6_latest rfl rfl rfl zdX6_latest ⟨Nat.le_of_ble_eq_true rfl, Nat.le_of_ble_eq_true rfl⟩) hK hN hg hP hD hS hA (16 + 3 * x1.toNatClampNeg) (wC_ser y a z x1.toNatClampNeg (zz_lt c1 (by decide))) rfl rfl hl.1 rfl (Nat.le_of_ble_eq_true rfl) dX2_done_7 ⟨Nat.le_of_ble_eq_true rfl, Nat.le_of_ble_eq_true rfl⟩) hD hS hA (fun H locs hP hD hS => ?_)
  exact zz_iret hx hb hr hlocks ⟨zz_some1 hm, rfl⟩ hP hK hD hS dX2_done_10
def mX10_thousandths (x0 : Int32) (x1 : Int64) : Option Int64 := zz_ck (¬ (1000 : Int64) = (0 : Int64)) (some ((x1 * x0.toInt64) / (1000 : Int64)))
theorem zdX10_thousandths : yX10_thousandths.cls ≠ "java/lang/invoke/MethodHandle" ∧ yX10_thousandths.cls ≠ "java/lang/invoke/VarHandle" ∧ (parseMethodDescriptor yX10_thousandths.desc).map (fun d => d.parameters.length) = some 2 := by decide +kernel
set_option maxHeartbeats 4000000 in
set_option maxRecDepth 100000 in
theorem zX10_thousandths (l : Launch) (D : va_G) (y : Nat → ClassId) (a : Nat → Nat) (sz : Nat) (x0 : Int32) (x1 : Int64) (z : zz_M) {r : Int64} (hm : mX10_thousandths x0 x1 = some r) : Met l yX10_thousandths wsX10_thousandths { frames := 0, cells := 0, slots := 0, locals := 0 } (zz_Pc D y (wC y a z) sz [.int x0, .long x1]) (zz_Ql D y (wC y a) (va_A (wC y a z) sz) r z) 0 0 (va_A (wC y a z) sz) := by
  refine Met.ofW (cc := cX10_thousandths) (maxL := 3) (ret := (some .long)) (by decide) rfl ?_
  intro p e s m args below meth c s₁ B hml hv
  obtain ⟨rfl, hsz, hP, hK, hD0, hN, hg⟩ := hv
  have hx := B.exec
  have hb := B.bytes
  have hr := B.returns
  have hts := atoms_spec (ws := wsX10_thousandths) B.pre
  have hown : s.vm.findClass RX10 = some m.cls := findClass_of_methodNamed B.named
  have hlocks := B.notSynchronized
  clear B
  subst hsz
  have hD := hD0.self (sz := s.heap.size)
  generalize hAe : va_A (wC y a z) s.heap.size = A at hD hg ⊢
  have hA : ∀ q : Nat, s.heap.size ≤ q → A q := fun q h => by rw [← hAe]; exact Or.inr h
  clear hAe hD0
  have hl := lv_entry ([.int x0, .long x1]) (n := 3) (Nat.le_of_ble_eq_true rfl)
  rw [lg_entry_eq]
  generalize (lg_sl ([.int x0, .long x1]) ++ List.replicate (3 - (lg_sl ([.int x0, .long x1])).length) Slot.unset).toArray = ls at hl ⊢
  replace hl : lv_has ls 3 [(0, .int x0), (1, .long x1)] := hl
  refine zz_go (w := wC y a) hP hD va_S.rf hl (fun G hG => ?_)
  clear hP hD hl ls
  rw [hG]
  intro H locs ls hP hD hS hl
  unfold mX10_thousandths at hm
  refine lv_lload_n hx hb dX10_thousandths_0 rfl (lv_at hl 1 rfl) ?_
  refine lv_iload_n hx hb dX10_thousandths_1 rfl (lv_at hl 0 rfl) ?_
  refine lv_i2l hx hb dX10_thousandths_2 rfl ?_
  refine lv_lmul hx hb dX10_thousandths_3 ?_
  refine lv_ldc2 (v := (1000 : Int64)) hx hb hown (hts (.constantLong RX10 377 (1000)) (List.mem_of_getElem? (i := 1) rfl)) dX10_thousandths_4 ?_
  obtain ⟨c1, hm⟩ := zz_ck_some hm
  refine lv_ldiv hx hb dX10_thousandths_7 c1 ?_
  exact zz_lret hx hb hr hlocks ⟨zz_some1 hm, rfl⟩ hP hK hD hS dX10_thousandths_8
def mX8_of (x1 : Int32) (z : zz_M) : Option Int32 := zz_ck (zz_in x1 14) (some (z.1 14 x1.toNatClampNeg))
theorem nX8_of_X8 : ∀ w ∈ wsX80, w ∈ wsX8_of := fun _ h => List.mem_cons_of_mem _ (List.mem_append_right _ (h))
theorem zdX8_of : yX8_of.cls = RX8 ∧ yX8_of.cls ≠ "java/lang/invoke/MethodHandle" ∧ yX8_of.cls ≠ "java/lang/invoke/VarHandle" ∧ (parseMethodDescriptor yX8_of.desc).map (fun d => d.parameters.length) = some 1 := by decide +kernel
set_option maxHeartbeats 4000000 in
set_option maxRecDepth 100000 in
theorem zX8_of (l : Launch) (D : va_G) (y : Nat → ClassId) (a : Nat → Nat) (sz : Nat) (x1 : Int32) (z : zz_M) {r : Int32} (hm : mX8_of x1 z = some r) : Met l yX8_of wsX8_of { frames := 0, cells := 0, slots := 0, locals := 0 } (zz_Pc D y (wC y a z) sz [.ref (a 13), .int x1]) (zz_Qi D y (wC y a) (va_A (wC y a z) sz) r z) 0 0 (va_A (wC y a z) sz) := by
  refine Met.ofW (cc := cX8_of) (maxL := 2) (ret := (some .int)) (by decide) rfl ?_
  intro p e s m args below meth c s₁ B hml hv
  obtain ⟨rfl, hsz, hP, hK, hD0, hN, hg⟩ := hv
  have hx := B.exec
  have hb := B.bytes
  have hr := B.returns
  have hts := atoms_spec (ws := wsX8_of) B.pre
  have hown : s.vm.findClass RX8 = some m.cls := findClass_of_methodNamed B.named
  have hlocks := B.notSynchronized
  clear B
  subst hsz
  have hD := hD0.self (sz := s.heap.size)
  generalize hAe : va_A (wC y a z) s.heap.size = A at hD hg ⊢
  have hA : ∀ q : Nat, s.heap.size ≤ q → A q := fun q h => by rw [← hAe]; exact Or.inr h
  clear hAe hD0
  have hl := lv_entry ([.ref (a 13), .int x1]) (n := 2) (Nat.le_of_ble_eq_true rfl)
  rw [lg_entry_eq]
  generalize (lg_sl ([.ref (a 13), .int x1]) ++ List.replicate (2 - (lg_sl ([.ref (a 13), .int x1])).length) Slot.unset).toArray = ls at hl ⊢
  replace hl : lv_has ls 2 [(0, .ref (a 13)), (1, .int x1)] := hl
  refine zz_go (w := wC y a) hP hD va_S.rf hl (fun G hG => ?_)
  clear hP hD hl ls
  rw [hG]
  intro H locs ls hP hD hS hl
  unfold mX8_of at hm
  refine lv_aload_n hx hb dX8_of_0 rfl (lv_at hl 0 rfl) ?_
  refine va_get (D := D) (ci := 8) (v := .ref (a 14)) (C := RX8) (T := TX8) (N := 1) hx hb hts nX8_of_X8 hown hK hP 13 (wC_13 y a z) rfl 0 (by decide) (hts (.fieldLink RX8 9 "WorksDesk$Terms" "values" "[I") (List.mem_of_getElem? (i := 1) rfl)) (fun _ h9 => h9) rfl dX8_of_1 ?_
  refine lv_iload_n hx hb dX8_of_4 rfl (lv_at hl 1 rfl) ?_
  obtain ⟨c1, hm⟩ := zz_ck_some hm
  refine va_iald hx hb hK hP 14 0 (wC_14 y a z) rfl c1 dX8_of_5 ?_
  exact zz_iret hx hb hr hlocks ⟨zz_some1 hm, rfl⟩ hP hK hD hS dX8_of_6
def mX2_cap (x1 : Int32) (z : zz_M) : Option Int64 := zz_ck (zz_in x1 10) (zz_nm (z.1 11 x1.toNatClampNeg) (fun n2 => zz_b1 (mX8_of (9 : Int32) z) (fun r3 => zz_b1 (mX10_thousandths r3 n2.toInt64) (fun r5 => some (n2.toInt64 + r5)))))
theorem nX2_cap_X0 : ∀ w ∈ wsX00, w ∈ wsX2_cap := fun _ h => List.mem_cons_of_mem _ (List.mem_append_left _ (List.mem_append_right _ (h)))
theorem nX2_cap_X2 : ∀ w ∈ wsX20, w ∈ wsX2_cap := fun _ h => List.mem_cons_of_mem _ (List.mem_append_left _ (List.mem_append_left _ (List.mem_append_right _ (h))))
theorem zdX2_cap : yX2_cap.cls = RX2 ∧ yX2_cap.cls ≠ "java/lang/invoke/MethodHandle" ∧ yX2_cap.cls ≠ "java/lang/invoke/VarHandle" ∧ (parseMethodDescriptor yX2_cap.desc).map (fun d => d.parameters.length) = some 1 := by decide +kernel
set_option maxHeartbeats 4000000 in
set_option maxRecDepth 100000 in
theorem zX2_cap (l : Launch) (D : va_G) (y : Nat → ClassId) (a : Nat → Nat) (sz : Nat) (x1 : Int32) (z : zz_M) {r : Int64} (hm : mX2_cap x1 z = some r) : Met l yX2_cap wsX2_cap { frames := 1, cells := 0, slots := 0, locals := 22 } (zz_Pc D y (wC y a z) sz [.ref (a 8), .int x1]) (zz_Ql D y (wC y a) (va_A (wC y a z) sz) r z) 0 0 (va_A (wC y a z) sz) := by
  refine Met.ofW (cc := cX2_cap) (maxL := 3) (ret := (some .long)) (by decide) rfl ?_
  intro p e s m args below meth c s₁ B hml hv
  obtain ⟨rfl, hsz, hP, hK, hD0, hN, hg⟩ := hv
  have hx := B.exec
  have hb := B.bytes
  have hr := B.returns
  have hts := atoms_spec (ws := wsX2_cap) B.pre
  have hown : s.vm.findClass RX2 = some m.cls := findClass_of_methodNamed B.named
  have hlocks := B.notSynchronized
  clear B
  subst hsz
  have hD := hD0.self (sz := s.heap.size)
  generalize hAe : va_A (wC y a z) s.heap.size = A at hD hg ⊢
  have hA : ∀ q : Nat, s.heap.size ≤ q → A q := fun q h => by rw [← hAe]; exact Or.inr h
  clear hAe hD0
  have hl := lv_entry ([.ref (a 8), .int x1]) (n := 3) (Nat.le_of_ble_eq_true rfl)
  rw [lg_entry_eq]
  generalize (lg_sl ([.ref (a 8), .int x1]) ++ List.replicate (3 - (lg_sl ([.ref (a 8), .int x1])).length) Slot.unset).toArray = ls at hl ⊢
  replace hl : lv_has ls 3 [(0, .ref (a 8)), (1, .int x1)] := hl
  refine zz_go (w := wC y a) hP hD va_S.rf hl (fun G hG => ?_)
  clear hP hD hl ls
  rw [hG]
  intro H locs ls hP hD hS hl
  unfold mX2_cap at hm
  refine lv_aload_n hx hb dX2_cap_0 rfl (lv_at hl 0 rfl) ?_
  refine va_get (D := D) (ci := 2) (v := .ref (a 9)) (C := RX2) (T := TX2) (N := 12) hx hb hts nX2_cap_X2 hown hK hP 8 (wC_8 y a z) rfl 0 (by decide) (hts (.fieldLink RX2 12 "WorksDesk$Book" "items" "LWorksDesk$Bill;") (List.mem_of_getElem? (i := 1) rfl)) (fun _ h9 => h9) rfl dX2_cap_1 ?_
  refine va_get (D := D) (ci := 0) (v := .ref (a 11)) (C := RX0) (T := TX0) (N := 5) hx hb hts nX2_cap_X0 hown hK hP 9 (wC_bill y a z 9 (Or.inr rfl)) rfl 1 (by decide) (hts (.fieldLink RX2 111 "WorksDesk$Bill" "quantities" "[I") (List.mem_of_getElem? (i := 2) rfl)) (fun _ h9 => h9) rfl dX2_cap_4 ?_
  refine lv_iload_n hx hb dX2_cap_7 rfl (lv_at hl 1 rfl) ?_
  obtain ⟨c1, hm⟩ := zz_ck_some hm
  refine va_iald hx hb hK hP 11 0 (wC_billA2 y a z 9 (Or.inr rfl)) rfl c1 dX2_cap_8 ?_
  refine lv_topi (fun n2 en2 => ?_)
  replace hm := zz_nm_some en2 hm
  refine lv_istore_n (lv' := [(2, .int n2), (0, .ref (a 8)), (1, .int x1)]) hx hb dX2_cap_9 rfl hl (by decide) rfl (fun ls hl => ?_)
  refine lv_iload_n hx hb dX2_cap_10 rfl (lv_at hl 0 rfl) ?_
  refine lv_i2l hx hb dX2_cap_11 rfl ?_
  refine lv_aload_n hx hb dX2_cap_12 rfl (lv_at hl 1 rfl) ?_
  refine va_get (D := D) (ci := 2) (v := .ref (a 13)) (C := RX2) (T := TX2) (N := 12) hx hb hts nX2_cap_X2 hown hK hP 8 (wC_8 y a z) rfl 1 (by decide) (hts (.fieldLink RX2 21 "WorksDesk$Book" "clauses" "LWorksDesk$Terms;") (List.mem_of_getElem? (i := 3) rfl)) (fun _ h9 => h9) rfl dX2_cap_13 ?_
  refine lv_bipush (v := (9 : Int32)) hx hb dX2_cap_16 (by decide) ?_
  obtain ⟨r3, h4, hm⟩ := zz_b1_some hm
  refine zz_calli (zz_runV (w := wC y a) (As := [.int (9 : Int32)]) (rest := [.long n2.toInt64]) ⟨hx, hb, hml, hown, hts⟩ (zX8_of l D y a H.size (9 : Int32) z h4) (cwV 1 hts gX2_cap_X8_of rfl rfl rfl zdX8_of ⟨Nat.le_of_ble_eq_true rfl, Nat.le_of_ble_eq_true rfl⟩) hK hN hg hP hD hS hA 13 (wC_13 y a z) rfl rfl hl.1 rfl (Nat.le_of_ble_eq_true rfl) dX2_cap_18 ⟨Nat.le_of_ble_eq_true rfl, Nat.le_of_ble_eq_true rfl⟩) hD hS hA (fun H locs hP hD hS => ?_)
  refine lv_iload_n hx hb dX2_cap_21 rfl (lv_at hl 0 rfl) ?_
  refine lv_i2l hx hb dX2_cap_22 rfl ?_
  obtain ⟨r5, h6, hm⟩ := zz_b1_some hm
  refine zz_calll (zz_runSN (w := wC y a) (As := [.int r3, .long n2.toInt64]) (rest := [.long n2.toInt64]) ⟨hx, hb, hml, hown, hts⟩ (zX10_thousandths l D y a H.size r3 n2.toInt64 z h6) ⟨va_cnB 2 hts gX2_cap_X10_thousandths_n104 rfl rfl rfl (hN _ (List.mem_of_getElem? (i := 7) rfl)) (hts (.initialized RX10) (List.mem_of_getElem? (i := 11) rfl)) zdX10_thousandths ⟨Nat.le_of_ble_eq_true rfl, Nat.le_of_ble_eq_true rfl⟩, (hts (.static yX10_thousandths) (List.mem_of_getElem? (i := 10) rfl)), trivial⟩ hK hN hg hP hD hS hA rfl hl.1 rfl (Nat.le_of_ble_eq_true rfl) dX2_cap_23 ⟨Nat.le_of_ble_eq_true rfl, Nat.le_of_ble_eq_true rfl⟩) hD hS hA (fun H locs hP hD hS => ?_)
  refine lv_ladd hx hb dX2_cap_26 ?_
  exact zz_lret hx hb hr hlocks ⟨zz_some1 hm, rfl⟩ hP hK hD hS dX2_cap_27
def mX2_isAboveCap_b21 (z : zz_M) (t0 : Int32) : Option Int32 := zz_ck (zz_bool t0) (some t0)
def mX2_isAboveCap (x1 : Int32) (x2 : Int32) (z : zz_M) : Option Int32 := zz_b1 (mX2_done x1 x2 z) (fun r2 => zz_b1 (mX2_cap x1 z) (fun r4 => if (lg_cmp r2.toInt64 r4) ≤ (0 : Int32) then (mX2_isAboveCap_b21 z (0 : Int32)) else (mX2_isAboveCap_b21 z (1 : Int32))))
theorem zdX2_isAboveCap : yX2_isAboveCap.cls = RX2 ∧ yX2_isAboveCap.cls ≠ "java/lang/invoke/MethodHandle" ∧ yX2_isAboveCap.cls ≠ "java/lang/invoke/VarHandle" ∧ (parseMethodDescriptor yX2_isAboveCap.desc).map (fun d => d.parameters.length) = some 2 := by decide +kernel
set_option maxHeartbeats 4000000 in
set_option maxRecDepth 100000 in
theorem zX2_isAboveCap (l : Launch) (D : va_G) (y : Nat → ClassId) (a : Nat → Nat) (sz : Nat) (x1 : Int32) (x2 : Int32) (z : zz_M) {r : Int32} (hm : mX2_isAboveCap x1 x2 z = some r) : Met l yX2_isAboveCap wsX2_isAboveCap { frames := 2, cells := 0, slots := 0, locals := 44 } (zz_Pc D y (wC y a z) sz [.ref (a 8), .int x1, .int x2]) (zz_Qi D y (wC y a) (va_A (wC y a z) sz) r z) 0 0 (va_A (wC y a z) sz) := by
  refine Met.ofW (cc := cX2_isAboveCap) (maxL := 3) (ret := (some .boolean)) (by decide) rfl ?_
  intro p e s m args below meth c s₁ B hml hv
  obtain ⟨rfl, hsz, hP, hK, hD0, hN, hg⟩ := hv
  have hx := B.exec
  have hb := B.bytes
  have hr := B.returns
  have hts := atoms_spec (ws := wsX2_isAboveCap) B.pre
  have hown : s.vm.findClass RX2 = some m.cls := findClass_of_methodNamed B.named
  have hlocks := B.notSynchronized
  clear B
  subst hsz
  have hD := hD0.self (sz := s.heap.size)
  generalize hAe : va_A (wC y a z) s.heap.size = A at hD hg ⊢
  have hA : ∀ q : Nat, s.heap.size ≤ q → A q := fun q h => by rw [← hAe]; exact Or.inr h
  clear hAe hD0
  have hl := lv_entry ([.ref (a 8), .int x1, .int x2]) (n := 3) (Nat.le_of_ble_eq_true rfl)
  rw [lg_entry_eq]
  generalize (lg_sl ([.ref (a 8), .int x1, .int x2]) ++ List.replicate (3 - (lg_sl ([.ref (a 8), .int x1, .int x2])).length) Slot.unset).toArray = ls at hl ⊢
  replace hl : lv_has ls 3 [(0, .ref (a 8)), (1, .int x1), (2, .int x2)] := hl
  refine zz_go (w := wC y a) hP hD va_S.rf hl (fun G hG => ?_)
  clear hP hD hl ls
  have J21 : ∀ (t0 : Int32), mX2_isAboveCap_b21 z t0 = some r → G 21 [] [.int t0] z := by
    intro t0 hm
    rw [mX2_isAboveCap_b21] at hm
    rw [hG]
    intro H locs ls hP hD hS hl
    obtain ⟨c1, hm⟩ := zz_ck_some hm
    exact zz_zret hx hb hr hlocks c1 ⟨zz_some1 hm, rfl⟩ hP hK hD hS dX2_isAboveCap_21
  rw [hG]
  intro H locs ls hP hD hS hl
  unfold mX2_isAboveCap at hm
  refine lv_aload_n hx hb dX2_isAboveCap_0 rfl (lv_at hl 0 rfl) ?_
  refine lv_iload_n hx hb dX2_isAboveCap_1 rfl (lv_at hl 1 rfl) ?_
  refine lv_iload_n hx hb dX2_isAboveCap_2 rfl (lv_at hl 2 rfl) ?_
  obtain ⟨r2, h3, hm⟩ := zz_b1_some hm
  refine zz_calli (zz_runV (w := wC y a) (As := [.int x1, .int x2]) (rest := []) ⟨hx, hb, hml, hown, hts⟩ (zX2_done l D y a H.size x1 x2 z h3) (cwV 2 hts gX2_isAboveCap_X2_done rfl rfl rfl zdX2_done ⟨Nat.le_of_ble_eq_true rfl, Nat.le_of_ble_eq_true rfl⟩) hK hN hg hP hD hS hA 8 (wC_8 y a z) rfl rfl hl.1 rfl (Nat.le_of_ble_eq_true rfl) dX2_isAboveCap_3 ⟨Nat.le_of_ble_eq_true rfl, Nat.le_of_ble_eq_true rfl⟩) hD hS hA (fun H locs hP hD hS => ?_)
  refine lv_i2l hx hb dX2_isAboveCap_6 rfl ?_
  refine lv_aload_n hx hb dX2_isAboveCap_7 rfl (lv_at hl 0 rfl) ?_
  refine lv_iload_n hx hb dX2_isAboveCap_8 rfl (lv_at hl 1 rfl) ?_
  obtain ⟨r4, h5, hm⟩ := zz_b1_some hm
  refine zz_calll (zz_runV (w := wC y a) (As := [.int x1]) (rest := [.long r2.toInt64]) ⟨hx, hb, hml, hown, hts⟩ (zX2_cap l D y a H.size x1 z h5) (cwV 1 hts gX2_isAboveCap_X2_cap rfl rfl rfl zdX2_cap ⟨Nat.le_of_ble_eq_true rfl, Nat.le_of_ble_eq_true rfl⟩) hK hN hg hP hD hS hA 8 (wC_8 y a z) rfl rfl hl.1 rfl (Nat.le_of_ble_eq_true rfl) dX2_isAboveCap_9 ⟨Nat.le_of_ble_eq_true rfl, Nat.le_of_ble_eq_true rfl⟩) hD hS hA (fun H locs hP hD hS => ?_)
  refine W.lcmp hx hb dX2_isAboveCap_12 ?_
  refine lv_if_le (tgt := 20) hx hb dX2_isAboveCap_13 (by decide) (fun c6 => ?_) (fun c6 => ?_)
  · replace hm := zz_pos c6 hm
    refine lv_iconst (v := (0 : Int32)) hx hb dX2_isAboveCap_20 (by decide) ?_
    have j := J21 (0 : Int32) hm
    rw [hG] at j
    exact j H locs ls hP hD hS (lv_sub hl [] rfl)
  · replace hm := zz_neg c6 hm
    refine lv_iconst (v := (1 : Int32)) hx hb dX2_isAboveCap_16 (by decide) ?_
    refine lv_goto (tgt := 21) hx hb dX2_isAboveCap_17 (by decide) ?_
    have j := J21 (1 : Int32) hm
    rw [hG] at j
    exact j H locs ls hP hD hS (lv_sub hl [] rfl)
def mX5_then_b28 (z : zz_M) : Option (Unit × zz_M) := some ((), z)
def mX5_then (x1 : Int64) (z : zz_M) : Option (Unit × zz_M) := if (5 : Int32) ≤ (z.2.2.1 6337) then (mX5_then_b28 z) else (zz_ck (zz_in (z.2.2.1 6337) 5) (zz_nm (zz_wJ z 100 (z.2.2.1 6337) x1) (fun z3 => zz_nm (zz_sF z3 6337 ((z3.2.2.1 6337) + (1 : Int32))) (fun z4 => mX5_then_b28 z4))))
theorem nX5_then_X5 : ∀ w ∈ wsX50, w ∈ wsX5_then := fun _ h => List.mem_cons_of_mem _ (List.mem_append_right _ (h))
theorem zdX5_then : yX5_then.cls = RX5 ∧ yX5_then.cls ≠ "java/lang/invoke/MethodHandle" ∧ yX5_then.cls ≠ "java/lang/invoke/VarHandle" ∧ (parseMethodDescriptor yX5_then.desc).map (fun d => d.parameters.length) = some 1 := by decide +kernel
set_option maxHeartbeats 4000000 in
set_option maxRecDepth 100000 in
theorem zX5_then (l : Launch) (D : va_G) (y : Nat → ClassId) (a : Nat → Nat) (sz : Nat) (x1 : Int64) (z : zz_M) {r : Unit} {zt : zz_M} (hm : mX5_then x1 z = some (r, zt)) : Met l yX5_then wsX5_then { frames := 0, cells := 0, slots := 0, locals := 0 } (zz_Pc D y (wC y a z) sz [.ref (a 99), .long x1]) (zz_Qr D y (wC y a) (va_A (wC y a z) sz) (a 99) zt) 0 0 (va_A (wC y a z) sz) := by
  refine Met.ofW (cc := cX5_then) (maxL := 3) (ret := (some (.object "WorksDesk$Row"))) (by decide) rfl ?_
  intro p e s m args below meth c s₁ B hml hv
  obtain ⟨rfl, hsz, hP, hK, hD0, hN, hg⟩ := hv
  have hx := B.exec
  have hb := B.bytes
  have hr := B.returns
  have hts := atoms_spec (ws := wsX5_then) B.pre
  have hown : s.vm.findClass RX5 = some m.cls := findClass_of_methodNamed B.named
  have hlocks := B.notSynchronized
  clear B
  subst hsz
  have hD := hD0.self (sz := s.heap.size)
  generalize hAe : va_A (wC y a z) s.heap.size = A at hD hg ⊢
  have hA : ∀ q : Nat, s.heap.size ≤ q → A q := fun q h => by rw [← hAe]; exact Or.inr h
  clear hAe hD0
  have hl := lv_entry ([.ref (a 99), .long x1]) (n := 3) (Nat.le_of_ble_eq_true rfl)
  rw [lg_entry_eq]
  generalize (lg_sl ([.ref (a 99), .long x1]) ++ List.replicate (3 - (lg_sl ([.ref (a 99), .long x1])).length) Slot.unset).toArray = ls at hl ⊢
  replace hl : lv_has ls 3 [(0, .ref (a 99)), (1, .long x1)] := hl
  refine zz_go (w := wC y a) hP hD va_S.rf hl (fun G hG => ?_)
  clear hP hD hl ls
  have J28 : ∀ (z : zz_M), mX5_then_b28 z = some (r, zt) → G 28 [(0, .ref (a 99))] [] z := by
    intro z hm
    rw [mX5_then_b28] at hm
    rw [hG]
    intro H locs ls hP hD hS hl
    refine lv_aload_n hx hb dX5_then_28 rfl (lv_at hl 0 rfl) ?_
    exact zz_aret hx hb hr hlocks ⟨rfl, (zz_some2 hm).2⟩ hP hK hD hS dX5_then_29
  rw [hG]
  intro H locs ls hP hD hS hl
  unfold mX5_then at hm
  refine lv_aload_n hx hb dX5_then_0 rfl (lv_at hl 0 rfl) ?_
  refine va_get (D := D) (ci := 5) (v := .int (z.2.2.1 6337)) (C := RX5) (T := TX5) (N := 2) hx hb hts nX5_then_X5 hown hK hP 99 (wC_99 y a z) rfl 1 (by decide) (hts (.fieldLink RX5 13 "WorksDesk$Row" "size" "I") (List.mem_of_getElem? (i := 1) rfl)) (fun _ h9 => h9) rfl dX5_then_1 ?_
  refine lv_iconst (v := (5 : Int32)) hx hb dX5_then_4 (by decide) ?_
  refine lv_icmp_ge (tgt := 28) hx hb dX5_then_5 (by decide) (fun c1 => ?_) (fun c1 => ?_)
  · replace hm := zz_pos c1 hm
    have j := J28 z hm
    rw [hG] at j
    exact j H locs ls hP hD hS (lv_sub hl [0] rfl)
  · replace hm := zz_neg c1 hm
    refine lv_aload_n hx hb dX5_then_8 rfl (lv_at hl 0 rfl) ?_
    refine va_get (D := D) (ci := 5) (v := .ref (a 100)) (C := RX5) (T := TX5) (N := 2) hx hb hts nX5_then_X5 hown hK hP 99 (wC_99 y a z) rfl 0 (by decide) (hts (.fieldLink RX5 9 "WorksDesk$Row" "numbers" "[J") (List.mem_of_getElem? (i := 2) rfl)) (fun _ h9 => h9) rfl dX5_then_9 ?_
    refine lv_aload_n hx hb dX5_then_12 rfl (lv_at hl 0 rfl) ?_
    refine va_get (D := D) (ci := 5) (v := .int (z.2.2.1 6337)) (C := RX5) (T := TX5) (N := 2) hx hb hts nX5_then_X5 hown hK hP 99 (wC_99 y a z) rfl 1 (by decide) (hts (.fieldLink RX5 13 "WorksDesk$Row" "size" "I") (List.mem_of_getElem? (i := 1) rfl)) (fun _ h9 => h9) rfl dX5_then_13 ?_
    refine lv_lload_n hx hb dX5_then_16 rfl (lv_at hl 1 rfl) ?_
    obtain ⟨c2, hm⟩ := zz_ck_some hm
    refine va_last hx hb hK hP hD hS 100 1 (wC_100 y a z) rfl c2 dX5_then_17 (fun H locs hP hD hS => ?_)
    obtain ⟨z3, hP, hD, hm⟩ := zz_up (w := wC y a) (wC_w100 y a z (z.2.2.1 6337) x1) hP hD hm
    refine lv_aload_n hx hb dX5_then_18 rfl (lv_at hl 0 rfl) ?_
    refine lv_dup hx hb dX5_then_19 rfl ?_
    refine va_get (D := D) (ci := 5) (v := .int (z3.2.2.1 6337)) (C := RX5) (T := TX5) (N := 2) hx hb hts nX5_then_X5 hown hK hP 99 (wC_99 y a z3) rfl 1 (by decide) (hts (.fieldLink RX5 13 "WorksDesk$Row" "size" "I") (List.mem_of_getElem? (i := 1) rfl)) (fun _ h9 => h9) rfl dX5_then_20 ?_
    refine lv_iconst (v := (1 : Int32)) hx hb dX5_then_23 (by decide) ?_
    refine lv_iadd hx hb dX5_then_24 ?_
    refine va_put (D := D) (ci := 5) (v := .int ((z3.2.2.1 6337) + (1 : Int32))) (ty := .int) (C := RX5) (T := TX5) (N := 2) hx hb hts nX5_then_X5 tyX5 tyX5_ok nmX5 hown hK hP hD hS 99 (wC_99 y a z3) rfl 1 (by decide) (hts (.fieldLink RX5 13 "WorksDesk$Row" "size" "I") (List.mem_of_getElem? (i := 1) rfl)) (fun _ h9 => h9) rfl (tyX5_ok 1 (by decide)) rfl rfl (Nat.le_of_ble_eq_true rfl) dX5_then_25 (fun H locs hP hD hS => ?_)
    obtain ⟨z4, hP, hD, hm⟩ := zz_up (w := wC y a) (wC_f99_1 y a z3 ((z3.2.2.1 6337) + (1 : Int32))) hP hD hm
    have j := J28 z4 hm
    rw [hG] at j
    exact j H locs ls hP hD hS (lv_sub hl [0] rfl)
def mX5_start (x1 : Int64) (z : zz_M) : Option (Unit × zz_M) := zz_nm (zz_sF z 6337 (0 : Int32)) (fun z1 => zz_b2 (mX5_then x1 z1) (fun r2 z4 => some ((), z4)))
theorem nX5_start_X5 : ∀ w ∈ wsX50, w ∈ wsX5_start := fun _ h => List.mem_cons_of_mem _ (List.mem_append_right _ (h))
theorem zdX5_start : yX5_start.cls = RX5 ∧ yX5_start.cls ≠ "java/lang/invoke/MethodHandle" ∧ yX5_start.cls ≠ "java/lang/invoke/VarHandle" ∧ (parseMethodDescriptor yX5_start.desc).map (fun d => d.parameters.length) = some 1 := by decide +kernel
set_option maxHeartbeats 4000000 in
set_option maxRecDepth 100000 in
theorem zX5_start (l : Launch) (D : va_G) (y : Nat → ClassId) (a : Nat → Nat) (sz : Nat) (x1 : Int64) (z : zz_M) {r : Unit} {zt : zz_M} (hm : mX5_start x1 z = some (r, zt)) : Met l yX5_start wsX5_start { frames := 1, cells := 0, slots := 0, locals := 22 } (zz_Pc D y (wC y a z) sz [.ref (a 99), .long x1]) (zz_Qr D y (wC y a) (va_A (wC y a z) sz) (a 99) zt) 0 0 (va_A (wC y a z) sz) := by
  refine Met.ofW (cc := cX5_start) (maxL := 3) (ret := (some (.object "WorksDesk$Row"))) (by decide) rfl ?_
  intro p e s m args below meth c s₁ B hml hv
  obtain ⟨rfl, hsz, hP, hK, hD0, hN, hg⟩ := hv
  have hx := B.exec
  have hb := B.bytes
  have hr := B.returns
  have hts := atoms_spec (ws := wsX5_start) B.pre
  have hown : s.vm.findClass RX5 = some m.cls := findClass_of_methodNamed B.named
  have hlocks := B.notSynchronized
  clear B
  subst hsz
  have hD := hD0.self (sz := s.heap.size)
  generalize hAe : va_A (wC y a z) s.heap.size = A at hD hg ⊢
  have hA : ∀ q : Nat, s.heap.size ≤ q → A q := fun q h => by rw [← hAe]; exact Or.inr h
  clear hAe hD0
  have hl := lv_entry ([.ref (a 99), .long x1]) (n := 3) (Nat.le_of_ble_eq_true rfl)
  rw [lg_entry_eq]
  generalize (lg_sl ([.ref (a 99), .long x1]) ++ List.replicate (3 - (lg_sl ([.ref (a 99), .long x1])).length) Slot.unset).toArray = ls at hl ⊢
  replace hl : lv_has ls 3 [(0, .ref (a 99)), (1, .long x1)] := hl
  refine zz_go (w := wC y a) hP hD va_S.rf hl (fun G hG => ?_)
  clear hP hD hl ls
  rw [hG]
  intro H locs ls hP hD hS hl
  unfold mX5_start at hm
  refine lv_aload_n hx hb dX5_start_0 rfl (lv_at hl 0 rfl) ?_
  refine lv_iconst (v := (0 : Int32)) hx hb dX5_start_1 (by decide) ?_
  refine va_put (D := D) (ci := 5) (v := .int (0 : Int32)) (ty := .int) (C := RX5) (T := TX5) (N := 2) hx hb hts nX5_start_X5 tyX5 tyX5_ok nmX5 hown hK hP hD hS 99 (wC_99 y a z) rfl 1 (by decide) (hts (.fieldLink RX5 13 "WorksDesk$Row" "size" "I") (List.mem_of_getElem? (i := 1) rfl)) (fun _ h9 => h9) rfl (tyX5_ok 1 (by decide)) rfl rfl (Nat.le_of_ble_eq_true rfl) dX5_start_2 (fun H locs hP hD hS => ?_)
  obtain ⟨z1, hP, hD, hm⟩ := zz_up (w := wC y a) (wC_f99_1 y a z (0 : Int32)) hP hD hm
  refine lv_aload_n hx hb dX5_start_5 rfl (lv_at hl 0 rfl) ?_
  refine lv_lload_n hx hb dX5_start_6 rfl (lv_at hl 1 rfl) ?_
  obtain ⟨r2, z4, h3, hm⟩ := zz_b2_some hm
  refine zz_callr (zz_runV (w := wC y a) (As := [.long x1]) (rest := []) ⟨hx, hb, hml, hown, hts⟩ (zX5_then l D y a H.size x1 z1 h3) (cwV 1 hts gX5_start_X5_then rfl rfl rfl zdX5_then ⟨Nat.le_of_ble_eq_true rfl, Nat.le_of_ble_eq_true rfl⟩) hK hN hg hP hD hS hA 99 (wC_99 y a z1) rfl rfl hl.1 rfl (Nat.le_of_ble_eq_true rfl) dX5_start_7 ⟨Nat.le_of_ble_eq_true rfl, Nat.le_of_ble_eq_true rfl⟩) hD hS hA (fun H locs hP hD hS => ?_)
  exact zz_aret hx hb hr hlocks ⟨rfl, (zz_some2 hm).2⟩ hP hK hD hS dX5_start_10
def mX10_above_b130 (k19 : Int32 → Int32 → Int32 → Int32 → Int32 → zz_M → Option (Int32 × zz_M)) (v1 : Int32) (v2 : Int32) (v3 : Int32) (v5 : Int32) (t0 : Int32) (t1 : Int32) (z : zz_M) : Option (Int32 × zz_M) := zz_nm (t1 ||| t0) (fun n1 => zz_nm (v5 + (1 : Int32)) (fun n2 => k19 v1 v2 v3 n1 n2 z))
def mX10_above_b129 (k19 : Int32 → Int32 → Int32 → Int32 → Int32 → zz_M → Option (Int32 × zz_M)) (v1 : Int32) (v2 : Int32) (v3 : Int32) (v5 : Int32) (t0 : Int32) (z : zz_M) : Option (Int32 × zz_M) := mX10_above_b130 k19 v1 v2 v3 v5 (0 : Int32) t0 z
def mX10_above_b99 (k19 : Int32 → Int32 → Int32 → Int32 → Int32 → zz_M → Option (Int32 × zz_M)) (v1 : Int32) (v2 : Int32) (v4 : Int32) (v5 : Int32) (v6 : Int32) (v7 : Int32) (t0 : Int32) (t1 : Int32) (z : zz_M) : Option (Int32 × zz_M) := zz_nm (t1 ||| t0) (fun n3 => if v1 ≤ (0 : Int32) then (mX10_above_b129 k19 v1 v2 n3 v5 v4 z) else (zz_b1 (mX2_done v5 (v1 - (1 : Int32)) z) (fun r5 => if r5 ≤ v7 then (mX10_above_b129 k19 v1 v2 n3 v5 v4 z) else (mX10_above_b130 k19 v1 v2 n3 v5 v6 v4 z))))
def mX10_above_b77 (k19 : Int32 → Int32 → Int32 → Int32 → Int32 → zz_M → Option (Int32 × zz_M)) (v1 : Int32) (v3 : Int32) (v4 : Int32) (v5 : Int32) (v6 : Int32) (v7 : Int32) (t0 : Int32) (t1 : Int32) (z : zz_M) : Option (Int32 × zz_M) := zz_nm (t1 ||| t0) (fun n8 => zz_b1 (mX2_isAboveCap v5 v1 z) (fun r9 => if r9 = (0 : Int32) then (mX10_above_b99 k19 v1 n8 v4 v5 v6 v7 (0 : Int32) v3 z) else (mX10_above_b99 k19 v1 n8 v4 v5 v6 v7 v6 v3 z)))
def mX10_above_b19 : Nat → Int32 → Int32 → Int32 → Int32 → Int32 → zz_M → Option (Int32 × zz_M)
  | 0, _, _, _, _, _, _ => none
  | n + 1, v1, v2, v3, v4, v5, z => if (z.2.2.1 579) ≤ v5 then (zz_b2 (mX5_start v3.toInt64 z) (fun r13 z15 => zz_b2 (mX5_then v4.toInt64 z15) (fun r16 z18 => some (v2, z18)))) else (zz_nm ((1 : Int32) <<< (v5 &&& 31)) (fun n19 => zz_b1 (mX2_done v5 v1 z) (fun r20 => zz_ck (zz_in v5 10) (if r20 ≤ (z.1 11 v5.toNatClampNeg) then (mX10_above_b77 (mX10_above_b19 n) v1 v3 v4 v5 n19 r20 (0 : Int32) v2 z) else (mX10_above_b77 (mX10_above_b19 n) v1 v3 v4 v5 n19 r20 n19 v2 z)))))
def mX10_above (x1 : Int32) (z : zz_M) : Option (Int32 × zz_M) := zz_b1 (mX10_isMonth x1) (fun r24 => if r24 = (0 : Int32) then (some ((-1 : Int32), z)) else (mX10_above_b19 zz_N x1 (0 : Int32) (0 : Int32) (0 : Int32) (0 : Int32) z))
theorem nX10_above_X0 : ∀ w ∈ wsX00, w ∈ wsX10_above := fun _ h => List.mem_cons_of_mem _ (List.mem_append_left _ (List.mem_append_left _ (List.mem_append_left _ (List.mem_append_right _ (h)))))
theorem nX10_above_X10 : ∀ w ∈ wsX100, w ∈ wsX10_above := fun _ h => List.mem_cons_of_mem _ (List.mem_append_left _ (List.mem_append_left _ (List.mem_append_left _ (List.mem_append_left _ (List.mem_append_left _ (List.mem_append_right _ (h)))))))
theorem nX10_above_X2 : ∀ w ∈ wsX20, w ∈ wsX10_above := fun _ h => List.mem_cons_of_mem _ (List.mem_append_left _ (List.mem_append_left _ (List.mem_append_left _ (List.mem_append_left _ (List.mem_append_right _ (h))))))
theorem zdX10_above : yX10_above.cls = RX10 ∧ yX10_above.cls ≠ "java/lang/invoke/MethodHandle" ∧ yX10_above.cls ≠ "java/lang/invoke/VarHandle" ∧ (parseMethodDescriptor yX10_above.desc).map (fun d => d.parameters.length) = some 1 := by decide +kernel
set_option maxHeartbeats 4000000 in
set_option maxRecDepth 100000 in
theorem zX10_above (l : Launch) (D : va_G) (y : Nat → ClassId) (a : Nat → Nat) (sz : Nat) (x1 : Int32) (z : zz_M) {r : Int32} {zt : zz_M} (hm : mX10_above x1 z = some (r, zt)) : Met l yX10_above wsX10_above { frames := 3, cells := 0, slots := 0, locals := 66 } (zz_Pc D y (wC y a z) sz [.ref (a 0), .int x1]) (zz_Qi D y (wC y a) (va_A (wC y a z) sz) r zt) 0 0 (va_A (wC y a z) sz) := by
  refine Met.ofW (cc := cX10_above) (maxL := 8) (ret := (some .int)) (by decide) rfl ?_
  intro p e s m args below meth c s₁ B hml hv
  obtain ⟨rfl, hsz, hP, hK, hD0, hN, hg⟩ := hv
  have hx := B.exec
  have hb := B.bytes
  have hr := B.returns
  have hts := atoms_spec (ws := wsX10_above) B.pre
  have hown : s.vm.findClass RX10 = some m.cls := findClass_of_methodNamed B.named
  have hlocks := B.notSynchronized
  clear B
  subst hsz
  have hD := hD0.self (sz := s.heap.size)
  generalize hAe : va_A (wC y a z) s.heap.size = A at hD hg ⊢
  have hA : ∀ q : Nat, s.heap.size ≤ q → A q := fun q h => by rw [← hAe]; exact Or.inr h
  clear hAe hD0
  have hl := lv_entry ([.ref (a 0), .int x1]) (n := 8) (Nat.le_of_ble_eq_true rfl)
  rw [lg_entry_eq]
  generalize (lg_sl ([.ref (a 0), .int x1]) ++ List.replicate (8 - (lg_sl ([.ref (a 0), .int x1])).length) Slot.unset).toArray = ls at hl ⊢
  replace hl : lv_has ls 8 [(0, .ref (a 0)), (1, .int x1)] := hl
  refine zz_go (w := wC y a) hP hD va_S.rf hl (fun G hG => ?_)
  clear hP hD hl ls
  have J130 : ∀ (k19 : Int32 → Int32 → Int32 → Int32 → Int32 → zz_M → Option (Int32 × zz_M)) (K19 : ∀ (v1 : Int32) (v2 : Int32) (v3 : Int32) (v4 : Int32) (v5 : Int32) (z : zz_M), k19 v1 v2 v3 v4 v5 z = some (r, zt) → G 19 [(0, .ref (a 0)), (1, .int v1), (2, .int v2), (3, .int v3), (4, .int v4), (5, .int v5)] [] z) (v1 : Int32) (v2 : Int32) (v3 : Int32) (v5 : Int32) (t0 : Int32) (t1 : Int32) (z : zz_M), mX10_above_b130 k19 v1 v2 v3 v5 t0 t1 z = some (r, zt) → G 130 [(0, .ref (a 0)), (1, .int v1), (2, .int v2), (3, .int v3), (5, .int v5)] [.int t0, .int t1] z := by
    intro k19 K19 v1 v2 v3 v5 t0 t1 z hm
    rw [mX10_above_b130] at hm
    rw [hG]
    intro H locs ls hP hD hS hl
    refine lv_ior hx hb dX10_above_130 ?_
    refine lv_topi (fun n1 en1 => ?_)
    replace hm := zz_nm_some en1 hm
    refine lv_istore (lv' := [(4, .int n1), (0, .ref (a 0)), (1, .int v1), (2, .int v2), (3, .int v3), (5, .int v5)]) hx hb dX10_above_131 hl (by decide) rfl (fun ls hl => ?_)
    obtain ⟨n2, en2⟩ : ∃ q : Int32, q = v5 + (1 : Int32) := ⟨_, rfl⟩
    replace hm := zz_nm_some en2 hm
    refine lv_iinc (v := n2) (lv' := [(5, .int n2), (4, .int n1), (0, .ref (a 0)), (1, .int v1), (2, .int v2), (3, .int v3)]) hx hb dX10_above_133 hl (k := 5) rfl (by rw [en2]; rfl) (by decide) rfl (fun ls hl => ?_)
    refine lv_goto (tgt := 19) hx hb dX10_above_136 (by decide) ?_
    have j := K19 v1 v2 v3 n1 n2 z hm
    rw [hG] at j
    exact j H locs ls hP hD hS (lv_sub hl [2, 3, 4, 5, 1, 0] rfl)
  have J129 : ∀ (k19 : Int32 → Int32 → Int32 → Int32 → Int32 → zz_M → Option (Int32 × zz_M)) (K19 : ∀ (v1 : Int32) (v2 : Int32) (v3 : Int32) (v4 : Int32) (v5 : Int32) (z : zz_M), k19 v1 v2 v3 v4 v5 z = some (r, zt) → G 19 [(0, .ref (a 0)), (1, .int v1), (2, .int v2), (3, .int v3), (4, .int v4), (5, .int v5)] [] z) (v1 : Int32) (v2 : Int32) (v3 : Int32) (v5 : Int32) (t0 : Int32) (z : zz_M), mX10_above_b129 k19 v1 v2 v3 v5 t0 z = some (r, zt) → G 129 [(0, .ref (a 0)), (1, .int v1), (2, .int v2), (3, .int v3), (5, .int v5)] [.int t0] z := by
    intro k19 K19 v1 v2 v3 v5 t0 z hm
    rw [mX10_above_b129] at hm
    rw [hG]
    intro H locs ls hP hD hS hl
    refine lv_iconst (v := (0 : Int32)) hx hb dX10_above_129 (by decide) ?_
    have j := J130 k19 K19 v1 v2 v3 v5 (0 : Int32) t0 z hm
    rw [hG] at j
    exact j H locs ls hP hD hS (lv_sub hl [0, 1, 2, 3, 4] rfl)
  have J99 : ∀ (k19 : Int32 → Int32 → Int32 → Int32 → Int32 → zz_M → Option (Int32 × zz_M)) (K19 : ∀ (v1 : Int32) (v2 : Int32) (v3 : Int32) (v4 : Int32) (v5 : Int32) (z : zz_M), k19 v1 v2 v3 v4 v5 z = some (r, zt) → G 19 [(0, .ref (a 0)), (1, .int v1), (2, .int v2), (3, .int v3), (4, .int v4), (5, .int v5)] [] z) (v1 : Int32) (v2 : Int32) (v4 : Int32) (v5 : Int32) (v6 : Int32) (v7 : Int32) (t0 : Int32) (t1 : Int32) (z : zz_M), mX10_above_b99 k19 v1 v2 v4 v5 v6 v7 t0 t1 z = some (r, zt) → G 99 [(0, .ref (a 0)), (1, .int v1), (2, .int v2), (4, .int v4), (5, .int v5), (6, .int v6), (7, .int v7)] [.int t0, .int t1] z := by
    intro k19 K19 v1 v2 v4 v5 v6 v7 t0 t1 z hm
    rw [mX10_above_b99] at hm
    rw [hG]
    intro H locs ls hP hD hS hl
    refine lv_ior hx hb dX10_above_99 ?_
    refine lv_topi (fun n3 en3 => ?_)
    replace hm := zz_nm_some en3 hm
    refine lv_istore_n (lv' := [(3, .int n3), (0, .ref (a 0)), (1, .int v1), (2, .int v2), (4, .int v4), (5, .int v5), (6, .int v6), (7, .int v7)]) hx hb dX10_above_100 rfl hl (by decide) rfl (fun ls hl => ?_)
    refine lv_iload hx hb dX10_above_101 (lv_at hl 4 rfl) ?_
    refine lv_iload_n hx hb dX10_above_103 rfl (lv_at hl 2 rfl) ?_
    refine lv_if_le (tgt := 129) hx hb dX10_above_104 (by decide) (fun c4 => ?_) (fun c4 => ?_)
    · replace hm := zz_pos c4 hm
      have j := J129 k19 K19 v1 v2 n3 v5 v4 z hm
      rw [hG] at j
      exact j H locs ls hP hD hS (lv_sub hl [1, 2, 3, 0, 5] rfl)
    · replace hm := zz_neg c4 hm
      refine lv_iload hx hb dX10_above_107 (lv_at hl 7 rfl) ?_
      refine lv_aload_n hx hb dX10_above_109 rfl (lv_at hl 1 rfl) ?_
      refine va_get (D := D) (ci := 10) (v := .ref (a 8)) (C := RX10) (T := TX10) (N := 7) hx hb hts nX10_above_X10 hown hK hP 0 (wC_0 y a z) rfl 2 (by decide) (hts (.fieldLink RX10 26 "WorksDesk" "book" "LWorksDesk$Book;") (List.mem_of_getElem? (i := 1) rfl)) (fun _ h9 => h9) rfl dX10_above_110 ?_
      refine lv_iload hx hb dX10_above_113 (lv_at hl 5 rfl) ?_
      refine lv_iload_n hx hb dX10_above_115 rfl (lv_at hl 2 rfl) ?_
      refine lv_iconst (v := (1 : Int32)) hx hb dX10_above_116 (by decide) ?_
      refine lv_isub hx hb dX10_above_117 ?_
      obtain ⟨r5, h6, hm⟩ := zz_b1_some hm
      refine zz_calli (zz_runV (w := wC y a) (As := [.int v5, .int (v1 - (1 : Int32))]) (rest := [.int v7, .int v4]) ⟨hx, hb, hml, hown, hts⟩ (zX2_done l D y a H.size v5 (v1 - (1 : Int32)) z h6) (cwV 2 hts gX10_above_X2_done rfl rfl rfl zdX2_done ⟨Nat.le_of_ble_eq_true rfl, Nat.le_of_ble_eq_true rfl⟩) hK hN hg hP hD hS hA 8 (wC_8 y a z) rfl rfl hl.1 rfl (Nat.le_of_ble_eq_true rfl) dX10_above_118 ⟨Nat.le_of_ble_eq_true rfl, Nat.le_of_ble_eq_true rfl⟩) hD hS hA (fun H locs hP hD hS => ?_)
      refine lv_icmp_ge (tgt := 129) hx hb dX10_above_121 (by decide) (fun c7 => ?_) (fun c7 => ?_)
      · replace hm := zz_pos c7 hm
        have j := J129 k19 K19 v1 v2 n3 v5 v4 z hm
        rw [hG] at j
        exact j H locs ls hP hD hS (lv_sub hl [1, 2, 3, 0, 5] rfl)
      · replace hm := zz_neg c7 hm
        refine lv_iload hx hb dX10_above_124 (lv_at hl 6 rfl) ?_
        refine lv_goto (tgt := 130) hx hb dX10_above_126 (by decide) ?_
        have j := J130 k19 K19 v1 v2 n3 v5 v6 v4 z hm
        rw [hG] at j
        exact j H locs ls hP hD hS (lv_sub hl [1, 2, 3, 0, 5] rfl)
  have J77 : ∀ (k19 : Int32 → Int32 → Int32 → Int32 → Int32 → zz_M → Option (Int32 × zz_M)) (K19 : ∀ (v1 : Int32) (v2 : Int32) (v3 : Int32) (v4 : Int32) (v5 : Int32) (z : zz_M), k19 v1 v2 v3 v4 v5 z = some (r, zt) → G 19 [(0, .ref (a 0)), (1, .int v1), (2, .int v2), (3, .int v3), (4, .int v4), (5, .int v5)] [] z) (v1 : Int32) (v3 : Int32) (v4 : Int32) (v5 : Int32) (v6 : Int32) (v7 : Int32) (t0 : Int32) (t1 : Int32) (z : zz_M), mX10_above_b77 k19 v1 v3 v4 v5 v6 v7 t0 t1 z = some (r, zt) → G 77 [(0, .ref (a 0)), (1, .int v1), (3, .int v3), (4, .int v4), (5, .int v5), (6, .int v6), (7, .int v7)] [.int t0, .int t1] z := by
    intro k19 K19 v1 v3 v4 v5 v6 v7 t0 t1 z hm
    rw [mX10_above_b77] at hm
    rw [hG]
    intro H locs ls hP hD hS hl
    refine lv_ior hx hb dX10_above_77 ?_
    refine lv_topi (fun n8 en8 => ?_)
    replace hm := zz_nm_some en8 hm
    refine lv_istore_n (lv' := [(2, .int n8), (0, .ref (a 0)), (1, .int v1), (3, .int v3), (4, .int v4), (5, .int v5), (6, .int v6), (7, .int v7)]) hx hb dX10_above_78 rfl hl (by decide) rfl (fun ls hl => ?_)
    refine lv_iload_n hx hb dX10_above_79 rfl (lv_at hl 3 rfl) ?_
    refine lv_aload_n hx hb dX10_above_80 rfl (lv_at hl 1 rfl) ?_
    refine va_get (D := D) (ci := 10) (v := .ref (a 8)) (C := RX10) (T := TX10) (N := 7) hx hb hts nX10_above_X10 hown hK hP 0 (wC_0 y a z) rfl 2 (by decide) (hts (.fieldLink RX10 26 "WorksDesk" "book" "LWorksDesk$Book;") (List.mem_of_getElem? (i := 1) rfl)) (fun _ h9 => h9) rfl dX10_above_81 ?_
    refine lv_iload hx hb dX10_above_84 (lv_at hl 5 rfl) ?_
    refine lv_iload_n hx hb dX10_above_86 rfl (lv_at hl 2 rfl) ?_
    obtain ⟨r9, h10, hm⟩ := zz_b1_some hm
    refine zz_calli (zz_runV (w := wC y a) (As := [.int v5, .int v1]) (rest := [.int v3]) ⟨hx, hb, hml, hown, hts⟩ (zX2_isAboveCap l D y a H.size v5 v1 z h10) (cwV 2 hts gX10_above_X2_isAboveCap rfl rfl rfl zdX2_isAboveCap ⟨Nat.le_of_ble_eq_true rfl, Nat.le_of_ble_eq_true rfl⟩) hK hN hg hP hD hS hA 8 (wC_8 y a z) rfl rfl hl.1 rfl (Nat.le_of_ble_eq_true rfl) dX10_above_87 ⟨Nat.le_of_ble_eq_true rfl, Nat.le_of_ble_eq_true rfl⟩) hD hS hA (fun H locs hP hD hS => ?_)
    refine lv_if_eq (tgt := 98) hx hb dX10_above_90 (by decide) (fun c11 => ?_) (fun c11 => ?_)
    · replace hm := zz_pos c11 hm
      refine lv_iconst (v := (0 : Int32)) hx hb dX10_above_98 (by decide) ?_
      have j := J99 k19 K19 v1 n8 v4 v5 v6 v7 (0 : Int32) v3 z hm
      rw [hG] at j
      exact j H locs ls hP hD hS (lv_sub hl [1, 2, 0, 4, 5, 6, 7] rfl)
    · replace hm := zz_neg c11 hm
      refine lv_iload hx hb dX10_above_93 (lv_at hl 6 rfl) ?_
      refine lv_goto (tgt := 99) hx hb dX10_above_95 (by decide) ?_
      have j := J99 k19 K19 v1 n8 v4 v5 v6 v7 v6 v3 z hm
      rw [hG] at j
      exact j H locs ls hP hD hS (lv_sub hl [1, 2, 0, 4, 5, 6, 7] rfl)
  have J19 : ∀ (n : Nat) (v1 : Int32) (v2 : Int32) (v3 : Int32) (v4 : Int32) (v5 : Int32) (z : zz_M), mX10_above_b19 n v1 v2 v3 v4 v5 z = some (r, zt) → G 19 [(0, .ref (a 0)), (1, .int v1), (2, .int v2), (3, .int v3), (4, .int v4), (5, .int v5)] [] z := by
    intro n
    induction n with
    | zero =>
      intro v1 v2 v3 v4 v5 z hm
      exact zz_none hm
    | succ n ih =>
      intro v1 v2 v3 v4 v5 z hm
      rw [mX10_above_b19] at hm
      rw [hG]
      intro H locs ls hP hD hS hl
      refine lv_iload hx hb dX10_above_19 (lv_at hl 5 rfl) ?_
      refine lv_aload_n hx hb dX10_above_21 rfl (lv_at hl 0 rfl) ?_
      refine va_get (D := D) (ci := 10) (v := .ref (a 8)) (C := RX10) (T := TX10) (N := 7) hx hb hts nX10_above_X10 hown hK hP 0 (wC_0 y a z) rfl 2 (by decide) (hts (.fieldLink RX10 26 "WorksDesk" "book" "LWorksDesk$Book;") (List.mem_of_getElem? (i := 1) rfl)) (fun _ h9 => h9) rfl dX10_above_22 ?_
      refine va_get (D := D) (ci := 2) (v := .ref (a 9)) (C := RX2) (T := TX2) (N := 12) hx hb hts nX10_above_X2 hown hK hP 8 (wC_8 y a z) rfl 0 (by decide) (hts (.fieldLink RX10 107 "WorksDesk$Book" "items" "LWorksDesk$Bill;") (List.mem_of_getElem? (i := 2) rfl)) (fun _ h9 => h9) rfl dX10_above_25 ?_
      refine va_get (D := D) (ci := 0) (v := .int (z.2.2.1 579)) (C := RX0) (T := TX0) (N := 5) hx hb hts nX10_above_X0 hown hK hP 9 (wC_bill y a z 9 (Or.inr rfl)) rfl 3 (by decide) (hts (.fieldLink RX10 284 "WorksDesk$Bill" "size" "I") (List.mem_of_getElem? (i := 3) rfl)) (fun _ h9 => h9) rfl dX10_above_28 ?_
      refine lv_icmp_ge (tgt := 139) hx hb dX10_above_31 (by decide) (fun c12 => ?_) (fun c12 => ?_)
      · replace hm := zz_pos c12 hm
        refine lv_aload_n hx hb dX10_above_139 rfl (lv_at hl 0 rfl) ?_
        refine va_get (D := D) (ci := 10) (v := .ref (a 99)) (C := RX10) (T := TX10) (N := 7) hx hb hts nX10_above_X10 hown hK hP 0 (wC_0 y a z) rfl 6 (by decide) (hts (.fieldLink RX10 47 "WorksDesk" "lastRow" "LWorksDesk$Row;") (List.mem_of_getElem? (i := 5) rfl)) (fun _ h9 => h9) rfl dX10_above_140 ?_
        refine lv_iload_n hx hb dX10_above_143 rfl (lv_at hl 3 rfl) ?_
        refine lv_i2l hx hb dX10_above_144 rfl ?_
        obtain ⟨r13, z15, h14, hm⟩ := zz_b2_some hm
        refine zz_callr (zz_runV (w := wC y a) (As := [.long v3.toInt64]) (rest := []) ⟨hx, hb, hml, hown, hts⟩ (zX5_start l D y a H.size v3.toInt64 z h14) (cwV 1 hts gX10_above_X5_start rfl rfl rfl zdX5_start ⟨Nat.le_of_ble_eq_true rfl, Nat.le_of_ble_eq_true rfl⟩) hK hN hg hP hD hS hA 99 (wC_99 y a z) rfl rfl hl.1 rfl (Nat.le_of_ble_eq_true rfl) dX10_above_145 ⟨Nat.le_of_ble_eq_true rfl, Nat.le_of_ble_eq_true rfl⟩) hD hS hA (fun H locs hP hD hS => ?_)
        refine lv_iload hx hb dX10_above_148 (lv_at hl 4 rfl) ?_
        refine lv_i2l hx hb dX10_above_150 rfl ?_
        obtain ⟨r16, z18, h17, hm⟩ := zz_b2_some hm
        refine zz_callr (zz_runV (w := wC y a) (As := [.long v4.toInt64]) (rest := []) ⟨hx, hb, hml, hown, hts⟩ (zX5_then l D y a H.size v4.toInt64 z15 h17) (cwV 1 hts gX10_above_X5_then rfl rfl rfl zdX5_then ⟨Nat.le_of_ble_eq_true rfl, Nat.le_of_ble_eq_true rfl⟩) hK hN hg hP hD hS hA 99 (wC_99 y a z15) rfl rfl hl.1 rfl (Nat.le_of_ble_eq_true rfl) dX10_above_151 ⟨Nat.le_of_ble_eq_true rfl, Nat.le_of_ble_eq_true rfl⟩) hD hS hA (fun H locs hP hD hS => ?_)
        refine lv_pop hx hb dX10_above_154 rfl ?_
        refine lv_iload_n hx hb dX10_above_155 rfl (lv_at hl 2 rfl) ?_
        exact zz_iret hx hb hr hlocks (zz_some2 hm) hP hK hD hS dX10_above_156
      · replace hm := zz_neg c12 hm
        refine lv_iconst (v := (1 : Int32)) hx hb dX10_above_34 (by decide) ?_
        refine lv_iload hx hb dX10_above_35 (lv_at hl 5 rfl) ?_
        refine lv_ishl hx hb dX10_above_37 ?_
        refine lv_topi (fun n19 en19 => ?_)
        replace hm := zz_nm_some en19 hm
        refine lv_istore (lv' := [(6, .int n19), (0, .ref (a 0)), (1, .int v1), (2, .int v2), (3, .int v3), (4, .int v4), (5, .int v5)]) hx hb dX10_above_38 hl (by decide) rfl (fun ls hl => ?_)
        refine lv_aload_n hx hb dX10_above_40 rfl (lv_at hl 1 rfl) ?_
        refine va_get (D := D) (ci := 10) (v := .ref (a 8)) (C := RX10) (T := TX10) (N := 7) hx hb hts nX10_above_X10 hown hK hP 0 (wC_0 y a z) rfl 2 (by decide) (hts (.fieldLink RX10 26 "WorksDesk" "book" "LWorksDesk$Book;") (List.mem_of_getElem? (i := 1) rfl)) (fun _ h9 => h9) rfl dX10_above_41 ?_
        refine lv_iload hx hb dX10_above_44 (lv_at hl 6 rfl) ?_
        refine lv_iload_n hx hb dX10_above_46 rfl (lv_at hl 2 rfl) ?_
        obtain ⟨r20, h21, hm⟩ := zz_b1_some hm
        refine zz_calli (zz_runV (w := wC y a) (As := [.int v5, .int v1]) (rest := []) ⟨hx, hb, hml, hown, hts⟩ (zX2_done l D y a H.size v5 v1 z h21) (cwV 2 hts gX10_above_X2_done rfl rfl rfl zdX2_done ⟨Nat.le_of_ble_eq_true rfl, Nat.le_of_ble_eq_true rfl⟩) hK hN hg hP hD hS hA 8 (wC_8 y a z) rfl rfl hl.1 rfl (Nat.le_of_ble_eq_true rfl) dX10_above_47 ⟨Nat.le_of_ble_eq_true rfl, Nat.le_of_ble_eq_true rfl⟩) hD hS hA (fun H locs hP hD hS => ?_)
        refine lv_istore (lv' := [(7, .int r20), (6, .int n19), (0, .ref (a 0)), (1, .int v1), (2, .int v2), (3, .int v3), (4, .int v4), (5, .int v5)]) hx hb dX10_above_50 hl (by decide) rfl (fun ls hl => ?_)
        refine lv_iload_n hx hb dX10_above_52 rfl (lv_at hl 4 rfl) ?_
        refine lv_iload hx hb dX10_above_53 (lv_at hl 0 rfl) ?_
        refine lv_aload_n hx hb dX10_above_55 rfl (lv_at hl 2 rfl) ?_
        refine va_get (D := D) (ci := 10) (v := .ref (a 8)) (C := RX10) (T := TX10) (N := 7) hx hb hts nX10_above_X10 hown hK hP 0 (wC_0 y a z) rfl 2 (by decide) (hts (.fieldLink RX10 26 "WorksDesk" "book" "LWorksDesk$Book;") (List.mem_of_getElem? (i := 1) rfl)) (fun _ h9 => h9) rfl dX10_above_56 ?_
        refine va_get (D := D) (ci := 2) (v := .ref (a 9)) (C := RX2) (T := TX2) (N := 12) hx hb hts nX10_above_X2 hown hK hP 8 (wC_8 y a z) rfl 0 (by decide) (hts (.fieldLink RX10 107 "WorksDesk$Book" "items" "LWorksDesk$Bill;") (List.mem_of_getElem? (i := 2) rfl)) (fun _ h9 => h9) rfl dX10_above_59 ?_
        refine va_get (D := D) (ci := 0) (v := .ref (a 11)) (C := RX0) (T := TX0) (N := 5) hx hb hts nX10_above_X0 hown hK hP 9 (wC_bill y a z 9 (Or.inr rfl)) rfl 1 (by decide) (hts (.fieldLink RX10 344 "WorksDesk$Bill" "quantities" "[I") (List.mem_of_getElem? (i := 4) rfl)) (fun _ h9 => h9) rfl dX10_above_62 ?_
        refine lv_iload hx hb dX10_above_65 (lv_at hl 7 rfl) ?_
        obtain ⟨c22, hm⟩ := zz_ck_some hm
        refine va_iald hx hb hK hP 11 0 (wC_billA2 y a z 9 (Or.inr rfl)) rfl c22 dX10_above_67 ?_
        refine lv_icmp_le (tgt := 76) hx hb dX10_above_68 (by decide) (fun c23 => ?_) (fun c23 => ?_)
        · replace hm := zz_pos c23 hm
          refine lv_iconst (v := (0 : Int32)) hx hb dX10_above_76 (by decide) ?_
          have j := J77 (mX10_above_b19 n) ih v1 v3 v4 v5 n19 r20 (0 : Int32) v2 z hm
          rw [hG] at j
          exact j H locs ls hP hD hS (lv_sub hl [2, 3, 5, 6, 7, 1, 0] rfl)
        · replace hm := zz_neg c23 hm
          refine lv_iload hx hb dX10_above_71 (lv_at hl 1 rfl) ?_
          refine lv_goto (tgt := 77) hx hb dX10_above_73 (by decide) ?_
          have j := J77 (mX10_above_b19 n) ih v1 v3 v4 v5 n19 r20 n19 v2 z hm
          rw [hG] at j
          exact j H locs ls hP hD hS (lv_sub hl [2, 3, 5, 6, 7, 1, 0] rfl)
  rw [hG]
  intro H locs ls hP hD hS hl
  unfold mX10_above at hm
  refine lv_iload_n hx hb dX10_above_0 rfl (lv_at hl 1 rfl) ?_
  obtain ⟨r24, h25, hm⟩ := zz_b1_some hm
  refine zz_calli (zz_runS (w := wC y a) (As := [.int x1]) (rest := []) ⟨hx, hb, hml, hown, hts⟩ (zX10_isMonth l D y a H.size x1 z h25) (va_cwS 1 hts gX10_above_X10_isMonth rfl rfl rfl zdX10_isMonth ⟨Nat.le_of_ble_eq_true rfl, Nat.le_of_ble_eq_true rfl⟩) hK hN hg hP hD hS hA rfl hl.1 rfl (Nat.le_of_ble_eq_true rfl) dX10_above_1 ⟨Nat.le_of_ble_eq_true rfl, Nat.le_of_ble_eq_true rfl⟩) hD hS hA (fun H locs hP hD hS => ?_)
  refine lv_if_ne (tgt := 9) hx hb dX10_above_4 (by decide) (fun c26 => ?_) (fun c26 => ?_)
  · replace hm := zz_neg c26 hm
    refine lv_iconst (v := (0 : Int32)) hx hb dX10_above_9 (by decide) ?_
    refine lv_istore_n (lv' := [(2, .int (0 : Int32)), (0, .ref (a 0)), (1, .int x1)]) hx hb dX10_above_10 rfl hl (by decide) rfl (fun ls hl => ?_)
    refine lv_iconst (v := (0 : Int32)) hx hb dX10_above_11 (by decide) ?_
    refine lv_istore_n (lv' := [(3, .int (0 : Int32)), (2, .int (0 : Int32)), (0, .ref (a 0)), (1, .int x1)]) hx hb dX10_above_12 rfl hl (by decide) rfl (fun ls hl => ?_)
    refine lv_iconst (v := (0 : Int32)) hx hb dX10_above_13 (by decide) ?_
    refine lv_istore (lv' := [(4, .int (0 : Int32)), (3, .int (0 : Int32)), (2, .int (0 : Int32)), (0, .ref (a 0)), (1, .int x1)]) hx hb dX10_above_14 hl (by decide) rfl (fun ls hl => ?_)
    refine lv_iconst (v := (0 : Int32)) hx hb dX10_above_16 (by decide) ?_
    refine lv_istore (lv' := [(5, .int (0 : Int32)), (4, .int (0 : Int32)), (3, .int (0 : Int32)), (2, .int (0 : Int32)), (0, .ref (a 0)), (1, .int x1)]) hx hb dX10_above_17 hl (by decide) rfl (fun ls hl => ?_)
    have j := J19 zz_N x1 (0 : Int32) (0 : Int32) (0 : Int32) (0 : Int32) z hm
    rw [hG] at j
    exact j H locs ls hP hD hS (lv_sub hl [4, 5, 3, 2, 1, 0] rfl)
  · replace hm := zz_pos c26 hm
    refine lv_iconst (v := (-1 : Int32)) hx hb dX10_above_7 (by decide) ?_
    exact zz_iret hx hb hr hlocks (zz_some2 hm) hP hK hD hS dX10_above_8
def mX4_of (ff : Nat) (x1 : Int32) (x2 : Int32) (z : zz_M) : Option Int64 := zz_ck (zz_in x1 15) (zz_ck (zz_in x2 24) (some (z.2.1 (ff + 2 + x1.toNatClampNeg) x2.toNatClampNeg)))
theorem nX4_of_X4 : ∀ w ∈ wsX40, w ∈ wsX4_of := fun _ h => List.mem_cons_of_mem _ (List.mem_append_right _ (h))
theorem zdX4_of : yX4_of.cls = RX4 ∧ yX4_of.cls ≠ "java/lang/invoke/MethodHandle" ∧ yX4_of.cls ≠ "java/lang/invoke/VarHandle" ∧ (parseMethodDescriptor yX4_of.desc).map (fun d => d.parameters.length) = some 2 := by decide +kernel
set_option maxHeartbeats 4000000 in
set_option maxRecDepth 100000 in
theorem zX4_of (l : Launch) (D : va_G) (y : Nat → ClassId) (a : Nat → Nat) (sz : Nat) (ff : Nat) (x1 : Int32) (x2 : Int32) (hff : ff = 64 ∨ ff = 81) (z : zz_M) {r : Int64} (hm : mX4_of ff x1 x2 z = some r) : Met l yX4_of wsX4_of { frames := 0, cells := 0, slots := 0, locals := 0 } (zz_Pc D y (wC y a z) sz [.ref (a ff), .int x1, .int x2]) (zz_Ql D y (wC y a) (va_A (wC y a z) sz) r z) 0 0 (va_A (wC y a z) sz) := by
  refine Met.ofW (cc := cX4_of) (maxL := 3) (ret := (some .long)) (by decide) rfl ?_
  intro p e s m args below meth c s₁ B hml hv
  obtain ⟨rfl, hsz, hP, hK, hD0, hN, hg⟩ := hv
  have hx := B.exec
  have hb := B.bytes
  have hr := B.returns
  have hts := atoms_spec (ws := wsX4_of) B.pre
  have hown : s.vm.findClass RX4 = some m.cls := findClass_of_methodNamed B.named
  have hlocks := B.notSynchronized
  clear B
  subst hsz
  have hD := hD0.self (sz := s.heap.size)
  generalize hAe : va_A (wC y a z) s.heap.size = A at hD hg ⊢
  have hA : ∀ q : Nat, s.heap.size ≤ q → A q := fun q h => by rw [← hAe]; exact Or.inr h
  clear hAe hD0
  have hl := lv_entry ([.ref (a ff), .int x1, .int x2]) (n := 3) (Nat.le_of_ble_eq_true rfl)
  rw [lg_entry_eq]
  generalize (lg_sl ([.ref (a ff), .int x1, .int x2]) ++ List.replicate (3 - (lg_sl ([.ref (a ff), .int x1, .int x2])).length) Slot.unset).toArray = ls at hl ⊢
  replace hl : lv_has ls 3 [(0, .ref (a ff)), (1, .int x1), (2, .int x2)] := hl
  refine zz_go (w := wC y a) hP hD va_S.rf hl (fun G hG => ?_)
  clear hP hD hl ls
  rw [hG]
  intro H locs ls hP hD hS hl
  unfold mX4_of at hm
  refine lv_aload_n hx hb dX4_of_0 rfl (lv_at hl 0 rfl) ?_
  refine va_get (D := D) (ci := 4) (v := .ref (a (ff + 1))) (C := RX4) (T := TX4) (N := 1) hx hb hts nX4_of_X4 hown hK hP ff (wC_fig y a z ff hff) rfl 0 (by decide) (hts (.fieldLink RX4 11 "WorksDesk$Figures" "rows" "[[J") (List.mem_of_getElem? (i := 1) rfl)) (fun _ h9 => h9) rfl dX4_of_1 ?_
  refine lv_iload_n hx hb dX4_of_4 rfl (lv_at hl 1 rfl) ?_
  obtain ⟨c1, hm⟩ := zz_ck_some hm
  refine zz_aldA hx hb hK hP (ff + 1) 4 (wC_figR y a z ff hff) rfl c1 dX4_of_5 ?_
  refine W.eq (g2 := F0 m 6 ls [.ref (a (ff + 2 + x1.toNatClampNeg))]) rfl ?_
  refine lv_iload_n hx hb dX4_of_6 rfl (lv_at hl 2 rfl) ?_
  obtain ⟨c2, hm⟩ := zz_ck_some hm
  refine va_lald hx hb hK hP (ff + 2 + x1.toNatClampNeg) 1 (wC_row y a z ff x1.toNatClampNeg hff (zz_lt c1 (by decide))) rfl c2 dX4_of_7 ?_
  exact zz_lret hx hb hr hlocks ⟨zz_some1 hm, rfl⟩ hP hK hD hS dX4_of_8
def mX2_part (x1 : Int32) (x2 : Int32) (z : zz_M) : Option Int64 := zz_b1 (mX2_done x1 x2 z) (fun r1 => zz_b1 (mX2_cap x1 z) (fun r3 => zz_ck (zz_in x1 10) (zz_nm ((z.1 12 x1.toNatClampNeg).toInt64) (fun n6 => if (0 : Int32) < (lg_cmp r1.toInt64 r3) then (zz_b1 (mX8_of (10 : Int32) z) (fun r8 => zz_b1 (mX10_thousandths r8 n6) (fun r10 => some ((r3 * n6) + ((r1.toInt64 - r3) * r10))))) else (some (r1.toInt64 * n6))))))
theorem nX2_part_X0 : ∀ w ∈ wsX00, w ∈ wsX2_part := fun _ h => List.mem_cons_of_mem _ (List.mem_append_left _ (List.mem_append_left _ (List.mem_append_right _ (h))))
theorem nX2_part_X2 : ∀ w ∈ wsX20, w ∈ wsX2_part := fun _ h => List.mem_cons_of_mem _ (List.mem_append_left _ (List.mem_append_left _ (List.mem_append_left _ (List.mem_append_right _ (h)))))
theorem zdX2_part : yX2_part.cls = RX2 ∧ yX2_part.cls ≠ "java/lang/invoke/MethodHandle" ∧ yX2_part.cls ≠ "java/lang/invoke/VarHandle" ∧ (parseMethodDescriptor yX2_part.desc).map (fun d => d.parameters.length) = some 2 := by decide +kernel
set_option maxHeartbeats 4000000 in
set_option maxRecDepth 100000 in
theorem zX2_part (l : Launch) (D : va_G) (y : Nat → ClassId) (a : Nat → Nat) (sz : Nat) (x1 : Int32) (x2 : Int32) (z : zz_M) {r : Int64} (hm : mX2_part x1 x2 z = some r) : Met l yX2_part wsX2_part { frames := 2, cells := 0, slots := 0, locals := 44 } (zz_Pc D y (wC y a z) sz [.ref (a 8), .int x1, .int x2]) (zz_Ql D y (wC y a) (va_A (wC y a z) sz) r z) 0 0 (va_A (wC y a z) sz) := by
  refine Met.ofW (cc := cX2_part) (maxL := 9) (ret := (some .long)) (by decide) rfl ?_
  intro p e s m args below meth c s₁ B hml hv
  obtain ⟨rfl, hsz, hP, hK, hD0, hN, hg⟩ := hv
  have hx := B.exec
  have hb := B.bytes
  have hr := B.returns
  have hts := atoms_spec (ws := wsX2_part) B.pre
  have hown : s.vm.findClass RX2 = some m.cls := findClass_of_methodNamed B.named
  have hlocks := B.notSynchronized
  clear B
  subst hsz
  have hD := hD0.self (sz := s.heap.size)
  generalize hAe : va_A (wC y a z) s.heap.size = A at hD hg ⊢
  have hA : ∀ q : Nat, s.heap.size ≤ q → A q := fun q h => by rw [← hAe]; exact Or.inr h
  clear hAe hD0
  have hl := lv_entry ([.ref (a 8), .int x1, .int x2]) (n := 9) (Nat.le_of_ble_eq_true rfl)
  rw [lg_entry_eq]
  generalize (lg_sl ([.ref (a 8), .int x1, .int x2]) ++ List.replicate (9 - (lg_sl ([.ref (a 8), .int x1, .int x2])).length) Slot.unset).toArray = ls at hl ⊢
  replace hl : lv_has ls 9 [(0, .ref (a 8)), (1, .int x1), (2, .int x2)] := hl
  refine zz_go (w := wC y a) hP hD va_S.rf hl (fun G hG => ?_)
  clear hP hD hl ls
  rw [hG]
  intro H locs ls hP hD hS hl
  unfold mX2_part at hm
  refine lv_aload_n hx hb dX2_part_0 rfl (lv_at hl 0 rfl) ?_
  refine lv_iload_n hx hb dX2_part_1 rfl (lv_at hl 1 rfl) ?_
  refine lv_iload_n hx hb dX2_part_2 rfl (lv_at hl 2 rfl) ?_
  obtain ⟨r1, h2, hm⟩ := zz_b1_some hm
  refine zz_calli (zz_runV (w := wC y a) (As := [.int x1, .int x2]) (rest := []) ⟨hx, hb, hml, hown, hts⟩ (zX2_done l D y a H.size x1 x2 z h2) (cwV 2 hts gX2_part_X2_done rfl rfl rfl zdX2_done ⟨Nat.le_of_ble_eq_true rfl, Nat.le_of_ble_eq_true rfl⟩) hK hN hg hP hD hS hA 8 (wC_8 y a z) rfl rfl hl.1 rfl (Nat.le_of_ble_eq_true rfl) dX2_part_3 ⟨Nat.le_of_ble_eq_true rfl, Nat.le_of_ble_eq_true rfl⟩) hD hS hA (fun H locs hP hD hS => ?_)
  refine lv_i2l hx hb dX2_part_6 rfl ?_
  refine lv_lstore_n (lv' := [(3, .long r1.toInt64), (0, .ref (a 8)), (1, .int x1), (2, .int x2)]) hx hb dX2_part_7 rfl hl (by decide) rfl (fun ls hl => ?_)
  refine lv_aload_n hx hb dX2_part_8 rfl (lv_at hl 1 rfl) ?_
  refine lv_iload_n hx hb dX2_part_9 rfl (lv_at hl 2 rfl) ?_
  obtain ⟨r3, h4, hm⟩ := zz_b1_some hm
  refine zz_calll (zz_runV (w := wC y a) (As := [.int x1]) (rest := []) ⟨hx, hb, hml, hown, hts⟩ (zX2_cap l D y a H.size x1 z h4) (cwV 1 hts gX2_part_X2_cap rfl rfl rfl zdX2_cap ⟨Nat.le_of_ble_eq_true rfl, Nat.le_of_ble_eq_true rfl⟩) hK hN hg hP hD hS hA 8 (wC_8 y a z) rfl rfl hl.1 rfl (Nat.le_of_ble_eq_true rfl) dX2_part_10 ⟨Nat.le_of_ble_eq_true rfl, Nat.le_of_ble_eq_true rfl⟩) hD hS hA (fun H locs hP hD hS => ?_)
  refine lv_lstore (lv' := [(5, .long r3), (3, .long r1.toInt64), (0, .ref (a 8)), (1, .int x1), (2, .int x2)]) hx hb dX2_part_13 hl (by decide) rfl (fun ls hl => ?_)
  refine lv_aload_n hx hb dX2_part_15 rfl (lv_at hl 2 rfl) ?_
  refine va_get (D := D) (ci := 2) (v := .ref (a 9)) (C := RX2) (T := TX2) (N := 12) hx hb hts nX2_part_X2 hown hK hP 8 (wC_8 y a z) rfl 0 (by decide) (hts (.fieldLink RX2 12 "WorksDesk$Book" "items" "LWorksDesk$Bill;") (List.mem_of_getElem? (i := 1) rfl)) (fun _ h9 => h9) rfl dX2_part_16 ?_
  refine va_get (D := D) (ci := 0) (v := .ref (a 12)) (C := RX0) (T := TX0) (N := 5) hx hb hts nX2_part_X0 hown hK hP 9 (wC_bill y a z 9 (Or.inr rfl)) rfl 2 (by decide) (hts (.fieldLink RX2 123 "WorksDesk$Bill" "rates" "[I") (List.mem_of_getElem? (i := 2) rfl)) (fun _ h9 => h9) rfl dX2_part_19 ?_
  refine lv_iload_n hx hb dX2_part_22 rfl (lv_at hl 3 rfl) ?_
  obtain ⟨c5, hm⟩ := zz_ck_some hm
  refine va_iald hx hb hK hP 12 0 (wC_billA3 y a z 9 (Or.inr rfl)) rfl c5 dX2_part_23 ?_
  refine lv_i2l hx hb dX2_part_24 rfl ?_
  refine lv_topl (fun n6 en6 => ?_)
  replace hm := zz_nm_some en6 hm
  refine lv_lstore (lv' := [(7, .long n6), (5, .long r3), (3, .long r1.toInt64), (0, .ref (a 8)), (1, .int x1), (2, .int x2)]) hx hb dX2_part_25 hl (by decide) rfl (fun ls hl => ?_)
  refine lv_lload_n hx hb dX2_part_27 rfl (lv_at hl 2 rfl) ?_
  refine lv_lload hx hb dX2_part_28 (lv_at hl 1 rfl) ?_
  refine W.lcmp hx hb dX2_part_30 ?_
  refine lv_if_gt (tgt := 39) hx hb dX2_part_31 (by decide) (fun c7 => ?_) (fun c7 => ?_)
  · replace hm := zz_pos c7 hm
    refine lv_lload hx hb dX2_part_39 (lv_at hl 1 rfl) ?_
    refine lv_lload hx hb dX2_part_41 (lv_at hl 0 rfl) ?_
    refine lv_lmul hx hb dX2_part_43 ?_
    refine lv_lload_n hx hb dX2_part_44 rfl (lv_at hl 2 rfl) ?_
    refine lv_lload hx hb dX2_part_45 (lv_at hl 1 rfl) ?_
    refine lv_lsub hx hb dX2_part_47 ?_
    refine lv_aload_n hx hb dX2_part_48 rfl (lv_at hl 3 rfl) ?_
    refine va_get (D := D) (ci := 2) (v := .ref (a 13)) (C := RX2) (T := TX2) (N := 12) hx hb hts nX2_part_X2 hown hK hP 8 (wC_8 y a z) rfl 1 (by decide) (hts (.fieldLink RX2 21 "WorksDesk$Book" "clauses" "LWorksDesk$Terms;") (List.mem_of_getElem? (i := 3) rfl)) (fun _ h9 => h9) rfl dX2_part_49 ?_
    refine lv_bipush (v := (10 : Int32)) hx hb dX2_part_52 (by decide) ?_
    obtain ⟨r8, h9, hm⟩ := zz_b1_some hm
    refine zz_calli (zz_runV (w := wC y a) (As := [.int (10 : Int32)]) (rest := [.long (r1.toInt64 - r3), .long (r3 * n6)]) ⟨hx, hb, hml, hown, hts⟩ (zX8_of l D y a H.size (10 : Int32) z h9) (cwV 1 hts gX2_part_X8_of rfl rfl rfl zdX8_of ⟨Nat.le_of_ble_eq_true rfl, Nat.le_of_ble_eq_true rfl⟩) hK hN hg hP hD hS hA 13 (wC_13 y a z) rfl rfl hl.1 rfl (Nat.le_of_ble_eq_true rfl) dX2_part_54 ⟨Nat.le_of_ble_eq_true rfl, Nat.le_of_ble_eq_true rfl⟩) hD hS hA (fun H locs hP hD hS => ?_)
    refine lv_lload hx hb dX2_part_57 (lv_at hl 0 rfl) ?_
    obtain ⟨r10, h11, hm⟩ := zz_b1_some hm
    refine zz_calll (zz_runSN (w := wC y a) (As := [.int r8, .long n6]) (rest := [.long (r1.toInt64 - r3), .long (r3 * n6)]) ⟨hx, hb, hml, hown, hts⟩ (zX10_thousandths l D y a H.size r8 n6 z h11) ⟨va_cnB 2 hts gX2_part_X10_thousandths_n104 rfl rfl rfl (hN _ (List.mem_of_getElem? (i := 7) rfl)) (hts (.initialized RX10) (List.mem_of_getElem? (i := 28) rfl)) zdX10_thousandths ⟨Nat.le_of_ble_eq_true rfl, Nat.le_of_ble_eq_true rfl⟩, (hts (.static yX10_thousandths) (List.mem_of_getElem? (i := 27) rfl)), trivial⟩ hK hN hg hP hD hS hA rfl hl.1 rfl (Nat.le_of_ble_eq_true rfl) dX2_part_59 ⟨Nat.le_of_ble_eq_true rfl, Nat.le_of_ble_eq_true rfl⟩) hD hS hA (fun H locs hP hD hS => ?_)
    refine lv_lmul hx hb dX2_part_62 ?_
    refine lv_ladd hx hb dX2_part_63 ?_
    exact zz_lret hx hb hr hlocks ⟨zz_some1 hm, rfl⟩ hP hK hD hS dX2_part_64
  · replace hm := zz_neg c7 hm
    refine lv_lload_n hx hb dX2_part_34 rfl (lv_at hl 2 rfl) ?_
    refine lv_lload hx hb dX2_part_35 (lv_at hl 0 rfl) ?_
    refine lv_lmul hx hb dX2_part_37 ?_
    exact zz_lret hx hb hr hlocks ⟨zz_some1 hm, rfl⟩ hP hK hD hS dX2_part_38
def mX3_worth (x1 : Int32) (z : zz_M) : Option Int64 := zz_ck (zz_in x1 8) (zz_ck (zz_in x1 8) (some (((z.1 55 x1.toNatClampNeg).toInt64) * ((z.1 56 x1.toNatClampNeg).toInt64))))
theorem nX3_worth_X3 : ∀ w ∈ wsX30, w ∈ wsX3_worth := fun _ h => List.mem_cons_of_mem _ (List.mem_append_right _ (h))
theorem zdX3_worth : yX3_worth.cls = RX3 ∧ yX3_worth.cls ≠ "java/lang/invoke/MethodHandle" ∧ yX3_worth.cls ≠ "java/lang/invoke/VarHandle" ∧ (parseMethodDescriptor yX3_worth.desc).map (fun d => d.parameters.length) = some 1 := by decide +kernel
set_option maxHeartbeats 4000000 in
set_option maxRecDepth 100000 in
theorem zX3_worth (l : Launch) (D : va_G) (y : Nat → ClassId) (a : Nat → Nat) (sz : Nat) (x1 : Int32) (z : zz_M) {r : Int64} (hm : mX3_worth x1 z = some r) : Met l yX3_worth wsX3_worth { frames := 0, cells := 0, slots := 0, locals := 0 } (zz_Pc D y (wC y a z) sz [.ref (a 52), .int x1]) (zz_Ql D y (wC y a) (va_A (wC y a z) sz) r z) 0 0 (va_A (wC y a z) sz) := by
  refine Met.ofW (cc := cX3_worth) (maxL := 2) (ret := (some .long)) (by decide) rfl ?_
  intro p e s m args below meth c s₁ B hml hv
  obtain ⟨rfl, hsz, hP, hK, hD0, hN, hg⟩ := hv
  have hx := B.exec
  have hb := B.bytes
  have hr := B.returns
  have hts := atoms_spec (ws := wsX3_worth) B.pre
  have hown : s.vm.findClass RX3 = some m.cls := findClass_of_methodNamed B.named
  have hlocks := B.notSynchronized
  clear B
  subst hsz
  have hD := hD0.self (sz := s.heap.size)
  generalize hAe : va_A (wC y a z) s.heap.size = A at hD hg ⊢
  have hA : ∀ q : Nat, s.heap.size ≤ q → A q := fun q h => by rw [← hAe]; exact Or.inr h
  clear hAe hD0
  have hl := lv_entry ([.ref (a 52), .int x1]) (n := 2) (Nat.le_of_ble_eq_true rfl)
  rw [lg_entry_eq]
  generalize (lg_sl ([.ref (a 52), .int x1]) ++ List.replicate (2 - (lg_sl ([.ref (a 52), .int x1])).length) Slot.unset).toArray = ls at hl ⊢
  replace hl : lv_has ls 2 [(0, .ref (a 52)), (1, .int x1)] := hl
  refine zz_go (w := wC y a) hP hD va_S.rf hl (fun G hG => ?_)
  clear hP hD hl ls
  rw [hG]
  intro H locs ls hP hD hS hl
  unfold mX3_worth at hm
  refine lv_aload_n hx hb dX3_worth_0 rfl (lv_at hl 0 rfl) ?_
  refine va_get (D := D) (ci := 3) (v := .ref (a 55)) (C := RX3) (T := TX3) (N := 5) hx hb hts nX3_worth_X3 hown hK hP 52 (wC_52 y a z) rfl 2 (by decide) (hts (.fieldLink RX3 18 "WorksDesk$Changes" "quantities" "[I") (List.mem_of_getElem? (i := 1) rfl)) (fun _ h9 => h9) rfl dX3_worth_1 ?_
  refine lv_iload_n hx hb dX3_worth_4 rfl (lv_at hl 1 rfl) ?_
  obtain ⟨c1, hm⟩ := zz_ck_some hm
  refine va_iald hx hb hK hP 55 0 (wC_55 y a z) rfl c1 dX3_worth_5 ?_
  refine lv_i2l hx hb dX3_worth_6 rfl ?_
  refine lv_aload_n hx hb dX3_worth_7 rfl (lv_at hl 0 rfl) ?_
  refine va_get (D := D) (ci := 3) (v := .ref (a 56)) (C := RX3) (T := TX3) (N := 5) hx hb hts nX3_worth_X3 hown hK hP 52 (wC_52 y a z) rfl 3 (by decide) (hts (.fieldLink RX3 21 "WorksDesk$Changes" "prices" "[I") (List.mem_of_getElem? (i := 2) rfl)) (fun _ h9 => h9) rfl dX3_worth_8 ?_
  refine lv_iload_n hx hb dX3_worth_11 rfl (lv_at hl 1 rfl) ?_
  obtain ⟨c2, hm⟩ := zz_ck_some hm
  refine va_iald hx hb hK hP 56 0 (wC_56 y a z) rfl c2 dX3_worth_12 ?_
  refine lv_i2l hx hb dX3_worth_13 rfl ?_
  refine lv_lmul hx hb dX3_worth_14 ?_
  exact zz_lret hx hb hr hlocks ⟨zz_some1 hm, rfl⟩ hP hK hD hS dX3_worth_15
def mX3_worthTill_b34 (z : zz_M) (k5 : Int32 → Int64 → Int32 → Option Int64) (v1 : Int32) (v2 : Int64) (v4 : Int32) : Option Int64 := zz_nm (v4 + (1 : Int32)) (fun n1 => k5 v1 v2 n1)
def mX3_worthTill_b5 (z : zz_M) : Nat → Int32 → Int64 → Int32 → Option Int64
  | 0, _, _, _ => none
  | n + 1, v1, v2, v4 => if (z.2.2.1 3332) ≤ v4 then (some v2) else (zz_ck (zz_in v4 8) (if v1 < (z.1 53 v4.toNatClampNeg) then (mX3_worthTill_b34 z (mX3_worthTill_b5 z n) v1 v2 v4) else (zz_b1 (mX3_worth v4 z) (fun r5 => zz_nm (v2 + r5) (fun n7 => mX3_worthTill_b34 z (mX3_worthTill_b5 z n) v1 n7 v4)))))
def mX3_worthTill (x1 : Int32) (z : zz_M) : Option Int64 := mX3_worthTill_b5 z zz_N x1 (0 : Int64) (0 : Int32)
theorem nX3_worthTill_X3 : ∀ w ∈ wsX30, w ∈ wsX3_worthTill := fun _ h => List.mem_cons_of_mem _ (List.mem_append_right _ (h))
theorem zdX3_worthTill : yX3_worthTill.cls = RX3 ∧ yX3_worthTill.cls ≠ "java/lang/invoke/MethodHandle" ∧ yX3_worthTill.cls ≠ "java/lang/invoke/VarHandle" ∧ (parseMethodDescriptor yX3_worthTill.desc).map (fun d => d.parameters.length) = some 1 := by decide +kernel
set_option maxHeartbeats 4000000 in
set_option maxRecDepth 100000 in
theorem zX3_worthTill (l : Launch) (D : va_G) (y : Nat → ClassId) (a : Nat → Nat) (sz : Nat) (x1 : Int32) (z : zz_M) {r : Int64} (hm : mX3_worthTill x1 z = some r) : Met l yX3_worthTill wsX3_worthTill { frames := 1, cells := 0, slots := 0, locals := 21 } (zz_Pc D y (wC y a z) sz [.ref (a 52), .int x1]) (zz_Ql D y (wC y a) (va_A (wC y a z) sz) r z) 0 0 (va_A (wC y a z) sz) := by
  refine Met.ofW (cc := cX3_worthTill) (maxL := 5) (ret := (some .long)) (by decide) rfl ?_
  intro p e s m args below meth c s₁ B hml hv
  obtain ⟨rfl, hsz, hP, hK, hD0, hN, hg⟩ := hv
  have hx := B.exec
  have hb := B.bytes
  have hr := B.returns
  have hts := atoms_spec (ws := wsX3_worthTill) B.pre
  have hown : s.vm.findClass RX3 = some m.cls := findClass_of_methodNamed B.named
  have hlocks := B.notSynchronized
  clear B
  subst hsz
  have hD := hD0.self (sz := s.heap.size)
  generalize hAe : va_A (wC y a z) s.heap.size = A at hD hg ⊢
  have hA : ∀ q : Nat, s.heap.size ≤ q → A q := fun q h => by rw [← hAe]; exact Or.inr h
  clear hAe hD0
  have hl := lv_entry ([.ref (a 52), .int x1]) (n := 5) (Nat.le_of_ble_eq_true rfl)
  rw [lg_entry_eq]
  generalize (lg_sl ([.ref (a 52), .int x1]) ++ List.replicate (5 - (lg_sl ([.ref (a 52), .int x1])).length) Slot.unset).toArray = ls at hl ⊢
  replace hl : lv_has ls 5 [(0, .ref (a 52)), (1, .int x1)] := hl
  refine zz_go (w := wC y a) hP hD va_S.rf hl (fun G hG => ?_)
  clear hP hD hl ls
  have J34 : ∀ (k5 : Int32 → Int64 → Int32 → Option Int64) (K5 : ∀ (v1 : Int32) (v2 : Int64) (v4 : Int32), k5 v1 v2 v4 = some r → G 5 [(0, .ref (a 52)), (1, .int v1), (2, .long v2), (4, .int v4)] [] z) (v1 : Int32) (v2 : Int64) (v4 : Int32), mX3_worthTill_b34 z k5 v1 v2 v4 = some r → G 34 [(0, .ref (a 52)), (1, .int v1), (2, .long v2), (4, .int v4)] [] z := by
    intro k5 K5 v1 v2 v4 hm
    rw [mX3_worthTill_b34] at hm
    rw [hG]
    intro H locs ls hP hD hS hl
    obtain ⟨n1, en1⟩ : ∃ q : Int32, q = v4 + (1 : Int32) := ⟨_, rfl⟩
    replace hm := zz_nm_some en1 hm
    refine lv_iinc (v := n1) (lv' := [(4, .int n1), (0, .ref (a 52)), (1, .int v1), (2, .long v2)]) hx hb dX3_worthTill_34 hl (k := 3) rfl (by rw [en1]; rfl) (by decide) rfl (fun ls hl => ?_)
    refine lv_goto (tgt := 5) hx hb dX3_worthTill_37 (by decide) ?_
    have j := K5 v1 v2 n1 hm
    rw [hG] at j
    exact j H locs ls hP hD hS (lv_sub hl [1, 2, 3, 0] rfl)
  have J5 : ∀ (n : Nat) (v1 : Int32) (v2 : Int64) (v4 : Int32), mX3_worthTill_b5 z n v1 v2 v4 = some r → G 5 [(0, .ref (a 52)), (1, .int v1), (2, .long v2), (4, .int v4)] [] z := by
    intro n
    induction n with
    | zero =>
      intro v1 v2 v4 hm
      exact zz_none hm
    | succ n ih =>
      intro v1 v2 v4 hm
      rw [mX3_worthTill_b5] at hm
      rw [hG]
      intro H locs ls hP hD hS hl
      refine lv_iload hx hb dX3_worthTill_5 (lv_at hl 3 rfl) ?_
      refine lv_aload_n hx hb dX3_worthTill_7 rfl (lv_at hl 0 rfl) ?_
      refine va_get (D := D) (ci := 3) (v := .int (z.2.2.1 3332)) (C := RX3) (T := TX3) (N := 5) hx hb hts nX3_worthTill_X3 hown hK hP 52 (wC_52 y a z) rfl 4 (by decide) (hts (.fieldLink RX3 24 "WorksDesk$Changes" "size" "I") (List.mem_of_getElem? (i := 1) rfl)) (fun _ h9 => h9) rfl dX3_worthTill_8 ?_
      refine lv_icmp_ge (tgt := 40) hx hb dX3_worthTill_11 (by decide) (fun c2 => ?_) (fun c2 => ?_)
      · replace hm := zz_pos c2 hm
        refine lv_lload_n hx hb dX3_worthTill_40 rfl (lv_at hl 2 rfl) ?_
        exact zz_lret hx hb hr hlocks ⟨zz_some1 hm, rfl⟩ hP hK hD hS dX3_worthTill_41
      · replace hm := zz_neg c2 hm
        refine lv_aload_n hx hb dX3_worthTill_14 rfl (lv_at hl 0 rfl) ?_
        refine va_get (D := D) (ci := 3) (v := .ref (a 53)) (C := RX3) (T := TX3) (N := 5) hx hb hts nX3_worthTill_X3 hown hK hP 52 (wC_52 y a z) rfl 0 (by decide) (hts (.fieldLink RX3 9 "WorksDesk$Changes" "months" "[I") (List.mem_of_getElem? (i := 2) rfl)) (fun _ h9 => h9) rfl dX3_worthTill_15 ?_
        refine lv_iload hx hb dX3_worthTill_18 (lv_at hl 3 rfl) ?_
        obtain ⟨c3, hm⟩ := zz_ck_some hm
        refine va_iald hx hb hK hP 53 0 (wC_53 y a z) rfl c3 dX3_worthTill_20 ?_
        refine lv_iload_n hx hb dX3_worthTill_21 rfl (lv_at hl 1 rfl) ?_
        refine lv_icmp_gt (tgt := 34) hx hb dX3_worthTill_22 (by decide) (fun c4 => ?_) (fun c4 => ?_)
        · replace hm := zz_pos c4 hm
          have j := J34 (mX3_worthTill_b5 z n) ih v1 v2 v4 hm
          rw [hG] at j
          exact j H locs ls hP hD hS (lv_sub hl [0, 1, 2, 3] rfl)
        · replace hm := zz_neg c4 hm
          refine lv_lload_n hx hb dX3_worthTill_25 rfl (lv_at hl 2 rfl) ?_
          refine lv_aload_n hx hb dX3_worthTill_26 rfl (lv_at hl 0 rfl) ?_
          refine lv_iload hx hb dX3_worthTill_27 (lv_at hl 3 rfl) ?_
          obtain ⟨r5, h6, hm⟩ := zz_b1_some hm
          refine zz_calll (zz_runV (w := wC y a) (As := [.int v4]) (rest := [.long v2]) ⟨hx, hb, hml, hown, hts⟩ (zX3_worth l D y a H.size v4 z h6) (cwV 1 hts gX3_worthTill_X3_worth rfl rfl rfl zdX3_worth ⟨Nat.le_of_ble_eq_true rfl, Nat.le_of_ble_eq_true rfl⟩) hK hN hg hP hD hS hA 52 (wC_52 y a z) rfl rfl hl.1 rfl (Nat.le_of_ble_eq_true rfl) dX3_worthTill_29 ⟨Nat.le_of_ble_eq_true rfl, Nat.le_of_ble_eq_true rfl⟩) hD hS hA (fun H locs hP hD hS => ?_)
          refine lv_ladd hx hb dX3_worthTill_32 ?_
          refine lv_topl (fun n7 en7 => ?_)
          replace hm := zz_nm_some en7 hm
          refine lv_lstore_n (lv' := [(2, .long n7), (0, .ref (a 52)), (1, .int v1), (4, .int v4)]) hx hb dX3_worthTill_33 rfl hl (by decide) rfl (fun ls hl => ?_)
          have j := J34 (mX3_worthTill_b5 z n) ih v1 n7 v4 hm
          rw [hG] at j
          exact j H locs ls hP hD hS (lv_sub hl [1, 2, 0, 3] rfl)
  rw [hG]
  intro H locs ls hP hD hS hl
  unfold mX3_worthTill at hm
  refine lv_lconst (v := (0 : Int64)) hx hb dX3_worthTill_0 (by decide) ?_
  refine lv_lstore_n (lv' := [(2, .long (0 : Int64)), (0, .ref (a 52)), (1, .int x1)]) hx hb dX3_worthTill_1 rfl hl (by decide) rfl (fun ls hl => ?_)
  refine lv_iconst (v := (0 : Int32)) hx hb dX3_worthTill_2 (by decide) ?_
  refine lv_istore (lv' := [(4, .int (0 : Int32)), (2, .long (0 : Int64)), (0, .ref (a 52)), (1, .int x1)]) hx hb dX3_worthTill_3 hl (by decide) rfl (fun ls hl => ?_)
  have j := J5 zz_N x1 (0 : Int64) (0 : Int32) hm
  rw [hG] at j
  exact j H locs ls hP hD hS (lv_sub hl [2, 3, 1, 0] rfl)
def mX2_work_b12 (z : zz_M) : Nat → Int32 → Int64 → Int32 → Option Int64
  | 0, _, _, _ => none
  | n + 1, v1, v2, v4 => if (z.2.2.1 579) ≤ v4 then (some v2) else (zz_b1 (mX2_part v4 v1 z) (fun r2 => zz_nm (v2 + r2) (fun n4 => zz_nm (v4 + (1 : Int32)) (fun n5 => (mX2_work_b12 z n) v1 n4 n5))))
def mX2_work (x1 : Int32) (z : zz_M) : Option Int64 := zz_b1 (mX3_worthTill x1 z) (fun r6 => mX2_work_b12 z zz_N x1 r6 (0 : Int32))
theorem nX2_work_X0 : ∀ w ∈ wsX00, w ∈ wsX2_work := fun _ h => List.mem_cons_of_mem _ (List.mem_append_left _ (List.mem_append_left _ (List.mem_append_left _ (List.mem_append_right _ (h)))))
theorem nX2_work_X2 : ∀ w ∈ wsX20, w ∈ wsX2_work := fun _ h => List.mem_cons_of_mem _ (List.mem_append_left _ (List.mem_append_left _ (List.mem_append_left _ (List.mem_append_left _ (List.mem_append_right _ (h))))))
theorem zdX2_work : yX2_work.cls = RX2 ∧ yX2_work.cls ≠ "java/lang/invoke/MethodHandle" ∧ yX2_work.cls ≠ "java/lang/invoke/VarHandle" ∧ (parseMethodDescriptor yX2_work.desc).map (fun d => d.parameters.length) = some 1 := by decide +kernel
set_option maxHeartbeats 4000000 in
set_option maxRecDepth 100000 in
theorem zX2_work (l : Launch) (D : va_G) (y : Nat → ClassId) (a : Nat → Nat) (sz : Nat) (x1 : Int32) (z : zz_M) {r : Int64} (hm : mX2_work x1 z = some r) : Met l yX2_work wsX2_work { frames := 3, cells := 0, slots := 0, locals := 72 } (zz_Pc D y (wC y a z) sz [.ref (a 8), .int x1]) (zz_Ql D y (wC y a) (va_A (wC y a z) sz) r z) 0 0 (va_A (wC y a z) sz) := by
  refine Met.ofW (cc := cX2_work) (maxL := 5) (ret := (some .long)) (by decide) rfl ?_
  intro p e s m args below meth c s₁ B hml hv
  obtain ⟨rfl, hsz, hP, hK, hD0, hN, hg⟩ := hv
  have hx := B.exec
  have hb := B.bytes
  have hr := B.returns
  have hts := atoms_spec (ws := wsX2_work) B.pre
  have hown : s.vm.findClass RX2 = some m.cls := findClass_of_methodNamed B.named
  have hlocks := B.notSynchronized
  clear B
  subst hsz
  have hD := hD0.self (sz := s.heap.size)
  generalize hAe : va_A (wC y a z) s.heap.size = A at hD hg ⊢
  have hA : ∀ q : Nat, s.heap.size ≤ q → A q := fun q h => by rw [← hAe]; exact Or.inr h
  clear hAe hD0
  have hl := lv_entry ([.ref (a 8), .int x1]) (n := 5) (Nat.le_of_ble_eq_true rfl)
  rw [lg_entry_eq]
  generalize (lg_sl ([.ref (a 8), .int x1]) ++ List.replicate (5 - (lg_sl ([.ref (a 8), .int x1])).length) Slot.unset).toArray = ls at hl ⊢
  replace hl : lv_has ls 5 [(0, .ref (a 8)), (1, .int x1)] := hl
  refine zz_go (w := wC y a) hP hD va_S.rf hl (fun G hG => ?_)
  clear hP hD hl ls
  have J12 : ∀ (n : Nat) (v1 : Int32) (v2 : Int64) (v4 : Int32), mX2_work_b12 z n v1 v2 v4 = some r → G 12 [(0, .ref (a 8)), (1, .int v1), (2, .long v2), (4, .int v4)] [] z := by
    intro n
    induction n with
    | zero =>
      intro v1 v2 v4 hm
      exact zz_none hm
    | succ n ih =>
      intro v1 v2 v4 hm
      rw [mX2_work_b12] at hm
      rw [hG]
      intro H locs ls hP hD hS hl
      refine lv_iload hx hb dX2_work_12 (lv_at hl 3 rfl) ?_
      refine lv_aload_n hx hb dX2_work_14 rfl (lv_at hl 0 rfl) ?_
      refine va_get (D := D) (ci := 2) (v := .ref (a 9)) (C := RX2) (T := TX2) (N := 12) hx hb hts nX2_work_X2 hown hK hP 8 (wC_8 y a z) rfl 0 (by decide) (hts (.fieldLink RX2 12 "WorksDesk$Book" "items" "LWorksDesk$Bill;") (List.mem_of_getElem? (i := 2) rfl)) (fun _ h9 => h9) rfl dX2_work_15 ?_
      refine va_get (D := D) (ci := 0) (v := .int (z.2.2.1 579)) (C := RX0) (T := TX0) (N := 5) hx hb hts nX2_work_X0 hown hK hP 9 (wC_bill y a z 9 (Or.inr rfl)) rfl 3 (by decide) (hts (.fieldLink RX2 93 "WorksDesk$Bill" "size" "I") (List.mem_of_getElem? (i := 3) rfl)) (fun _ h9 => h9) rfl dX2_work_18 ?_
      refine lv_icmp_ge (tgt := 40) hx hb dX2_work_21 (by decide) (fun c1 => ?_) (fun c1 => ?_)
      · replace hm := zz_pos c1 hm
        refine lv_lload_n hx hb dX2_work_40 rfl (lv_at hl 2 rfl) ?_
        exact zz_lret hx hb hr hlocks ⟨zz_some1 hm, rfl⟩ hP hK hD hS dX2_work_41
      · replace hm := zz_neg c1 hm
        refine lv_lload_n hx hb dX2_work_24 rfl (lv_at hl 2 rfl) ?_
        refine lv_aload_n hx hb dX2_work_25 rfl (lv_at hl 0 rfl) ?_
        refine lv_iload hx hb dX2_work_26 (lv_at hl 3 rfl) ?_
        refine lv_iload_n hx hb dX2_work_28 rfl (lv_at hl 1 rfl) ?_
        obtain ⟨r2, h3, hm⟩ := zz_b1_some hm
        refine zz_calll (zz_runV (w := wC y a) (As := [.int v4, .int v1]) (rest := [.long v2]) ⟨hx, hb, hml, hown, hts⟩ (zX2_part l D y a H.size v4 v1 z h3) (cwV 2 hts gX2_work_X2_part rfl rfl rfl zdX2_part ⟨Nat.le_of_ble_eq_true rfl, Nat.le_of_ble_eq_true rfl⟩) hK hN hg hP hD hS hA 8 (wC_8 y a z) rfl rfl hl.1 rfl (Nat.le_of_ble_eq_true rfl) dX2_work_29 ⟨Nat.le_of_ble_eq_true rfl, Nat.le_of_ble_eq_true rfl⟩) hD hS hA (fun H locs hP hD hS => ?_)
        refine lv_ladd hx hb dX2_work_32 ?_
        refine lv_topl (fun n4 en4 => ?_)
        replace hm := zz_nm_some en4 hm
        refine lv_lstore_n (lv' := [(2, .long n4), (0, .ref (a 8)), (1, .int v1), (4, .int v4)]) hx hb dX2_work_33 rfl hl (by decide) rfl (fun ls hl => ?_)
        obtain ⟨n5, en5⟩ : ∃ q : Int32, q = v4 + (1 : Int32) := ⟨_, rfl⟩
        replace hm := zz_nm_some en5 hm
        refine lv_iinc (v := n5) (lv' := [(4, .int n5), (2, .long n4), (0, .ref (a 8)), (1, .int v1)]) hx hb dX2_work_34 hl (k := 3) rfl (by rw [en5]; rfl) (by decide) rfl (fun ls hl => ?_)
        refine lv_goto (tgt := 12) hx hb dX2_work_37 (by decide) ?_
        have j := ih v1 n4 n5 hm
        rw [hG] at j
        exact j H locs ls hP hD hS (lv_sub hl [2, 3, 1, 0] rfl)
  rw [hG]
  intro H locs ls hP hD hS hl
  unfold mX2_work at hm
  refine lv_aload_n hx hb dX2_work_0 rfl (lv_at hl 0 rfl) ?_
  refine va_get (D := D) (ci := 2) (v := .ref (a 52)) (C := RX2) (T := TX2) (N := 12) hx hb hts nX2_work_X2 hown hK hP 8 (wC_8 y a z) rfl 5 (by decide) (hts (.fieldLink RX2 44 "WorksDesk$Book" "changes" "LWorksDesk$Changes;") (List.mem_of_getElem? (i := 1) rfl)) (fun _ h9 => h9) rfl dX2_work_1 ?_
  refine lv_iload_n hx hb dX2_work_4 rfl (lv_at hl 1 rfl) ?_
  obtain ⟨r6, h7, hm⟩ := zz_b1_some hm
  refine zz_calll (zz_runV (w := wC y a) (As := [.int x1]) (rest := []) ⟨hx, hb, hml, hown, hts⟩ (zX3_worthTill l D y a H.size x1 z h7) (cwV 1 hts gX2_work_X3_worthTill rfl rfl rfl zdX3_worthTill ⟨Nat.le_of_ble_eq_true rfl, Nat.le_of_ble_eq_true rfl⟩) hK hN hg hP hD hS hA 52 (wC_52 y a z) rfl rfl hl.1 rfl (Nat.le_of_ble_eq_true rfl) dX2_work_5 ⟨Nat.le_of_ble_eq_true rfl, Nat.le_of_ble_eq_true rfl⟩) hD hS hA (fun H locs hP hD hS => ?_)
  refine lv_lstore_n (lv' := [(2, .long r6), (0, .ref (a 8)), (1, .int x1)]) hx hb dX2_work_8 rfl hl (by decide) rfl (fun ls hl => ?_)
  refine lv_iconst (v := (0 : Int32)) hx hb dX2_work_9 (by decide) ?_
  refine lv_istore (lv' := [(4, .int (0 : Int32)), (2, .long r6), (0, .ref (a 8)), (1, .int x1)]) hx hb dX2_work_10 hl (by decide) rfl (fun ls hl => ?_)
  have j := J12 zz_N x1 r6 (0 : Int32) hm
  rw [hG] at j
  exact j H locs ls hP hD hS (lv_sub hl [2, 3, 1, 0] rfl)
def mX4_ahead_b18 (ff : Nat) (z : zz_M) (t0 : Int64) : Option Int64 := some t0
def mX4_ahead (ff : Nat) (x1 : Int32) (x2 : Int32) (z : zz_M) : Option Int64 := if x2 ≤ (0 : Int32) then (mX4_ahead_b18 ff z (0 : Int64)) else (zz_ck (zz_in x1 15) (zz_ck (zz_in (x2 - (1 : Int32)) 24) (mX4_ahead_b18 ff z (z.2.1 (ff + 2 + x1.toNatClampNeg) (x2 - (1 : Int32)).toNatClampNeg))))
theorem nX4_ahead_X4 : ∀ w ∈ wsX40, w ∈ wsX4_ahead := fun _ h => List.mem_cons_of_mem _ (List.mem_append_right _ (h))
theorem zdX4_ahead : yX4_ahead.cls = RX4 ∧ yX4_ahead.cls ≠ "java/lang/invoke/MethodHandle" ∧ yX4_ahead.cls ≠ "java/lang/invoke/VarHandle" ∧ (parseMethodDescriptor yX4_ahead.desc).map (fun d => d.parameters.length) = some 2 := by decide +kernel
set_option maxHeartbeats 4000000 in
set_option maxRecDepth 100000 in
theorem zX4_ahead (l : Launch) (D : va_G) (y : Nat → ClassId) (a : Nat → Nat) (sz : Nat) (ff : Nat) (x1 : Int32) (x2 : Int32) (hff : ff = 64 ∨ ff = 81) (z : zz_M) {r : Int64} (hm : mX4_ahead ff x1 x2 z = some r) : Met l yX4_ahead wsX4_ahead { frames := 0, cells := 0, slots := 0, locals := 0 } (zz_Pc D y (wC y a z) sz [.ref (a ff), .int x1, .int x2]) (zz_Ql D y (wC y a) (va_A (wC y a z) sz) r z) 0 0 (va_A (wC y a z) sz) := by
  refine Met.ofW (cc := cX4_ahead) (maxL := 3) (ret := (some .long)) (by decide) rfl ?_
  intro p e s m args below meth c s₁ B hml hv
  obtain ⟨rfl, hsz, hP, hK, hD0, hN, hg⟩ := hv
  have hx := B.exec
  have hb := B.bytes
  have hr := B.returns
  have hts := atoms_spec (ws := wsX4_ahead) B.pre
  have hown : s.vm.findClass RX4 = some m.cls := findClass_of_methodNamed B.named
  have hlocks := B.notSynchronized
  clear B
  subst hsz
  have hD := hD0.self (sz := s.heap.size)
  generalize hAe : va_A (wC y a z) s.heap.size = A at hD hg ⊢
  have hA : ∀ q : Nat, s.heap.size ≤ q → A q := fun q h => by rw [← hAe]; exact Or.inr h
  clear hAe hD0
  have hl := lv_entry ([.ref (a ff), .int x1, .int x2]) (n := 3) (Nat.le_of_ble_eq_true rfl)
  rw [lg_entry_eq]
  generalize (lg_sl ([.ref (a ff), .int x1, .int x2]) ++ List.replicate (3 - (lg_sl ([.ref (a ff), .int x1, .int x2])).length) Slot.unset).toArray = ls at hl ⊢
  replace hl : lv_has ls 3 [(0, .ref (a ff)), (1, .int x1), (2, .int x2)] := hl
  refine zz_go (w := wC y a) hP hD va_S.rf hl (fun G hG => ?_)
  clear hP hD hl ls
  have J18 : ∀ (t0 : Int64), mX4_ahead_b18 ff z t0 = some r → G 18 [] [.long t0] z := by
    intro t0 hm
    rw [mX4_ahead_b18] at hm
    rw [hG]
    intro H locs ls hP hD hS hl
    exact zz_lret hx hb hr hlocks ⟨zz_some1 hm, rfl⟩ hP hK hD hS dX4_ahead_18
  rw [hG]
  intro H locs ls hP hD hS hl
  unfold mX4_ahead at hm
  refine lv_iload_n hx hb dX4_ahead_0 rfl (lv_at hl 2 rfl) ?_
  refine lv_if_le (tgt := 17) hx hb dX4_ahead_1 (by decide) (fun c1 => ?_) (fun c1 => ?_)
  · replace hm := zz_pos c1 hm
    refine lv_lconst (v := (0 : Int64)) hx hb dX4_ahead_17 (by decide) ?_
    have j := J18 (0 : Int64) hm
    rw [hG] at j
    exact j H locs ls hP hD hS (lv_sub hl [] rfl)
  · replace hm := zz_neg c1 hm
    refine lv_aload_n hx hb dX4_ahead_4 rfl (lv_at hl 0 rfl) ?_
    refine va_get (D := D) (ci := 4) (v := .ref (a (ff + 1))) (C := RX4) (T := TX4) (N := 1) hx hb hts nX4_ahead_X4 hown hK hP ff (wC_fig y a z ff hff) rfl 0 (by decide) (hts (.fieldLink RX4 11 "WorksDesk$Figures" "rows" "[[J") (List.mem_of_getElem? (i := 1) rfl)) (fun _ h9 => h9) rfl dX4_ahead_5 ?_
    refine lv_iload_n hx hb dX4_ahead_8 rfl (lv_at hl 1 rfl) ?_
    obtain ⟨c2, hm⟩ := zz_ck_some hm
    refine zz_aldA hx hb hK hP (ff + 1) 4 (wC_figR y a z ff hff) rfl c2 dX4_ahead_9 ?_
    refine W.eq (g2 := F0 m 10 ls [.ref (a (ff + 2 + x1.toNatClampNeg))]) rfl ?_
    refine lv_iload_n hx hb dX4_ahead_10 rfl (lv_at hl 2 rfl) ?_
    refine lv_iconst (v := (1 : Int32)) hx hb dX4_ahead_11 (by decide) ?_
    refine lv_isub hx hb dX4_ahead_12 ?_
    obtain ⟨c3, hm⟩ := zz_ck_some hm
    refine va_lald hx hb hK hP (ff + 2 + x1.toNatClampNeg) 1 (wC_row y a z ff x1.toNatClampNeg hff (zz_lt c2 (by decide))) rfl c3 dX4_ahead_13 ?_
    refine lv_goto (tgt := 18) hx hb dX4_ahead_14 (by decide) ?_
    have j := J18 (z.2.1 (ff + 2 + x1.toNatClampNeg) (x2 - (1 : Int32)).toNatClampNeg) hm
    rw [hG] at j
    exact j H locs ls hP hD hS (lv_sub hl [] rfl)
def mX4_reckonCertified_b32 (ff : Nat) (v2 : Int32) (v3 : Int64) (z : zz_M) : Option (Unit × zz_M) := zz_ck (zz_in (7 : Int32) 15) (zz_ck (zz_in v2 24) (zz_nm (zz_wJ z (ff + 2 + (7 : Int32).toNatClampNeg) v2 v3) (fun z3 => zz_ck (zz_in (8 : Int32) 15) (zz_b1 (mX4_ahead ff (8 : Int32) v2 z3) (fun r5 => zz_ck (zz_in v2 24) (zz_nm (zz_wJ z3 (ff + 2 + (8 : Int32).toNatClampNeg) v2 (r5 + v3)) (fun z8 => some ((), z8))))))))
def mX4_reckonCertified (ff : Nat) (x2 : Int32) (z : zz_M) : Option (Unit × zz_M) := zz_b1 (mX4_of ff (6 : Int32) x2 z) (fun r9 => zz_b1 (mX4_ahead ff (8 : Int32) x2 z) (fun r11 => zz_nm (r9 - r11) (fun n13 => if (0 : Int32) ≤ (lg_cmp n13 (0 : Int64)) then (mX4_reckonCertified_b32 ff x2 n13 z) else (if (z.2.2.1 521) ≤ x2 then (mX4_reckonCertified_b32 ff x2 n13 z) else (mX4_reckonCertified_b32 ff x2 (0 : Int64) z)))))
theorem nX4_reckonCertified_X2 : ∀ w ∈ wsX20, w ∈ wsX4_reckonCertified := fun _ h => List.mem_cons_of_mem _ (List.mem_append_left _ (List.mem_append_right _ (h)))
theorem nX4_reckonCertified_X4 : ∀ w ∈ wsX40, w ∈ wsX4_reckonCertified := fun _ h => List.mem_cons_of_mem _ (List.mem_append_right _ (h))
theorem zdX4_reckonCertified : yX4_reckonCertified.cls = RX4 ∧ yX4_reckonCertified.cls ≠ "java/lang/invoke/MethodHandle" ∧ yX4_reckonCertified.cls ≠ "java/lang/invoke/VarHandle" ∧ (parseMethodDescriptor yX4_reckonCertified.desc).map (fun d => d.parameters.length) = some 2 := by decide +kernel
set_option maxHeartbeats 4000000 in
set_option maxRecDepth 100000 in
theorem zX4_reckonCertified (l : Launch) (D : va_G) (y : Nat → ClassId) (a : Nat → Nat) (sz : Nat) (ff : Nat) (x2 : Int32) (hff : ff = 64 ∨ ff = 81) (z : zz_M) {r : Unit} {zt : zz_M} (hm : mX4_reckonCertified ff x2 z = some (r, zt)) : Met l yX4_reckonCertified wsX4_reckonCertified { frames := 1, cells := 0, slots := 0, locals := 22 } (zz_Pc D y (wC y a z) sz [.ref (a ff), .ref (a 8), .int x2]) (zz_Qv D y (wC y a) (va_A (wC y a z) sz) zt) 0 0 (va_A (wC y a z) sz) := by
  refine Met.ofW (cc := cX4_reckonCertified) (maxL := 5) (ret := none) (by decide) rfl ?_
  intro p e s m args below meth c s₁ B hml hv
  obtain ⟨rfl, hsz, hP, hK, hD0, hN, hg⟩ := hv
  have hx := B.exec
  have hb := B.bytes
  have hr := B.returns
  have hts := atoms_spec (ws := wsX4_reckonCertified) B.pre
  have hown : s.vm.findClass RX4 = some m.cls := findClass_of_methodNamed B.named
  have hlocks := B.notSynchronized
  clear B
  subst hsz
  have hD := hD0.self (sz := s.heap.size)
  generalize hAe : va_A (wC y a z) s.heap.size = A at hD hg ⊢
  have hA : ∀ q : Nat, s.heap.size ≤ q → A q := fun q h => by rw [← hAe]; exact Or.inr h
  clear hAe hD0
  have hl := lv_entry ([.ref (a ff), .ref (a 8), .int x2]) (n := 5) (Nat.le_of_ble_eq_true rfl)
  rw [lg_entry_eq]
  generalize (lg_sl ([.ref (a ff), .ref (a 8), .int x2]) ++ List.replicate (5 - (lg_sl ([.ref (a ff), .ref (a 8), .int x2])).length) Slot.unset).toArray = ls at hl ⊢
  replace hl : lv_has ls 5 [(0, .ref (a ff)), (1, .ref (a 8)), (2, .int x2)] := hl
  refine zz_go (w := wC y a) hP hD va_S.rf hl (fun G hG => ?_)
  clear hP hD hl ls
  have J32 : ∀ (v2 : Int32) (v3 : Int64) (z : zz_M), mX4_reckonCertified_b32 ff v2 v3 z = some (r, zt) → G 32 [(0, .ref (a ff)), (2, .int v2), (3, .long v3)] [] z := by
    intro v2 v3 z hm
    rw [mX4_reckonCertified_b32] at hm
    rw [hG]
    intro H locs ls hP hD hS hl
    refine lv_aload_n hx hb dX4_reckonCertified_32 rfl (lv_at hl 0 rfl) ?_
    refine va_get (D := D) (ci := 4) (v := .ref (a (ff + 1))) (C := RX4) (T := TX4) (N := 1) hx hb hts nX4_reckonCertified_X4 hown hK hP ff (wC_fig y a z ff hff) rfl 0 (by decide) (hts (.fieldLink RX4 11 "WorksDesk$Figures" "rows" "[[J") (List.mem_of_getElem? (i := 2) rfl)) (fun _ h9 => h9) rfl dX4_reckonCertified_33 ?_
    refine lv_bipush (v := (7 : Int32)) hx hb dX4_reckonCertified_36 (by decide) ?_
    obtain ⟨c1, hm⟩ := zz_ck_some hm
    refine zz_aldA hx hb hK hP (ff + 1) 4 (wC_figR y a z ff hff) rfl c1 dX4_reckonCertified_38 ?_
    refine W.eq (g2 := F0 m 39 ls [.ref (a (ff + 2 + (7 : Int32).toNatClampNeg))]) rfl ?_
    refine lv_iload_n hx hb dX4_reckonCertified_39 rfl (lv_at hl 1 rfl) ?_
    refine lv_lload_n hx hb dX4_reckonCertified_40 rfl (lv_at hl 2 rfl) ?_
    obtain ⟨c2, hm⟩ := zz_ck_some hm
    refine va_last hx hb hK hP hD hS (ff + 2 + (7 : Int32).toNatClampNeg) 1 (wC_row y a z ff ((7 : Int32).toNatClampNeg) hff (zz_lt c1 (by decide))) rfl c2 dX4_reckonCertified_41 (fun H locs hP hD hS => ?_)
    obtain ⟨z3, hP, hD, hm⟩ := zz_up (w := wC y a) (wC_roww y a z v2 v3 ff ((7 : Int32).toNatClampNeg) hff (zz_lt c1 (by decide))) hP hD hm
    refine lv_aload_n hx hb dX4_reckonCertified_42 rfl (lv_at hl 0 rfl) ?_
    refine va_get (D := D) (ci := 4) (v := .ref (a (ff + 1))) (C := RX4) (T := TX4) (N := 1) hx hb hts nX4_reckonCertified_X4 hown hK hP ff (wC_fig y a z3 ff hff) rfl 0 (by decide) (hts (.fieldLink RX4 11 "WorksDesk$Figures" "rows" "[[J") (List.mem_of_getElem? (i := 2) rfl)) (fun _ h9 => h9) rfl dX4_reckonCertified_43 ?_
    refine lv_bipush (v := (8 : Int32)) hx hb dX4_reckonCertified_46 (by decide) ?_
    obtain ⟨c4, hm⟩ := zz_ck_some hm
    refine zz_aldA hx hb hK hP (ff + 1) 4 (wC_figR y a z3 ff hff) rfl c4 dX4_reckonCertified_48 ?_
    refine W.eq (g2 := F0 m 49 ls [.ref (a (ff + 2 + (8 : Int32).toNatClampNeg))]) rfl ?_
    refine lv_iload_n hx hb dX4_reckonCertified_49 rfl (lv_at hl 1 rfl) ?_
    refine lv_aload_n hx hb dX4_reckonCertified_50 rfl (lv_at hl 0 rfl) ?_
    refine lv_bipush (v := (8 : Int32)) hx hb dX4_reckonCertified_51 (by decide) ?_
    refine lv_iload_n hx hb dX4_reckonCertified_53 rfl (lv_at hl 1 rfl) ?_
    obtain ⟨r5, h6, hm⟩ := zz_b1_some hm
    refine zz_calll (zz_runV (w := wC y a) (As := [.int (8 : Int32), .int v2]) (rest := [.int v2, .ref (a (ff + 2 + (8 : Int32).toNatClampNeg))]) ⟨hx, hb, hml, hown, hts⟩ (zX4_ahead l D y a H.size ff (8 : Int32) v2 hff z3 h6) (cwV 2 hts gX4_reckonCertified_X4_ahead rfl rfl rfl zdX4_ahead ⟨Nat.le_of_ble_eq_true rfl, Nat.le_of_ble_eq_true rfl⟩) hK hN hg hP hD hS hA ff (wC_fig y a z3 ff hff) rfl rfl hl.1 rfl (Nat.le_of_ble_eq_true rfl) dX4_reckonCertified_54 ⟨Nat.le_of_ble_eq_true rfl, Nat.le_of_ble_eq_true rfl⟩) hD hS hA (fun H locs hP hD hS => ?_)
    refine lv_lload_n hx hb dX4_reckonCertified_57 rfl (lv_at hl 2 rfl) ?_
    refine lv_ladd hx hb dX4_reckonCertified_58 ?_
    obtain ⟨c7, hm⟩ := zz_ck_some hm
    refine va_last hx hb hK hP hD hS (ff + 2 + (8 : Int32).toNatClampNeg) 1 (wC_row y a z3 ff ((8 : Int32).toNatClampNeg) hff (zz_lt c4 (by decide))) rfl c7 dX4_reckonCertified_59 (fun H locs hP hD hS => ?_)
    obtain ⟨z8, hP, hD, hm⟩ := zz_up (w := wC y a) (wC_roww y a z3 v2 (r5 + v3) ff ((8 : Int32).toNatClampNeg) hff (zz_lt c4 (by decide))) hP hD hm
    exact zz_vret hx hb hr hlocks (zz_some2 hm).2 hP hK hD hS dX4_reckonCertified_60
  rw [hG]
  intro H locs ls hP hD hS hl
  unfold mX4_reckonCertified at hm
  refine lv_aload_n hx hb dX4_reckonCertified_0 rfl (lv_at hl 0 rfl) ?_
  refine lv_bipush (v := (6 : Int32)) hx hb dX4_reckonCertified_1 (by decide) ?_
  refine lv_iload_n hx hb dX4_reckonCertified_3 rfl (lv_at hl 2 rfl) ?_
  obtain ⟨r9, h10, hm⟩ := zz_b1_some hm
  refine zz_calll (zz_runV (w := wC y a) (As := [.int (6 : Int32), .int x2]) (rest := []) ⟨hx, hb, hml, hown, hts⟩ (zX4_of l D y a H.size ff (6 : Int32) x2 hff z h10) (cwV 2 hts gX4_reckonCertified_X4_of rfl rfl rfl zdX4_of ⟨Nat.le_of_ble_eq_true rfl, Nat.le_of_ble_eq_true rfl⟩) hK hN hg hP hD hS hA ff (wC_fig y a z ff hff) rfl rfl hl.1 rfl (Nat.le_of_ble_eq_true rfl) dX4_reckonCertified_4 ⟨Nat.le_of_ble_eq_true rfl, Nat.le_of_ble_eq_true rfl⟩) hD hS hA (fun H locs hP hD hS => ?_)
  refine lv_aload_n hx hb dX4_reckonCertified_7 rfl (lv_at hl 0 rfl) ?_
  refine lv_bipush (v := (8 : Int32)) hx hb dX4_reckonCertified_8 (by decide) ?_
  refine lv_iload_n hx hb dX4_reckonCertified_10 rfl (lv_at hl 2 rfl) ?_
  obtain ⟨r11, h12, hm⟩ := zz_b1_some hm
  refine zz_calll (zz_runV (w := wC y a) (As := [.int (8 : Int32), .int x2]) (rest := [.long r9]) ⟨hx, hb, hml, hown, hts⟩ (zX4_ahead l D y a H.size ff (8 : Int32) x2 hff z h12) (cwV 2 hts gX4_reckonCertified_X4_ahead rfl rfl rfl zdX4_ahead ⟨Nat.le_of_ble_eq_true rfl, Nat.le_of_ble_eq_true rfl⟩) hK hN hg hP hD hS hA ff (wC_fig y a z ff hff) rfl rfl hl.1 rfl (Nat.le_of_ble_eq_true rfl) dX4_reckonCertified_11 ⟨Nat.le_of_ble_eq_true rfl, Nat.le_of_ble_eq_true rfl⟩) hD hS hA (fun H locs hP hD hS => ?_)
  refine lv_lsub hx hb dX4_reckonCertified_14 ?_
  refine lv_topl (fun n13 en13 => ?_)
  replace hm := zz_nm_some en13 hm
  refine lv_lstore_n (lv' := [(3, .long n13), (0, .ref (a ff)), (1, .ref (a 8)), (2, .int x2)]) hx hb dX4_reckonCertified_15 rfl hl (by decide) rfl (fun ls hl => ?_)
  refine lv_lload_n hx hb dX4_reckonCertified_16 rfl (lv_at hl 0 rfl) ?_
  refine lv_lconst (v := (0 : Int64)) hx hb dX4_reckonCertified_17 (by decide) ?_
  refine W.lcmp hx hb dX4_reckonCertified_18 ?_
  refine lv_if_ge (tgt := 32) hx hb dX4_reckonCertified_19 (by decide) (fun c14 => ?_) (fun c14 => ?_)
  · replace hm := zz_pos c14 hm
    have j := J32 x2 n13 z hm
    rw [hG] at j
    exact j H locs ls hP hD hS (lv_sub hl [1, 3, 0] rfl)
  · replace hm := zz_neg c14 hm
    refine lv_iload_n hx hb dX4_reckonCertified_22 rfl (lv_at hl 3 rfl) ?_
    refine lv_aload_n hx hb dX4_reckonCertified_23 rfl (lv_at hl 2 rfl) ?_
    refine va_get (D := D) (ci := 2) (v := .int (z.2.2.1 521)) (C := RX2) (T := TX2) (N := 12) hx hb hts nX4_reckonCertified_X2 hown hK hP 8 (wC_8 y a z) rfl 9 (by decide) (hts (.fieldLink RX4 96 "WorksDesk$Book" "closed" "I") (List.mem_of_getElem? (i := 1) rfl)) (fun _ h9 => h9) rfl dX4_reckonCertified_24 ?_
    refine lv_icmp_ge (tgt := 32) hx hb dX4_reckonCertified_27 (by decide) (fun c15 => ?_) (fun c15 => ?_)
    · replace hm := zz_pos c15 hm
      have j := J32 x2 n13 z hm
      rw [hG] at j
      exact j H locs ls hP hD hS (lv_sub hl [1, 3, 0] rfl)
    · replace hm := zz_neg c15 hm
      refine lv_lconst (v := (0 : Int64)) hx hb dX4_reckonCertified_30 (by decide) ?_
      refine lv_lstore_n (lv' := [(3, .long (0 : Int64)), (0, .ref (a ff)), (1, .ref (a 8)), (2, .int x2)]) hx hb dX4_reckonCertified_31 rfl hl (by decide) rfl (fun ls hl => ?_)
      have j := J32 x2 (0 : Int64) z hm
      rw [hG] at j
      exact j H locs ls hP hD hS (lv_sub hl [1, 3, 0] rfl)
def mX4_reckonDebt_b158 (ff : Nat) (gq : Nat) (z : zz_M) : Option (Unit × zz_M) := some ((), z)
def mX4_reckonDebt_b71 (ff : Nat) (gq : Nat) (k10 : Int32 → Int32 → zz_M → Option (Unit × zz_M)) (v3 : Int32) (v4 : Int32) (t0 : Int64) (z : zz_M) : Option (Unit × zz_M) := zz_ck (zz_in (9 : Int32) 15) (zz_b1 (mX4_of ff (12 : Int32) v4 z) (fun r2 => zz_ck (zz_in v4 24) (zz_nm (zz_wJ z (ff + 2 + (9 : Int32).toNatClampNeg) v4 (if (t0 - r2) < (0 : Int64) then (0 : Int64) else (t0 - r2))) (fun z5 => zz_ck (zz_in (10 : Int32) 15) (zz_b1 (mX8_of (7 : Int32) z5) (fun r7 => zz_b1 (mX4_of ff (9 : Int32) v4 z5) (fun r9 => zz_b1 (mX10_thousandths r7 r9) (fun r11 => zz_ck (zz_in v4 24) (zz_nm (zz_wJ z5 (ff + 2 + (10 : Int32).toNatClampNeg) v4 r11) (fun z14 => zz_ck (zz_in (11 : Int32) 15) (zz_b1 (mX4_ahead ff (11 : Int32) v4 z14) (fun r16 => zz_b1 (mX4_of ff (10 : Int32) v4 z14) (fun r18 => zz_ck (zz_in v4 24) (zz_nm (zz_wJ z14 (ff + 2 + (11 : Int32).toNatClampNeg) v4 (r16 + r18)) (fun z21 => zz_nm (v4 + (1 : Int32)) (fun n22 => k10 v3 n22 z21))))))))))))))))
def mX4_reckonDebt_b70 (ff : Nat) (gq : Nat) (k10 : Int32 → Int32 → zz_M → Option (Unit × zz_M)) (v3 : Int32) (v4 : Int32) (z : zz_M) : Option (Unit × zz_M) := mX4_reckonDebt_b71 ff gq k10 v3 v4 (0 : Int64) z
def mX4_reckonDebt_b10 (ff : Nat) (gq : Nat) : Nat → Int32 → Int32 → zz_M → Option (Unit × zz_M)
  | 0, _, _, _ => none
  | n + 1, v3, v4, z => if (24 : Int32) ≤ v4 then (mX4_reckonDebt_b158 ff gq z) else (if (24 : Int32) ≤ v4 then (mX4_reckonDebt_b158 ff gq z) else (zz_ck (zz_in (12 : Int32) 15) (zz_b1 (mX4_ahead ff (12 : Int32) v4 z) (fun r26 => zz_ck (zz_in v4 24) (zz_ck (zz_in v4 24) (zz_nm (zz_wJ z (ff + 2 + (12 : Int32).toNatClampNeg) v4 (r26 + (z.2.1 gq v4.toNatClampNeg))) (fun z30 => if v4 < v3 then (mX4_reckonDebt_b70 ff gq (mX4_reckonDebt_b10 ff gq n) v3 v4 z30) else (if v3 < (0 : Int32) then (mX4_reckonDebt_b70 ff gq (mX4_reckonDebt_b10 ff gq n) v3 v4 z30) else (zz_b1 (mX4_of ff (8 : Int32) (v4 - v3) z30) (fun r33 => mX4_reckonDebt_b71 ff gq (mX4_reckonDebt_b10 ff gq n) v3 v4 r33 z30))))))))))
def mX4_reckonDebt (ff : Nat) (gq : Nat) (z : zz_M) : Option (Unit × zz_M) := zz_b1 (mX8_of (8 : Int32) z) (fun r35 => mX4_reckonDebt_b10 ff gq zz_N r35 (0 : Int32) z)
theorem nX4_reckonDebt_X4 : ∀ w ∈ wsX40, w ∈ wsX4_reckonDebt := fun _ h => List.mem_cons_of_mem _ (List.mem_append_left _ (List.mem_append_right _ (h)))
theorem zdX4_reckonDebt : yX4_reckonDebt.cls = RX4 ∧ yX4_reckonDebt.cls ≠ "java/lang/invoke/MethodHandle" ∧ yX4_reckonDebt.cls ≠ "java/lang/invoke/VarHandle" ∧ (parseMethodDescriptor yX4_reckonDebt.desc).map (fun d => d.parameters.length) = some 2 := by decide +kernel
set_option maxHeartbeats 4000000 in
set_option maxRecDepth 100000 in
theorem zX4_reckonDebt (l : Launch) (D : va_G) (y : Nat → ClassId) (a : Nat → Nat) (sz : Nat) (ff : Nat) (gq : Nat) (hff : ff = 64 ∨ ff = 81) (hgq : gq = 63 ∨ gq = 98) (z : zz_M) {r : Unit} {zt : zz_M} (hm : mX4_reckonDebt ff gq z = some (r, zt)) : Met l yX4_reckonDebt wsX4_reckonDebt { frames := 1, cells := 0, slots := 0, locals := 24 } (zz_Pc D y (wC y a z) sz [.ref (a ff), .ref (a 13), .ref (a gq)]) (zz_Qv D y (wC y a) (va_A (wC y a z) sz) zt) 0 0 (va_A (wC y a z) sz) := by
  refine Met.ofW (cc := cX4_reckonDebt) (maxL := 7) (ret := none) (by decide) rfl ?_
  intro p e s m args below meth c s₁ B hml hv
  obtain ⟨rfl, hsz, hP, hK, hD0, hN, hg⟩ := hv
  have hx := B.exec
  have hb := B.bytes
  have hr := B.returns
  have hts := atoms_spec (ws := wsX4_reckonDebt) B.pre
  have hown : s.vm.findClass RX4 = some m.cls := findClass_of_methodNamed B.named
  have hlocks := B.notSynchronized
  clear B
  subst hsz
  have hD := hD0.self (sz := s.heap.size)
  generalize hAe : va_A (wC y a z) s.heap.size = A at hD hg ⊢
  have hA : ∀ q : Nat, s.heap.size ≤ q → A q := fun q h => by rw [← hAe]; exact Or.inr h
  clear hAe hD0
  have hl := lv_entry ([.ref (a ff), .ref (a 13), .ref (a gq)]) (n := 7) (Nat.le_of_ble_eq_true rfl)
  rw [lg_entry_eq]
  generalize (lg_sl ([.ref (a ff), .ref (a 13), .ref (a gq)]) ++ List.replicate (7 - (lg_sl ([.ref (a ff), .ref (a 13), .ref (a gq)])).length) Slot.unset).toArray = ls at hl ⊢
  replace hl : lv_has ls 7 [(0, .ref (a ff)), (1, .ref (a 13)), (2, .ref (a gq))] := hl
  refine zz_go (w := wC y a) hP hD va_S.rf hl (fun G hG => ?_)
  clear hP hD hl ls
  have J158 : ∀ (z : zz_M), mX4_reckonDebt_b158 ff gq z = some (r, zt) → G 158 [] [] z := by
    intro z hm
    rw [mX4_reckonDebt_b158] at hm
    rw [hG]
    intro H locs ls hP hD hS hl
    exact zz_vret hx hb hr hlocks (zz_some2 hm).2 hP hK hD hS dX4_reckonDebt_158
  have J71 : ∀ (k10 : Int32 → Int32 → zz_M → Option (Unit × zz_M)) (K10 : ∀ (v3 : Int32) (v4 : Int32) (z : zz_M), k10 v3 v4 z = some (r, zt) → G 10 [(0, .ref (a ff)), (1, .ref (a 13)), (2, .ref (a gq)), (3, .int v3), (4, .int v4)] [] z) (v3 : Int32) (v4 : Int32) (t0 : Int64) (z : zz_M), mX4_reckonDebt_b71 ff gq k10 v3 v4 t0 z = some (r, zt) → G 71 [(0, .ref (a ff)), (1, .ref (a 13)), (2, .ref (a gq)), (3, .int v3), (4, .int v4)] [.long t0] z := by
    intro k10 K10 v3 v4 t0 z hm
    rw [mX4_reckonDebt_b71] at hm
    rw [hG]
    intro H locs ls hP hD hS hl
    refine lv_lstore (lv' := [(5, .long t0), (0, .ref (a ff)), (1, .ref (a 13)), (2, .ref (a gq)), (3, .int v3), (4, .int v4)]) hx hb dX4_reckonDebt_71 hl (by decide) rfl (fun ls hl => ?_)
    refine lv_aload_n hx hb dX4_reckonDebt_73 rfl (lv_at hl 1 rfl) ?_
    refine va_get (D := D) (ci := 4) (v := .ref (a (ff + 1))) (C := RX4) (T := TX4) (N := 1) hx hb hts nX4_reckonDebt_X4 hown hK hP ff (wC_fig y a z ff hff) rfl 0 (by decide) (hts (.fieldLink RX4 11 "WorksDesk$Figures" "rows" "[[J") (List.mem_of_getElem? (i := 1) rfl)) (fun _ h9 => h9) rfl dX4_reckonDebt_74 ?_
    refine lv_bipush (v := (9 : Int32)) hx hb dX4_reckonDebt_77 (by decide) ?_
    obtain ⟨c1, hm⟩ := zz_ck_some hm
    refine zz_aldA hx hb hK hP (ff + 1) 4 (wC_figR y a z ff hff) rfl c1 dX4_reckonDebt_79 ?_
    refine W.eq (g2 := F0 m 80 ls [.ref (a (ff + 2 + (9 : Int32).toNatClampNeg))]) rfl ?_
    refine lv_iload hx hb dX4_reckonDebt_80 (lv_at hl 5 rfl) ?_
    refine lv_lconst (v := (0 : Int64)) hx hb dX4_reckonDebt_82 (by decide) ?_
    refine lv_lload hx hb dX4_reckonDebt_83 (lv_at hl 0 rfl) ?_
    refine lv_aload_n hx hb dX4_reckonDebt_85 rfl (lv_at hl 1 rfl) ?_
    refine lv_bipush (v := (12 : Int32)) hx hb dX4_reckonDebt_86 (by decide) ?_
    refine lv_iload hx hb dX4_reckonDebt_88 (lv_at hl 5 rfl) ?_
    obtain ⟨r2, h3, hm⟩ := zz_b1_some hm
    refine zz_calll (zz_runV (w := wC y a) (As := [.int (12 : Int32), .int v4]) (rest := [.long t0, .long (0 : Int64), .int v4, .ref (a (ff + 2 + (9 : Int32).toNatClampNeg))]) ⟨hx, hb, hml, hown, hts⟩ (zX4_of l D y a H.size ff (12 : Int32) v4 hff z h3) (cwV 2 hts gX4_reckonDebt_X4_of rfl rfl rfl zdX4_of ⟨Nat.le_of_ble_eq_true rfl, Nat.le_of_ble_eq_true rfl⟩) hK hN hg hP hD hS hA ff (wC_fig y a z ff hff) rfl rfl hl.1 rfl (Nat.le_of_ble_eq_true rfl) dX4_reckonDebt_90 ⟨Nat.le_of_ble_eq_true rfl, Nat.le_of_ble_eq_true rfl⟩) hD hS hA (fun H locs hP hD hS => ?_)
    refine lv_lsub hx hb dX4_reckonDebt_93 ?_
    refine va_mmax_long hx hb (hml.trans hl.1.symm) hown (hts (.methodLink RX4 100 Lib.MathLoose.max_long.x) (List.mem_of_getElem? (i := 2) rfl)) (hts (.static Lib.MathLoose.max_long.x) (List.mem_of_getElem? (i := 3) rfl)) (hts (.initialized "java/lang/Math") (List.mem_of_getElem? (i := 4) rfl)) (hts (.code Lib.MathLoose.max_long.x Lib.MathLoose.max_long.code 4 (some .long)) (List.mem_of_getElem? (i := 5) rfl)) (Nat.le_of_ble_eq_true rfl) (Nat.le_of_ble_eq_true rfl) (Nat.le_of_ble_eq_true rfl) (Nat.le_of_ble_eq_true rfl) dX4_reckonDebt_94 ?_
    obtain ⟨c4, hm⟩ := zz_ck_some hm
    refine va_last hx hb hK hP hD hS (ff + 2 + (9 : Int32).toNatClampNeg) 1 (wC_row y a z ff ((9 : Int32).toNatClampNeg) hff (zz_lt c1 (by decide))) rfl c4 dX4_reckonDebt_97 (fun H locs hP hD hS => ?_)
    obtain ⟨z5, hP, hD, hm⟩ := zz_up (w := wC y a) (wC_roww y a z v4 (if (t0 - r2) < (0 : Int64) then (0 : Int64) else (t0 - r2)) ff ((9 : Int32).toNatClampNeg) hff (zz_lt c1 (by decide))) hP hD hm
    refine lv_aload_n hx hb dX4_reckonDebt_98 rfl (lv_at hl 1 rfl) ?_
    refine va_get (D := D) (ci := 4) (v := .ref (a (ff + 1))) (C := RX4) (T := TX4) (N := 1) hx hb hts nX4_reckonDebt_X4 hown hK hP ff (wC_fig y a z5 ff hff) rfl 0 (by decide) (hts (.fieldLink RX4 11 "WorksDesk$Figures" "rows" "[[J") (List.mem_of_getElem? (i := 1) rfl)) (fun _ h9 => h9) rfl dX4_reckonDebt_99 ?_
    refine lv_bipush (v := (10 : Int32)) hx hb dX4_reckonDebt_102 (by decide) ?_
    obtain ⟨c6, hm⟩ := zz_ck_some hm
    refine zz_aldA hx hb hK hP (ff + 1) 4 (wC_figR y a z5 ff hff) rfl c6 dX4_reckonDebt_104 ?_
    refine W.eq (g2 := F0 m 105 ls [.ref (a (ff + 2 + (10 : Int32).toNatClampNeg))]) rfl ?_
    refine lv_iload hx hb dX4_reckonDebt_105 (lv_at hl 5 rfl) ?_
    refine lv_aload_n hx hb dX4_reckonDebt_107 rfl (lv_at hl 2 rfl) ?_
    refine lv_bipush (v := (7 : Int32)) hx hb dX4_reckonDebt_108 (by decide) ?_
    obtain ⟨r7, h8, hm⟩ := zz_b1_some hm
    refine zz_calli (zz_runV (w := wC y a) (As := [.int (7 : Int32)]) (rest := [.int v4, .ref (a (ff + 2 + (10 : Int32).toNatClampNeg))]) ⟨hx, hb, hml, hown, hts⟩ (zX8_of l D y a H.size (7 : Int32) z5 h8) (cwV 1 hts gX4_reckonDebt_X8_of rfl rfl rfl zdX8_of ⟨Nat.le_of_ble_eq_true rfl, Nat.le_of_ble_eq_true rfl⟩) hK hN hg hP hD hS hA 13 (wC_13 y a z5) rfl rfl hl.1 rfl (Nat.le_of_ble_eq_true rfl) dX4_reckonDebt_110 ⟨Nat.le_of_ble_eq_true rfl, Nat.le_of_ble_eq_true rfl⟩) hD hS hA (fun H locs hP hD hS => ?_)
    refine lv_aload_n hx hb dX4_reckonDebt_113 rfl (lv_at hl 1 rfl) ?_
    refine lv_bipush (v := (9 : Int32)) hx hb dX4_reckonDebt_114 (by decide) ?_
    refine lv_iload hx hb dX4_reckonDebt_116 (lv_at hl 5 rfl) ?_
    obtain ⟨r9, h10, hm⟩ := zz_b1_some hm
    refine zz_calll (zz_runV (w := wC y a) (As := [.int (9 : Int32), .int v4]) (rest := [.int r7, .int v4, .ref (a (ff + 2 + (10 : Int32).toNatClampNeg))]) ⟨hx, hb, hml, hown, hts⟩ (zX4_of l D y a H.size ff (9 : Int32) v4 hff z5 h10) (cwV 2 hts gX4_reckonDebt_X4_of rfl rfl rfl zdX4_of ⟨Nat.le_of_ble_eq_true rfl, Nat.le_of_ble_eq_true rfl⟩) hK hN hg hP hD hS hA ff (wC_fig y a z5 ff hff) rfl rfl hl.1 rfl (Nat.le_of_ble_eq_true rfl) dX4_reckonDebt_118 ⟨Nat.le_of_ble_eq_true rfl, Nat.le_of_ble_eq_true rfl⟩) hD hS hA (fun H locs hP hD hS => ?_)
    obtain ⟨r11, h12, hm⟩ := zz_b1_some hm
    refine zz_calll (zz_runSN (w := wC y a) (As := [.int r7, .long r9]) (rest := [.int v4, .ref (a (ff + 2 + (10 : Int32).toNatClampNeg))]) ⟨hx, hb, hml, hown, hts⟩ (zX10_thousandths l D y a H.size r7 r9 z5 h12) ⟨va_cnB 2 hts gX4_reckonDebt_X10_thousandths_n106 rfl rfl rfl (hN _ (List.mem_of_getElem? (i := 11) rfl)) (hts (.initialized RX10) (List.mem_of_getElem? (i := 22) rfl)) zdX10_thousandths ⟨Nat.le_of_ble_eq_true rfl, Nat.le_of_ble_eq_true rfl⟩, (hts (.static yX10_thousandths) (List.mem_of_getElem? (i := 21) rfl)), trivial⟩ hK hN hg hP hD hS hA rfl hl.1 rfl (Nat.le_of_ble_eq_true rfl) dX4_reckonDebt_121 ⟨Nat.le_of_ble_eq_true rfl, Nat.le_of_ble_eq_true rfl⟩) hD hS hA (fun H locs hP hD hS => ?_)
    obtain ⟨c13, hm⟩ := zz_ck_some hm
    refine va_last hx hb hK hP hD hS (ff + 2 + (10 : Int32).toNatClampNeg) 1 (wC_row y a z5 ff ((10 : Int32).toNatClampNeg) hff (zz_lt c6 (by decide))) rfl c13 dX4_reckonDebt_124 (fun H locs hP hD hS => ?_)
    obtain ⟨z14, hP, hD, hm⟩ := zz_up (w := wC y a) (wC_roww y a z5 v4 r11 ff ((10 : Int32).toNatClampNeg) hff (zz_lt c6 (by decide))) hP hD hm
    refine lv_aload_n hx hb dX4_reckonDebt_125 rfl (lv_at hl 1 rfl) ?_
    refine va_get (D := D) (ci := 4) (v := .ref (a (ff + 1))) (C := RX4) (T := TX4) (N := 1) hx hb hts nX4_reckonDebt_X4 hown hK hP ff (wC_fig y a z14 ff hff) rfl 0 (by decide) (hts (.fieldLink RX4 11 "WorksDesk$Figures" "rows" "[[J") (List.mem_of_getElem? (i := 1) rfl)) (fun _ h9 => h9) rfl dX4_reckonDebt_126 ?_
    refine lv_bipush (v := (11 : Int32)) hx hb dX4_reckonDebt_129 (by decide) ?_
    obtain ⟨c15, hm⟩ := zz_ck_some hm
    refine zz_aldA hx hb hK hP (ff + 1) 4 (wC_figR y a z14 ff hff) rfl c15 dX4_reckonDebt_131 ?_
    refine W.eq (g2 := F0 m 132 ls [.ref (a (ff + 2 + (11 : Int32).toNatClampNeg))]) rfl ?_
    refine lv_iload hx hb dX4_reckonDebt_132 (lv_at hl 5 rfl) ?_
    refine lv_aload_n hx hb dX4_reckonDebt_134 rfl (lv_at hl 1 rfl) ?_
    refine lv_bipush (v := (11 : Int32)) hx hb dX4_reckonDebt_135 (by decide) ?_
    refine lv_iload hx hb dX4_reckonDebt_137 (lv_at hl 5 rfl) ?_
    obtain ⟨r16, h17, hm⟩ := zz_b1_some hm
    refine zz_calll (zz_runV (w := wC y a) (As := [.int (11 : Int32), .int v4]) (rest := [.int v4, .ref (a (ff + 2 + (11 : Int32).toNatClampNeg))]) ⟨hx, hb, hml, hown, hts⟩ (zX4_ahead l D y a H.size ff (11 : Int32) v4 hff z14 h17) (cwV 2 hts gX4_reckonDebt_X4_ahead rfl rfl rfl zdX4_ahead ⟨Nat.le_of_ble_eq_true rfl, Nat.le_of_ble_eq_true rfl⟩) hK hN hg hP hD hS hA ff (wC_fig y a z14 ff hff) rfl rfl hl.1 rfl (Nat.le_of_ble_eq_true rfl) dX4_reckonDebt_139 ⟨Nat.le_of_ble_eq_true rfl, Nat.le_of_ble_eq_true rfl⟩) hD hS hA (fun H locs hP hD hS => ?_)
    refine lv_aload_n hx hb dX4_reckonDebt_142 rfl (lv_at hl 1 rfl) ?_
    refine lv_bipush (v := (10 : Int32)) hx hb dX4_reckonDebt_143 (by decide) ?_
    refine lv_iload hx hb dX4_reckonDebt_145 (lv_at hl 5 rfl) ?_
    obtain ⟨r18, h19, hm⟩ := zz_b1_some hm
    refine zz_calll (zz_runV (w := wC y a) (As := [.int (10 : Int32), .int v4]) (rest := [.long r16, .int v4, .ref (a (ff + 2 + (11 : Int32).toNatClampNeg))]) ⟨hx, hb, hml, hown, hts⟩ (zX4_of l D y a H.size ff (10 : Int32) v4 hff z14 h19) (cwV 2 hts gX4_reckonDebt_X4_of rfl rfl rfl zdX4_of ⟨Nat.le_of_ble_eq_true rfl, Nat.le_of_ble_eq_true rfl⟩) hK hN hg hP hD hS hA ff (wC_fig y a z14 ff hff) rfl rfl hl.1 rfl (Nat.le_of_ble_eq_true rfl) dX4_reckonDebt_147 ⟨Nat.le_of_ble_eq_true rfl, Nat.le_of_ble_eq_true rfl⟩) hD hS hA (fun H locs hP hD hS => ?_)
    refine lv_ladd hx hb dX4_reckonDebt_150 ?_
    obtain ⟨c20, hm⟩ := zz_ck_some hm
    refine va_last hx hb hK hP hD hS (ff + 2 + (11 : Int32).toNatClampNeg) 1 (wC_row y a z14 ff ((11 : Int32).toNatClampNeg) hff (zz_lt c15 (by decide))) rfl c20 dX4_reckonDebt_151 (fun H locs hP hD hS => ?_)
    obtain ⟨z21, hP, hD, hm⟩ := zz_up (w := wC y a) (wC_roww y a z14 v4 (r16 + r18) ff ((11 : Int32).toNatClampNeg) hff (zz_lt c15 (by decide))) hP hD hm
    obtain ⟨n22, en22⟩ : ∃ q : Int32, q = v4 + (1 : Int32) := ⟨_, rfl⟩
    replace hm := zz_nm_some en22 hm
    refine lv_iinc (v := n22) (lv' := [(4, .int n22), (5, .long t0), (0, .ref (a ff)), (1, .ref (a 13)), (2, .ref (a gq)), (3, .int v3)]) hx hb dX4_reckonDebt_152 hl (k := 5) rfl (by rw [en22]; rfl) (by decide) rfl (fun ls hl => ?_)
    refine lv_goto (tgt := 10) hx hb dX4_reckonDebt_155 (by decide) ?_
    have j := K10 v3 n22 z21 hm
    rw [hG] at j
    exact j H locs ls hP hD hS (lv_sub hl [2, 3, 4, 5, 0] rfl)
  have J70 : ∀ (k10 : Int32 → Int32 → zz_M → Option (Unit × zz_M)) (K10 : ∀ (v3 : Int32) (v4 : Int32) (z : zz_M), k10 v3 v4 z = some (r, zt) → G 10 [(0, .ref (a ff)), (1, .ref (a 13)), (2, .ref (a gq)), (3, .int v3), (4, .int v4)] [] z) (v3 : Int32) (v4 : Int32) (z : zz_M), mX4_reckonDebt_b70 ff gq k10 v3 v4 z = some (r, zt) → G 70 [(0, .ref (a ff)), (1, .ref (a 13)), (2, .ref (a gq)), (3, .int v3), (4, .int v4)] [] z := by
    intro k10 K10 v3 v4 z hm
    rw [mX4_reckonDebt_b70] at hm
    rw [hG]
    intro H locs ls hP hD hS hl
    refine lv_lconst (v := (0 : Int64)) hx hb dX4_reckonDebt_70 (by decide) ?_
    have j := J71 k10 K10 v3 v4 (0 : Int64) z hm
    rw [hG] at j
    exact j H locs ls hP hD hS (lv_sub hl [0, 1, 2, 3, 4] rfl)
  have J10 : ∀ (n : Nat) (v3 : Int32) (v4 : Int32) (z : zz_M), mX4_reckonDebt_b10 ff gq n v3 v4 z = some (r, zt) → G 10 [(0, .ref (a ff)), (1, .ref (a 13)), (2, .ref (a gq)), (3, .int v3), (4, .int v4)] [] z := by
    intro n
    induction n with
    | zero =>
      intro v3 v4 z hm
      exact zz_none hm
    | succ n ih =>
      intro v3 v4 z hm
      rw [mX4_reckonDebt_b10] at hm
      rw [hG]
      intro H locs ls hP hD hS hl
      refine lv_iload hx hb dX4_reckonDebt_10 (lv_at hl 4 rfl) ?_
      refine lv_bipush (v := (24 : Int32)) hx hb dX4_reckonDebt_12 (by decide) ?_
      refine lv_icmp_ge (tgt := 158) hx hb dX4_reckonDebt_14 (by decide) (fun c23 => ?_) (fun c23 => ?_)
      · replace hm := zz_pos c23 hm
        have j := J158 z hm
        rw [hG] at j
        exact j H locs ls hP hD hS (lv_sub hl [] rfl)
      · replace hm := zz_neg c23 hm
        refine lv_iload hx hb dX4_reckonDebt_17 (lv_at hl 4 rfl) ?_
        refine lv_aload_n hx hb dX4_reckonDebt_19 rfl (lv_at hl 2 rfl) ?_
        refine va_alen (v := (24 : Int32)) hx hb hK hP gq 1 (wC_la y a z gq hgq) rfl rfl dX4_reckonDebt_20 ?_
        refine lv_icmp_ge (tgt := 158) hx hb dX4_reckonDebt_21 (by decide) (fun c24 => ?_) (fun c24 => ?_)
        · replace hm := zz_pos c24 hm
          have j := J158 z hm
          rw [hG] at j
          exact j H locs ls hP hD hS (lv_sub hl [] rfl)
        · replace hm := zz_neg c24 hm
          refine lv_aload_n hx hb dX4_reckonDebt_24 rfl (lv_at hl 0 rfl) ?_
          refine va_get (D := D) (ci := 4) (v := .ref (a (ff + 1))) (C := RX4) (T := TX4) (N := 1) hx hb hts nX4_reckonDebt_X4 hown hK hP ff (wC_fig y a z ff hff) rfl 0 (by decide) (hts (.fieldLink RX4 11 "WorksDesk$Figures" "rows" "[[J") (List.mem_of_getElem? (i := 1) rfl)) (fun _ h9 => h9) rfl dX4_reckonDebt_25 ?_
          refine lv_bipush (v := (12 : Int32)) hx hb dX4_reckonDebt_28 (by decide) ?_
          obtain ⟨c25, hm⟩ := zz_ck_some hm
          refine zz_aldA hx hb hK hP (ff + 1) 4 (wC_figR y a z ff hff) rfl c25 dX4_reckonDebt_30 ?_
          refine W.eq (g2 := F0 m 31 ls [.ref (a (ff + 2 + (12 : Int32).toNatClampNeg))]) rfl ?_
          refine lv_iload hx hb dX4_reckonDebt_31 (lv_at hl 4 rfl) ?_
          refine lv_aload_n hx hb dX4_reckonDebt_33 rfl (lv_at hl 0 rfl) ?_
          refine lv_bipush (v := (12 : Int32)) hx hb dX4_reckonDebt_34 (by decide) ?_
          refine lv_iload hx hb dX4_reckonDebt_36 (lv_at hl 4 rfl) ?_
          obtain ⟨r26, h27, hm⟩ := zz_b1_some hm
          refine zz_calll (zz_runV (w := wC y a) (As := [.int (12 : Int32), .int v4]) (rest := [.int v4, .ref (a (ff + 2 + (12 : Int32).toNatClampNeg))]) ⟨hx, hb, hml, hown, hts⟩ (zX4_ahead l D y a H.size ff (12 : Int32) v4 hff z h27) (cwV 2 hts gX4_reckonDebt_X4_ahead rfl rfl rfl zdX4_ahead ⟨Nat.le_of_ble_eq_true rfl, Nat.le_of_ble_eq_true rfl⟩) hK hN hg hP hD hS hA ff (wC_fig y a z ff hff) rfl rfl hl.1 rfl (Nat.le_of_ble_eq_true rfl) dX4_reckonDebt_38 ⟨Nat.le_of_ble_eq_true rfl, Nat.le_of_ble_eq_true rfl⟩) hD hS hA (fun H locs hP hD hS => ?_)
          refine lv_aload_n hx hb dX4_reckonDebt_41 rfl (lv_at hl 2 rfl) ?_
          refine lv_iload hx hb dX4_reckonDebt_42 (lv_at hl 4 rfl) ?_
          obtain ⟨c28, hm⟩ := zz_ck_some hm
          refine va_lald hx hb hK hP gq 1 (wC_la y a z gq hgq) rfl c28 dX4_reckonDebt_44 ?_
          refine lv_ladd hx hb dX4_reckonDebt_45 ?_
          obtain ⟨c29, hm⟩ := zz_ck_some hm
          refine va_last hx hb hK hP hD hS (ff + 2 + (12 : Int32).toNatClampNeg) 1 (wC_row y a z ff ((12 : Int32).toNatClampNeg) hff (zz_lt c25 (by decide))) rfl c29 dX4_reckonDebt_46 (fun H locs hP hD hS => ?_)
          obtain ⟨z30, hP, hD, hm⟩ := zz_up (w := wC y a) (wC_roww y a z v4 (r26 + (z.2.1 gq v4.toNatClampNeg)) ff ((12 : Int32).toNatClampNeg) hff (zz_lt c25 (by decide))) hP hD hm
          refine lv_iload hx hb dX4_reckonDebt_47 (lv_at hl 4 rfl) ?_
          refine lv_iload_n hx hb dX4_reckonDebt_49 rfl (lv_at hl 3 rfl) ?_
          refine lv_icmp_lt (tgt := 70) hx hb dX4_reckonDebt_50 (by decide) (fun c31 => ?_) (fun c31 => ?_)
          · replace hm := zz_pos c31 hm
            have j := J70 (mX4_reckonDebt_b10 ff gq n) ih v3 v4 z30 hm
            rw [hG] at j
            exact j H locs ls hP hD hS (lv_sub hl [0, 1, 2, 3, 4] rfl)
          · replace hm := zz_neg c31 hm
            refine lv_iload_n hx hb dX4_reckonDebt_53 rfl (lv_at hl 3 rfl) ?_
            refine lv_if_lt (tgt := 70) hx hb dX4_reckonDebt_54 (by decide) (fun c32 => ?_) (fun c32 => ?_)
            · replace hm := zz_pos c32 hm
              have j := J70 (mX4_reckonDebt_b10 ff gq n) ih v3 v4 z30 hm
              rw [hG] at j
              exact j H locs ls hP hD hS (lv_sub hl [0, 1, 2, 3, 4] rfl)
            · replace hm := zz_neg c32 hm
              refine lv_aload_n hx hb dX4_reckonDebt_57 rfl (lv_at hl 0 rfl) ?_
              refine lv_bipush (v := (8 : Int32)) hx hb dX4_reckonDebt_58 (by decide) ?_
              refine lv_iload hx hb dX4_reckonDebt_60 (lv_at hl 4 rfl) ?_
              refine lv_iload_n hx hb dX4_reckonDebt_62 rfl (lv_at hl 3 rfl) ?_
              refine lv_isub hx hb dX4_reckonDebt_63 ?_
              obtain ⟨r33, h34, hm⟩ := zz_b1_some hm
              refine zz_calll (zz_runV (w := wC y a) (As := [.int (8 : Int32), .int (v4 - v3)]) (rest := []) ⟨hx, hb, hml, hown, hts⟩ (zX4_of l D y a H.size ff (8 : Int32) (v4 - v3) hff z30 h34) (cwV 2 hts gX4_reckonDebt_X4_of rfl rfl rfl zdX4_of ⟨Nat.le_of_ble_eq_true rfl, Nat.le_of_ble_eq_true rfl⟩) hK hN hg hP hD hS hA ff (wC_fig y a z30 ff hff) rfl rfl hl.1 rfl (Nat.le_of_ble_eq_true rfl) dX4_reckonDebt_64 ⟨Nat.le_of_ble_eq_true rfl, Nat.le_of_ble_eq_true rfl⟩) hD hS hA (fun H locs hP hD hS => ?_)
              refine lv_goto (tgt := 71) hx hb dX4_reckonDebt_67 (by decide) ?_
              have j := J71 (mX4_reckonDebt_b10 ff gq n) ih v3 v4 r33 z30 hm
              rw [hG] at j
              exact j H locs ls hP hD hS (lv_sub hl [0, 1, 2, 3, 4] rfl)
  rw [hG]
  intro H locs ls hP hD hS hl
  unfold mX4_reckonDebt at hm
  refine lv_aload_n hx hb dX4_reckonDebt_0 rfl (lv_at hl 1 rfl) ?_
  refine lv_bipush (v := (8 : Int32)) hx hb dX4_reckonDebt_1 (by decide) ?_
  obtain ⟨r35, h36, hm⟩ := zz_b1_some hm
  refine zz_calli (zz_runV (w := wC y a) (As := [.int (8 : Int32)]) (rest := []) ⟨hx, hb, hml, hown, hts⟩ (zX8_of l D y a H.size (8 : Int32) z h36) (cwV 1 hts gX4_reckonDebt_X8_of rfl rfl rfl zdX8_of ⟨Nat.le_of_ble_eq_true rfl, Nat.le_of_ble_eq_true rfl⟩) hK hN hg hP hD hS hA 13 (wC_13 y a z) rfl rfl hl.1 rfl (Nat.le_of_ble_eq_true rfl) dX4_reckonDebt_3 ⟨Nat.le_of_ble_eq_true rfl, Nat.le_of_ble_eq_true rfl⟩) hD hS hA (fun H locs hP hD hS => ?_)
  refine lv_istore_n (lv' := [(3, .int r35), (0, .ref (a ff)), (1, .ref (a 13)), (2, .ref (a gq))]) hx hb dX4_reckonDebt_6 rfl hl (by decide) rfl (fun ls hl => ?_)
  refine lv_iconst (v := (0 : Int32)) hx hb dX4_reckonDebt_7 (by decide) ?_
  refine lv_istore (lv' := [(4, .int (0 : Int32)), (3, .int r35), (0, .ref (a ff)), (1, .ref (a 13)), (2, .ref (a gq))]) hx hb dX4_reckonDebt_8 hl (by decide) rfl (fun ls hl => ?_)
  have j := J10 zz_N r35 (0 : Int32) z hm
  rw [hG] at j
  exact j H locs ls hP hD hS (lv_sub hl [2, 3, 4, 1, 0] rfl)
def mX2_adjustedFor (x1 : Int64) (x3 : Int32) (z : zz_M) : Option Int64 := zz_b1 (mX6_latest 11 x3 z) (fun r1 => zz_ck (¬ (1000 : Int64) = (0 : Int64)) (zz_nm ((x1 * ((r1 - (1000 : Int32)).toInt64)) / (1000 : Int64)) (fun n4 => zz_b1 (mX8_of (13 : Int32) z) (fun r5 => zz_b1 (mX10_thousandths r5 n4) (fun r7 => some r7)))))
theorem nX2_adjustedFor_X2 : ∀ w ∈ wsX20, w ∈ wsX2_adjustedFor := fun _ h => List.mem_cons_of_mem _ (List.mem_append_left _ (List.mem_append_left _ (List.mem_append_right _ (h))))
theorem zdX2_adjustedFor : yX2_adjustedFor.cls = RX2 ∧ yX2_adjustedFor.cls ≠ "java/lang/invoke/MethodHandle" ∧ yX2_adjustedFor.cls ≠ "java/lang/invoke/VarHandle" ∧ (parseMethodDescriptor yX2_adjustedFor.desc).map (fun d => d.parameters.length) = some 2 := by decide +kernel
set_option maxHeartbeats 4000000 in
set_option maxRecDepth 100000 in
theorem zX2_adjustedFor (l : Launch) (D : va_G) (y : Nat → ClassId) (a : Nat → Nat) (sz : Nat) (x1 : Int64) (x3 : Int32) (z : zz_M) {r : Int64} (hm : mX2_adjustedFor x1 x3 z = some r) : Met l yX2_adjustedFor wsX2_adjustedFor { frames := 1, cells := 0, slots := 0, locals := 22 } (zz_Pc D y (wC y a z) sz [.ref (a 8), .long x1, .int x3]) (zz_Ql D y (wC y a) (va_A (wC y a z) sz) r z) 0 0 (va_A (wC y a z) sz) := by
  refine Met.ofW (cc := cX2_adjustedFor) (maxL := 6) (ret := (some .long)) (by decide) rfl ?_
  intro p e s m args below meth c s₁ B hml hv
  obtain ⟨rfl, hsz, hP, hK, hD0, hN, hg⟩ := hv
  have hx := B.exec
  have hb := B.bytes
  have hr := B.returns
  have hts := atoms_spec (ws := wsX2_adjustedFor) B.pre
  have hown : s.vm.findClass RX2 = some m.cls := findClass_of_methodNamed B.named
  have hlocks := B.notSynchronized
  clear B
  subst hsz
  have hD := hD0.self (sz := s.heap.size)
  generalize hAe : va_A (wC y a z) s.heap.size = A at hD hg ⊢
  have hA : ∀ q : Nat, s.heap.size ≤ q → A q := fun q h => by rw [← hAe]; exact Or.inr h
  clear hAe hD0
  have hl := lv_entry ([.ref (a 8), .long x1, .int x3]) (n := 6) (Nat.le_of_ble_eq_true rfl)
  rw [lg_entry_eq]
  generalize (lg_sl ([.ref (a 8), .long x1, .int x3]) ++ List.replicate (6 - (lg_sl ([.ref (a 8), .long x1, .int x3])).length) Slot.unset).toArray = ls at hl ⊢
  replace hl : lv_has ls 6 [(0, .ref (a 8)), (1, .long x1), (3, .int x3)] := hl
  refine zz_go (w := wC y a) hP hD va_S.rf hl (fun G hG => ?_)
  clear hP hD hl ls
  rw [hG]
  intro H locs ls hP hD hS hl
  unfold mX2_adjustedFor at hm
  refine lv_lload_n hx hb dX2_adjustedFor_0 rfl (lv_at hl 1 rfl) ?_
  refine lv_aload_n hx hb dX2_adjustedFor_1 rfl (lv_at hl 0 rfl) ?_
  refine va_get (D := D) (ci := 2) (v := .ref (a 49)) (C := RX2) (T := TX2) (N := 12) hx hb hts nX2_adjustedFor_X2 hown hK hP 8 (wC_8 y a z) rfl 4 (by decide) (hts (.fieldLink RX2 38 "WorksDesk$Book" "index" "LWorksDesk$Series;") (List.mem_of_getElem? (i := 1) rfl)) (fun _ h9 => h9) rfl dX2_adjustedFor_2 ?_
  refine lv_iload_n hx hb dX2_adjustedFor_5 rfl (lv_at hl 2 rfl) ?_
  obtain ⟨r1, h2, hm⟩ := zz_b1_some hm
  refine zz_calli (zz_runV (w := wC y a) (As := [.int x3]) (rest := [.long x1]) ⟨hx, hb, hml, hown, hts⟩ (zX6_latest l D y a H.size 11 x3 (by decide) z h2) (cwV 1 hts gX2_adjustedFor_X6_latest rfl rfl rfl zdX6_latest ⟨Nat.le_of_ble_eq_true rfl, Nat.le_of_ble_eq_true rfl⟩) hK hN hg hP hD hS hA 49 (wC_ser y a z 11 (by decide)) rfl rfl hl.1 rfl (Nat.le_of_ble_eq_true rfl) dX2_adjustedFor_6 ⟨Nat.le_of_ble_eq_true rfl, Nat.le_of_ble_eq_true rfl⟩) hD hS hA (fun H locs hP hD hS => ?_)
  refine lv_sipush (v := (1000 : Int32)) hx hb dX2_adjustedFor_9 (by decide) ?_
  refine lv_isub hx hb dX2_adjustedFor_12 ?_
  refine lv_i2l hx hb dX2_adjustedFor_13 rfl ?_
  refine lv_lmul hx hb dX2_adjustedFor_14 ?_
  refine lv_ldc2 (v := (1000 : Int64)) hx hb hown (hts (.constantLong RX2 159 (1000)) (List.mem_of_getElem? (i := 2) rfl)) dX2_adjustedFor_15 ?_
  obtain ⟨c3, hm⟩ := zz_ck_some hm
  refine lv_ldiv hx hb dX2_adjustedFor_18 c3 ?_
  refine lv_topl (fun n4 en4 => ?_)
  replace hm := zz_nm_some en4 hm
  refine lv_lstore (lv' := [(4, .long n4), (0, .ref (a 8)), (1, .long x1), (3, .int x3)]) hx hb dX2_adjustedFor_19 hl (by decide) rfl (fun ls hl => ?_)
  refine lv_aload_n hx hb dX2_adjustedFor_21 rfl (lv_at hl 1 rfl) ?_
  refine va_get (D := D) (ci := 2) (v := .ref (a 13)) (C := RX2) (T := TX2) (N := 12) hx hb hts nX2_adjustedFor_X2 hown hK hP 8 (wC_8 y a z) rfl 1 (by decide) (hts (.fieldLink RX2 21 "WorksDesk$Book" "clauses" "LWorksDesk$Terms;") (List.mem_of_getElem? (i := 3) rfl)) (fun _ h9 => h9) rfl dX2_adjustedFor_22 ?_
  refine lv_bipush (v := (13 : Int32)) hx hb dX2_adjustedFor_25 (by decide) ?_
  obtain ⟨r5, h6, hm⟩ := zz_b1_some hm
  refine zz_calli (zz_runV (w := wC y a) (As := [.int (13 : Int32)]) (rest := []) ⟨hx, hb, hml, hown, hts⟩ (zX8_of l D y a H.size (13 : Int32) z h6) (cwV 1 hts gX2_adjustedFor_X8_of rfl rfl rfl zdX8_of ⟨Nat.le_of_ble_eq_true rfl, Nat.le_of_ble_eq_true rfl⟩) hK hN hg hP hD hS hA 13 (wC_13 y a z) rfl rfl hl.1 rfl (Nat.le_of_ble_eq_true rfl) dX2_adjustedFor_27 ⟨Nat.le_of_ble_eq_true rfl, Nat.le_of_ble_eq_true rfl⟩) hD hS hA (fun H locs hP hD hS => ?_)
  refine lv_lload hx hb dX2_adjustedFor_30 (lv_at hl 0 rfl) ?_
  obtain ⟨r7, h8, hm⟩ := zz_b1_some hm
  refine zz_calll (zz_runSN (w := wC y a) (As := [.int r5, .long n4]) (rest := []) ⟨hx, hb, hml, hown, hts⟩ (zX10_thousandths l D y a H.size r5 n4 z h8) ⟨va_cnB 2 hts gX2_adjustedFor_X10_thousandths_n104 rfl rfl rfl (hN _ (List.mem_of_getElem? (i := 7) rfl)) (hts (.initialized RX10) (List.mem_of_getElem? (i := 17) rfl)) zdX10_thousandths ⟨Nat.le_of_ble_eq_true rfl, Nat.le_of_ble_eq_true rfl⟩, (hts (.static yX10_thousandths) (List.mem_of_getElem? (i := 16) rfl)), trivial⟩ hK hN hg hP hD hS hA rfl hl.1 rfl (Nat.le_of_ble_eq_true rfl) dX2_adjustedFor_32 ⟨Nat.le_of_ble_eq_true rfl, Nat.le_of_ble_eq_true rfl⟩) hD hS hA (fun H locs hP hD hS => ?_)
  exact zz_lret hx hb hr hlocks ⟨zz_some1 hm, rfl⟩ hP hK hD hS dX2_adjustedFor_35
def mX2_advanced (z : zz_M) : Option Int64 := zz_b1 (mX8_of (3 : Int32) z) (fun r1 => zz_b1 (mX10_thousandths r1 ((z.2.2.1 580).toInt64)) (fun r3 => some r3))
theorem nX2_advanced_X0 : ∀ w ∈ wsX00, w ∈ wsX2_advanced := fun _ h => List.mem_cons_of_mem _ (List.mem_append_left _ (List.mem_append_right _ (h)))
theorem nX2_advanced_X2 : ∀ w ∈ wsX20, w ∈ wsX2_advanced := fun _ h => List.mem_cons_of_mem _ (List.mem_append_left _ (List.mem_append_left _ (List.mem_append_right _ (h))))
theorem zdX2_advanced : yX2_advanced.cls = RX2 ∧ yX2_advanced.cls ≠ "java/lang/invoke/MethodHandle" ∧ yX2_advanced.cls ≠ "java/lang/invoke/VarHandle" ∧ (parseMethodDescriptor yX2_advanced.desc).map (fun d => d.parameters.length) = some 0 := by decide +kernel
set_option maxHeartbeats 4000000 in
set_option maxRecDepth 100000 in
theorem zX2_advanced (l : Launch) (D : va_G) (y : Nat → ClassId) (a : Nat → Nat) (sz : Nat) (z : zz_M) {r : Int64} (hm : mX2_advanced z = some r) : Met l yX2_advanced wsX2_advanced { frames := 1, cells := 0, slots := 0, locals := 22 } (zz_Pc D y (wC y a z) sz [.ref (a 8)]) (zz_Ql D y (wC y a) (va_A (wC y a z) sz) r z) 0 0 (va_A (wC y a z) sz) := by
  refine Met.ofW (cc := cX2_advanced) (maxL := 1) (ret := (some .long)) (by decide) rfl ?_
  intro p e s m args below meth c s₁ B hml hv
  obtain ⟨rfl, hsz, hP, hK, hD0, hN, hg⟩ := hv
  have hx := B.exec
  have hb := B.bytes
  have hr := B.returns
  have hts := atoms_spec (ws := wsX2_advanced) B.pre
  have hown : s.vm.findClass RX2 = some m.cls := findClass_of_methodNamed B.named
  have hlocks := B.notSynchronized
  clear B
  subst hsz
  have hD := hD0.self (sz := s.heap.size)
  generalize hAe : va_A (wC y a z) s.heap.size = A at hD hg ⊢
  have hA : ∀ q : Nat, s.heap.size ≤ q → A q := fun q h => by rw [← hAe]; exact Or.inr h
  clear hAe hD0
  have hl := lv_entry ([.ref (a 8)]) (n := 1) (Nat.le_of_ble_eq_true rfl)
  rw [lg_entry_eq]
  generalize (lg_sl ([.ref (a 8)]) ++ List.replicate (1 - (lg_sl ([.ref (a 8)])).length) Slot.unset).toArray = ls at hl ⊢
  replace hl : lv_has ls 1 [(0, .ref (a 8))] := hl
  refine zz_go (w := wC y a) hP hD va_S.rf hl (fun G hG => ?_)
  clear hP hD hl ls
  rw [hG]
  intro H locs ls hP hD hS hl
  unfold mX2_advanced at hm
  refine lv_aload_n hx hb dX2_advanced_0 rfl (lv_at hl 0 rfl) ?_
  refine va_get (D := D) (ci := 2) (v := .ref (a 13)) (C := RX2) (T := TX2) (N := 12) hx hb hts nX2_advanced_X2 hown hK hP 8 (wC_8 y a z) rfl 1 (by decide) (hts (.fieldLink RX2 21 "WorksDesk$Book" "clauses" "LWorksDesk$Terms;") (List.mem_of_getElem? (i := 1) rfl)) (fun _ h9 => h9) rfl dX2_advanced_1 ?_
  refine lv_iconst (v := (3 : Int32)) hx hb dX2_advanced_4 (by decide) ?_
  obtain ⟨r1, h2, hm⟩ := zz_b1_some hm
  refine zz_calli (zz_runV (w := wC y a) (As := [.int (3 : Int32)]) (rest := []) ⟨hx, hb, hml, hown, hts⟩ (zX8_of l D y a H.size (3 : Int32) z h2) (cwV 1 hts gX2_advanced_X8_of rfl rfl rfl zdX8_of ⟨Nat.le_of_ble_eq_true rfl, Nat.le_of_ble_eq_true rfl⟩) hK hN hg hP hD hS hA 13 (wC_13 y a z) rfl rfl hl.1 rfl (Nat.le_of_ble_eq_true rfl) dX2_advanced_5 ⟨Nat.le_of_ble_eq_true rfl, Nat.le_of_ble_eq_true rfl⟩) hD hS hA (fun H locs hP hD hS => ?_)
  refine lv_aload_n hx hb dX2_advanced_8 rfl (lv_at hl 0 rfl) ?_
  refine va_get (D := D) (ci := 2) (v := .ref (a 9)) (C := RX2) (T := TX2) (N := 12) hx hb hts nX2_advanced_X2 hown hK hP 8 (wC_8 y a z) rfl 0 (by decide) (hts (.fieldLink RX2 12 "WorksDesk$Book" "items" "LWorksDesk$Bill;") (List.mem_of_getElem? (i := 2) rfl)) (fun _ h9 => h9) rfl dX2_advanced_9 ?_
  refine va_get (D := D) (ci := 0) (v := .int (z.2.2.1 580)) (C := RX0) (T := TX0) (N := 5) hx hb hts nX2_advanced_X0 hown hK hP 9 (wC_bill y a z 9 (Or.inr rfl)) rfl 4 (by decide) (hts (.fieldLink RX2 101 "WorksDesk$Bill" "total" "I") (List.mem_of_getElem? (i := 3) rfl)) (fun _ h9 => h9) rfl dX2_advanced_12 ?_
  refine lv_i2l hx hb dX2_advanced_15 rfl ?_
  obtain ⟨r3, h4, hm⟩ := zz_b1_some hm
  refine zz_calll (zz_runSN (w := wC y a) (As := [.int r1, .long ((z.2.2.1 580).toInt64)]) (rest := []) ⟨hx, hb, hml, hown, hts⟩ (zX10_thousandths l D y a H.size r1 ((z.2.2.1 580).toInt64) z h4) ⟨va_cnB 2 hts gX2_advanced_X10_thousandths_n104 rfl rfl rfl (hN _ (List.mem_of_getElem? (i := 7) rfl)) (hts (.initialized RX10) (List.mem_of_getElem? (i := 11) rfl)) zdX10_thousandths ⟨Nat.le_of_ble_eq_true rfl, Nat.le_of_ble_eq_true rfl⟩, (hts (.static yX10_thousandths) (List.mem_of_getElem? (i := 10) rfl)), trivial⟩ hK hN hg hP hD hS hA rfl hl.1 rfl (Nat.le_of_ble_eq_true rfl) dX2_advanced_16 ⟨Nat.le_of_ble_eq_true rfl, Nat.le_of_ble_eq_true rfl⟩) hD hS hA (fun H locs hP hD hS => ?_)
  exact zz_lret hx hb hr hlocks ⟨zz_some1 hm, rfl⟩ hP hK hD hS dX2_advanced_19
def mX2_lateMonths (x1 : Int32) (z : zz_M) : Option Int32 := some (if (0 : Int32) < ((if (z.2.2.1 520) < x1 then (z.2.2.1 520) else x1) - ((z.2.2.1 522) + (z.2.2.1 523))) then ((if (z.2.2.1 520) < x1 then (z.2.2.1 520) else x1) - ((z.2.2.1 522) + (z.2.2.1 523))) else (0 : Int32))
theorem nX2_lateMonths_X2 : ∀ w ∈ wsX20, w ∈ wsX2_lateMonths := fun _ h => List.mem_cons_of_mem _ (List.mem_append_right _ (h))
theorem zdX2_lateMonths : yX2_lateMonths.cls = RX2 ∧ yX2_lateMonths.cls ≠ "java/lang/invoke/MethodHandle" ∧ yX2_lateMonths.cls ≠ "java/lang/invoke/VarHandle" ∧ (parseMethodDescriptor yX2_lateMonths.desc).map (fun d => d.parameters.length) = some 1 := by decide +kernel
set_option maxHeartbeats 4000000 in
set_option maxRecDepth 100000 in
theorem zX2_lateMonths (l : Launch) (D : va_G) (y : Nat → ClassId) (a : Nat → Nat) (sz : Nat) (x1 : Int32) (z : zz_M) {r : Int32} (hm : mX2_lateMonths x1 z = some r) : Met l yX2_lateMonths wsX2_lateMonths { frames := 1, cells := 0, slots := 0, locals := 24 } (zz_Pc D y (wC y a z) sz [.ref (a 8), .int x1]) (zz_Qi D y (wC y a) (va_A (wC y a z) sz) r z) 0 0 (va_A (wC y a z) sz) := by
  refine Met.ofW (cc := cX2_lateMonths) (maxL := 2) (ret := (some .int)) (by decide) rfl ?_
  intro p e s m args below meth c s₁ B hml hv
  obtain ⟨rfl, hsz, hP, hK, hD0, hN, hg⟩ := hv
  have hx := B.exec
  have hb := B.bytes
  have hr := B.returns
  have hts := atoms_spec (ws := wsX2_lateMonths) B.pre
  have hown : s.vm.findClass RX2 = some m.cls := findClass_of_methodNamed B.named
  have hlocks := B.notSynchronized
  clear B
  subst hsz
  have hD := hD0.self (sz := s.heap.size)
  generalize hAe : va_A (wC y a z) s.heap.size = A at hD hg ⊢
  have hA : ∀ q : Nat, s.heap.size ≤ q → A q := fun q h => by rw [← hAe]; exact Or.inr h
  clear hAe hD0
  have hl := lv_entry ([.ref (a 8), .int x1]) (n := 2) (Nat.le_of_ble_eq_true rfl)
  rw [lg_entry_eq]
  generalize (lg_sl ([.ref (a 8), .int x1]) ++ List.replicate (2 - (lg_sl ([.ref (a 8), .int x1])).length) Slot.unset).toArray = ls at hl ⊢
  replace hl : lv_has ls 2 [(0, .ref (a 8)), (1, .int x1)] := hl
  refine zz_go (w := wC y a) hP hD va_S.rf hl (fun G hG => ?_)
  clear hP hD hl ls
  rw [hG]
  intro H locs ls hP hD hS hl
  unfold mX2_lateMonths at hm
  refine lv_iconst (v := (0 : Int32)) hx hb dX2_lateMonths_0 (by decide) ?_
  refine lv_iload_n hx hb dX2_lateMonths_1 rfl (lv_at hl 1 rfl) ?_
  refine lv_aload_n hx hb dX2_lateMonths_2 rfl (lv_at hl 0 rfl) ?_
  refine va_get (D := D) (ci := 2) (v := .int (z.2.2.1 520)) (C := RX2) (T := TX2) (N := 12) hx hb hts nX2_lateMonths_X2 hown hK hP 8 (wC_8 y a z) rfl 8 (by decide) (hts (.fieldLink RX2 59 "WorksDesk$Book" "handedOver" "I") (List.mem_of_getElem? (i := 1) rfl)) (fun _ h9 => h9) rfl dX2_lateMonths_3 ?_
  refine va_mmin hx hb (hml.trans hl.1.symm) hown (hts (.methodLink RX2 149 Lib.Math.min.name) (List.mem_of_getElem? (i := 2) rfl)) (hts (.static Lib.Math.min.name) (List.mem_of_getElem? (i := 3) rfl)) (hts (.initialized "java/lang/Math") (List.mem_of_getElem? (i := 4) rfl)) (hts (.code Lib.Math.min.name Lib.Math.min.code 2 (some .int)) (List.mem_of_getElem? (i := 5) rfl)) (Nat.le_of_ble_eq_true rfl) (Nat.le_of_ble_eq_true rfl) (Nat.le_of_ble_eq_true rfl) (Nat.le_of_ble_eq_true rfl) dX2_lateMonths_6 ?_
  refine lv_aload_n hx hb dX2_lateMonths_9 rfl (lv_at hl 0 rfl) ?_
  refine va_get (D := D) (ci := 2) (v := .int (z.2.2.1 522)) (C := RX2) (T := TX2) (N := 12) hx hb hts nX2_lateMonths_X2 hown hK hP 8 (wC_8 y a z) rfl 10 (by decide) (hts (.fieldLink RX2 66 "WorksDesk$Book" "dueBy" "I") (List.mem_of_getElem? (i := 6) rfl)) (fun _ h9 => h9) rfl dX2_lateMonths_10 ?_
  refine lv_aload_n hx hb dX2_lateMonths_13 rfl (lv_at hl 0 rfl) ?_
  refine va_get (D := D) (ci := 2) (v := .int (z.2.2.1 523)) (C := RX2) (T := TX2) (N := 12) hx hb hts nX2_lateMonths_X2 hown hK hP 8 (wC_8 y a z) rfl 11 (by decide) (hts (.fieldLink RX2 69 "WorksDesk$Book" "granted" "I") (List.mem_of_getElem? (i := 7) rfl)) (fun _ h9 => h9) rfl dX2_lateMonths_14 ?_
  refine lv_iadd hx hb dX2_lateMonths_17 ?_
  refine lv_isub hx hb dX2_lateMonths_18 ?_
  refine va_mmax hx hb (hml.trans hl.1.symm) hown (hts (.methodLink RX2 151 Lib.Math.max.name) (List.mem_of_getElem? (i := 8) rfl)) (hts (.static Lib.Math.max.name) (List.mem_of_getElem? (i := 9) rfl)) (hts (.initialized "java/lang/Math") (List.mem_of_getElem? (i := 4) rfl)) (hts (.code Lib.Math.max.name Lib.Math.max.code 2 (some .int)) (List.mem_of_getElem? (i := 10) rfl)) (Nat.le_of_ble_eq_true rfl) (Nat.le_of_ble_eq_true rfl) (Nat.le_of_ble_eq_true rfl) (Nat.le_of_ble_eq_true rfl) dX2_lateMonths_19 ?_
  exact zz_iret hx hb hr hlocks ⟨zz_some1 hm, rfl⟩ hP hK hD hS dX2_lateMonths_22
def mX2_mostDamages (z : zz_M) : Option Int64 := zz_b1 (mX8_of (12 : Int32) z) (fun r1 => zz_b1 (mX10_thousandths r1 ((z.2.2.1 580).toInt64)) (fun r3 => some r3))
theorem nX2_mostDamages_X0 : ∀ w ∈ wsX00, w ∈ wsX2_mostDamages := fun _ h => List.mem_cons_of_mem _ (List.mem_append_left _ (List.mem_append_right _ (h)))
theorem nX2_mostDamages_X2 : ∀ w ∈ wsX20, w ∈ wsX2_mostDamages := fun _ h => List.mem_cons_of_mem _ (List.mem_append_left _ (List.mem_append_left _ (List.mem_append_right _ (h))))
theorem zdX2_mostDamages : yX2_mostDamages.cls = RX2 ∧ yX2_mostDamages.cls ≠ "java/lang/invoke/MethodHandle" ∧ yX2_mostDamages.cls ≠ "java/lang/invoke/VarHandle" ∧ (parseMethodDescriptor yX2_mostDamages.desc).map (fun d => d.parameters.length) = some 0 := by decide +kernel
set_option maxHeartbeats 4000000 in
set_option maxRecDepth 100000 in
theorem zX2_mostDamages (l : Launch) (D : va_G) (y : Nat → ClassId) (a : Nat → Nat) (sz : Nat) (z : zz_M) {r : Int64} (hm : mX2_mostDamages z = some r) : Met l yX2_mostDamages wsX2_mostDamages { frames := 1, cells := 0, slots := 0, locals := 22 } (zz_Pc D y (wC y a z) sz [.ref (a 8)]) (zz_Ql D y (wC y a) (va_A (wC y a z) sz) r z) 0 0 (va_A (wC y a z) sz) := by
  refine Met.ofW (cc := cX2_mostDamages) (maxL := 1) (ret := (some .long)) (by decide) rfl ?_
  intro p e s m args below meth c s₁ B hml hv
  obtain ⟨rfl, hsz, hP, hK, hD0, hN, hg⟩ := hv
  have hx := B.exec
  have hb := B.bytes
  have hr := B.returns
  have hts := atoms_spec (ws := wsX2_mostDamages) B.pre
  have hown : s.vm.findClass RX2 = some m.cls := findClass_of_methodNamed B.named
  have hlocks := B.notSynchronized
  clear B
  subst hsz
  have hD := hD0.self (sz := s.heap.size)
  generalize hAe : va_A (wC y a z) s.heap.size = A at hD hg ⊢
  have hA : ∀ q : Nat, s.heap.size ≤ q → A q := fun q h => by rw [← hAe]; exact Or.inr h
  clear hAe hD0
  have hl := lv_entry ([.ref (a 8)]) (n := 1) (Nat.le_of_ble_eq_true rfl)
  rw [lg_entry_eq]
  generalize (lg_sl ([.ref (a 8)]) ++ List.replicate (1 - (lg_sl ([.ref (a 8)])).length) Slot.unset).toArray = ls at hl ⊢
  replace hl : lv_has ls 1 [(0, .ref (a 8))] := hl
  refine zz_go (w := wC y a) hP hD va_S.rf hl (fun G hG => ?_)
  clear hP hD hl ls
  rw [hG]
  intro H locs ls hP hD hS hl
  unfold mX2_mostDamages at hm
  refine lv_aload_n hx hb dX2_mostDamages_0 rfl (lv_at hl 0 rfl) ?_
  refine va_get (D := D) (ci := 2) (v := .ref (a 13)) (C := RX2) (T := TX2) (N := 12) hx hb hts nX2_mostDamages_X2 hown hK hP 8 (wC_8 y a z) rfl 1 (by decide) (hts (.fieldLink RX2 21 "WorksDesk$Book" "clauses" "LWorksDesk$Terms;") (List.mem_of_getElem? (i := 1) rfl)) (fun _ h9 => h9) rfl dX2_mostDamages_1 ?_
  refine lv_bipush (v := (12 : Int32)) hx hb dX2_mostDamages_4 (by decide) ?_
  obtain ⟨r1, h2, hm⟩ := zz_b1_some hm
  refine zz_calli (zz_runV (w := wC y a) (As := [.int (12 : Int32)]) (rest := []) ⟨hx, hb, hml, hown, hts⟩ (zX8_of l D y a H.size (12 : Int32) z h2) (cwV 1 hts gX2_mostDamages_X8_of rfl rfl rfl zdX8_of ⟨Nat.le_of_ble_eq_true rfl, Nat.le_of_ble_eq_true rfl⟩) hK hN hg hP hD hS hA 13 (wC_13 y a z) rfl rfl hl.1 rfl (Nat.le_of_ble_eq_true rfl) dX2_mostDamages_6 ⟨Nat.le_of_ble_eq_true rfl, Nat.le_of_ble_eq_true rfl⟩) hD hS hA (fun H locs hP hD hS => ?_)
  refine lv_aload_n hx hb dX2_mostDamages_9 rfl (lv_at hl 0 rfl) ?_
  refine va_get (D := D) (ci := 2) (v := .ref (a 9)) (C := RX2) (T := TX2) (N := 12) hx hb hts nX2_mostDamages_X2 hown hK hP 8 (wC_8 y a z) rfl 0 (by decide) (hts (.fieldLink RX2 12 "WorksDesk$Book" "items" "LWorksDesk$Bill;") (List.mem_of_getElem? (i := 2) rfl)) (fun _ h9 => h9) rfl dX2_mostDamages_10 ?_
  refine va_get (D := D) (ci := 0) (v := .int (z.2.2.1 580)) (C := RX0) (T := TX0) (N := 5) hx hb hts nX2_mostDamages_X0 hown hK hP 9 (wC_bill y a z 9 (Or.inr rfl)) rfl 4 (by decide) (hts (.fieldLink RX2 101 "WorksDesk$Bill" "total" "I") (List.mem_of_getElem? (i := 3) rfl)) (fun _ h9 => h9) rfl dX2_mostDamages_13 ?_
  refine lv_i2l hx hb dX2_mostDamages_16 rfl ?_
  obtain ⟨r3, h4, hm⟩ := zz_b1_some hm
  refine zz_calll (zz_runSN (w := wC y a) (As := [.int r1, .long ((z.2.2.1 580).toInt64)]) (rest := []) ⟨hx, hb, hml, hown, hts⟩ (zX10_thousandths l D y a H.size r1 ((z.2.2.1 580).toInt64) z h4) ⟨va_cnB 2 hts gX2_mostDamages_X10_thousandths_n104 rfl rfl rfl (hN _ (List.mem_of_getElem? (i := 7) rfl)) (hts (.initialized RX10) (List.mem_of_getElem? (i := 11) rfl)) zdX10_thousandths ⟨Nat.le_of_ble_eq_true rfl, Nat.le_of_ble_eq_true rfl⟩, (hts (.static yX10_thousandths) (List.mem_of_getElem? (i := 10) rfl)), trivial⟩ hK hN hg hP hD hS hA rfl hl.1 rfl (Nat.le_of_ble_eq_true rfl) dX2_mostDamages_17 ⟨Nat.le_of_ble_eq_true rfl, Nat.le_of_ble_eq_true rfl⟩) hD hS hA (fun H locs hP hD hS => ?_)
  exact zz_lret hx hb hr hlocks ⟨zz_some1 hm, rfl⟩ hP hK hD hS dX2_mostDamages_20
