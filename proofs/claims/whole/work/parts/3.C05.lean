def mX10_measures (x1 : Int32) (x2 : Int32) (x3 : Int32) (z : zz_M) : Option (Int32 × zz_M) := zz_b1 (mX10_isMeasure x1 x2 x3 z) (fun r1 => if r1 = (0 : Int32) then (some ((-1 : Int32), z)) else (zz_ck (zz_in x2 10) (zz_b2 (mX10_tellAnew x2.toNatClampNeg x1 x3 z) (fun r5 z7 => some (r5, z7)))))
theorem nX10_measures_X10 : ∀ w ∈ wsX100, w ∈ wsX10_measures := fun _ h => List.mem_cons_of_mem _ (List.mem_append_left _ (List.mem_append_left _ (List.mem_append_left _ (List.mem_append_right _ (h)))))
theorem nX10_measures_X2 : ∀ w ∈ wsX20, w ∈ wsX10_measures := fun _ h => List.mem_cons_of_mem _ (List.mem_append_left _ (List.mem_append_left _ (List.mem_append_right _ (h))))
theorem zdX10_measures : yX10_measures.cls = RX10 ∧ yX10_measures.cls ≠ "java/lang/invoke/MethodHandle" ∧ yX10_measures.cls ≠ "java/lang/invoke/VarHandle" ∧ (parseMethodDescriptor yX10_measures.desc).map (fun d => d.parameters.length) = some 3 := by decide +kernel
set_option maxHeartbeats 4000000 in
set_option maxRecDepth 100000 in
theorem zX10_measures (l : Launch) (D : va_G) (y : Nat → ClassId) (a : Nat → Nat) (sz : Nat) (x1 : Int32) (x2 : Int32) (x3 : Int32) (z : zz_M) {r : Int32} {zt : zz_M} (hm : mX10_measures x1 x2 x3 z = some (r, zt)) : Met l yX10_measures wsX10_measures { frames := 3, cells := 0, slots := 0, locals := 68 } (zz_Pc D y (wC y a z) sz [.ref (a 0), .int x1, .int x2, .int x3]) (zz_Qi D y (wC y a) (va_A (wC y a z) sz) r zt) 0 0 (va_A (wC y a z) sz) := by
  refine Met.ofW (cc := cX10_measures) (maxL := 4) (ret := (some .int)) (by decide) rfl ?_
  intro p e s m args below meth c s₁ B hml hv
  obtain ⟨rfl, hsz, hP, hK, hD0, hN, hg⟩ := hv
  have hx := B.exec
  have hb := B.bytes
  have hr := B.returns
  have hts := atoms_spec (ws := wsX10_measures) B.pre
  have hown : s.vm.findClass RX10 = some m.cls := findClass_of_methodNamed B.named
  have hlocks := B.notSynchronized
  clear B
  subst hsz
  have hD := hD0.self (sz := s.heap.size)
  generalize hAe : va_A (wC y a z) s.heap.size = A at hD hg ⊢
  have hA : ∀ q : Nat, s.heap.size ≤ q → A q := fun q h => by rw [← hAe]; exact Or.inr h
  clear hAe hD0
  have hl := lv_entry ([.ref (a 0), .int x1, .int x2, .int x3]) (n := 4) (Nat.le_of_ble_eq_true rfl)
  rw [lg_entry_eq]
  generalize (lg_sl ([.ref (a 0), .int x1, .int x2, .int x3]) ++ List.replicate (4 - (lg_sl ([.ref (a 0), .int x1, .int x2, .int x3])).length) Slot.unset).toArray = ls at hl ⊢
  replace hl : lv_has ls 4 [(0, .ref (a 0)), (1, .int x1), (2, .int x2), (3, .int x3)] := hl
  refine zz_go (w := wC y a) hP hD va_S.rf hl (fun G hG => ?_)
  clear hP hD hl ls
  rw [hG]
  intro H locs ls hP hD hS hl
  unfold mX10_measures at hm
  refine lv_aload_n hx hb dX10_measures_0 rfl (lv_at hl 0 rfl) ?_
  refine lv_iload_n hx hb dX10_measures_1 rfl (lv_at hl 1 rfl) ?_
  refine lv_iload_n hx hb dX10_measures_2 rfl (lv_at hl 2 rfl) ?_
  refine lv_iload_n hx hb dX10_measures_3 rfl (lv_at hl 3 rfl) ?_
  obtain ⟨r1, h2, hm⟩ := zz_b1_some hm
  refine zz_calli (zz_runV (w := wC y a) (As := [.int x1, .int x2, .int x3]) (rest := []) ⟨hx, hb, hml, hown, hts⟩ (zX10_isMeasure l D y a H.size x1 x2 x3 z h2) (cwV 3 hts gX10_measures_X10_isMeasure rfl rfl rfl zdX10_isMeasure ⟨Nat.le_of_ble_eq_true rfl, Nat.le_of_ble_eq_true rfl⟩) hK hN hg hP hD hS hA 0 (wC_0 y a z) rfl rfl hl.1 rfl (Nat.le_of_ble_eq_true rfl) dX10_measures_4 ⟨Nat.le_of_ble_eq_true rfl, Nat.le_of_ble_eq_true rfl⟩) hD hS hA (fun H locs hP hD hS => ?_)
  refine lv_if_ne (tgt := 12) hx hb dX10_measures_7 (by decide) (fun c3 => ?_) (fun c3 => ?_)
  · replace hm := zz_neg c3 hm
    refine lv_aload_n hx hb dX10_measures_12 rfl (lv_at hl 0 rfl) ?_
    refine va_get (D := D) (ci := 10) (v := .ref (a 8)) (C := RX10) (T := TX10) (N := 7) hx hb hts nX10_measures_X10 hown hK hP 0 (wC_0 y a z) rfl 2 (by decide) (hts (.fieldLink RX10 26 "WorksDesk" "book" "LWorksDesk$Book;") (List.mem_of_getElem? (i := 1) rfl)) (fun _ h9 => h9) rfl dX10_measures_13 ?_
    refine va_get (D := D) (ci := 2) (v := .ref (a 15)) (C := RX2) (T := TX2) (N := 12) hx hb hts nX10_measures_X2 hown hK hP 8 (wC_8 y a z) rfl 2 (by decide) (hts (.fieldLink RX10 96 "WorksDesk$Book" "measured" "[LWorksDesk$Series;") (List.mem_of_getElem? (i := 2) rfl)) (fun _ h9 => h9) rfl dX10_measures_16 ?_
    refine lv_iload_n hx hb dX10_measures_19 rfl (lv_at hl 2 rfl) ?_
    obtain ⟨c4, hm⟩ := zz_ck_some hm
    refine va_aldq (C := RX6) hx hb hK hP 15 3 (wC_15 y a z) rfl c4 dX10_measures_20 ?_
    refine W.eq (g2 := F0 m 21 ls [.ref (a (16 + 3 * x2.toNatClampNeg))]) rfl ?_
    refine lv_iload_n hx hb dX10_measures_21 rfl (lv_at hl 1 rfl) ?_
    refine lv_iload_n hx hb dX10_measures_22 rfl (lv_at hl 3 rfl) ?_
    obtain ⟨r5, z7, h6, hm⟩ := zz_b2_some hm
    refine zz_calli (zz_runS (w := wC y a) (As := [.ref (a (16 + 3 * x2.toNatClampNeg)), .int x1, .int x3]) (rest := []) ⟨hx, hb, hml, hown, hts⟩ (zX10_tellAnew l D y a H.size x2.toNatClampNeg x1 x3 (zz_lt c4 (by decide)) z h6) (va_cwS 3 hts gX10_measures_X10_tellAnew rfl rfl rfl zdX10_tellAnew ⟨Nat.le_of_ble_eq_true rfl, Nat.le_of_ble_eq_true rfl⟩) hK hN hg hP hD hS hA rfl hl.1 rfl (Nat.le_of_ble_eq_true rfl) dX10_measures_23 ⟨Nat.le_of_ble_eq_true rfl, Nat.le_of_ble_eq_true rfl⟩) hD hS hA (fun H locs hP hD hS => ?_)
    exact zz_iret hx hb hr hlocks (zz_some2 hm) hP hK hD hS dX10_measures_26
  · replace hm := zz_pos c3 hm
    refine lv_iconst (v := (-1 : Int32)) hx hb dX10_measures_10 (by decide) ?_
    exact zz_iret hx hb hr hlocks (zz_some2 hm) hP hK hD hS dX10_measures_11
def mX10_moreAsIf (x1 : Int32) (x2 : Int32) (z : zz_M) : Option Int64 := zz_b1 (mX4_of 81 x1 x2 z) (fun r1 => zz_b1 (mX4_of 64 x1 x2 z) (fun r3 => some (r1 - r3)))
theorem nX10_moreAsIf_X10 : ∀ w ∈ wsX100, w ∈ wsX10_moreAsIf := fun _ h => List.mem_cons_of_mem _ (List.mem_append_left _ (List.mem_append_right _ (h)))
theorem zdX10_moreAsIf : yX10_moreAsIf.cls = RX10 ∧ yX10_moreAsIf.cls ≠ "java/lang/invoke/MethodHandle" ∧ yX10_moreAsIf.cls ≠ "java/lang/invoke/VarHandle" ∧ (parseMethodDescriptor yX10_moreAsIf.desc).map (fun d => d.parameters.length) = some 2 := by decide +kernel
set_option maxHeartbeats 4000000 in
set_option maxRecDepth 100000 in
theorem zX10_moreAsIf (l : Launch) (D : va_G) (y : Nat → ClassId) (a : Nat → Nat) (sz : Nat) (x1 : Int32) (x2 : Int32) (z : zz_M) {r : Int64} (hm : mX10_moreAsIf x1 x2 z = some r) : Met l yX10_moreAsIf wsX10_moreAsIf { frames := 1, cells := 0, slots := 0, locals := 22 } (zz_Pc D y (wC y a z) sz [.ref (a 0), .int x1, .int x2]) (zz_Ql D y (wC y a) (va_A (wC y a z) sz) r z) 0 0 (va_A (wC y a z) sz) := by
  refine Met.ofW (cc := cX10_moreAsIf) (maxL := 3) (ret := (some .long)) (by decide) rfl ?_
  intro p e s m args below meth c s₁ B hml hv
  obtain ⟨rfl, hsz, hP, hK, hD0, hN, hg⟩ := hv
  have hx := B.exec
  have hb := B.bytes
  have hr := B.returns
  have hts := atoms_spec (ws := wsX10_moreAsIf) B.pre
  have hown : s.vm.findClass RX10 = some m.cls := findClass_of_methodNamed B.named
  have hlocks := B.notSynchronized
  clear B
  subst hsz
  have hD := hD0.self (sz := s.heap.size)
  generalize hAe : va_A (wC y a z) s.heap.size = A at hD hg ⊢
  have hA : ∀ q : Nat, s.heap.size ≤ q → A q := fun q h => by rw [← hAe]; exact Or.inr h
  clear hAe hD0
  have hl := lv_entry ([.ref (a 0), .int x1, .int x2]) (n := 3) (Nat.le_of_ble_eq_true rfl)
  rw [lg_entry_eq]
  generalize (lg_sl ([.ref (a 0), .int x1, .int x2]) ++ List.replicate (3 - (lg_sl ([.ref (a 0), .int x1, .int x2])).length) Slot.unset).toArray = ls at hl ⊢
  replace hl : lv_has ls 3 [(0, .ref (a 0)), (1, .int x1), (2, .int x2)] := hl
  refine zz_go (w := wC y a) hP hD va_S.rf hl (fun G hG => ?_)
  clear hP hD hl ls
  rw [hG]
  intro H locs ls hP hD hS hl
  unfold mX10_moreAsIf at hm
  refine lv_aload_n hx hb dX10_moreAsIf_0 rfl (lv_at hl 0 rfl) ?_
  refine va_get (D := D) (ci := 10) (v := .ref (a 81)) (C := RX10) (T := TX10) (N := 7) hx hb hts nX10_moreAsIf_X10 hown hK hP 0 (wC_0 y a z) rfl 4 (by decide) (hts (.fieldLink RX10 37 "WorksDesk" "asIf" "LWorksDesk$Figures;") (List.mem_of_getElem? (i := 1) rfl)) (fun _ h9 => h9) rfl dX10_moreAsIf_1 ?_
  refine lv_iload_n hx hb dX10_moreAsIf_4 rfl (lv_at hl 1 rfl) ?_
  refine lv_iload_n hx hb dX10_moreAsIf_5 rfl (lv_at hl 2 rfl) ?_
  obtain ⟨r1, h2, hm⟩ := zz_b1_some hm
  refine zz_calll (zz_runV (w := wC y a) (As := [.int x1, .int x2]) (rest := []) ⟨hx, hb, hml, hown, hts⟩ (zX4_of l D y a H.size 81 x1 x2 (Or.inr rfl) z h2) (cwV 2 hts gX10_moreAsIf_X4_of rfl rfl rfl zdX4_of ⟨Nat.le_of_ble_eq_true rfl, Nat.le_of_ble_eq_true rfl⟩) hK hN hg hP hD hS hA 81 (wC_fig y a z 81 (Or.inr rfl)) rfl rfl hl.1 rfl (Nat.le_of_ble_eq_true rfl) dX10_moreAsIf_6 ⟨Nat.le_of_ble_eq_true rfl, Nat.le_of_ble_eq_true rfl⟩) hD hS hA (fun H locs hP hD hS => ?_)
  refine lv_aload_n hx hb dX10_moreAsIf_9 rfl (lv_at hl 0 rfl) ?_
  refine va_get (D := D) (ci := 10) (v := .ref (a 64)) (C := RX10) (T := TX10) (N := 7) hx hb hts nX10_moreAsIf_X10 hown hK hP 0 (wC_0 y a z) rfl 3 (by decide) (hts (.fieldLink RX10 33 "WorksDesk" "real" "LWorksDesk$Figures;") (List.mem_of_getElem? (i := 2) rfl)) (fun _ h9 => h9) rfl dX10_moreAsIf_10 ?_
  refine lv_iload_n hx hb dX10_moreAsIf_13 rfl (lv_at hl 1 rfl) ?_
  refine lv_iload_n hx hb dX10_moreAsIf_14 rfl (lv_at hl 2 rfl) ?_
  obtain ⟨r3, h4, hm⟩ := zz_b1_some hm
  refine zz_calll (zz_runV (w := wC y a) (As := [.int x1, .int x2]) (rest := [.long r1]) ⟨hx, hb, hml, hown, hts⟩ (zX4_of l D y a H.size 64 x1 x2 (Or.inl rfl) z h4) (cwV 2 hts gX10_moreAsIf_X4_of rfl rfl rfl zdX4_of ⟨Nat.le_of_ble_eq_true rfl, Nat.le_of_ble_eq_true rfl⟩) hK hN hg hP hD hS hA 64 (wC_fig y a z 64 (Or.inl rfl)) rfl rfl hl.1 rfl (Nat.le_of_ble_eq_true rfl) dX10_moreAsIf_15 ⟨Nat.le_of_ble_eq_true rfl, Nat.le_of_ble_eq_true rfl⟩) hD hS hA (fun H locs hP hD hS => ?_)
  refine lv_lsub hx hb dX10_moreAsIf_18 ?_
  exact zz_lret hx hb hr hlocks ⟨zz_some1 hm, rfl⟩ hP hK hD hS dX10_moreAsIf_19
def mX10_needed_b72 (v1 : Int32) (v2 : Int32) (z : zz_M) : Option (Int32 × zz_M) := zz_b2 (mX4_reckon 81 z) (fun r1 z3 => zz_nm (zz_sF z3 523 v1) (fun z4 => zz_b1 (mX10_moreAsIf (8 : Int32) (23 : Int32) z4) (fun r5 => zz_b2 (mX5_start r5 z4) (fun r7 z9 => some (v2, z9)))))
def mX10_needed_b36 : Nat → Int32 → Int32 → zz_M → Option (Int32 × zz_M)
  | 0, _, _, _ => none
  | n + 1, v1, v2, z => if (24 : Int32) ≤ v2 then (mX10_needed_b72 v1 v2 z) else (zz_b1 (mX2_damages (23 : Int32) z) (fun r11 => if (lg_cmp r11 (0 : Int64)) ≤ (0 : Int32) then (mX10_needed_b72 v1 v2 z) else (zz_nm (v2 + (1 : Int32)) (fun n14 => zz_nm (zz_sF z 523 (v1 + n14)) (fun z15 => (mX10_needed_b36 n) v1 n14 z15)))))
def mX10_needed (z : zz_M) : Option (Int32 × zz_M) := if (z.2.2.1 522) = (24 : Int32) then (some ((-2 : Int32), z)) else (zz_b2 (mX4_reckon 64 z) (fun r17 z19 => mX10_needed_b36 zz_N (z19.2.2.1 523) (0 : Int32) z19))
theorem nX10_needed_X10 : ∀ w ∈ wsX100, w ∈ wsX10_needed := fun _ h => List.mem_cons_of_mem _ (List.mem_append_left _ (List.mem_append_left _ (List.mem_append_left _ (List.mem_append_left _ (List.mem_append_left _ (List.mem_append_left _ (List.mem_append_left _ (List.mem_append_left _ (List.mem_append_right _ (h))))))))))
theorem nX10_needed_X2 : ∀ w ∈ wsX20, w ∈ wsX10_needed := fun _ h => List.mem_cons_of_mem _ (List.mem_append_left _ (List.mem_append_left _ (List.mem_append_left _ (List.mem_append_left _ (List.mem_append_left _ (List.mem_append_left _ (List.mem_append_left _ (List.mem_append_right _ (h)))))))))
theorem zdX10_needed : yX10_needed.cls = RX10 ∧ yX10_needed.cls ≠ "java/lang/invoke/MethodHandle" ∧ yX10_needed.cls ≠ "java/lang/invoke/VarHandle" ∧ (parseMethodDescriptor yX10_needed.desc).map (fun d => d.parameters.length) = some 0 := by decide +kernel
set_option maxHeartbeats 4000000 in
set_option maxRecDepth 100000 in
theorem zX10_needed (l : Launch) (D : va_G) (y : Nat → ClassId) (a : Nat → Nat) (sz : Nat) (z : zz_M) {r : Int32} {zt : zz_M} (hm : mX10_needed z = some (r, zt)) : Met l yX10_needed wsX10_needed { frames := 5, cells := 0, slots := 0, locals := 129 } (zz_Pc D y (wC y a z) sz [.ref (a 0)]) (zz_Qi D y (wC y a) (va_A (wC y a z) sz) r zt) 0 0 (va_A (wC y a z) sz) := by
  refine Met.ofW (cc := cX10_needed) (maxL := 3) (ret := (some .int)) (by decide) rfl ?_
  intro p e s m args below meth c s₁ B hml hv
  obtain ⟨rfl, hsz, hP, hK, hD0, hN, hg⟩ := hv
  have hx := B.exec
  have hb := B.bytes
  have hr := B.returns
  have hts := atoms_spec (ws := wsX10_needed) B.pre
  have hown : s.vm.findClass RX10 = some m.cls := findClass_of_methodNamed B.named
  have hlocks := B.notSynchronized
  clear B
  subst hsz
  have hD := hD0.self (sz := s.heap.size)
  generalize hAe : va_A (wC y a z) s.heap.size = A at hD hg ⊢
  have hA : ∀ q : Nat, s.heap.size ≤ q → A q := fun q h => by rw [← hAe]; exact Or.inr h
  clear hAe hD0
  have hl := lv_entry ([.ref (a 0)]) (n := 3) (Nat.le_of_ble_eq_true rfl)
  rw [lg_entry_eq]
  generalize (lg_sl ([.ref (a 0)]) ++ List.replicate (3 - (lg_sl ([.ref (a 0)])).length) Slot.unset).toArray = ls at hl ⊢
  replace hl : lv_has ls 3 [(0, .ref (a 0))] := hl
  refine zz_go (w := wC y a) hP hD va_S.rf hl (fun G hG => ?_)
  clear hP hD hl ls
  have J72 : ∀ (v1 : Int32) (v2 : Int32) (z : zz_M), mX10_needed_b72 v1 v2 z = some (r, zt) → G 72 [(0, .ref (a 0)), (1, .int v1), (2, .int v2)] [] z := by
    intro v1 v2 z hm
    rw [mX10_needed_b72] at hm
    rw [hG]
    intro H locs ls hP hD hS hl
    refine lv_aload_n hx hb dX10_needed_72 rfl (lv_at hl 0 rfl) ?_
    refine va_get (D := D) (ci := 10) (v := .ref (a 81)) (C := RX10) (T := TX10) (N := 7) hx hb hts nX10_needed_X10 hown hK hP 0 (wC_0 y a z) rfl 4 (by decide) (hts (.fieldLink RX10 37 "WorksDesk" "asIf" "LWorksDesk$Figures;") (List.mem_of_getElem? (i := 5) rfl)) (fun _ h9 => h9) rfl dX10_needed_73 ?_
    refine lv_aload_n hx hb dX10_needed_76 rfl (lv_at hl 0 rfl) ?_
    refine va_get (D := D) (ci := 10) (v := .ref (a 8)) (C := RX10) (T := TX10) (N := 7) hx hb hts nX10_needed_X10 hown hK hP 0 (wC_0 y a z) rfl 2 (by decide) (hts (.fieldLink RX10 26 "WorksDesk" "book" "LWorksDesk$Book;") (List.mem_of_getElem? (i := 1) rfl)) (fun _ h9 => h9) rfl dX10_needed_77 ?_
    obtain ⟨r1, z3, h2, hm⟩ := zz_b2_some hm
    refine zz_callv (zz_runV (w := wC y a) (As := [.ref (a 8)]) (rest := []) ⟨hx, hb, hml, hown, hts⟩ (zX4_reckon l D y a H.size 81 (Or.inr rfl) z h2) (cwV 1 hts gX10_needed_X4_reckon rfl rfl rfl zdX4_reckon ⟨Nat.le_of_ble_eq_true rfl, Nat.le_of_ble_eq_true rfl⟩) hK hN hg hP hD hS hA 81 (wC_fig y a z 81 (Or.inr rfl)) rfl rfl hl.1 rfl (Nat.le_of_ble_eq_true rfl) dX10_needed_80 ⟨Nat.le_of_ble_eq_true rfl, Nat.le_of_ble_eq_true rfl⟩) hD hS hA (fun H locs hP hD hS => ?_)
    refine lv_aload_n hx hb dX10_needed_83 rfl (lv_at hl 0 rfl) ?_
    refine va_get (D := D) (ci := 10) (v := .ref (a 8)) (C := RX10) (T := TX10) (N := 7) hx hb hts nX10_needed_X10 hown hK hP 0 (wC_0 y a z3) rfl 2 (by decide) (hts (.fieldLink RX10 26 "WorksDesk" "book" "LWorksDesk$Book;") (List.mem_of_getElem? (i := 1) rfl)) (fun _ h9 => h9) rfl dX10_needed_84 ?_
    refine lv_iload_n hx hb dX10_needed_87 rfl (lv_at hl 1 rfl) ?_
    refine va_put (D := D) (ci := 2) (v := .int v1) (ty := .int) (C := RX2) (T := TX2) (N := 12) hx hb hts nX10_needed_X2 tyX2 tyX2_ok nmX2 hown hK hP hD hS 8 (wC_8 y a z3) rfl 11 (by decide) (hts (.fieldLink RX10 211 "WorksDesk$Book" "granted" "I") (List.mem_of_getElem? (i := 4) rfl)) (fun _ h9 => h9) rfl (tyX2_ok 11 (by decide)) rfl rfl (Nat.le_of_ble_eq_true rfl) dX10_needed_88 (fun H locs hP hD hS => ?_)
    obtain ⟨z4, hP, hD, hm⟩ := zz_up (w := wC y a) (wC_f8_11 y a z3 v1) hP hD hm
    refine lv_aload_n hx hb dX10_needed_91 rfl (lv_at hl 0 rfl) ?_
    refine va_get (D := D) (ci := 10) (v := .ref (a 99)) (C := RX10) (T := TX10) (N := 7) hx hb hts nX10_needed_X10 hown hK hP 0 (wC_0 y a z4) rfl 6 (by decide) (hts (.fieldLink RX10 47 "WorksDesk" "lastRow" "LWorksDesk$Row;") (List.mem_of_getElem? (i := 6) rfl)) (fun _ h9 => h9) rfl dX10_needed_92 ?_
    refine lv_aload_n hx hb dX10_needed_95 rfl (lv_at hl 0 rfl) ?_
    refine lv_bipush (v := (8 : Int32)) hx hb dX10_needed_96 (by decide) ?_
    refine lv_bipush (v := (23 : Int32)) hx hb dX10_needed_98 (by decide) ?_
    obtain ⟨r5, h6, hm⟩ := zz_b1_some hm
    refine zz_calll (zz_runV (w := wC y a) (As := [.int (8 : Int32), .int (23 : Int32)]) (rest := [.ref (a 99)]) ⟨hx, hb, hml, hown, hts⟩ (zX10_moreAsIf l D y a H.size (8 : Int32) (23 : Int32) z4 h6) (cwV 2 hts gX10_needed_X10_moreAsIf rfl rfl rfl zdX10_moreAsIf ⟨Nat.le_of_ble_eq_true rfl, Nat.le_of_ble_eq_true rfl⟩) hK hN hg hP hD hS hA 0 (wC_0 y a z4) rfl rfl hl.1 rfl (Nat.le_of_ble_eq_true rfl) dX10_needed_100 ⟨Nat.le_of_ble_eq_true rfl, Nat.le_of_ble_eq_true rfl⟩) hD hS hA (fun H locs hP hD hS => ?_)
    obtain ⟨r7, z9, h8, hm⟩ := zz_b2_some hm
    refine zz_callr (zz_runV (w := wC y a) (As := [.long r5]) (rest := []) ⟨hx, hb, hml, hown, hts⟩ (zX5_start l D y a H.size r5 z4 h8) (cwV 1 hts gX10_needed_X5_start rfl rfl rfl zdX5_start ⟨Nat.le_of_ble_eq_true rfl, Nat.le_of_ble_eq_true rfl⟩) hK hN hg hP hD hS hA 99 (wC_99 y a z4) rfl rfl hl.1 rfl (Nat.le_of_ble_eq_true rfl) dX10_needed_103 ⟨Nat.le_of_ble_eq_true rfl, Nat.le_of_ble_eq_true rfl⟩) hD hS hA (fun H locs hP hD hS => ?_)
    refine lv_pop hx hb dX10_needed_106 rfl ?_
    refine lv_iload_n hx hb dX10_needed_107 rfl (lv_at hl 2 rfl) ?_
    exact zz_iret hx hb hr hlocks (zz_some2 hm) hP hK hD hS dX10_needed_108
  have J36 : ∀ (n : Nat) (v1 : Int32) (v2 : Int32) (z : zz_M), mX10_needed_b36 n v1 v2 z = some (r, zt) → G 36 [(0, .ref (a 0)), (1, .int v1), (2, .int v2)] [] z := by
    intro n
    induction n with
    | zero =>
      intro v1 v2 z hm
      exact zz_none hm
    | succ n ih =>
      intro v1 v2 z hm
      rw [mX10_needed_b36] at hm
      rw [hG]
      intro H locs ls hP hD hS hl
      refine lv_iload_n hx hb dX10_needed_36 rfl (lv_at hl 2 rfl) ?_
      refine lv_bipush (v := (24 : Int32)) hx hb dX10_needed_37 (by decide) ?_
      refine lv_icmp_ge (tgt := 72) hx hb dX10_needed_39 (by decide) (fun c10 => ?_) (fun c10 => ?_)
      · replace hm := zz_pos c10 hm
        have j := J72 v1 v2 z hm
        rw [hG] at j
        exact j H locs ls hP hD hS (lv_sub hl [0, 1, 2] rfl)
      · replace hm := zz_neg c10 hm
        refine lv_aload_n hx hb dX10_needed_42 rfl (lv_at hl 0 rfl) ?_
        refine va_get (D := D) (ci := 10) (v := .ref (a 8)) (C := RX10) (T := TX10) (N := 7) hx hb hts nX10_needed_X10 hown hK hP 0 (wC_0 y a z) rfl 2 (by decide) (hts (.fieldLink RX10 26 "WorksDesk" "book" "LWorksDesk$Book;") (List.mem_of_getElem? (i := 1) rfl)) (fun _ h9 => h9) rfl dX10_needed_43 ?_
        refine lv_bipush (v := (23 : Int32)) hx hb dX10_needed_46 (by decide) ?_
        obtain ⟨r11, h12, hm⟩ := zz_b1_some hm
        refine zz_calll (zz_runV (w := wC y a) (As := [.int (23 : Int32)]) (rest := []) ⟨hx, hb, hml, hown, hts⟩ (zX2_damages l D y a H.size (23 : Int32) z h12) (cwV 1 hts gX10_needed_X2_damages rfl rfl rfl zdX2_damages ⟨Nat.le_of_ble_eq_true rfl, Nat.le_of_ble_eq_true rfl⟩) hK hN hg hP hD hS hA 8 (wC_8 y a z) rfl rfl hl.1 rfl (Nat.le_of_ble_eq_true rfl) dX10_needed_48 ⟨Nat.le_of_ble_eq_true rfl, Nat.le_of_ble_eq_true rfl⟩) hD hS hA (fun H locs hP hD hS => ?_)
        refine lv_lconst (v := (0 : Int64)) hx hb dX10_needed_51 (by decide) ?_
        refine W.lcmp hx hb dX10_needed_52 ?_
        refine lv_if_le (tgt := 72) hx hb dX10_needed_53 (by decide) (fun c13 => ?_) (fun c13 => ?_)
        · replace hm := zz_pos c13 hm
          have j := J72 v1 v2 z hm
          rw [hG] at j
          exact j H locs ls hP hD hS (lv_sub hl [0, 1, 2] rfl)
        · replace hm := zz_neg c13 hm
          obtain ⟨n14, en14⟩ : ∃ q : Int32, q = v2 + (1 : Int32) := ⟨_, rfl⟩
          replace hm := zz_nm_some en14 hm
          refine lv_iinc (v := n14) (lv' := [(2, .int n14), (0, .ref (a 0)), (1, .int v1)]) hx hb dX10_needed_56 hl (k := 2) rfl (by rw [en14]; rfl) (by decide) rfl (fun ls hl => ?_)
          refine lv_aload_n hx hb dX10_needed_59 rfl (lv_at hl 1 rfl) ?_
          refine va_get (D := D) (ci := 10) (v := .ref (a 8)) (C := RX10) (T := TX10) (N := 7) hx hb hts nX10_needed_X10 hown hK hP 0 (wC_0 y a z) rfl 2 (by decide) (hts (.fieldLink RX10 26 "WorksDesk" "book" "LWorksDesk$Book;") (List.mem_of_getElem? (i := 1) rfl)) (fun _ h9 => h9) rfl dX10_needed_60 ?_
          refine lv_iload_n hx hb dX10_needed_63 rfl (lv_at hl 2 rfl) ?_
          refine lv_iload_n hx hb dX10_needed_64 rfl (lv_at hl 0 rfl) ?_
          refine lv_iadd hx hb dX10_needed_65 ?_
          refine va_put (D := D) (ci := 2) (v := .int (v1 + n14)) (ty := .int) (C := RX2) (T := TX2) (N := 12) hx hb hts nX10_needed_X2 tyX2 tyX2_ok nmX2 hown hK hP hD hS 8 (wC_8 y a z) rfl 11 (by decide) (hts (.fieldLink RX10 211 "WorksDesk$Book" "granted" "I") (List.mem_of_getElem? (i := 4) rfl)) (fun _ h9 => h9) rfl (tyX2_ok 11 (by decide)) rfl rfl (Nat.le_of_ble_eq_true rfl) dX10_needed_66 (fun H locs hP hD hS => ?_)
          obtain ⟨z15, hP, hD, hm⟩ := zz_up (w := wC y a) (wC_f8_11 y a z (v1 + n14)) hP hD hm
          refine lv_goto (tgt := 36) hx hb dX10_needed_69 (by decide) ?_
          have j := ih v1 n14 z15 hm
          rw [hG] at j
          exact j H locs ls hP hD hS (lv_sub hl [1, 2, 0] rfl)
  rw [hG]
  intro H locs ls hP hD hS hl
  unfold mX10_needed at hm
  refine lv_aload_n hx hb dX10_needed_0 rfl (lv_at hl 0 rfl) ?_
  refine va_get (D := D) (ci := 10) (v := .ref (a 8)) (C := RX10) (T := TX10) (N := 7) hx hb hts nX10_needed_X10 hown hK hP 0 (wC_0 y a z) rfl 2 (by decide) (hts (.fieldLink RX10 26 "WorksDesk" "book" "LWorksDesk$Book;") (List.mem_of_getElem? (i := 1) rfl)) (fun _ h9 => h9) rfl dX10_needed_1 ?_
  refine va_get (D := D) (ci := 2) (v := .int (z.2.2.1 522)) (C := RX2) (T := TX2) (N := 12) hx hb hts nX10_needed_X2 hown hK hP 8 (wC_8 y a z) rfl 10 (by decide) (hts (.fieldLink RX10 208 "WorksDesk$Book" "dueBy" "I") (List.mem_of_getElem? (i := 2) rfl)) (fun _ h9 => h9) rfl dX10_needed_4 ?_
  refine lv_bipush (v := (24 : Int32)) hx hb dX10_needed_7 (by decide) ?_
  refine lv_icmp_ne (tgt := 15) hx hb dX10_needed_9 (by decide) (fun c16 => ?_) (fun c16 => ?_)
  · replace hm := zz_neg c16 hm
    refine lv_aload_n hx hb dX10_needed_15 rfl (lv_at hl 0 rfl) ?_
    refine va_get (D := D) (ci := 10) (v := .ref (a 64)) (C := RX10) (T := TX10) (N := 7) hx hb hts nX10_needed_X10 hown hK hP 0 (wC_0 y a z) rfl 3 (by decide) (hts (.fieldLink RX10 33 "WorksDesk" "real" "LWorksDesk$Figures;") (List.mem_of_getElem? (i := 3) rfl)) (fun _ h9 => h9) rfl dX10_needed_16 ?_
    refine lv_aload_n hx hb dX10_needed_19 rfl (lv_at hl 0 rfl) ?_
    refine va_get (D := D) (ci := 10) (v := .ref (a 8)) (C := RX10) (T := TX10) (N := 7) hx hb hts nX10_needed_X10 hown hK hP 0 (wC_0 y a z) rfl 2 (by decide) (hts (.fieldLink RX10 26 "WorksDesk" "book" "LWorksDesk$Book;") (List.mem_of_getElem? (i := 1) rfl)) (fun _ h9 => h9) rfl dX10_needed_20 ?_
    obtain ⟨r17, z19, h18, hm⟩ := zz_b2_some hm
    refine zz_callv (zz_runV (w := wC y a) (As := [.ref (a 8)]) (rest := []) ⟨hx, hb, hml, hown, hts⟩ (zX4_reckon l D y a H.size 64 (Or.inl rfl) z h18) (cwV 1 hts gX10_needed_X4_reckon rfl rfl rfl zdX4_reckon ⟨Nat.le_of_ble_eq_true rfl, Nat.le_of_ble_eq_true rfl⟩) hK hN hg hP hD hS hA 64 (wC_fig y a z 64 (Or.inl rfl)) rfl rfl hl.1 rfl (Nat.le_of_ble_eq_true rfl) dX10_needed_23 ⟨Nat.le_of_ble_eq_true rfl, Nat.le_of_ble_eq_true rfl⟩) hD hS hA (fun H locs hP hD hS => ?_)
    refine lv_aload_n hx hb dX10_needed_26 rfl (lv_at hl 0 rfl) ?_
    refine va_get (D := D) (ci := 10) (v := .ref (a 8)) (C := RX10) (T := TX10) (N := 7) hx hb hts nX10_needed_X10 hown hK hP 0 (wC_0 y a z19) rfl 2 (by decide) (hts (.fieldLink RX10 26 "WorksDesk" "book" "LWorksDesk$Book;") (List.mem_of_getElem? (i := 1) rfl)) (fun _ h9 => h9) rfl dX10_needed_27 ?_
    refine va_get (D := D) (ci := 2) (v := .int (z19.2.2.1 523)) (C := RX2) (T := TX2) (N := 12) hx hb hts nX10_needed_X2 hown hK hP 8 (wC_8 y a z19) rfl 11 (by decide) (hts (.fieldLink RX10 211 "WorksDesk$Book" "granted" "I") (List.mem_of_getElem? (i := 4) rfl)) (fun _ h9 => h9) rfl dX10_needed_30 ?_
    refine lv_istore_n (lv' := [(1, .int (z19.2.2.1 523)), (0, .ref (a 0))]) hx hb dX10_needed_33 rfl hl (by decide) rfl (fun ls hl => ?_)
    refine lv_iconst (v := (0 : Int32)) hx hb dX10_needed_34 (by decide) ?_
    refine lv_istore_n (lv' := [(2, .int (0 : Int32)), (1, .int (z19.2.2.1 523)), (0, .ref (a 0))]) hx hb dX10_needed_35 rfl hl (by decide) rfl (fun ls hl => ?_)
    have j := J36 zz_N (z19.2.2.1 523) (0 : Int32) z19 hm
    rw [hG] at j
    exact j H locs ls hP hD hS (lv_sub hl [2, 1, 0] rfl)
  · replace hm := zz_pos c16 hm
    refine lv_bipush (v := (-2 : Int32)) hx hb dX10_needed_12 (by decide) ?_
    exact zz_iret hx hb hr hlocks (zz_some2 hm) hP hK hD hS dX10_needed_14
def mX10_overdue_b63 (v1 : Int32) (z : zz_M) : Option (Int32 × zz_M) := zz_b1 (mX2_damages (23 : Int32) z) (fun r1 => zz_b2 (mX5_start r1 z) (fun r3 z5 => zz_b2 (mX5_then v1.toInt64 z5) (fun r6 z8 => zz_b1 (mX2_lateMonths (23 : Int32) z8) (fun r9 => some (r9, z8)))))
def mX10_overdue_b57 (k29 : Int32 → Int64 → Int32 → zz_M → Option (Int32 × zz_M)) (v1 : Int32) (v2 : Int64) (v4 : Int32) (z : zz_M) : Option (Int32 × zz_M) := zz_nm (v4 + (-1 : Int32)) (fun n11 => k29 v1 v2 n11 z)
def mX10_overdue_b29 : Nat → Int32 → Int64 → Int32 → zz_M → Option (Int32 × zz_M)
  | 0, _, _, _, _ => none
  | n + 1, v1, v2, v4, z => if v4 < (0 : Int32) then (mX10_overdue_b63 v1 z) else (if (lg_cmp v2 (0 : Int64)) ≤ (0 : Int32) then (mX10_overdue_b63 v1 z) else (zz_b1 (mX2_damages v4 z) (fun r14 => if (lg_cmp r14 v2) = (0 : Int32) then (mX10_overdue_b57 (mX10_overdue_b29 n) v4 v2 v4 z) else (mX10_overdue_b57 (mX10_overdue_b29 n) v1 v2 v4 z))))
def mX10_overdue (z : zz_M) : Option (Int32 × zz_M) := if (z.2.2.1 522) = (24 : Int32) then (some ((-2 : Int32), z)) else (zz_b1 (mX2_mostDamages z) (fun r18 => mX10_overdue_b29 zz_N (-1 : Int32) r18 (23 : Int32) z))
theorem nX10_overdue_X10 : ∀ w ∈ wsX100, w ∈ wsX10_overdue := fun _ h => List.mem_cons_of_mem _ (List.mem_append_left _ (List.mem_append_left _ (List.mem_append_left _ (List.mem_append_left _ (List.mem_append_right _ (h))))))
theorem nX10_overdue_X2 : ∀ w ∈ wsX20, w ∈ wsX10_overdue := fun _ h => List.mem_cons_of_mem _ (List.mem_append_left _ (List.mem_append_left _ (List.mem_append_left _ (List.mem_append_right _ (h)))))
theorem zdX10_overdue : yX10_overdue.cls = RX10 ∧ yX10_overdue.cls ≠ "java/lang/invoke/MethodHandle" ∧ yX10_overdue.cls ≠ "java/lang/invoke/VarHandle" ∧ (parseMethodDescriptor yX10_overdue.desc).map (fun d => d.parameters.length) = some 0 := by decide +kernel
set_option maxHeartbeats 4000000 in
set_option maxRecDepth 100000 in
theorem zX10_overdue (l : Launch) (D : va_G) (y : Nat → ClassId) (a : Nat → Nat) (sz : Nat) (z : zz_M) {r : Int32} {zt : zz_M} (hm : mX10_overdue z = some (r, zt)) : Met l yX10_overdue wsX10_overdue { frames := 3, cells := 0, slots := 0, locals := 68 } (zz_Pc D y (wC y a z) sz [.ref (a 0)]) (zz_Qi D y (wC y a) (va_A (wC y a z) sz) r zt) 0 0 (va_A (wC y a z) sz) := by
  refine Met.ofW (cc := cX10_overdue) (maxL := 5) (ret := (some .int)) (by decide) rfl ?_
  intro p e s m args below meth c s₁ B hml hv
  obtain ⟨rfl, hsz, hP, hK, hD0, hN, hg⟩ := hv
  have hx := B.exec
  have hb := B.bytes
  have hr := B.returns
  have hts := atoms_spec (ws := wsX10_overdue) B.pre
  have hown : s.vm.findClass RX10 = some m.cls := findClass_of_methodNamed B.named
  have hlocks := B.notSynchronized
  clear B
  subst hsz
  have hD := hD0.self (sz := s.heap.size)
  generalize hAe : va_A (wC y a z) s.heap.size = A at hD hg ⊢
  have hA : ∀ q : Nat, s.heap.size ≤ q → A q := fun q h => by rw [← hAe]; exact Or.inr h
  clear hAe hD0
  have hl := lv_entry ([.ref (a 0)]) (n := 5) (Nat.le_of_ble_eq_true rfl)
  rw [lg_entry_eq]
  generalize (lg_sl ([.ref (a 0)]) ++ List.replicate (5 - (lg_sl ([.ref (a 0)])).length) Slot.unset).toArray = ls at hl ⊢
  replace hl : lv_has ls 5 [(0, .ref (a 0))] := hl
  refine zz_go (w := wC y a) hP hD va_S.rf hl (fun G hG => ?_)
  clear hP hD hl ls
  have J63 : ∀ (v1 : Int32) (z : zz_M), mX10_overdue_b63 v1 z = some (r, zt) → G 63 [(0, .ref (a 0)), (1, .int v1)] [] z := by
    intro v1 z hm
    rw [mX10_overdue_b63] at hm
    rw [hG]
    intro H locs ls hP hD hS hl
    refine lv_aload_n hx hb dX10_overdue_63 rfl (lv_at hl 0 rfl) ?_
    refine va_get (D := D) (ci := 10) (v := .ref (a 99)) (C := RX10) (T := TX10) (N := 7) hx hb hts nX10_overdue_X10 hown hK hP 0 (wC_0 y a z) rfl 6 (by decide) (hts (.fieldLink RX10 47 "WorksDesk" "lastRow" "LWorksDesk$Row;") (List.mem_of_getElem? (i := 3) rfl)) (fun _ h9 => h9) rfl dX10_overdue_64 ?_
    refine lv_aload_n hx hb dX10_overdue_67 rfl (lv_at hl 0 rfl) ?_
    refine va_get (D := D) (ci := 10) (v := .ref (a 8)) (C := RX10) (T := TX10) (N := 7) hx hb hts nX10_overdue_X10 hown hK hP 0 (wC_0 y a z) rfl 2 (by decide) (hts (.fieldLink RX10 26 "WorksDesk" "book" "LWorksDesk$Book;") (List.mem_of_getElem? (i := 1) rfl)) (fun _ h9 => h9) rfl dX10_overdue_68 ?_
    refine lv_bipush (v := (23 : Int32)) hx hb dX10_overdue_71 (by decide) ?_
    obtain ⟨r1, h2, hm⟩ := zz_b1_some hm
    refine zz_calll (zz_runV (w := wC y a) (As := [.int (23 : Int32)]) (rest := [.ref (a 99)]) ⟨hx, hb, hml, hown, hts⟩ (zX2_damages l D y a H.size (23 : Int32) z h2) (cwV 1 hts gX10_overdue_X2_damages rfl rfl rfl zdX2_damages ⟨Nat.le_of_ble_eq_true rfl, Nat.le_of_ble_eq_true rfl⟩) hK hN hg hP hD hS hA 8 (wC_8 y a z) rfl rfl hl.1 rfl (Nat.le_of_ble_eq_true rfl) dX10_overdue_73 ⟨Nat.le_of_ble_eq_true rfl, Nat.le_of_ble_eq_true rfl⟩) hD hS hA (fun H locs hP hD hS => ?_)
    obtain ⟨r3, z5, h4, hm⟩ := zz_b2_some hm
    refine zz_callr (zz_runV (w := wC y a) (As := [.long r1]) (rest := []) ⟨hx, hb, hml, hown, hts⟩ (zX5_start l D y a H.size r1 z h4) (cwV 1 hts gX10_overdue_X5_start rfl rfl rfl zdX5_start ⟨Nat.le_of_ble_eq_true rfl, Nat.le_of_ble_eq_true rfl⟩) hK hN hg hP hD hS hA 99 (wC_99 y a z) rfl rfl hl.1 rfl (Nat.le_of_ble_eq_true rfl) dX10_overdue_76 ⟨Nat.le_of_ble_eq_true rfl, Nat.le_of_ble_eq_true rfl⟩) hD hS hA (fun H locs hP hD hS => ?_)
    refine lv_iload_n hx hb dX10_overdue_79 rfl (lv_at hl 1 rfl) ?_
    refine lv_i2l hx hb dX10_overdue_80 rfl ?_
    obtain ⟨r6, z8, h7, hm⟩ := zz_b2_some hm
    refine zz_callr (zz_runV (w := wC y a) (As := [.long v1.toInt64]) (rest := []) ⟨hx, hb, hml, hown, hts⟩ (zX5_then l D y a H.size v1.toInt64 z5 h7) (cwV 1 hts gX10_overdue_X5_then rfl rfl rfl zdX5_then ⟨Nat.le_of_ble_eq_true rfl, Nat.le_of_ble_eq_true rfl⟩) hK hN hg hP hD hS hA 99 (wC_99 y a z5) rfl rfl hl.1 rfl (Nat.le_of_ble_eq_true rfl) dX10_overdue_81 ⟨Nat.le_of_ble_eq_true rfl, Nat.le_of_ble_eq_true rfl⟩) hD hS hA (fun H locs hP hD hS => ?_)
    refine lv_pop hx hb dX10_overdue_84 rfl ?_
    refine lv_aload_n hx hb dX10_overdue_85 rfl (lv_at hl 0 rfl) ?_
    refine va_get (D := D) (ci := 10) (v := .ref (a 8)) (C := RX10) (T := TX10) (N := 7) hx hb hts nX10_overdue_X10 hown hK hP 0 (wC_0 y a z8) rfl 2 (by decide) (hts (.fieldLink RX10 26 "WorksDesk" "book" "LWorksDesk$Book;") (List.mem_of_getElem? (i := 1) rfl)) (fun _ h9 => h9) rfl dX10_overdue_86 ?_
    refine lv_bipush (v := (23 : Int32)) hx hb dX10_overdue_89 (by decide) ?_
    obtain ⟨r9, h10, hm⟩ := zz_b1_some hm
    refine zz_calli (zz_runV (w := wC y a) (As := [.int (23 : Int32)]) (rest := []) ⟨hx, hb, hml, hown, hts⟩ (zX2_lateMonths l D y a H.size (23 : Int32) z8 h10) (cwV 1 hts gX10_overdue_X2_lateMonths rfl rfl rfl zdX2_lateMonths ⟨Nat.le_of_ble_eq_true rfl, Nat.le_of_ble_eq_true rfl⟩) hK hN hg hP hD hS hA 8 (wC_8 y a z8) rfl rfl hl.1 rfl (Nat.le_of_ble_eq_true rfl) dX10_overdue_91 ⟨Nat.le_of_ble_eq_true rfl, Nat.le_of_ble_eq_true rfl⟩) hD hS hA (fun H locs hP hD hS => ?_)
    exact zz_iret hx hb hr hlocks (zz_some2 hm) hP hK hD hS dX10_overdue_94
  have J57 : ∀ (k29 : Int32 → Int64 → Int32 → zz_M → Option (Int32 × zz_M)) (K29 : ∀ (v1 : Int32) (v2 : Int64) (v4 : Int32) (z : zz_M), k29 v1 v2 v4 z = some (r, zt) → G 29 [(0, .ref (a 0)), (1, .int v1), (2, .long v2), (4, .int v4)] [] z) (v1 : Int32) (v2 : Int64) (v4 : Int32) (z : zz_M), mX10_overdue_b57 k29 v1 v2 v4 z = some (r, zt) → G 57 [(0, .ref (a 0)), (1, .int v1), (2, .long v2), (4, .int v4)] [] z := by
    intro k29 K29 v1 v2 v4 z hm
    rw [mX10_overdue_b57] at hm
    rw [hG]
    intro H locs ls hP hD hS hl
    obtain ⟨n11, en11⟩ : ∃ q : Int32, q = v4 + (-1 : Int32) := ⟨_, rfl⟩
    replace hm := zz_nm_some en11 hm
    refine lv_iinc (v := n11) (lv' := [(4, .int n11), (0, .ref (a 0)), (1, .int v1), (2, .long v2)]) hx hb dX10_overdue_57 hl (k := 3) rfl (by rw [en11]; rfl) (by decide) rfl (fun ls hl => ?_)
    refine lv_goto (tgt := 29) hx hb dX10_overdue_60 (by decide) ?_
    have j := K29 v1 v2 n11 z hm
    rw [hG] at j
    exact j H locs ls hP hD hS (lv_sub hl [1, 2, 3, 0] rfl)
  have J29 : ∀ (n : Nat) (v1 : Int32) (v2 : Int64) (v4 : Int32) (z : zz_M), mX10_overdue_b29 n v1 v2 v4 z = some (r, zt) → G 29 [(0, .ref (a 0)), (1, .int v1), (2, .long v2), (4, .int v4)] [] z := by
    intro n
    induction n with
    | zero =>
      intro v1 v2 v4 z hm
      exact zz_none hm
    | succ n ih =>
      intro v1 v2 v4 z hm
      rw [mX10_overdue_b29] at hm
      rw [hG]
      intro H locs ls hP hD hS hl
      refine lv_iload hx hb dX10_overdue_29 (lv_at hl 3 rfl) ?_
      refine lv_if_lt (tgt := 63) hx hb dX10_overdue_31 (by decide) (fun c12 => ?_) (fun c12 => ?_)
      · replace hm := zz_pos c12 hm
        have j := J63 v1 z hm
        rw [hG] at j
        exact j H locs ls hP hD hS (lv_sub hl [0, 1] rfl)
      · replace hm := zz_neg c12 hm
        refine lv_lload_n hx hb dX10_overdue_34 rfl (lv_at hl 2 rfl) ?_
        refine lv_lconst (v := (0 : Int64)) hx hb dX10_overdue_35 (by decide) ?_
        refine W.lcmp hx hb dX10_overdue_36 ?_
        refine lv_if_le (tgt := 63) hx hb dX10_overdue_37 (by decide) (fun c13 => ?_) (fun c13 => ?_)
        · replace hm := zz_pos c13 hm
          have j := J63 v1 z hm
          rw [hG] at j
          exact j H locs ls hP hD hS (lv_sub hl [0, 1] rfl)
        · replace hm := zz_neg c13 hm
          refine lv_aload_n hx hb dX10_overdue_40 rfl (lv_at hl 0 rfl) ?_
          refine va_get (D := D) (ci := 10) (v := .ref (a 8)) (C := RX10) (T := TX10) (N := 7) hx hb hts nX10_overdue_X10 hown hK hP 0 (wC_0 y a z) rfl 2 (by decide) (hts (.fieldLink RX10 26 "WorksDesk" "book" "LWorksDesk$Book;") (List.mem_of_getElem? (i := 1) rfl)) (fun _ h9 => h9) rfl dX10_overdue_41 ?_
          refine lv_iload hx hb dX10_overdue_44 (lv_at hl 3 rfl) ?_
          obtain ⟨r14, h15, hm⟩ := zz_b1_some hm
          refine zz_calll (zz_runV (w := wC y a) (As := [.int v4]) (rest := []) ⟨hx, hb, hml, hown, hts⟩ (zX2_damages l D y a H.size v4 z h15) (cwV 1 hts gX10_overdue_X2_damages rfl rfl rfl zdX2_damages ⟨Nat.le_of_ble_eq_true rfl, Nat.le_of_ble_eq_true rfl⟩) hK hN hg hP hD hS hA 8 (wC_8 y a z) rfl rfl hl.1 rfl (Nat.le_of_ble_eq_true rfl) dX10_overdue_46 ⟨Nat.le_of_ble_eq_true rfl, Nat.le_of_ble_eq_true rfl⟩) hD hS hA (fun H locs hP hD hS => ?_)
          refine lv_lload_n hx hb dX10_overdue_49 rfl (lv_at hl 2 rfl) ?_
          refine W.lcmp hx hb dX10_overdue_50 ?_
          refine lv_if_ne (tgt := 57) hx hb dX10_overdue_51 (by decide) (fun c16 => ?_) (fun c16 => ?_)
          · replace hm := zz_neg c16 hm
            have j := J57 (mX10_overdue_b29 n) ih v1 v2 v4 z hm
            rw [hG] at j
            exact j H locs ls hP hD hS (lv_sub hl [0, 1, 2, 3] rfl)
          · replace hm := zz_pos c16 hm
            refine lv_iload hx hb dX10_overdue_54 (lv_at hl 3 rfl) ?_
            refine lv_istore_n (lv' := [(1, .int v4), (0, .ref (a 0)), (2, .long v2), (4, .int v4)]) hx hb dX10_overdue_56 rfl hl (by decide) rfl (fun ls hl => ?_)
            have j := J57 (mX10_overdue_b29 n) ih v4 v2 v4 z hm
            rw [hG] at j
            exact j H locs ls hP hD hS (lv_sub hl [1, 0, 2, 3] rfl)
  rw [hG]
  intro H locs ls hP hD hS hl
  unfold mX10_overdue at hm
  refine lv_aload_n hx hb dX10_overdue_0 rfl (lv_at hl 0 rfl) ?_
  refine va_get (D := D) (ci := 10) (v := .ref (a 8)) (C := RX10) (T := TX10) (N := 7) hx hb hts nX10_overdue_X10 hown hK hP 0 (wC_0 y a z) rfl 2 (by decide) (hts (.fieldLink RX10 26 "WorksDesk" "book" "LWorksDesk$Book;") (List.mem_of_getElem? (i := 1) rfl)) (fun _ h9 => h9) rfl dX10_overdue_1 ?_
  refine va_get (D := D) (ci := 2) (v := .int (z.2.2.1 522)) (C := RX2) (T := TX2) (N := 12) hx hb hts nX10_overdue_X2 hown hK hP 8 (wC_8 y a z) rfl 10 (by decide) (hts (.fieldLink RX10 208 "WorksDesk$Book" "dueBy" "I") (List.mem_of_getElem? (i := 2) rfl)) (fun _ h9 => h9) rfl dX10_overdue_4 ?_
  refine lv_bipush (v := (24 : Int32)) hx hb dX10_overdue_7 (by decide) ?_
  refine lv_icmp_ne (tgt := 15) hx hb dX10_overdue_9 (by decide) (fun c17 => ?_) (fun c17 => ?_)
  · replace hm := zz_neg c17 hm
    refine lv_iconst (v := (-1 : Int32)) hx hb dX10_overdue_15 (by decide) ?_
    refine lv_istore_n (lv' := [(1, .int (-1 : Int32)), (0, .ref (a 0))]) hx hb dX10_overdue_16 rfl hl (by decide) rfl (fun ls hl => ?_)
    refine lv_aload_n hx hb dX10_overdue_17 rfl (lv_at hl 1 rfl) ?_
    refine va_get (D := D) (ci := 10) (v := .ref (a 8)) (C := RX10) (T := TX10) (N := 7) hx hb hts nX10_overdue_X10 hown hK hP 0 (wC_0 y a z) rfl 2 (by decide) (hts (.fieldLink RX10 26 "WorksDesk" "book" "LWorksDesk$Book;") (List.mem_of_getElem? (i := 1) rfl)) (fun _ h9 => h9) rfl dX10_overdue_18 ?_
    obtain ⟨r18, h19, hm⟩ := zz_b1_some hm
    refine zz_calll (zz_runV (w := wC y a) (As := []) (rest := []) ⟨hx, hb, hml, hown, hts⟩ (zX2_mostDamages l D y a H.size z h19) (cwV 0 hts gX10_overdue_X2_mostDamages rfl rfl rfl zdX2_mostDamages ⟨Nat.le_of_ble_eq_true rfl, Nat.le_of_ble_eq_true rfl⟩) hK hN hg hP hD hS hA 8 (wC_8 y a z) rfl rfl hl.1 rfl (Nat.le_of_ble_eq_true rfl) dX10_overdue_21 ⟨Nat.le_of_ble_eq_true rfl, Nat.le_of_ble_eq_true rfl⟩) hD hS hA (fun H locs hP hD hS => ?_)
    refine lv_lstore_n (lv' := [(2, .long r18), (1, .int (-1 : Int32)), (0, .ref (a 0))]) hx hb dX10_overdue_24 rfl hl (by decide) rfl (fun ls hl => ?_)
    refine lv_bipush (v := (23 : Int32)) hx hb dX10_overdue_25 (by decide) ?_
    refine lv_istore (lv' := [(4, .int (23 : Int32)), (2, .long r18), (1, .int (-1 : Int32)), (0, .ref (a 0))]) hx hb dX10_overdue_27 hl (by decide) rfl (fun ls hl => ?_)
    have j := J29 zz_N (-1 : Int32) r18 (23 : Int32) z hm
    rw [hG] at j
    exact j H locs ls hP hD hS (lv_sub hl [3, 2, 1, 0] rfl)
  · replace hm := zz_pos c17 hm
    refine lv_bipush (v := (-2 : Int32)) hx hb dX10_overdue_12 (by decide) ?_
    exact zz_iret hx hb hr hlocks (zz_some2 hm) hP hK hD hS dX10_overdue_14
def mX10_paces_b27 : Nat → Int32 → zz_M → Option (Int32 × zz_M)
  | 0, _, _ => none
  | n + 1, v3, z => if (24 : Int32) ≤ v3 then (some ((-2 : Int32), z)) else (zz_b1 (mX4_of 64 (9 : Int32) v3 z) (fun r2 => if (lg_cmp r2 (0 : Int64)) = (0 : Int32) then (zz_b1 (mX4_of 64 (11 : Int32) (23 : Int32) z) (fun r6 => zz_b2 (mX5_start r6 z) (fun r8 z10 => some (v3, z10)))) else (zz_nm (v3 + (1 : Int32)) (fun n5 => (mX10_paces_b27 n) n5 z))))
def mX10_paces_b17 (z : zz_M) : Option (Int32 × zz_M) := some ((-1 : Int32), z)
def mX10_paces (x1 : Int32) (x2 : Int32) (z : zz_M) : Option (Int32 × zz_M) := zz_b1 (mX10_isMonth x1) (fun r11 => if r11 = (0 : Int32) then (mX10_paces_b17 z) else (zz_b1 (mX10_isWithin x2 (1 : Int32) (999999 : Int32)) (fun r14 => if r14 = (0 : Int32) then (mX10_paces_b17 z) else (zz_b2 (mX10_payFrom x1 x2 z) (fun r17 z19 => mX10_paces_b27 zz_N x1 z19)))))
theorem nX10_paces_X10 : ∀ w ∈ wsX100, w ∈ wsX10_paces := fun _ h => List.mem_cons_of_mem _ (List.mem_append_left _ (List.mem_append_left _ (List.mem_append_left _ (List.mem_append_left _ (List.mem_append_left _ (List.mem_append_left _ (List.mem_append_left _ (List.mem_append_left _ (List.mem_append_right _ (h))))))))))
theorem zdX10_paces : yX10_paces.cls = RX10 ∧ yX10_paces.cls ≠ "java/lang/invoke/MethodHandle" ∧ yX10_paces.cls ≠ "java/lang/invoke/VarHandle" ∧ (parseMethodDescriptor yX10_paces.desc).map (fun d => d.parameters.length) = some 2 := by decide +kernel
set_option maxHeartbeats 4000000 in
set_option maxRecDepth 100000 in
theorem zX10_paces (l : Launch) (D : va_G) (y : Nat → ClassId) (a : Nat → Nat) (sz : Nat) (x1 : Int32) (x2 : Int32) (z : zz_M) {r : Int32} {zt : zz_M} (hm : mX10_paces x1 x2 z = some (r, zt)) : Met l yX10_paces wsX10_paces { frames := 6, cells := 0, slots := 0, locals := 152 } (zz_Pc D y (wC y a z) sz [.ref (a 0), .int x1, .int x2]) (zz_Qi D y (wC y a) (va_A (wC y a z) sz) r zt) 0 0 (va_A (wC y a z) sz) := by
  refine Met.ofW (cc := cX10_paces) (maxL := 4) (ret := (some .int)) (by decide) rfl ?_
  intro p e s m args below meth c s₁ B hml hv
  obtain ⟨rfl, hsz, hP, hK, hD0, hN, hg⟩ := hv
  have hx := B.exec
  have hb := B.bytes
  have hr := B.returns
  have hts := atoms_spec (ws := wsX10_paces) B.pre
  have hown : s.vm.findClass RX10 = some m.cls := findClass_of_methodNamed B.named
  have hlocks := B.notSynchronized
  clear B
  subst hsz
  have hD := hD0.self (sz := s.heap.size)
  generalize hAe : va_A (wC y a z) s.heap.size = A at hD hg ⊢
  have hA : ∀ q : Nat, s.heap.size ≤ q → A q := fun q h => by rw [← hAe]; exact Or.inr h
  clear hAe hD0
  have hl := lv_entry ([.ref (a 0), .int x1, .int x2]) (n := 4) (Nat.le_of_ble_eq_true rfl)
  rw [lg_entry_eq]
  generalize (lg_sl ([.ref (a 0), .int x1, .int x2]) ++ List.replicate (4 - (lg_sl ([.ref (a 0), .int x1, .int x2])).length) Slot.unset).toArray = ls at hl ⊢
  replace hl : lv_has ls 4 [(0, .ref (a 0)), (1, .int x1), (2, .int x2)] := hl
  refine zz_go (w := wC y a) hP hD va_S.rf hl (fun G hG => ?_)
  clear hP hD hl ls
  have J27 : ∀ (n : Nat) (v3 : Int32) (z : zz_M), mX10_paces_b27 n v3 z = some (r, zt) → G 27 [(0, .ref (a 0)), (3, .int v3)] [] z := by
    intro n
    induction n with
    | zero =>
      intro v3 z hm
      exact zz_none hm
    | succ n ih =>
      intro v3 z hm
      rw [mX10_paces_b27] at hm
      rw [hG]
      intro H locs ls hP hD hS hl
      refine lv_iload_n hx hb dX10_paces_27 rfl (lv_at hl 1 rfl) ?_
      refine lv_bipush (v := (24 : Int32)) hx hb dX10_paces_28 (by decide) ?_
      refine lv_icmp_ge (tgt := 75) hx hb dX10_paces_30 (by decide) (fun c1 => ?_) (fun c1 => ?_)
      · replace hm := zz_pos c1 hm
        refine lv_bipush (v := (-2 : Int32)) hx hb dX10_paces_75 (by decide) ?_
        exact zz_iret hx hb hr hlocks (zz_some2 hm) hP hK hD hS dX10_paces_77
      · replace hm := zz_neg c1 hm
        refine lv_aload_n hx hb dX10_paces_33 rfl (lv_at hl 0 rfl) ?_
        refine va_get (D := D) (ci := 10) (v := .ref (a 64)) (C := RX10) (T := TX10) (N := 7) hx hb hts nX10_paces_X10 hown hK hP 0 (wC_0 y a z) rfl 3 (by decide) (hts (.fieldLink RX10 33 "WorksDesk" "real" "LWorksDesk$Figures;") (List.mem_of_getElem? (i := 2) rfl)) (fun _ h9 => h9) rfl dX10_paces_34 ?_
        refine lv_bipush (v := (9 : Int32)) hx hb dX10_paces_37 (by decide) ?_
        refine lv_iload_n hx hb dX10_paces_39 rfl (lv_at hl 1 rfl) ?_
        obtain ⟨r2, h3, hm⟩ := zz_b1_some hm
        refine zz_calll (zz_runV (w := wC y a) (As := [.int (9 : Int32), .int v3]) (rest := []) ⟨hx, hb, hml, hown, hts⟩ (zX4_of l D y a H.size 64 (9 : Int32) v3 (Or.inl rfl) z h3) (cwV 2 hts gX10_paces_X4_of rfl rfl rfl zdX4_of ⟨Nat.le_of_ble_eq_true rfl, Nat.le_of_ble_eq_true rfl⟩) hK hN hg hP hD hS hA 64 (wC_fig y a z 64 (Or.inl rfl)) rfl rfl hl.1 rfl (Nat.le_of_ble_eq_true rfl) dX10_paces_40 ⟨Nat.le_of_ble_eq_true rfl, Nat.le_of_ble_eq_true rfl⟩) hD hS hA (fun H locs hP hD hS => ?_)
        refine lv_lconst (v := (0 : Int64)) hx hb dX10_paces_43 (by decide) ?_
        refine W.lcmp hx hb dX10_paces_44 ?_
        refine lv_if_ne (tgt := 69) hx hb dX10_paces_45 (by decide) (fun c4 => ?_) (fun c4 => ?_)
        · replace hm := zz_neg c4 hm
          obtain ⟨n5, en5⟩ : ∃ q : Int32, q = v3 + (1 : Int32) := ⟨_, rfl⟩
          replace hm := zz_nm_some en5 hm
          refine lv_iinc (v := n5) (lv' := [(3, .int n5), (0, .ref (a 0))]) hx hb dX10_paces_69 hl (k := 1) rfl (by rw [en5]; rfl) (by decide) rfl (fun ls hl => ?_)
          refine lv_goto (tgt := 27) hx hb dX10_paces_72 (by decide) ?_
          have j := ih n5 z hm
          rw [hG] at j
          exact j H locs ls hP hD hS (lv_sub hl [1, 0] rfl)
        · replace hm := zz_pos c4 hm
          refine lv_aload_n hx hb dX10_paces_48 rfl (lv_at hl 0 rfl) ?_
          refine va_get (D := D) (ci := 10) (v := .ref (a 99)) (C := RX10) (T := TX10) (N := 7) hx hb hts nX10_paces_X10 hown hK hP 0 (wC_0 y a z) rfl 6 (by decide) (hts (.fieldLink RX10 47 "WorksDesk" "lastRow" "LWorksDesk$Row;") (List.mem_of_getElem? (i := 3) rfl)) (fun _ h9 => h9) rfl dX10_paces_49 ?_
          refine lv_aload_n hx hb dX10_paces_52 rfl (lv_at hl 0 rfl) ?_
          refine va_get (D := D) (ci := 10) (v := .ref (a 64)) (C := RX10) (T := TX10) (N := 7) hx hb hts nX10_paces_X10 hown hK hP 0 (wC_0 y a z) rfl 3 (by decide) (hts (.fieldLink RX10 33 "WorksDesk" "real" "LWorksDesk$Figures;") (List.mem_of_getElem? (i := 2) rfl)) (fun _ h9 => h9) rfl dX10_paces_53 ?_
          refine lv_bipush (v := (11 : Int32)) hx hb dX10_paces_56 (by decide) ?_
          refine lv_bipush (v := (23 : Int32)) hx hb dX10_paces_58 (by decide) ?_
          obtain ⟨r6, h7, hm⟩ := zz_b1_some hm
          refine zz_calll (zz_runV (w := wC y a) (As := [.int (11 : Int32), .int (23 : Int32)]) (rest := [.ref (a 99)]) ⟨hx, hb, hml, hown, hts⟩ (zX4_of l D y a H.size 64 (11 : Int32) (23 : Int32) (Or.inl rfl) z h7) (cwV 2 hts gX10_paces_X4_of rfl rfl rfl zdX4_of ⟨Nat.le_of_ble_eq_true rfl, Nat.le_of_ble_eq_true rfl⟩) hK hN hg hP hD hS hA 64 (wC_fig y a z 64 (Or.inl rfl)) rfl rfl hl.1 rfl (Nat.le_of_ble_eq_true rfl) dX10_paces_60 ⟨Nat.le_of_ble_eq_true rfl, Nat.le_of_ble_eq_true rfl⟩) hD hS hA (fun H locs hP hD hS => ?_)
          obtain ⟨r8, z10, h9, hm⟩ := zz_b2_some hm
          refine zz_callr (zz_runV (w := wC y a) (As := [.long r6]) (rest := []) ⟨hx, hb, hml, hown, hts⟩ (zX5_start l D y a H.size r6 z h9) (cwV 1 hts gX10_paces_X5_start rfl rfl rfl zdX5_start ⟨Nat.le_of_ble_eq_true rfl, Nat.le_of_ble_eq_true rfl⟩) hK hN hg hP hD hS hA 99 (wC_99 y a z) rfl rfl hl.1 rfl (Nat.le_of_ble_eq_true rfl) dX10_paces_63 ⟨Nat.le_of_ble_eq_true rfl, Nat.le_of_ble_eq_true rfl⟩) hD hS hA (fun H locs hP hD hS => ?_)
          refine lv_pop hx hb dX10_paces_66 rfl ?_
          refine lv_iload_n hx hb dX10_paces_67 rfl (lv_at hl 1 rfl) ?_
          exact zz_iret hx hb hr hlocks (zz_some2 hm) hP hK hD hS dX10_paces_68
  have J17 : ∀ (z : zz_M), mX10_paces_b17 z = some (r, zt) → G 17 [] [] z := by
    intro z hm
    rw [mX10_paces_b17] at hm
    rw [hG]
    intro H locs ls hP hD hS hl
    refine lv_iconst (v := (-1 : Int32)) hx hb dX10_paces_17 (by decide) ?_
    exact zz_iret hx hb hr hlocks (zz_some2 hm) hP hK hD hS dX10_paces_18
  rw [hG]
  intro H locs ls hP hD hS hl
  unfold mX10_paces at hm
  refine lv_iload_n hx hb dX10_paces_0 rfl (lv_at hl 1 rfl) ?_
  obtain ⟨r11, h12, hm⟩ := zz_b1_some hm
  refine zz_calli (zz_runS (w := wC y a) (As := [.int x1]) (rest := []) ⟨hx, hb, hml, hown, hts⟩ (zX10_isMonth l D y a H.size x1 z h12) (va_cwS 1 hts gX10_paces_X10_isMonth rfl rfl rfl zdX10_isMonth ⟨Nat.le_of_ble_eq_true rfl, Nat.le_of_ble_eq_true rfl⟩) hK hN hg hP hD hS hA rfl hl.1 rfl (Nat.le_of_ble_eq_true rfl) dX10_paces_1 ⟨Nat.le_of_ble_eq_true rfl, Nat.le_of_ble_eq_true rfl⟩) hD hS hA (fun H locs hP hD hS => ?_)
  refine lv_if_eq (tgt := 17) hx hb dX10_paces_4 (by decide) (fun c13 => ?_) (fun c13 => ?_)
  · replace hm := zz_pos c13 hm
    have j := J17 z hm
    rw [hG] at j
    exact j H locs ls hP hD hS (lv_sub hl [] rfl)
  · replace hm := zz_neg c13 hm
    refine lv_iload_n hx hb dX10_paces_7 rfl (lv_at hl 2 rfl) ?_
    refine lv_iconst (v := (1 : Int32)) hx hb dX10_paces_8 (by decide) ?_
    refine lv_ldc (v := (999999 : Int32)) hx hb hown (hts (.constant RX10 204 (999999)) (List.mem_of_getElem? (i := 1) rfl)) dX10_paces_9 ?_
    obtain ⟨r14, h15, hm⟩ := zz_b1_some hm
    refine zz_calli (zz_runS (w := wC y a) (As := [.int x2, .int (1 : Int32), .int (999999 : Int32)]) (rest := []) ⟨hx, hb, hml, hown, hts⟩ (zX10_isWithin l D y a H.size x2 (1 : Int32) (999999 : Int32) z h15) (va_cwS 3 hts gX10_paces_X10_isWithin rfl rfl rfl zdX10_isWithin ⟨Nat.le_of_ble_eq_true rfl, Nat.le_of_ble_eq_true rfl⟩) hK hN hg hP hD hS hA rfl hl.1 rfl (Nat.le_of_ble_eq_true rfl) dX10_paces_11 ⟨Nat.le_of_ble_eq_true rfl, Nat.le_of_ble_eq_true rfl⟩) hD hS hA (fun H locs hP hD hS => ?_)
    refine lv_if_ne (tgt := 19) hx hb dX10_paces_14 (by decide) (fun c16 => ?_) (fun c16 => ?_)
    · replace hm := zz_neg c16 hm
      refine lv_aload_n hx hb dX10_paces_19 rfl (lv_at hl 0 rfl) ?_
      refine lv_iload_n hx hb dX10_paces_20 rfl (lv_at hl 1 rfl) ?_
      refine lv_iload_n hx hb dX10_paces_21 rfl (lv_at hl 2 rfl) ?_
      obtain ⟨r17, z19, h18, hm⟩ := zz_b2_some hm
      refine zz_callv (zz_runV (w := wC y a) (As := [.int x1, .int x2]) (rest := []) ⟨hx, hb, hml, hown, hts⟩ (zX10_payFrom l D y a H.size x1 x2 z h18) (cwV 2 hts gX10_paces_X10_payFrom rfl rfl rfl zdX10_payFrom ⟨Nat.le_of_ble_eq_true rfl, Nat.le_of_ble_eq_true rfl⟩) hK hN hg hP hD hS hA 0 (wC_0 y a z) rfl rfl hl.1 rfl (Nat.le_of_ble_eq_true rfl) dX10_paces_22 ⟨Nat.le_of_ble_eq_true rfl, Nat.le_of_ble_eq_true rfl⟩) hD hS hA (fun H locs hP hD hS => ?_)
      refine lv_iload_n hx hb dX10_paces_25 rfl (lv_at hl 1 rfl) ?_
      refine lv_istore_n (lv' := [(3, .int x1), (0, .ref (a 0)), (1, .int x1), (2, .int x2)]) hx hb dX10_paces_26 rfl hl (by decide) rfl (fun ls hl => ?_)
      have j := J27 zz_N x1 z19 hm
      rw [hG] at j
      exact j H locs ls hP hD hS (lv_sub hl [1, 0] rfl)
    · replace hm := zz_pos c16 hm
      have j := J17 z hm
      rw [hG] at j
      exact j H locs ls hP hD hS (lv_sub hl [] rfl)
def mX10_pays_b17 (z : zz_M) : Option (Int32 × zz_M) := some ((-1 : Int32), z)
def mX10_pays (x1 : Int32) (x2 : Int32) (z : zz_M) : Option (Int32 × zz_M) := zz_b1 (mX10_isMonth x1) (fun r1 => if r1 = (0 : Int32) then (mX10_pays_b17 z) else (zz_b1 (mX10_isWithin x2 (0 : Int32) (999999 : Int32)) (fun r4 => if r4 = (0 : Int32) then (mX10_pays_b17 z) else (zz_ck (zz_in x1 24) (zz_nm ((z.2.1 63 x1.toNatClampNeg).toInt32) (fun n8 => if n8 = x2 then (some ((-2 : Int32), z)) else (zz_ck (zz_in x1 24) (zz_nm (zz_wJ z 63 x1 x2.toInt64) (fun z11 => some (n8, z11))))))))))
theorem nX10_pays_X10 : ∀ w ∈ wsX100, w ∈ wsX10_pays := fun _ h => List.mem_cons_of_mem _ (List.mem_append_left _ (List.mem_append_right _ (h)))
theorem nX10_pays_X2 : ∀ w ∈ wsX20, w ∈ wsX10_pays := fun _ h => List.mem_cons_of_mem _ (List.mem_append_right _ (h))
theorem zdX10_pays : yX10_pays.cls = RX10 ∧ yX10_pays.cls ≠ "java/lang/invoke/MethodHandle" ∧ yX10_pays.cls ≠ "java/lang/invoke/VarHandle" ∧ (parseMethodDescriptor yX10_pays.desc).map (fun d => d.parameters.length) = some 2 := by decide +kernel
set_option maxHeartbeats 4000000 in
set_option maxRecDepth 100000 in
theorem zX10_pays (l : Launch) (D : va_G) (y : Nat → ClassId) (a : Nat → Nat) (sz : Nat) (x1 : Int32) (x2 : Int32) (z : zz_M) {r : Int32} {zt : zz_M} (hm : mX10_pays x1 x2 z = some (r, zt)) : Met l yX10_pays wsX10_pays { frames := 2, cells := 0, slots := 0, locals := 42 } (zz_Pc D y (wC y a z) sz [.ref (a 0), .int x1, .int x2]) (zz_Qi D y (wC y a) (va_A (wC y a z) sz) r zt) 0 0 (va_A (wC y a z) sz) := by
  refine Met.ofW (cc := cX10_pays) (maxL := 4) (ret := (some .int)) (by decide) rfl ?_
  intro p e s m args below meth c s₁ B hml hv
  obtain ⟨rfl, hsz, hP, hK, hD0, hN, hg⟩ := hv
  have hx := B.exec
  have hb := B.bytes
  have hr := B.returns
  have hts := atoms_spec (ws := wsX10_pays) B.pre
  have hown : s.vm.findClass RX10 = some m.cls := findClass_of_methodNamed B.named
  have hlocks := B.notSynchronized
  clear B
  subst hsz
  have hD := hD0.self (sz := s.heap.size)
  generalize hAe : va_A (wC y a z) s.heap.size = A at hD hg ⊢
  have hA : ∀ q : Nat, s.heap.size ≤ q → A q := fun q h => by rw [← hAe]; exact Or.inr h
  clear hAe hD0
  have hl := lv_entry ([.ref (a 0), .int x1, .int x2]) (n := 4) (Nat.le_of_ble_eq_true rfl)
  rw [lg_entry_eq]
  generalize (lg_sl ([.ref (a 0), .int x1, .int x2]) ++ List.replicate (4 - (lg_sl ([.ref (a 0), .int x1, .int x2])).length) Slot.unset).toArray = ls at hl ⊢
  replace hl : lv_has ls 4 [(0, .ref (a 0)), (1, .int x1), (2, .int x2)] := hl
  refine zz_go (w := wC y a) hP hD va_S.rf hl (fun G hG => ?_)
  clear hP hD hl ls
  have J17 : ∀ (z : zz_M), mX10_pays_b17 z = some (r, zt) → G 17 [] [] z := by
    intro z hm
    rw [mX10_pays_b17] at hm
    rw [hG]
    intro H locs ls hP hD hS hl
    refine lv_iconst (v := (-1 : Int32)) hx hb dX10_pays_17 (by decide) ?_
    exact zz_iret hx hb hr hlocks (zz_some2 hm) hP hK hD hS dX10_pays_18
  rw [hG]
  intro H locs ls hP hD hS hl
  unfold mX10_pays at hm
  refine lv_iload_n hx hb dX10_pays_0 rfl (lv_at hl 1 rfl) ?_
  obtain ⟨r1, h2, hm⟩ := zz_b1_some hm
  refine zz_calli (zz_runS (w := wC y a) (As := [.int x1]) (rest := []) ⟨hx, hb, hml, hown, hts⟩ (zX10_isMonth l D y a H.size x1 z h2) (va_cwS 1 hts gX10_pays_X10_isMonth rfl rfl rfl zdX10_isMonth ⟨Nat.le_of_ble_eq_true rfl, Nat.le_of_ble_eq_true rfl⟩) hK hN hg hP hD hS hA rfl hl.1 rfl (Nat.le_of_ble_eq_true rfl) dX10_pays_1 ⟨Nat.le_of_ble_eq_true rfl, Nat.le_of_ble_eq_true rfl⟩) hD hS hA (fun H locs hP hD hS => ?_)
  refine lv_if_eq (tgt := 17) hx hb dX10_pays_4 (by decide) (fun c3 => ?_) (fun c3 => ?_)
  · replace hm := zz_pos c3 hm
    have j := J17 z hm
    rw [hG] at j
    exact j H locs ls hP hD hS (lv_sub hl [] rfl)
  · replace hm := zz_neg c3 hm
    refine lv_iload_n hx hb dX10_pays_7 rfl (lv_at hl 2 rfl) ?_
    refine lv_iconst (v := (0 : Int32)) hx hb dX10_pays_8 (by decide) ?_
    refine lv_ldc (v := (999999 : Int32)) hx hb hown (hts (.constant RX10 204 (999999)) (List.mem_of_getElem? (i := 1) rfl)) dX10_pays_9 ?_
    obtain ⟨r4, h5, hm⟩ := zz_b1_some hm
    refine zz_calli (zz_runS (w := wC y a) (As := [.int x2, .int (0 : Int32), .int (999999 : Int32)]) (rest := []) ⟨hx, hb, hml, hown, hts⟩ (zX10_isWithin l D y a H.size x2 (0 : Int32) (999999 : Int32) z h5) (va_cwS 3 hts gX10_pays_X10_isWithin rfl rfl rfl zdX10_isWithin ⟨Nat.le_of_ble_eq_true rfl, Nat.le_of_ble_eq_true rfl⟩) hK hN hg hP hD hS hA rfl hl.1 rfl (Nat.le_of_ble_eq_true rfl) dX10_pays_11 ⟨Nat.le_of_ble_eq_true rfl, Nat.le_of_ble_eq_true rfl⟩) hD hS hA (fun H locs hP hD hS => ?_)
    refine lv_if_ne (tgt := 19) hx hb dX10_pays_14 (by decide) (fun c6 => ?_) (fun c6 => ?_)
    · replace hm := zz_neg c6 hm
      refine lv_aload_n hx hb dX10_pays_19 rfl (lv_at hl 0 rfl) ?_
      refine va_get (D := D) (ci := 10) (v := .ref (a 8)) (C := RX10) (T := TX10) (N := 7) hx hb hts nX10_pays_X10 hown hK hP 0 (wC_0 y a z) rfl 2 (by decide) (hts (.fieldLink RX10 26 "WorksDesk" "book" "LWorksDesk$Book;") (List.mem_of_getElem? (i := 2) rfl)) (fun _ h9 => h9) rfl dX10_pays_20 ?_
      refine va_get (D := D) (ci := 2) (v := .ref (a 63)) (C := RX2) (T := TX2) (N := 12) hx hb hts nX10_pays_X2 hown hK hP 8 (wC_8 y a z) rfl 7 (by decide) (hts (.fieldLink RX10 205 "WorksDesk$Book" "paid" "[J") (List.mem_of_getElem? (i := 3) rfl)) (fun _ h9 => h9) rfl dX10_pays_23 ?_
      refine lv_iload_n hx hb dX10_pays_26 rfl (lv_at hl 1 rfl) ?_
      obtain ⟨c7, hm⟩ := zz_ck_some hm
      refine va_lald hx hb hK hP 63 1 (wC_63 y a z) rfl c7 dX10_pays_27 ?_
      refine lv_l2i hx hb dX10_pays_28 rfl ?_
      refine lv_topi (fun n8 en8 => ?_)
      replace hm := zz_nm_some en8 hm
      refine lv_istore_n (lv' := [(3, .int n8), (0, .ref (a 0)), (1, .int x1), (2, .int x2)]) hx hb dX10_pays_29 rfl hl (by decide) rfl (fun ls hl => ?_)
      refine lv_iload_n hx hb dX10_pays_30 rfl (lv_at hl 0 rfl) ?_
      refine lv_iload_n hx hb dX10_pays_31 rfl (lv_at hl 3 rfl) ?_
      refine lv_icmp_ne (tgt := 38) hx hb dX10_pays_32 (by decide) (fun c9 => ?_) (fun c9 => ?_)
      · replace hm := zz_neg c9 hm
        refine lv_aload_n hx hb dX10_pays_38 rfl (lv_at hl 1 rfl) ?_
        refine va_get (D := D) (ci := 10) (v := .ref (a 8)) (C := RX10) (T := TX10) (N := 7) hx hb hts nX10_pays_X10 hown hK hP 0 (wC_0 y a z) rfl 2 (by decide) (hts (.fieldLink RX10 26 "WorksDesk" "book" "LWorksDesk$Book;") (List.mem_of_getElem? (i := 2) rfl)) (fun _ h9 => h9) rfl dX10_pays_39 ?_
        refine va_get (D := D) (ci := 2) (v := .ref (a 63)) (C := RX2) (T := TX2) (N := 12) hx hb hts nX10_pays_X2 hown hK hP 8 (wC_8 y a z) rfl 7 (by decide) (hts (.fieldLink RX10 205 "WorksDesk$Book" "paid" "[J") (List.mem_of_getElem? (i := 3) rfl)) (fun _ h9 => h9) rfl dX10_pays_42 ?_
        refine lv_iload_n hx hb dX10_pays_45 rfl (lv_at hl 2 rfl) ?_
        refine lv_iload_n hx hb dX10_pays_46 rfl (lv_at hl 3 rfl) ?_
        refine lv_i2l hx hb dX10_pays_47 rfl ?_
        obtain ⟨c10, hm⟩ := zz_ck_some hm
        refine va_last hx hb hK hP hD hS 63 1 (wC_63 y a z) rfl c10 dX10_pays_48 (fun H locs hP hD hS => ?_)
        obtain ⟨z11, hP, hD, hm⟩ := zz_up (w := wC y a) (wC_w63 y a z x1 x2.toInt64) hP hD hm
        refine lv_iload_n hx hb dX10_pays_49 rfl (lv_at hl 0 rfl) ?_
        exact zz_iret hx hb hr hlocks (zz_some2 hm) hP hK hD hS dX10_pays_50
      · replace hm := zz_pos c9 hm
        refine lv_bipush (v := (-2 : Int32)) hx hb dX10_pays_35 (by decide) ?_
        exact zz_iret hx hb hr hlocks (zz_some2 hm) hP hK hD hS dX10_pays_37
    · replace hm := zz_pos c6 hm
      have j := J17 z hm
      rw [hG] at j
      exact j H locs ls hP hD hS (lv_sub hl [] rfl)
def mJ6_bitCount_0f7a4 (x0 : Int32) : Option Int32 := zz_nm (x0 - (((x0.toUInt32 >>> ((1 : Int32).toUInt32 &&& Int32.toUInt32 31)).toInt32) &&& (1431655765 : Int32))) (fun n1 => zz_nm ((n1 &&& (858993459 : Int32)) + (((n1.toUInt32 >>> ((2 : Int32).toUInt32 &&& Int32.toUInt32 31)).toInt32) &&& (858993459 : Int32))) (fun n2 => zz_nm ((n2 + ((n2.toUInt32 >>> ((4 : Int32).toUInt32 &&& Int32.toUInt32 31)).toInt32)) &&& (252645135 : Int32)) (fun n3 => zz_nm (n3 + ((n3.toUInt32 >>> ((8 : Int32).toUInt32 &&& Int32.toUInt32 31)).toInt32)) (fun n4 => zz_nm (n4 + ((n4.toUInt32 >>> ((16 : Int32).toUInt32 &&& Int32.toUInt32 31)).toInt32)) (fun n5 => some (n5 &&& (63 : Int32)))))))
theorem zdJ6_bitCount_0f7a4 : yJ6_bitCount_0f7a4.cls ≠ "java/lang/invoke/MethodHandle" ∧ yJ6_bitCount_0f7a4.cls ≠ "java/lang/invoke/VarHandle" ∧ (parseMethodDescriptor yJ6_bitCount_0f7a4.desc).map (fun d => d.parameters.length) = some 1 := by decide +kernel
set_option maxHeartbeats 4000000 in
set_option maxRecDepth 100000 in
theorem zJ6_bitCount_0f7a4 (l : Launch) (D : va_G) (y : Nat → ClassId) (a : Nat → Nat) (sz : Nat) (x0 : Int32) (z : zz_M) {r : Int32} (hm : mJ6_bitCount_0f7a4 x0 = some r) : Met l yJ6_bitCount_0f7a4 wsJ6_bitCount_0f7a4 { frames := 0, cells := 0, slots := 0, locals := 0 } (zz_Pc D y (wC y a z) sz [.int x0]) (zz_Qi D y (wC y a) (va_A (wC y a z) sz) r z) 0 0 (va_A (wC y a z) sz) := by
  refine Met.ofW (cc := cJ6_bitCount_0f7a4) (maxL := 1) (ret := (some .int)) (by decide) rfl ?_
  intro p e s m args below meth c s₁ B hml hv
  obtain ⟨rfl, hsz, hP, hK, hD0, hN, hg⟩ := hv
  have hx := B.exec
  have hb := B.bytes
  have hr := B.returns
  have hts := atoms_spec (ws := wsJ6_bitCount_0f7a4) B.pre
  have hown : s.vm.findClass RJ6 = some m.cls := findClass_of_methodNamed B.named
  have hlocks := B.notSynchronized
  clear B
  subst hsz
  have hD := hD0.self (sz := s.heap.size)
  generalize hAe : va_A (wC y a z) s.heap.size = A at hD hg ⊢
  have hA : ∀ q : Nat, s.heap.size ≤ q → A q := fun q h => by rw [← hAe]; exact Or.inr h
  clear hAe hD0
  have hl := lv_entry ([.int x0]) (n := 1) (Nat.le_of_ble_eq_true rfl)
  rw [lg_entry_eq]
  generalize (lg_sl ([.int x0]) ++ List.replicate (1 - (lg_sl ([.int x0])).length) Slot.unset).toArray = ls at hl ⊢
  replace hl : lv_has ls 1 [(0, .int x0)] := hl
  refine zz_go (w := wC y a) hP hD va_S.rf hl (fun G hG => ?_)
  clear hP hD hl ls
  rw [hG]
  intro H locs ls hP hD hS hl
  unfold mJ6_bitCount_0f7a4 at hm
  refine lv_iload_n hx hb dJ6_bitCount_0f7a4_0 rfl (lv_at hl 0 rfl) ?_
  refine lv_iload_n hx hb dJ6_bitCount_0f7a4_1 rfl (lv_at hl 0 rfl) ?_
  refine lv_iconst (v := (1 : Int32)) hx hb dJ6_bitCount_0f7a4_2 (by decide) ?_
  refine lv_iushr hx hb dJ6_bitCount_0f7a4_3 rfl ?_
  refine lv_ldcw (v := (1431655765 : Int32)) hx hb hown (hts (.constant RJ6 265 (1431655765)) (List.mem_of_getElem? (i := 1) rfl)) dJ6_bitCount_0f7a4_4 ?_
  refine lv_iand hx hb dJ6_bitCount_0f7a4_7 ?_
  refine lv_isub hx hb dJ6_bitCount_0f7a4_8 ?_
  refine lv_topi (fun n1 en1 => ?_)
  replace hm := zz_nm_some en1 hm
  refine lv_istore_n (lv' := [(0, .int n1)]) hx hb dJ6_bitCount_0f7a4_9 rfl hl (by decide) rfl (fun ls hl => ?_)
  refine lv_iload_n hx hb dJ6_bitCount_0f7a4_10 rfl (lv_at hl 0 rfl) ?_
  refine lv_ldcw (v := (858993459 : Int32)) hx hb hown (hts (.constant RJ6 266 (858993459)) (List.mem_of_getElem? (i := 2) rfl)) dJ6_bitCount_0f7a4_11 ?_
  refine lv_iand hx hb dJ6_bitCount_0f7a4_14 ?_
  refine lv_iload_n hx hb dJ6_bitCount_0f7a4_15 rfl (lv_at hl 0 rfl) ?_
  refine lv_iconst (v := (2 : Int32)) hx hb dJ6_bitCount_0f7a4_16 (by decide) ?_
  refine lv_iushr hx hb dJ6_bitCount_0f7a4_17 rfl ?_
  refine lv_ldcw (v := (858993459 : Int32)) hx hb hown (hts (.constant RJ6 266 (858993459)) (List.mem_of_getElem? (i := 2) rfl)) dJ6_bitCount_0f7a4_18 ?_
  refine lv_iand hx hb dJ6_bitCount_0f7a4_21 ?_
  refine lv_iadd hx hb dJ6_bitCount_0f7a4_22 ?_
  refine lv_topi (fun n2 en2 => ?_)
  replace hm := zz_nm_some en2 hm
  refine lv_istore_n (lv' := [(0, .int n2)]) hx hb dJ6_bitCount_0f7a4_23 rfl hl (by decide) rfl (fun ls hl => ?_)
  refine lv_iload_n hx hb dJ6_bitCount_0f7a4_24 rfl (lv_at hl 0 rfl) ?_
  refine lv_iload_n hx hb dJ6_bitCount_0f7a4_25 rfl (lv_at hl 0 rfl) ?_
  refine lv_iconst (v := (4 : Int32)) hx hb dJ6_bitCount_0f7a4_26 (by decide) ?_
  refine lv_iushr hx hb dJ6_bitCount_0f7a4_27 rfl ?_
  refine lv_iadd hx hb dJ6_bitCount_0f7a4_28 ?_
  refine lv_ldcw (v := (252645135 : Int32)) hx hb hown (hts (.constant RJ6 267 (252645135)) (List.mem_of_getElem? (i := 3) rfl)) dJ6_bitCount_0f7a4_29 ?_
  refine lv_iand hx hb dJ6_bitCount_0f7a4_32 ?_
  refine lv_topi (fun n3 en3 => ?_)
  replace hm := zz_nm_some en3 hm
  refine lv_istore_n (lv' := [(0, .int n3)]) hx hb dJ6_bitCount_0f7a4_33 rfl hl (by decide) rfl (fun ls hl => ?_)
  refine lv_iload_n hx hb dJ6_bitCount_0f7a4_34 rfl (lv_at hl 0 rfl) ?_
  refine lv_iload_n hx hb dJ6_bitCount_0f7a4_35 rfl (lv_at hl 0 rfl) ?_
  refine lv_bipush (v := (8 : Int32)) hx hb dJ6_bitCount_0f7a4_36 (by decide) ?_
  refine lv_iushr hx hb dJ6_bitCount_0f7a4_38 rfl ?_
  refine lv_iadd hx hb dJ6_bitCount_0f7a4_39 ?_
  refine lv_topi (fun n4 en4 => ?_)
  replace hm := zz_nm_some en4 hm
  refine lv_istore_n (lv' := [(0, .int n4)]) hx hb dJ6_bitCount_0f7a4_40 rfl hl (by decide) rfl (fun ls hl => ?_)
  refine lv_iload_n hx hb dJ6_bitCount_0f7a4_41 rfl (lv_at hl 0 rfl) ?_
  refine lv_iload_n hx hb dJ6_bitCount_0f7a4_42 rfl (lv_at hl 0 rfl) ?_
  refine lv_bipush (v := (16 : Int32)) hx hb dJ6_bitCount_0f7a4_43 (by decide) ?_
  refine lv_iushr hx hb dJ6_bitCount_0f7a4_45 rfl ?_
  refine lv_iadd hx hb dJ6_bitCount_0f7a4_46 ?_
  refine lv_topi (fun n5 en5 => ?_)
  replace hm := zz_nm_some en5 hm
  refine lv_istore_n (lv' := [(0, .int n5)]) hx hb dJ6_bitCount_0f7a4_47 rfl hl (by decide) rfl (fun ls hl => ?_)
  refine lv_iload_n hx hb dJ6_bitCount_0f7a4_48 rfl (lv_at hl 0 rfl) ?_
  refine lv_bipush (v := (63 : Int32)) hx hb dJ6_bitCount_0f7a4_49 (by decide) ?_
  refine lv_iand hx hb dJ6_bitCount_0f7a4_51 ?_
  exact zz_iret hx hb hr hlocks ⟨zz_some1 hm, rfl⟩ hP hK hD hS dJ6_bitCount_0f7a4_52
def mX10_priced (x1 : Int32) (z : zz_M) : Option (Int32 × zz_M) := zz_b1 (mX3_has x1 z) (fun r1 => if r1 = (0 : Int32) then (some ((-1 : Int32), z)) else (zz_ck (zz_in x1 8) (zz_nm (z.1 54 x1.toNatClampNeg) (fun n5 => zz_ck (zz_in x1 8) (zz_b2 (mX5_start ((z.1 53 x1.toNatClampNeg).toInt64) z) (fun r7 z9 => zz_b2 (mX5_then n5.toInt64 z9) (fun r10 z12 => zz_ck (zz_in x1 8) (zz_b2 (mX5_then ((z12.1 55 x1.toNatClampNeg).toInt64) z12) (fun r14 z16 => zz_b1 (mX3_worth x1 z16) (fun r17 => zz_b2 (mX5_then r17 z16) (fun r19 z21 => zz_b1 (mX0_likeBits 9 n5 z21) (fun r22 => zz_b1 (mJ6_bitCount_0f7a4 r22) (fun r24 => zz_b2 (mX5_then r24.toInt64 z21) (fun r26 z28 => zz_ck (zz_in x1 8) (some (z28.1 56 x1.toNatClampNeg, z28))))))))))))))))
theorem nX10_priced_X10 : ∀ w ∈ wsX100, w ∈ wsX10_priced := fun _ h => List.mem_cons_of_mem _ (List.mem_append_left _ (List.mem_append_left _ (List.mem_append_left _ (List.mem_append_left _ (List.mem_append_right _ (h))))))
theorem nX10_priced_X2 : ∀ w ∈ wsX20, w ∈ wsX10_priced := fun _ h => List.mem_cons_of_mem _ (List.mem_append_left _ (List.mem_append_left _ (List.mem_append_left _ (List.mem_append_right _ (h)))))
theorem nX10_priced_X3 : ∀ w ∈ wsX30, w ∈ wsX10_priced := fun _ h => List.mem_cons_of_mem _ (List.mem_append_left _ (List.mem_append_left _ (List.mem_append_right _ (h))))
theorem zdX10_priced : yX10_priced.cls = RX10 ∧ yX10_priced.cls ≠ "java/lang/invoke/MethodHandle" ∧ yX10_priced.cls ≠ "java/lang/invoke/VarHandle" ∧ (parseMethodDescriptor yX10_priced.desc).map (fun d => d.parameters.length) = some 1 := by decide +kernel
set_option maxHeartbeats 4000000 in
set_option maxRecDepth 100000 in
theorem zX10_priced (l : Launch) (D : va_G) (y : Nat → ClassId) (a : Nat → Nat) (sz : Nat) (x1 : Int32) (z : zz_M) {r : Int32} {zt : zz_M} (hm : mX10_priced x1 z = some (r, zt)) : Met l yX10_priced wsX10_priced { frames := 2, cells := 0, slots := 0, locals := 44 } (zz_Pc D y (wC y a z) sz [.ref (a 0), .int x1]) (zz_Qi D y (wC y a) (va_A (wC y a z) sz) r zt) 0 0 (va_A (wC y a z) sz) := by
  refine Met.ofW (cc := cX10_priced) (maxL := 4) (ret := (some .int)) (by decide) rfl ?_
  intro p e s m args below meth c s₁ B hml hv
  obtain ⟨rfl, hsz, hP, hK, hD0, hN, hg⟩ := hv
  have hx := B.exec
  have hb := B.bytes
  have hr := B.returns
  have hts := atoms_spec (ws := wsX10_priced) B.pre
  have hown : s.vm.findClass RX10 = some m.cls := findClass_of_methodNamed B.named
  have hlocks := B.notSynchronized
  clear B
  subst hsz
  have hD := hD0.self (sz := s.heap.size)
  generalize hAe : va_A (wC y a z) s.heap.size = A at hD hg ⊢
  have hA : ∀ q : Nat, s.heap.size ≤ q → A q := fun q h => by rw [← hAe]; exact Or.inr h
  clear hAe hD0
  have hl := lv_entry ([.ref (a 0), .int x1]) (n := 4) (Nat.le_of_ble_eq_true rfl)
  rw [lg_entry_eq]
  generalize (lg_sl ([.ref (a 0), .int x1]) ++ List.replicate (4 - (lg_sl ([.ref (a 0), .int x1])).length) Slot.unset).toArray = ls at hl ⊢
  replace hl : lv_has ls 4 [(0, .ref (a 0)), (1, .int x1)] := hl
  refine zz_go (w := wC y a) hP hD va_S.rf hl (fun G hG => ?_)
  clear hP hD hl ls
  rw [hG]
  intro H locs ls hP hD hS hl
  unfold mX10_priced at hm
  refine lv_aload_n hx hb dX10_priced_0 rfl (lv_at hl 0 rfl) ?_
  refine va_get (D := D) (ci := 10) (v := .ref (a 8)) (C := RX10) (T := TX10) (N := 7) hx hb hts nX10_priced_X10 hown hK hP 0 (wC_0 y a z) rfl 2 (by decide) (hts (.fieldLink RX10 26 "WorksDesk" "book" "LWorksDesk$Book;") (List.mem_of_getElem? (i := 1) rfl)) (fun _ h9 => h9) rfl dX10_priced_1 ?_
  refine va_get (D := D) (ci := 2) (v := .ref (a 52)) (C := RX2) (T := TX2) (N := 12) hx hb hts nX10_priced_X2 hown hK hP 8 (wC_8 y a z) rfl 5 (by decide) (hts (.fieldLink RX10 143 "WorksDesk$Book" "changes" "LWorksDesk$Changes;") (List.mem_of_getElem? (i := 2) rfl)) (fun _ h9 => h9) rfl dX10_priced_4 ?_
  refine lv_astore_n (lv' := [(2, .ref (a 52)), (0, .ref (a 0)), (1, .int x1)]) hx hb dX10_priced_7 rfl hl (by decide) rfl (fun ls hl => ?_)
  refine lv_aload_n hx hb dX10_priced_8 rfl (lv_at hl 0 rfl) ?_
  refine lv_iload_n hx hb dX10_priced_9 rfl (lv_at hl 2 rfl) ?_
  obtain ⟨r1, h2, hm⟩ := zz_b1_some hm
  refine zz_calli (zz_runV (w := wC y a) (As := [.int x1]) (rest := []) ⟨hx, hb, hml, hown, hts⟩ (zX3_has l D y a H.size x1 z h2) (cwV 1 hts gX10_priced_X3_has rfl rfl rfl zdX3_has ⟨Nat.le_of_ble_eq_true rfl, Nat.le_of_ble_eq_true rfl⟩) hK hN hg hP hD hS hA 52 (wC_52 y a z) rfl rfl hl.1 rfl (Nat.le_of_ble_eq_true rfl) dX10_priced_10 ⟨Nat.le_of_ble_eq_true rfl, Nat.le_of_ble_eq_true rfl⟩) hD hS hA (fun H locs hP hD hS => ?_)
  refine lv_if_ne (tgt := 18) hx hb dX10_priced_13 (by decide) (fun c3 => ?_) (fun c3 => ?_)
  · replace hm := zz_neg c3 hm
    refine lv_aload_n hx hb dX10_priced_18 rfl (lv_at hl 0 rfl) ?_
    refine va_get (D := D) (ci := 3) (v := .ref (a 54)) (C := RX3) (T := TX3) (N := 5) hx hb hts nX10_priced_X3 hown hK hP 52 (wC_52 y a z) rfl 1 (by decide) (hts (.fieldLink RX10 249 "WorksDesk$Changes" "kinds" "[I") (List.mem_of_getElem? (i := 3) rfl)) (fun _ h9 => h9) rfl dX10_priced_19 ?_
    refine lv_iload_n hx hb dX10_priced_22 rfl (lv_at hl 2 rfl) ?_
    obtain ⟨c4, hm⟩ := zz_ck_some hm
    refine va_iald hx hb hK hP 54 0 (wC_54 y a z) rfl c4 dX10_priced_23 ?_
    refine lv_topi (fun n5 en5 => ?_)
    replace hm := zz_nm_some en5 hm
    refine lv_istore_n (lv' := [(3, .int n5), (2, .ref (a 52)), (0, .ref (a 0)), (1, .int x1)]) hx hb dX10_priced_24 rfl hl (by decide) rfl (fun ls hl => ?_)
    refine lv_aload_n hx hb dX10_priced_25 rfl (lv_at hl 2 rfl) ?_
    refine va_get (D := D) (ci := 10) (v := .ref (a 99)) (C := RX10) (T := TX10) (N := 7) hx hb hts nX10_priced_X10 hown hK hP 0 (wC_0 y a z) rfl 6 (by decide) (hts (.fieldLink RX10 47 "WorksDesk" "lastRow" "LWorksDesk$Row;") (List.mem_of_getElem? (i := 4) rfl)) (fun _ h9 => h9) rfl dX10_priced_26 ?_
    refine lv_aload_n hx hb dX10_priced_29 rfl (lv_at hl 1 rfl) ?_
    refine va_get (D := D) (ci := 3) (v := .ref (a 53)) (C := RX3) (T := TX3) (N := 5) hx hb hts nX10_priced_X3 hown hK hP 52 (wC_52 y a z) rfl 0 (by decide) (hts (.fieldLink RX10 252 "WorksDesk$Changes" "months" "[I") (List.mem_of_getElem? (i := 5) rfl)) (fun _ h9 => h9) rfl dX10_priced_30 ?_
    refine lv_iload_n hx hb dX10_priced_33 rfl (lv_at hl 3 rfl) ?_
    obtain ⟨c6, hm⟩ := zz_ck_some hm
    refine va_iald hx hb hK hP 53 0 (wC_53 y a z) rfl c6 dX10_priced_34 ?_
    refine lv_i2l hx hb dX10_priced_35 rfl ?_
    obtain ⟨r7, z9, h8, hm⟩ := zz_b2_some hm
    refine zz_callr (zz_runV (w := wC y a) (As := [.long ((z.1 53 x1.toNatClampNeg).toInt64)]) (rest := []) ⟨hx, hb, hml, hown, hts⟩ (zX5_start l D y a H.size ((z.1 53 x1.toNatClampNeg).toInt64) z h8) (cwV 1 hts gX10_priced_X5_start rfl rfl rfl zdX5_start ⟨Nat.le_of_ble_eq_true rfl, Nat.le_of_ble_eq_true rfl⟩) hK hN hg hP hD hS hA 99 (wC_99 y a z) rfl rfl hl.1 rfl (Nat.le_of_ble_eq_true rfl) dX10_priced_36 ⟨Nat.le_of_ble_eq_true rfl, Nat.le_of_ble_eq_true rfl⟩) hD hS hA (fun H locs hP hD hS => ?_)
    refine lv_iload_n hx hb dX10_priced_39 rfl (lv_at hl 0 rfl) ?_
    refine lv_i2l hx hb dX10_priced_40 rfl ?_
    obtain ⟨r10, z12, h11, hm⟩ := zz_b2_some hm
    refine zz_callr (zz_runV (w := wC y a) (As := [.long n5.toInt64]) (rest := []) ⟨hx, hb, hml, hown, hts⟩ (zX5_then l D y a H.size n5.toInt64 z9 h11) (cwV 1 hts gX10_priced_X5_then rfl rfl rfl zdX5_then ⟨Nat.le_of_ble_eq_true rfl, Nat.le_of_ble_eq_true rfl⟩) hK hN hg hP hD hS hA 99 (wC_99 y a z9) rfl rfl hl.1 rfl (Nat.le_of_ble_eq_true rfl) dX10_priced_41 ⟨Nat.le_of_ble_eq_true rfl, Nat.le_of_ble_eq_true rfl⟩) hD hS hA (fun H locs hP hD hS => ?_)
    refine lv_aload_n hx hb dX10_priced_44 rfl (lv_at hl 1 rfl) ?_
    refine va_get (D := D) (ci := 3) (v := .ref (a 55)) (C := RX3) (T := TX3) (N := 5) hx hb hts nX10_priced_X3 hown hK hP 52 (wC_52 y a z12) rfl 2 (by decide) (hts (.fieldLink RX10 159 "WorksDesk$Changes" "quantities" "[I") (List.mem_of_getElem? (i := 6) rfl)) (fun _ h9 => h9) rfl dX10_priced_45 ?_
    refine lv_iload_n hx hb dX10_priced_48 rfl (lv_at hl 3 rfl) ?_
    obtain ⟨c13, hm⟩ := zz_ck_some hm
    refine va_iald hx hb hK hP 55 0 (wC_55 y a z12) rfl c13 dX10_priced_49 ?_
    refine lv_i2l hx hb dX10_priced_50 rfl ?_
    obtain ⟨r14, z16, h15, hm⟩ := zz_b2_some hm
    refine zz_callr (zz_runV (w := wC y a) (As := [.long ((z12.1 55 x1.toNatClampNeg).toInt64)]) (rest := []) ⟨hx, hb, hml, hown, hts⟩ (zX5_then l D y a H.size ((z12.1 55 x1.toNatClampNeg).toInt64) z12 h15) (cwV 1 hts gX10_priced_X5_then rfl rfl rfl zdX5_then ⟨Nat.le_of_ble_eq_true rfl, Nat.le_of_ble_eq_true rfl⟩) hK hN hg hP hD hS hA 99 (wC_99 y a z12) rfl rfl hl.1 rfl (Nat.le_of_ble_eq_true rfl) dX10_priced_51 ⟨Nat.le_of_ble_eq_true rfl, Nat.le_of_ble_eq_true rfl⟩) hD hS hA (fun H locs hP hD hS => ?_)
    refine lv_aload_n hx hb dX10_priced_54 rfl (lv_at hl 1 rfl) ?_
    refine lv_iload_n hx hb dX10_priced_55 rfl (lv_at hl 3 rfl) ?_
    obtain ⟨r17, h18, hm⟩ := zz_b1_some hm
    refine zz_calll (zz_runV (w := wC y a) (As := [.int x1]) (rest := [.ref (a 99)]) ⟨hx, hb, hml, hown, hts⟩ (zX3_worth l D y a H.size x1 z16 h18) (cwV 1 hts gX10_priced_X3_worth rfl rfl rfl zdX3_worth ⟨Nat.le_of_ble_eq_true rfl, Nat.le_of_ble_eq_true rfl⟩) hK hN hg hP hD hS hA 52 (wC_52 y a z16) rfl rfl hl.1 rfl (Nat.le_of_ble_eq_true rfl) dX10_priced_56 ⟨Nat.le_of_ble_eq_true rfl, Nat.le_of_ble_eq_true rfl⟩) hD hS hA (fun H locs hP hD hS => ?_)
    obtain ⟨r19, z21, h20, hm⟩ := zz_b2_some hm
    refine zz_callr (zz_runV (w := wC y a) (As := [.long r17]) (rest := []) ⟨hx, hb, hml, hown, hts⟩ (zX5_then l D y a H.size r17 z16 h20) (cwV 1 hts gX10_priced_X5_then rfl rfl rfl zdX5_then ⟨Nat.le_of_ble_eq_true rfl, Nat.le_of_ble_eq_true rfl⟩) hK hN hg hP hD hS hA 99 (wC_99 y a z16) rfl rfl hl.1 rfl (Nat.le_of_ble_eq_true rfl) dX10_priced_59 ⟨Nat.le_of_ble_eq_true rfl, Nat.le_of_ble_eq_true rfl⟩) hD hS hA (fun H locs hP hD hS => ?_)
    refine lv_pop hx hb dX10_priced_62 rfl ?_
    refine lv_aload_n hx hb dX10_priced_63 rfl (lv_at hl 2 rfl) ?_
    refine va_get (D := D) (ci := 10) (v := .ref (a 99)) (C := RX10) (T := TX10) (N := 7) hx hb hts nX10_priced_X10 hown hK hP 0 (wC_0 y a z21) rfl 6 (by decide) (hts (.fieldLink RX10 47 "WorksDesk" "lastRow" "LWorksDesk$Row;") (List.mem_of_getElem? (i := 4) rfl)) (fun _ h9 => h9) rfl dX10_priced_64 ?_
    refine lv_aload_n hx hb dX10_priced_67 rfl (lv_at hl 2 rfl) ?_
    refine va_get (D := D) (ci := 10) (v := .ref (a 8)) (C := RX10) (T := TX10) (N := 7) hx hb hts nX10_priced_X10 hown hK hP 0 (wC_0 y a z21) rfl 2 (by decide) (hts (.fieldLink RX10 26 "WorksDesk" "book" "LWorksDesk$Book;") (List.mem_of_getElem? (i := 1) rfl)) (fun _ h9 => h9) rfl dX10_priced_68 ?_
    refine va_get (D := D) (ci := 2) (v := .ref (a 9)) (C := RX2) (T := TX2) (N := 12) hx hb hts nX10_priced_X2 hown hK hP 8 (wC_8 y a z21) rfl 0 (by decide) (hts (.fieldLink RX10 107 "WorksDesk$Book" "items" "LWorksDesk$Bill;") (List.mem_of_getElem? (i := 7) rfl)) (fun _ h9 => h9) rfl dX10_priced_71 ?_
    refine lv_iload_n hx hb dX10_priced_74 rfl (lv_at hl 0 rfl) ?_
    obtain ⟨r22, h23, hm⟩ := zz_b1_some hm
    refine zz_calli (zz_runV (w := wC y a) (As := [.int n5]) (rest := [.ref (a 99)]) ⟨hx, hb, hml, hown, hts⟩ (zX0_likeBits l D y a H.size 9 n5 (Or.inr rfl) z21 h23) (cwV 1 hts gX10_priced_X0_likeBits rfl rfl rfl zdX0_likeBits ⟨Nat.le_of_ble_eq_true rfl, Nat.le_of_ble_eq_true rfl⟩) hK hN hg hP hD hS hA 9 (wC_bill y a z21 9 (Or.inr rfl)) rfl rfl hl.1 rfl (Nat.le_of_ble_eq_true rfl) dX10_priced_75 ⟨Nat.le_of_ble_eq_true rfl, Nat.le_of_ble_eq_true rfl⟩) hD hS hA (fun H locs hP hD hS => ?_)
    obtain ⟨r24, h25, hm⟩ := zz_b1_some hm
    refine zz_calli (zz_runS (w := wC y a) (As := [.int r22]) (rest := [.ref (a 99)]) ⟨hx, hb, hml, hown, hts⟩ (zJ6_bitCount_0f7a4 l D y a H.size r22 z21 h25) (va_cwS 1 hts gX10_priced_J6_bitCount_0f7a4 rfl rfl rfl zdJ6_bitCount_0f7a4 ⟨Nat.le_of_ble_eq_true rfl, Nat.le_of_ble_eq_true rfl⟩) hK hN hg hP hD hS hA rfl hl.1 rfl (Nat.le_of_ble_eq_true rfl) dX10_priced_78 ⟨Nat.le_of_ble_eq_true rfl, Nat.le_of_ble_eq_true rfl⟩) hD hS hA (fun H locs hP hD hS => ?_)
    refine lv_i2l hx hb dX10_priced_81 rfl ?_
    obtain ⟨r26, z28, h27, hm⟩ := zz_b2_some hm
    refine zz_callr (zz_runV (w := wC y a) (As := [.long r24.toInt64]) (rest := []) ⟨hx, hb, hml, hown, hts⟩ (zX5_then l D y a H.size r24.toInt64 z21 h27) (cwV 1 hts gX10_priced_X5_then rfl rfl rfl zdX5_then ⟨Nat.le_of_ble_eq_true rfl, Nat.le_of_ble_eq_true rfl⟩) hK hN hg hP hD hS hA 99 (wC_99 y a z21) rfl rfl hl.1 rfl (Nat.le_of_ble_eq_true rfl) dX10_priced_82 ⟨Nat.le_of_ble_eq_true rfl, Nat.le_of_ble_eq_true rfl⟩) hD hS hA (fun H locs hP hD hS => ?_)
    refine lv_pop hx hb dX10_priced_85 rfl ?_
    refine lv_aload_n hx hb dX10_priced_86 rfl (lv_at hl 1 rfl) ?_
    refine va_get (D := D) (ci := 3) (v := .ref (a 56)) (C := RX3) (T := TX3) (N := 5) hx hb hts nX10_priced_X3 hown hK hP 52 (wC_52 y a z28) rfl 3 (by decide) (hts (.fieldLink RX10 267 "WorksDesk$Changes" "prices" "[I") (List.mem_of_getElem? (i := 8) rfl)) (fun _ h9 => h9) rfl dX10_priced_87 ?_
    refine lv_iload_n hx hb dX10_priced_90 rfl (lv_at hl 3 rfl) ?_
    obtain ⟨c29, hm⟩ := zz_ck_some hm
    refine va_iald hx hb hK hP 56 0 (wC_56 y a z28) rfl c29 dX10_priced_91 ?_
    exact zz_iret hx hb hr hlocks (zz_some2 hm) hP hK hD hS dX10_priced_92
  · replace hm := zz_pos c3 hm
    refine lv_iconst (v := (-1 : Int32)) hx hb dX10_priced_16 (by decide) ?_
    exact zz_iret hx hb hr hlocks (zz_some2 hm) hP hK hD hS dX10_priced_17
def mX10_reaches_b21 : Nat → Int64 → Int32 → zz_M → Option (Int32 × zz_M)
  | 0, _, _, _ => none
  | n + 1, v1, v3, z => if (24 : Int32) ≤ v3 then (some ((-2 : Int32), z)) else (zz_b1 (mX4_of 64 (8 : Int32) v3 z) (fun r2 => if (lg_cmp r2 v1) < (0 : Int32) then (zz_nm (v3 + (1 : Int32)) (fun n5 => (mX10_reaches_b21 n) v1 n5 z)) else (zz_b1 (mX4_of 64 (8 : Int32) v3 z) (fun r6 => zz_b2 (mX5_start r6 z) (fun r8 z10 => some (v3, z10))))))
def mX10_reaches (x1 : Int64) (z : zz_M) : Option (Int32 × zz_M) := if (0 : Int32) ≤ (lg_cmp x1 (1 : Int64)) then (zz_b2 (mX4_reckon 64 z) (fun r12 z14 => mX10_reaches_b21 zz_N x1 (0 : Int32) z14)) else (some ((-1 : Int32), z))
theorem nX10_reaches_X10 : ∀ w ∈ wsX100, w ∈ wsX10_reaches := fun _ h => List.mem_cons_of_mem _ (List.mem_append_left _ (List.mem_append_left _ (List.mem_append_left _ (List.mem_append_left _ (List.mem_append_left _ (List.mem_append_left _ (List.mem_append_left _ (List.mem_append_left _ (List.mem_append_right _ (h))))))))))
theorem zdX10_reaches : yX10_reaches.cls = RX10 ∧ yX10_reaches.cls ≠ "java/lang/invoke/MethodHandle" ∧ yX10_reaches.cls ≠ "java/lang/invoke/VarHandle" ∧ (parseMethodDescriptor yX10_reaches.desc).map (fun d => d.parameters.length) = some 1 := by decide +kernel
set_option maxHeartbeats 4000000 in
set_option maxRecDepth 100000 in
theorem zX10_reaches (l : Launch) (D : va_G) (y : Nat → ClassId) (a : Nat → Nat) (sz : Nat) (x1 : Int64) (z : zz_M) {r : Int32} {zt : zz_M} (hm : mX10_reaches x1 z = some (r, zt)) : Met l yX10_reaches wsX10_reaches { frames := 5, cells := 0, slots := 0, locals := 129 } (zz_Pc D y (wC y a z) sz [.ref (a 0), .long x1]) (zz_Qi D y (wC y a) (va_A (wC y a z) sz) r zt) 0 0 (va_A (wC y a z) sz) := by
  refine Met.ofW (cc := cX10_reaches) (maxL := 4) (ret := (some .int)) (by decide) rfl ?_
  intro p e s m args below meth c s₁ B hml hv
  obtain ⟨rfl, hsz, hP, hK, hD0, hN, hg⟩ := hv
  have hx := B.exec
  have hb := B.bytes
  have hr := B.returns
  have hts := atoms_spec (ws := wsX10_reaches) B.pre
  have hown : s.vm.findClass RX10 = some m.cls := findClass_of_methodNamed B.named
  have hlocks := B.notSynchronized
  clear B
  subst hsz
  have hD := hD0.self (sz := s.heap.size)
  generalize hAe : va_A (wC y a z) s.heap.size = A at hD hg ⊢
  have hA : ∀ q : Nat, s.heap.size ≤ q → A q := fun q h => by rw [← hAe]; exact Or.inr h
  clear hAe hD0
  have hl := lv_entry ([.ref (a 0), .long x1]) (n := 4) (Nat.le_of_ble_eq_true rfl)
  rw [lg_entry_eq]
  generalize (lg_sl ([.ref (a 0), .long x1]) ++ List.replicate (4 - (lg_sl ([.ref (a 0), .long x1])).length) Slot.unset).toArray = ls at hl ⊢
  replace hl : lv_has ls 4 [(0, .ref (a 0)), (1, .long x1)] := hl
  refine zz_go (w := wC y a) hP hD va_S.rf hl (fun G hG => ?_)
  clear hP hD hl ls
  have J21 : ∀ (n : Nat) (v1 : Int64) (v3 : Int32) (z : zz_M), mX10_reaches_b21 n v1 v3 z = some (r, zt) → G 21 [(0, .ref (a 0)), (1, .long v1), (3, .int v3)] [] z := by
    intro n
    induction n with
    | zero =>
      intro v1 v3 z hm
      exact zz_none hm
    | succ n ih =>
      intro v1 v3 z hm
      rw [mX10_reaches_b21] at hm
      rw [hG]
      intro H locs ls hP hD hS hl
      refine lv_iload_n hx hb dX10_reaches_21 rfl (lv_at hl 2 rfl) ?_
      refine lv_bipush (v := (24 : Int32)) hx hb dX10_reaches_22 (by decide) ?_
      refine lv_icmp_ge (tgt := 68) hx hb dX10_reaches_24 (by decide) (fun c1 => ?_) (fun c1 => ?_)
      · replace hm := zz_pos c1 hm
        refine lv_bipush (v := (-2 : Int32)) hx hb dX10_reaches_68 (by decide) ?_
        exact zz_iret hx hb hr hlocks (zz_some2 hm) hP hK hD hS dX10_reaches_70
      · replace hm := zz_neg c1 hm
        refine lv_aload_n hx hb dX10_reaches_27 rfl (lv_at hl 0 rfl) ?_
        refine va_get (D := D) (ci := 10) (v := .ref (a 64)) (C := RX10) (T := TX10) (N := 7) hx hb hts nX10_reaches_X10 hown hK hP 0 (wC_0 y a z) rfl 3 (by decide) (hts (.fieldLink RX10 33 "WorksDesk" "real" "LWorksDesk$Figures;") (List.mem_of_getElem? (i := 1) rfl)) (fun _ h9 => h9) rfl dX10_reaches_28 ?_
        refine lv_bipush (v := (8 : Int32)) hx hb dX10_reaches_31 (by decide) ?_
        refine lv_iload_n hx hb dX10_reaches_33 rfl (lv_at hl 2 rfl) ?_
        obtain ⟨r2, h3, hm⟩ := zz_b1_some hm
        refine zz_calll (zz_runV (w := wC y a) (As := [.int (8 : Int32), .int v3]) (rest := []) ⟨hx, hb, hml, hown, hts⟩ (zX4_of l D y a H.size 64 (8 : Int32) v3 (Or.inl rfl) z h3) (cwV 2 hts gX10_reaches_X4_of rfl rfl rfl zdX4_of ⟨Nat.le_of_ble_eq_true rfl, Nat.le_of_ble_eq_true rfl⟩) hK hN hg hP hD hS hA 64 (wC_fig y a z 64 (Or.inl rfl)) rfl rfl hl.1 rfl (Nat.le_of_ble_eq_true rfl) dX10_reaches_34 ⟨Nat.le_of_ble_eq_true rfl, Nat.le_of_ble_eq_true rfl⟩) hD hS hA (fun H locs hP hD hS => ?_)
        refine lv_lload_n hx hb dX10_reaches_37 rfl (lv_at hl 1 rfl) ?_
        refine W.lcmp hx hb dX10_reaches_38 ?_
        refine lv_if_lt (tgt := 62) hx hb dX10_reaches_39 (by decide) (fun c4 => ?_) (fun c4 => ?_)
        · replace hm := zz_pos c4 hm
          obtain ⟨n5, en5⟩ : ∃ q : Int32, q = v3 + (1 : Int32) := ⟨_, rfl⟩
          replace hm := zz_nm_some en5 hm
          refine lv_iinc (v := n5) (lv' := [(3, .int n5), (0, .ref (a 0)), (1, .long v1)]) hx hb dX10_reaches_62 hl (k := 2) rfl (by rw [en5]; rfl) (by decide) rfl (fun ls hl => ?_)
          refine lv_goto (tgt := 21) hx hb dX10_reaches_65 (by decide) ?_
          have j := ih v1 n5 z hm
          rw [hG] at j
          exact j H locs ls hP hD hS (lv_sub hl [1, 2, 0] rfl)
        · replace hm := zz_neg c4 hm
          refine lv_aload_n hx hb dX10_reaches_42 rfl (lv_at hl 0 rfl) ?_
          refine va_get (D := D) (ci := 10) (v := .ref (a 99)) (C := RX10) (T := TX10) (N := 7) hx hb hts nX10_reaches_X10 hown hK hP 0 (wC_0 y a z) rfl 6 (by decide) (hts (.fieldLink RX10 47 "WorksDesk" "lastRow" "LWorksDesk$Row;") (List.mem_of_getElem? (i := 3) rfl)) (fun _ h9 => h9) rfl dX10_reaches_43 ?_
          refine lv_aload_n hx hb dX10_reaches_46 rfl (lv_at hl 0 rfl) ?_
          refine va_get (D := D) (ci := 10) (v := .ref (a 64)) (C := RX10) (T := TX10) (N := 7) hx hb hts nX10_reaches_X10 hown hK hP 0 (wC_0 y a z) rfl 3 (by decide) (hts (.fieldLink RX10 33 "WorksDesk" "real" "LWorksDesk$Figures;") (List.mem_of_getElem? (i := 1) rfl)) (fun _ h9 => h9) rfl dX10_reaches_47 ?_
          refine lv_bipush (v := (8 : Int32)) hx hb dX10_reaches_50 (by decide) ?_
          refine lv_iload_n hx hb dX10_reaches_52 rfl (lv_at hl 2 rfl) ?_
          obtain ⟨r6, h7, hm⟩ := zz_b1_some hm
          refine zz_calll (zz_runV (w := wC y a) (As := [.int (8 : Int32), .int v3]) (rest := [.ref (a 99)]) ⟨hx, hb, hml, hown, hts⟩ (zX4_of l D y a H.size 64 (8 : Int32) v3 (Or.inl rfl) z h7) (cwV 2 hts gX10_reaches_X4_of rfl rfl rfl zdX4_of ⟨Nat.le_of_ble_eq_true rfl, Nat.le_of_ble_eq_true rfl⟩) hK hN hg hP hD hS hA 64 (wC_fig y a z 64 (Or.inl rfl)) rfl rfl hl.1 rfl (Nat.le_of_ble_eq_true rfl) dX10_reaches_53 ⟨Nat.le_of_ble_eq_true rfl, Nat.le_of_ble_eq_true rfl⟩) hD hS hA (fun H locs hP hD hS => ?_)
          obtain ⟨r8, z10, h9, hm⟩ := zz_b2_some hm
          refine zz_callr (zz_runV (w := wC y a) (As := [.long r6]) (rest := []) ⟨hx, hb, hml, hown, hts⟩ (zX5_start l D y a H.size r6 z h9) (cwV 1 hts gX10_reaches_X5_start rfl rfl rfl zdX5_start ⟨Nat.le_of_ble_eq_true rfl, Nat.le_of_ble_eq_true rfl⟩) hK hN hg hP hD hS hA 99 (wC_99 y a z) rfl rfl hl.1 rfl (Nat.le_of_ble_eq_true rfl) dX10_reaches_56 ⟨Nat.le_of_ble_eq_true rfl, Nat.le_of_ble_eq_true rfl⟩) hD hS hA (fun H locs hP hD hS => ?_)
          refine lv_pop hx hb dX10_reaches_59 rfl ?_
          refine lv_iload_n hx hb dX10_reaches_60 rfl (lv_at hl 2 rfl) ?_
          exact zz_iret hx hb hr hlocks (zz_some2 hm) hP hK hD hS dX10_reaches_61
  rw [hG]
  intro H locs ls hP hD hS hl
  unfold mX10_reaches at hm
  refine lv_lload_n hx hb dX10_reaches_0 rfl (lv_at hl 1 rfl) ?_
  refine lv_lconst (v := (1 : Int64)) hx hb dX10_reaches_1 (by decide) ?_
  refine W.lcmp hx hb dX10_reaches_2 ?_
  refine lv_if_ge (tgt := 8) hx hb dX10_reaches_3 (by decide) (fun c11 => ?_) (fun c11 => ?_)
  · replace hm := zz_pos c11 hm
    refine lv_aload_n hx hb dX10_reaches_8 rfl (lv_at hl 0 rfl) ?_
    refine va_get (D := D) (ci := 10) (v := .ref (a 64)) (C := RX10) (T := TX10) (N := 7) hx hb hts nX10_reaches_X10 hown hK hP 0 (wC_0 y a z) rfl 3 (by decide) (hts (.fieldLink RX10 33 "WorksDesk" "real" "LWorksDesk$Figures;") (List.mem_of_getElem? (i := 1) rfl)) (fun _ h9 => h9) rfl dX10_reaches_9 ?_
    refine lv_aload_n hx hb dX10_reaches_12 rfl (lv_at hl 0 rfl) ?_
    refine va_get (D := D) (ci := 10) (v := .ref (a 8)) (C := RX10) (T := TX10) (N := 7) hx hb hts nX10_reaches_X10 hown hK hP 0 (wC_0 y a z) rfl 2 (by decide) (hts (.fieldLink RX10 26 "WorksDesk" "book" "LWorksDesk$Book;") (List.mem_of_getElem? (i := 2) rfl)) (fun _ h9 => h9) rfl dX10_reaches_13 ?_
    obtain ⟨r12, z14, h13, hm⟩ := zz_b2_some hm
    refine zz_callv (zz_runV (w := wC y a) (As := [.ref (a 8)]) (rest := []) ⟨hx, hb, hml, hown, hts⟩ (zX4_reckon l D y a H.size 64 (Or.inl rfl) z h13) (cwV 1 hts gX10_reaches_X4_reckon rfl rfl rfl zdX4_reckon ⟨Nat.le_of_ble_eq_true rfl, Nat.le_of_ble_eq_true rfl⟩) hK hN hg hP hD hS hA 64 (wC_fig y a z 64 (Or.inl rfl)) rfl rfl hl.1 rfl (Nat.le_of_ble_eq_true rfl) dX10_reaches_16 ⟨Nat.le_of_ble_eq_true rfl, Nat.le_of_ble_eq_true rfl⟩) hD hS hA (fun H locs hP hD hS => ?_)
    refine lv_iconst (v := (0 : Int32)) hx hb dX10_reaches_19 (by decide) ?_
    refine lv_istore_n (lv' := [(3, .int (0 : Int32)), (0, .ref (a 0)), (1, .long x1)]) hx hb dX10_reaches_20 rfl hl (by decide) rfl (fun ls hl => ?_)
    have j := J21 zz_N x1 (0 : Int32) z14 hm
    rw [hG] at j
    exact j H locs ls hP hD hS (lv_sub hl [1, 2, 0] rfl)
  · replace hm := zz_neg c11 hm
    refine lv_iconst (v := (-1 : Int32)) hx hb dX10_reaches_6 (by decide) ?_
    exact zz_iret hx hb hr hlocks (zz_some2 hm) hP hK hD hS dX10_reaches_7
def mX10_reckonAsIfTold (gk : Nat) (x2 : Int32) (x3 : Int32) (z : zz_M) : Option (Unit × zz_M) := zz_ck (zz_in x2 24) (zz_nm (z.1 (16 + 3 * gk + 1) x2.toNatClampNeg) (fun n2 => zz_b2 (mX4_reckon 64 z) (fun r3 z5 => zz_b2 (mX6_tell gk x2 x3 z5) (fun r6 z8 => zz_b2 (mX4_reckon 81 z8) (fun r9 z11 => zz_b2 (mX6_tell gk x2 n2 z11) (fun r12 z14 => some ((), z14)))))))
theorem nX10_reckonAsIfTold_X10 : ∀ w ∈ wsX100, w ∈ wsX10_reckonAsIfTold := fun _ h => List.mem_cons_of_mem _ (List.mem_append_left _ (List.mem_append_left _ (List.mem_append_left _ (List.mem_append_left _ (List.mem_append_left _ (List.mem_append_left _ (List.mem_append_right _ (h))))))))
theorem nX10_reckonAsIfTold_X6 : ∀ w ∈ wsX60, w ∈ wsX10_reckonAsIfTold := fun _ h => List.mem_cons_of_mem _ (List.mem_append_left _ (List.mem_append_left _ (List.mem_append_left _ (List.mem_append_left _ (List.mem_append_left _ (List.mem_append_left _ (List.mem_append_left _ (List.mem_append_right _ (h)))))))))
theorem zdX10_reckonAsIfTold : yX10_reckonAsIfTold.cls = RX10 ∧ yX10_reckonAsIfTold.cls ≠ "java/lang/invoke/MethodHandle" ∧ yX10_reckonAsIfTold.cls ≠ "java/lang/invoke/VarHandle" ∧ (parseMethodDescriptor yX10_reckonAsIfTold.desc).map (fun d => d.parameters.length) = some 3 := by decide +kernel
set_option maxHeartbeats 4000000 in
set_option maxRecDepth 100000 in
theorem zX10_reckonAsIfTold (l : Launch) (D : va_G) (y : Nat → ClassId) (a : Nat → Nat) (sz : Nat) (gk : Nat) (x2 : Int32) (x3 : Int32) (hgk : gk < 12) (z : zz_M) {r : Unit} {zt : zz_M} (hm : mX10_reckonAsIfTold gk x2 x3 z = some (r, zt)) : Met l yX10_reckonAsIfTold wsX10_reckonAsIfTold { frames := 5, cells := 0, slots := 0, locals := 129 } (zz_Pc D y (wC y a z) sz [.ref (a 0), .ref (a (16 + 3 * gk)), .int x2, .int x3]) (zz_Qv D y (wC y a) (va_A (wC y a z) sz) zt) 0 0 (va_A (wC y a z) sz) := by
  refine Met.ofW (cc := cX10_reckonAsIfTold) (maxL := 5) (ret := none) (by decide) rfl ?_
  intro p e s m args below meth c s₁ B hml hv
  obtain ⟨rfl, hsz, hP, hK, hD0, hN, hg⟩ := hv
  have hx := B.exec
  have hb := B.bytes
  have hr := B.returns
  have hts := atoms_spec (ws := wsX10_reckonAsIfTold) B.pre
  have hown : s.vm.findClass RX10 = some m.cls := findClass_of_methodNamed B.named
  have hlocks := B.notSynchronized
  clear B
  subst hsz
  have hD := hD0.self (sz := s.heap.size)
  generalize hAe : va_A (wC y a z) s.heap.size = A at hD hg ⊢
  have hA : ∀ q : Nat, s.heap.size ≤ q → A q := fun q h => by rw [← hAe]; exact Or.inr h
  clear hAe hD0
  have hl := lv_entry ([.ref (a 0), .ref (a (16 + 3 * gk)), .int x2, .int x3]) (n := 5) (Nat.le_of_ble_eq_true rfl)
  rw [lg_entry_eq]
  generalize (lg_sl ([.ref (a 0), .ref (a (16 + 3 * gk)), .int x2, .int x3]) ++ List.replicate (5 - (lg_sl ([.ref (a 0), .ref (a (16 + 3 * gk)), .int x2, .int x3])).length) Slot.unset).toArray = ls at hl ⊢
  replace hl : lv_has ls 5 [(0, .ref (a 0)), (1, .ref (a (16 + 3 * gk))), (2, .int x2), (3, .int x3)] := hl
  refine zz_go (w := wC y a) hP hD va_S.rf hl (fun G hG => ?_)
  clear hP hD hl ls
  rw [hG]
  intro H locs ls hP hD hS hl
  unfold mX10_reckonAsIfTold at hm
  refine lv_aload_n hx hb dX10_reckonAsIfTold_0 rfl (lv_at hl 1 rfl) ?_
  refine va_get (D := D) (ci := 6) (v := .ref (a (16 + 3 * gk + 1))) (C := RX6) (T := TX6) (N := 3) hx hb hts nX10_reckonAsIfTold_X6 hown hK hP (16 + 3 * gk) (wC_ser y a z gk hgk) rfl 0 (by decide) (hts (.fieldLink RX10 379 "WorksDesk$Series" "told" "[I") (List.mem_of_getElem? (i := 1) rfl)) (fun _ h9 => h9) rfl dX10_reckonAsIfTold_1 ?_
  refine lv_iload_n hx hb dX10_reckonAsIfTold_4 rfl (lv_at hl 2 rfl) ?_
  obtain ⟨c1, hm⟩ := zz_ck_some hm
  refine va_iald hx hb hK hP (16 + 3 * gk + 1) 0 (wC_serA1 y a z gk hgk) rfl c1 dX10_reckonAsIfTold_5 ?_
  refine lv_topi (fun n2 en2 => ?_)
  replace hm := zz_nm_some en2 hm
  refine lv_istore (lv' := [(4, .int n2), (0, .ref (a 0)), (1, .ref (a (16 + 3 * gk))), (2, .int x2), (3, .int x3)]) hx hb dX10_reckonAsIfTold_6 hl (by decide) rfl (fun ls hl => ?_)
  refine lv_aload_n hx hb dX10_reckonAsIfTold_8 rfl (lv_at hl 1 rfl) ?_
  refine va_get (D := D) (ci := 10) (v := .ref (a 64)) (C := RX10) (T := TX10) (N := 7) hx hb hts nX10_reckonAsIfTold_X10 hown hK hP 0 (wC_0 y a z) rfl 3 (by decide) (hts (.fieldLink RX10 33 "WorksDesk" "real" "LWorksDesk$Figures;") (List.mem_of_getElem? (i := 2) rfl)) (fun _ h9 => h9) rfl dX10_reckonAsIfTold_9 ?_
  refine lv_aload_n hx hb dX10_reckonAsIfTold_12 rfl (lv_at hl 1 rfl) ?_
  refine va_get (D := D) (ci := 10) (v := .ref (a 8)) (C := RX10) (T := TX10) (N := 7) hx hb hts nX10_reckonAsIfTold_X10 hown hK hP 0 (wC_0 y a z) rfl 2 (by decide) (hts (.fieldLink RX10 26 "WorksDesk" "book" "LWorksDesk$Book;") (List.mem_of_getElem? (i := 3) rfl)) (fun _ h9 => h9) rfl dX10_reckonAsIfTold_13 ?_
  obtain ⟨r3, z5, h4, hm⟩ := zz_b2_some hm
  refine zz_callv (zz_runV (w := wC y a) (As := [.ref (a 8)]) (rest := []) ⟨hx, hb, hml, hown, hts⟩ (zX4_reckon l D y a H.size 64 (Or.inl rfl) z h4) (cwV 1 hts gX10_reckonAsIfTold_X4_reckon rfl rfl rfl zdX4_reckon ⟨Nat.le_of_ble_eq_true rfl, Nat.le_of_ble_eq_true rfl⟩) hK hN hg hP hD hS hA 64 (wC_fig y a z 64 (Or.inl rfl)) rfl rfl hl.1 rfl (Nat.le_of_ble_eq_true rfl) dX10_reckonAsIfTold_16 ⟨Nat.le_of_ble_eq_true rfl, Nat.le_of_ble_eq_true rfl⟩) hD hS hA (fun H locs hP hD hS => ?_)
  refine lv_aload_n hx hb dX10_reckonAsIfTold_19 rfl (lv_at hl 2 rfl) ?_
  refine lv_iload_n hx hb dX10_reckonAsIfTold_20 rfl (lv_at hl 3 rfl) ?_
  refine lv_iload_n hx hb dX10_reckonAsIfTold_21 rfl (lv_at hl 4 rfl) ?_
  obtain ⟨r6, z8, h7, hm⟩ := zz_b2_some hm
  refine zz_callv (zz_runV (w := wC y a) (As := [.int x2, .int x3]) (rest := []) ⟨hx, hb, hml, hown, hts⟩ (zX6_tell l D y a H.size gk x2 x3 hgk z5 h7) (cwV 2 hts gX10_reckonAsIfTold_X6_tell rfl rfl rfl zdX6_tell ⟨Nat.le_of_ble_eq_true rfl, Nat.le_of_ble_eq_true rfl⟩) hK hN hg hP hD hS hA (16 + 3 * gk) (wC_ser y a z5 gk hgk) rfl rfl hl.1 rfl (Nat.le_of_ble_eq_true rfl) dX10_reckonAsIfTold_22 ⟨Nat.le_of_ble_eq_true rfl, Nat.le_of_ble_eq_true rfl⟩) hD hS hA (fun H locs hP hD hS => ?_)
  refine lv_aload_n hx hb dX10_reckonAsIfTold_25 rfl (lv_at hl 1 rfl) ?_
  refine va_get (D := D) (ci := 10) (v := .ref (a 81)) (C := RX10) (T := TX10) (N := 7) hx hb hts nX10_reckonAsIfTold_X10 hown hK hP 0 (wC_0 y a z8) rfl 4 (by decide) (hts (.fieldLink RX10 37 "WorksDesk" "asIf" "LWorksDesk$Figures;") (List.mem_of_getElem? (i := 4) rfl)) (fun _ h9 => h9) rfl dX10_reckonAsIfTold_26 ?_
  refine lv_aload_n hx hb dX10_reckonAsIfTold_29 rfl (lv_at hl 1 rfl) ?_
  refine va_get (D := D) (ci := 10) (v := .ref (a 8)) (C := RX10) (T := TX10) (N := 7) hx hb hts nX10_reckonAsIfTold_X10 hown hK hP 0 (wC_0 y a z8) rfl 2 (by decide) (hts (.fieldLink RX10 26 "WorksDesk" "book" "LWorksDesk$Book;") (List.mem_of_getElem? (i := 3) rfl)) (fun _ h9 => h9) rfl dX10_reckonAsIfTold_30 ?_
  obtain ⟨r9, z11, h10, hm⟩ := zz_b2_some hm
  refine zz_callv (zz_runV (w := wC y a) (As := [.ref (a 8)]) (rest := []) ⟨hx, hb, hml, hown, hts⟩ (zX4_reckon l D y a H.size 81 (Or.inr rfl) z8 h10) (cwV 1 hts gX10_reckonAsIfTold_X4_reckon rfl rfl rfl zdX4_reckon ⟨Nat.le_of_ble_eq_true rfl, Nat.le_of_ble_eq_true rfl⟩) hK hN hg hP hD hS hA 81 (wC_fig y a z8 81 (Or.inr rfl)) rfl rfl hl.1 rfl (Nat.le_of_ble_eq_true rfl) dX10_reckonAsIfTold_33 ⟨Nat.le_of_ble_eq_true rfl, Nat.le_of_ble_eq_true rfl⟩) hD hS hA (fun H locs hP hD hS => ?_)
  refine lv_aload_n hx hb dX10_reckonAsIfTold_36 rfl (lv_at hl 2 rfl) ?_
  refine lv_iload_n hx hb dX10_reckonAsIfTold_37 rfl (lv_at hl 3 rfl) ?_
  refine lv_iload hx hb dX10_reckonAsIfTold_38 (lv_at hl 0 rfl) ?_
  obtain ⟨r12, z14, h13, hm⟩ := zz_b2_some hm
  refine zz_callv (zz_runV (w := wC y a) (As := [.int x2, .int n2]) (rest := []) ⟨hx, hb, hml, hown, hts⟩ (zX6_tell l D y a H.size gk x2 n2 hgk z11 h13) (cwV 2 hts gX10_reckonAsIfTold_X6_tell rfl rfl rfl zdX6_tell ⟨Nat.le_of_ble_eq_true rfl, Nat.le_of_ble_eq_true rfl⟩) hK hN hg hP hD hS hA (16 + 3 * gk) (wC_ser y a z11 gk hgk) rfl rfl hl.1 rfl (Nat.le_of_ble_eq_true rfl) dX10_reckonAsIfTold_40 ⟨Nat.le_of_ble_eq_true rfl, Nat.le_of_ble_eq_true rfl⟩) hD hS hA (fun H locs hP hD hS => ?_)
  exact zz_vret hx hb hr hlocks (zz_some2 hm).2 hP hK hD hS dX10_reckonAsIfTold_43
def mX10_recovered (z : zz_M) : Option (Int32 × zz_M) := zz_b2 (mX4_reckon 64 z) (fun r1 z3 => zz_b1 (mX2_advanced z3) (fun r4 => zz_b1 (mX4_firstOf 64 (4 : Int32) r4 (24 : Int32) z3) (fun r6 => zz_b1 (mX10_orNotThere r6) (fun r8 => some (r8, z3)))))
theorem nX10_recovered_X10 : ∀ w ∈ wsX100, w ∈ wsX10_recovered := fun _ h => List.mem_cons_of_mem _ (List.mem_append_left _ (List.mem_append_left _ (List.mem_append_left _ (List.mem_append_left _ (List.mem_append_left _ (List.mem_append_left _ (List.mem_append_left _ (List.mem_append_right _ (h)))))))))
theorem zdX10_recovered : yX10_recovered.cls = RX10 ∧ yX10_recovered.cls ≠ "java/lang/invoke/MethodHandle" ∧ yX10_recovered.cls ≠ "java/lang/invoke/VarHandle" ∧ (parseMethodDescriptor yX10_recovered.desc).map (fun d => d.parameters.length) = some 0 := by decide +kernel
set_option maxHeartbeats 4000000 in
set_option maxRecDepth 100000 in
theorem zX10_recovered (l : Launch) (D : va_G) (y : Nat → ClassId) (a : Nat → Nat) (sz : Nat) (z : zz_M) {r : Int32} {zt : zz_M} (hm : mX10_recovered z = some (r, zt)) : Met l yX10_recovered wsX10_recovered { frames := 5, cells := 0, slots := 0, locals := 129 } (zz_Pc D y (wC y a z) sz [.ref (a 0)]) (zz_Qi D y (wC y a) (va_A (wC y a z) sz) r zt) 0 0 (va_A (wC y a z) sz) := by
  refine Met.ofW (cc := cX10_recovered) (maxL := 1) (ret := (some .int)) (by decide) rfl ?_
  intro p e s m args below meth c s₁ B hml hv
  obtain ⟨rfl, hsz, hP, hK, hD0, hN, hg⟩ := hv
  have hx := B.exec
  have hb := B.bytes
  have hr := B.returns
  have hts := atoms_spec (ws := wsX10_recovered) B.pre
  have hown : s.vm.findClass RX10 = some m.cls := findClass_of_methodNamed B.named
  have hlocks := B.notSynchronized
  clear B
  subst hsz
  have hD := hD0.self (sz := s.heap.size)
  generalize hAe : va_A (wC y a z) s.heap.size = A at hD hg ⊢
  have hA : ∀ q : Nat, s.heap.size ≤ q → A q := fun q h => by rw [← hAe]; exact Or.inr h
  clear hAe hD0
  have hl := lv_entry ([.ref (a 0)]) (n := 1) (Nat.le_of_ble_eq_true rfl)
  rw [lg_entry_eq]
  generalize (lg_sl ([.ref (a 0)]) ++ List.replicate (1 - (lg_sl ([.ref (a 0)])).length) Slot.unset).toArray = ls at hl ⊢
  replace hl : lv_has ls 1 [(0, .ref (a 0))] := hl
  refine zz_go (w := wC y a) hP hD va_S.rf hl (fun G hG => ?_)
  clear hP hD hl ls
  rw [hG]
  intro H locs ls hP hD hS hl
  unfold mX10_recovered at hm
  refine lv_aload_n hx hb dX10_recovered_0 rfl (lv_at hl 0 rfl) ?_
  refine va_get (D := D) (ci := 10) (v := .ref (a 64)) (C := RX10) (T := TX10) (N := 7) hx hb hts nX10_recovered_X10 hown hK hP 0 (wC_0 y a z) rfl 3 (by decide) (hts (.fieldLink RX10 33 "WorksDesk" "real" "LWorksDesk$Figures;") (List.mem_of_getElem? (i := 1) rfl)) (fun _ h9 => h9) rfl dX10_recovered_1 ?_
  refine lv_aload_n hx hb dX10_recovered_4 rfl (lv_at hl 0 rfl) ?_
  refine va_get (D := D) (ci := 10) (v := .ref (a 8)) (C := RX10) (T := TX10) (N := 7) hx hb hts nX10_recovered_X10 hown hK hP 0 (wC_0 y a z) rfl 2 (by decide) (hts (.fieldLink RX10 26 "WorksDesk" "book" "LWorksDesk$Book;") (List.mem_of_getElem? (i := 2) rfl)) (fun _ h9 => h9) rfl dX10_recovered_5 ?_
  obtain ⟨r1, z3, h2, hm⟩ := zz_b2_some hm
  refine zz_callv (zz_runV (w := wC y a) (As := [.ref (a 8)]) (rest := []) ⟨hx, hb, hml, hown, hts⟩ (zX4_reckon l D y a H.size 64 (Or.inl rfl) z h2) (cwV 1 hts gX10_recovered_X4_reckon rfl rfl rfl zdX4_reckon ⟨Nat.le_of_ble_eq_true rfl, Nat.le_of_ble_eq_true rfl⟩) hK hN hg hP hD hS hA 64 (wC_fig y a z 64 (Or.inl rfl)) rfl rfl hl.1 rfl (Nat.le_of_ble_eq_true rfl) dX10_recovered_8 ⟨Nat.le_of_ble_eq_true rfl, Nat.le_of_ble_eq_true rfl⟩) hD hS hA (fun H locs hP hD hS => ?_)
  refine lv_aload_n hx hb dX10_recovered_11 rfl (lv_at hl 0 rfl) ?_
  refine va_get (D := D) (ci := 10) (v := .ref (a 64)) (C := RX10) (T := TX10) (N := 7) hx hb hts nX10_recovered_X10 hown hK hP 0 (wC_0 y a z3) rfl 3 (by decide) (hts (.fieldLink RX10 33 "WorksDesk" "real" "LWorksDesk$Figures;") (List.mem_of_getElem? (i := 1) rfl)) (fun _ h9 => h9) rfl dX10_recovered_12 ?_
  refine lv_iconst (v := (4 : Int32)) hx hb dX10_recovered_15 (by decide) ?_
  refine lv_aload_n hx hb dX10_recovered_16 rfl (lv_at hl 0 rfl) ?_
  refine va_get (D := D) (ci := 10) (v := .ref (a 8)) (C := RX10) (T := TX10) (N := 7) hx hb hts nX10_recovered_X10 hown hK hP 0 (wC_0 y a z3) rfl 2 (by decide) (hts (.fieldLink RX10 26 "WorksDesk" "book" "LWorksDesk$Book;") (List.mem_of_getElem? (i := 2) rfl)) (fun _ h9 => h9) rfl dX10_recovered_17 ?_
  obtain ⟨r4, h5, hm⟩ := zz_b1_some hm
  refine zz_calll (zz_runV (w := wC y a) (As := []) (rest := [.int (4 : Int32), .ref (a 64)]) ⟨hx, hb, hml, hown, hts⟩ (zX2_advanced l D y a H.size z3 h5) (cwV 0 hts gX10_recovered_X2_advanced rfl rfl rfl zdX2_advanced ⟨Nat.le_of_ble_eq_true rfl, Nat.le_of_ble_eq_true rfl⟩) hK hN hg hP hD hS hA 8 (wC_8 y a z3) rfl rfl hl.1 rfl (Nat.le_of_ble_eq_true rfl) dX10_recovered_20 ⟨Nat.le_of_ble_eq_true rfl, Nat.le_of_ble_eq_true rfl⟩) hD hS hA (fun H locs hP hD hS => ?_)
  refine lv_bipush (v := (24 : Int32)) hx hb dX10_recovered_23 (by decide) ?_
  obtain ⟨r6, h7, hm⟩ := zz_b1_some hm
  refine zz_calli (zz_runV (w := wC y a) (As := [.int (4 : Int32), .long r4, .int (24 : Int32)]) (rest := []) ⟨hx, hb, hml, hown, hts⟩ (zX4_firstOf l D y a H.size 64 (4 : Int32) r4 (24 : Int32) (Or.inl rfl) z3 h7) (cwV 3 hts gX10_recovered_X4_firstOf rfl rfl rfl zdX4_firstOf ⟨Nat.le_of_ble_eq_true rfl, Nat.le_of_ble_eq_true rfl⟩) hK hN hg hP hD hS hA 64 (wC_fig y a z3 64 (Or.inl rfl)) rfl rfl hl.1 rfl (Nat.le_of_ble_eq_true rfl) dX10_recovered_25 ⟨Nat.le_of_ble_eq_true rfl, Nat.le_of_ble_eq_true rfl⟩) hD hS hA (fun H locs hP hD hS => ?_)
  obtain ⟨r8, h9, hm⟩ := zz_b1_some hm
  refine zz_calli (zz_runS (w := wC y a) (As := [.int r6]) (rest := []) ⟨hx, hb, hml, hown, hts⟩ (zX10_orNotThere l D y a H.size r6 z3 h9) (va_cwS 1 hts gX10_recovered_X10_orNotThere rfl rfl rfl zdX10_orNotThere ⟨Nat.le_of_ble_eq_true rfl, Nat.le_of_ble_eq_true rfl⟩) hK hN hg hP hD hS hA rfl hl.1 rfl (Nat.le_of_ble_eq_true rfl) dX10_recovered_28 ⟨Nat.le_of_ble_eq_true rfl, Nat.le_of_ble_eq_true rfl⟩) hD hS hA (fun H locs hP hD hS => ?_)
  exact zz_iret hx hb hr hlocks (zz_some2 hm) hP hK hD hS dX10_recovered_31
def mX10_rises (x1 : Int32) (x2 : Int32) (z : zz_M) : Option (Int32 × zz_M) := zz_b1 (mX10_isIndex x1 x2) (fun r1 => if r1 = (0 : Int32) then (some ((-1 : Int32), z)) else (zz_b2 (mX10_reckonAsIfTold 11 x1 x2 z) (fun r4 z6 => zz_b1 (mX10_moreAsIf (8 : Int32) (23 : Int32) z6) (fun r7 => zz_b2 (mX5_start r7 z6) (fun r9 z11 => zz_b1 (mX10_moreAsIf (14 : Int32) (23 : Int32) z11) (fun r12 => zz_b2 (mX5_then r12 z11) (fun r14 z16 => some ((0 : Int32), z16))))))))
theorem nX10_rises_X10 : ∀ w ∈ wsX100, w ∈ wsX10_rises := fun _ h => List.mem_cons_of_mem _ (List.mem_append_left _ (List.mem_append_left _ (List.mem_append_left _ (List.mem_append_left _ (List.mem_append_left _ (List.mem_append_left _ (List.mem_append_left _ (List.mem_append_left _ (List.mem_append_right _ (h))))))))))
theorem nX10_rises_X2 : ∀ w ∈ wsX20, w ∈ wsX10_rises := fun _ h => List.mem_cons_of_mem _ (List.mem_append_left _ (List.mem_append_left _ (List.mem_append_left _ (List.mem_append_left _ (List.mem_append_left _ (List.mem_append_left _ (List.mem_append_left _ (List.mem_append_right _ (h)))))))))
theorem zdX10_rises : yX10_rises.cls = RX10 ∧ yX10_rises.cls ≠ "java/lang/invoke/MethodHandle" ∧ yX10_rises.cls ≠ "java/lang/invoke/VarHandle" ∧ (parseMethodDescriptor yX10_rises.desc).map (fun d => d.parameters.length) = some 2 := by decide +kernel
set_option maxHeartbeats 4000000 in
set_option maxRecDepth 100000 in
theorem zX10_rises (l : Launch) (D : va_G) (y : Nat → ClassId) (a : Nat → Nat) (sz : Nat) (x1 : Int32) (x2 : Int32) (z : zz_M) {r : Int32} {zt : zz_M} (hm : mX10_rises x1 x2 z = some (r, zt)) : Met l yX10_rises wsX10_rises { frames := 6, cells := 0, slots := 0, locals := 153 } (zz_Pc D y (wC y a z) sz [.ref (a 0), .int x1, .int x2]) (zz_Qi D y (wC y a) (va_A (wC y a z) sz) r zt) 0 0 (va_A (wC y a z) sz) := by
  refine Met.ofW (cc := cX10_rises) (maxL := 3) (ret := (some .int)) (by decide) rfl ?_
  intro p e s m args below meth c s₁ B hml hv
  obtain ⟨rfl, hsz, hP, hK, hD0, hN, hg⟩ := hv
  have hx := B.exec
  have hb := B.bytes
  have hr := B.returns
  have hts := atoms_spec (ws := wsX10_rises) B.pre
  have hown : s.vm.findClass RX10 = some m.cls := findClass_of_methodNamed B.named
  have hlocks := B.notSynchronized
  clear B
  subst hsz
  have hD := hD0.self (sz := s.heap.size)
  generalize hAe : va_A (wC y a z) s.heap.size = A at hD hg ⊢
  have hA : ∀ q : Nat, s.heap.size ≤ q → A q := fun q h => by rw [← hAe]; exact Or.inr h
  clear hAe hD0
  have hl := lv_entry ([.ref (a 0), .int x1, .int x2]) (n := 3) (Nat.le_of_ble_eq_true rfl)
  rw [lg_entry_eq]
  generalize (lg_sl ([.ref (a 0), .int x1, .int x2]) ++ List.replicate (3 - (lg_sl ([.ref (a 0), .int x1, .int x2])).length) Slot.unset).toArray = ls at hl ⊢
  replace hl : lv_has ls 3 [(0, .ref (a 0)), (1, .int x1), (2, .int x2)] := hl
  refine zz_go (w := wC y a) hP hD va_S.rf hl (fun G hG => ?_)
  clear hP hD hl ls
  rw [hG]
  intro H locs ls hP hD hS hl
  unfold mX10_rises at hm
  refine lv_iload_n hx hb dX10_rises_0 rfl (lv_at hl 1 rfl) ?_
  refine lv_iload_n hx hb dX10_rises_1 rfl (lv_at hl 2 rfl) ?_
  obtain ⟨r1, h2, hm⟩ := zz_b1_some hm
  refine zz_calli (zz_runS (w := wC y a) (As := [.int x1, .int x2]) (rest := []) ⟨hx, hb, hml, hown, hts⟩ (zX10_isIndex l D y a H.size x1 x2 z h2) (va_cwS 2 hts gX10_rises_X10_isIndex rfl rfl rfl zdX10_isIndex ⟨Nat.le_of_ble_eq_true rfl, Nat.le_of_ble_eq_true rfl⟩) hK hN hg hP hD hS hA rfl hl.1 rfl (Nat.le_of_ble_eq_true rfl) dX10_rises_2 ⟨Nat.le_of_ble_eq_true rfl, Nat.le_of_ble_eq_true rfl⟩) hD hS hA (fun H locs hP hD hS => ?_)
  refine lv_if_ne (tgt := 10) hx hb dX10_rises_5 (by decide) (fun c3 => ?_) (fun c3 => ?_)
  · replace hm := zz_neg c3 hm
    refine lv_aload_n hx hb dX10_rises_10 rfl (lv_at hl 0 rfl) ?_
    refine lv_aload_n hx hb dX10_rises_11 rfl (lv_at hl 0 rfl) ?_
    refine va_get (D := D) (ci := 10) (v := .ref (a 8)) (C := RX10) (T := TX10) (N := 7) hx hb hts nX10_rises_X10 hown hK hP 0 (wC_0 y a z) rfl 2 (by decide) (hts (.fieldLink RX10 26 "WorksDesk" "book" "LWorksDesk$Book;") (List.mem_of_getElem? (i := 1) rfl)) (fun _ h9 => h9) rfl dX10_rises_12 ?_
    refine va_get (D := D) (ci := 2) (v := .ref (a 49)) (C := RX2) (T := TX2) (N := 12) hx hb hts nX10_rises_X2 hown hK hP 8 (wC_8 y a z) rfl 4 (by decide) (hts (.fieldLink RX10 217 "WorksDesk$Book" "index" "LWorksDesk$Series;") (List.mem_of_getElem? (i := 2) rfl)) (fun _ h9 => h9) rfl dX10_rises_15 ?_
    refine lv_iload_n hx hb dX10_rises_18 rfl (lv_at hl 1 rfl) ?_
    refine lv_iload_n hx hb dX10_rises_19 rfl (lv_at hl 2 rfl) ?_
    obtain ⟨r4, z6, h5, hm⟩ := zz_b2_some hm
    refine zz_callv (zz_runV (w := wC y a) (As := [.ref (a 49), .int x1, .int x2]) (rest := []) ⟨hx, hb, hml, hown, hts⟩ (zX10_reckonAsIfTold l D y a H.size 11 x1 x2 (by decide) z h5) (cwV 3 hts gX10_rises_X10_reckonAsIfTold rfl rfl rfl zdX10_reckonAsIfTold ⟨Nat.le_of_ble_eq_true rfl, Nat.le_of_ble_eq_true rfl⟩) hK hN hg hP hD hS hA 0 (wC_0 y a z) rfl rfl hl.1 rfl (Nat.le_of_ble_eq_true rfl) dX10_rises_20 ⟨Nat.le_of_ble_eq_true rfl, Nat.le_of_ble_eq_true rfl⟩) hD hS hA (fun H locs hP hD hS => ?_)
    refine lv_aload_n hx hb dX10_rises_23 rfl (lv_at hl 0 rfl) ?_
    refine va_get (D := D) (ci := 10) (v := .ref (a 99)) (C := RX10) (T := TX10) (N := 7) hx hb hts nX10_rises_X10 hown hK hP 0 (wC_0 y a z6) rfl 6 (by decide) (hts (.fieldLink RX10 47 "WorksDesk" "lastRow" "LWorksDesk$Row;") (List.mem_of_getElem? (i := 3) rfl)) (fun _ h9 => h9) rfl dX10_rises_24 ?_
    refine lv_aload_n hx hb dX10_rises_27 rfl (lv_at hl 0 rfl) ?_
    refine lv_bipush (v := (8 : Int32)) hx hb dX10_rises_28 (by decide) ?_
    refine lv_bipush (v := (23 : Int32)) hx hb dX10_rises_30 (by decide) ?_
    obtain ⟨r7, h8, hm⟩ := zz_b1_some hm
    refine zz_calll (zz_runV (w := wC y a) (As := [.int (8 : Int32), .int (23 : Int32)]) (rest := [.ref (a 99)]) ⟨hx, hb, hml, hown, hts⟩ (zX10_moreAsIf l D y a H.size (8 : Int32) (23 : Int32) z6 h8) (cwV 2 hts gX10_rises_X10_moreAsIf rfl rfl rfl zdX10_moreAsIf ⟨Nat.le_of_ble_eq_true rfl, Nat.le_of_ble_eq_true rfl⟩) hK hN hg hP hD hS hA 0 (wC_0 y a z6) rfl rfl hl.1 rfl (Nat.le_of_ble_eq_true rfl) dX10_rises_32 ⟨Nat.le_of_ble_eq_true rfl, Nat.le_of_ble_eq_true rfl⟩) hD hS hA (fun H locs hP hD hS => ?_)
    obtain ⟨r9, z11, h10, hm⟩ := zz_b2_some hm
    refine zz_callr (zz_runV (w := wC y a) (As := [.long r7]) (rest := []) ⟨hx, hb, hml, hown, hts⟩ (zX5_start l D y a H.size r7 z6 h10) (cwV 1 hts gX10_rises_X5_start rfl rfl rfl zdX5_start ⟨Nat.le_of_ble_eq_true rfl, Nat.le_of_ble_eq_true rfl⟩) hK hN hg hP hD hS hA 99 (wC_99 y a z6) rfl rfl hl.1 rfl (Nat.le_of_ble_eq_true rfl) dX10_rises_35 ⟨Nat.le_of_ble_eq_true rfl, Nat.le_of_ble_eq_true rfl⟩) hD hS hA (fun H locs hP hD hS => ?_)
    refine lv_aload_n hx hb dX10_rises_38 rfl (lv_at hl 0 rfl) ?_
    refine lv_bipush (v := (14 : Int32)) hx hb dX10_rises_39 (by decide) ?_
    refine lv_bipush (v := (23 : Int32)) hx hb dX10_rises_41 (by decide) ?_
    obtain ⟨r12, h13, hm⟩ := zz_b1_some hm
    refine zz_calll (zz_runV (w := wC y a) (As := [.int (14 : Int32), .int (23 : Int32)]) (rest := [.ref (a 99)]) ⟨hx, hb, hml, hown, hts⟩ (zX10_moreAsIf l D y a H.size (14 : Int32) (23 : Int32) z11 h13) (cwV 2 hts gX10_rises_X10_moreAsIf rfl rfl rfl zdX10_moreAsIf ⟨Nat.le_of_ble_eq_true rfl, Nat.le_of_ble_eq_true rfl⟩) hK hN hg hP hD hS hA 0 (wC_0 y a z11) rfl rfl hl.1 rfl (Nat.le_of_ble_eq_true rfl) dX10_rises_43 ⟨Nat.le_of_ble_eq_true rfl, Nat.le_of_ble_eq_true rfl⟩) hD hS hA (fun H locs hP hD hS => ?_)
    obtain ⟨r14, z16, h15, hm⟩ := zz_b2_some hm
    refine zz_callr (zz_runV (w := wC y a) (As := [.long r12]) (rest := []) ⟨hx, hb, hml, hown, hts⟩ (zX5_then l D y a H.size r12 z11 h15) (cwV 1 hts gX10_rises_X5_then rfl rfl rfl zdX5_then ⟨Nat.le_of_ble_eq_true rfl, Nat.le_of_ble_eq_true rfl⟩) hK hN hg hP hD hS hA 99 (wC_99 y a z11) rfl rfl hl.1 rfl (Nat.le_of_ble_eq_true rfl) dX10_rises_46 ⟨Nat.le_of_ble_eq_true rfl, Nat.le_of_ble_eq_true rfl⟩) hD hS hA (fun H locs hP hD hS => ?_)
    refine lv_pop hx hb dX10_rises_49 rfl ?_
    refine lv_iconst (v := (0 : Int32)) hx hb dX10_rises_50 (by decide) ?_
    exact zz_iret hx hb hr hlocks (zz_some2 hm) hP hK hD hS dX10_rises_51
  · replace hm := zz_pos c3 hm
    refine lv_iconst (v := (-1 : Int32)) hx hb dX10_rises_8 (by decide) ?_
    exact zz_iret hx hb hr hlocks (zz_some2 hm) hP hK hD hS dX10_rises_9
def mX7_add (x1 : Int32) (x2 : Int32) (z : zz_M) : Option (Int32 × zz_M) := if (z.2.2.1 3653) < (6 : Int32) then (zz_ck (zz_in (z.2.2.1 3653) 6) (zz_nm (zz_wI z 58 (z.2.2.1 3653) x1) (fun z3 => zz_ck (zz_in (z3.2.2.1 3653) 6) (zz_nm (zz_wI z3 59 (z3.2.2.1 3653) x2) (fun z5 => zz_ck (zz_in (z5.2.2.1 3653) 6) (zz_nm (zz_wI z5 60 (z5.2.2.1 3653) (24 : Int32)) (fun z7 => zz_ck (zz_in (z7.2.2.1 3653) 6) (zz_nm (zz_wI z7 61 (z7.2.2.1 3653) (24 : Int32)) (fun z9 => zz_ck (zz_in (z9.2.2.1 3653) 6) (zz_nm (zz_wI z9 62 (z9.2.2.1 3653) (0 : Int32)) (fun z11 => zz_nm (zz_sF z11 3653 ((z11.2.2.1 3653) + (1 : Int32))) (fun z12 => some ((z12.2.2.1 3653) - (1 : Int32), z12))))))))))))) else (some ((-1 : Int32), z))
theorem nX7_add_X7 : ∀ w ∈ wsX70, w ∈ wsX7_add := fun _ h => List.mem_cons_of_mem _ (List.mem_append_right _ (h))
theorem zdX7_add : yX7_add.cls = RX7 ∧ yX7_add.cls ≠ "java/lang/invoke/MethodHandle" ∧ yX7_add.cls ≠ "java/lang/invoke/VarHandle" ∧ (parseMethodDescriptor yX7_add.desc).map (fun d => d.parameters.length) = some 2 := by decide +kernel
set_option maxHeartbeats 4000000 in
set_option maxRecDepth 100000 in
theorem zX7_add (l : Launch) (D : va_G) (y : Nat → ClassId) (a : Nat → Nat) (sz : Nat) (x1 : Int32) (x2 : Int32) (z : zz_M) {r : Int32} {zt : zz_M} (hm : mX7_add x1 x2 z = some (r, zt)) : Met l yX7_add wsX7_add { frames := 0, cells := 0, slots := 0, locals := 0 } (zz_Pc D y (wC y a z) sz [.ref (a 57), .int x1, .int x2]) (zz_Qi D y (wC y a) (va_A (wC y a z) sz) r zt) 0 0 (va_A (wC y a z) sz) := by
  refine Met.ofW (cc := cX7_add) (maxL := 3) (ret := (some .int)) (by decide) rfl ?_
  intro p e s m args below meth c s₁ B hml hv
  obtain ⟨rfl, hsz, hP, hK, hD0, hN, hg⟩ := hv
  have hx := B.exec
  have hb := B.bytes
  have hr := B.returns
  have hts := atoms_spec (ws := wsX7_add) B.pre
  have hown : s.vm.findClass RX7 = some m.cls := findClass_of_methodNamed B.named
  have hlocks := B.notSynchronized
  clear B
  subst hsz
  have hD := hD0.self (sz := s.heap.size)
  generalize hAe : va_A (wC y a z) s.heap.size = A at hD hg ⊢
  have hA : ∀ q : Nat, s.heap.size ≤ q → A q := fun q h => by rw [← hAe]; exact Or.inr h
  clear hAe hD0
  have hl := lv_entry ([.ref (a 57), .int x1, .int x2]) (n := 3) (Nat.le_of_ble_eq_true rfl)
  rw [lg_entry_eq]
  generalize (lg_sl ([.ref (a 57), .int x1, .int x2]) ++ List.replicate (3 - (lg_sl ([.ref (a 57), .int x1, .int x2])).length) Slot.unset).toArray = ls at hl ⊢
  replace hl : lv_has ls 3 [(0, .ref (a 57)), (1, .int x1), (2, .int x2)] := hl
  refine zz_go (w := wC y a) hP hD va_S.rf hl (fun G hG => ?_)
  clear hP hD hl ls
  rw [hG]
  intro H locs ls hP hD hS hl
  unfold mX7_add at hm
  refine lv_aload_n hx hb dX7_add_0 rfl (lv_at hl 0 rfl) ?_
  refine va_get (D := D) (ci := 7) (v := .int (z.2.2.1 3653)) (C := RX7) (T := TX7) (N := 6) hx hb hts nX7_add_X7 hown hK hP 57 (wC_57 y a z) rfl 5 (by decide) (hts (.fieldLink RX7 27 "WorksDesk$SetOffs" "size" "I") (List.mem_of_getElem? (i := 1) rfl)) (fun _ h9 => h9) rfl dX7_add_1 ?_
  refine lv_bipush (v := (6 : Int32)) hx hb dX7_add_4 (by decide) ?_
  refine lv_icmp_lt (tgt := 11) hx hb dX7_add_6 (by decide) (fun c1 => ?_) (fun c1 => ?_)
  · replace hm := zz_pos c1 hm
    refine lv_aload_n hx hb dX7_add_11 rfl (lv_at hl 0 rfl) ?_
    refine va_get (D := D) (ci := 7) (v := .ref (a 58)) (C := RX7) (T := TX7) (N := 6) hx hb hts nX7_add_X7 hown hK hP 57 (wC_57 y a z) rfl 0 (by decide) (hts (.fieldLink RX7 9 "WorksDesk$SetOffs" "months" "[I") (List.mem_of_getElem? (i := 2) rfl)) (fun _ h9 => h9) rfl dX7_add_12 ?_
    refine lv_aload_n hx hb dX7_add_15 rfl (lv_at hl 0 rfl) ?_
    refine va_get (D := D) (ci := 7) (v := .int (z.2.2.1 3653)) (C := RX7) (T := TX7) (N := 6) hx hb hts nX7_add_X7 hown hK hP 57 (wC_57 y a z) rfl 5 (by decide) (hts (.fieldLink RX7 27 "WorksDesk$SetOffs" "size" "I") (List.mem_of_getElem? (i := 1) rfl)) (fun _ h9 => h9) rfl dX7_add_16 ?_
    refine lv_iload_n hx hb dX7_add_19 rfl (lv_at hl 1 rfl) ?_
    obtain ⟨c2, hm⟩ := zz_ck_some hm
    refine va_iast hx hb hK hP hD hS 58 0 (wC_58 y a z) rfl c2 dX7_add_20 (fun H locs hP hD hS => ?_)
    obtain ⟨z3, hP, hD, hm⟩ := zz_up (w := wC y a) (wC_w58 y a z (z.2.2.1 3653) x1) hP hD hm
    refine lv_aload_n hx hb dX7_add_21 rfl (lv_at hl 0 rfl) ?_
    refine va_get (D := D) (ci := 7) (v := .ref (a 59)) (C := RX7) (T := TX7) (N := 6) hx hb hts nX7_add_X7 hown hK hP 57 (wC_57 y a z3) rfl 1 (by decide) (hts (.fieldLink RX7 15 "WorksDesk$SetOffs" "amounts" "[I") (List.mem_of_getElem? (i := 3) rfl)) (fun _ h9 => h9) rfl dX7_add_22 ?_
    refine lv_aload_n hx hb dX7_add_25 rfl (lv_at hl 0 rfl) ?_
    refine va_get (D := D) (ci := 7) (v := .int (z3.2.2.1 3653)) (C := RX7) (T := TX7) (N := 6) hx hb hts nX7_add_X7 hown hK hP 57 (wC_57 y a z3) rfl 5 (by decide) (hts (.fieldLink RX7 27 "WorksDesk$SetOffs" "size" "I") (List.mem_of_getElem? (i := 1) rfl)) (fun _ h9 => h9) rfl dX7_add_26 ?_
    refine lv_iload_n hx hb dX7_add_29 rfl (lv_at hl 2 rfl) ?_
    obtain ⟨c4, hm⟩ := zz_ck_some hm
    refine va_iast hx hb hK hP hD hS 59 0 (wC_59 y a z3) rfl c4 dX7_add_30 (fun H locs hP hD hS => ?_)
    obtain ⟨z5, hP, hD, hm⟩ := zz_up (w := wC y a) (wC_w59 y a z3 (z3.2.2.1 3653) x2) hP hD hm
    refine lv_aload_n hx hb dX7_add_31 rfl (lv_at hl 0 rfl) ?_
    refine va_get (D := D) (ci := 7) (v := .ref (a 60)) (C := RX7) (T := TX7) (N := 6) hx hb hts nX7_add_X7 hown hK hP 57 (wC_57 y a z5) rfl 2 (by decide) (hts (.fieldLink RX7 18 "WorksDesk$SetOffs" "disputed" "[I") (List.mem_of_getElem? (i := 4) rfl)) (fun _ h9 => h9) rfl dX7_add_32 ?_
    refine lv_aload_n hx hb dX7_add_35 rfl (lv_at hl 0 rfl) ?_
    refine va_get (D := D) (ci := 7) (v := .int (z5.2.2.1 3653)) (C := RX7) (T := TX7) (N := 6) hx hb hts nX7_add_X7 hown hK hP 57 (wC_57 y a z5) rfl 5 (by decide) (hts (.fieldLink RX7 27 "WorksDesk$SetOffs" "size" "I") (List.mem_of_getElem? (i := 1) rfl)) (fun _ h9 => h9) rfl dX7_add_36 ?_
    refine lv_bipush (v := (24 : Int32)) hx hb dX7_add_39 (by decide) ?_
    obtain ⟨c6, hm⟩ := zz_ck_some hm
    refine va_iast hx hb hK hP hD hS 60 0 (wC_60 y a z5) rfl c6 dX7_add_41 (fun H locs hP hD hS => ?_)
    obtain ⟨z7, hP, hD, hm⟩ := zz_up (w := wC y a) (wC_w60 y a z5 (z5.2.2.1 3653) (24 : Int32)) hP hD hm
    refine lv_aload_n hx hb dX7_add_42 rfl (lv_at hl 0 rfl) ?_
    refine va_get (D := D) (ci := 7) (v := .ref (a 61)) (C := RX7) (T := TX7) (N := 6) hx hb hts nX7_add_X7 hown hK hP 57 (wC_57 y a z7) rfl 3 (by decide) (hts (.fieldLink RX7 21 "WorksDesk$SetOffs" "decided" "[I") (List.mem_of_getElem? (i := 5) rfl)) (fun _ h9 => h9) rfl dX7_add_43 ?_
    refine lv_aload_n hx hb dX7_add_46 rfl (lv_at hl 0 rfl) ?_
    refine va_get (D := D) (ci := 7) (v := .int (z7.2.2.1 3653)) (C := RX7) (T := TX7) (N := 6) hx hb hts nX7_add_X7 hown hK hP 57 (wC_57 y a z7) rfl 5 (by decide) (hts (.fieldLink RX7 27 "WorksDesk$SetOffs" "size" "I") (List.mem_of_getElem? (i := 1) rfl)) (fun _ h9 => h9) rfl dX7_add_47 ?_
    refine lv_bipush (v := (24 : Int32)) hx hb dX7_add_50 (by decide) ?_
    obtain ⟨c8, hm⟩ := zz_ck_some hm
    refine va_iast hx hb hK hP hD hS 61 0 (wC_61 y a z7) rfl c8 dX7_add_52 (fun H locs hP hD hS => ?_)
    obtain ⟨z9, hP, hD, hm⟩ := zz_up (w := wC y a) (wC_w61 y a z7 (z7.2.2.1 3653) (24 : Int32)) hP hD hm
    refine lv_aload_n hx hb dX7_add_53 rfl (lv_at hl 0 rfl) ?_
    refine va_get (D := D) (ci := 7) (v := .ref (a 62)) (C := RX7) (T := TX7) (N := 6) hx hb hts nX7_add_X7 hown hK hP 57 (wC_57 y a z9) rfl 4 (by decide) (hts (.fieldLink RX7 24 "WorksDesk$SetOffs" "upheld" "[I") (List.mem_of_getElem? (i := 6) rfl)) (fun _ h9 => h9) rfl dX7_add_54 ?_
    refine lv_aload_n hx hb dX7_add_57 rfl (lv_at hl 0 rfl) ?_
    refine va_get (D := D) (ci := 7) (v := .int (z9.2.2.1 3653)) (C := RX7) (T := TX7) (N := 6) hx hb hts nX7_add_X7 hown hK hP 57 (wC_57 y a z9) rfl 5 (by decide) (hts (.fieldLink RX7 27 "WorksDesk$SetOffs" "size" "I") (List.mem_of_getElem? (i := 1) rfl)) (fun _ h9 => h9) rfl dX7_add_58 ?_
    refine lv_iconst (v := (0 : Int32)) hx hb dX7_add_61 (by decide) ?_
    obtain ⟨c10, hm⟩ := zz_ck_some hm
    refine va_iast hx hb hK hP hD hS 62 0 (wC_62 y a z9) rfl c10 dX7_add_62 (fun H locs hP hD hS => ?_)
    obtain ⟨z11, hP, hD, hm⟩ := zz_up (w := wC y a) (wC_w62 y a z9 (z9.2.2.1 3653) (0 : Int32)) hP hD hm
    refine lv_aload_n hx hb dX7_add_63 rfl (lv_at hl 0 rfl) ?_
    refine lv_dup hx hb dX7_add_64 rfl ?_
    refine va_get (D := D) (ci := 7) (v := .int (z11.2.2.1 3653)) (C := RX7) (T := TX7) (N := 6) hx hb hts nX7_add_X7 hown hK hP 57 (wC_57 y a z11) rfl 5 (by decide) (hts (.fieldLink RX7 27 "WorksDesk$SetOffs" "size" "I") (List.mem_of_getElem? (i := 1) rfl)) (fun _ h9 => h9) rfl dX7_add_65 ?_
    refine lv_iconst (v := (1 : Int32)) hx hb dX7_add_68 (by decide) ?_
    refine lv_iadd hx hb dX7_add_69 ?_
    refine va_put (D := D) (ci := 7) (v := .int ((z11.2.2.1 3653) + (1 : Int32))) (ty := .int) (C := RX7) (T := TX7) (N := 6) hx hb hts nX7_add_X7 tyX7 tyX7_ok nmX7 hown hK hP hD hS 57 (wC_57 y a z11) rfl 5 (by decide) (hts (.fieldLink RX7 27 "WorksDesk$SetOffs" "size" "I") (List.mem_of_getElem? (i := 1) rfl)) (fun _ h9 => h9) rfl (tyX7_ok 5 (by decide)) rfl rfl (Nat.le_of_ble_eq_true rfl) dX7_add_70 (fun H locs hP hD hS => ?_)
    obtain ⟨z12, hP, hD, hm⟩ := zz_up (w := wC y a) (wC_f57_5 y a z11 ((z11.2.2.1 3653) + (1 : Int32))) hP hD hm
    refine lv_aload_n hx hb dX7_add_73 rfl (lv_at hl 0 rfl) ?_
    refine va_get (D := D) (ci := 7) (v := .int (z12.2.2.1 3653)) (C := RX7) (T := TX7) (N := 6) hx hb hts nX7_add_X7 hown hK hP 57 (wC_57 y a z12) rfl 5 (by decide) (hts (.fieldLink RX7 27 "WorksDesk$SetOffs" "size" "I") (List.mem_of_getElem? (i := 1) rfl)) (fun _ h9 => h9) rfl dX7_add_74 ?_
    refine lv_iconst (v := (1 : Int32)) hx hb dX7_add_77 (by decide) ?_
    refine lv_isub hx hb dX7_add_78 ?_
    exact zz_iret hx hb hr hlocks (zz_some2 hm) hP hK hD hS dX7_add_79
  · replace hm := zz_neg c1 hm
    refine lv_iconst (v := (-1 : Int32)) hx hb dX7_add_9 (by decide) ?_
    exact zz_iret hx hb hr hlocks (zz_some2 hm) hP hK hD hS dX7_add_10
def mX10_setsOff_b17 (z : zz_M) : Option (Int32 × zz_M) := some ((-1 : Int32), z)
def mX10_setsOff (x1 : Int32) (x2 : Int32) (z : zz_M) : Option (Int32 × zz_M) := zz_b1 (mX10_isMonth x1) (fun r1 => if r1 = (0 : Int32) then (mX10_setsOff_b17 z) else (zz_b1 (mX10_isWithin x2 (1 : Int32) (99999 : Int32)) (fun r4 => if r4 = (0 : Int32) then (mX10_setsOff_b17 z) else (if (z.2.2.1 3653) < (6 : Int32) then (zz_b2 (mX7_add x1 x2 z) (fun r8 z10 => some (r8, z10))) else (some ((-2 : Int32), z))))))
theorem nX10_setsOff_X10 : ∀ w ∈ wsX100, w ∈ wsX10_setsOff := fun _ h => List.mem_cons_of_mem _ (List.mem_append_left _ (List.mem_append_left _ (List.mem_append_right _ (h))))
theorem nX10_setsOff_X2 : ∀ w ∈ wsX20, w ∈ wsX10_setsOff := fun _ h => List.mem_cons_of_mem _ (List.mem_append_left _ (List.mem_append_right _ (h)))
theorem nX10_setsOff_X7 : ∀ w ∈ wsX70, w ∈ wsX10_setsOff := fun _ h => List.mem_cons_of_mem _ (List.mem_append_right _ (h))
theorem zdX10_setsOff : yX10_setsOff.cls = RX10 ∧ yX10_setsOff.cls ≠ "java/lang/invoke/MethodHandle" ∧ yX10_setsOff.cls ≠ "java/lang/invoke/VarHandle" ∧ (parseMethodDescriptor yX10_setsOff.desc).map (fun d => d.parameters.length) = some 2 := by decide +kernel
set_option maxHeartbeats 4000000 in
set_option maxRecDepth 100000 in
theorem zX10_setsOff (l : Launch) (D : va_G) (y : Nat → ClassId) (a : Nat → Nat) (sz : Nat) (x1 : Int32) (x2 : Int32) (z : zz_M) {r : Int32} {zt : zz_M} (hm : mX10_setsOff x1 x2 z = some (r, zt)) : Met l yX10_setsOff wsX10_setsOff { frames := 2, cells := 0, slots := 0, locals := 42 } (zz_Pc D y (wC y a z) sz [.ref (a 0), .int x1, .int x2]) (zz_Qi D y (wC y a) (va_A (wC y a z) sz) r zt) 0 0 (va_A (wC y a z) sz) := by
  refine Met.ofW (cc := cX10_setsOff) (maxL := 3) (ret := (some .int)) (by decide) rfl ?_
  intro p e s m args below meth c s₁ B hml hv
  obtain ⟨rfl, hsz, hP, hK, hD0, hN, hg⟩ := hv
  have hx := B.exec
  have hb := B.bytes
  have hr := B.returns
  have hts := atoms_spec (ws := wsX10_setsOff) B.pre
  have hown : s.vm.findClass RX10 = some m.cls := findClass_of_methodNamed B.named
  have hlocks := B.notSynchronized
  clear B
  subst hsz
  have hD := hD0.self (sz := s.heap.size)
  generalize hAe : va_A (wC y a z) s.heap.size = A at hD hg ⊢
  have hA : ∀ q : Nat, s.heap.size ≤ q → A q := fun q h => by rw [← hAe]; exact Or.inr h
  clear hAe hD0
  have hl := lv_entry ([.ref (a 0), .int x1, .int x2]) (n := 3) (Nat.le_of_ble_eq_true rfl)
  rw [lg_entry_eq]
  generalize (lg_sl ([.ref (a 0), .int x1, .int x2]) ++ List.replicate (3 - (lg_sl ([.ref (a 0), .int x1, .int x2])).length) Slot.unset).toArray = ls at hl ⊢
  replace hl : lv_has ls 3 [(0, .ref (a 0)), (1, .int x1), (2, .int x2)] := hl
  refine zz_go (w := wC y a) hP hD va_S.rf hl (fun G hG => ?_)
  clear hP hD hl ls
  have J17 : ∀ (z : zz_M), mX10_setsOff_b17 z = some (r, zt) → G 17 [] [] z := by
    intro z hm
    rw [mX10_setsOff_b17] at hm
    rw [hG]
    intro H locs ls hP hD hS hl
    refine lv_iconst (v := (-1 : Int32)) hx hb dX10_setsOff_17 (by decide) ?_
    exact zz_iret hx hb hr hlocks (zz_some2 hm) hP hK hD hS dX10_setsOff_18
  rw [hG]
  intro H locs ls hP hD hS hl
  unfold mX10_setsOff at hm
  refine lv_iload_n hx hb dX10_setsOff_0 rfl (lv_at hl 1 rfl) ?_
  obtain ⟨r1, h2, hm⟩ := zz_b1_some hm
  refine zz_calli (zz_runS (w := wC y a) (As := [.int x1]) (rest := []) ⟨hx, hb, hml, hown, hts⟩ (zX10_isMonth l D y a H.size x1 z h2) (va_cwS 1 hts gX10_setsOff_X10_isMonth rfl rfl rfl zdX10_isMonth ⟨Nat.le_of_ble_eq_true rfl, Nat.le_of_ble_eq_true rfl⟩) hK hN hg hP hD hS hA rfl hl.1 rfl (Nat.le_of_ble_eq_true rfl) dX10_setsOff_1 ⟨Nat.le_of_ble_eq_true rfl, Nat.le_of_ble_eq_true rfl⟩) hD hS hA (fun H locs hP hD hS => ?_)
  refine lv_if_eq (tgt := 17) hx hb dX10_setsOff_4 (by decide) (fun c3 => ?_) (fun c3 => ?_)
  · replace hm := zz_pos c3 hm
    have j := J17 z hm
    rw [hG] at j
    exact j H locs ls hP hD hS (lv_sub hl [] rfl)
  · replace hm := zz_neg c3 hm
    refine lv_iload_n hx hb dX10_setsOff_7 rfl (lv_at hl 2 rfl) ?_
    refine lv_iconst (v := (1 : Int32)) hx hb dX10_setsOff_8 (by decide) ?_
    refine lv_ldc (v := (99999 : Int32)) hx hb hown (hts (.constant RX10 126 (99999)) (List.mem_of_getElem? (i := 1) rfl)) dX10_setsOff_9 ?_
    obtain ⟨r4, h5, hm⟩ := zz_b1_some hm
    refine zz_calli (zz_runS (w := wC y a) (As := [.int x2, .int (1 : Int32), .int (99999 : Int32)]) (rest := []) ⟨hx, hb, hml, hown, hts⟩ (zX10_isWithin l D y a H.size x2 (1 : Int32) (99999 : Int32) z h5) (va_cwS 3 hts gX10_setsOff_X10_isWithin rfl rfl rfl zdX10_isWithin ⟨Nat.le_of_ble_eq_true rfl, Nat.le_of_ble_eq_true rfl⟩) hK hN hg hP hD hS hA rfl hl.1 rfl (Nat.le_of_ble_eq_true rfl) dX10_setsOff_11 ⟨Nat.le_of_ble_eq_true rfl, Nat.le_of_ble_eq_true rfl⟩) hD hS hA (fun H locs hP hD hS => ?_)
    refine lv_if_ne (tgt := 19) hx hb dX10_setsOff_14 (by decide) (fun c6 => ?_) (fun c6 => ?_)
    · replace hm := zz_neg c6 hm
      refine lv_aload_n hx hb dX10_setsOff_19 rfl (lv_at hl 0 rfl) ?_
      refine va_get (D := D) (ci := 10) (v := .ref (a 8)) (C := RX10) (T := TX10) (N := 7) hx hb hts nX10_setsOff_X10 hown hK hP 0 (wC_0 y a z) rfl 2 (by decide) (hts (.fieldLink RX10 26 "WorksDesk" "book" "LWorksDesk$Book;") (List.mem_of_getElem? (i := 2) rfl)) (fun _ h9 => h9) rfl dX10_setsOff_20 ?_
      refine va_get (D := D) (ci := 2) (v := .ref (a 57)) (C := RX2) (T := TX2) (N := 12) hx hb hts nX10_setsOff_X2 hown hK hP 8 (wC_8 y a z) rfl 6 (by decide) (hts (.fieldLink RX10 163 "WorksDesk$Book" "setOffs" "LWorksDesk$SetOffs;") (List.mem_of_getElem? (i := 3) rfl)) (fun _ h9 => h9) rfl dX10_setsOff_23 ?_
      refine va_get (D := D) (ci := 7) (v := .int (z.2.2.1 3653)) (C := RX7) (T := TX7) (N := 6) hx hb hts nX10_setsOff_X7 hown hK hP 57 (wC_57 y a z) rfl 5 (by decide) (hts (.fieldLink RX10 167 "WorksDesk$SetOffs" "size" "I") (List.mem_of_getElem? (i := 4) rfl)) (fun _ h9 => h9) rfl dX10_setsOff_26 ?_
      refine lv_bipush (v := (6 : Int32)) hx hb dX10_setsOff_29 (by decide) ?_
      refine lv_icmp_lt (tgt := 37) hx hb dX10_setsOff_31 (by decide) (fun c7 => ?_) (fun c7 => ?_)
      · replace hm := zz_pos c7 hm
        refine lv_aload_n hx hb dX10_setsOff_37 rfl (lv_at hl 0 rfl) ?_
        refine va_get (D := D) (ci := 10) (v := .ref (a 8)) (C := RX10) (T := TX10) (N := 7) hx hb hts nX10_setsOff_X10 hown hK hP 0 (wC_0 y a z) rfl 2 (by decide) (hts (.fieldLink RX10 26 "WorksDesk" "book" "LWorksDesk$Book;") (List.mem_of_getElem? (i := 2) rfl)) (fun _ h9 => h9) rfl dX10_setsOff_38 ?_
        refine va_get (D := D) (ci := 2) (v := .ref (a 57)) (C := RX2) (T := TX2) (N := 12) hx hb hts nX10_setsOff_X2 hown hK hP 8 (wC_8 y a z) rfl 6 (by decide) (hts (.fieldLink RX10 163 "WorksDesk$Book" "setOffs" "LWorksDesk$SetOffs;") (List.mem_of_getElem? (i := 3) rfl)) (fun _ h9 => h9) rfl dX10_setsOff_41 ?_
        refine lv_iload_n hx hb dX10_setsOff_44 rfl (lv_at hl 1 rfl) ?_
        refine lv_iload_n hx hb dX10_setsOff_45 rfl (lv_at hl 2 rfl) ?_
        obtain ⟨r8, z10, h9, hm⟩ := zz_b2_some hm
        refine zz_calli (zz_runV (w := wC y a) (As := [.int x1, .int x2]) (rest := []) ⟨hx, hb, hml, hown, hts⟩ (zX7_add l D y a H.size x1 x2 z h9) (cwV 2 hts gX10_setsOff_X7_add rfl rfl rfl zdX7_add ⟨Nat.le_of_ble_eq_true rfl, Nat.le_of_ble_eq_true rfl⟩) hK hN hg hP hD hS hA 57 (wC_57 y a z) rfl rfl hl.1 rfl (Nat.le_of_ble_eq_true rfl) dX10_setsOff_46 ⟨Nat.le_of_ble_eq_true rfl, Nat.le_of_ble_eq_true rfl⟩) hD hS hA (fun H locs hP hD hS => ?_)
        exact zz_iret hx hb hr hlocks (zz_some2 hm) hP hK hD hS dX10_setsOff_49
      · replace hm := zz_neg c7 hm
        refine lv_bipush (v := (-2 : Int32)) hx hb dX10_setsOff_34 (by decide) ?_
        exact zz_iret hx hb hr hlocks (zz_some2 hm) hP hK hD hS dX10_setsOff_36
    · replace hm := zz_pos c6 hm
      have j := J17 z hm
      rw [hG] at j
      exact j H locs ls hP hD hS (lv_sub hl [] rfl)
def mX10_shifts_b109 (v5 : Int32) (t0 : Int64) (z : zz_M) : Option (Int32 × zz_M) := zz_b2 (mX5_then t0 z) (fun r1 z3 => zz_b1 (mX10_moreAsIf (8 : Int32) (23 : Int32) z3) (fun r4 => zz_b2 (mX5_then r4 z3) (fun r6 z8 => some (v5, z8))))
def mX10_shifts_b75 (k37 : Int32 → Int32 → Int32 → zz_M → Option (Int32 × zz_M)) (v4 : Int32) (v5 : Int32) (v6 : Int32) (z : zz_M) : Option (Int32 × zz_M) := zz_nm (v6 + (-1 : Int32)) (fun n9 => k37 v4 v5 n9 z)
def mX10_shifts_b37 : Nat → Int32 → Int32 → Int32 → zz_M → Option (Int32 × zz_M)
  | 0, _, _, _, _ => none
  | n + 1, v4, v5, v6, z => if v6 < (0 : Int32) then (zz_b2 (mX5_start v4.toInt64 z) (fun r11 z13 => if v4 = (-1 : Int32) then (mX10_shifts_b109 v5 (0 : Int64) z13) else (zz_b1 (mX10_moreAsIf (7 : Int32) v4 z13) (fun r15 => mX10_shifts_b109 v5 r15 z13)))) else (zz_b1 (mX4_of 81 (7 : Int32) v6 z) (fun r17 => zz_b1 (mX4_of 64 (7 : Int32) v6 z) (fun r19 => if (lg_cmp r17 r19) = (0 : Int32) then (mX10_shifts_b75 (mX10_shifts_b37 n) v4 v5 v6 z) else (zz_nm (v5 + (1 : Int32)) (fun n22 => mX10_shifts_b75 (mX10_shifts_b37 n) v6 n22 v6 z)))))
def mX10_shifts (x1 : Int32) (x2 : Int32) (x3 : Int32) (z : zz_M) : Option (Int32 × zz_M) := zz_b1 (mX10_isMeasure x1 x2 x3 z) (fun r23 => if r23 = (0 : Int32) then (some ((-1 : Int32), z)) else (zz_ck (zz_in x2 10) (zz_b2 (mX10_reckonAsIfTold x2.toNatClampNeg x1 x3 z) (fun r27 z29 => mX10_shifts_b37 zz_N (-1 : Int32) (0 : Int32) (23 : Int32) z29))))
theorem nX10_shifts_X10 : ∀ w ∈ wsX100, w ∈ wsX10_shifts := fun _ h => List.mem_cons_of_mem _ (List.mem_append_left _ (List.mem_append_left _ (List.mem_append_left _ (List.mem_append_left _ (List.mem_append_left _ (List.mem_append_left _ (List.mem_append_left _ (List.mem_append_left _ (List.mem_append_right _ (h))))))))))
theorem nX10_shifts_X2 : ∀ w ∈ wsX20, w ∈ wsX10_shifts := fun _ h => List.mem_cons_of_mem _ (List.mem_append_left _ (List.mem_append_left _ (List.mem_append_left _ (List.mem_append_left _ (List.mem_append_left _ (List.mem_append_left _ (List.mem_append_left _ (List.mem_append_right _ (h)))))))))
theorem zdX10_shifts : yX10_shifts.cls = RX10 ∧ yX10_shifts.cls ≠ "java/lang/invoke/MethodHandle" ∧ yX10_shifts.cls ≠ "java/lang/invoke/VarHandle" ∧ (parseMethodDescriptor yX10_shifts.desc).map (fun d => d.parameters.length) = some 3 := by decide +kernel
set_option maxHeartbeats 4000000 in
set_option maxRecDepth 100000 in
theorem zX10_shifts (l : Launch) (D : va_G) (y : Nat → ClassId) (a : Nat → Nat) (sz : Nat) (x1 : Int32) (x2 : Int32) (x3 : Int32) (z : zz_M) {r : Int32} {zt : zz_M} (hm : mX10_shifts x1 x2 x3 z = some (r, zt)) : Met l yX10_shifts wsX10_shifts { frames := 6, cells := 0, slots := 0, locals := 153 } (zz_Pc D y (wC y a z) sz [.ref (a 0), .int x1, .int x2, .int x3]) (zz_Qi D y (wC y a) (va_A (wC y a z) sz) r zt) 0 0 (va_A (wC y a z) sz) := by
  refine Met.ofW (cc := cX10_shifts) (maxL := 7) (ret := (some .int)) (by decide) rfl ?_
  intro p e s m args below meth c s₁ B hml hv
  obtain ⟨rfl, hsz, hP, hK, hD0, hN, hg⟩ := hv
  have hx := B.exec
  have hb := B.bytes
  have hr := B.returns
  have hts := atoms_spec (ws := wsX10_shifts) B.pre
  have hown : s.vm.findClass RX10 = some m.cls := findClass_of_methodNamed B.named
  have hlocks := B.notSynchronized
  clear B
  subst hsz
  have hD := hD0.self (sz := s.heap.size)
  generalize hAe : va_A (wC y a z) s.heap.size = A at hD hg ⊢
  have hA : ∀ q : Nat, s.heap.size ≤ q → A q := fun q h => by rw [← hAe]; exact Or.inr h
  clear hAe hD0
  have hl := lv_entry ([.ref (a 0), .int x1, .int x2, .int x3]) (n := 7) (Nat.le_of_ble_eq_true rfl)
  rw [lg_entry_eq]
  generalize (lg_sl ([.ref (a 0), .int x1, .int x2, .int x3]) ++ List.replicate (7 - (lg_sl ([.ref (a 0), .int x1, .int x2, .int x3])).length) Slot.unset).toArray = ls at hl ⊢
  replace hl : lv_has ls 7 [(0, .ref (a 0)), (1, .int x1), (2, .int x2), (3, .int x3)] := hl
  refine zz_go (w := wC y a) hP hD va_S.rf hl (fun G hG => ?_)
  clear hP hD hl ls
  have J109 : ∀ (v5 : Int32) (t0 : Int64) (z : zz_M), mX10_shifts_b109 v5 t0 z = some (r, zt) → G 109 [(0, .ref (a 0)), (5, .int v5)] [.long t0, .ref (a 99)] z := by
    intro v5 t0 z hm
    rw [mX10_shifts_b109] at hm
    rw [hG]
    intro H locs ls hP hD hS hl
    obtain ⟨r1, z3, h2, hm⟩ := zz_b2_some hm
    refine zz_callr (zz_runV (w := wC y a) (As := [.long t0]) (rest := []) ⟨hx, hb, hml, hown, hts⟩ (zX5_then l D y a H.size t0 z h2) (cwV 1 hts gX10_shifts_X5_then rfl rfl rfl zdX5_then ⟨Nat.le_of_ble_eq_true rfl, Nat.le_of_ble_eq_true rfl⟩) hK hN hg hP hD hS hA 99 (wC_99 y a z) rfl rfl hl.1 rfl (Nat.le_of_ble_eq_true rfl) dX10_shifts_109 ⟨Nat.le_of_ble_eq_true rfl, Nat.le_of_ble_eq_true rfl⟩) hD hS hA (fun H locs hP hD hS => ?_)
    refine lv_pop hx hb dX10_shifts_112 rfl ?_
    refine lv_aload_n hx hb dX10_shifts_113 rfl (lv_at hl 0 rfl) ?_
    refine va_get (D := D) (ci := 10) (v := .ref (a 99)) (C := RX10) (T := TX10) (N := 7) hx hb hts nX10_shifts_X10 hown hK hP 0 (wC_0 y a z3) rfl 6 (by decide) (hts (.fieldLink RX10 47 "WorksDesk" "lastRow" "LWorksDesk$Row;") (List.mem_of_getElem? (i := 5) rfl)) (fun _ h9 => h9) rfl dX10_shifts_114 ?_
    refine lv_aload_n hx hb dX10_shifts_117 rfl (lv_at hl 0 rfl) ?_
    refine lv_bipush (v := (8 : Int32)) hx hb dX10_shifts_118 (by decide) ?_
    refine lv_bipush (v := (23 : Int32)) hx hb dX10_shifts_120 (by decide) ?_
    obtain ⟨r4, h5, hm⟩ := zz_b1_some hm
    refine zz_calll (zz_runV (w := wC y a) (As := [.int (8 : Int32), .int (23 : Int32)]) (rest := [.ref (a 99)]) ⟨hx, hb, hml, hown, hts⟩ (zX10_moreAsIf l D y a H.size (8 : Int32) (23 : Int32) z3 h5) (cwV 2 hts gX10_shifts_X10_moreAsIf rfl rfl rfl zdX10_moreAsIf ⟨Nat.le_of_ble_eq_true rfl, Nat.le_of_ble_eq_true rfl⟩) hK hN hg hP hD hS hA 0 (wC_0 y a z3) rfl rfl hl.1 rfl (Nat.le_of_ble_eq_true rfl) dX10_shifts_122 ⟨Nat.le_of_ble_eq_true rfl, Nat.le_of_ble_eq_true rfl⟩) hD hS hA (fun H locs hP hD hS => ?_)
    obtain ⟨r6, z8, h7, hm⟩ := zz_b2_some hm
    refine zz_callr (zz_runV (w := wC y a) (As := [.long r4]) (rest := []) ⟨hx, hb, hml, hown, hts⟩ (zX5_then l D y a H.size r4 z3 h7) (cwV 1 hts gX10_shifts_X5_then rfl rfl rfl zdX5_then ⟨Nat.le_of_ble_eq_true rfl, Nat.le_of_ble_eq_true rfl⟩) hK hN hg hP hD hS hA 99 (wC_99 y a z3) rfl rfl hl.1 rfl (Nat.le_of_ble_eq_true rfl) dX10_shifts_125 ⟨Nat.le_of_ble_eq_true rfl, Nat.le_of_ble_eq_true rfl⟩) hD hS hA (fun H locs hP hD hS => ?_)
    refine lv_pop hx hb dX10_shifts_128 rfl ?_
    refine lv_iload hx hb dX10_shifts_129 (lv_at hl 1 rfl) ?_
    exact zz_iret hx hb hr hlocks (zz_some2 hm) hP hK hD hS dX10_shifts_131
  have J75 : ∀ (k37 : Int32 → Int32 → Int32 → zz_M → Option (Int32 × zz_M)) (K37 : ∀ (v4 : Int32) (v5 : Int32) (v6 : Int32) (z : zz_M), k37 v4 v5 v6 z = some (r, zt) → G 37 [(0, .ref (a 0)), (4, .int v4), (5, .int v5), (6, .int v6)] [] z) (v4 : Int32) (v5 : Int32) (v6 : Int32) (z : zz_M), mX10_shifts_b75 k37 v4 v5 v6 z = some (r, zt) → G 75 [(0, .ref (a 0)), (4, .int v4), (5, .int v5), (6, .int v6)] [] z := by
    intro k37 K37 v4 v5 v6 z hm
    rw [mX10_shifts_b75] at hm
    rw [hG]
    intro H locs ls hP hD hS hl
    obtain ⟨n9, en9⟩ : ∃ q : Int32, q = v6 + (-1 : Int32) := ⟨_, rfl⟩
    replace hm := zz_nm_some en9 hm
    refine lv_iinc (v := n9) (lv' := [(6, .int n9), (0, .ref (a 0)), (4, .int v4), (5, .int v5)]) hx hb dX10_shifts_75 hl (k := 3) rfl (by rw [en9]; rfl) (by decide) rfl (fun ls hl => ?_)
    refine lv_goto (tgt := 37) hx hb dX10_shifts_78 (by decide) ?_
    have j := K37 v4 v5 n9 z hm
    rw [hG] at j
    exact j H locs ls hP hD hS (lv_sub hl [1, 2, 3, 0] rfl)
  have J37 : ∀ (n : Nat) (v4 : Int32) (v5 : Int32) (v6 : Int32) (z : zz_M), mX10_shifts_b37 n v4 v5 v6 z = some (r, zt) → G 37 [(0, .ref (a 0)), (4, .int v4), (5, .int v5), (6, .int v6)] [] z := by
    intro n
    induction n with
    | zero =>
      intro v4 v5 v6 z hm
      exact zz_none hm
    | succ n ih =>
      intro v4 v5 v6 z hm
      rw [mX10_shifts_b37] at hm
      rw [hG]
      intro H locs ls hP hD hS hl
      refine lv_iload hx hb dX10_shifts_37 (lv_at hl 3 rfl) ?_
      refine lv_if_lt (tgt := 81) hx hb dX10_shifts_39 (by decide) (fun c10 => ?_) (fun c10 => ?_)
      · replace hm := zz_pos c10 hm
        refine lv_aload_n hx hb dX10_shifts_81 rfl (lv_at hl 0 rfl) ?_
        refine va_get (D := D) (ci := 10) (v := .ref (a 99)) (C := RX10) (T := TX10) (N := 7) hx hb hts nX10_shifts_X10 hown hK hP 0 (wC_0 y a z) rfl 6 (by decide) (hts (.fieldLink RX10 47 "WorksDesk" "lastRow" "LWorksDesk$Row;") (List.mem_of_getElem? (i := 5) rfl)) (fun _ h9 => h9) rfl dX10_shifts_82 ?_
        refine lv_iload hx hb dX10_shifts_85 (lv_at hl 1 rfl) ?_
        refine lv_i2l hx hb dX10_shifts_87 rfl ?_
        obtain ⟨r11, z13, h12, hm⟩ := zz_b2_some hm
        refine zz_callr (zz_runV (w := wC y a) (As := [.long v4.toInt64]) (rest := []) ⟨hx, hb, hml, hown, hts⟩ (zX5_start l D y a H.size v4.toInt64 z h12) (cwV 1 hts gX10_shifts_X5_start rfl rfl rfl zdX5_start ⟨Nat.le_of_ble_eq_true rfl, Nat.le_of_ble_eq_true rfl⟩) hK hN hg hP hD hS hA 99 (wC_99 y a z) rfl rfl hl.1 rfl (Nat.le_of_ble_eq_true rfl) dX10_shifts_88 ⟨Nat.le_of_ble_eq_true rfl, Nat.le_of_ble_eq_true rfl⟩) hD hS hA (fun H locs hP hD hS => ?_)
        refine lv_iload hx hb dX10_shifts_91 (lv_at hl 1 rfl) ?_
        refine lv_iconst (v := (-1 : Int32)) hx hb dX10_shifts_93 (by decide) ?_
        refine lv_icmp_ne (tgt := 101) hx hb dX10_shifts_94 (by decide) (fun c14 => ?_) (fun c14 => ?_)
        · replace hm := zz_neg c14 hm
          refine lv_aload_n hx hb dX10_shifts_101 rfl (lv_at hl 0 rfl) ?_
          refine lv_bipush (v := (7 : Int32)) hx hb dX10_shifts_102 (by decide) ?_
          refine lv_iload hx hb dX10_shifts_104 (lv_at hl 1 rfl) ?_
          obtain ⟨r15, h16, hm⟩ := zz_b1_some hm
          refine zz_calll (zz_runV (w := wC y a) (As := [.int (7 : Int32), .int v4]) (rest := [.ref (a 99)]) ⟨hx, hb, hml, hown, hts⟩ (zX10_moreAsIf l D y a H.size (7 : Int32) v4 z13 h16) (cwV 2 hts gX10_shifts_X10_moreAsIf rfl rfl rfl zdX10_moreAsIf ⟨Nat.le_of_ble_eq_true rfl, Nat.le_of_ble_eq_true rfl⟩) hK hN hg hP hD hS hA 0 (wC_0 y a z13) rfl rfl hl.1 rfl (Nat.le_of_ble_eq_true rfl) dX10_shifts_106 ⟨Nat.le_of_ble_eq_true rfl, Nat.le_of_ble_eq_true rfl⟩) hD hS hA (fun H locs hP hD hS => ?_)
          have j := J109 v5 r15 z13 hm
          rw [hG] at j
          exact j H locs ls hP hD hS (lv_sub hl [0, 2] rfl)
        · replace hm := zz_pos c14 hm
          refine lv_lconst (v := (0 : Int64)) hx hb dX10_shifts_97 (by decide) ?_
          refine lv_goto (tgt := 109) hx hb dX10_shifts_98 (by decide) ?_
          have j := J109 v5 (0 : Int64) z13 hm
          rw [hG] at j
          exact j H locs ls hP hD hS (lv_sub hl [0, 2] rfl)
      · replace hm := zz_neg c10 hm
        refine lv_aload_n hx hb dX10_shifts_42 rfl (lv_at hl 0 rfl) ?_
        refine va_get (D := D) (ci := 10) (v := .ref (a 81)) (C := RX10) (T := TX10) (N := 7) hx hb hts nX10_shifts_X10 hown hK hP 0 (wC_0 y a z) rfl 4 (by decide) (hts (.fieldLink RX10 37 "WorksDesk" "asIf" "LWorksDesk$Figures;") (List.mem_of_getElem? (i := 3) rfl)) (fun _ h9 => h9) rfl dX10_shifts_43 ?_
        refine lv_bipush (v := (7 : Int32)) hx hb dX10_shifts_46 (by decide) ?_
        refine lv_iload hx hb dX10_shifts_48 (lv_at hl 3 rfl) ?_
        obtain ⟨r17, h18, hm⟩ := zz_b1_some hm
        refine zz_calll (zz_runV (w := wC y a) (As := [.int (7 : Int32), .int v6]) (rest := []) ⟨hx, hb, hml, hown, hts⟩ (zX4_of l D y a H.size 81 (7 : Int32) v6 (Or.inr rfl) z h18) (cwV 2 hts gX10_shifts_X4_of rfl rfl rfl zdX4_of ⟨Nat.le_of_ble_eq_true rfl, Nat.le_of_ble_eq_true rfl⟩) hK hN hg hP hD hS hA 81 (wC_fig y a z 81 (Or.inr rfl)) rfl rfl hl.1 rfl (Nat.le_of_ble_eq_true rfl) dX10_shifts_50 ⟨Nat.le_of_ble_eq_true rfl, Nat.le_of_ble_eq_true rfl⟩) hD hS hA (fun H locs hP hD hS => ?_)
        refine lv_aload_n hx hb dX10_shifts_53 rfl (lv_at hl 0 rfl) ?_
        refine va_get (D := D) (ci := 10) (v := .ref (a 64)) (C := RX10) (T := TX10) (N := 7) hx hb hts nX10_shifts_X10 hown hK hP 0 (wC_0 y a z) rfl 3 (by decide) (hts (.fieldLink RX10 33 "WorksDesk" "real" "LWorksDesk$Figures;") (List.mem_of_getElem? (i := 4) rfl)) (fun _ h9 => h9) rfl dX10_shifts_54 ?_
        refine lv_bipush (v := (7 : Int32)) hx hb dX10_shifts_57 (by decide) ?_
        refine lv_iload hx hb dX10_shifts_59 (lv_at hl 3 rfl) ?_
        obtain ⟨r19, h20, hm⟩ := zz_b1_some hm
        refine zz_calll (zz_runV (w := wC y a) (As := [.int (7 : Int32), .int v6]) (rest := [.long r17]) ⟨hx, hb, hml, hown, hts⟩ (zX4_of l D y a H.size 64 (7 : Int32) v6 (Or.inl rfl) z h20) (cwV 2 hts gX10_shifts_X4_of rfl rfl rfl zdX4_of ⟨Nat.le_of_ble_eq_true rfl, Nat.le_of_ble_eq_true rfl⟩) hK hN hg hP hD hS hA 64 (wC_fig y a z 64 (Or.inl rfl)) rfl rfl hl.1 rfl (Nat.le_of_ble_eq_true rfl) dX10_shifts_61 ⟨Nat.le_of_ble_eq_true rfl, Nat.le_of_ble_eq_true rfl⟩) hD hS hA (fun H locs hP hD hS => ?_)
        refine W.lcmp hx hb dX10_shifts_64 ?_
        refine lv_if_eq (tgt := 75) hx hb dX10_shifts_65 (by decide) (fun c21 => ?_) (fun c21 => ?_)
        · replace hm := zz_pos c21 hm
          have j := J75 (mX10_shifts_b37 n) ih v4 v5 v6 z hm
          rw [hG] at j
          exact j H locs ls hP hD hS (lv_sub hl [0, 1, 2, 3] rfl)
        · replace hm := zz_neg c21 hm
          refine lv_iload hx hb dX10_shifts_68 (lv_at hl 3 rfl) ?_
          refine lv_istore (lv' := [(4, .int v6), (0, .ref (a 0)), (5, .int v5), (6, .int v6)]) hx hb dX10_shifts_70 hl (by decide) rfl (fun ls hl => ?_)
          obtain ⟨n22, en22⟩ : ∃ q : Int32, q = v5 + (1 : Int32) := ⟨_, rfl⟩
          replace hm := zz_nm_some en22 hm
          refine lv_iinc (v := n22) (lv' := [(5, .int n22), (4, .int v6), (0, .ref (a 0)), (6, .int v6)]) hx hb dX10_shifts_72 hl (k := 2) rfl (by rw [en22]; rfl) (by decide) rfl (fun ls hl => ?_)
          have j := J75 (mX10_shifts_b37 n) ih v6 n22 v6 z hm
          rw [hG] at j
          exact j H locs ls hP hD hS (lv_sub hl [2, 1, 0, 3] rfl)
  rw [hG]
  intro H locs ls hP hD hS hl
  unfold mX10_shifts at hm
  refine lv_aload_n hx hb dX10_shifts_0 rfl (lv_at hl 0 rfl) ?_
  refine lv_iload_n hx hb dX10_shifts_1 rfl (lv_at hl 1 rfl) ?_
  refine lv_iload_n hx hb dX10_shifts_2 rfl (lv_at hl 2 rfl) ?_
  refine lv_iload_n hx hb dX10_shifts_3 rfl (lv_at hl 3 rfl) ?_
  obtain ⟨r23, h24, hm⟩ := zz_b1_some hm
  refine zz_calli (zz_runV (w := wC y a) (As := [.int x1, .int x2, .int x3]) (rest := []) ⟨hx, hb, hml, hown, hts⟩ (zX10_isMeasure l D y a H.size x1 x2 x3 z h24) (cwV 3 hts gX10_shifts_X10_isMeasure rfl rfl rfl zdX10_isMeasure ⟨Nat.le_of_ble_eq_true rfl, Nat.le_of_ble_eq_true rfl⟩) hK hN hg hP hD hS hA 0 (wC_0 y a z) rfl rfl hl.1 rfl (Nat.le_of_ble_eq_true rfl) dX10_shifts_4 ⟨Nat.le_of_ble_eq_true rfl, Nat.le_of_ble_eq_true rfl⟩) hD hS hA (fun H locs hP hD hS => ?_)
  refine lv_if_ne (tgt := 12) hx hb dX10_shifts_7 (by decide) (fun c25 => ?_) (fun c25 => ?_)
  · replace hm := zz_neg c25 hm
    refine lv_aload_n hx hb dX10_shifts_12 rfl (lv_at hl 0 rfl) ?_
    refine lv_aload_n hx hb dX10_shifts_13 rfl (lv_at hl 0 rfl) ?_
    refine va_get (D := D) (ci := 10) (v := .ref (a 8)) (C := RX10) (T := TX10) (N := 7) hx hb hts nX10_shifts_X10 hown hK hP 0 (wC_0 y a z) rfl 2 (by decide) (hts (.fieldLink RX10 26 "WorksDesk" "book" "LWorksDesk$Book;") (List.mem_of_getElem? (i := 1) rfl)) (fun _ h9 => h9) rfl dX10_shifts_14 ?_
    refine va_get (D := D) (ci := 2) (v := .ref (a 15)) (C := RX2) (T := TX2) (N := 12) hx hb hts nX10_shifts_X2 hown hK hP 8 (wC_8 y a z) rfl 2 (by decide) (hts (.fieldLink RX10 96 "WorksDesk$Book" "measured" "[LWorksDesk$Series;") (List.mem_of_getElem? (i := 2) rfl)) (fun _ h9 => h9) rfl dX10_shifts_17 ?_
    refine lv_iload_n hx hb dX10_shifts_20 rfl (lv_at hl 2 rfl) ?_
    obtain ⟨c26, hm⟩ := zz_ck_some hm
    refine va_aldq (C := RX6) hx hb hK hP 15 3 (wC_15 y a z) rfl c26 dX10_shifts_21 ?_
    refine W.eq (g2 := F0 m 22 ls [.ref (a (16 + 3 * x2.toNatClampNeg)), .ref (a 0)]) rfl ?_
    refine lv_iload_n hx hb dX10_shifts_22 rfl (lv_at hl 1 rfl) ?_
    refine lv_iload_n hx hb dX10_shifts_23 rfl (lv_at hl 3 rfl) ?_
    obtain ⟨r27, z29, h28, hm⟩ := zz_b2_some hm
    refine zz_callv (zz_runV (w := wC y a) (As := [.ref (a (16 + 3 * x2.toNatClampNeg)), .int x1, .int x3]) (rest := []) ⟨hx, hb, hml, hown, hts⟩ (zX10_reckonAsIfTold l D y a H.size x2.toNatClampNeg x1 x3 (zz_lt c26 (by decide)) z h28) (cwV 3 hts gX10_shifts_X10_reckonAsIfTold rfl rfl rfl zdX10_reckonAsIfTold ⟨Nat.le_of_ble_eq_true rfl, Nat.le_of_ble_eq_true rfl⟩) hK hN hg hP hD hS hA 0 (wC_0 y a z) rfl rfl hl.1 rfl (Nat.le_of_ble_eq_true rfl) dX10_shifts_24 ⟨Nat.le_of_ble_eq_true rfl, Nat.le_of_ble_eq_true rfl⟩) hD hS hA (fun H locs hP hD hS => ?_)
    refine lv_iconst (v := (-1 : Int32)) hx hb dX10_shifts_27 (by decide) ?_
    refine lv_istore (lv' := [(4, .int (-1 : Int32)), (0, .ref (a 0)), (1, .int x1), (2, .int x2), (3, .int x3)]) hx hb dX10_shifts_28 hl (by decide) rfl (fun ls hl => ?_)
    refine lv_iconst (v := (0 : Int32)) hx hb dX10_shifts_30 (by decide) ?_
    refine lv_istore (lv' := [(5, .int (0 : Int32)), (4, .int (-1 : Int32)), (0, .ref (a 0)), (1, .int x1), (2, .int x2), (3, .int x3)]) hx hb dX10_shifts_31 hl (by decide) rfl (fun ls hl => ?_)
    refine lv_bipush (v := (23 : Int32)) hx hb dX10_shifts_33 (by decide) ?_
    refine lv_istore (lv' := [(6, .int (23 : Int32)), (5, .int (0 : Int32)), (4, .int (-1 : Int32)), (0, .ref (a 0)), (1, .int x1), (2, .int x2), (3, .int x3)]) hx hb dX10_shifts_35 hl (by decide) rfl (fun ls hl => ?_)
    have j := J37 zz_N (-1 : Int32) (0 : Int32) (23 : Int32) z29 hm
    rw [hG] at j
    exact j H locs ls hP hD hS (lv_sub hl [3, 2, 1, 0] rfl)
  · replace hm := zz_pos c25 hm
    refine lv_iconst (v := (-1 : Int32)) hx hb dX10_shifts_10 (by decide) ?_
    exact zz_iret hx hb hr hlocks (zz_some2 hm) hP hK hD hS dX10_shifts_11
def mX9_append_b14 : Nat → Int32 → Int32 → zz_M → Option (Int32 × zz_M)
  | 0, _, _, _ => none
  | n + 1, v1, v2, z => if v2 < (0 : Int32) then (some ((1 : Int32), z)) else (zz_ck (zz_in (z.2.2.1 65) 120) (zz_nm (zz_wI z 2 (z.2.2.1 65) (((v1.toUInt32 >>> (v2.toUInt32 &&& Int32.toUInt32 31)).toInt32) &&& (255 : Int32))) (fun z3 => zz_nm (zz_sF z3 65 ((z3.2.2.1 65) + (1 : Int32))) (fun z4 => zz_nm (v2 + (-8 : Int32)) (fun n5 => (mX9_append_b14 n) v1 n5 z4)))))
def mX9_append (x1 : Int32) (z : zz_M) : Option (Int32 × zz_M) := if (z.2.2.1 65) ≤ (116 : Int32) then (mX9_append_b14 zz_N x1 (24 : Int32) z) else (some ((0 : Int32), z))
theorem nX9_append_X9 : ∀ w ∈ wsX90, w ∈ wsX9_append := fun _ h => List.mem_cons_of_mem _ (List.mem_append_right _ (h))
theorem zdX9_append : yX9_append.cls = RX9 ∧ yX9_append.cls ≠ "java/lang/invoke/MethodHandle" ∧ yX9_append.cls ≠ "java/lang/invoke/VarHandle" ∧ (parseMethodDescriptor yX9_append.desc).map (fun d => d.parameters.length) = some 1 := by decide +kernel
set_option maxHeartbeats 4000000 in
set_option maxRecDepth 100000 in
theorem zX9_append (l : Launch) (D : va_G) (y : Nat → ClassId) (a : Nat → Nat) (sz : Nat) (x1 : Int32) (z : zz_M) {r : Int32} {zt : zz_M} (hm : mX9_append x1 z = some (r, zt)) : Met l yX9_append wsX9_append { frames := 0, cells := 0, slots := 0, locals := 0 } (zz_Pc D y (wC y a z) sz [.ref (a 1), .int x1]) (zz_Qi D y (wC y a) (va_A (wC y a z) sz) r zt) 0 0 (va_A (wC y a z) sz) := by
  refine Met.ofW (cc := cX9_append) (maxL := 3) (ret := (some .boolean)) (by decide) rfl ?_
  intro p e s m args below meth c s₁ B hml hv
  obtain ⟨rfl, hsz, hP, hK, hD0, hN, hg⟩ := hv
  have hx := B.exec
  have hb := B.bytes
  have hr := B.returns
  have hts := atoms_spec (ws := wsX9_append) B.pre
  have hown : s.vm.findClass RX9 = some m.cls := findClass_of_methodNamed B.named
  have hlocks := B.notSynchronized
  clear B
  subst hsz
  have hD := hD0.self (sz := s.heap.size)
  generalize hAe : va_A (wC y a z) s.heap.size = A at hD hg ⊢
  have hA : ∀ q : Nat, s.heap.size ≤ q → A q := fun q h => by rw [← hAe]; exact Or.inr h
  clear hAe hD0
  have hl := lv_entry ([.ref (a 1), .int x1]) (n := 3) (Nat.le_of_ble_eq_true rfl)
  rw [lg_entry_eq]
  generalize (lg_sl ([.ref (a 1), .int x1]) ++ List.replicate (3 - (lg_sl ([.ref (a 1), .int x1])).length) Slot.unset).toArray = ls at hl ⊢
  replace hl : lv_has ls 3 [(0, .ref (a 1)), (1, .int x1)] := hl
  refine zz_go (w := wC y a) hP hD va_S.rf hl (fun G hG => ?_)
  clear hP hD hl ls
  have J14 : ∀ (n : Nat) (v1 : Int32) (v2 : Int32) (z : zz_M), mX9_append_b14 n v1 v2 z = some (r, zt) → G 14 [(0, .ref (a 1)), (1, .int v1), (2, .int v2)] [] z := by
    intro n
    induction n with
    | zero =>
      intro v1 v2 z hm
      exact zz_none hm
    | succ n ih =>
      intro v1 v2 z hm
      rw [mX9_append_b14] at hm
      rw [hG]
      intro H locs ls hP hD hS hl
      refine lv_iload_n hx hb dX9_append_14 rfl (lv_at hl 2 rfl) ?_
      refine lv_if_lt (tgt := 50) hx hb dX9_append_15 (by decide) (fun c1 => ?_) (fun c1 => ?_)
      · replace hm := zz_pos c1 hm
        refine lv_iconst (v := (1 : Int32)) hx hb dX9_append_50 (by decide) ?_
        exact zz_zret hx hb hr hlocks (by decide) (zz_some2 hm) hP hK hD hS dX9_append_51
      · replace hm := zz_neg c1 hm
        refine lv_aload_n hx hb dX9_append_18 rfl (lv_at hl 0 rfl) ?_
        refine va_get (D := D) (ci := 9) (v := .ref (a 2)) (C := RX9) (T := TX9) (N := 2) hx hb hts nX9_append_X9 hown hK hP 1 (wC_1 y a z) rfl 0 (by decide) (hts (.fieldLink RX9 9 "WorksDesk$Text" "signs" "[I") (List.mem_of_getElem? (i := 2) rfl)) (fun _ h9 => h9) rfl dX9_append_19 ?_
        refine lv_aload_n hx hb dX9_append_22 rfl (lv_at hl 0 rfl) ?_
        refine va_get (D := D) (ci := 9) (v := .int (z.2.2.1 65)) (C := RX9) (T := TX9) (N := 2) hx hb hts nX9_append_X9 hown hK hP 1 (wC_1 y a z) rfl 1 (by decide) (hts (.fieldLink RX9 15 "WorksDesk$Text" "size" "I") (List.mem_of_getElem? (i := 1) rfl)) (fun _ h9 => h9) rfl dX9_append_23 ?_
        refine lv_iload_n hx hb dX9_append_26 rfl (lv_at hl 1 rfl) ?_
        refine lv_iload_n hx hb dX9_append_27 rfl (lv_at hl 2 rfl) ?_
        refine lv_iushr hx hb dX9_append_28 rfl ?_
        refine lv_sipush (v := (255 : Int32)) hx hb dX9_append_29 (by decide) ?_
        refine lv_iand hx hb dX9_append_32 ?_
        obtain ⟨c2, hm⟩ := zz_ck_some hm
        refine va_iast hx hb hK hP hD hS 2 0 (wC_2 y a z) rfl c2 dX9_append_33 (fun H locs hP hD hS => ?_)
        obtain ⟨z3, hP, hD, hm⟩ := zz_up (w := wC y a) (wC_w2 y a z (z.2.2.1 65) (((v1.toUInt32 >>> (v2.toUInt32 &&& Int32.toUInt32 31)).toInt32) &&& (255 : Int32))) hP hD hm
        refine lv_aload_n hx hb dX9_append_34 rfl (lv_at hl 0 rfl) ?_
        refine lv_dup hx hb dX9_append_35 rfl ?_
        refine va_get (D := D) (ci := 9) (v := .int (z3.2.2.1 65)) (C := RX9) (T := TX9) (N := 2) hx hb hts nX9_append_X9 hown hK hP 1 (wC_1 y a z3) rfl 1 (by decide) (hts (.fieldLink RX9 15 "WorksDesk$Text" "size" "I") (List.mem_of_getElem? (i := 1) rfl)) (fun _ h9 => h9) rfl dX9_append_36 ?_
        refine lv_iconst (v := (1 : Int32)) hx hb dX9_append_39 (by decide) ?_
        refine lv_iadd hx hb dX9_append_40 ?_
        refine va_put (D := D) (ci := 9) (v := .int ((z3.2.2.1 65) + (1 : Int32))) (ty := .int) (C := RX9) (T := TX9) (N := 2) hx hb hts nX9_append_X9 tyX9 tyX9_ok nmX9 hown hK hP hD hS 1 (wC_1 y a z3) rfl 1 (by decide) (hts (.fieldLink RX9 15 "WorksDesk$Text" "size" "I") (List.mem_of_getElem? (i := 1) rfl)) (fun _ h9 => h9) rfl (tyX9_ok 1 (by decide)) rfl rfl (Nat.le_of_ble_eq_true rfl) dX9_append_41 (fun H locs hP hD hS => ?_)
        obtain ⟨z4, hP, hD, hm⟩ := zz_up (w := wC y a) (wC_f1_1 y a z3 ((z3.2.2.1 65) + (1 : Int32))) hP hD hm
        obtain ⟨n5, en5⟩ : ∃ q : Int32, q = v2 + (-8 : Int32) := ⟨_, rfl⟩
        replace hm := zz_nm_some en5 hm
        refine lv_iinc (v := n5) (lv' := [(2, .int n5), (0, .ref (a 1)), (1, .int v1)]) hx hb dX9_append_44 hl (k := 2) rfl (by rw [en5]; rfl) (by decide) rfl (fun ls hl => ?_)
        refine lv_goto (tgt := 14) hx hb dX9_append_47 (by decide) ?_
        have j := ih v1 n5 z4 hm
        rw [hG] at j
        exact j H locs ls hP hD hS (lv_sub hl [1, 2, 0] rfl)
  rw [hG]
  intro H locs ls hP hD hS hl
  unfold mX9_append at hm
  refine lv_aload_n hx hb dX9_append_0 rfl (lv_at hl 0 rfl) ?_
  refine va_get (D := D) (ci := 9) (v := .int (z.2.2.1 65)) (C := RX9) (T := TX9) (N := 2) hx hb hts nX9_append_X9 hown hK hP 1 (wC_1 y a z) rfl 1 (by decide) (hts (.fieldLink RX9 15 "WorksDesk$Text" "size" "I") (List.mem_of_getElem? (i := 1) rfl)) (fun _ h9 => h9) rfl dX9_append_1 ?_
  refine lv_bipush (v := (116 : Int32)) hx hb dX9_append_4 (by decide) ?_
  refine lv_icmp_le (tgt := 11) hx hb dX9_append_6 (by decide) (fun c6 => ?_) (fun c6 => ?_)
  · replace hm := zz_pos c6 hm
    refine lv_bipush (v := (24 : Int32)) hx hb dX9_append_11 (by decide) ?_
    refine lv_istore_n (lv' := [(2, .int (24 : Int32)), (0, .ref (a 1)), (1, .int x1)]) hx hb dX9_append_13 rfl hl (by decide) rfl (fun ls hl => ?_)
    have j := J14 zz_N x1 (24 : Int32) z hm
    rw [hG] at j
    exact j H locs ls hP hD hS (lv_sub hl [1, 2, 0] rfl)
  · replace hm := zz_neg c6 hm
    refine lv_iconst (v := (0 : Int32)) hx hb dX9_append_9 (by decide) ?_
    exact zz_zret hx hb hr hlocks (by decide) (zz_some2 hm) hP hK hD hS dX9_append_10
def mX10_sign_b22 (t0 : Int32) (z : zz_M) : Option (Int32 × zz_M) := some (t0, z)
def mX10_sign (x1 : Int32) (z : zz_M) : Option (Int32 × zz_M) := zz_b2 (mX9_append x1 z) (fun r1 z3 => if r1 = (0 : Int32) then (mX10_sign_b22 (-1 : Int32) z3) else (mX10_sign_b22 (z3.2.2.1 65) z3))
theorem nX10_sign_X10 : ∀ w ∈ wsX100, w ∈ wsX10_sign := fun _ h => List.mem_cons_of_mem _ (List.mem_append_left _ (List.mem_append_right _ (h)))
theorem nX10_sign_X9 : ∀ w ∈ wsX90, w ∈ wsX10_sign := fun _ h => List.mem_cons_of_mem _ (List.mem_append_right _ (h))
theorem zdX10_sign : yX10_sign.cls = RX10 ∧ yX10_sign.cls ≠ "java/lang/invoke/MethodHandle" ∧ yX10_sign.cls ≠ "java/lang/invoke/VarHandle" ∧ (parseMethodDescriptor yX10_sign.desc).map (fun d => d.parameters.length) = some 1 := by decide +kernel
set_option maxHeartbeats 4000000 in
set_option maxRecDepth 100000 in
theorem zX10_sign (l : Launch) (D : va_G) (y : Nat → ClassId) (a : Nat → Nat) (sz : Nat) (x1 : Int32) (z : zz_M) {r : Int32} {zt : zz_M} (hm : mX10_sign x1 z = some (r, zt)) : Met l yX10_sign wsX10_sign { frames := 1, cells := 0, slots := 0, locals := 22 } (zz_Pc D y (wC y a z) sz [.ref (a 0), .int x1]) (zz_Qi D y (wC y a) (va_A (wC y a z) sz) r zt) 0 0 (va_A (wC y a z) sz) := by
  refine Met.ofW (cc := cX10_sign) (maxL := 2) (ret := (some .int)) (by decide) rfl ?_
  intro p e s m args below meth c s₁ B hml hv
  obtain ⟨rfl, hsz, hP, hK, hD0, hN, hg⟩ := hv
  have hx := B.exec
  have hb := B.bytes
  have hr := B.returns
  have hts := atoms_spec (ws := wsX10_sign) B.pre
  have hown : s.vm.findClass RX10 = some m.cls := findClass_of_methodNamed B.named
  have hlocks := B.notSynchronized
  clear B
  subst hsz
  have hD := hD0.self (sz := s.heap.size)
  generalize hAe : va_A (wC y a z) s.heap.size = A at hD hg ⊢
  have hA : ∀ q : Nat, s.heap.size ≤ q → A q := fun q h => by rw [← hAe]; exact Or.inr h
  clear hAe hD0
  have hl := lv_entry ([.ref (a 0), .int x1]) (n := 2) (Nat.le_of_ble_eq_true rfl)
  rw [lg_entry_eq]
  generalize (lg_sl ([.ref (a 0), .int x1]) ++ List.replicate (2 - (lg_sl ([.ref (a 0), .int x1])).length) Slot.unset).toArray = ls at hl ⊢
  replace hl : lv_has ls 2 [(0, .ref (a 0)), (1, .int x1)] := hl
  refine zz_go (w := wC y a) hP hD va_S.rf hl (fun G hG => ?_)
  clear hP hD hl ls
  have J22 : ∀ (t0 : Int32) (z : zz_M), mX10_sign_b22 t0 z = some (r, zt) → G 22 [] [.int t0] z := by
    intro t0 z hm
    rw [mX10_sign_b22] at hm
    rw [hG]
    intro H locs ls hP hD hS hl
    exact zz_iret hx hb hr hlocks (zz_some2 hm) hP hK hD hS dX10_sign_22
  rw [hG]
  intro H locs ls hP hD hS hl
  unfold mX10_sign at hm
  refine lv_aload_n hx hb dX10_sign_0 rfl (lv_at hl 0 rfl) ?_
  refine va_get (D := D) (ci := 10) (v := .ref (a 1)) (C := RX10) (T := TX10) (N := 7) hx hb hts nX10_sign_X10 hown hK hP 0 (wC_0 y a z) rfl 0 (by decide) (hts (.fieldLink RX10 12 "WorksDesk" "text" "LWorksDesk$Text;") (List.mem_of_getElem? (i := 1) rfl)) (fun _ h9 => h9) rfl dX10_sign_1 ?_
  refine lv_iload_n hx hb dX10_sign_4 rfl (lv_at hl 1 rfl) ?_
  obtain ⟨r1, z3, h2, hm⟩ := zz_b2_some hm
  refine zz_calli (zz_runV (w := wC y a) (As := [.int x1]) (rest := []) ⟨hx, hb, hml, hown, hts⟩ (zX9_append l D y a H.size x1 z h2) (cwV 1 hts gX10_sign_X9_append rfl rfl rfl zdX9_append ⟨Nat.le_of_ble_eq_true rfl, Nat.le_of_ble_eq_true rfl⟩) hK hN hg hP hD hS hA 1 (wC_1 y a z) rfl rfl hl.1 rfl (Nat.le_of_ble_eq_true rfl) dX10_sign_5 ⟨Nat.le_of_ble_eq_true rfl, Nat.le_of_ble_eq_true rfl⟩) hD hS hA (fun H locs hP hD hS => ?_)
  refine lv_if_eq (tgt := 21) hx hb dX10_sign_8 (by decide) (fun c4 => ?_) (fun c4 => ?_)
  · replace hm := zz_pos c4 hm
    refine lv_iconst (v := (-1 : Int32)) hx hb dX10_sign_21 (by decide) ?_
    have j := J22 (-1 : Int32) z3 hm
    rw [hG] at j
    exact j H locs ls hP hD hS (lv_sub hl [] rfl)
  · replace hm := zz_neg c4 hm
    refine lv_aload_n hx hb dX10_sign_11 rfl (lv_at hl 0 rfl) ?_
    refine va_get (D := D) (ci := 10) (v := .ref (a 1)) (C := RX10) (T := TX10) (N := 7) hx hb hts nX10_sign_X10 hown hK hP 0 (wC_0 y a z3) rfl 0 (by decide) (hts (.fieldLink RX10 12 "WorksDesk" "text" "LWorksDesk$Text;") (List.mem_of_getElem? (i := 1) rfl)) (fun _ h9 => h9) rfl dX10_sign_12 ?_
    refine va_get (D := D) (ci := 9) (v := .int (z3.2.2.1 65)) (C := RX9) (T := TX9) (N := 2) hx hb hts nX10_sign_X9 hown hK hP 1 (wC_1 y a z3) rfl 1 (by decide) (hts (.fieldLink RX10 55 "WorksDesk$Text" "size" "I") (List.mem_of_getElem? (i := 2) rfl)) (fun _ h9 => h9) rfl dX10_sign_15 ?_
    refine lv_goto (tgt := 22) hx hb dX10_sign_18 (by decide) ?_
    have j := J22 (z3.2.2.1 65) z3 hm
    rw [hG] at j
    exact j H locs ls hP hD hS (lv_sub hl [] rfl)
def mX10_stores_b17 (z : zz_M) : Option (Int32 × zz_M) := some ((-1 : Int32), z)
def mX10_stores (x1 : Int32) (x2 : Int32) (z : zz_M) : Option (Int32 × zz_M) := zz_b1 (mX10_isMonth x1) (fun r1 => if r1 = (0 : Int32) then (mX10_stores_b17 z) else (zz_b1 (mX10_isWithin x2 (0 : Int32) (99999 : Int32)) (fun r4 => if r4 = (0 : Int32) then (mX10_stores_b17 z) else (zz_b2 (mX10_tellAnew 10 x1 x2 z) (fun r7 z9 => some (r7, z9))))))
theorem nX10_stores_X10 : ∀ w ∈ wsX100, w ∈ wsX10_stores := fun _ h => List.mem_cons_of_mem _ (List.mem_append_left _ (List.mem_append_left _ (List.mem_append_right _ (h))))
theorem nX10_stores_X2 : ∀ w ∈ wsX20, w ∈ wsX10_stores := fun _ h => List.mem_cons_of_mem _ (List.mem_append_left _ (List.mem_append_right _ (h)))
theorem zdX10_stores : yX10_stores.cls = RX10 ∧ yX10_stores.cls ≠ "java/lang/invoke/MethodHandle" ∧ yX10_stores.cls ≠ "java/lang/invoke/VarHandle" ∧ (parseMethodDescriptor yX10_stores.desc).map (fun d => d.parameters.length) = some 2 := by decide +kernel
set_option maxHeartbeats 4000000 in
set_option maxRecDepth 100000 in
theorem zX10_stores (l : Launch) (D : va_G) (y : Nat → ClassId) (a : Nat → Nat) (sz : Nat) (x1 : Int32) (x2 : Int32) (z : zz_M) {r : Int32} {zt : zz_M} (hm : mX10_stores x1 x2 z = some (r, zt)) : Met l yX10_stores wsX10_stores { frames := 3, cells := 0, slots := 0, locals := 68 } (zz_Pc D y (wC y a z) sz [.ref (a 0), .int x1, .int x2]) (zz_Qi D y (wC y a) (va_A (wC y a z) sz) r zt) 0 0 (va_A (wC y a z) sz) := by
  refine Met.ofW (cc := cX10_stores) (maxL := 3) (ret := (some .int)) (by decide) rfl ?_
  intro p e s m args below meth c s₁ B hml hv
  obtain ⟨rfl, hsz, hP, hK, hD0, hN, hg⟩ := hv
  have hx := B.exec
  have hb := B.bytes
  have hr := B.returns
  have hts := atoms_spec (ws := wsX10_stores) B.pre
  have hown : s.vm.findClass RX10 = some m.cls := findClass_of_methodNamed B.named
  have hlocks := B.notSynchronized
  clear B
  subst hsz
  have hD := hD0.self (sz := s.heap.size)
  generalize hAe : va_A (wC y a z) s.heap.size = A at hD hg ⊢
  have hA : ∀ q : Nat, s.heap.size ≤ q → A q := fun q h => by rw [← hAe]; exact Or.inr h
  clear hAe hD0
  have hl := lv_entry ([.ref (a 0), .int x1, .int x2]) (n := 3) (Nat.le_of_ble_eq_true rfl)
  rw [lg_entry_eq]
  generalize (lg_sl ([.ref (a 0), .int x1, .int x2]) ++ List.replicate (3 - (lg_sl ([.ref (a 0), .int x1, .int x2])).length) Slot.unset).toArray = ls at hl ⊢
  replace hl : lv_has ls 3 [(0, .ref (a 0)), (1, .int x1), (2, .int x2)] := hl
  refine zz_go (w := wC y a) hP hD va_S.rf hl (fun G hG => ?_)
  clear hP hD hl ls
  have J17 : ∀ (z : zz_M), mX10_stores_b17 z = some (r, zt) → G 17 [] [] z := by
    intro z hm
    rw [mX10_stores_b17] at hm
    rw [hG]
    intro H locs ls hP hD hS hl
    refine lv_iconst (v := (-1 : Int32)) hx hb dX10_stores_17 (by decide) ?_
    exact zz_iret hx hb hr hlocks (zz_some2 hm) hP hK hD hS dX10_stores_18
  rw [hG]
  intro H locs ls hP hD hS hl
  unfold mX10_stores at hm
  refine lv_iload_n hx hb dX10_stores_0 rfl (lv_at hl 1 rfl) ?_
  obtain ⟨r1, h2, hm⟩ := zz_b1_some hm
  refine zz_calli (zz_runS (w := wC y a) (As := [.int x1]) (rest := []) ⟨hx, hb, hml, hown, hts⟩ (zX10_isMonth l D y a H.size x1 z h2) (va_cwS 1 hts gX10_stores_X10_isMonth rfl rfl rfl zdX10_isMonth ⟨Nat.le_of_ble_eq_true rfl, Nat.le_of_ble_eq_true rfl⟩) hK hN hg hP hD hS hA rfl hl.1 rfl (Nat.le_of_ble_eq_true rfl) dX10_stores_1 ⟨Nat.le_of_ble_eq_true rfl, Nat.le_of_ble_eq_true rfl⟩) hD hS hA (fun H locs hP hD hS => ?_)
  refine lv_if_eq (tgt := 17) hx hb dX10_stores_4 (by decide) (fun c3 => ?_) (fun c3 => ?_)
  · replace hm := zz_pos c3 hm
    have j := J17 z hm
    rw [hG] at j
    exact j H locs ls hP hD hS (lv_sub hl [] rfl)
  · replace hm := zz_neg c3 hm
    refine lv_iload_n hx hb dX10_stores_7 rfl (lv_at hl 2 rfl) ?_
    refine lv_iconst (v := (0 : Int32)) hx hb dX10_stores_8 (by decide) ?_
    refine lv_ldc (v := (99999 : Int32)) hx hb hown (hts (.constant RX10 126 (99999)) (List.mem_of_getElem? (i := 1) rfl)) dX10_stores_9 ?_
    obtain ⟨r4, h5, hm⟩ := zz_b1_some hm
    refine zz_calli (zz_runS (w := wC y a) (As := [.int x2, .int (0 : Int32), .int (99999 : Int32)]) (rest := []) ⟨hx, hb, hml, hown, hts⟩ (zX10_isWithin l D y a H.size x2 (0 : Int32) (99999 : Int32) z h5) (va_cwS 3 hts gX10_stores_X10_isWithin rfl rfl rfl zdX10_isWithin ⟨Nat.le_of_ble_eq_true rfl, Nat.le_of_ble_eq_true rfl⟩) hK hN hg hP hD hS hA rfl hl.1 rfl (Nat.le_of_ble_eq_true rfl) dX10_stores_11 ⟨Nat.le_of_ble_eq_true rfl, Nat.le_of_ble_eq_true rfl⟩) hD hS hA (fun H locs hP hD hS => ?_)
    refine lv_if_ne (tgt := 19) hx hb dX10_stores_14 (by decide) (fun c6 => ?_) (fun c6 => ?_)
    · replace hm := zz_neg c6 hm
      refine lv_aload_n hx hb dX10_stores_19 rfl (lv_at hl 0 rfl) ?_
      refine va_get (D := D) (ci := 10) (v := .ref (a 8)) (C := RX10) (T := TX10) (N := 7) hx hb hts nX10_stores_X10 hown hK hP 0 (wC_0 y a z) rfl 2 (by decide) (hts (.fieldLink RX10 26 "WorksDesk" "book" "LWorksDesk$Book;") (List.mem_of_getElem? (i := 2) rfl)) (fun _ h9 => h9) rfl dX10_stores_20 ?_
      refine va_get (D := D) (ci := 2) (v := .ref (a 46)) (C := RX2) (T := TX2) (N := 12) hx hb hts nX10_stores_X2 hown hK hP 8 (wC_8 y a z) rfl 3 (by decide) (hts (.fieldLink RX10 130 "WorksDesk$Book" "stored" "LWorksDesk$Series;") (List.mem_of_getElem? (i := 3) rfl)) (fun _ h9 => h9) rfl dX10_stores_23 ?_
      refine lv_iload_n hx hb dX10_stores_26 rfl (lv_at hl 1 rfl) ?_
      refine lv_iload_n hx hb dX10_stores_27 rfl (lv_at hl 2 rfl) ?_
      obtain ⟨r7, z9, h8, hm⟩ := zz_b2_some hm
      refine zz_calli (zz_runS (w := wC y a) (As := [.ref (a 46), .int x1, .int x2]) (rest := []) ⟨hx, hb, hml, hown, hts⟩ (zX10_tellAnew l D y a H.size 10 x1 x2 (by decide) z h8) (va_cwS 3 hts gX10_stores_X10_tellAnew rfl rfl rfl zdX10_tellAnew ⟨Nat.le_of_ble_eq_true rfl, Nat.le_of_ble_eq_true rfl⟩) hK hN hg hP hD hS hA rfl hl.1 rfl (Nat.le_of_ble_eq_true rfl) dX10_stores_28 ⟨Nat.le_of_ble_eq_true rfl, Nat.le_of_ble_eq_true rfl⟩) hD hS hA (fun H locs hP hD hS => ?_)
      exact zz_iret hx hb hr hlocks (zz_some2 hm) hP hK hD hS dX10_stores_31
    · replace hm := zz_pos c6 hm
      have j := J17 z hm
      rw [hG] at j
      exact j H locs ls hP hD hS (lv_sub hl [] rfl)
def mX10_strikes_b21 (z : zz_M) : Option (Int32 × zz_M) := some ((-1 : Int32), z)
def mX10_strikes (x1 : Int32) (x2 : Int32) (z : zz_M) : Option (Int32 × zz_M) := zz_b1 (mX10_isMonth x1) (fun r1 => if r1 = (0 : Int32) then (mX10_strikes_b21 z) else (zz_b1 (mX0_has 9 x2 z) (fun r4 => if r4 = (0 : Int32) then (mX10_strikes_b21 z) else (zz_ck (zz_in x2 10) (zz_b1 (mX6_isTold x2.toNatClampNeg x1 z) (fun r8 => if r8 = (0 : Int32) then (some ((-2 : Int32), z)) else (zz_b2 (mX6_tell x2.toNatClampNeg x1 (-1 : Int32) z) (fun r11 z13 => zz_b1 (mX6_latest x2.toNatClampNeg x1 z13) (fun r14 => some (r14, z13))))))))))
theorem nX10_strikes_X10 : ∀ w ∈ wsX100, w ∈ wsX10_strikes := fun _ h => List.mem_cons_of_mem _ (List.mem_append_left _ (List.mem_append_left _ (List.mem_append_left _ (List.mem_append_right _ (h)))))
theorem nX10_strikes_X2 : ∀ w ∈ wsX20, w ∈ wsX10_strikes := fun _ h => List.mem_cons_of_mem _ (List.mem_append_left _ (List.mem_append_left _ (List.mem_append_right _ (h))))
theorem zdX10_strikes : yX10_strikes.cls = RX10 ∧ yX10_strikes.cls ≠ "java/lang/invoke/MethodHandle" ∧ yX10_strikes.cls ≠ "java/lang/invoke/VarHandle" ∧ (parseMethodDescriptor yX10_strikes.desc).map (fun d => d.parameters.length) = some 2 := by decide +kernel
set_option maxHeartbeats 4000000 in
set_option maxRecDepth 100000 in
theorem zX10_strikes (l : Launch) (D : va_G) (y : Nat → ClassId) (a : Nat → Nat) (sz : Nat) (x1 : Int32) (x2 : Int32) (z : zz_M) {r : Int32} {zt : zz_M} (hm : mX10_strikes x1 x2 z = some (r, zt)) : Met l yX10_strikes wsX10_strikes { frames := 2, cells := 0, slots := 0, locals := 45 } (zz_Pc D y (wC y a z) sz [.ref (a 0), .int x1, .int x2]) (zz_Qi D y (wC y a) (va_A (wC y a z) sz) r zt) 0 0 (va_A (wC y a z) sz) := by
  refine Met.ofW (cc := cX10_strikes) (maxL := 4) (ret := (some .int)) (by decide) rfl ?_
  intro p e s m args below meth c s₁ B hml hv
  obtain ⟨rfl, hsz, hP, hK, hD0, hN, hg⟩ := hv
  have hx := B.exec
  have hb := B.bytes
  have hr := B.returns
  have hts := atoms_spec (ws := wsX10_strikes) B.pre
  have hown : s.vm.findClass RX10 = some m.cls := findClass_of_methodNamed B.named
  have hlocks := B.notSynchronized
  clear B
  subst hsz
  have hD := hD0.self (sz := s.heap.size)
  generalize hAe : va_A (wC y a z) s.heap.size = A at hD hg ⊢
  have hA : ∀ q : Nat, s.heap.size ≤ q → A q := fun q h => by rw [← hAe]; exact Or.inr h
  clear hAe hD0
  have hl := lv_entry ([.ref (a 0), .int x1, .int x2]) (n := 4) (Nat.le_of_ble_eq_true rfl)
  rw [lg_entry_eq]
  generalize (lg_sl ([.ref (a 0), .int x1, .int x2]) ++ List.replicate (4 - (lg_sl ([.ref (a 0), .int x1, .int x2])).length) Slot.unset).toArray = ls at hl ⊢
  replace hl : lv_has ls 4 [(0, .ref (a 0)), (1, .int x1), (2, .int x2)] := hl
  refine zz_go (w := wC y a) hP hD va_S.rf hl (fun G hG => ?_)
  clear hP hD hl ls
  have J21 : ∀ (z : zz_M), mX10_strikes_b21 z = some (r, zt) → G 21 [] [] z := by
    intro z hm
    rw [mX10_strikes_b21] at hm
    rw [hG]
    intro H locs ls hP hD hS hl
    refine lv_iconst (v := (-1 : Int32)) hx hb dX10_strikes_21 (by decide) ?_
    exact zz_iret hx hb hr hlocks (zz_some2 hm) hP hK hD hS dX10_strikes_22
  rw [hG]
  intro H locs ls hP hD hS hl
  unfold mX10_strikes at hm
  refine lv_iload_n hx hb dX10_strikes_0 rfl (lv_at hl 1 rfl) ?_
  obtain ⟨r1, h2, hm⟩ := zz_b1_some hm
  refine zz_calli (zz_runS (w := wC y a) (As := [.int x1]) (rest := []) ⟨hx, hb, hml, hown, hts⟩ (zX10_isMonth l D y a H.size x1 z h2) (va_cwS 1 hts gX10_strikes_X10_isMonth rfl rfl rfl zdX10_isMonth ⟨Nat.le_of_ble_eq_true rfl, Nat.le_of_ble_eq_true rfl⟩) hK hN hg hP hD hS hA rfl hl.1 rfl (Nat.le_of_ble_eq_true rfl) dX10_strikes_1 ⟨Nat.le_of_ble_eq_true rfl, Nat.le_of_ble_eq_true rfl⟩) hD hS hA (fun H locs hP hD hS => ?_)
  refine lv_if_eq (tgt := 21) hx hb dX10_strikes_4 (by decide) (fun c3 => ?_) (fun c3 => ?_)
  · replace hm := zz_pos c3 hm
    have j := J21 z hm
    rw [hG] at j
    exact j H locs ls hP hD hS (lv_sub hl [] rfl)
  · replace hm := zz_neg c3 hm
    refine lv_aload_n hx hb dX10_strikes_7 rfl (lv_at hl 0 rfl) ?_
    refine va_get (D := D) (ci := 10) (v := .ref (a 8)) (C := RX10) (T := TX10) (N := 7) hx hb hts nX10_strikes_X10 hown hK hP 0 (wC_0 y a z) rfl 2 (by decide) (hts (.fieldLink RX10 26 "WorksDesk" "book" "LWorksDesk$Book;") (List.mem_of_getElem? (i := 1) rfl)) (fun _ h9 => h9) rfl dX10_strikes_8 ?_
    refine va_get (D := D) (ci := 2) (v := .ref (a 9)) (C := RX2) (T := TX2) (N := 12) hx hb hts nX10_strikes_X2 hown hK hP 8 (wC_8 y a z) rfl 0 (by decide) (hts (.fieldLink RX10 107 "WorksDesk$Book" "items" "LWorksDesk$Bill;") (List.mem_of_getElem? (i := 2) rfl)) (fun _ h9 => h9) rfl dX10_strikes_11 ?_
    refine lv_iload_n hx hb dX10_strikes_14 rfl (lv_at hl 2 rfl) ?_
    obtain ⟨r4, h5, hm⟩ := zz_b1_some hm
    refine zz_calli (zz_runV (w := wC y a) (As := [.int x2]) (rest := []) ⟨hx, hb, hml, hown, hts⟩ (zX0_has l D y a H.size 9 x2 (Or.inr rfl) z h5) (cwV 1 hts gX10_strikes_X0_has rfl rfl rfl zdX0_has ⟨Nat.le_of_ble_eq_true rfl, Nat.le_of_ble_eq_true rfl⟩) hK hN hg hP hD hS hA 9 (wC_bill y a z 9 (Or.inr rfl)) rfl rfl hl.1 rfl (Nat.le_of_ble_eq_true rfl) dX10_strikes_15 ⟨Nat.le_of_ble_eq_true rfl, Nat.le_of_ble_eq_true rfl⟩) hD hS hA (fun H locs hP hD hS => ?_)
    refine lv_if_ne (tgt := 23) hx hb dX10_strikes_18 (by decide) (fun c6 => ?_) (fun c6 => ?_)
    · replace hm := zz_neg c6 hm
      refine lv_aload_n hx hb dX10_strikes_23 rfl (lv_at hl 0 rfl) ?_
      refine va_get (D := D) (ci := 10) (v := .ref (a 8)) (C := RX10) (T := TX10) (N := 7) hx hb hts nX10_strikes_X10 hown hK hP 0 (wC_0 y a z) rfl 2 (by decide) (hts (.fieldLink RX10 26 "WorksDesk" "book" "LWorksDesk$Book;") (List.mem_of_getElem? (i := 1) rfl)) (fun _ h9 => h9) rfl dX10_strikes_24 ?_
      refine va_get (D := D) (ci := 2) (v := .ref (a 15)) (C := RX2) (T := TX2) (N := 12) hx hb hts nX10_strikes_X2 hown hK hP 8 (wC_8 y a z) rfl 2 (by decide) (hts (.fieldLink RX10 96 "WorksDesk$Book" "measured" "[LWorksDesk$Series;") (List.mem_of_getElem? (i := 3) rfl)) (fun _ h9 => h9) rfl dX10_strikes_27 ?_
      refine lv_iload_n hx hb dX10_strikes_30 rfl (lv_at hl 2 rfl) ?_
      obtain ⟨c7, hm⟩ := zz_ck_some hm
      refine va_aldq (C := RX6) hx hb hK hP 15 3 (wC_15 y a z) rfl c7 dX10_strikes_31 ?_
      refine W.eq (g2 := F0 m 32 ls [.ref (a (16 + 3 * x2.toNatClampNeg))]) rfl ?_
      refine lv_astore_n (lv' := [(3, .ref (a (16 + 3 * x2.toNatClampNeg))), (0, .ref (a 0)), (1, .int x1), (2, .int x2)]) hx hb dX10_strikes_32 rfl hl (by decide) rfl (fun ls hl => ?_)
      refine lv_aload_n hx hb dX10_strikes_33 rfl (lv_at hl 0 rfl) ?_
      refine lv_iload_n hx hb dX10_strikes_34 rfl (lv_at hl 2 rfl) ?_
      obtain ⟨r8, h9, hm⟩ := zz_b1_some hm
      refine zz_calli (zz_runV (w := wC y a) (As := [.int x1]) (rest := []) ⟨hx, hb, hml, hown, hts⟩ (zX6_isTold l D y a H.size x2.toNatClampNeg x1 (zz_lt c7 (by decide)) z h9) (cwV 1 hts gX10_strikes_X6_isTold rfl rfl rfl zdX6_isTold ⟨Nat.le_of_ble_eq_true rfl, Nat.le_of_ble_eq_true rfl⟩) hK hN hg hP hD hS hA (16 + 3 * x2.toNatClampNeg) (wC_ser y a z x2.toNatClampNeg (zz_lt c7 (by decide))) rfl rfl hl.1 rfl (Nat.le_of_ble_eq_true rfl) dX10_strikes_35 ⟨Nat.le_of_ble_eq_true rfl, Nat.le_of_ble_eq_true rfl⟩) hD hS hA (fun H locs hP hD hS => ?_)
      refine lv_if_ne (tgt := 44) hx hb dX10_strikes_38 (by decide) (fun c10 => ?_) (fun c10 => ?_)
      · replace hm := zz_neg c10 hm
        refine lv_aload_n hx hb dX10_strikes_44 rfl (lv_at hl 0 rfl) ?_
        refine lv_iload_n hx hb dX10_strikes_45 rfl (lv_at hl 2 rfl) ?_
        refine lv_iconst (v := (-1 : Int32)) hx hb dX10_strikes_46 (by decide) ?_
        obtain ⟨r11, z13, h12, hm⟩ := zz_b2_some hm
        refine zz_callv (zz_runV (w := wC y a) (As := [.int x1, .int (-1 : Int32)]) (rest := []) ⟨hx, hb, hml, hown, hts⟩ (zX6_tell l D y a H.size x2.toNatClampNeg x1 (-1 : Int32) (zz_lt c7 (by decide)) z h12) (cwV 2 hts gX10_strikes_X6_tell rfl rfl rfl zdX6_tell ⟨Nat.le_of_ble_eq_true rfl, Nat.le_of_ble_eq_true rfl⟩) hK hN hg hP hD hS hA (16 + 3 * x2.toNatClampNeg) (wC_ser y a z x2.toNatClampNeg (zz_lt c7 (by decide))) rfl rfl hl.1 rfl (Nat.le_of_ble_eq_true rfl) dX10_strikes_47 ⟨Nat.le_of_ble_eq_true rfl, Nat.le_of_ble_eq_true rfl⟩) hD hS hA (fun H locs hP hD hS => ?_)
        refine lv_aload_n hx hb dX10_strikes_50 rfl (lv_at hl 0 rfl) ?_
        refine lv_iload_n hx hb dX10_strikes_51 rfl (lv_at hl 2 rfl) ?_
        obtain ⟨r14, h15, hm⟩ := zz_b1_some hm
        refine zz_calli (zz_runV (w := wC y a) (As := [.int x1]) (rest := []) ⟨hx, hb, hml, hown, hts⟩ (zX6_latest l D y a H.size x2.toNatClampNeg x1 (zz_lt c7 (by decide)) z13 h15) (cwV 1 hts gX10_strikes_X6_latest rfl rfl rfl zdX6_latest ⟨Nat.le_of_ble_eq_true rfl, Nat.le_of_ble_eq_true rfl⟩) hK hN hg hP hD hS hA (16 + 3 * x2.toNatClampNeg) (wC_ser y a z13 x2.toNatClampNeg (zz_lt c7 (by decide))) rfl rfl hl.1 rfl (Nat.le_of_ble_eq_true rfl) dX10_strikes_52 ⟨Nat.le_of_ble_eq_true rfl, Nat.le_of_ble_eq_true rfl⟩) hD hS hA (fun H locs hP hD hS => ?_)
        exact zz_iret hx hb hr hlocks (zz_some2 hm) hP hK hD hS dX10_strikes_55
      · replace hm := zz_pos c10 hm
        refine lv_bipush (v := (-2 : Int32)) hx hb dX10_strikes_41 (by decide) ?_
        exact zz_iret hx hb hr hlocks (zz_some2 hm) hP hK hD hS dX10_strikes_43
    · replace hm := zz_pos c6 hm
      have j := J21 z hm
      rw [hG] at j
      exact j H locs ls hP hD hS (lv_sub hl [] rfl)
def mX10_sum (z : zz_M) : Option (Int32 × zz_M) := zz_b1 (mX2_advanced z) (fun r1 => zz_b2 (mX5_start r1 z) (fun r3 z5 => zz_b1 (mX2_limit z5) (fun r6 => zz_b2 (mX5_then r6 z5) (fun r8 z10 => zz_b2 (mX5_then ((z10.2.2.1 579).toInt64) z10) (fun r11 z13 => zz_b2 (mX5_then (((100 : Int64) * ((z13.2.2.1 520).toInt64)) + ((z13.2.2.1 521).toInt64)) z13) (fun r14 z16 => some (z16.2.2.1 580, z16)))))))
theorem nX10_sum_X0 : ∀ w ∈ wsX00, w ∈ wsX10_sum := fun _ h => List.mem_cons_of_mem _ (List.mem_append_left _ (List.mem_append_left _ (List.mem_append_right _ (h))))
theorem nX10_sum_X10 : ∀ w ∈ wsX100, w ∈ wsX10_sum := fun _ h => List.mem_cons_of_mem _ (List.mem_append_left _ (List.mem_append_left _ (List.mem_append_left _ (List.mem_append_left _ (List.mem_append_right _ (h))))))
theorem nX10_sum_X2 : ∀ w ∈ wsX20, w ∈ wsX10_sum := fun _ h => List.mem_cons_of_mem _ (List.mem_append_left _ (List.mem_append_left _ (List.mem_append_left _ (List.mem_append_right _ (h)))))
theorem zdX10_sum : yX10_sum.cls = RX10 ∧ yX10_sum.cls ≠ "java/lang/invoke/MethodHandle" ∧ yX10_sum.cls ≠ "java/lang/invoke/VarHandle" ∧ (parseMethodDescriptor yX10_sum.desc).map (fun d => d.parameters.length) = some 0 := by decide +kernel
set_option maxHeartbeats 4000000 in
set_option maxRecDepth 100000 in
theorem zX10_sum (l : Launch) (D : va_G) (y : Nat → ClassId) (a : Nat → Nat) (sz : Nat) (z : zz_M) {r : Int32} {zt : zz_M} (hm : mX10_sum z = some (r, zt)) : Met l yX10_sum wsX10_sum { frames := 2, cells := 0, slots := 0, locals := 44 } (zz_Pc D y (wC y a z) sz [.ref (a 0)]) (zz_Qi D y (wC y a) (va_A (wC y a z) sz) r zt) 0 0 (va_A (wC y a z) sz) := by
  refine Met.ofW (cc := cX10_sum) (maxL := 1) (ret := (some .int)) (by decide) rfl ?_
  intro p e s m args below meth c s₁ B hml hv
  obtain ⟨rfl, hsz, hP, hK, hD0, hN, hg⟩ := hv
  have hx := B.exec
  have hb := B.bytes
  have hr := B.returns
  have hts := atoms_spec (ws := wsX10_sum) B.pre
  have hown : s.vm.findClass RX10 = some m.cls := findClass_of_methodNamed B.named
  have hlocks := B.notSynchronized
  clear B
  subst hsz
  have hD := hD0.self (sz := s.heap.size)
  generalize hAe : va_A (wC y a z) s.heap.size = A at hD hg ⊢
  have hA : ∀ q : Nat, s.heap.size ≤ q → A q := fun q h => by rw [← hAe]; exact Or.inr h
  clear hAe hD0
  have hl := lv_entry ([.ref (a 0)]) (n := 1) (Nat.le_of_ble_eq_true rfl)
  rw [lg_entry_eq]
  generalize (lg_sl ([.ref (a 0)]) ++ List.replicate (1 - (lg_sl ([.ref (a 0)])).length) Slot.unset).toArray = ls at hl ⊢
  replace hl : lv_has ls 1 [(0, .ref (a 0))] := hl
  refine zz_go (w := wC y a) hP hD va_S.rf hl (fun G hG => ?_)
  clear hP hD hl ls
  rw [hG]
  intro H locs ls hP hD hS hl
  unfold mX10_sum at hm
  refine lv_aload_n hx hb dX10_sum_0 rfl (lv_at hl 0 rfl) ?_
  refine va_get (D := D) (ci := 10) (v := .ref (a 99)) (C := RX10) (T := TX10) (N := 7) hx hb hts nX10_sum_X10 hown hK hP 0 (wC_0 y a z) rfl 6 (by decide) (hts (.fieldLink RX10 47 "WorksDesk" "lastRow" "LWorksDesk$Row;") (List.mem_of_getElem? (i := 1) rfl)) (fun _ h9 => h9) rfl dX10_sum_1 ?_
  refine lv_aload_n hx hb dX10_sum_4 rfl (lv_at hl 0 rfl) ?_
  refine va_get (D := D) (ci := 10) (v := .ref (a 8)) (C := RX10) (T := TX10) (N := 7) hx hb hts nX10_sum_X10 hown hK hP 0 (wC_0 y a z) rfl 2 (by decide) (hts (.fieldLink RX10 26 "WorksDesk" "book" "LWorksDesk$Book;") (List.mem_of_getElem? (i := 2) rfl)) (fun _ h9 => h9) rfl dX10_sum_5 ?_
  obtain ⟨r1, h2, hm⟩ := zz_b1_some hm
  refine zz_calll (zz_runV (w := wC y a) (As := []) (rest := [.ref (a 99)]) ⟨hx, hb, hml, hown, hts⟩ (zX2_advanced l D y a H.size z h2) (cwV 0 hts gX10_sum_X2_advanced rfl rfl rfl zdX2_advanced ⟨Nat.le_of_ble_eq_true rfl, Nat.le_of_ble_eq_true rfl⟩) hK hN hg hP hD hS hA 8 (wC_8 y a z) rfl rfl hl.1 rfl (Nat.le_of_ble_eq_true rfl) dX10_sum_8 ⟨Nat.le_of_ble_eq_true rfl, Nat.le_of_ble_eq_true rfl⟩) hD hS hA (fun H locs hP hD hS => ?_)
  obtain ⟨r3, z5, h4, hm⟩ := zz_b2_some hm
  refine zz_callr (zz_runV (w := wC y a) (As := [.long r1]) (rest := []) ⟨hx, hb, hml, hown, hts⟩ (zX5_start l D y a H.size r1 z h4) (cwV 1 hts gX10_sum_X5_start rfl rfl rfl zdX5_start ⟨Nat.le_of_ble_eq_true rfl, Nat.le_of_ble_eq_true rfl⟩) hK hN hg hP hD hS hA 99 (wC_99 y a z) rfl rfl hl.1 rfl (Nat.le_of_ble_eq_true rfl) dX10_sum_11 ⟨Nat.le_of_ble_eq_true rfl, Nat.le_of_ble_eq_true rfl⟩) hD hS hA (fun H locs hP hD hS => ?_)
  refine lv_aload_n hx hb dX10_sum_14 rfl (lv_at hl 0 rfl) ?_
  refine va_get (D := D) (ci := 10) (v := .ref (a 8)) (C := RX10) (T := TX10) (N := 7) hx hb hts nX10_sum_X10 hown hK hP 0 (wC_0 y a z5) rfl 2 (by decide) (hts (.fieldLink RX10 26 "WorksDesk" "book" "LWorksDesk$Book;") (List.mem_of_getElem? (i := 2) rfl)) (fun _ h9 => h9) rfl dX10_sum_15 ?_
  obtain ⟨r6, h7, hm⟩ := zz_b1_some hm
  refine zz_calll (zz_runV (w := wC y a) (As := []) (rest := [.ref (a 99)]) ⟨hx, hb, hml, hown, hts⟩ (zX2_limit l D y a H.size z5 h7) (cwV 0 hts gX10_sum_X2_limit rfl rfl rfl zdX2_limit ⟨Nat.le_of_ble_eq_true rfl, Nat.le_of_ble_eq_true rfl⟩) hK hN hg hP hD hS hA 8 (wC_8 y a z5) rfl rfl hl.1 rfl (Nat.le_of_ble_eq_true rfl) dX10_sum_18 ⟨Nat.le_of_ble_eq_true rfl, Nat.le_of_ble_eq_true rfl⟩) hD hS hA (fun H locs hP hD hS => ?_)
  obtain ⟨r8, z10, h9, hm⟩ := zz_b2_some hm
  refine zz_callr (zz_runV (w := wC y a) (As := [.long r6]) (rest := []) ⟨hx, hb, hml, hown, hts⟩ (zX5_then l D y a H.size r6 z5 h9) (cwV 1 hts gX10_sum_X5_then rfl rfl rfl zdX5_then ⟨Nat.le_of_ble_eq_true rfl, Nat.le_of_ble_eq_true rfl⟩) hK hN hg hP hD hS hA 99 (wC_99 y a z5) rfl rfl hl.1 rfl (Nat.le_of_ble_eq_true rfl) dX10_sum_21 ⟨Nat.le_of_ble_eq_true rfl, Nat.le_of_ble_eq_true rfl⟩) hD hS hA (fun H locs hP hD hS => ?_)
  refine lv_aload_n hx hb dX10_sum_24 rfl (lv_at hl 0 rfl) ?_
  refine va_get (D := D) (ci := 10) (v := .ref (a 8)) (C := RX10) (T := TX10) (N := 7) hx hb hts nX10_sum_X10 hown hK hP 0 (wC_0 y a z10) rfl 2 (by decide) (hts (.fieldLink RX10 26 "WorksDesk" "book" "LWorksDesk$Book;") (List.mem_of_getElem? (i := 2) rfl)) (fun _ h9 => h9) rfl dX10_sum_25 ?_
  refine va_get (D := D) (ci := 2) (v := .ref (a 9)) (C := RX2) (T := TX2) (N := 12) hx hb hts nX10_sum_X2 hown hK hP 8 (wC_8 y a z10) rfl 0 (by decide) (hts (.fieldLink RX10 107 "WorksDesk$Book" "items" "LWorksDesk$Bill;") (List.mem_of_getElem? (i := 3) rfl)) (fun _ h9 => h9) rfl dX10_sum_28 ?_
  refine va_get (D := D) (ci := 0) (v := .int (z10.2.2.1 579)) (C := RX0) (T := TX0) (N := 5) hx hb hts nX10_sum_X0 hown hK hP 9 (wC_bill y a z10 9 (Or.inr rfl)) rfl 3 (by decide) (hts (.fieldLink RX10 284 "WorksDesk$Bill" "size" "I") (List.mem_of_getElem? (i := 4) rfl)) (fun _ h9 => h9) rfl dX10_sum_31 ?_
  refine lv_i2l hx hb dX10_sum_34 rfl ?_
  obtain ⟨r11, z13, h12, hm⟩ := zz_b2_some hm
  refine zz_callr (zz_runV (w := wC y a) (As := [.long ((z10.2.2.1 579).toInt64)]) (rest := []) ⟨hx, hb, hml, hown, hts⟩ (zX5_then l D y a H.size ((z10.2.2.1 579).toInt64) z10 h12) (cwV 1 hts gX10_sum_X5_then rfl rfl rfl zdX5_then ⟨Nat.le_of_ble_eq_true rfl, Nat.le_of_ble_eq_true rfl⟩) hK hN hg hP hD hS hA 99 (wC_99 y a z10) rfl rfl hl.1 rfl (Nat.le_of_ble_eq_true rfl) dX10_sum_35 ⟨Nat.le_of_ble_eq_true rfl, Nat.le_of_ble_eq_true rfl⟩) hD hS hA (fun H locs hP hD hS => ?_)
  refine lv_pop hx hb dX10_sum_38 rfl ?_
  refine lv_aload_n hx hb dX10_sum_39 rfl (lv_at hl 0 rfl) ?_
  refine va_get (D := D) (ci := 10) (v := .ref (a 99)) (C := RX10) (T := TX10) (N := 7) hx hb hts nX10_sum_X10 hown hK hP 0 (wC_0 y a z13) rfl 6 (by decide) (hts (.fieldLink RX10 47 "WorksDesk" "lastRow" "LWorksDesk$Row;") (List.mem_of_getElem? (i := 1) rfl)) (fun _ h9 => h9) rfl dX10_sum_40 ?_
  refine lv_ldc2 (v := (100 : Int64)) hx hb hown (hts (.constantLong RX10 285 (100)) (List.mem_of_getElem? (i := 5) rfl)) dX10_sum_43 ?_
  refine lv_aload_n hx hb dX10_sum_46 rfl (lv_at hl 0 rfl) ?_
  refine va_get (D := D) (ci := 10) (v := .ref (a 8)) (C := RX10) (T := TX10) (N := 7) hx hb hts nX10_sum_X10 hown hK hP 0 (wC_0 y a z13) rfl 2 (by decide) (hts (.fieldLink RX10 26 "WorksDesk" "book" "LWorksDesk$Book;") (List.mem_of_getElem? (i := 2) rfl)) (fun _ h9 => h9) rfl dX10_sum_47 ?_
  refine va_get (D := D) (ci := 2) (v := .int (z13.2.2.1 520)) (C := RX2) (T := TX2) (N := 12) hx hb hts nX10_sum_X2 hown hK hP 8 (wC_8 y a z13) rfl 8 (by decide) (hts (.fieldLink RX10 198 "WorksDesk$Book" "handedOver" "I") (List.mem_of_getElem? (i := 6) rfl)) (fun _ h9 => h9) rfl dX10_sum_50 ?_
  refine lv_i2l hx hb dX10_sum_53 rfl ?_
  refine lv_lmul hx hb dX10_sum_54 ?_
  refine lv_aload_n hx hb dX10_sum_55 rfl (lv_at hl 0 rfl) ?_
  refine va_get (D := D) (ci := 10) (v := .ref (a 8)) (C := RX10) (T := TX10) (N := 7) hx hb hts nX10_sum_X10 hown hK hP 0 (wC_0 y a z13) rfl 2 (by decide) (hts (.fieldLink RX10 26 "WorksDesk" "book" "LWorksDesk$Book;") (List.mem_of_getElem? (i := 2) rfl)) (fun _ h9 => h9) rfl dX10_sum_56 ?_
  refine va_get (D := D) (ci := 2) (v := .int (z13.2.2.1 521)) (C := RX2) (T := TX2) (N := 12) hx hb hts nX10_sum_X2 hown hK hP 8 (wC_8 y a z13) rfl 9 (by decide) (hts (.fieldLink RX10 201 "WorksDesk$Book" "closed" "I") (List.mem_of_getElem? (i := 7) rfl)) (fun _ h9 => h9) rfl dX10_sum_59 ?_
  refine lv_i2l hx hb dX10_sum_62 rfl ?_
  refine lv_ladd hx hb dX10_sum_63 ?_
  obtain ⟨r14, z16, h15, hm⟩ := zz_b2_some hm
  refine zz_callr (zz_runV (w := wC y a) (As := [.long (((100 : Int64) * ((z13.2.2.1 520).toInt64)) + ((z13.2.2.1 521).toInt64))]) (rest := []) ⟨hx, hb, hml, hown, hts⟩ (zX5_then l D y a H.size (((100 : Int64) * ((z13.2.2.1 520).toInt64)) + ((z13.2.2.1 521).toInt64)) z13 h15) (cwV 1 hts gX10_sum_X5_then rfl rfl rfl zdX5_then ⟨Nat.le_of_ble_eq_true rfl, Nat.le_of_ble_eq_true rfl⟩) hK hN hg hP hD hS hA 99 (wC_99 y a z13) rfl rfl hl.1 rfl (Nat.le_of_ble_eq_true rfl) dX10_sum_64 ⟨Nat.le_of_ble_eq_true rfl, Nat.le_of_ble_eq_true rfl⟩) hD hS hA (fun H locs hP hD hS => ?_)
  refine lv_pop hx hb dX10_sum_67 rfl ?_
  refine lv_aload_n hx hb dX10_sum_68 rfl (lv_at hl 0 rfl) ?_
  refine va_get (D := D) (ci := 10) (v := .ref (a 8)) (C := RX10) (T := TX10) (N := 7) hx hb hts nX10_sum_X10 hown hK hP 0 (wC_0 y a z16) rfl 2 (by decide) (hts (.fieldLink RX10 26 "WorksDesk" "book" "LWorksDesk$Book;") (List.mem_of_getElem? (i := 2) rfl)) (fun _ h9 => h9) rfl dX10_sum_69 ?_
  refine va_get (D := D) (ci := 2) (v := .ref (a 9)) (C := RX2) (T := TX2) (N := 12) hx hb hts nX10_sum_X2 hown hK hP 8 (wC_8 y a z16) rfl 0 (by decide) (hts (.fieldLink RX10 107 "WorksDesk$Book" "items" "LWorksDesk$Bill;") (List.mem_of_getElem? (i := 3) rfl)) (fun _ h9 => h9) rfl dX10_sum_72 ?_
  refine va_get (D := D) (ci := 0) (v := .int (z16.2.2.1 580)) (C := RX0) (T := TX0) (N := 5) hx hb hts nX10_sum_X0 hown hK hP 9 (wC_bill y a z16 9 (Or.inr rfl)) rfl 4 (by decide) (hts (.fieldLink RX10 287 "WorksDesk$Bill" "total" "I") (List.mem_of_getElem? (i := 8) rfl)) (fun _ h9 => h9) rfl dX10_sum_75 ?_
  exact zz_iret hx hb hr hlocks (zz_some2 hm) hP hK hD hS dX10_sum_78
def mX10_tellTotalAndInterest (z : zz_M) : Option (Unit × zz_M) := zz_b1 (mX10_moreAsIf (8 : Int32) (23 : Int32) z) (fun r1 => zz_b2 (mX5_start r1 z) (fun r3 z5 => zz_b1 (mX10_moreAsIf (11 : Int32) (23 : Int32) z5) (fun r6 => zz_b2 (mX5_then r6 z5) (fun r8 z10 => some ((), z10)))))
theorem nX10_tellTotalAndInterest_X10 : ∀ w ∈ wsX100, w ∈ wsX10_tellTotalAndInterest := fun _ h => List.mem_cons_of_mem _ (List.mem_append_left _ (List.mem_append_left _ (List.mem_append_right _ (h))))
theorem zdX10_tellTotalAndInterest : yX10_tellTotalAndInterest.cls = RX10 ∧ yX10_tellTotalAndInterest.cls ≠ "java/lang/invoke/MethodHandle" ∧ yX10_tellTotalAndInterest.cls ≠ "java/lang/invoke/VarHandle" ∧ (parseMethodDescriptor yX10_tellTotalAndInterest.desc).map (fun d => d.parameters.length) = some 0 := by decide +kernel
set_option maxHeartbeats 4000000 in
set_option maxRecDepth 100000 in
theorem zX10_tellTotalAndInterest (l : Launch) (D : va_G) (y : Nat → ClassId) (a : Nat → Nat) (sz : Nat) (z : zz_M) {r : Unit} {zt : zz_M} (hm : mX10_tellTotalAndInterest z = some (r, zt)) : Met l yX10_tellTotalAndInterest wsX10_tellTotalAndInterest { frames := 2, cells := 0, slots := 0, locals := 44 } (zz_Pc D y (wC y a z) sz [.ref (a 0)]) (zz_Qv D y (wC y a) (va_A (wC y a z) sz) zt) 0 0 (va_A (wC y a z) sz) := by
  refine Met.ofW (cc := cX10_tellTotalAndInterest) (maxL := 1) (ret := none) (by decide) rfl ?_
  intro p e s m args below meth c s₁ B hml hv
  obtain ⟨rfl, hsz, hP, hK, hD0, hN, hg⟩ := hv
  have hx := B.exec
  have hb := B.bytes
  have hr := B.returns
  have hts := atoms_spec (ws := wsX10_tellTotalAndInterest) B.pre
  have hown : s.vm.findClass RX10 = some m.cls := findClass_of_methodNamed B.named
  have hlocks := B.notSynchronized
  clear B
  subst hsz
  have hD := hD0.self (sz := s.heap.size)
  generalize hAe : va_A (wC y a z) s.heap.size = A at hD hg ⊢
  have hA : ∀ q : Nat, s.heap.size ≤ q → A q := fun q h => by rw [← hAe]; exact Or.inr h
  clear hAe hD0
  have hl := lv_entry ([.ref (a 0)]) (n := 1) (Nat.le_of_ble_eq_true rfl)
  rw [lg_entry_eq]
  generalize (lg_sl ([.ref (a 0)]) ++ List.replicate (1 - (lg_sl ([.ref (a 0)])).length) Slot.unset).toArray = ls at hl ⊢
  replace hl : lv_has ls 1 [(0, .ref (a 0))] := hl
  refine zz_go (w := wC y a) hP hD va_S.rf hl (fun G hG => ?_)
  clear hP hD hl ls
  rw [hG]
  intro H locs ls hP hD hS hl
  unfold mX10_tellTotalAndInterest at hm
  refine lv_aload_n hx hb dX10_tellTotalAndInterest_0 rfl (lv_at hl 0 rfl) ?_
  refine va_get (D := D) (ci := 10) (v := .ref (a 99)) (C := RX10) (T := TX10) (N := 7) hx hb hts nX10_tellTotalAndInterest_X10 hown hK hP 0 (wC_0 y a z) rfl 6 (by decide) (hts (.fieldLink RX10 47 "WorksDesk" "lastRow" "LWorksDesk$Row;") (List.mem_of_getElem? (i := 1) rfl)) (fun _ h9 => h9) rfl dX10_tellTotalAndInterest_1 ?_
  refine lv_aload_n hx hb dX10_tellTotalAndInterest_4 rfl (lv_at hl 0 rfl) ?_
  refine lv_bipush (v := (8 : Int32)) hx hb dX10_tellTotalAndInterest_5 (by decide) ?_
  refine lv_bipush (v := (23 : Int32)) hx hb dX10_tellTotalAndInterest_7 (by decide) ?_
  obtain ⟨r1, h2, hm⟩ := zz_b1_some hm
  refine zz_calll (zz_runV (w := wC y a) (As := [.int (8 : Int32), .int (23 : Int32)]) (rest := [.ref (a 99)]) ⟨hx, hb, hml, hown, hts⟩ (zX10_moreAsIf l D y a H.size (8 : Int32) (23 : Int32) z h2) (cwV 2 hts gX10_tellTotalAndInterest_X10_moreAsIf rfl rfl rfl zdX10_moreAsIf ⟨Nat.le_of_ble_eq_true rfl, Nat.le_of_ble_eq_true rfl⟩) hK hN hg hP hD hS hA 0 (wC_0 y a z) rfl rfl hl.1 rfl (Nat.le_of_ble_eq_true rfl) dX10_tellTotalAndInterest_9 ⟨Nat.le_of_ble_eq_true rfl, Nat.le_of_ble_eq_true rfl⟩) hD hS hA (fun H locs hP hD hS => ?_)
  obtain ⟨r3, z5, h4, hm⟩ := zz_b2_some hm
  refine zz_callr (zz_runV (w := wC y a) (As := [.long r1]) (rest := []) ⟨hx, hb, hml, hown, hts⟩ (zX5_start l D y a H.size r1 z h4) (cwV 1 hts gX10_tellTotalAndInterest_X5_start rfl rfl rfl zdX5_start ⟨Nat.le_of_ble_eq_true rfl, Nat.le_of_ble_eq_true rfl⟩) hK hN hg hP hD hS hA 99 (wC_99 y a z) rfl rfl hl.1 rfl (Nat.le_of_ble_eq_true rfl) dX10_tellTotalAndInterest_12 ⟨Nat.le_of_ble_eq_true rfl, Nat.le_of_ble_eq_true rfl⟩) hD hS hA (fun H locs hP hD hS => ?_)
  refine lv_aload_n hx hb dX10_tellTotalAndInterest_15 rfl (lv_at hl 0 rfl) ?_
  refine lv_bipush (v := (11 : Int32)) hx hb dX10_tellTotalAndInterest_16 (by decide) ?_
  refine lv_bipush (v := (23 : Int32)) hx hb dX10_tellTotalAndInterest_18 (by decide) ?_
  obtain ⟨r6, h7, hm⟩ := zz_b1_some hm
  refine zz_calll (zz_runV (w := wC y a) (As := [.int (11 : Int32), .int (23 : Int32)]) (rest := [.ref (a 99)]) ⟨hx, hb, hml, hown, hts⟩ (zX10_moreAsIf l D y a H.size (11 : Int32) (23 : Int32) z5 h7) (cwV 2 hts gX10_tellTotalAndInterest_X10_moreAsIf rfl rfl rfl zdX10_moreAsIf ⟨Nat.le_of_ble_eq_true rfl, Nat.le_of_ble_eq_true rfl⟩) hK hN hg hP hD hS hA 0 (wC_0 y a z5) rfl rfl hl.1 rfl (Nat.le_of_ble_eq_true rfl) dX10_tellTotalAndInterest_20 ⟨Nat.le_of_ble_eq_true rfl, Nat.le_of_ble_eq_true rfl⟩) hD hS hA (fun H locs hP hD hS => ?_)
  obtain ⟨r8, z10, h9, hm⟩ := zz_b2_some hm
  refine zz_callr (zz_runV (w := wC y a) (As := [.long r6]) (rest := []) ⟨hx, hb, hml, hown, hts⟩ (zX5_then l D y a H.size r6 z5 h9) (cwV 1 hts gX10_tellTotalAndInterest_X5_then rfl rfl rfl zdX5_then ⟨Nat.le_of_ble_eq_true rfl, Nat.le_of_ble_eq_true rfl⟩) hK hN hg hP hD hS hA 99 (wC_99 y a z5) rfl rfl hl.1 rfl (Nat.le_of_ble_eq_true rfl) dX10_tellTotalAndInterest_23 ⟨Nat.le_of_ble_eq_true rfl, Nat.le_of_ble_eq_true rfl⟩) hD hS hA (fun H locs hP hD hS => ?_)
  refine lv_pop hx hb dX10_tellTotalAndInterest_26 rfl ?_
  exact zz_vret hx hb hr hlocks (zz_some2 hm).2 hP hK hD hS dX10_tellTotalAndInterest_27
def mX8_allow_b25 (z : zz_M) (t0 : Int32) : Option Int32 := zz_ck (zz_bool t0) (some t0)
def mX8_allow_b24 (z : zz_M) : Option Int32 := mX8_allow_b25 z (0 : Int32)
def mX8_allow (x0 : Int32) (x1 : Int32) (z : zz_M) : Option Int32 := zz_b1 (mX8_has x0) (fun r2 => if r2 = (0 : Int32) then (mX8_allow_b24 z) else (zz_ck (zz_in x0 14) (zz_b1 (mX10_isWithin x1 (0 : Int32) (zz_great x0.toNatClampNeg)) (fun r6 => if r6 = (0 : Int32) then (mX8_allow_b24 z) else (mX8_allow_b25 z (1 : Int32))))))
theorem zdX8_allow : yX8_allow.cls ≠ "java/lang/invoke/MethodHandle" ∧ yX8_allow.cls ≠ "java/lang/invoke/VarHandle" ∧ (parseMethodDescriptor yX8_allow.desc).map (fun d => d.parameters.length) = some 2 := by decide +kernel
set_option maxHeartbeats 4000000 in
set_option maxRecDepth 100000 in
theorem zX8_allow (l : Launch) (D : va_G) (y : Nat → ClassId) (a : Nat → Nat) (sz : Nat) (x0 : Int32) (x1 : Int32) (z : zz_M) {r : Int32} (hm : mX8_allow x0 x1 z = some r) : Met l yX8_allow wsX8_allow { frames := 1, cells := 0, slots := 0, locals := 22 } (zz_Pc D y (wC y a z) sz [.int x0, .int x1]) (zz_Qi D y (wC y a) (va_A (wC y a z) sz) r z) 0 0 (va_A (wC y a z) sz) := by
  refine Met.ofW (cc := cX8_allow) (maxL := 2) (ret := (some .boolean)) (by decide) rfl ?_
  intro p e s m args below meth c s₁ B hml hv
  obtain ⟨rfl, hsz, hP, hK, hD0, hN, hg⟩ := hv
  have hx := B.exec
  have hb := B.bytes
  have hr := B.returns
  have hts := atoms_spec (ws := wsX8_allow) B.pre
  have hown : s.vm.findClass RX8 = some m.cls := findClass_of_methodNamed B.named
  have hlocks := B.notSynchronized
  clear B
  subst hsz
  have hD := hD0.self (sz := s.heap.size)
  generalize hAe : va_A (wC y a z) s.heap.size = A at hD hg ⊢
  have hA : ∀ q : Nat, s.heap.size ≤ q → A q := fun q h => by rw [← hAe]; exact Or.inr h
  clear hAe hD0
  have hl := lv_entry ([.int x0, .int x1]) (n := 2) (Nat.le_of_ble_eq_true rfl)
  rw [lg_entry_eq]
  generalize (lg_sl ([.int x0, .int x1]) ++ List.replicate (2 - (lg_sl ([.int x0, .int x1])).length) Slot.unset).toArray = ls at hl ⊢
  replace hl : lv_has ls 2 [(0, .int x0), (1, .int x1)] := hl
  refine zz_go (w := wC y a) hP hD va_S.rf hl (fun G hG => ?_)
  clear hP hD hl ls
  have J25 : ∀ (t0 : Int32), mX8_allow_b25 z t0 = some r → G 25 [] [.int t0] z := by
    intro t0 hm
    rw [mX8_allow_b25] at hm
    rw [hG]
    intro H locs ls hP hD hS hl
    obtain ⟨c1, hm⟩ := zz_ck_some hm
    exact zz_zret hx hb hr hlocks c1 ⟨zz_some1 hm, rfl⟩ hP hK hD hS dX8_allow_25
  have J24 : mX8_allow_b24 z = some r → G 24 [] [] z := by
    intro hm
    rw [mX8_allow_b24] at hm
    rw [hG]
    intro H locs ls hP hD hS hl
    refine lv_iconst (v := (0 : Int32)) hx hb dX8_allow_24 (by decide) ?_
    have j := J25 (0 : Int32) hm
    rw [hG] at j
    exact j H locs ls hP hD hS (lv_sub hl [] rfl)
  rw [hG]
  intro H locs ls hP hD hS hl
  unfold mX8_allow at hm
  refine lv_iload_n hx hb dX8_allow_0 rfl (lv_at hl 0 rfl) ?_
  obtain ⟨r2, h3, hm⟩ := zz_b1_some hm
  refine zz_calli (zz_runS (w := wC y a) (As := [.int x0]) (rest := []) ⟨hx, hb, hml, hown, hts⟩ (zX8_has l D y a H.size x0 z h3) (va_cwS 1 hts gX8_allow_X8_has rfl rfl rfl zdX8_has ⟨Nat.le_of_ble_eq_true rfl, Nat.le_of_ble_eq_true rfl⟩) hK hN hg hP hD hS hA rfl hl.1 rfl (Nat.le_of_ble_eq_true rfl) dX8_allow_1 ⟨Nat.le_of_ble_eq_true rfl, Nat.le_of_ble_eq_true rfl⟩) hD hS hA (fun H locs hP hD hS => ?_)
  refine lv_if_eq (tgt := 24) hx hb dX8_allow_4 (by decide) (fun c4 => ?_) (fun c4 => ?_)
  · replace hm := zz_pos c4 hm
    have j := J24 hm
    rw [hG] at j
    exact j H locs ls hP hD hS (lv_sub hl [] rfl)
  · replace hm := zz_neg c4 hm
    refine lv_iload_n hx hb dX8_allow_7 rfl (lv_at hl 1 rfl) ?_
    refine lv_iconst (v := (0 : Int32)) hx hb dX8_allow_8 (by decide) ?_
    obtain ⟨⟨g0, hZ0, hT0⟩, -⟩ := id hg
    refine va_gets hx hb hZ0 hS hown (hts (.fieldLink RX8 26 "WorksDesk$Terms" "GREATEST" "[I") (List.mem_of_getElem? (i := 1) rfl)) (fun _ h9 => h9) dX8_allow_9 ?_
    refine lv_iload_n hx hb dX8_allow_12 rfl (lv_at hl 0 rfl) ?_
    obtain ⟨c5, hm⟩ := zz_ck_some hm
    refine va_ti hx hb hT0 hS c5 rfl dX8_allow_13 ?_
    obtain ⟨r6, h7, hm⟩ := zz_b1_some hm
    refine zz_calli (zz_runSN (w := wC y a) (As := [.int x1, .int (0 : Int32), .int (zz_great x0.toNatClampNeg)]) (rest := []) ⟨hx, hb, hml, hown, hts⟩ (zX10_isWithin l D y a H.size x1 (0 : Int32) (zz_great x0.toNatClampNeg) z h7) ⟨va_cnB 3 hts gX8_allow_X10_isWithin_n29 rfl rfl rfl (hN _ (List.mem_of_getElem? (i := 13) rfl)) (hts (.initialized RX10) (List.mem_of_getElem? (i := 7) rfl)) zdX10_isWithin ⟨Nat.le_of_ble_eq_true rfl, Nat.le_of_ble_eq_true rfl⟩, (hts (.static yX10_isWithin) (List.mem_of_getElem? (i := 6) rfl)), trivial⟩ hK hN hg hP hD hS hA rfl hl.1 rfl (Nat.le_of_ble_eq_true rfl) dX8_allow_14 ⟨Nat.le_of_ble_eq_true rfl, Nat.le_of_ble_eq_true rfl⟩) hD hS hA (fun H locs hP hD hS => ?_)
    refine lv_if_eq (tgt := 24) hx hb dX8_allow_17 (by decide) (fun c8 => ?_) (fun c8 => ?_)
    · replace hm := zz_pos c8 hm
      have j := J24 hm
      rw [hG] at j
      exact j H locs ls hP hD hS (lv_sub hl [] rfl)
    · replace hm := zz_neg c8 hm
      refine lv_iconst (v := (1 : Int32)) hx hb dX8_allow_20 (by decide) ?_
      refine lv_goto (tgt := 25) hx hb dX8_allow_21 (by decide) ?_
      have j := J25 (1 : Int32) hm
      rw [hG] at j
      exact j H locs ls hP hD hS (lv_sub hl [] rfl)
