def mX8_put (x1 : Int32) (x2 : Int32) (z : zz_M) : Option (Unit × zz_M) := zz_ck (zz_in x1 14) (zz_nm (zz_wI z 14 x1 x2) (fun z2 => some ((), z2)))
theorem nX8_put_X8 : ∀ w ∈ wsX80, w ∈ wsX8_put := fun _ h => List.mem_cons_of_mem _ (List.mem_append_right _ (h))
theorem zdX8_put : yX8_put.cls = RX8 ∧ yX8_put.cls ≠ "java/lang/invoke/MethodHandle" ∧ yX8_put.cls ≠ "java/lang/invoke/VarHandle" ∧ (parseMethodDescriptor yX8_put.desc).map (fun d => d.parameters.length) = some 2 := by decide +kernel
set_option maxHeartbeats 4000000 in
set_option maxRecDepth 100000 in
theorem zX8_put (l : Launch) (D : va_G) (y : Nat → ClassId) (a : Nat → Nat) (sz : Nat) (x1 : Int32) (x2 : Int32) (z : zz_M) {r : Unit} {zt : zz_M} (hm : mX8_put x1 x2 z = some (r, zt)) : Met l yX8_put wsX8_put { frames := 0, cells := 0, slots := 0, locals := 0 } (zz_Pc D y (wC y a z) sz [.ref (a 13), .int x1, .int x2]) (zz_Qv D y (wC y a) (va_A (wC y a z) sz) zt) 0 0 (va_A (wC y a z) sz) := by
  refine Met.ofW (cc := cX8_put) (maxL := 3) (ret := none) (by decide) rfl ?_
  intro p e s m args below meth c s₁ B hml hv
  obtain ⟨rfl, hsz, hP, hK, hD0, hN, hg⟩ := hv
  have hx := B.exec
  have hb := B.bytes
  have hr := B.returns
  have hts := atoms_spec (ws := wsX8_put) B.pre
  have hown : s.vm.findClass RX8 = some m.cls := findClass_of_methodNamed B.named
  have hlocks := B.notSynchronized
  clear B
  subst hsz
  have hD := hD0.self (sz := s.heap.size)
  generalize hAe : va_A (wC y a z) s.heap.size = A at hD hg ⊢
  have hA : ∀ q : Nat, s.heap.size ≤ q → A q := fun q h => by rw [← hAe]; exact Or.inr h
  clear hAe hD0
  have hl := lv_entry ([.ref (a 13), .int x1, .int x2]) (n := 3) (Nat.le_of_ble_eq_true rfl)
  rw [lg_entry_eq]
  generalize (lg_sl ([.ref (a 13), .int x1, .int x2]) ++ List.replicate (3 - (lg_sl ([.ref (a 13), .int x1, .int x2])).length) Slot.unset).toArray = ls at hl ⊢
  replace hl : lv_has ls 3 [(0, .ref (a 13)), (1, .int x1), (2, .int x2)] := hl
  refine zz_go (w := wC y a) hP hD va_S.rf hl (fun G hG => ?_)
  clear hP hD hl ls
  rw [hG]
  intro H locs ls hP hD hS hl
  unfold mX8_put at hm
  refine lv_aload_n hx hb dX8_put_0 rfl (lv_at hl 0 rfl) ?_
  refine va_get (D := D) (ci := 8) (v := .ref (a 14)) (C := RX8) (T := TX8) (N := 1) hx hb hts nX8_put_X8 hown hK hP 13 (wC_13 y a z) rfl 0 (by decide) (hts (.fieldLink RX8 9 "WorksDesk$Terms" "values" "[I") (List.mem_of_getElem? (i := 1) rfl)) (fun _ h9 => h9) rfl dX8_put_1 ?_
  refine lv_iload_n hx hb dX8_put_4 rfl (lv_at hl 1 rfl) ?_
  refine lv_iload_n hx hb dX8_put_5 rfl (lv_at hl 2 rfl) ?_
  obtain ⟨c1, hm⟩ := zz_ck_some hm
  refine va_iast hx hb hK hP hD hS 14 0 (wC_14 y a z) rfl c1 dX8_put_6 (fun H locs hP hD hS => ?_)
  obtain ⟨z2, hP, hD, hm⟩ := zz_up (w := wC y a) (wC_w14 y a z x1 x2) hP hD hm
  exact zz_vret hx hb hr hlocks (zz_some2 hm).2 hP hK hD hS dX8_put_7
def mX10_terms (x1 : Int32) (x2 : Int32) (z : zz_M) : Option (Int32 × zz_M) := zz_b1 (mX8_allow x1 x2 z) (fun r1 => if r1 = (0 : Int32) then (some ((-1 : Int32), z)) else (zz_b1 (mX8_of x1 z) (fun r4 => if r4 = x2 then (some ((-2 : Int32), z)) else (zz_b2 (mX8_put x1 x2 z) (fun r7 z9 => some (r4, z9))))))
theorem nX10_terms_X10 : ∀ w ∈ wsX100, w ∈ wsX10_terms := fun _ h => List.mem_cons_of_mem _ (List.mem_append_left _ (List.mem_append_left _ (List.mem_append_right _ (h))))
theorem nX10_terms_X2 : ∀ w ∈ wsX20, w ∈ wsX10_terms := fun _ h => List.mem_cons_of_mem _ (List.mem_append_left _ (List.mem_append_right _ (h)))
theorem zdX10_terms : yX10_terms.cls = RX10 ∧ yX10_terms.cls ≠ "java/lang/invoke/MethodHandle" ∧ yX10_terms.cls ≠ "java/lang/invoke/VarHandle" ∧ (parseMethodDescriptor yX10_terms.desc).map (fun d => d.parameters.length) = some 2 := by decide +kernel
set_option maxHeartbeats 4000000 in
set_option maxRecDepth 100000 in
theorem zX10_terms (l : Launch) (D : va_G) (y : Nat → ClassId) (a : Nat → Nat) (sz : Nat) (x1 : Int32) (x2 : Int32) (z : zz_M) {r : Int32} {zt : zz_M} (hm : mX10_terms x1 x2 z = some (r, zt)) : Met l yX10_terms wsX10_terms { frames := 2, cells := 0, slots := 0, locals := 43 } (zz_Pc D y (wC y a z) sz [.ref (a 0), .int x1, .int x2]) (zz_Qi D y (wC y a) (va_A (wC y a z) sz) r zt) 0 0 (va_A (wC y a z) sz) := by
  refine Met.ofW (cc := cX10_terms) (maxL := 4) (ret := (some .int)) (by decide) rfl ?_
  intro p e s m args below meth c s₁ B hml hv
  obtain ⟨rfl, hsz, hP, hK, hD0, hN, hg⟩ := hv
  have hx := B.exec
  have hb := B.bytes
  have hr := B.returns
  have hts := atoms_spec (ws := wsX10_terms) B.pre
  have hown : s.vm.findClass RX10 = some m.cls := findClass_of_methodNamed B.named
  have hlocks := B.notSynchronized
  clear B
  subst hsz
  have hD := hD0.self (sz := s.heap.size)
  generalize hAe : va_A (wC y a z) s.heap.size = A at hD hg ⊢
  have hA : ∀ q : Nat, s.heap.size ≤ q → A q := fun q h => by rw [← hAe]; exact Or.inr h
  clear hAe hD0
  have hl := lv_entry ([.ref (a 0), .int x1, .int x2]) (n := 4) (Nat.le_of_ble_eq_true rfl)
  rw [lg_entry_eq]
  generalize (lg_sl ([.ref (a 0), .int x1, .int x2]) ++ List.replicate (4 - (lg_sl ([.ref (a 0), .int x1, .int x2])).length) Slot.unset).toArray = ls at hl ⊢
  replace hl : lv_has ls 4 [(0, .ref (a 0)), (1, .int x1), (2, .int x2)] := hl
  refine zz_go (w := wC y a) hP hD va_S.rf hl (fun G hG => ?_)
  clear hP hD hl ls
  rw [hG]
  intro H locs ls hP hD hS hl
  unfold mX10_terms at hm
  refine lv_iload_n hx hb dX10_terms_0 rfl (lv_at hl 1 rfl) ?_
  refine lv_iload_n hx hb dX10_terms_1 rfl (lv_at hl 2 rfl) ?_
  obtain ⟨r1, h2, hm⟩ := zz_b1_some hm
  refine zz_calli (zz_runS (w := wC y a) (As := [.int x1, .int x2]) (rest := []) ⟨hx, hb, hml, hown, hts⟩ (zX8_allow l D y a H.size x1 x2 z h2) (va_cwS 2 hts gX10_terms_X8_allow rfl rfl rfl zdX8_allow ⟨Nat.le_of_ble_eq_true rfl, Nat.le_of_ble_eq_true rfl⟩) hK hN hg hP hD hS hA rfl hl.1 rfl (Nat.le_of_ble_eq_true rfl) dX10_terms_2 ⟨Nat.le_of_ble_eq_true rfl, Nat.le_of_ble_eq_true rfl⟩) hD hS hA (fun H locs hP hD hS => ?_)
  refine lv_if_ne (tgt := 10) hx hb dX10_terms_5 (by decide) (fun c3 => ?_) (fun c3 => ?_)
  · replace hm := zz_neg c3 hm
    refine lv_aload_n hx hb dX10_terms_10 rfl (lv_at hl 0 rfl) ?_
    refine va_get (D := D) (ci := 10) (v := .ref (a 8)) (C := RX10) (T := TX10) (N := 7) hx hb hts nX10_terms_X10 hown hK hP 0 (wC_0 y a z) rfl 2 (by decide) (hts (.fieldLink RX10 26 "WorksDesk" "book" "LWorksDesk$Book;") (List.mem_of_getElem? (i := 1) rfl)) (fun _ h9 => h9) rfl dX10_terms_11 ?_
    refine va_get (D := D) (ci := 2) (v := .ref (a 13)) (C := RX2) (T := TX2) (N := 12) hx hb hts nX10_terms_X2 hown hK hP 8 (wC_8 y a z) rfl 1 (by decide) (hts (.fieldLink RX10 80 "WorksDesk$Book" "clauses" "LWorksDesk$Terms;") (List.mem_of_getElem? (i := 2) rfl)) (fun _ h9 => h9) rfl dX10_terms_14 ?_
    refine lv_iload_n hx hb dX10_terms_17 rfl (lv_at hl 1 rfl) ?_
    obtain ⟨r4, h5, hm⟩ := zz_b1_some hm
    refine zz_calli (zz_runV (w := wC y a) (As := [.int x1]) (rest := []) ⟨hx, hb, hml, hown, hts⟩ (zX8_of l D y a H.size x1 z h5) (cwV 1 hts gX10_terms_X8_of rfl rfl rfl zdX8_of ⟨Nat.le_of_ble_eq_true rfl, Nat.le_of_ble_eq_true rfl⟩) hK hN hg hP hD hS hA 13 (wC_13 y a z) rfl rfl hl.1 rfl (Nat.le_of_ble_eq_true rfl) dX10_terms_18 ⟨Nat.le_of_ble_eq_true rfl, Nat.le_of_ble_eq_true rfl⟩) hD hS hA (fun H locs hP hD hS => ?_)
    refine lv_istore_n (lv' := [(3, .int r4), (0, .ref (a 0)), (1, .int x1), (2, .int x2)]) hx hb dX10_terms_21 rfl hl (by decide) rfl (fun ls hl => ?_)
    refine lv_iload_n hx hb dX10_terms_22 rfl (lv_at hl 0 rfl) ?_
    refine lv_iload_n hx hb dX10_terms_23 rfl (lv_at hl 3 rfl) ?_
    refine lv_icmp_ne (tgt := 30) hx hb dX10_terms_24 (by decide) (fun c6 => ?_) (fun c6 => ?_)
    · replace hm := zz_neg c6 hm
      refine lv_aload_n hx hb dX10_terms_30 rfl (lv_at hl 1 rfl) ?_
      refine va_get (D := D) (ci := 10) (v := .ref (a 8)) (C := RX10) (T := TX10) (N := 7) hx hb hts nX10_terms_X10 hown hK hP 0 (wC_0 y a z) rfl 2 (by decide) (hts (.fieldLink RX10 26 "WorksDesk" "book" "LWorksDesk$Book;") (List.mem_of_getElem? (i := 1) rfl)) (fun _ h9 => h9) rfl dX10_terms_31 ?_
      refine va_get (D := D) (ci := 2) (v := .ref (a 13)) (C := RX2) (T := TX2) (N := 12) hx hb hts nX10_terms_X2 hown hK hP 8 (wC_8 y a z) rfl 1 (by decide) (hts (.fieldLink RX10 80 "WorksDesk$Book" "clauses" "LWorksDesk$Terms;") (List.mem_of_getElem? (i := 2) rfl)) (fun _ h9 => h9) rfl dX10_terms_34 ?_
      refine lv_iload_n hx hb dX10_terms_37 rfl (lv_at hl 2 rfl) ?_
      refine lv_iload_n hx hb dX10_terms_38 rfl (lv_at hl 3 rfl) ?_
      obtain ⟨r7, z9, h8, hm⟩ := zz_b2_some hm
      refine zz_callv (zz_runV (w := wC y a) (As := [.int x1, .int x2]) (rest := []) ⟨hx, hb, hml, hown, hts⟩ (zX8_put l D y a H.size x1 x2 z h8) (cwV 2 hts gX10_terms_X8_put rfl rfl rfl zdX8_put ⟨Nat.le_of_ble_eq_true rfl, Nat.le_of_ble_eq_true rfl⟩) hK hN hg hP hD hS hA 13 (wC_13 y a z) rfl rfl hl.1 rfl (Nat.le_of_ble_eq_true rfl) dX10_terms_39 ⟨Nat.le_of_ble_eq_true rfl, Nat.le_of_ble_eq_true rfl⟩) hD hS hA (fun H locs hP hD hS => ?_)
      refine lv_iload_n hx hb dX10_terms_42 rfl (lv_at hl 0 rfl) ?_
      exact zz_iret hx hb hr hlocks (zz_some2 hm) hP hK hD hS dX10_terms_43
    · replace hm := zz_pos c6 hm
      refine lv_bipush (v := (-2 : Int32)) hx hb dX10_terms_27 (by decide) ?_
      exact zz_iret hx hb hr hlocks (zz_some2 hm) hP hK hD hS dX10_terms_29
  · replace hm := zz_pos c3 hm
    refine lv_iconst (v := (-1 : Int32)) hx hb dX10_terms_8 (by decide) ?_
    exact zz_iret hx hb hr hlocks (zz_some2 hm) hP hK hD hS dX10_terms_9
def mX10_were (x1 : Int32) (x2 : Int32) (z : zz_M) : Option (Int32 × zz_M) := zz_b1 (mX10_isDispute x1 x2 z) (fun r1 => if r1 = (0 : Int32) then (some ((-1 : Int32), z)) else (zz_b2 (mX4_reckon 64 z) (fun r4 z6 => zz_b2 (mX10_reckonAsIfDisputed x1 x2 z6) (fun r7 z9 => zz_b2 (mX10_tellTotalAndInterest z9) (fun r10 z12 => some ((0 : Int32), z12))))))
theorem nX10_were_X10 : ∀ w ∈ wsX100, w ∈ wsX10_were := fun _ h => List.mem_cons_of_mem _ (List.mem_append_left _ (List.mem_append_left _ (List.mem_append_left _ (List.mem_append_left _ (List.mem_append_left _ (List.mem_append_left _ (List.mem_append_left _ (List.mem_append_left _ (List.mem_append_right _ (h))))))))))
theorem zdX10_were : yX10_were.cls = RX10 ∧ yX10_were.cls ≠ "java/lang/invoke/MethodHandle" ∧ yX10_were.cls ≠ "java/lang/invoke/VarHandle" ∧ (parseMethodDescriptor yX10_were.desc).map (fun d => d.parameters.length) = some 2 := by decide +kernel
set_option maxHeartbeats 4000000 in
set_option maxRecDepth 100000 in
theorem zX10_were (l : Launch) (D : va_G) (y : Nat → ClassId) (a : Nat → Nat) (sz : Nat) (x1 : Int32) (x2 : Int32) (z : zz_M) {r : Int32} {zt : zz_M} (hm : mX10_were x1 x2 z = some (r, zt)) : Met l yX10_were wsX10_were { frames := 6, cells := 0, slots := 0, locals := 154 } (zz_Pc D y (wC y a z) sz [.ref (a 0), .int x1, .int x2]) (zz_Qi D y (wC y a) (va_A (wC y a z) sz) r zt) 0 0 (va_A (wC y a z) sz) := by
  refine Met.ofW (cc := cX10_were) (maxL := 3) (ret := (some .int)) (by decide) rfl ?_
  intro p e s m args below meth c s₁ B hml hv
  obtain ⟨rfl, hsz, hP, hK, hD0, hN, hg⟩ := hv
  have hx := B.exec
  have hb := B.bytes
  have hr := B.returns
  have hts := atoms_spec (ws := wsX10_were) B.pre
  have hown : s.vm.findClass RX10 = some m.cls := findClass_of_methodNamed B.named
  have hlocks := B.notSynchronized
  clear B
  subst hsz
  have hD := hD0.self (sz := s.heap.size)
  generalize hAe : va_A (wC y a z) s.heap.size = A at hD hg ⊢
  have hA : ∀ q : Nat, s.heap.size ≤ q → A q := fun q h => by rw [← hAe]; exact Or.inr h
  clear hAe hD0
  have hl := lv_entry ([.ref (a 0), .int x1, .int x2]) (n := 3) (Nat.le_of_ble_eq_true rfl)
  rw [lg_entry_eq]
  generalize (lg_sl ([.ref (a 0), .int x1, .int x2]) ++ List.replicate (3 - (lg_sl ([.ref (a 0), .int x1, .int x2])).length) Slot.unset).toArray = ls at hl ⊢
  replace hl : lv_has ls 3 [(0, .ref (a 0)), (1, .int x1), (2, .int x2)] := hl
  refine zz_go (w := wC y a) hP hD va_S.rf hl (fun G hG => ?_)
  clear hP hD hl ls
  rw [hG]
  intro H locs ls hP hD hS hl
  unfold mX10_were at hm
  refine lv_aload_n hx hb dX10_were_0 rfl (lv_at hl 0 rfl) ?_
  refine lv_iload_n hx hb dX10_were_1 rfl (lv_at hl 1 rfl) ?_
  refine lv_iload_n hx hb dX10_were_2 rfl (lv_at hl 2 rfl) ?_
  obtain ⟨r1, h2, hm⟩ := zz_b1_some hm
  refine zz_calli (zz_runV (w := wC y a) (As := [.int x1, .int x2]) (rest := []) ⟨hx, hb, hml, hown, hts⟩ (zX10_isDispute l D y a H.size x1 x2 z h2) (cwV 2 hts gX10_were_X10_isDispute rfl rfl rfl zdX10_isDispute ⟨Nat.le_of_ble_eq_true rfl, Nat.le_of_ble_eq_true rfl⟩) hK hN hg hP hD hS hA 0 (wC_0 y a z) rfl rfl hl.1 rfl (Nat.le_of_ble_eq_true rfl) dX10_were_3 ⟨Nat.le_of_ble_eq_true rfl, Nat.le_of_ble_eq_true rfl⟩) hD hS hA (fun H locs hP hD hS => ?_)
  refine lv_if_ne (tgt := 11) hx hb dX10_were_6 (by decide) (fun c3 => ?_) (fun c3 => ?_)
  · replace hm := zz_neg c3 hm
    refine lv_aload_n hx hb dX10_were_11 rfl (lv_at hl 0 rfl) ?_
    refine va_get (D := D) (ci := 10) (v := .ref (a 64)) (C := RX10) (T := TX10) (N := 7) hx hb hts nX10_were_X10 hown hK hP 0 (wC_0 y a z) rfl 3 (by decide) (hts (.fieldLink RX10 33 "WorksDesk" "real" "LWorksDesk$Figures;") (List.mem_of_getElem? (i := 1) rfl)) (fun _ h9 => h9) rfl dX10_were_12 ?_
    refine lv_aload_n hx hb dX10_were_15 rfl (lv_at hl 0 rfl) ?_
    refine va_get (D := D) (ci := 10) (v := .ref (a 8)) (C := RX10) (T := TX10) (N := 7) hx hb hts nX10_were_X10 hown hK hP 0 (wC_0 y a z) rfl 2 (by decide) (hts (.fieldLink RX10 26 "WorksDesk" "book" "LWorksDesk$Book;") (List.mem_of_getElem? (i := 2) rfl)) (fun _ h9 => h9) rfl dX10_were_16 ?_
    obtain ⟨r4, z6, h5, hm⟩ := zz_b2_some hm
    refine zz_callv (zz_runV (w := wC y a) (As := [.ref (a 8)]) (rest := []) ⟨hx, hb, hml, hown, hts⟩ (zX4_reckon l D y a H.size 64 (Or.inl rfl) z h5) (cwV 1 hts gX10_were_X4_reckon rfl rfl rfl zdX4_reckon ⟨Nat.le_of_ble_eq_true rfl, Nat.le_of_ble_eq_true rfl⟩) hK hN hg hP hD hS hA 64 (wC_fig y a z 64 (Or.inl rfl)) rfl rfl hl.1 rfl (Nat.le_of_ble_eq_true rfl) dX10_were_19 ⟨Nat.le_of_ble_eq_true rfl, Nat.le_of_ble_eq_true rfl⟩) hD hS hA (fun H locs hP hD hS => ?_)
    refine lv_aload_n hx hb dX10_were_22 rfl (lv_at hl 0 rfl) ?_
    refine lv_iload_n hx hb dX10_were_23 rfl (lv_at hl 1 rfl) ?_
    refine lv_iload_n hx hb dX10_were_24 rfl (lv_at hl 2 rfl) ?_
    obtain ⟨r7, z9, h8, hm⟩ := zz_b2_some hm
    refine zz_callv (zz_runV (w := wC y a) (As := [.int x1, .int x2]) (rest := []) ⟨hx, hb, hml, hown, hts⟩ (zX10_reckonAsIfDisputed l D y a H.size x1 x2 z6 h8) (cwV 2 hts gX10_were_X10_reckonAsIfDisputed rfl rfl rfl zdX10_reckonAsIfDisputed ⟨Nat.le_of_ble_eq_true rfl, Nat.le_of_ble_eq_true rfl⟩) hK hN hg hP hD hS hA 0 (wC_0 y a z6) rfl rfl hl.1 rfl (Nat.le_of_ble_eq_true rfl) dX10_were_25 ⟨Nat.le_of_ble_eq_true rfl, Nat.le_of_ble_eq_true rfl⟩) hD hS hA (fun H locs hP hD hS => ?_)
    refine lv_aload_n hx hb dX10_were_28 rfl (lv_at hl 0 rfl) ?_
    obtain ⟨r10, z12, h11, hm⟩ := zz_b2_some hm
    refine zz_callv (zz_runV (w := wC y a) (As := []) (rest := []) ⟨hx, hb, hml, hown, hts⟩ (zX10_tellTotalAndInterest l D y a H.size z9 h11) (cwV 0 hts gX10_were_X10_tellTotalAndInterest rfl rfl rfl zdX10_tellTotalAndInterest ⟨Nat.le_of_ble_eq_true rfl, Nat.le_of_ble_eq_true rfl⟩) hK hN hg hP hD hS hA 0 (wC_0 y a z9) rfl rfl hl.1 rfl (Nat.le_of_ble_eq_true rfl) dX10_were_29 ⟨Nat.le_of_ble_eq_true rfl, Nat.le_of_ble_eq_true rfl⟩) hD hS hA (fun H locs hP hD hS => ?_)
    refine lv_iconst (v := (0 : Int32)) hx hb dX10_were_32 (by decide) ?_
    exact zz_iret hx hb hr hlocks (zz_some2 hm) hP hK hD hS dX10_were_33
  · replace hm := zz_pos c3 hm
    refine lv_iconst (v := (-1 : Int32)) hx hb dX10_were_9 (by decide) ?_
    exact zz_iret hx hb hr hlocks (zz_some2 hm) hP hK hD hS dX10_were_10
def mX10_worst_b67 (k17 : Int32 → Int32 → Int32 → zz_M → Option (Int32 × zz_M)) (v1 : Int32) (v2 : Int32) (v3 : Int32) (z : zz_M) : Option (Int32 × zz_M) := zz_nm (v3 + (1 : Int32)) (fun n1 => k17 v1 v2 n1 z)
def mX10_worst_b49 (k17 : Int32 → Int32 → Int32 → zz_M → Option (Int32 × zz_M)) (v1 : Int32) (v2 : Int32) (v3 : Int32) (z : zz_M) : Option (Int32 × zz_M) := zz_b1 (mX4_of 64 (9 : Int32) v3 z) (fun r2 => if (lg_cmp r2 (0 : Int64)) ≤ (0 : Int32) then (mX10_worst_b67 k17 v1 v2 v3 z) else (zz_nm (v2 + (1 : Int32)) (fun n5 => mX10_worst_b67 k17 v1 n5 v3 z)))
def mX10_worst_b17 : Nat → Int32 → Int32 → Int32 → zz_M → Option (Int32 × zz_M)
  | 0, _, _, _, _ => none
  | n + 1, v1, v2, v3, z => if (24 : Int32) ≤ v3 then (zz_b1 (mX4_of 64 (9 : Int32) v1 z) (fun r7 => zz_b2 (mX5_start r7 z) (fun r9 z11 => zz_b2 (mX5_then v2.toInt64 z11) (fun r12 z14 => some (v1, z14))))) else (zz_b1 (mX4_of 64 (9 : Int32) v3 z) (fun r15 => zz_b1 (mX4_of 64 (9 : Int32) v1 z) (fun r17 => if (lg_cmp r15 r17) ≤ (0 : Int32) then (mX10_worst_b49 (mX10_worst_b17 n) v1 v2 v3 z) else (mX10_worst_b49 (mX10_worst_b17 n) v3 v2 v3 z))))
def mX10_worst (z : zz_M) : Option (Int32 × zz_M) := zz_b2 (mX4_reckon 64 z) (fun r20 z22 => mX10_worst_b17 zz_N (0 : Int32) (0 : Int32) (0 : Int32) z22)
theorem nX10_worst_X10 : ∀ w ∈ wsX100, w ∈ wsX10_worst := fun _ h => List.mem_cons_of_mem _ (List.mem_append_left _ (List.mem_append_left _ (List.mem_append_left _ (List.mem_append_left _ (List.mem_append_left _ (List.mem_append_left _ (List.mem_append_left _ (List.mem_append_left _ (List.mem_append_right _ (h))))))))))
theorem zdX10_worst : yX10_worst.cls = RX10 ∧ yX10_worst.cls ≠ "java/lang/invoke/MethodHandle" ∧ yX10_worst.cls ≠ "java/lang/invoke/VarHandle" ∧ (parseMethodDescriptor yX10_worst.desc).map (fun d => d.parameters.length) = some 0 := by decide +kernel
set_option maxHeartbeats 4000000 in
set_option maxRecDepth 100000 in
theorem zX10_worst (l : Launch) (D : va_G) (y : Nat → ClassId) (a : Nat → Nat) (sz : Nat) (z : zz_M) {r : Int32} {zt : zz_M} (hm : mX10_worst z = some (r, zt)) : Met l yX10_worst wsX10_worst { frames := 5, cells := 0, slots := 0, locals := 129 } (zz_Pc D y (wC y a z) sz [.ref (a 0)]) (zz_Qi D y (wC y a) (va_A (wC y a z) sz) r zt) 0 0 (va_A (wC y a z) sz) := by
  refine Met.ofW (cc := cX10_worst) (maxL := 4) (ret := (some .int)) (by decide) rfl ?_
  intro p e s m args below meth c s₁ B hml hv
  obtain ⟨rfl, hsz, hP, hK, hD0, hN, hg⟩ := hv
  have hx := B.exec
  have hb := B.bytes
  have hr := B.returns
  have hts := atoms_spec (ws := wsX10_worst) B.pre
  have hown : s.vm.findClass RX10 = some m.cls := findClass_of_methodNamed B.named
  have hlocks := B.notSynchronized
  clear B
  subst hsz
  have hD := hD0.self (sz := s.heap.size)
  generalize hAe : va_A (wC y a z) s.heap.size = A at hD hg ⊢
  have hA : ∀ q : Nat, s.heap.size ≤ q → A q := fun q h => by rw [← hAe]; exact Or.inr h
  clear hAe hD0
  have hl := lv_entry ([.ref (a 0)]) (n := 4) (Nat.le_of_ble_eq_true rfl)
  rw [lg_entry_eq]
  generalize (lg_sl ([.ref (a 0)]) ++ List.replicate (4 - (lg_sl ([.ref (a 0)])).length) Slot.unset).toArray = ls at hl ⊢
  replace hl : lv_has ls 4 [(0, .ref (a 0))] := hl
  refine zz_go (w := wC y a) hP hD va_S.rf hl (fun G hG => ?_)
  clear hP hD hl ls
  have J67 : ∀ (k17 : Int32 → Int32 → Int32 → zz_M → Option (Int32 × zz_M)) (K17 : ∀ (v1 : Int32) (v2 : Int32) (v3 : Int32) (z : zz_M), k17 v1 v2 v3 z = some (r, zt) → G 17 [(0, .ref (a 0)), (1, .int v1), (2, .int v2), (3, .int v3)] [] z) (v1 : Int32) (v2 : Int32) (v3 : Int32) (z : zz_M), mX10_worst_b67 k17 v1 v2 v3 z = some (r, zt) → G 67 [(0, .ref (a 0)), (1, .int v1), (2, .int v2), (3, .int v3)] [] z := by
    intro k17 K17 v1 v2 v3 z hm
    rw [mX10_worst_b67] at hm
    rw [hG]
    intro H locs ls hP hD hS hl
    obtain ⟨n1, en1⟩ : ∃ q : Int32, q = v3 + (1 : Int32) := ⟨_, rfl⟩
    replace hm := zz_nm_some en1 hm
    refine lv_iinc (v := n1) (lv' := [(3, .int n1), (0, .ref (a 0)), (1, .int v1), (2, .int v2)]) hx hb dX10_worst_67 hl (k := 3) rfl (by rw [en1]; rfl) (by decide) rfl (fun ls hl => ?_)
    refine lv_goto (tgt := 17) hx hb dX10_worst_70 (by decide) ?_
    have j := K17 v1 v2 n1 z hm
    rw [hG] at j
    exact j H locs ls hP hD hS (lv_sub hl [1, 2, 3, 0] rfl)
  have J49 : ∀ (k17 : Int32 → Int32 → Int32 → zz_M → Option (Int32 × zz_M)) (K17 : ∀ (v1 : Int32) (v2 : Int32) (v3 : Int32) (z : zz_M), k17 v1 v2 v3 z = some (r, zt) → G 17 [(0, .ref (a 0)), (1, .int v1), (2, .int v2), (3, .int v3)] [] z) (v1 : Int32) (v2 : Int32) (v3 : Int32) (z : zz_M), mX10_worst_b49 k17 v1 v2 v3 z = some (r, zt) → G 49 [(0, .ref (a 0)), (1, .int v1), (2, .int v2), (3, .int v3)] [] z := by
    intro k17 K17 v1 v2 v3 z hm
    rw [mX10_worst_b49] at hm
    rw [hG]
    intro H locs ls hP hD hS hl
    refine lv_aload_n hx hb dX10_worst_49 rfl (lv_at hl 0 rfl) ?_
    refine va_get (D := D) (ci := 10) (v := .ref (a 64)) (C := RX10) (T := TX10) (N := 7) hx hb hts nX10_worst_X10 hown hK hP 0 (wC_0 y a z) rfl 3 (by decide) (hts (.fieldLink RX10 33 "WorksDesk" "real" "LWorksDesk$Figures;") (List.mem_of_getElem? (i := 1) rfl)) (fun _ h9 => h9) rfl dX10_worst_50 ?_
    refine lv_bipush (v := (9 : Int32)) hx hb dX10_worst_53 (by decide) ?_
    refine lv_iload_n hx hb dX10_worst_55 rfl (lv_at hl 3 rfl) ?_
    obtain ⟨r2, h3, hm⟩ := zz_b1_some hm
    refine zz_calll (zz_runV (w := wC y a) (As := [.int (9 : Int32), .int v3]) (rest := []) ⟨hx, hb, hml, hown, hts⟩ (zX4_of l D y a H.size 64 (9 : Int32) v3 (Or.inl rfl) z h3) (cwV 2 hts gX10_worst_X4_of rfl rfl rfl zdX4_of ⟨Nat.le_of_ble_eq_true rfl, Nat.le_of_ble_eq_true rfl⟩) hK hN hg hP hD hS hA 64 (wC_fig y a z 64 (Or.inl rfl)) rfl rfl hl.1 rfl (Nat.le_of_ble_eq_true rfl) dX10_worst_56 ⟨Nat.le_of_ble_eq_true rfl, Nat.le_of_ble_eq_true rfl⟩) hD hS hA (fun H locs hP hD hS => ?_)
    refine lv_lconst (v := (0 : Int64)) hx hb dX10_worst_59 (by decide) ?_
    refine W.lcmp hx hb dX10_worst_60 ?_
    refine lv_if_le (tgt := 67) hx hb dX10_worst_61 (by decide) (fun c4 => ?_) (fun c4 => ?_)
    · replace hm := zz_pos c4 hm
      have j := J67 k17 K17 v1 v2 v3 z hm
      rw [hG] at j
      exact j H locs ls hP hD hS (lv_sub hl [0, 1, 2, 3] rfl)
    · replace hm := zz_neg c4 hm
      obtain ⟨n5, en5⟩ : ∃ q : Int32, q = v2 + (1 : Int32) := ⟨_, rfl⟩
      replace hm := zz_nm_some en5 hm
      refine lv_iinc (v := n5) (lv' := [(2, .int n5), (0, .ref (a 0)), (1, .int v1), (3, .int v3)]) hx hb dX10_worst_64 hl (k := 2) rfl (by rw [en5]; rfl) (by decide) rfl (fun ls hl => ?_)
      have j := J67 k17 K17 v1 n5 v3 z hm
      rw [hG] at j
      exact j H locs ls hP hD hS (lv_sub hl [1, 2, 0, 3] rfl)
  have J17 : ∀ (n : Nat) (v1 : Int32) (v2 : Int32) (v3 : Int32) (z : zz_M), mX10_worst_b17 n v1 v2 v3 z = some (r, zt) → G 17 [(0, .ref (a 0)), (1, .int v1), (2, .int v2), (3, .int v3)] [] z := by
    intro n
    induction n with
    | zero =>
      intro v1 v2 v3 z hm
      exact zz_none hm
    | succ n ih =>
      intro v1 v2 v3 z hm
      rw [mX10_worst_b17] at hm
      rw [hG]
      intro H locs ls hP hD hS hl
      refine lv_iload_n hx hb dX10_worst_17 rfl (lv_at hl 3 rfl) ?_
      refine lv_bipush (v := (24 : Int32)) hx hb dX10_worst_18 (by decide) ?_
      refine lv_icmp_ge (tgt := 73) hx hb dX10_worst_20 (by decide) (fun c6 => ?_) (fun c6 => ?_)
      · replace hm := zz_pos c6 hm
        refine lv_aload_n hx hb dX10_worst_73 rfl (lv_at hl 0 rfl) ?_
        refine va_get (D := D) (ci := 10) (v := .ref (a 99)) (C := RX10) (T := TX10) (N := 7) hx hb hts nX10_worst_X10 hown hK hP 0 (wC_0 y a z) rfl 6 (by decide) (hts (.fieldLink RX10 47 "WorksDesk" "lastRow" "LWorksDesk$Row;") (List.mem_of_getElem? (i := 3) rfl)) (fun _ h9 => h9) rfl dX10_worst_74 ?_
        refine lv_aload_n hx hb dX10_worst_77 rfl (lv_at hl 0 rfl) ?_
        refine va_get (D := D) (ci := 10) (v := .ref (a 64)) (C := RX10) (T := TX10) (N := 7) hx hb hts nX10_worst_X10 hown hK hP 0 (wC_0 y a z) rfl 3 (by decide) (hts (.fieldLink RX10 33 "WorksDesk" "real" "LWorksDesk$Figures;") (List.mem_of_getElem? (i := 1) rfl)) (fun _ h9 => h9) rfl dX10_worst_78 ?_
        refine lv_bipush (v := (9 : Int32)) hx hb dX10_worst_81 (by decide) ?_
        refine lv_iload_n hx hb dX10_worst_83 rfl (lv_at hl 1 rfl) ?_
        obtain ⟨r7, h8, hm⟩ := zz_b1_some hm
        refine zz_calll (zz_runV (w := wC y a) (As := [.int (9 : Int32), .int v1]) (rest := [.ref (a 99)]) ⟨hx, hb, hml, hown, hts⟩ (zX4_of l D y a H.size 64 (9 : Int32) v1 (Or.inl rfl) z h8) (cwV 2 hts gX10_worst_X4_of rfl rfl rfl zdX4_of ⟨Nat.le_of_ble_eq_true rfl, Nat.le_of_ble_eq_true rfl⟩) hK hN hg hP hD hS hA 64 (wC_fig y a z 64 (Or.inl rfl)) rfl rfl hl.1 rfl (Nat.le_of_ble_eq_true rfl) dX10_worst_84 ⟨Nat.le_of_ble_eq_true rfl, Nat.le_of_ble_eq_true rfl⟩) hD hS hA (fun H locs hP hD hS => ?_)
        obtain ⟨r9, z11, h10, hm⟩ := zz_b2_some hm
        refine zz_callr (zz_runV (w := wC y a) (As := [.long r7]) (rest := []) ⟨hx, hb, hml, hown, hts⟩ (zX5_start l D y a H.size r7 z h10) (cwV 1 hts gX10_worst_X5_start rfl rfl rfl zdX5_start ⟨Nat.le_of_ble_eq_true rfl, Nat.le_of_ble_eq_true rfl⟩) hK hN hg hP hD hS hA 99 (wC_99 y a z) rfl rfl hl.1 rfl (Nat.le_of_ble_eq_true rfl) dX10_worst_87 ⟨Nat.le_of_ble_eq_true rfl, Nat.le_of_ble_eq_true rfl⟩) hD hS hA (fun H locs hP hD hS => ?_)
        refine lv_iload_n hx hb dX10_worst_90 rfl (lv_at hl 2 rfl) ?_
        refine lv_i2l hx hb dX10_worst_91 rfl ?_
        obtain ⟨r12, z14, h13, hm⟩ := zz_b2_some hm
        refine zz_callr (zz_runV (w := wC y a) (As := [.long v2.toInt64]) (rest := []) ⟨hx, hb, hml, hown, hts⟩ (zX5_then l D y a H.size v2.toInt64 z11 h13) (cwV 1 hts gX10_worst_X5_then rfl rfl rfl zdX5_then ⟨Nat.le_of_ble_eq_true rfl, Nat.le_of_ble_eq_true rfl⟩) hK hN hg hP hD hS hA 99 (wC_99 y a z11) rfl rfl hl.1 rfl (Nat.le_of_ble_eq_true rfl) dX10_worst_92 ⟨Nat.le_of_ble_eq_true rfl, Nat.le_of_ble_eq_true rfl⟩) hD hS hA (fun H locs hP hD hS => ?_)
        refine lv_pop hx hb dX10_worst_95 rfl ?_
        refine lv_iload_n hx hb dX10_worst_96 rfl (lv_at hl 1 rfl) ?_
        exact zz_iret hx hb hr hlocks (zz_some2 hm) hP hK hD hS dX10_worst_97
      · replace hm := zz_neg c6 hm
        refine lv_aload_n hx hb dX10_worst_23 rfl (lv_at hl 0 rfl) ?_
        refine va_get (D := D) (ci := 10) (v := .ref (a 64)) (C := RX10) (T := TX10) (N := 7) hx hb hts nX10_worst_X10 hown hK hP 0 (wC_0 y a z) rfl 3 (by decide) (hts (.fieldLink RX10 33 "WorksDesk" "real" "LWorksDesk$Figures;") (List.mem_of_getElem? (i := 1) rfl)) (fun _ h9 => h9) rfl dX10_worst_24 ?_
        refine lv_bipush (v := (9 : Int32)) hx hb dX10_worst_27 (by decide) ?_
        refine lv_iload_n hx hb dX10_worst_29 rfl (lv_at hl 3 rfl) ?_
        obtain ⟨r15, h16, hm⟩ := zz_b1_some hm
        refine zz_calll (zz_runV (w := wC y a) (As := [.int (9 : Int32), .int v3]) (rest := []) ⟨hx, hb, hml, hown, hts⟩ (zX4_of l D y a H.size 64 (9 : Int32) v3 (Or.inl rfl) z h16) (cwV 2 hts gX10_worst_X4_of rfl rfl rfl zdX4_of ⟨Nat.le_of_ble_eq_true rfl, Nat.le_of_ble_eq_true rfl⟩) hK hN hg hP hD hS hA 64 (wC_fig y a z 64 (Or.inl rfl)) rfl rfl hl.1 rfl (Nat.le_of_ble_eq_true rfl) dX10_worst_30 ⟨Nat.le_of_ble_eq_true rfl, Nat.le_of_ble_eq_true rfl⟩) hD hS hA (fun H locs hP hD hS => ?_)
        refine lv_aload_n hx hb dX10_worst_33 rfl (lv_at hl 0 rfl) ?_
        refine va_get (D := D) (ci := 10) (v := .ref (a 64)) (C := RX10) (T := TX10) (N := 7) hx hb hts nX10_worst_X10 hown hK hP 0 (wC_0 y a z) rfl 3 (by decide) (hts (.fieldLink RX10 33 "WorksDesk" "real" "LWorksDesk$Figures;") (List.mem_of_getElem? (i := 1) rfl)) (fun _ h9 => h9) rfl dX10_worst_34 ?_
        refine lv_bipush (v := (9 : Int32)) hx hb dX10_worst_37 (by decide) ?_
        refine lv_iload_n hx hb dX10_worst_39 rfl (lv_at hl 1 rfl) ?_
        obtain ⟨r17, h18, hm⟩ := zz_b1_some hm
        refine zz_calll (zz_runV (w := wC y a) (As := [.int (9 : Int32), .int v1]) (rest := [.long r15]) ⟨hx, hb, hml, hown, hts⟩ (zX4_of l D y a H.size 64 (9 : Int32) v1 (Or.inl rfl) z h18) (cwV 2 hts gX10_worst_X4_of rfl rfl rfl zdX4_of ⟨Nat.le_of_ble_eq_true rfl, Nat.le_of_ble_eq_true rfl⟩) hK hN hg hP hD hS hA 64 (wC_fig y a z 64 (Or.inl rfl)) rfl rfl hl.1 rfl (Nat.le_of_ble_eq_true rfl) dX10_worst_40 ⟨Nat.le_of_ble_eq_true rfl, Nat.le_of_ble_eq_true rfl⟩) hD hS hA (fun H locs hP hD hS => ?_)
        refine W.lcmp hx hb dX10_worst_43 ?_
        refine lv_if_le (tgt := 49) hx hb dX10_worst_44 (by decide) (fun c19 => ?_) (fun c19 => ?_)
        · replace hm := zz_pos c19 hm
          have j := J49 (mX10_worst_b17 n) ih v1 v2 v3 z hm
          rw [hG] at j
          exact j H locs ls hP hD hS (lv_sub hl [0, 1, 2, 3] rfl)
        · replace hm := zz_neg c19 hm
          refine lv_iload_n hx hb dX10_worst_47 rfl (lv_at hl 3 rfl) ?_
          refine lv_istore_n (lv' := [(1, .int v3), (0, .ref (a 0)), (2, .int v2), (3, .int v3)]) hx hb dX10_worst_48 rfl hl (by decide) rfl (fun ls hl => ?_)
          have j := J49 (mX10_worst_b17 n) ih v3 v2 v3 z hm
          rw [hG] at j
          exact j H locs ls hP hD hS (lv_sub hl [1, 0, 2, 3] rfl)
  rw [hG]
  intro H locs ls hP hD hS hl
  unfold mX10_worst at hm
  refine lv_aload_n hx hb dX10_worst_0 rfl (lv_at hl 0 rfl) ?_
  refine va_get (D := D) (ci := 10) (v := .ref (a 64)) (C := RX10) (T := TX10) (N := 7) hx hb hts nX10_worst_X10 hown hK hP 0 (wC_0 y a z) rfl 3 (by decide) (hts (.fieldLink RX10 33 "WorksDesk" "real" "LWorksDesk$Figures;") (List.mem_of_getElem? (i := 1) rfl)) (fun _ h9 => h9) rfl dX10_worst_1 ?_
  refine lv_aload_n hx hb dX10_worst_4 rfl (lv_at hl 0 rfl) ?_
  refine va_get (D := D) (ci := 10) (v := .ref (a 8)) (C := RX10) (T := TX10) (N := 7) hx hb hts nX10_worst_X10 hown hK hP 0 (wC_0 y a z) rfl 2 (by decide) (hts (.fieldLink RX10 26 "WorksDesk" "book" "LWorksDesk$Book;") (List.mem_of_getElem? (i := 2) rfl)) (fun _ h9 => h9) rfl dX10_worst_5 ?_
  obtain ⟨r20, z22, h21, hm⟩ := zz_b2_some hm
  refine zz_callv (zz_runV (w := wC y a) (As := [.ref (a 8)]) (rest := []) ⟨hx, hb, hml, hown, hts⟩ (zX4_reckon l D y a H.size 64 (Or.inl rfl) z h21) (cwV 1 hts gX10_worst_X4_reckon rfl rfl rfl zdX4_reckon ⟨Nat.le_of_ble_eq_true rfl, Nat.le_of_ble_eq_true rfl⟩) hK hN hg hP hD hS hA 64 (wC_fig y a z 64 (Or.inl rfl)) rfl rfl hl.1 rfl (Nat.le_of_ble_eq_true rfl) dX10_worst_8 ⟨Nat.le_of_ble_eq_true rfl, Nat.le_of_ble_eq_true rfl⟩) hD hS hA (fun H locs hP hD hS => ?_)
  refine lv_iconst (v := (0 : Int32)) hx hb dX10_worst_11 (by decide) ?_
  refine lv_istore_n (lv' := [(1, .int (0 : Int32)), (0, .ref (a 0))]) hx hb dX10_worst_12 rfl hl (by decide) rfl (fun ls hl => ?_)
  refine lv_iconst (v := (0 : Int32)) hx hb dX10_worst_13 (by decide) ?_
  refine lv_istore_n (lv' := [(2, .int (0 : Int32)), (1, .int (0 : Int32)), (0, .ref (a 0))]) hx hb dX10_worst_14 rfl hl (by decide) rfl (fun ls hl => ?_)
  refine lv_iconst (v := (0 : Int32)) hx hb dX10_worst_15 (by decide) ?_
  refine lv_istore_n (lv' := [(3, .int (0 : Int32)), (2, .int (0 : Int32)), (1, .int (0 : Int32)), (0, .ref (a 0))]) hx hb dX10_worst_16 rfl hl (by decide) rfl (fun ls hl => ?_)
  have j := J17 zz_N (0 : Int32) (0 : Int32) (0 : Int32) z22 hm
  rw [hG] at j
  exact j H locs ls hP hD hS (lv_sub hl [3, 2, 1, 0] rfl)
def mX10_would (x1 : Int32) (x2 : Int32) (z : zz_M) : Option (Int32 × zz_M) := zz_b1 (mX8_allow x1 x2 z) (fun r1 => if r1 = (0 : Int32) then (some ((-1 : Int32), z)) else (zz_b1 (mX8_of x1 z) (fun r4 => zz_b2 (mX4_reckon 64 z) (fun r6 z8 => zz_b2 (mX8_put x1 x2 z8) (fun r9 z11 => zz_b2 (mX4_reckon 81 z11) (fun r12 z14 => zz_b2 (mX8_put x1 r4 z14) (fun r15 z17 => zz_b2 (mX10_tellTotalAndInterest z17) (fun r18 z20 => some ((0 : Int32), z20)))))))))
theorem nX10_would_X10 : ∀ w ∈ wsX100, w ∈ wsX10_would := fun _ h => List.mem_cons_of_mem _ (List.mem_append_left _ (List.mem_append_left _ (List.mem_append_left _ (List.mem_append_left _ (List.mem_append_left _ (List.mem_append_left _ (List.mem_append_left _ (List.mem_append_left _ (List.mem_append_right _ (h))))))))))
theorem nX10_would_X2 : ∀ w ∈ wsX20, w ∈ wsX10_would := fun _ h => List.mem_cons_of_mem _ (List.mem_append_left _ (List.mem_append_left _ (List.mem_append_left _ (List.mem_append_left _ (List.mem_append_left _ (List.mem_append_left _ (List.mem_append_left _ (List.mem_append_right _ (h)))))))))
theorem zdX10_would : yX10_would.cls = RX10 ∧ yX10_would.cls ≠ "java/lang/invoke/MethodHandle" ∧ yX10_would.cls ≠ "java/lang/invoke/VarHandle" ∧ (parseMethodDescriptor yX10_would.desc).map (fun d => d.parameters.length) = some 2 := by decide +kernel
set_option maxHeartbeats 4000000 in
set_option maxRecDepth 100000 in
theorem zX10_would (l : Launch) (D : va_G) (y : Nat → ClassId) (a : Nat → Nat) (sz : Nat) (x1 : Int32) (x2 : Int32) (z : zz_M) {r : Int32} {zt : zz_M} (hm : mX10_would x1 x2 z = some (r, zt)) : Met l yX10_would wsX10_would { frames := 5, cells := 0, slots := 0, locals := 129 } (zz_Pc D y (wC y a z) sz [.ref (a 0), .int x1, .int x2]) (zz_Qi D y (wC y a) (va_A (wC y a z) sz) r zt) 0 0 (va_A (wC y a z) sz) := by
  refine Met.ofW (cc := cX10_would) (maxL := 4) (ret := (some .int)) (by decide) rfl ?_
  intro p e s m args below meth c s₁ B hml hv
  obtain ⟨rfl, hsz, hP, hK, hD0, hN, hg⟩ := hv
  have hx := B.exec
  have hb := B.bytes
  have hr := B.returns
  have hts := atoms_spec (ws := wsX10_would) B.pre
  have hown : s.vm.findClass RX10 = some m.cls := findClass_of_methodNamed B.named
  have hlocks := B.notSynchronized
  clear B
  subst hsz
  have hD := hD0.self (sz := s.heap.size)
  generalize hAe : va_A (wC y a z) s.heap.size = A at hD hg ⊢
  have hA : ∀ q : Nat, s.heap.size ≤ q → A q := fun q h => by rw [← hAe]; exact Or.inr h
  clear hAe hD0
  have hl := lv_entry ([.ref (a 0), .int x1, .int x2]) (n := 4) (Nat.le_of_ble_eq_true rfl)
  rw [lg_entry_eq]
  generalize (lg_sl ([.ref (a 0), .int x1, .int x2]) ++ List.replicate (4 - (lg_sl ([.ref (a 0), .int x1, .int x2])).length) Slot.unset).toArray = ls at hl ⊢
  replace hl : lv_has ls 4 [(0, .ref (a 0)), (1, .int x1), (2, .int x2)] := hl
  refine zz_go (w := wC y a) hP hD va_S.rf hl (fun G hG => ?_)
  clear hP hD hl ls
  rw [hG]
  intro H locs ls hP hD hS hl
  unfold mX10_would at hm
  refine lv_iload_n hx hb dX10_would_0 rfl (lv_at hl 1 rfl) ?_
  refine lv_iload_n hx hb dX10_would_1 rfl (lv_at hl 2 rfl) ?_
  obtain ⟨r1, h2, hm⟩ := zz_b1_some hm
  refine zz_calli (zz_runS (w := wC y a) (As := [.int x1, .int x2]) (rest := []) ⟨hx, hb, hml, hown, hts⟩ (zX8_allow l D y a H.size x1 x2 z h2) (va_cwS 2 hts gX10_would_X8_allow rfl rfl rfl zdX8_allow ⟨Nat.le_of_ble_eq_true rfl, Nat.le_of_ble_eq_true rfl⟩) hK hN hg hP hD hS hA rfl hl.1 rfl (Nat.le_of_ble_eq_true rfl) dX10_would_2 ⟨Nat.le_of_ble_eq_true rfl, Nat.le_of_ble_eq_true rfl⟩) hD hS hA (fun H locs hP hD hS => ?_)
  refine lv_if_ne (tgt := 10) hx hb dX10_would_5 (by decide) (fun c3 => ?_) (fun c3 => ?_)
  · replace hm := zz_neg c3 hm
    refine lv_aload_n hx hb dX10_would_10 rfl (lv_at hl 0 rfl) ?_
    refine va_get (D := D) (ci := 10) (v := .ref (a 8)) (C := RX10) (T := TX10) (N := 7) hx hb hts nX10_would_X10 hown hK hP 0 (wC_0 y a z) rfl 2 (by decide) (hts (.fieldLink RX10 26 "WorksDesk" "book" "LWorksDesk$Book;") (List.mem_of_getElem? (i := 1) rfl)) (fun _ h9 => h9) rfl dX10_would_11 ?_
    refine va_get (D := D) (ci := 2) (v := .ref (a 13)) (C := RX2) (T := TX2) (N := 12) hx hb hts nX10_would_X2 hown hK hP 8 (wC_8 y a z) rfl 1 (by decide) (hts (.fieldLink RX10 80 "WorksDesk$Book" "clauses" "LWorksDesk$Terms;") (List.mem_of_getElem? (i := 2) rfl)) (fun _ h9 => h9) rfl dX10_would_14 ?_
    refine lv_iload_n hx hb dX10_would_17 rfl (lv_at hl 1 rfl) ?_
    obtain ⟨r4, h5, hm⟩ := zz_b1_some hm
    refine zz_calli (zz_runV (w := wC y a) (As := [.int x1]) (rest := []) ⟨hx, hb, hml, hown, hts⟩ (zX8_of l D y a H.size x1 z h5) (cwV 1 hts gX10_would_X8_of rfl rfl rfl zdX8_of ⟨Nat.le_of_ble_eq_true rfl, Nat.le_of_ble_eq_true rfl⟩) hK hN hg hP hD hS hA 13 (wC_13 y a z) rfl rfl hl.1 rfl (Nat.le_of_ble_eq_true rfl) dX10_would_18 ⟨Nat.le_of_ble_eq_true rfl, Nat.le_of_ble_eq_true rfl⟩) hD hS hA (fun H locs hP hD hS => ?_)
    refine lv_istore_n (lv' := [(3, .int r4), (0, .ref (a 0)), (1, .int x1), (2, .int x2)]) hx hb dX10_would_21 rfl hl (by decide) rfl (fun ls hl => ?_)
    refine lv_aload_n hx hb dX10_would_22 rfl (lv_at hl 1 rfl) ?_
    refine va_get (D := D) (ci := 10) (v := .ref (a 64)) (C := RX10) (T := TX10) (N := 7) hx hb hts nX10_would_X10 hown hK hP 0 (wC_0 y a z) rfl 3 (by decide) (hts (.fieldLink RX10 33 "WorksDesk" "real" "LWorksDesk$Figures;") (List.mem_of_getElem? (i := 3) rfl)) (fun _ h9 => h9) rfl dX10_would_23 ?_
    refine lv_aload_n hx hb dX10_would_26 rfl (lv_at hl 1 rfl) ?_
    refine va_get (D := D) (ci := 10) (v := .ref (a 8)) (C := RX10) (T := TX10) (N := 7) hx hb hts nX10_would_X10 hown hK hP 0 (wC_0 y a z) rfl 2 (by decide) (hts (.fieldLink RX10 26 "WorksDesk" "book" "LWorksDesk$Book;") (List.mem_of_getElem? (i := 1) rfl)) (fun _ h9 => h9) rfl dX10_would_27 ?_
    obtain ⟨r6, z8, h7, hm⟩ := zz_b2_some hm
    refine zz_callv (zz_runV (w := wC y a) (As := [.ref (a 8)]) (rest := []) ⟨hx, hb, hml, hown, hts⟩ (zX4_reckon l D y a H.size 64 (Or.inl rfl) z h7) (cwV 1 hts gX10_would_X4_reckon rfl rfl rfl zdX4_reckon ⟨Nat.le_of_ble_eq_true rfl, Nat.le_of_ble_eq_true rfl⟩) hK hN hg hP hD hS hA 64 (wC_fig y a z 64 (Or.inl rfl)) rfl rfl hl.1 rfl (Nat.le_of_ble_eq_true rfl) dX10_would_30 ⟨Nat.le_of_ble_eq_true rfl, Nat.le_of_ble_eq_true rfl⟩) hD hS hA (fun H locs hP hD hS => ?_)
    refine lv_aload_n hx hb dX10_would_33 rfl (lv_at hl 1 rfl) ?_
    refine va_get (D := D) (ci := 10) (v := .ref (a 8)) (C := RX10) (T := TX10) (N := 7) hx hb hts nX10_would_X10 hown hK hP 0 (wC_0 y a z8) rfl 2 (by decide) (hts (.fieldLink RX10 26 "WorksDesk" "book" "LWorksDesk$Book;") (List.mem_of_getElem? (i := 1) rfl)) (fun _ h9 => h9) rfl dX10_would_34 ?_
    refine va_get (D := D) (ci := 2) (v := .ref (a 13)) (C := RX2) (T := TX2) (N := 12) hx hb hts nX10_would_X2 hown hK hP 8 (wC_8 y a z8) rfl 1 (by decide) (hts (.fieldLink RX10 80 "WorksDesk$Book" "clauses" "LWorksDesk$Terms;") (List.mem_of_getElem? (i := 2) rfl)) (fun _ h9 => h9) rfl dX10_would_37 ?_
    refine lv_iload_n hx hb dX10_would_40 rfl (lv_at hl 2 rfl) ?_
    refine lv_iload_n hx hb dX10_would_41 rfl (lv_at hl 3 rfl) ?_
    obtain ⟨r9, z11, h10, hm⟩ := zz_b2_some hm
    refine zz_callv (zz_runV (w := wC y a) (As := [.int x1, .int x2]) (rest := []) ⟨hx, hb, hml, hown, hts⟩ (zX8_put l D y a H.size x1 x2 z8 h10) (cwV 2 hts gX10_would_X8_put rfl rfl rfl zdX8_put ⟨Nat.le_of_ble_eq_true rfl, Nat.le_of_ble_eq_true rfl⟩) hK hN hg hP hD hS hA 13 (wC_13 y a z8) rfl rfl hl.1 rfl (Nat.le_of_ble_eq_true rfl) dX10_would_42 ⟨Nat.le_of_ble_eq_true rfl, Nat.le_of_ble_eq_true rfl⟩) hD hS hA (fun H locs hP hD hS => ?_)
    refine lv_aload_n hx hb dX10_would_45 rfl (lv_at hl 1 rfl) ?_
    refine va_get (D := D) (ci := 10) (v := .ref (a 81)) (C := RX10) (T := TX10) (N := 7) hx hb hts nX10_would_X10 hown hK hP 0 (wC_0 y a z11) rfl 4 (by decide) (hts (.fieldLink RX10 37 "WorksDesk" "asIf" "LWorksDesk$Figures;") (List.mem_of_getElem? (i := 4) rfl)) (fun _ h9 => h9) rfl dX10_would_46 ?_
    refine lv_aload_n hx hb dX10_would_49 rfl (lv_at hl 1 rfl) ?_
    refine va_get (D := D) (ci := 10) (v := .ref (a 8)) (C := RX10) (T := TX10) (N := 7) hx hb hts nX10_would_X10 hown hK hP 0 (wC_0 y a z11) rfl 2 (by decide) (hts (.fieldLink RX10 26 "WorksDesk" "book" "LWorksDesk$Book;") (List.mem_of_getElem? (i := 1) rfl)) (fun _ h9 => h9) rfl dX10_would_50 ?_
    obtain ⟨r12, z14, h13, hm⟩ := zz_b2_some hm
    refine zz_callv (zz_runV (w := wC y a) (As := [.ref (a 8)]) (rest := []) ⟨hx, hb, hml, hown, hts⟩ (zX4_reckon l D y a H.size 81 (Or.inr rfl) z11 h13) (cwV 1 hts gX10_would_X4_reckon rfl rfl rfl zdX4_reckon ⟨Nat.le_of_ble_eq_true rfl, Nat.le_of_ble_eq_true rfl⟩) hK hN hg hP hD hS hA 81 (wC_fig y a z11 81 (Or.inr rfl)) rfl rfl hl.1 rfl (Nat.le_of_ble_eq_true rfl) dX10_would_53 ⟨Nat.le_of_ble_eq_true rfl, Nat.le_of_ble_eq_true rfl⟩) hD hS hA (fun H locs hP hD hS => ?_)
    refine lv_aload_n hx hb dX10_would_56 rfl (lv_at hl 1 rfl) ?_
    refine va_get (D := D) (ci := 10) (v := .ref (a 8)) (C := RX10) (T := TX10) (N := 7) hx hb hts nX10_would_X10 hown hK hP 0 (wC_0 y a z14) rfl 2 (by decide) (hts (.fieldLink RX10 26 "WorksDesk" "book" "LWorksDesk$Book;") (List.mem_of_getElem? (i := 1) rfl)) (fun _ h9 => h9) rfl dX10_would_57 ?_
    refine va_get (D := D) (ci := 2) (v := .ref (a 13)) (C := RX2) (T := TX2) (N := 12) hx hb hts nX10_would_X2 hown hK hP 8 (wC_8 y a z14) rfl 1 (by decide) (hts (.fieldLink RX10 80 "WorksDesk$Book" "clauses" "LWorksDesk$Terms;") (List.mem_of_getElem? (i := 2) rfl)) (fun _ h9 => h9) rfl dX10_would_60 ?_
    refine lv_iload_n hx hb dX10_would_63 rfl (lv_at hl 2 rfl) ?_
    refine lv_iload_n hx hb dX10_would_64 rfl (lv_at hl 0 rfl) ?_
    obtain ⟨r15, z17, h16, hm⟩ := zz_b2_some hm
    refine zz_callv (zz_runV (w := wC y a) (As := [.int x1, .int r4]) (rest := []) ⟨hx, hb, hml, hown, hts⟩ (zX8_put l D y a H.size x1 r4 z14 h16) (cwV 2 hts gX10_would_X8_put rfl rfl rfl zdX8_put ⟨Nat.le_of_ble_eq_true rfl, Nat.le_of_ble_eq_true rfl⟩) hK hN hg hP hD hS hA 13 (wC_13 y a z14) rfl rfl hl.1 rfl (Nat.le_of_ble_eq_true rfl) dX10_would_65 ⟨Nat.le_of_ble_eq_true rfl, Nat.le_of_ble_eq_true rfl⟩) hD hS hA (fun H locs hP hD hS => ?_)
    refine lv_aload_n hx hb dX10_would_68 rfl (lv_at hl 1 rfl) ?_
    obtain ⟨r18, z20, h19, hm⟩ := zz_b2_some hm
    refine zz_callv (zz_runV (w := wC y a) (As := []) (rest := []) ⟨hx, hb, hml, hown, hts⟩ (zX10_tellTotalAndInterest l D y a H.size z17 h19) (cwV 0 hts gX10_would_X10_tellTotalAndInterest rfl rfl rfl zdX10_tellTotalAndInterest ⟨Nat.le_of_ble_eq_true rfl, Nat.le_of_ble_eq_true rfl⟩) hK hN hg hP hD hS hA 0 (wC_0 y a z17) rfl rfl hl.1 rfl (Nat.le_of_ble_eq_true rfl) dX10_would_69 ⟨Nat.le_of_ble_eq_true rfl, Nat.le_of_ble_eq_true rfl⟩) hD hS hA (fun H locs hP hD hS => ?_)
    refine lv_iconst (v := (0 : Int32)) hx hb dX10_would_72 (by decide) ?_
    exact zz_iret hx hb hr hlocks (zz_some2 hm) hP hK hD hS dX10_would_73
  · replace hm := zz_pos c3 hm
    refine lv_iconst (v := (-1 : Int32)) hx hb dX10_would_8 (by decide) ?_
    exact zz_iret hx hb hr hlocks (zz_some2 hm) hP hK hD hS dX10_would_9
