def mX11_row_b35 (t0 : Int64) (z : zz_M) : Option (Int64 × zz_M) := some (t0, z)
def mX11_row (x1 : Int32) (z : zz_M) : Option (Int64 × zz_M) := zz_nm (zz_sF z 19 (0 : Int32)) (fun z1 => zz_b1 (mX11_in x1.toInt64 (0 : Int64) (((z1.2.2.1 18) - (1 : Int32)).toInt64)) (fun r2 => if r2 = (0 : Int32) then (zz_b2 (mX11_lost z1) (fun r5 z7 => mX11_row_b35 r5.toInt64 z7)) else (zz_ck (zz_in x1 32) (mX11_row_b35 (z1.2.1 10 x1.toNatClampNeg) z1))))
theorem nX11_row_X11 : ∀ w ∈ wsX110, w ∈ wsX11_row := fun _ h => List.mem_cons_of_mem _ (List.mem_append_right _ (h))
theorem zdX11_row : yX11_row.cls = RX11 ∧ yX11_row.cls ≠ "java/lang/invoke/MethodHandle" ∧ yX11_row.cls ≠ "java/lang/invoke/VarHandle" ∧ (parseMethodDescriptor yX11_row.desc).map (fun d => d.parameters.length) = some 1 := by decide +kernel
set_option maxHeartbeats 4000000 in
set_option maxRecDepth 100000 in
theorem zX11_row (l : Launch) (D : va_G) (y : Nat → ClassId) (a : Nat → Nat) (sz : Nat) (x1 : Int32) (z : zz_M) {r : Int64} {zt : zz_M} (hm : mX11_row x1 z = some (r, zt)) : Met l yX11_row wsX11_row { frames := 1, cells := 0, slots := 0, locals := 25 } (zz_Pc D y (wR y a z) sz [.ref (a 0), .int x1]) (zz_Ql D y (wR y a) (va_A (wR y a z) sz) r zt) 0 0 (va_A (wR y a z) sz) := by
  refine Met.ofW (cc := cX11_row) (maxL := 2) (ret := (some .long)) (by decide) rfl ?_
  intro p e s m args below meth c s₁ B hml hv
  obtain ⟨rfl, hsz, hP, hK, hD0, hN, hg⟩ := hv
  have hx := B.exec
  have hb := B.bytes
  have hr := B.returns
  have hts := atoms_spec (ws := wsX11_row) B.pre
  have hown : s.vm.findClass RX11 = some m.cls := findClass_of_methodNamed B.named
  have hlocks := B.notSynchronized
  clear B
  subst hsz
  have hD := hD0.self (sz := s.heap.size)
  generalize hAe : va_A (wR y a z) s.heap.size = A at hD hg ⊢
  have hA : ∀ q : Nat, s.heap.size ≤ q → A q := fun q h => by rw [← hAe]; exact Or.inr h
  clear hAe hD0
  have hl := lv_entry ([.ref (a 0), .int x1]) (n := 2) (Nat.le_of_ble_eq_true rfl)
  rw [lg_entry_eq]
  generalize (lg_sl ([.ref (a 0), .int x1]) ++ List.replicate (2 - (lg_sl ([.ref (a 0), .int x1])).length) Slot.unset).toArray = ls at hl ⊢
  replace hl : lv_has ls 2 [(0, .ref (a 0)), (1, .int x1)] := hl
  refine zz_go (w := wR y a) hP hD va_S.rf hl (fun G hG => ?_)
  clear hP hD hl ls
  have J35 : ∀ (t0 : Int64) (z : zz_M), mX11_row_b35 t0 z = some (r, zt) → G 35 [] [.long t0] z := by
    intro t0 z hm
    rw [mX11_row_b35] at hm
    rw [hG]
    intro H locs ls hP hD hS hl
    exact zz_lret hx hb hr hlocks (zz_some2 hm) hP hK hD hS dX11_row_35
  rw [hG]
  intro H locs ls hP hD hS hl
  unfold mX11_row at hm
  refine lv_aload_n hx hb dX11_row_0 rfl (lv_at hl 0 rfl) ?_
  refine lv_iconst (v := (0 : Int32)) hx hb dX11_row_1 (by decide) ?_
  refine va_put (D := D) (ci := 11) (v := .int (0 : Int32)) (ty := .int) (C := RX11) (T := TX11) (N := 35) hx hb hts nX11_row_X11 tyX11 tyX11_ok nmX11 hown hK hP hD hS 0 (wR_0 y a z) rfl 19 (by decide) (hts (.fieldLink RX11 97 "WorksDeskModel" "thrown" "I") (List.mem_of_getElem? (i := 1) rfl)) (fun _ h9 => h9) rfl (tyX11_ok 19 (by decide)) rfl rfl (Nat.le_of_ble_eq_true rfl) dX11_row_2 (fun H locs hP hD hS => ?_)
  obtain ⟨z1, hP, hD, hm⟩ := zz_up (w := wR y a) (wR_f19 y a z (0 : Int32)) hP hD hm
  refine lv_iload_n hx hb dX11_row_5 rfl (lv_at hl 1 rfl) ?_
  refine lv_i2l hx hb dX11_row_6 rfl ?_
  refine lv_lconst (v := (0 : Int64)) hx hb dX11_row_7 (by decide) ?_
  refine lv_aload_n hx hb dX11_row_8 rfl (lv_at hl 0 rfl) ?_
  refine va_get (D := D) (ci := 11) (v := .int (z1.2.2.1 18)) (C := RX11) (T := TX11) (N := 35) hx hb hts nX11_row_X11 hown hK hP 0 (wR_0 y a z1) rfl 18 (by decide) (hts (.fieldLink RX11 100 "WorksDeskModel" "rowMany" "I") (List.mem_of_getElem? (i := 2) rfl)) (fun _ h9 => h9) rfl dX11_row_9 ?_
  refine lv_iconst (v := (1 : Int32)) hx hb dX11_row_12 (by decide) ?_
  refine lv_isub hx hb dX11_row_13 ?_
  refine lv_i2l hx hb dX11_row_14 rfl ?_
  obtain ⟨r2, h3, hm⟩ := zz_b1_some hm
  refine zz_calli (zz_runS (w := wR y a) (As := [.long x1.toInt64, .long (0 : Int64), .long (((z1.2.2.1 18) - (1 : Int32)).toInt64)]) (rest := []) ⟨hx, hb, hml, hown, hts⟩ (zX11_in l D y a H.size x1.toInt64 (0 : Int64) (((z1.2.2.1 18) - (1 : Int32)).toInt64) z1 h3) (va_cwS 3 hts gX11_row_X11_in rfl rfl rfl zdX11_in ⟨Nat.le_of_ble_eq_true rfl, Nat.le_of_ble_eq_true rfl⟩) hK hN hg hP hD hS hA rfl hl.1 rfl (Nat.le_of_ble_eq_true rfl) dX11_row_15 ⟨Nat.le_of_ble_eq_true rfl, Nat.le_of_ble_eq_true rfl⟩) hD hS hA (fun H locs hP hD hS => ?_)
  refine lv_if_eq (tgt := 30) hx hb dX11_row_18 (by decide) (fun c4 => ?_) (fun c4 => ?_)
  · replace hm := zz_pos c4 hm
    refine lv_aload_n hx hb dX11_row_30 rfl (lv_at hl 0 rfl) ?_
    obtain ⟨r5, z7, h6, hm⟩ := zz_b2_some hm
    refine zz_calli (zz_runV (w := wR y a) (As := []) (rest := []) ⟨hx, hb, hml, hown, hts⟩ (zX11_lost l D y a H.size z1 h6) (cwV 0 hts gX11_row_X11_lost rfl rfl rfl zdX11_lost ⟨Nat.le_of_ble_eq_true rfl, Nat.le_of_ble_eq_true rfl⟩) hK hN hg hP hD hS hA 0 (wR_0 y a z1) rfl rfl hl.1 rfl (Nat.le_of_ble_eq_true rfl) dX11_row_31 ⟨Nat.le_of_ble_eq_true rfl, Nat.le_of_ble_eq_true rfl⟩) hD hS hA (fun H locs hP hD hS => ?_)
    refine lv_i2l hx hb dX11_row_34 rfl ?_
    have j := J35 r5.toInt64 z7 hm
    rw [hG] at j
    exact j H locs ls hP hD hS (lv_sub hl [] rfl)
  · replace hm := zz_neg c4 hm
    refine lv_aload_n hx hb dX11_row_21 rfl (lv_at hl 0 rfl) ?_
    refine va_get (D := D) (ci := 11) (v := .ref (a 10)) (C := RX11) (T := TX11) (N := 35) hx hb hts nX11_row_X11 hown hK hP 0 (wR_0 y a z1) rfl 17 (by decide) (hts (.fieldLink RX11 38 "WorksDeskModel" "row" "[J") (List.mem_of_getElem? (i := 3) rfl)) (fun _ h9 => h9) rfl dX11_row_22 ?_
    refine lv_iload_n hx hb dX11_row_25 rfl (lv_at hl 1 rfl) ?_
    obtain ⟨c8, hm⟩ := zz_ck_some hm
    refine va_lald hx hb hK hP 10 1 (wR_10 y a z1) rfl c8 dX11_row_26 ?_
    refine lv_goto (tgt := 35) hx hb dX11_row_27 (by decide) ?_
    have j := J35 (z1.2.1 10 x1.toNatClampNeg) z1 hm
    rw [hG] at j
    exact j H locs ls hP hD hS (lv_sub hl [] rfl)
def mX11_setsOff_b24 (z : zz_M) : Option (Int32 × zz_M) := some ((-1 : Int32), z)
def mX11_setsOff (x1 : Int32) (x2 : Int32) (z : zz_M) : Option (Int32 × zz_M) := zz_nm (zz_sF z 19 (0 : Int32)) (fun z1 => zz_b1 (mX11_isMonth x1) (fun r2 => if r2 = (0 : Int32) then (mX11_setsOff_b24 z1) else (zz_b1 (mX11_in x2.toInt64 (1 : Int64) (99999 : Int64)) (fun r5 => if r5 = (0 : Int32) then (mX11_setsOff_b24 z1) else (if (z1.2.2.1 8) = (6 : Int32) then (some ((-2 : Int32), z1)) else (zz_nm ((5 : Int32) * (z1.2.2.1 8)) (fun n9 => zz_ck (zz_in n9 30) (zz_nm (zz_wI z1 6 n9 x1) (fun z11 => zz_ck (zz_in (n9 + (1 : Int32)) 30) (zz_nm (zz_wI z11 6 (n9 + (1 : Int32)) x2) (fun z13 => zz_ck (zz_in (n9 + (2 : Int32)) 30) (zz_nm (zz_wI z13 6 (n9 + (2 : Int32)) (24 : Int32)) (fun z15 => zz_ck (zz_in (n9 + (3 : Int32)) 30) (zz_nm (zz_wI z15 6 (n9 + (3 : Int32)) (24 : Int32)) (fun z17 => zz_ck (zz_in (n9 + (4 : Int32)) 30) (zz_nm (zz_wI z17 6 (n9 + (4 : Int32)) (0 : Int32)) (fun z19 => zz_nm (zz_sF z19 8 ((z19.2.2.1 8) + (1 : Int32))) (fun z20 => some ((z20.2.2.1 8) - (1 : Int32), z20)))))))))))))))))))
theorem nX11_setsOff_X11 : ∀ w ∈ wsX110, w ∈ wsX11_setsOff := fun _ h => List.mem_cons_of_mem _ (List.mem_append_right _ (h))
theorem zdX11_setsOff : yX11_setsOff.cls = RX11 ∧ yX11_setsOff.cls ≠ "java/lang/invoke/MethodHandle" ∧ yX11_setsOff.cls ≠ "java/lang/invoke/VarHandle" ∧ (parseMethodDescriptor yX11_setsOff.desc).map (fun d => d.parameters.length) = some 2 := by decide +kernel
set_option maxHeartbeats 4000000 in
set_option maxRecDepth 100000 in
theorem zX11_setsOff (l : Launch) (D : va_G) (y : Nat → ClassId) (a : Nat → Nat) (sz : Nat) (x1 : Int32) (x2 : Int32) (z : zz_M) {r : Int32} {zt : zz_M} (hm : mX11_setsOff x1 x2 z = some (r, zt)) : Met l yX11_setsOff wsX11_setsOff { frames := 2, cells := 0, slots := 0, locals := 45 } (zz_Pc D y (wR y a z) sz [.ref (a 0), .int x1, .int x2]) (zz_Qi D y (wR y a) (va_A (wR y a z) sz) r zt) 0 0 (va_A (wR y a z) sz) := by
  refine Met.ofW (cc := cX11_setsOff) (maxL := 4) (ret := (some .int)) (by decide) rfl ?_
  intro p e s m args below meth c s₁ B hml hv
  obtain ⟨rfl, hsz, hP, hK, hD0, hN, hg⟩ := hv
  have hx := B.exec
  have hb := B.bytes
  have hr := B.returns
  have hts := atoms_spec (ws := wsX11_setsOff) B.pre
  have hown : s.vm.findClass RX11 = some m.cls := findClass_of_methodNamed B.named
  have hlocks := B.notSynchronized
  clear B
  subst hsz
  have hD := hD0.self (sz := s.heap.size)
  generalize hAe : va_A (wR y a z) s.heap.size = A at hD hg ⊢
  have hA : ∀ q : Nat, s.heap.size ≤ q → A q := fun q h => by rw [← hAe]; exact Or.inr h
  clear hAe hD0
  have hl := lv_entry ([.ref (a 0), .int x1, .int x2]) (n := 4) (Nat.le_of_ble_eq_true rfl)
  rw [lg_entry_eq]
  generalize (lg_sl ([.ref (a 0), .int x1, .int x2]) ++ List.replicate (4 - (lg_sl ([.ref (a 0), .int x1, .int x2])).length) Slot.unset).toArray = ls at hl ⊢
  replace hl : lv_has ls 4 [(0, .ref (a 0)), (1, .int x1), (2, .int x2)] := hl
  refine zz_go (w := wR y a) hP hD va_S.rf hl (fun G hG => ?_)
  clear hP hD hl ls
  have J24 : ∀ (z : zz_M), mX11_setsOff_b24 z = some (r, zt) → G 24 [] [] z := by
    intro z hm
    rw [mX11_setsOff_b24] at hm
    rw [hG]
    intro H locs ls hP hD hS hl
    refine lv_iconst (v := (-1 : Int32)) hx hb dX11_setsOff_24 (by decide) ?_
    exact zz_iret hx hb hr hlocks (zz_some2 hm) hP hK hD hS dX11_setsOff_25
  rw [hG]
  intro H locs ls hP hD hS hl
  unfold mX11_setsOff at hm
  refine lv_aload_n hx hb dX11_setsOff_0 rfl (lv_at hl 0 rfl) ?_
  refine lv_iconst (v := (0 : Int32)) hx hb dX11_setsOff_1 (by decide) ?_
  refine va_put (D := D) (ci := 11) (v := .int (0 : Int32)) (ty := .int) (C := RX11) (T := TX11) (N := 35) hx hb hts nX11_setsOff_X11 tyX11 tyX11_ok nmX11 hown hK hP hD hS 0 (wR_0 y a z) rfl 19 (by decide) (hts (.fieldLink RX11 97 "WorksDeskModel" "thrown" "I") (List.mem_of_getElem? (i := 1) rfl)) (fun _ h9 => h9) rfl (tyX11_ok 19 (by decide)) rfl rfl (Nat.le_of_ble_eq_true rfl) dX11_setsOff_2 (fun H locs hP hD hS => ?_)
  obtain ⟨z1, hP, hD, hm⟩ := zz_up (w := wR y a) (wR_f19 y a z (0 : Int32)) hP hD hm
  refine lv_iload_n hx hb dX11_setsOff_5 rfl (lv_at hl 1 rfl) ?_
  obtain ⟨r2, h3, hm⟩ := zz_b1_some hm
  refine zz_calli (zz_runS (w := wR y a) (As := [.int x1]) (rest := []) ⟨hx, hb, hml, hown, hts⟩ (zX11_isMonth l D y a H.size x1 z1 h3) (va_cwS 1 hts gX11_setsOff_X11_isMonth rfl rfl rfl zdX11_isMonth ⟨Nat.le_of_ble_eq_true rfl, Nat.le_of_ble_eq_true rfl⟩) hK hN hg hP hD hS hA rfl hl.1 rfl (Nat.le_of_ble_eq_true rfl) dX11_setsOff_6 ⟨Nat.le_of_ble_eq_true rfl, Nat.le_of_ble_eq_true rfl⟩) hD hS hA (fun H locs hP hD hS => ?_)
  refine lv_if_eq (tgt := 24) hx hb dX11_setsOff_9 (by decide) (fun c4 => ?_) (fun c4 => ?_)
  · replace hm := zz_pos c4 hm
    have j := J24 z1 hm
    rw [hG] at j
    exact j H locs ls hP hD hS (lv_sub hl [] rfl)
  · replace hm := zz_neg c4 hm
    refine lv_iload_n hx hb dX11_setsOff_12 rfl (lv_at hl 2 rfl) ?_
    refine lv_i2l hx hb dX11_setsOff_13 rfl ?_
    refine lv_lconst (v := (1 : Int64)) hx hb dX11_setsOff_14 (by decide) ?_
    refine lv_ldc2 (v := (99999 : Int64)) hx hb hown (hts (.constantLong RX11 169 (99999)) (List.mem_of_getElem? (i := 2) rfl)) dX11_setsOff_15 ?_
    obtain ⟨r5, h6, hm⟩ := zz_b1_some hm
    refine zz_calli (zz_runS (w := wR y a) (As := [.long x2.toInt64, .long (1 : Int64), .long (99999 : Int64)]) (rest := []) ⟨hx, hb, hml, hown, hts⟩ (zX11_in l D y a H.size x2.toInt64 (1 : Int64) (99999 : Int64) z1 h6) (va_cwS 3 hts gX11_setsOff_X11_in rfl rfl rfl zdX11_in ⟨Nat.le_of_ble_eq_true rfl, Nat.le_of_ble_eq_true rfl⟩) hK hN hg hP hD hS hA rfl hl.1 rfl (Nat.le_of_ble_eq_true rfl) dX11_setsOff_18 ⟨Nat.le_of_ble_eq_true rfl, Nat.le_of_ble_eq_true rfl⟩) hD hS hA (fun H locs hP hD hS => ?_)
    refine lv_if_ne (tgt := 26) hx hb dX11_setsOff_21 (by decide) (fun c7 => ?_) (fun c7 => ?_)
    · replace hm := zz_neg c7 hm
      refine lv_aload_n hx hb dX11_setsOff_26 rfl (lv_at hl 0 rfl) ?_
      refine va_get (D := D) (ci := 11) (v := .int (z1.2.2.1 8)) (C := RX11) (T := TX11) (N := 35) hx hb hts nX11_setsOff_X11 hown hK hP 0 (wR_0 y a z1) rfl 8 (by decide) (hts (.fieldLink RX11 82 "WorksDeskModel" "setMany" "I") (List.mem_of_getElem? (i := 3) rfl)) (fun _ h9 => h9) rfl dX11_setsOff_27 ?_
      refine lv_bipush (v := (6 : Int32)) hx hb dX11_setsOff_30 (by decide) ?_
      refine lv_icmp_ne (tgt := 38) hx hb dX11_setsOff_32 (by decide) (fun c8 => ?_) (fun c8 => ?_)
      · replace hm := zz_neg c8 hm
        refine lv_iconst (v := (5 : Int32)) hx hb dX11_setsOff_38 (by decide) ?_
        refine lv_aload_n hx hb dX11_setsOff_39 rfl (lv_at hl 0 rfl) ?_
        refine va_get (D := D) (ci := 11) (v := .int (z1.2.2.1 8)) (C := RX11) (T := TX11) (N := 35) hx hb hts nX11_setsOff_X11 hown hK hP 0 (wR_0 y a z1) rfl 8 (by decide) (hts (.fieldLink RX11 82 "WorksDeskModel" "setMany" "I") (List.mem_of_getElem? (i := 3) rfl)) (fun _ h9 => h9) rfl dX11_setsOff_40 ?_
        refine lv_imul hx hb dX11_setsOff_43 ?_
        refine lv_topi (fun n9 en9 => ?_)
        replace hm := zz_nm_some en9 hm
        refine lv_istore_n (lv' := [(3, .int n9), (0, .ref (a 0)), (1, .int x1), (2, .int x2)]) hx hb dX11_setsOff_44 rfl hl (by decide) rfl (fun ls hl => ?_)
        refine lv_aload_n hx hb dX11_setsOff_45 rfl (lv_at hl 1 rfl) ?_
        refine va_get (D := D) (ci := 11) (v := .ref (a 6)) (C := RX11) (T := TX11) (N := 35) hx hb hts nX11_setsOff_X11 hown hK hP 0 (wR_0 y a z1) rfl 7 (by decide) (hts (.fieldLink RX11 25 "WorksDeskModel" "sets" "[I") (List.mem_of_getElem? (i := 4) rfl)) (fun _ h9 => h9) rfl dX11_setsOff_46 ?_
        refine lv_iload_n hx hb dX11_setsOff_49 rfl (lv_at hl 0 rfl) ?_
        refine lv_iload_n hx hb dX11_setsOff_50 rfl (lv_at hl 2 rfl) ?_
        obtain ⟨c10, hm⟩ := zz_ck_some hm
        refine va_iast hx hb hK hP hD hS 6 0 (wR_6 y a z1) rfl c10 dX11_setsOff_51 (fun H locs hP hD hS => ?_)
        obtain ⟨z11, hP, hD, hm⟩ := zz_up (w := wR y a) (wR_w6 y a z1 n9 x1) hP hD hm
        refine lv_aload_n hx hb dX11_setsOff_52 rfl (lv_at hl 1 rfl) ?_
        refine va_get (D := D) (ci := 11) (v := .ref (a 6)) (C := RX11) (T := TX11) (N := 35) hx hb hts nX11_setsOff_X11 hown hK hP 0 (wR_0 y a z11) rfl 7 (by decide) (hts (.fieldLink RX11 25 "WorksDeskModel" "sets" "[I") (List.mem_of_getElem? (i := 4) rfl)) (fun _ h9 => h9) rfl dX11_setsOff_53 ?_
        refine lv_iload_n hx hb dX11_setsOff_56 rfl (lv_at hl 0 rfl) ?_
        refine lv_iconst (v := (1 : Int32)) hx hb dX11_setsOff_57 (by decide) ?_
        refine lv_iadd hx hb dX11_setsOff_58 ?_
        refine lv_iload_n hx hb dX11_setsOff_59 rfl (lv_at hl 3 rfl) ?_
        obtain ⟨c12, hm⟩ := zz_ck_some hm
        refine va_iast hx hb hK hP hD hS 6 0 (wR_6 y a z11) rfl c12 dX11_setsOff_60 (fun H locs hP hD hS => ?_)
        obtain ⟨z13, hP, hD, hm⟩ := zz_up (w := wR y a) (wR_w6 y a z11 (n9 + (1 : Int32)) x2) hP hD hm
        refine lv_aload_n hx hb dX11_setsOff_61 rfl (lv_at hl 1 rfl) ?_
        refine va_get (D := D) (ci := 11) (v := .ref (a 6)) (C := RX11) (T := TX11) (N := 35) hx hb hts nX11_setsOff_X11 hown hK hP 0 (wR_0 y a z13) rfl 7 (by decide) (hts (.fieldLink RX11 25 "WorksDeskModel" "sets" "[I") (List.mem_of_getElem? (i := 4) rfl)) (fun _ h9 => h9) rfl dX11_setsOff_62 ?_
        refine lv_iload_n hx hb dX11_setsOff_65 rfl (lv_at hl 0 rfl) ?_
        refine lv_iconst (v := (2 : Int32)) hx hb dX11_setsOff_66 (by decide) ?_
        refine lv_iadd hx hb dX11_setsOff_67 ?_
        refine lv_bipush (v := (24 : Int32)) hx hb dX11_setsOff_68 (by decide) ?_
        obtain ⟨c14, hm⟩ := zz_ck_some hm
        refine va_iast hx hb hK hP hD hS 6 0 (wR_6 y a z13) rfl c14 dX11_setsOff_70 (fun H locs hP hD hS => ?_)
        obtain ⟨z15, hP, hD, hm⟩ := zz_up (w := wR y a) (wR_w6 y a z13 (n9 + (2 : Int32)) (24 : Int32)) hP hD hm
        refine lv_aload_n hx hb dX11_setsOff_71 rfl (lv_at hl 1 rfl) ?_
        refine va_get (D := D) (ci := 11) (v := .ref (a 6)) (C := RX11) (T := TX11) (N := 35) hx hb hts nX11_setsOff_X11 hown hK hP 0 (wR_0 y a z15) rfl 7 (by decide) (hts (.fieldLink RX11 25 "WorksDeskModel" "sets" "[I") (List.mem_of_getElem? (i := 4) rfl)) (fun _ h9 => h9) rfl dX11_setsOff_72 ?_
        refine lv_iload_n hx hb dX11_setsOff_75 rfl (lv_at hl 0 rfl) ?_
        refine lv_iconst (v := (3 : Int32)) hx hb dX11_setsOff_76 (by decide) ?_
        refine lv_iadd hx hb dX11_setsOff_77 ?_
        refine lv_bipush (v := (24 : Int32)) hx hb dX11_setsOff_78 (by decide) ?_
        obtain ⟨c16, hm⟩ := zz_ck_some hm
        refine va_iast hx hb hK hP hD hS 6 0 (wR_6 y a z15) rfl c16 dX11_setsOff_80 (fun H locs hP hD hS => ?_)
        obtain ⟨z17, hP, hD, hm⟩ := zz_up (w := wR y a) (wR_w6 y a z15 (n9 + (3 : Int32)) (24 : Int32)) hP hD hm
        refine lv_aload_n hx hb dX11_setsOff_81 rfl (lv_at hl 1 rfl) ?_
        refine va_get (D := D) (ci := 11) (v := .ref (a 6)) (C := RX11) (T := TX11) (N := 35) hx hb hts nX11_setsOff_X11 hown hK hP 0 (wR_0 y a z17) rfl 7 (by decide) (hts (.fieldLink RX11 25 "WorksDeskModel" "sets" "[I") (List.mem_of_getElem? (i := 4) rfl)) (fun _ h9 => h9) rfl dX11_setsOff_82 ?_
        refine lv_iload_n hx hb dX11_setsOff_85 rfl (lv_at hl 0 rfl) ?_
        refine lv_iconst (v := (4 : Int32)) hx hb dX11_setsOff_86 (by decide) ?_
        refine lv_iadd hx hb dX11_setsOff_87 ?_
        refine lv_iconst (v := (0 : Int32)) hx hb dX11_setsOff_88 (by decide) ?_
        obtain ⟨c18, hm⟩ := zz_ck_some hm
        refine va_iast hx hb hK hP hD hS 6 0 (wR_6 y a z17) rfl c18 dX11_setsOff_89 (fun H locs hP hD hS => ?_)
        obtain ⟨z19, hP, hD, hm⟩ := zz_up (w := wR y a) (wR_w6 y a z17 (n9 + (4 : Int32)) (0 : Int32)) hP hD hm
        refine lv_aload_n hx hb dX11_setsOff_90 rfl (lv_at hl 1 rfl) ?_
        refine lv_dup hx hb dX11_setsOff_91 rfl ?_
        refine va_get (D := D) (ci := 11) (v := .int (z19.2.2.1 8)) (C := RX11) (T := TX11) (N := 35) hx hb hts nX11_setsOff_X11 hown hK hP 0 (wR_0 y a z19) rfl 8 (by decide) (hts (.fieldLink RX11 82 "WorksDeskModel" "setMany" "I") (List.mem_of_getElem? (i := 3) rfl)) (fun _ h9 => h9) rfl dX11_setsOff_92 ?_
        refine lv_iconst (v := (1 : Int32)) hx hb dX11_setsOff_95 (by decide) ?_
        refine lv_iadd hx hb dX11_setsOff_96 ?_
        refine va_put (D := D) (ci := 11) (v := .int ((z19.2.2.1 8) + (1 : Int32))) (ty := .int) (C := RX11) (T := TX11) (N := 35) hx hb hts nX11_setsOff_X11 tyX11 tyX11_ok nmX11 hown hK hP hD hS 0 (wR_0 y a z19) rfl 8 (by decide) (hts (.fieldLink RX11 82 "WorksDeskModel" "setMany" "I") (List.mem_of_getElem? (i := 3) rfl)) (fun _ h9 => h9) rfl (tyX11_ok 8 (by decide)) rfl rfl (Nat.le_of_ble_eq_true rfl) dX11_setsOff_97 (fun H locs hP hD hS => ?_)
        obtain ⟨z20, hP, hD, hm⟩ := zz_up (w := wR y a) (wR_f8 y a z19 ((z19.2.2.1 8) + (1 : Int32))) hP hD hm
        refine lv_aload_n hx hb dX11_setsOff_100 rfl (lv_at hl 1 rfl) ?_
        refine va_get (D := D) (ci := 11) (v := .int (z20.2.2.1 8)) (C := RX11) (T := TX11) (N := 35) hx hb hts nX11_setsOff_X11 hown hK hP 0 (wR_0 y a z20) rfl 8 (by decide) (hts (.fieldLink RX11 82 "WorksDeskModel" "setMany" "I") (List.mem_of_getElem? (i := 3) rfl)) (fun _ h9 => h9) rfl dX11_setsOff_101 ?_
        refine lv_iconst (v := (1 : Int32)) hx hb dX11_setsOff_104 (by decide) ?_
        refine lv_isub hx hb dX11_setsOff_105 ?_
        exact zz_iret hx hb hr hlocks (zz_some2 hm) hP hK hD hS dX11_setsOff_106
      · replace hm := zz_pos c8 hm
        refine lv_bipush (v := (-2 : Int32)) hx hb dX11_setsOff_35 (by decide) ?_
        exact zz_iret hx hb hr hlocks (zz_some2 hm) hP hK hD hS dX11_setsOff_37
    · replace hm := zz_pos c7 hm
      have j := J24 z1 hm
      rw [hG] at j
      exact j H locs ls hP hD hS (lv_sub hl [] rfl)
def mX11_shifts_b146 (v6 : Int32) (t0 : Int64) (z : zz_M) : Option (Int32 × zz_M) := zz_b2 (mX11_tell t0 z) (fun r1 z3 => zz_ck (zz_in (23 : Int32) 24) (zz_b2 (mX11_tell ((z3.2.1 16 (23 : Int32).toNatClampNeg) - (z3.2.2.2 33)) z3) (fun r5 z7 => some (v6, z7))))
def mX11_shifts_b102 (k69 : Int32 → Int32 → Int32 → zz_M → Option (Int32 × zz_M)) (v6 : Int32) (v7 : Int32) (v8 : Int32) (z : zz_M) : Option (Int32 × zz_M) := zz_nm (v8 + (-1 : Int32)) (fun n8 => k69 v6 v7 n8 z)
def mX11_shifts_b69 : Nat → Int32 → Int32 → Int32 → zz_M → Option (Int32 × zz_M)
  | 0, _, _, _, _ => none
  | n + 1, v6, v7, v8, z => if v8 < (0 : Int32) then (zz_nm (zz_sF z 18 (0 : Int32)) (fun z10 => zz_b2 (mX11_tell v7.toInt64 z10) (fun r11 z13 => if v7 = (-1 : Int32) then (mX11_shifts_b146 v6 (0 : Int64) z13) else (zz_ck (zz_in v7 24) (zz_ck (zz_in v7 24) (mX11_shifts_b146 v6 ((z13.2.1 15 v7.toNatClampNeg) - (z13.2.1 20 v7.toNatClampNeg)) z13)))))) else (zz_ck (zz_in v8 24) (zz_ck (zz_in v8 24) (if (lg_cmp (z.2.1 15 v8.toNatClampNeg) (z.2.1 20 v8.toNatClampNeg)) = (0 : Int32) then (mX11_shifts_b102 (mX11_shifts_b69 n) v6 v7 v8 z) else (zz_nm (v6 + (1 : Int32)) (fun n20 => mX11_shifts_b102 (mX11_shifts_b69 n) n20 v8 v8 z)))))
def mX11_shifts (x1 : Int32) (x2 : Int32) (x3 : Int32) (z : zz_M) : Option (Int32 × zz_M) := zz_nm (zz_sF z 19 (0 : Int32)) (fun z21 => zz_b1 (mX11_isMeasure x1 x2 x3 z21) (fun r22 => if r22 = (0 : Int32) then (some ((-1 : Int32), z21)) else (zz_nm (((10 : Int32) * x1) + x2) (fun n25 => zz_ck (zz_in n25 240) (zz_nm (z21.1 3 n25.toNatClampNeg) (fun n27 => zz_b2 (mX11_layAside z21) (fun r28 z30 => zz_ck (zz_in n25 240) (zz_nm (zz_wI z30 3 n25 x3) (fun z32 => zz_b2 (mX11_layMonths z32) (fun r33 z35 => zz_ck (zz_in n25 240) (zz_nm (zz_wI z35 3 n25 n27) (fun z37 => mX11_shifts_b69 zz_N (0 : Int32) (-1 : Int32) (23 : Int32) z37))))))))))))
theorem nX11_shifts_X11 : ∀ w ∈ wsX110, w ∈ wsX11_shifts := fun _ h => List.mem_cons_of_mem _ (List.mem_append_right _ (h))
theorem zdX11_shifts : yX11_shifts.cls = RX11 ∧ yX11_shifts.cls ≠ "java/lang/invoke/MethodHandle" ∧ yX11_shifts.cls ≠ "java/lang/invoke/VarHandle" ∧ (parseMethodDescriptor yX11_shifts.desc).map (fun d => d.parameters.length) = some 3 := by decide +kernel
set_option maxHeartbeats 4000000 in
set_option maxRecDepth 100000 in
theorem zX11_shifts (l : Launch) (D : va_G) (y : Nat → ClassId) (a : Nat → Nat) (sz : Nat) (x1 : Int32) (x2 : Int32) (x3 : Int32) (z : zz_M) {r : Int32} {zt : zz_M} (hm : mX11_shifts x1 x2 x3 z = some (r, zt)) : Met l yX11_shifts wsX11_shifts { frames := 8, cells := 0, slots := 0, locals := 196 } (zz_Pc D y (wR y a z) sz [.ref (a 0), .int x1, .int x2, .int x3]) (zz_Qi D y (wR y a) (va_A (wR y a z) sz) r zt) 0 0 (va_A (wR y a z) sz) := by
  refine Met.ofW (cc := cX11_shifts) (maxL := 9) (ret := (some .int)) (by decide) rfl ?_
  intro p e s m args below meth c s₁ B hml hv
  obtain ⟨rfl, hsz, hP, hK, hD0, hN, hg⟩ := hv
  have hx := B.exec
  have hb := B.bytes
  have hr := B.returns
  have hts := atoms_spec (ws := wsX11_shifts) B.pre
  have hown : s.vm.findClass RX11 = some m.cls := findClass_of_methodNamed B.named
  have hlocks := B.notSynchronized
  clear B
  subst hsz
  have hD := hD0.self (sz := s.heap.size)
  generalize hAe : va_A (wR y a z) s.heap.size = A at hD hg ⊢
  have hA : ∀ q : Nat, s.heap.size ≤ q → A q := fun q h => by rw [← hAe]; exact Or.inr h
  clear hAe hD0
  have hl := lv_entry ([.ref (a 0), .int x1, .int x2, .int x3]) (n := 9) (Nat.le_of_ble_eq_true rfl)
  rw [lg_entry_eq]
  generalize (lg_sl ([.ref (a 0), .int x1, .int x2, .int x3]) ++ List.replicate (9 - (lg_sl ([.ref (a 0), .int x1, .int x2, .int x3])).length) Slot.unset).toArray = ls at hl ⊢
  replace hl : lv_has ls 9 [(0, .ref (a 0)), (1, .int x1), (2, .int x2), (3, .int x3)] := hl
  refine zz_go (w := wR y a) hP hD va_S.rf hl (fun G hG => ?_)
  clear hP hD hl ls
  have J146 : ∀ (v6 : Int32) (t0 : Int64) (z : zz_M), mX11_shifts_b146 v6 t0 z = some (r, zt) → G 146 [(0, .ref (a 0)), (6, .int v6)] [.long t0, .ref (a 0)] z := by
    intro v6 t0 z hm
    rw [mX11_shifts_b146] at hm
    rw [hG]
    intro H locs ls hP hD hS hl
    obtain ⟨r1, z3, h2, hm⟩ := zz_b2_some hm
    refine zz_callv (zz_runV (w := wR y a) (As := [.long t0]) (rest := []) ⟨hx, hb, hml, hown, hts⟩ (zX11_tell l D y a H.size t0 z h2) (cwV 1 hts gX11_shifts_X11_tell rfl rfl rfl zdX11_tell ⟨Nat.le_of_ble_eq_true rfl, Nat.le_of_ble_eq_true rfl⟩) hK hN hg hP hD hS hA 0 (wR_0 y a z) rfl rfl hl.1 rfl (Nat.le_of_ble_eq_true rfl) dX11_shifts_146 ⟨Nat.le_of_ble_eq_true rfl, Nat.le_of_ble_eq_true rfl⟩) hD hS hA (fun H locs hP hD hS => ?_)
    refine lv_aload_n hx hb dX11_shifts_149 rfl (lv_at hl 0 rfl) ?_
    refine lv_aload_n hx hb dX11_shifts_150 rfl (lv_at hl 0 rfl) ?_
    refine va_get (D := D) (ci := 11) (v := .ref (a 16)) (C := RX11) (T := TX11) (N := 35) hx hb hts nX11_shifts_X11 hown hK hP 0 (wR_0 y a z3) rfl 28 (by decide) (hts (.fieldLink RX11 57 "WorksDeskModel" "total" "[J") (List.mem_of_getElem? (i := 6) rfl)) (fun _ h9 => h9) rfl dX11_shifts_151 ?_
    refine lv_bipush (v := (23 : Int32)) hx hb dX11_shifts_154 (by decide) ?_
    obtain ⟨c4, hm⟩ := zz_ck_some hm
    refine va_lald hx hb hK hP 16 1 (wR_16 y a z3) rfl c4 dX11_shifts_156 ?_
    refine lv_aload_n hx hb dX11_shifts_157 rfl (lv_at hl 0 rfl) ?_
    refine va_get (D := D) (ci := 11) (v := .long (z3.2.2.2 33)) (C := RX11) (T := TX11) (N := 35) hx hb hts nX11_shifts_X11 hown hK hP 0 (wR_0 y a z3) rfl 33 (by decide) (hts (.fieldLink RX11 342 "WorksDeskModel" "totalAside" "J") (List.mem_of_getElem? (i := 7) rfl)) (fun _ h9 => h9) rfl dX11_shifts_158 ?_
    refine lv_lsub hx hb dX11_shifts_161 ?_
    obtain ⟨r5, z7, h6, hm⟩ := zz_b2_some hm
    refine zz_callv (zz_runV (w := wR y a) (As := [.long ((z3.2.1 16 (23 : Int32).toNatClampNeg) - (z3.2.2.2 33))]) (rest := []) ⟨hx, hb, hml, hown, hts⟩ (zX11_tell l D y a H.size ((z3.2.1 16 (23 : Int32).toNatClampNeg) - (z3.2.2.2 33)) z3 h6) (cwV 1 hts gX11_shifts_X11_tell rfl rfl rfl zdX11_tell ⟨Nat.le_of_ble_eq_true rfl, Nat.le_of_ble_eq_true rfl⟩) hK hN hg hP hD hS hA 0 (wR_0 y a z3) rfl rfl hl.1 rfl (Nat.le_of_ble_eq_true rfl) dX11_shifts_162 ⟨Nat.le_of_ble_eq_true rfl, Nat.le_of_ble_eq_true rfl⟩) hD hS hA (fun H locs hP hD hS => ?_)
    refine lv_iload hx hb dX11_shifts_165 (lv_at hl 1 rfl) ?_
    exact zz_iret hx hb hr hlocks (zz_some2 hm) hP hK hD hS dX11_shifts_167
  have J102 : ∀ (k69 : Int32 → Int32 → Int32 → zz_M → Option (Int32 × zz_M)) (K69 : ∀ (v6 : Int32) (v7 : Int32) (v8 : Int32) (z : zz_M), k69 v6 v7 v8 z = some (r, zt) → G 69 [(0, .ref (a 0)), (6, .int v6), (7, .int v7), (8, .int v8)] [] z) (v6 : Int32) (v7 : Int32) (v8 : Int32) (z : zz_M), mX11_shifts_b102 k69 v6 v7 v8 z = some (r, zt) → G 102 [(0, .ref (a 0)), (6, .int v6), (7, .int v7), (8, .int v8)] [] z := by
    intro k69 K69 v6 v7 v8 z hm
    rw [mX11_shifts_b102] at hm
    rw [hG]
    intro H locs ls hP hD hS hl
    obtain ⟨n8, en8⟩ : ∃ q : Int32, q = v8 + (-1 : Int32) := ⟨_, rfl⟩
    replace hm := zz_nm_some en8 hm
    refine lv_iinc (v := n8) (lv' := [(8, .int n8), (0, .ref (a 0)), (6, .int v6), (7, .int v7)]) hx hb dX11_shifts_102 hl (k := 3) rfl (by rw [en8]; rfl) (by decide) rfl (fun ls hl => ?_)
    refine lv_goto (tgt := 69) hx hb dX11_shifts_105 (by decide) ?_
    have j := K69 v6 v7 n8 z hm
    rw [hG] at j
    exact j H locs ls hP hD hS (lv_sub hl [1, 2, 3, 0] rfl)
  have J69 : ∀ (n : Nat) (v6 : Int32) (v7 : Int32) (v8 : Int32) (z : zz_M), mX11_shifts_b69 n v6 v7 v8 z = some (r, zt) → G 69 [(0, .ref (a 0)), (6, .int v6), (7, .int v7), (8, .int v8)] [] z := by
    intro n
    induction n with
    | zero =>
      intro v6 v7 v8 z hm
      exact zz_none hm
    | succ n ih =>
      intro v6 v7 v8 z hm
      rw [mX11_shifts_b69] at hm
      rw [hG]
      intro H locs ls hP hD hS hl
      refine lv_iload hx hb dX11_shifts_69 (lv_at hl 3 rfl) ?_
      refine lv_if_lt (tgt := 108) hx hb dX11_shifts_71 (by decide) (fun c9 => ?_) (fun c9 => ?_)
      · replace hm := zz_pos c9 hm
        refine lv_aload_n hx hb dX11_shifts_108 rfl (lv_at hl 0 rfl) ?_
        refine lv_iconst (v := (0 : Int32)) hx hb dX11_shifts_109 (by decide) ?_
        refine va_put (D := D) (ci := 11) (v := .int (0 : Int32)) (ty := .int) (C := RX11) (T := TX11) (N := 35) hx hb hts nX11_shifts_X11 tyX11 tyX11_ok nmX11 hown hK hP hD hS 0 (wR_0 y a z) rfl 18 (by decide) (hts (.fieldLink RX11 100 "WorksDeskModel" "rowMany" "I") (List.mem_of_getElem? (i := 5) rfl)) (fun _ h9 => h9) rfl (tyX11_ok 18 (by decide)) rfl rfl (Nat.le_of_ble_eq_true rfl) dX11_shifts_110 (fun H locs hP hD hS => ?_)
        obtain ⟨z10, hP, hD, hm⟩ := zz_up (w := wR y a) (wR_f18 y a z (0 : Int32)) hP hD hm
        refine lv_aload_n hx hb dX11_shifts_113 rfl (lv_at hl 0 rfl) ?_
        refine lv_iload hx hb dX11_shifts_114 (lv_at hl 2 rfl) ?_
        refine lv_i2l hx hb dX11_shifts_116 rfl ?_
        obtain ⟨r11, z13, h12, hm⟩ := zz_b2_some hm
        refine zz_callv (zz_runV (w := wR y a) (As := [.long v7.toInt64]) (rest := []) ⟨hx, hb, hml, hown, hts⟩ (zX11_tell l D y a H.size v7.toInt64 z10 h12) (cwV 1 hts gX11_shifts_X11_tell rfl rfl rfl zdX11_tell ⟨Nat.le_of_ble_eq_true rfl, Nat.le_of_ble_eq_true rfl⟩) hK hN hg hP hD hS hA 0 (wR_0 y a z10) rfl rfl hl.1 rfl (Nat.le_of_ble_eq_true rfl) dX11_shifts_117 ⟨Nat.le_of_ble_eq_true rfl, Nat.le_of_ble_eq_true rfl⟩) hD hS hA (fun H locs hP hD hS => ?_)
        refine lv_aload_n hx hb dX11_shifts_120 rfl (lv_at hl 0 rfl) ?_
        refine lv_iload hx hb dX11_shifts_121 (lv_at hl 2 rfl) ?_
        refine lv_iconst (v := (-1 : Int32)) hx hb dX11_shifts_123 (by decide) ?_
        refine lv_icmp_ne (tgt := 131) hx hb dX11_shifts_124 (by decide) (fun c14 => ?_) (fun c14 => ?_)
        · replace hm := zz_neg c14 hm
          refine lv_aload_n hx hb dX11_shifts_131 rfl (lv_at hl 0 rfl) ?_
          refine va_get (D := D) (ci := 11) (v := .ref (a 15)) (C := RX11) (T := TX11) (N := 35) hx hb hts nX11_shifts_X11 hown hK hP 0 (wR_0 y a z13) rfl 27 (by decide) (hts (.fieldLink RX11 54 "WorksDeskModel" "certified" "[J") (List.mem_of_getElem? (i := 3) rfl)) (fun _ h9 => h9) rfl dX11_shifts_132 ?_
          refine lv_iload hx hb dX11_shifts_135 (lv_at hl 2 rfl) ?_
          obtain ⟨c15, hm⟩ := zz_ck_some hm
          refine va_lald hx hb hK hP 15 1 (wR_15 y a z13) rfl c15 dX11_shifts_137 ?_
          refine lv_aload_n hx hb dX11_shifts_138 rfl (lv_at hl 0 rfl) ?_
          refine va_get (D := D) (ci := 11) (v := .ref (a 20)) (C := RX11) (T := TX11) (N := 35) hx hb hts nX11_shifts_X11 hown hK hP 0 (wR_0 y a z13) rfl 32 (by decide) (hts (.fieldLink RX11 69 "WorksDeskModel" "certifiedAside" "[J") (List.mem_of_getElem? (i := 4) rfl)) (fun _ h9 => h9) rfl dX11_shifts_139 ?_
          refine lv_iload hx hb dX11_shifts_142 (lv_at hl 2 rfl) ?_
          obtain ⟨c16, hm⟩ := zz_ck_some hm
          refine va_lald hx hb hK hP 20 1 (wR_20 y a z13) rfl c16 dX11_shifts_144 ?_
          refine lv_lsub hx hb dX11_shifts_145 ?_
          have j := J146 v6 ((z13.2.1 15 v7.toNatClampNeg) - (z13.2.1 20 v7.toNatClampNeg)) z13 hm
          rw [hG] at j
          exact j H locs ls hP hD hS (lv_sub hl [0, 1] rfl)
        · replace hm := zz_pos c14 hm
          refine lv_lconst (v := (0 : Int64)) hx hb dX11_shifts_127 (by decide) ?_
          refine lv_goto (tgt := 146) hx hb dX11_shifts_128 (by decide) ?_
          have j := J146 v6 (0 : Int64) z13 hm
          rw [hG] at j
          exact j H locs ls hP hD hS (lv_sub hl [0, 1] rfl)
      · replace hm := zz_neg c9 hm
        refine lv_aload_n hx hb dX11_shifts_74 rfl (lv_at hl 0 rfl) ?_
        refine va_get (D := D) (ci := 11) (v := .ref (a 15)) (C := RX11) (T := TX11) (N := 35) hx hb hts nX11_shifts_X11 hown hK hP 0 (wR_0 y a z) rfl 27 (by decide) (hts (.fieldLink RX11 54 "WorksDeskModel" "certified" "[J") (List.mem_of_getElem? (i := 3) rfl)) (fun _ h9 => h9) rfl dX11_shifts_75 ?_
        refine lv_iload hx hb dX11_shifts_78 (lv_at hl 3 rfl) ?_
        obtain ⟨c17, hm⟩ := zz_ck_some hm
        refine va_lald hx hb hK hP 15 1 (wR_15 y a z) rfl c17 dX11_shifts_80 ?_
        refine lv_aload_n hx hb dX11_shifts_81 rfl (lv_at hl 0 rfl) ?_
        refine va_get (D := D) (ci := 11) (v := .ref (a 20)) (C := RX11) (T := TX11) (N := 35) hx hb hts nX11_shifts_X11 hown hK hP 0 (wR_0 y a z) rfl 32 (by decide) (hts (.fieldLink RX11 69 "WorksDeskModel" "certifiedAside" "[J") (List.mem_of_getElem? (i := 4) rfl)) (fun _ h9 => h9) rfl dX11_shifts_82 ?_
        refine lv_iload hx hb dX11_shifts_85 (lv_at hl 3 rfl) ?_
        obtain ⟨c18, hm⟩ := zz_ck_some hm
        refine va_lald hx hb hK hP 20 1 (wR_20 y a z) rfl c18 dX11_shifts_87 ?_
        refine W.lcmp hx hb dX11_shifts_88 ?_
        refine lv_if_ne (tgt := 95) hx hb dX11_shifts_89 (by decide) (fun c19 => ?_) (fun c19 => ?_)
        · replace hm := zz_neg c19 hm
          obtain ⟨n20, en20⟩ : ∃ q : Int32, q = v6 + (1 : Int32) := ⟨_, rfl⟩
          replace hm := zz_nm_some en20 hm
          refine lv_iinc (v := n20) (lv' := [(6, .int n20), (0, .ref (a 0)), (7, .int v7), (8, .int v8)]) hx hb dX11_shifts_95 hl (k := 1) rfl (by rw [en20]; rfl) (by decide) rfl (fun ls hl => ?_)
          refine lv_iload hx hb dX11_shifts_98 (lv_at hl 3 rfl) ?_
          refine lv_istore (lv' := [(7, .int v8), (6, .int n20), (0, .ref (a 0)), (8, .int v8)]) hx hb dX11_shifts_100 hl (by decide) rfl (fun ls hl => ?_)
          have j := J102 (mX11_shifts_b69 n) ih n20 v8 v8 z hm
          rw [hG] at j
          exact j H locs ls hP hD hS (lv_sub hl [2, 1, 0, 3] rfl)
        · replace hm := zz_pos c19 hm
          refine lv_goto (tgt := 102) hx hb dX11_shifts_92 (by decide) ?_
          have j := J102 (mX11_shifts_b69 n) ih v6 v7 v8 z hm
          rw [hG] at j
          exact j H locs ls hP hD hS (lv_sub hl [0, 1, 2, 3] rfl)
  rw [hG]
  intro H locs ls hP hD hS hl
  unfold mX11_shifts at hm
  refine lv_aload_n hx hb dX11_shifts_0 rfl (lv_at hl 0 rfl) ?_
  refine lv_iconst (v := (0 : Int32)) hx hb dX11_shifts_1 (by decide) ?_
  refine va_put (D := D) (ci := 11) (v := .int (0 : Int32)) (ty := .int) (C := RX11) (T := TX11) (N := 35) hx hb hts nX11_shifts_X11 tyX11 tyX11_ok nmX11 hown hK hP hD hS 0 (wR_0 y a z) rfl 19 (by decide) (hts (.fieldLink RX11 97 "WorksDeskModel" "thrown" "I") (List.mem_of_getElem? (i := 1) rfl)) (fun _ h9 => h9) rfl (tyX11_ok 19 (by decide)) rfl rfl (Nat.le_of_ble_eq_true rfl) dX11_shifts_2 (fun H locs hP hD hS => ?_)
  obtain ⟨z21, hP, hD, hm⟩ := zz_up (w := wR y a) (wR_f19 y a z (0 : Int32)) hP hD hm
  refine lv_aload_n hx hb dX11_shifts_5 rfl (lv_at hl 0 rfl) ?_
  refine lv_iload_n hx hb dX11_shifts_6 rfl (lv_at hl 1 rfl) ?_
  refine lv_iload_n hx hb dX11_shifts_7 rfl (lv_at hl 2 rfl) ?_
  refine lv_iload_n hx hb dX11_shifts_8 rfl (lv_at hl 3 rfl) ?_
  obtain ⟨r22, h23, hm⟩ := zz_b1_some hm
  refine zz_calli (zz_runV (w := wR y a) (As := [.int x1, .int x2, .int x3]) (rest := []) ⟨hx, hb, hml, hown, hts⟩ (zX11_isMeasure l D y a H.size x1 x2 x3 z21 h23) (cwV 3 hts gX11_shifts_X11_isMeasure rfl rfl rfl zdX11_isMeasure ⟨Nat.le_of_ble_eq_true rfl, Nat.le_of_ble_eq_true rfl⟩) hK hN hg hP hD hS hA 0 (wR_0 y a z21) rfl rfl hl.1 rfl (Nat.le_of_ble_eq_true rfl) dX11_shifts_9 ⟨Nat.le_of_ble_eq_true rfl, Nat.le_of_ble_eq_true rfl⟩) hD hS hA (fun H locs hP hD hS => ?_)
  refine lv_if_ne (tgt := 17) hx hb dX11_shifts_12 (by decide) (fun c24 => ?_) (fun c24 => ?_)
  · replace hm := zz_neg c24 hm
    refine lv_bipush (v := (10 : Int32)) hx hb dX11_shifts_17 (by decide) ?_
    refine lv_iload_n hx hb dX11_shifts_19 rfl (lv_at hl 1 rfl) ?_
    refine lv_imul hx hb dX11_shifts_20 ?_
    refine lv_iload_n hx hb dX11_shifts_21 rfl (lv_at hl 2 rfl) ?_
    refine lv_iadd hx hb dX11_shifts_22 ?_
    refine lv_topi (fun n25 en25 => ?_)
    replace hm := zz_nm_some en25 hm
    refine lv_istore (lv' := [(4, .int n25), (0, .ref (a 0)), (1, .int x1), (2, .int x2), (3, .int x3)]) hx hb dX11_shifts_23 hl (by decide) rfl (fun ls hl => ?_)
    refine lv_aload_n hx hb dX11_shifts_25 rfl (lv_at hl 1 rfl) ?_
    refine va_get (D := D) (ci := 11) (v := .ref (a 3)) (C := RX11) (T := TX11) (N := 35) hx hb hts nX11_shifts_X11 hown hK hP 0 (wR_0 y a z21) rfl 3 (by decide) (hts (.fieldLink RX11 16 "WorksDeskModel" "measured" "[I") (List.mem_of_getElem? (i := 2) rfl)) (fun _ h9 => h9) rfl dX11_shifts_26 ?_
    refine lv_iload hx hb dX11_shifts_29 (lv_at hl 0 rfl) ?_
    obtain ⟨c26, hm⟩ := zz_ck_some hm
    refine va_iald hx hb hK hP 3 0 (wR_3 y a z21) rfl c26 dX11_shifts_31 ?_
    refine lv_topi (fun n27 en27 => ?_)
    replace hm := zz_nm_some en27 hm
    refine lv_istore (lv' := [(5, .int n27), (4, .int n25), (0, .ref (a 0)), (1, .int x1), (2, .int x2), (3, .int x3)]) hx hb dX11_shifts_32 hl (by decide) rfl (fun ls hl => ?_)
    refine lv_aload_n hx hb dX11_shifts_34 rfl (lv_at hl 2 rfl) ?_
    obtain ⟨r28, z30, h29, hm⟩ := zz_b2_some hm
    refine zz_callv (zz_runV (w := wR y a) (As := []) (rest := []) ⟨hx, hb, hml, hown, hts⟩ (zX11_layAside l D y a H.size z21 h29) (cwV 0 hts gX11_shifts_X11_layAside rfl rfl rfl zdX11_layAside ⟨Nat.le_of_ble_eq_true rfl, Nat.le_of_ble_eq_true rfl⟩) hK hN hg hP hD hS hA 0 (wR_0 y a z21) rfl rfl hl.1 rfl (Nat.le_of_ble_eq_true rfl) dX11_shifts_35 ⟨Nat.le_of_ble_eq_true rfl, Nat.le_of_ble_eq_true rfl⟩) hD hS hA (fun H locs hP hD hS => ?_)
    refine lv_aload_n hx hb dX11_shifts_38 rfl (lv_at hl 2 rfl) ?_
    refine va_get (D := D) (ci := 11) (v := .ref (a 3)) (C := RX11) (T := TX11) (N := 35) hx hb hts nX11_shifts_X11 hown hK hP 0 (wR_0 y a z30) rfl 3 (by decide) (hts (.fieldLink RX11 16 "WorksDeskModel" "measured" "[I") (List.mem_of_getElem? (i := 2) rfl)) (fun _ h9 => h9) rfl dX11_shifts_39 ?_
    refine lv_iload hx hb dX11_shifts_42 (lv_at hl 1 rfl) ?_
    refine lv_iload_n hx hb dX11_shifts_44 rfl (lv_at hl 5 rfl) ?_
    obtain ⟨c31, hm⟩ := zz_ck_some hm
    refine va_iast hx hb hK hP hD hS 3 0 (wR_3 y a z30) rfl c31 dX11_shifts_45 (fun H locs hP hD hS => ?_)
    obtain ⟨z32, hP, hD, hm⟩ := zz_up (w := wR y a) (wR_w3 y a z30 n25 x3) hP hD hm
    refine lv_aload_n hx hb dX11_shifts_46 rfl (lv_at hl 2 rfl) ?_
    obtain ⟨r33, z35, h34, hm⟩ := zz_b2_some hm
    refine zz_callv (zz_runV (w := wR y a) (As := []) (rest := []) ⟨hx, hb, hml, hown, hts⟩ (zX11_layMonths l D y a H.size z32 h34) (cwV 0 hts gX11_shifts_X11_layMonths rfl rfl rfl zdX11_layMonths ⟨Nat.le_of_ble_eq_true rfl, Nat.le_of_ble_eq_true rfl⟩) hK hN hg hP hD hS hA 0 (wR_0 y a z32) rfl rfl hl.1 rfl (Nat.le_of_ble_eq_true rfl) dX11_shifts_47 ⟨Nat.le_of_ble_eq_true rfl, Nat.le_of_ble_eq_true rfl⟩) hD hS hA (fun H locs hP hD hS => ?_)
    refine lv_aload_n hx hb dX11_shifts_50 rfl (lv_at hl 2 rfl) ?_
    refine va_get (D := D) (ci := 11) (v := .ref (a 3)) (C := RX11) (T := TX11) (N := 35) hx hb hts nX11_shifts_X11 hown hK hP 0 (wR_0 y a z35) rfl 3 (by decide) (hts (.fieldLink RX11 16 "WorksDeskModel" "measured" "[I") (List.mem_of_getElem? (i := 2) rfl)) (fun _ h9 => h9) rfl dX11_shifts_51 ?_
    refine lv_iload hx hb dX11_shifts_54 (lv_at hl 1 rfl) ?_
    refine lv_iload hx hb dX11_shifts_56 (lv_at hl 0 rfl) ?_
    obtain ⟨c36, hm⟩ := zz_ck_some hm
    refine va_iast hx hb hK hP hD hS 3 0 (wR_3 y a z35) rfl c36 dX11_shifts_58 (fun H locs hP hD hS => ?_)
    obtain ⟨z37, hP, hD, hm⟩ := zz_up (w := wR y a) (wR_w3 y a z35 n25 n27) hP hD hm
    refine lv_iconst (v := (0 : Int32)) hx hb dX11_shifts_59 (by decide) ?_
    refine lv_istore (lv' := [(6, .int (0 : Int32)), (5, .int n27), (4, .int n25), (0, .ref (a 0)), (1, .int x1), (2, .int x2), (3, .int x3)]) hx hb dX11_shifts_60 hl (by decide) rfl (fun ls hl => ?_)
    refine lv_iconst (v := (-1 : Int32)) hx hb dX11_shifts_62 (by decide) ?_
    refine lv_istore (lv' := [(7, .int (-1 : Int32)), (6, .int (0 : Int32)), (5, .int n27), (4, .int n25), (0, .ref (a 0)), (1, .int x1), (2, .int x2), (3, .int x3)]) hx hb dX11_shifts_63 hl (by decide) rfl (fun ls hl => ?_)
    refine lv_bipush (v := (23 : Int32)) hx hb dX11_shifts_65 (by decide) ?_
    refine lv_istore (lv' := [(8, .int (23 : Int32)), (7, .int (-1 : Int32)), (6, .int (0 : Int32)), (5, .int n27), (4, .int n25), (0, .ref (a 0)), (1, .int x1), (2, .int x2), (3, .int x3)]) hx hb dX11_shifts_67 hl (by decide) rfl (fun ls hl => ?_)
    have j := J69 zz_N (0 : Int32) (-1 : Int32) (23 : Int32) z37 hm
    rw [hG] at j
    exact j H locs ls hP hD hS (lv_sub hl [5, 2, 1, 0] rfl)
  · replace hm := zz_pos c24 hm
    refine lv_iconst (v := (-1 : Int32)) hx hb dX11_shifts_15 (by decide) ?_
    exact zz_iret hx hb hr hlocks (zz_some2 hm) hP hK hD hS dX11_shifts_16
def mX11_sign_b20 : Nat → Int32 → Int32 → zz_M → Option (Int32 × zz_M)
  | 0, _, _, _ => none
  | n + 1, v1, v2, z => if v2 < (0 : Int32) then (some (z.2.2.1 16, z)) else (zz_nm (zz_sF z 16 ((z.2.2.1 16) + (1 : Int32))) (fun z2 => zz_ck (zz_in (z.2.2.1 16) 120) (zz_nm (zz_wB z2 9 (z.2.2.1 16) ((v1 >>> (((8 : Int32) * v2) &&& 31)).toInt8.toInt32)) (fun z4 => zz_nm (v2 + (-1 : Int32)) (fun n5 => (mX11_sign_b20 n) v1 n5 z4)))))
def mX11_sign (x1 : Int32) (z : zz_M) : Option (Int32 × zz_M) := zz_nm (zz_sF z 19 (0 : Int32)) (fun z6 => if ((z6.2.2.1 16) + (4 : Int32)) ≤ (120 : Int32) then (mX11_sign_b20 zz_N x1 (3 : Int32) z6) else (some ((-1 : Int32), z6)))
theorem nX11_sign_X11 : ∀ w ∈ wsX110, w ∈ wsX11_sign := fun _ h => List.mem_cons_of_mem _ (List.mem_append_right _ (h))
theorem zdX11_sign : yX11_sign.cls = RX11 ∧ yX11_sign.cls ≠ "java/lang/invoke/MethodHandle" ∧ yX11_sign.cls ≠ "java/lang/invoke/VarHandle" ∧ (parseMethodDescriptor yX11_sign.desc).map (fun d => d.parameters.length) = some 1 := by decide +kernel
set_option maxHeartbeats 4000000 in
set_option maxRecDepth 100000 in
theorem zX11_sign (l : Launch) (D : va_G) (y : Nat → ClassId) (a : Nat → Nat) (sz : Nat) (x1 : Int32) (z : zz_M) {r : Int32} {zt : zz_M} (hm : mX11_sign x1 z = some (r, zt)) : Met l yX11_sign wsX11_sign { frames := 0, cells := 0, slots := 0, locals := 0 } (zz_Pc D y (wR y a z) sz [.ref (a 0), .int x1]) (zz_Qi D y (wR y a) (va_A (wR y a z) sz) r zt) 0 0 (va_A (wR y a z) sz) := by
  refine Met.ofW (cc := cX11_sign) (maxL := 3) (ret := (some .int)) (by decide) rfl ?_
  intro p e s m args below meth c s₁ B hml hv
  obtain ⟨rfl, hsz, hP, hK, hD0, hN, hg⟩ := hv
  have hx := B.exec
  have hb := B.bytes
  have hr := B.returns
  have hts := atoms_spec (ws := wsX11_sign) B.pre
  have hown : s.vm.findClass RX11 = some m.cls := findClass_of_methodNamed B.named
  have hlocks := B.notSynchronized
  clear B
  subst hsz
  have hD := hD0.self (sz := s.heap.size)
  generalize hAe : va_A (wR y a z) s.heap.size = A at hD hg ⊢
  have hA : ∀ q : Nat, s.heap.size ≤ q → A q := fun q h => by rw [← hAe]; exact Or.inr h
  clear hAe hD0
  have hl := lv_entry ([.ref (a 0), .int x1]) (n := 3) (Nat.le_of_ble_eq_true rfl)
  rw [lg_entry_eq]
  generalize (lg_sl ([.ref (a 0), .int x1]) ++ List.replicate (3 - (lg_sl ([.ref (a 0), .int x1])).length) Slot.unset).toArray = ls at hl ⊢
  replace hl : lv_has ls 3 [(0, .ref (a 0)), (1, .int x1)] := hl
  refine zz_go (w := wR y a) hP hD va_S.rf hl (fun G hG => ?_)
  clear hP hD hl ls
  have J20 : ∀ (n : Nat) (v1 : Int32) (v2 : Int32) (z : zz_M), mX11_sign_b20 n v1 v2 z = some (r, zt) → G 20 [(0, .ref (a 0)), (1, .int v1), (2, .int v2)] [] z := by
    intro n
    induction n with
    | zero =>
      intro v1 v2 z hm
      exact zz_none hm
    | succ n ih =>
      intro v1 v2 z hm
      rw [mX11_sign_b20] at hm
      rw [hG]
      intro H locs ls hP hD hS hl
      refine lv_iload_n hx hb dX11_sign_20 rfl (lv_at hl 2 rfl) ?_
      refine lv_if_lt (tgt := 53) hx hb dX11_sign_21 (by decide) (fun c1 => ?_) (fun c1 => ?_)
      · replace hm := zz_pos c1 hm
        refine lv_aload_n hx hb dX11_sign_53 rfl (lv_at hl 0 rfl) ?_
        refine va_get (D := D) (ci := 11) (v := .int (z.2.2.1 16)) (C := RX11) (T := TX11) (N := 35) hx hb hts nX11_sign_X11 hown hK hP 0 (wR_0 y a z) rfl 16 (by decide) (hts (.fieldLink RX11 109 "WorksDeskModel" "typed" "I") (List.mem_of_getElem? (i := 2) rfl)) (fun _ h9 => h9) rfl dX11_sign_54 ?_
        exact zz_iret hx hb hr hlocks (zz_some2 hm) hP hK hD hS dX11_sign_57
      · replace hm := zz_neg c1 hm
        refine lv_aload_n hx hb dX11_sign_24 rfl (lv_at hl 0 rfl) ?_
        refine va_get (D := D) (ci := 11) (v := .ref (a 9)) (C := RX11) (T := TX11) (N := 35) hx hb hts nX11_sign_X11 hown hK hP 0 (wR_0 y a z) rfl 15 (by decide) (hts (.fieldLink RX11 34 "WorksDeskModel" "text" "[B") (List.mem_of_getElem? (i := 3) rfl)) (fun _ h9 => h9) rfl dX11_sign_25 ?_
        refine lv_aload_n hx hb dX11_sign_28 rfl (lv_at hl 0 rfl) ?_
        refine lv_dup hx hb dX11_sign_29 rfl ?_
        refine va_get (D := D) (ci := 11) (v := .int (z.2.2.1 16)) (C := RX11) (T := TX11) (N := 35) hx hb hts nX11_sign_X11 hown hK hP 0 (wR_0 y a z) rfl 16 (by decide) (hts (.fieldLink RX11 109 "WorksDeskModel" "typed" "I") (List.mem_of_getElem? (i := 2) rfl)) (fun _ h9 => h9) rfl dX11_sign_30 ?_
        refine lv_dup_x1 hx hb dX11_sign_33 rfl rfl ?_
        refine lv_iconst (v := (1 : Int32)) hx hb dX11_sign_34 (by decide) ?_
        refine lv_iadd hx hb dX11_sign_35 ?_
        refine va_put (D := D) (ci := 11) (v := .int ((z.2.2.1 16) + (1 : Int32))) (ty := .int) (C := RX11) (T := TX11) (N := 35) hx hb hts nX11_sign_X11 tyX11 tyX11_ok nmX11 hown hK hP hD hS 0 (wR_0 y a z) rfl 16 (by decide) (hts (.fieldLink RX11 109 "WorksDeskModel" "typed" "I") (List.mem_of_getElem? (i := 2) rfl)) (fun _ h9 => h9) rfl (tyX11_ok 16 (by decide)) rfl rfl (Nat.le_of_ble_eq_true rfl) dX11_sign_36 (fun H locs hP hD hS => ?_)
        obtain ⟨z2, hP, hD, hm⟩ := zz_up (w := wR y a) (wR_f16 y a z ((z.2.2.1 16) + (1 : Int32))) hP hD hm
        refine lv_iload_n hx hb dX11_sign_39 rfl (lv_at hl 1 rfl) ?_
        refine lv_bipush (v := (8 : Int32)) hx hb dX11_sign_40 (by decide) ?_
        refine lv_iload_n hx hb dX11_sign_42 rfl (lv_at hl 2 rfl) ?_
        refine lv_imul hx hb dX11_sign_43 ?_
        refine lv_ishr hx hb dX11_sign_44 ?_
        refine lv_i2b hx hb dX11_sign_45 rfl ?_
        obtain ⟨c3, hm⟩ := zz_ck_some hm
        refine va_bast hx hb hK hP hD hS 9 2 (wR_9 y a z2) rfl c3 dX11_sign_46 (fun H locs hP hD hS => ?_)
        obtain ⟨z4, hP, hD, hm⟩ := zz_up (w := wR y a) (wR_w9 y a z2 (z.2.2.1 16) ((v1 >>> (((8 : Int32) * v2) &&& 31)).toInt8.toInt32)) hP hD hm
        obtain ⟨n5, en5⟩ : ∃ q : Int32, q = v2 + (-1 : Int32) := ⟨_, rfl⟩
        replace hm := zz_nm_some en5 hm
        refine lv_iinc (v := n5) (lv' := [(2, .int n5), (0, .ref (a 0)), (1, .int v1)]) hx hb dX11_sign_47 hl (k := 2) rfl (by rw [en5]; rfl) (by decide) rfl (fun ls hl => ?_)
        refine lv_goto (tgt := 20) hx hb dX11_sign_50 (by decide) ?_
        have j := ih v1 n5 z4 hm
        rw [hG] at j
        exact j H locs ls hP hD hS (lv_sub hl [1, 2, 0] rfl)
  rw [hG]
  intro H locs ls hP hD hS hl
  unfold mX11_sign at hm
  refine lv_aload_n hx hb dX11_sign_0 rfl (lv_at hl 0 rfl) ?_
  refine lv_iconst (v := (0 : Int32)) hx hb dX11_sign_1 (by decide) ?_
  refine va_put (D := D) (ci := 11) (v := .int (0 : Int32)) (ty := .int) (C := RX11) (T := TX11) (N := 35) hx hb hts nX11_sign_X11 tyX11 tyX11_ok nmX11 hown hK hP hD hS 0 (wR_0 y a z) rfl 19 (by decide) (hts (.fieldLink RX11 97 "WorksDeskModel" "thrown" "I") (List.mem_of_getElem? (i := 1) rfl)) (fun _ h9 => h9) rfl (tyX11_ok 19 (by decide)) rfl rfl (Nat.le_of_ble_eq_true rfl) dX11_sign_2 (fun H locs hP hD hS => ?_)
  obtain ⟨z6, hP, hD, hm⟩ := zz_up (w := wR y a) (wR_f19 y a z (0 : Int32)) hP hD hm
  refine lv_aload_n hx hb dX11_sign_5 rfl (lv_at hl 0 rfl) ?_
  refine va_get (D := D) (ci := 11) (v := .int (z6.2.2.1 16)) (C := RX11) (T := TX11) (N := 35) hx hb hts nX11_sign_X11 hown hK hP 0 (wR_0 y a z6) rfl 16 (by decide) (hts (.fieldLink RX11 109 "WorksDeskModel" "typed" "I") (List.mem_of_getElem? (i := 2) rfl)) (fun _ h9 => h9) rfl dX11_sign_6 ?_
  refine lv_iconst (v := (4 : Int32)) hx hb dX11_sign_9 (by decide) ?_
  refine lv_iadd hx hb dX11_sign_10 ?_
  refine lv_bipush (v := (120 : Int32)) hx hb dX11_sign_11 (by decide) ?_
  refine lv_icmp_le (tgt := 18) hx hb dX11_sign_13 (by decide) (fun c7 => ?_) (fun c7 => ?_)
  · replace hm := zz_pos c7 hm
    refine lv_iconst (v := (3 : Int32)) hx hb dX11_sign_18 (by decide) ?_
    refine lv_istore_n (lv' := [(2, .int (3 : Int32)), (0, .ref (a 0)), (1, .int x1)]) hx hb dX11_sign_19 rfl hl (by decide) rfl (fun ls hl => ?_)
    have j := J20 zz_N x1 (3 : Int32) z6 hm
    rw [hG] at j
    exact j H locs ls hP hD hS (lv_sub hl [1, 2, 0] rfl)
  · replace hm := zz_neg c7 hm
    refine lv_iconst (v := (-1 : Int32)) hx hb dX11_sign_16 (by decide) ?_
    exact zz_iret hx hb hr hlocks (zz_some2 hm) hP hK hD hS dX11_sign_17
def mX11_stores_b24 (z : zz_M) : Option (Int32 × zz_M) := some ((-1 : Int32), z)
def mX11_stores (x1 : Int32) (x2 : Int32) (z : zz_M) : Option (Int32 × zz_M) := zz_nm (zz_sF z 19 (0 : Int32)) (fun z1 => zz_b1 (mX11_isMonth x1) (fun r2 => if r2 = (0 : Int32) then (mX11_stores_b24 z1) else (zz_b1 (mX11_in x2.toInt64 (0 : Int64) (99999 : Int64)) (fun r5 => if r5 = (0 : Int32) then (mX11_stores_b24 z1) else (zz_ck (zz_in x1 24) (if (z1.1 4 x1.toNatClampNeg) = x2 then (some ((-2 : Int32), z1)) else (zz_b1 (mX11_storedIn x1 z1) (fun r10 => zz_ck (zz_in x1 24) (zz_nm (zz_wI z1 4 x1 x2) (fun z13 => some (r10, z13)))))))))))
theorem nX11_stores_X11 : ∀ w ∈ wsX110, w ∈ wsX11_stores := fun _ h => List.mem_cons_of_mem _ (List.mem_append_right _ (h))
theorem zdX11_stores : yX11_stores.cls = RX11 ∧ yX11_stores.cls ≠ "java/lang/invoke/MethodHandle" ∧ yX11_stores.cls ≠ "java/lang/invoke/VarHandle" ∧ (parseMethodDescriptor yX11_stores.desc).map (fun d => d.parameters.length) = some 2 := by decide +kernel
set_option maxHeartbeats 4000000 in
set_option maxRecDepth 100000 in
theorem zX11_stores (l : Launch) (D : va_G) (y : Nat → ClassId) (a : Nat → Nat) (sz : Nat) (x1 : Int32) (x2 : Int32) (z : zz_M) {r : Int32} {zt : zz_M} (hm : mX11_stores x1 x2 z = some (r, zt)) : Met l yX11_stores wsX11_stores { frames := 2, cells := 0, slots := 0, locals := 45 } (zz_Pc D y (wR y a z) sz [.ref (a 0), .int x1, .int x2]) (zz_Qi D y (wR y a) (va_A (wR y a z) sz) r zt) 0 0 (va_A (wR y a z) sz) := by
  refine Met.ofW (cc := cX11_stores) (maxL := 4) (ret := (some .int)) (by decide) rfl ?_
  intro p e s m args below meth c s₁ B hml hv
  obtain ⟨rfl, hsz, hP, hK, hD0, hN, hg⟩ := hv
  have hx := B.exec
  have hb := B.bytes
  have hr := B.returns
  have hts := atoms_spec (ws := wsX11_stores) B.pre
  have hown : s.vm.findClass RX11 = some m.cls := findClass_of_methodNamed B.named
  have hlocks := B.notSynchronized
  clear B
  subst hsz
  have hD := hD0.self (sz := s.heap.size)
  generalize hAe : va_A (wR y a z) s.heap.size = A at hD hg ⊢
  have hA : ∀ q : Nat, s.heap.size ≤ q → A q := fun q h => by rw [← hAe]; exact Or.inr h
  clear hAe hD0
  have hl := lv_entry ([.ref (a 0), .int x1, .int x2]) (n := 4) (Nat.le_of_ble_eq_true rfl)
  rw [lg_entry_eq]
  generalize (lg_sl ([.ref (a 0), .int x1, .int x2]) ++ List.replicate (4 - (lg_sl ([.ref (a 0), .int x1, .int x2])).length) Slot.unset).toArray = ls at hl ⊢
  replace hl : lv_has ls 4 [(0, .ref (a 0)), (1, .int x1), (2, .int x2)] := hl
  refine zz_go (w := wR y a) hP hD va_S.rf hl (fun G hG => ?_)
  clear hP hD hl ls
  have J24 : ∀ (z : zz_M), mX11_stores_b24 z = some (r, zt) → G 24 [] [] z := by
    intro z hm
    rw [mX11_stores_b24] at hm
    rw [hG]
    intro H locs ls hP hD hS hl
    refine lv_iconst (v := (-1 : Int32)) hx hb dX11_stores_24 (by decide) ?_
    exact zz_iret hx hb hr hlocks (zz_some2 hm) hP hK hD hS dX11_stores_25
  rw [hG]
  intro H locs ls hP hD hS hl
  unfold mX11_stores at hm
  refine lv_aload_n hx hb dX11_stores_0 rfl (lv_at hl 0 rfl) ?_
  refine lv_iconst (v := (0 : Int32)) hx hb dX11_stores_1 (by decide) ?_
  refine va_put (D := D) (ci := 11) (v := .int (0 : Int32)) (ty := .int) (C := RX11) (T := TX11) (N := 35) hx hb hts nX11_stores_X11 tyX11 tyX11_ok nmX11 hown hK hP hD hS 0 (wR_0 y a z) rfl 19 (by decide) (hts (.fieldLink RX11 97 "WorksDeskModel" "thrown" "I") (List.mem_of_getElem? (i := 1) rfl)) (fun _ h9 => h9) rfl (tyX11_ok 19 (by decide)) rfl rfl (Nat.le_of_ble_eq_true rfl) dX11_stores_2 (fun H locs hP hD hS => ?_)
  obtain ⟨z1, hP, hD, hm⟩ := zz_up (w := wR y a) (wR_f19 y a z (0 : Int32)) hP hD hm
  refine lv_iload_n hx hb dX11_stores_5 rfl (lv_at hl 1 rfl) ?_
  obtain ⟨r2, h3, hm⟩ := zz_b1_some hm
  refine zz_calli (zz_runS (w := wR y a) (As := [.int x1]) (rest := []) ⟨hx, hb, hml, hown, hts⟩ (zX11_isMonth l D y a H.size x1 z1 h3) (va_cwS 1 hts gX11_stores_X11_isMonth rfl rfl rfl zdX11_isMonth ⟨Nat.le_of_ble_eq_true rfl, Nat.le_of_ble_eq_true rfl⟩) hK hN hg hP hD hS hA rfl hl.1 rfl (Nat.le_of_ble_eq_true rfl) dX11_stores_6 ⟨Nat.le_of_ble_eq_true rfl, Nat.le_of_ble_eq_true rfl⟩) hD hS hA (fun H locs hP hD hS => ?_)
  refine lv_if_eq (tgt := 24) hx hb dX11_stores_9 (by decide) (fun c4 => ?_) (fun c4 => ?_)
  · replace hm := zz_pos c4 hm
    have j := J24 z1 hm
    rw [hG] at j
    exact j H locs ls hP hD hS (lv_sub hl [] rfl)
  · replace hm := zz_neg c4 hm
    refine lv_iload_n hx hb dX11_stores_12 rfl (lv_at hl 2 rfl) ?_
    refine lv_i2l hx hb dX11_stores_13 rfl ?_
    refine lv_lconst (v := (0 : Int64)) hx hb dX11_stores_14 (by decide) ?_
    refine lv_ldc2 (v := (99999 : Int64)) hx hb hown (hts (.constantLong RX11 169 (99999)) (List.mem_of_getElem? (i := 2) rfl)) dX11_stores_15 ?_
    obtain ⟨r5, h6, hm⟩ := zz_b1_some hm
    refine zz_calli (zz_runS (w := wR y a) (As := [.long x2.toInt64, .long (0 : Int64), .long (99999 : Int64)]) (rest := []) ⟨hx, hb, hml, hown, hts⟩ (zX11_in l D y a H.size x2.toInt64 (0 : Int64) (99999 : Int64) z1 h6) (va_cwS 3 hts gX11_stores_X11_in rfl rfl rfl zdX11_in ⟨Nat.le_of_ble_eq_true rfl, Nat.le_of_ble_eq_true rfl⟩) hK hN hg hP hD hS hA rfl hl.1 rfl (Nat.le_of_ble_eq_true rfl) dX11_stores_18 ⟨Nat.le_of_ble_eq_true rfl, Nat.le_of_ble_eq_true rfl⟩) hD hS hA (fun H locs hP hD hS => ?_)
    refine lv_if_ne (tgt := 26) hx hb dX11_stores_21 (by decide) (fun c7 => ?_) (fun c7 => ?_)
    · replace hm := zz_neg c7 hm
      refine lv_aload_n hx hb dX11_stores_26 rfl (lv_at hl 0 rfl) ?_
      refine va_get (D := D) (ci := 11) (v := .ref (a 4)) (C := RX11) (T := TX11) (N := 35) hx hb hts nX11_stores_X11 hown hK hP 0 (wR_0 y a z1) rfl 4 (by decide) (hts (.fieldLink RX11 19 "WorksDeskModel" "stored" "[I") (List.mem_of_getElem? (i := 3) rfl)) (fun _ h9 => h9) rfl dX11_stores_27 ?_
      refine lv_iload_n hx hb dX11_stores_30 rfl (lv_at hl 1 rfl) ?_
      obtain ⟨c8, hm⟩ := zz_ck_some hm
      refine va_iald hx hb hK hP 4 0 (wR_4 y a z1) rfl c8 dX11_stores_31 ?_
      refine lv_iload_n hx hb dX11_stores_32 rfl (lv_at hl 2 rfl) ?_
      refine lv_icmp_ne (tgt := 39) hx hb dX11_stores_33 (by decide) (fun c9 => ?_) (fun c9 => ?_)
      · replace hm := zz_neg c9 hm
        refine lv_aload_n hx hb dX11_stores_39 rfl (lv_at hl 0 rfl) ?_
        refine lv_iload_n hx hb dX11_stores_40 rfl (lv_at hl 1 rfl) ?_
        obtain ⟨r10, h11, hm⟩ := zz_b1_some hm
        refine zz_calli (zz_runV (w := wR y a) (As := [.int x1]) (rest := []) ⟨hx, hb, hml, hown, hts⟩ (zX11_storedIn l D y a H.size x1 z1 h11) (cwV 1 hts gX11_stores_X11_storedIn rfl rfl rfl zdX11_storedIn ⟨Nat.le_of_ble_eq_true rfl, Nat.le_of_ble_eq_true rfl⟩) hK hN hg hP hD hS hA 0 (wR_0 y a z1) rfl rfl hl.1 rfl (Nat.le_of_ble_eq_true rfl) dX11_stores_41 ⟨Nat.le_of_ble_eq_true rfl, Nat.le_of_ble_eq_true rfl⟩) hD hS hA (fun H locs hP hD hS => ?_)
        refine lv_istore_n (lv' := [(3, .int r10), (0, .ref (a 0)), (1, .int x1), (2, .int x2)]) hx hb dX11_stores_44 rfl hl (by decide) rfl (fun ls hl => ?_)
        refine lv_aload_n hx hb dX11_stores_45 rfl (lv_at hl 1 rfl) ?_
        refine va_get (D := D) (ci := 11) (v := .ref (a 4)) (C := RX11) (T := TX11) (N := 35) hx hb hts nX11_stores_X11 hown hK hP 0 (wR_0 y a z1) rfl 4 (by decide) (hts (.fieldLink RX11 19 "WorksDeskModel" "stored" "[I") (List.mem_of_getElem? (i := 3) rfl)) (fun _ h9 => h9) rfl dX11_stores_46 ?_
        refine lv_iload_n hx hb dX11_stores_49 rfl (lv_at hl 2 rfl) ?_
        refine lv_iload_n hx hb dX11_stores_50 rfl (lv_at hl 3 rfl) ?_
        obtain ⟨c12, hm⟩ := zz_ck_some hm
        refine va_iast hx hb hK hP hD hS 4 0 (wR_4 y a z1) rfl c12 dX11_stores_51 (fun H locs hP hD hS => ?_)
        obtain ⟨z13, hP, hD, hm⟩ := zz_up (w := wR y a) (wR_w4 y a z1 x1 x2) hP hD hm
        refine lv_iload_n hx hb dX11_stores_52 rfl (lv_at hl 0 rfl) ?_
        exact zz_iret hx hb hr hlocks (zz_some2 hm) hP hK hD hS dX11_stores_53
      · replace hm := zz_pos c9 hm
        refine lv_bipush (v := (-2 : Int32)) hx hb dX11_stores_36 (by decide) ?_
        exact zz_iret hx hb hr hlocks (zz_some2 hm) hP hK hD hS dX11_stores_38
    · replace hm := zz_pos c7 hm
      have j := J24 z1 hm
      rw [hG] at j
      exact j H locs ls hP hD hS (lv_sub hl [] rfl)
def mX11_strikes_b20 (z : zz_M) : Option (Int32 × zz_M) := some ((-1 : Int32), z)
def mX11_strikes (x1 : Int32) (x2 : Int32) (z : zz_M) : Option (Int32 × zz_M) := zz_nm (zz_sF z 19 (0 : Int32)) (fun z1 => zz_b1 (mX11_isMonth x1) (fun r2 => if r2 = (0 : Int32) then (mX11_strikes_b20 z1) else (zz_b1 (mX11_isItem x2 z1) (fun r5 => if r5 = (0 : Int32) then (mX11_strikes_b20 z1) else (zz_ck (zz_in (((10 : Int32) * x1) + x2) 240) (if (z1.1 3 (((10 : Int32) * x1) + x2).toNatClampNeg) = (-9999 : Int32) then (some ((-2 : Int32), z1)) else (zz_ck (zz_in (((10 : Int32) * x1) + x2) 240) (zz_nm (zz_wI z1 3 (((10 : Int32) * x1) + x2) (-9999 : Int32)) (fun z11 => zz_b1 (mX11_doneOf x1 x2 z11) (fun r12 => some (r12, z11)))))))))))
theorem nX11_strikes_X11 : ∀ w ∈ wsX110, w ∈ wsX11_strikes := fun _ h => List.mem_cons_of_mem _ (List.mem_append_right _ (h))
theorem zdX11_strikes : yX11_strikes.cls = RX11 ∧ yX11_strikes.cls ≠ "java/lang/invoke/MethodHandle" ∧ yX11_strikes.cls ≠ "java/lang/invoke/VarHandle" ∧ (parseMethodDescriptor yX11_strikes.desc).map (fun d => d.parameters.length) = some 2 := by decide +kernel
set_option maxHeartbeats 4000000 in
set_option maxRecDepth 100000 in
theorem zX11_strikes (l : Launch) (D : va_G) (y : Nat → ClassId) (a : Nat → Nat) (sz : Nat) (x1 : Int32) (x2 : Int32) (z : zz_M) {r : Int32} {zt : zz_M} (hm : mX11_strikes x1 x2 z = some (r, zt)) : Met l yX11_strikes wsX11_strikes { frames := 2, cells := 0, slots := 0, locals := 46 } (zz_Pc D y (wR y a z) sz [.ref (a 0), .int x1, .int x2]) (zz_Qi D y (wR y a) (va_A (wR y a z) sz) r zt) 0 0 (va_A (wR y a z) sz) := by
  refine Met.ofW (cc := cX11_strikes) (maxL := 3) (ret := (some .int)) (by decide) rfl ?_
  intro p e s m args below meth c s₁ B hml hv
  obtain ⟨rfl, hsz, hP, hK, hD0, hN, hg⟩ := hv
  have hx := B.exec
  have hb := B.bytes
  have hr := B.returns
  have hts := atoms_spec (ws := wsX11_strikes) B.pre
  have hown : s.vm.findClass RX11 = some m.cls := findClass_of_methodNamed B.named
  have hlocks := B.notSynchronized
  clear B
  subst hsz
  have hD := hD0.self (sz := s.heap.size)
  generalize hAe : va_A (wR y a z) s.heap.size = A at hD hg ⊢
  have hA : ∀ q : Nat, s.heap.size ≤ q → A q := fun q h => by rw [← hAe]; exact Or.inr h
  clear hAe hD0
  have hl := lv_entry ([.ref (a 0), .int x1, .int x2]) (n := 3) (Nat.le_of_ble_eq_true rfl)
  rw [lg_entry_eq]
  generalize (lg_sl ([.ref (a 0), .int x1, .int x2]) ++ List.replicate (3 - (lg_sl ([.ref (a 0), .int x1, .int x2])).length) Slot.unset).toArray = ls at hl ⊢
  replace hl : lv_has ls 3 [(0, .ref (a 0)), (1, .int x1), (2, .int x2)] := hl
  refine zz_go (w := wR y a) hP hD va_S.rf hl (fun G hG => ?_)
  clear hP hD hl ls
  have J20 : ∀ (z : zz_M), mX11_strikes_b20 z = some (r, zt) → G 20 [] [] z := by
    intro z hm
    rw [mX11_strikes_b20] at hm
    rw [hG]
    intro H locs ls hP hD hS hl
    refine lv_iconst (v := (-1 : Int32)) hx hb dX11_strikes_20 (by decide) ?_
    exact zz_iret hx hb hr hlocks (zz_some2 hm) hP hK hD hS dX11_strikes_21
  rw [hG]
  intro H locs ls hP hD hS hl
  unfold mX11_strikes at hm
  refine lv_aload_n hx hb dX11_strikes_0 rfl (lv_at hl 0 rfl) ?_
  refine lv_iconst (v := (0 : Int32)) hx hb dX11_strikes_1 (by decide) ?_
  refine va_put (D := D) (ci := 11) (v := .int (0 : Int32)) (ty := .int) (C := RX11) (T := TX11) (N := 35) hx hb hts nX11_strikes_X11 tyX11 tyX11_ok nmX11 hown hK hP hD hS 0 (wR_0 y a z) rfl 19 (by decide) (hts (.fieldLink RX11 97 "WorksDeskModel" "thrown" "I") (List.mem_of_getElem? (i := 1) rfl)) (fun _ h9 => h9) rfl (tyX11_ok 19 (by decide)) rfl rfl (Nat.le_of_ble_eq_true rfl) dX11_strikes_2 (fun H locs hP hD hS => ?_)
  obtain ⟨z1, hP, hD, hm⟩ := zz_up (w := wR y a) (wR_f19 y a z (0 : Int32)) hP hD hm
  refine lv_iload_n hx hb dX11_strikes_5 rfl (lv_at hl 1 rfl) ?_
  obtain ⟨r2, h3, hm⟩ := zz_b1_some hm
  refine zz_calli (zz_runS (w := wR y a) (As := [.int x1]) (rest := []) ⟨hx, hb, hml, hown, hts⟩ (zX11_isMonth l D y a H.size x1 z1 h3) (va_cwS 1 hts gX11_strikes_X11_isMonth rfl rfl rfl zdX11_isMonth ⟨Nat.le_of_ble_eq_true rfl, Nat.le_of_ble_eq_true rfl⟩) hK hN hg hP hD hS hA rfl hl.1 rfl (Nat.le_of_ble_eq_true rfl) dX11_strikes_6 ⟨Nat.le_of_ble_eq_true rfl, Nat.le_of_ble_eq_true rfl⟩) hD hS hA (fun H locs hP hD hS => ?_)
  refine lv_if_eq (tgt := 20) hx hb dX11_strikes_9 (by decide) (fun c4 => ?_) (fun c4 => ?_)
  · replace hm := zz_pos c4 hm
    have j := J20 z1 hm
    rw [hG] at j
    exact j H locs ls hP hD hS (lv_sub hl [] rfl)
  · replace hm := zz_neg c4 hm
    refine lv_aload_n hx hb dX11_strikes_12 rfl (lv_at hl 0 rfl) ?_
    refine lv_iload_n hx hb dX11_strikes_13 rfl (lv_at hl 2 rfl) ?_
    obtain ⟨r5, h6, hm⟩ := zz_b1_some hm
    refine zz_calli (zz_runV (w := wR y a) (As := [.int x2]) (rest := []) ⟨hx, hb, hml, hown, hts⟩ (zX11_isItem l D y a H.size x2 z1 h6) (cwV 1 hts gX11_strikes_X11_isItem rfl rfl rfl zdX11_isItem ⟨Nat.le_of_ble_eq_true rfl, Nat.le_of_ble_eq_true rfl⟩) hK hN hg hP hD hS hA 0 (wR_0 y a z1) rfl rfl hl.1 rfl (Nat.le_of_ble_eq_true rfl) dX11_strikes_14 ⟨Nat.le_of_ble_eq_true rfl, Nat.le_of_ble_eq_true rfl⟩) hD hS hA (fun H locs hP hD hS => ?_)
    refine lv_if_ne (tgt := 22) hx hb dX11_strikes_17 (by decide) (fun c7 => ?_) (fun c7 => ?_)
    · replace hm := zz_neg c7 hm
      refine lv_aload_n hx hb dX11_strikes_22 rfl (lv_at hl 0 rfl) ?_
      refine va_get (D := D) (ci := 11) (v := .ref (a 3)) (C := RX11) (T := TX11) (N := 35) hx hb hts nX11_strikes_X11 hown hK hP 0 (wR_0 y a z1) rfl 3 (by decide) (hts (.fieldLink RX11 16 "WorksDeskModel" "measured" "[I") (List.mem_of_getElem? (i := 2) rfl)) (fun _ h9 => h9) rfl dX11_strikes_23 ?_
      refine lv_bipush (v := (10 : Int32)) hx hb dX11_strikes_26 (by decide) ?_
      refine lv_iload_n hx hb dX11_strikes_28 rfl (lv_at hl 1 rfl) ?_
      refine lv_imul hx hb dX11_strikes_29 ?_
      refine lv_iload_n hx hb dX11_strikes_30 rfl (lv_at hl 2 rfl) ?_
      refine lv_iadd hx hb dX11_strikes_31 ?_
      obtain ⟨c8, hm⟩ := zz_ck_some hm
      refine va_iald hx hb hK hP 3 0 (wR_3 y a z1) rfl c8 dX11_strikes_32 ?_
      refine lv_sipush (v := (-9999 : Int32)) hx hb dX11_strikes_33 (by decide) ?_
      refine lv_icmp_ne (tgt := 42) hx hb dX11_strikes_36 (by decide) (fun c9 => ?_) (fun c9 => ?_)
      · replace hm := zz_neg c9 hm
        refine lv_aload_n hx hb dX11_strikes_42 rfl (lv_at hl 0 rfl) ?_
        refine va_get (D := D) (ci := 11) (v := .ref (a 3)) (C := RX11) (T := TX11) (N := 35) hx hb hts nX11_strikes_X11 hown hK hP 0 (wR_0 y a z1) rfl 3 (by decide) (hts (.fieldLink RX11 16 "WorksDeskModel" "measured" "[I") (List.mem_of_getElem? (i := 2) rfl)) (fun _ h9 => h9) rfl dX11_strikes_43 ?_
        refine lv_bipush (v := (10 : Int32)) hx hb dX11_strikes_46 (by decide) ?_
        refine lv_iload_n hx hb dX11_strikes_48 rfl (lv_at hl 1 rfl) ?_
        refine lv_imul hx hb dX11_strikes_49 ?_
        refine lv_iload_n hx hb dX11_strikes_50 rfl (lv_at hl 2 rfl) ?_
        refine lv_iadd hx hb dX11_strikes_51 ?_
        refine lv_sipush (v := (-9999 : Int32)) hx hb dX11_strikes_52 (by decide) ?_
        obtain ⟨c10, hm⟩ := zz_ck_some hm
        refine va_iast hx hb hK hP hD hS 3 0 (wR_3 y a z1) rfl c10 dX11_strikes_55 (fun H locs hP hD hS => ?_)
        obtain ⟨z11, hP, hD, hm⟩ := zz_up (w := wR y a) (wR_w3 y a z1 (((10 : Int32) * x1) + x2) (-9999 : Int32)) hP hD hm
        refine lv_aload_n hx hb dX11_strikes_56 rfl (lv_at hl 0 rfl) ?_
        refine lv_iload_n hx hb dX11_strikes_57 rfl (lv_at hl 1 rfl) ?_
        refine lv_iload_n hx hb dX11_strikes_58 rfl (lv_at hl 2 rfl) ?_
        obtain ⟨r12, h13, hm⟩ := zz_b1_some hm
        refine zz_calli (zz_runV (w := wR y a) (As := [.int x1, .int x2]) (rest := []) ⟨hx, hb, hml, hown, hts⟩ (zX11_doneOf l D y a H.size x1 x2 z11 h13) (cwV 2 hts gX11_strikes_X11_doneOf rfl rfl rfl zdX11_doneOf ⟨Nat.le_of_ble_eq_true rfl, Nat.le_of_ble_eq_true rfl⟩) hK hN hg hP hD hS hA 0 (wR_0 y a z11) rfl rfl hl.1 rfl (Nat.le_of_ble_eq_true rfl) dX11_strikes_59 ⟨Nat.le_of_ble_eq_true rfl, Nat.le_of_ble_eq_true rfl⟩) hD hS hA (fun H locs hP hD hS => ?_)
        exact zz_iret hx hb hr hlocks (zz_some2 hm) hP hK hD hS dX11_strikes_62
      · replace hm := zz_pos c9 hm
        refine lv_bipush (v := (-2 : Int32)) hx hb dX11_strikes_39 (by decide) ?_
        exact zz_iret hx hb hr hlocks (zz_some2 hm) hP hK hD hS dX11_strikes_41
    · replace hm := zz_pos c7 hm
      have j := J20 z1 hm
      rw [hG] at j
      exact j H locs ls hP hD hS (lv_sub hl [] rfl)
def mX11_sum (z : zz_M) : Option (Int32 × zz_M) := zz_nm (zz_sF z 19 (0 : Int32)) (fun z1 => zz_nm (zz_sF z1 18 (0 : Int32)) (fun z2 => zz_b1 (mX11_advancedNow z2) (fun r3 => zz_b2 (mX11_tell r3 z2) (fun r5 z7 => zz_b1 (mX11_limitNow z7) (fun r8 => zz_b2 (mX11_tell r8 z7) (fun r10 z12 => zz_b2 (mX11_tell ((z12.2.2.1 2).toInt64) z12) (fun r13 z15 => zz_b2 (mX11_tell (((100 : Int64) * ((z15.2.2.1 9).toInt64)) + ((z15.2.2.1 10).toInt64)) z15) (fun r16 z18 => zz_b1 (mX11_sumNow z18) (fun r19 => some (r19.toInt32, z18))))))))))
theorem nX11_sum_X11 : ∀ w ∈ wsX110, w ∈ wsX11_sum := fun _ h => List.mem_cons_of_mem _ (List.mem_append_right _ (h))
theorem zdX11_sum : yX11_sum.cls = RX11 ∧ yX11_sum.cls ≠ "java/lang/invoke/MethodHandle" ∧ yX11_sum.cls ≠ "java/lang/invoke/VarHandle" ∧ (parseMethodDescriptor yX11_sum.desc).map (fun d => d.parameters.length) = some 0 := by decide +kernel
set_option maxHeartbeats 4000000 in
set_option maxRecDepth 100000 in
theorem zX11_sum (l : Launch) (D : va_G) (y : Nat → ClassId) (a : Nat → Nat) (sz : Nat) (z : zz_M) {r : Int32} {zt : zz_M} (hm : mX11_sum z = some (r, zt)) : Met l yX11_sum wsX11_sum { frames := 3, cells := 0, slots := 0, locals := 64 } (zz_Pc D y (wR y a z) sz [.ref (a 0)]) (zz_Qi D y (wR y a) (va_A (wR y a z) sz) r zt) 0 0 (va_A (wR y a z) sz) := by
  refine Met.ofW (cc := cX11_sum) (maxL := 1) (ret := (some .int)) (by decide) rfl ?_
  intro p e s m args below meth c s₁ B hml hv
  obtain ⟨rfl, hsz, hP, hK, hD0, hN, hg⟩ := hv
  have hx := B.exec
  have hb := B.bytes
  have hr := B.returns
  have hts := atoms_spec (ws := wsX11_sum) B.pre
  have hown : s.vm.findClass RX11 = some m.cls := findClass_of_methodNamed B.named
  have hlocks := B.notSynchronized
  clear B
  subst hsz
  have hD := hD0.self (sz := s.heap.size)
  generalize hAe : va_A (wR y a z) s.heap.size = A at hD hg ⊢
  have hA : ∀ q : Nat, s.heap.size ≤ q → A q := fun q h => by rw [← hAe]; exact Or.inr h
  clear hAe hD0
  have hl := lv_entry ([.ref (a 0)]) (n := 1) (Nat.le_of_ble_eq_true rfl)
  rw [lg_entry_eq]
  generalize (lg_sl ([.ref (a 0)]) ++ List.replicate (1 - (lg_sl ([.ref (a 0)])).length) Slot.unset).toArray = ls at hl ⊢
  replace hl : lv_has ls 1 [(0, .ref (a 0))] := hl
  refine zz_go (w := wR y a) hP hD va_S.rf hl (fun G hG => ?_)
  clear hP hD hl ls
  rw [hG]
  intro H locs ls hP hD hS hl
  unfold mX11_sum at hm
  refine lv_aload_n hx hb dX11_sum_0 rfl (lv_at hl 0 rfl) ?_
  refine lv_iconst (v := (0 : Int32)) hx hb dX11_sum_1 (by decide) ?_
  refine va_put (D := D) (ci := 11) (v := .int (0 : Int32)) (ty := .int) (C := RX11) (T := TX11) (N := 35) hx hb hts nX11_sum_X11 tyX11 tyX11_ok nmX11 hown hK hP hD hS 0 (wR_0 y a z) rfl 19 (by decide) (hts (.fieldLink RX11 97 "WorksDeskModel" "thrown" "I") (List.mem_of_getElem? (i := 1) rfl)) (fun _ h9 => h9) rfl (tyX11_ok 19 (by decide)) rfl rfl (Nat.le_of_ble_eq_true rfl) dX11_sum_2 (fun H locs hP hD hS => ?_)
  obtain ⟨z1, hP, hD, hm⟩ := zz_up (w := wR y a) (wR_f19 y a z (0 : Int32)) hP hD hm
  refine lv_aload_n hx hb dX11_sum_5 rfl (lv_at hl 0 rfl) ?_
  refine lv_iconst (v := (0 : Int32)) hx hb dX11_sum_6 (by decide) ?_
  refine va_put (D := D) (ci := 11) (v := .int (0 : Int32)) (ty := .int) (C := RX11) (T := TX11) (N := 35) hx hb hts nX11_sum_X11 tyX11 tyX11_ok nmX11 hown hK hP hD hS 0 (wR_0 y a z1) rfl 18 (by decide) (hts (.fieldLink RX11 100 "WorksDeskModel" "rowMany" "I") (List.mem_of_getElem? (i := 2) rfl)) (fun _ h9 => h9) rfl (tyX11_ok 18 (by decide)) rfl rfl (Nat.le_of_ble_eq_true rfl) dX11_sum_7 (fun H locs hP hD hS => ?_)
  obtain ⟨z2, hP, hD, hm⟩ := zz_up (w := wR y a) (wR_f18 y a z1 (0 : Int32)) hP hD hm
  refine lv_aload_n hx hb dX11_sum_10 rfl (lv_at hl 0 rfl) ?_
  refine lv_aload_n hx hb dX11_sum_11 rfl (lv_at hl 0 rfl) ?_
  obtain ⟨r3, h4, hm⟩ := zz_b1_some hm
  refine zz_calll (zz_runV (w := wR y a) (As := []) (rest := [.ref (a 0)]) ⟨hx, hb, hml, hown, hts⟩ (zX11_advancedNow l D y a H.size z2 h4) (cwV 0 hts gX11_sum_X11_advancedNow rfl rfl rfl zdX11_advancedNow ⟨Nat.le_of_ble_eq_true rfl, Nat.le_of_ble_eq_true rfl⟩) hK hN hg hP hD hS hA 0 (wR_0 y a z2) rfl rfl hl.1 rfl (Nat.le_of_ble_eq_true rfl) dX11_sum_12 ⟨Nat.le_of_ble_eq_true rfl, Nat.le_of_ble_eq_true rfl⟩) hD hS hA (fun H locs hP hD hS => ?_)
  obtain ⟨r5, z7, h6, hm⟩ := zz_b2_some hm
  refine zz_callv (zz_runV (w := wR y a) (As := [.long r3]) (rest := []) ⟨hx, hb, hml, hown, hts⟩ (zX11_tell l D y a H.size r3 z2 h6) (cwV 1 hts gX11_sum_X11_tell rfl rfl rfl zdX11_tell ⟨Nat.le_of_ble_eq_true rfl, Nat.le_of_ble_eq_true rfl⟩) hK hN hg hP hD hS hA 0 (wR_0 y a z2) rfl rfl hl.1 rfl (Nat.le_of_ble_eq_true rfl) dX11_sum_15 ⟨Nat.le_of_ble_eq_true rfl, Nat.le_of_ble_eq_true rfl⟩) hD hS hA (fun H locs hP hD hS => ?_)
  refine lv_aload_n hx hb dX11_sum_18 rfl (lv_at hl 0 rfl) ?_
  refine lv_aload_n hx hb dX11_sum_19 rfl (lv_at hl 0 rfl) ?_
  obtain ⟨r8, h9, hm⟩ := zz_b1_some hm
  refine zz_calll (zz_runV (w := wR y a) (As := []) (rest := [.ref (a 0)]) ⟨hx, hb, hml, hown, hts⟩ (zX11_limitNow l D y a H.size z7 h9) (cwV 0 hts gX11_sum_X11_limitNow rfl rfl rfl zdX11_limitNow ⟨Nat.le_of_ble_eq_true rfl, Nat.le_of_ble_eq_true rfl⟩) hK hN hg hP hD hS hA 0 (wR_0 y a z7) rfl rfl hl.1 rfl (Nat.le_of_ble_eq_true rfl) dX11_sum_20 ⟨Nat.le_of_ble_eq_true rfl, Nat.le_of_ble_eq_true rfl⟩) hD hS hA (fun H locs hP hD hS => ?_)
  obtain ⟨r10, z12, h11, hm⟩ := zz_b2_some hm
  refine zz_callv (zz_runV (w := wR y a) (As := [.long r8]) (rest := []) ⟨hx, hb, hml, hown, hts⟩ (zX11_tell l D y a H.size r8 z7 h11) (cwV 1 hts gX11_sum_X11_tell rfl rfl rfl zdX11_tell ⟨Nat.le_of_ble_eq_true rfl, Nat.le_of_ble_eq_true rfl⟩) hK hN hg hP hD hS hA 0 (wR_0 y a z7) rfl rfl hl.1 rfl (Nat.le_of_ble_eq_true rfl) dX11_sum_23 ⟨Nat.le_of_ble_eq_true rfl, Nat.le_of_ble_eq_true rfl⟩) hD hS hA (fun H locs hP hD hS => ?_)
  refine lv_aload_n hx hb dX11_sum_26 rfl (lv_at hl 0 rfl) ?_
  refine lv_aload_n hx hb dX11_sum_27 rfl (lv_at hl 0 rfl) ?_
  refine va_get (D := D) (ci := 11) (v := .int (z12.2.2.1 2)) (C := RX11) (T := TX11) (N := 35) hx hb hts nX11_sum_X11 hown hK hP 0 (wR_0 y a z12) rfl 2 (by decide) (hts (.fieldLink RX11 75 "WorksDeskModel" "itemMany" "I") (List.mem_of_getElem? (i := 3) rfl)) (fun _ h9 => h9) rfl dX11_sum_28 ?_
  refine lv_i2l hx hb dX11_sum_31 rfl ?_
  obtain ⟨r13, z15, h14, hm⟩ := zz_b2_some hm
  refine zz_callv (zz_runV (w := wR y a) (As := [.long ((z12.2.2.1 2).toInt64)]) (rest := []) ⟨hx, hb, hml, hown, hts⟩ (zX11_tell l D y a H.size ((z12.2.2.1 2).toInt64) z12 h14) (cwV 1 hts gX11_sum_X11_tell rfl rfl rfl zdX11_tell ⟨Nat.le_of_ble_eq_true rfl, Nat.le_of_ble_eq_true rfl⟩) hK hN hg hP hD hS hA 0 (wR_0 y a z12) rfl rfl hl.1 rfl (Nat.le_of_ble_eq_true rfl) dX11_sum_32 ⟨Nat.le_of_ble_eq_true rfl, Nat.le_of_ble_eq_true rfl⟩) hD hS hA (fun H locs hP hD hS => ?_)
  refine lv_aload_n hx hb dX11_sum_35 rfl (lv_at hl 0 rfl) ?_
  refine lv_ldc2 (v := (100 : Int64)) hx hb hown (hts (.constantLong RX11 321 (100)) (List.mem_of_getElem? (i := 4) rfl)) dX11_sum_36 ?_
  refine lv_aload_n hx hb dX11_sum_39 rfl (lv_at hl 0 rfl) ?_
  refine va_get (D := D) (ci := 11) (v := .int (z15.2.2.1 9)) (C := RX11) (T := TX11) (N := 35) hx hb hts nX11_sum_X11 hown hK hP 0 (wR_0 y a z15) rfl 9 (by decide) (hts (.fieldLink RX11 85 "WorksDeskModel" "handover" "I") (List.mem_of_getElem? (i := 5) rfl)) (fun _ h9 => h9) rfl dX11_sum_40 ?_
  refine lv_i2l hx hb dX11_sum_43 rfl ?_
  refine lv_lmul hx hb dX11_sum_44 ?_
  refine lv_aload_n hx hb dX11_sum_45 rfl (lv_at hl 0 rfl) ?_
  refine va_get (D := D) (ci := 11) (v := .int (z15.2.2.1 10)) (C := RX11) (T := TX11) (N := 35) hx hb hts nX11_sum_X11 hown hK hP 0 (wR_0 y a z15) rfl 10 (by decide) (hts (.fieldLink RX11 88 "WorksDeskModel" "last" "I") (List.mem_of_getElem? (i := 6) rfl)) (fun _ h9 => h9) rfl dX11_sum_46 ?_
  refine lv_i2l hx hb dX11_sum_49 rfl ?_
  refine lv_ladd hx hb dX11_sum_50 ?_
  obtain ⟨r16, z18, h17, hm⟩ := zz_b2_some hm
  refine zz_callv (zz_runV (w := wR y a) (As := [.long (((100 : Int64) * ((z15.2.2.1 9).toInt64)) + ((z15.2.2.1 10).toInt64))]) (rest := []) ⟨hx, hb, hml, hown, hts⟩ (zX11_tell l D y a H.size (((100 : Int64) * ((z15.2.2.1 9).toInt64)) + ((z15.2.2.1 10).toInt64)) z15 h17) (cwV 1 hts gX11_sum_X11_tell rfl rfl rfl zdX11_tell ⟨Nat.le_of_ble_eq_true rfl, Nat.le_of_ble_eq_true rfl⟩) hK hN hg hP hD hS hA 0 (wR_0 y a z15) rfl rfl hl.1 rfl (Nat.le_of_ble_eq_true rfl) dX11_sum_51 ⟨Nat.le_of_ble_eq_true rfl, Nat.le_of_ble_eq_true rfl⟩) hD hS hA (fun H locs hP hD hS => ?_)
  refine lv_aload_n hx hb dX11_sum_54 rfl (lv_at hl 0 rfl) ?_
  obtain ⟨r19, h20, hm⟩ := zz_b1_some hm
  refine zz_calll (zz_runV (w := wR y a) (As := []) (rest := []) ⟨hx, hb, hml, hown, hts⟩ (zX11_sumNow l D y a H.size z18 h20) (cwV 0 hts gX11_sum_X11_sumNow rfl rfl rfl zdX11_sumNow ⟨Nat.le_of_ble_eq_true rfl, Nat.le_of_ble_eq_true rfl⟩) hK hN hg hP hD hS hA 0 (wR_0 y a z18) rfl rfl hl.1 rfl (Nat.le_of_ble_eq_true rfl) dX11_sum_55 ⟨Nat.le_of_ble_eq_true rfl, Nat.le_of_ble_eq_true rfl⟩) hD hS hA (fun H locs hP hD hS => ?_)
  refine lv_l2i hx hb dX11_sum_58 rfl ?_
  exact zz_iret hx hb hr hlocks (zz_some2 hm) hP hK hD hS dX11_sum_59
def mX11_tellMore (z : zz_M) : Option (Unit × zz_M) := zz_b2 (mX11_layMonths z) (fun r1 z3 => zz_nm (zz_sF z3 18 (0 : Int32)) (fun z4 => zz_ck (zz_in (23 : Int32) 24) (zz_b2 (mX11_tell ((z4.2.1 16 (23 : Int32).toNatClampNeg) - (z4.2.2.2 33)) z4) (fun r6 z8 => zz_b1 (mX11_interestAll z8) (fun r9 => zz_b2 (mX11_tell (r9 - (z8.2.2.2 34)) z8) (fun r11 z13 => some ((), z13)))))))
theorem nX11_tellMore_X11 : ∀ w ∈ wsX110, w ∈ wsX11_tellMore := fun _ h => List.mem_cons_of_mem _ (List.mem_append_right _ (h))
theorem zdX11_tellMore : yX11_tellMore.cls = RX11 ∧ yX11_tellMore.cls ≠ "java/lang/invoke/MethodHandle" ∧ yX11_tellMore.cls ≠ "java/lang/invoke/VarHandle" ∧ (parseMethodDescriptor yX11_tellMore.desc).map (fun d => d.parameters.length) = some 0 := by decide +kernel
set_option maxHeartbeats 4000000 in
set_option maxRecDepth 100000 in
theorem zX11_tellMore (l : Launch) (D : va_G) (y : Nat → ClassId) (a : Nat → Nat) (sz : Nat) (z : zz_M) {r : Unit} {zt : zz_M} (hm : mX11_tellMore z = some (r, zt)) : Met l yX11_tellMore wsX11_tellMore { frames := 7, cells := 0, slots := 0, locals := 175 } (zz_Pc D y (wR y a z) sz [.ref (a 0)]) (zz_Qv D y (wR y a) (va_A (wR y a z) sz) zt) 0 0 (va_A (wR y a z) sz) := by
  refine Met.ofW (cc := cX11_tellMore) (maxL := 1) (ret := none) (by decide) rfl ?_
  intro p e s m args below meth c s₁ B hml hv
  obtain ⟨rfl, hsz, hP, hK, hD0, hN, hg⟩ := hv
  have hx := B.exec
  have hb := B.bytes
  have hr := B.returns
  have hts := atoms_spec (ws := wsX11_tellMore) B.pre
  have hown : s.vm.findClass RX11 = some m.cls := findClass_of_methodNamed B.named
  have hlocks := B.notSynchronized
  clear B
  subst hsz
  have hD := hD0.self (sz := s.heap.size)
  generalize hAe : va_A (wR y a z) s.heap.size = A at hD hg ⊢
  have hA : ∀ q : Nat, s.heap.size ≤ q → A q := fun q h => by rw [← hAe]; exact Or.inr h
  clear hAe hD0
  have hl := lv_entry ([.ref (a 0)]) (n := 1) (Nat.le_of_ble_eq_true rfl)
  rw [lg_entry_eq]
  generalize (lg_sl ([.ref (a 0)]) ++ List.replicate (1 - (lg_sl ([.ref (a 0)])).length) Slot.unset).toArray = ls at hl ⊢
  replace hl : lv_has ls 1 [(0, .ref (a 0))] := hl
  refine zz_go (w := wR y a) hP hD va_S.rf hl (fun G hG => ?_)
  clear hP hD hl ls
  rw [hG]
  intro H locs ls hP hD hS hl
  unfold mX11_tellMore at hm
  refine lv_aload_n hx hb dX11_tellMore_0 rfl (lv_at hl 0 rfl) ?_
  obtain ⟨r1, z3, h2, hm⟩ := zz_b2_some hm
  refine zz_callv (zz_runV (w := wR y a) (As := []) (rest := []) ⟨hx, hb, hml, hown, hts⟩ (zX11_layMonths l D y a H.size z h2) (cwV 0 hts gX11_tellMore_X11_layMonths rfl rfl rfl zdX11_layMonths ⟨Nat.le_of_ble_eq_true rfl, Nat.le_of_ble_eq_true rfl⟩) hK hN hg hP hD hS hA 0 (wR_0 y a z) rfl rfl hl.1 rfl (Nat.le_of_ble_eq_true rfl) dX11_tellMore_1 ⟨Nat.le_of_ble_eq_true rfl, Nat.le_of_ble_eq_true rfl⟩) hD hS hA (fun H locs hP hD hS => ?_)
  refine lv_aload_n hx hb dX11_tellMore_4 rfl (lv_at hl 0 rfl) ?_
  refine lv_iconst (v := (0 : Int32)) hx hb dX11_tellMore_5 (by decide) ?_
  refine va_put (D := D) (ci := 11) (v := .int (0 : Int32)) (ty := .int) (C := RX11) (T := TX11) (N := 35) hx hb hts nX11_tellMore_X11 tyX11 tyX11_ok nmX11 hown hK hP hD hS 0 (wR_0 y a z3) rfl 18 (by decide) (hts (.fieldLink RX11 100 "WorksDeskModel" "rowMany" "I") (List.mem_of_getElem? (i := 1) rfl)) (fun _ h9 => h9) rfl (tyX11_ok 18 (by decide)) rfl rfl (Nat.le_of_ble_eq_true rfl) dX11_tellMore_6 (fun H locs hP hD hS => ?_)
  obtain ⟨z4, hP, hD, hm⟩ := zz_up (w := wR y a) (wR_f18 y a z3 (0 : Int32)) hP hD hm
  refine lv_aload_n hx hb dX11_tellMore_9 rfl (lv_at hl 0 rfl) ?_
  refine lv_aload_n hx hb dX11_tellMore_10 rfl (lv_at hl 0 rfl) ?_
  refine va_get (D := D) (ci := 11) (v := .ref (a 16)) (C := RX11) (T := TX11) (N := 35) hx hb hts nX11_tellMore_X11 hown hK hP 0 (wR_0 y a z4) rfl 28 (by decide) (hts (.fieldLink RX11 57 "WorksDeskModel" "total" "[J") (List.mem_of_getElem? (i := 2) rfl)) (fun _ h9 => h9) rfl dX11_tellMore_11 ?_
  refine lv_bipush (v := (23 : Int32)) hx hb dX11_tellMore_14 (by decide) ?_
  obtain ⟨c5, hm⟩ := zz_ck_some hm
  refine va_lald hx hb hK hP 16 1 (wR_16 y a z4) rfl c5 dX11_tellMore_16 ?_
  refine lv_aload_n hx hb dX11_tellMore_17 rfl (lv_at hl 0 rfl) ?_
  refine va_get (D := D) (ci := 11) (v := .long (z4.2.2.2 33)) (C := RX11) (T := TX11) (N := 35) hx hb hts nX11_tellMore_X11 hown hK hP 0 (wR_0 y a z4) rfl 33 (by decide) (hts (.fieldLink RX11 342 "WorksDeskModel" "totalAside" "J") (List.mem_of_getElem? (i := 3) rfl)) (fun _ h9 => h9) rfl dX11_tellMore_18 ?_
  refine lv_lsub hx hb dX11_tellMore_21 ?_
  obtain ⟨r6, z8, h7, hm⟩ := zz_b2_some hm
  refine zz_callv (zz_runV (w := wR y a) (As := [.long ((z4.2.1 16 (23 : Int32).toNatClampNeg) - (z4.2.2.2 33))]) (rest := []) ⟨hx, hb, hml, hown, hts⟩ (zX11_tell l D y a H.size ((z4.2.1 16 (23 : Int32).toNatClampNeg) - (z4.2.2.2 33)) z4 h7) (cwV 1 hts gX11_tellMore_X11_tell rfl rfl rfl zdX11_tell ⟨Nat.le_of_ble_eq_true rfl, Nat.le_of_ble_eq_true rfl⟩) hK hN hg hP hD hS hA 0 (wR_0 y a z4) rfl rfl hl.1 rfl (Nat.le_of_ble_eq_true rfl) dX11_tellMore_22 ⟨Nat.le_of_ble_eq_true rfl, Nat.le_of_ble_eq_true rfl⟩) hD hS hA (fun H locs hP hD hS => ?_)
  refine lv_aload_n hx hb dX11_tellMore_25 rfl (lv_at hl 0 rfl) ?_
  refine lv_aload_n hx hb dX11_tellMore_26 rfl (lv_at hl 0 rfl) ?_
  obtain ⟨r9, h10, hm⟩ := zz_b1_some hm
  refine zz_calll (zz_runV (w := wR y a) (As := []) (rest := [.ref (a 0)]) ⟨hx, hb, hml, hown, hts⟩ (zX11_interestAll l D y a H.size z8 h10) (cwV 0 hts gX11_tellMore_X11_interestAll rfl rfl rfl zdX11_interestAll ⟨Nat.le_of_ble_eq_true rfl, Nat.le_of_ble_eq_true rfl⟩) hK hN hg hP hD hS hA 0 (wR_0 y a z8) rfl rfl hl.1 rfl (Nat.le_of_ble_eq_true rfl) dX11_tellMore_27 ⟨Nat.le_of_ble_eq_true rfl, Nat.le_of_ble_eq_true rfl⟩) hD hS hA (fun H locs hP hD hS => ?_)
  refine lv_aload_n hx hb dX11_tellMore_30 rfl (lv_at hl 0 rfl) ?_
  refine va_get (D := D) (ci := 11) (v := .long (z8.2.2.2 34)) (C := RX11) (T := TX11) (N := 35) hx hb hts nX11_tellMore_X11 hown hK hP 0 (wR_0 y a z8) rfl 34 (by decide) (hts (.fieldLink RX11 346 "WorksDeskModel" "interestAside" "J") (List.mem_of_getElem? (i := 4) rfl)) (fun _ h9 => h9) rfl dX11_tellMore_31 ?_
  refine lv_lsub hx hb dX11_tellMore_34 ?_
  obtain ⟨r11, z13, h12, hm⟩ := zz_b2_some hm
  refine zz_callv (zz_runV (w := wR y a) (As := [.long (r9 - (z8.2.2.2 34))]) (rest := []) ⟨hx, hb, hml, hown, hts⟩ (zX11_tell l D y a H.size (r9 - (z8.2.2.2 34)) z8 h12) (cwV 1 hts gX11_tellMore_X11_tell rfl rfl rfl zdX11_tell ⟨Nat.le_of_ble_eq_true rfl, Nat.le_of_ble_eq_true rfl⟩) hK hN hg hP hD hS hA 0 (wR_0 y a z8) rfl rfl hl.1 rfl (Nat.le_of_ble_eq_true rfl) dX11_tellMore_35 ⟨Nat.le_of_ble_eq_true rfl, Nat.le_of_ble_eq_true rfl⟩) hD hS hA (fun H locs hP hD hS => ?_)
  exact zz_vret hx hb hr hlocks (zz_some2 hm).2 hP hK hD hS dX11_tellMore_38
def mX11_terms (x1 : Int32) (x2 : Int32) (z : zz_M) : Option (Int32 × zz_M) := zz_nm (zz_sF z 19 (0 : Int32)) (fun z1 => zz_b1 (mX11_isTerm x1 x2) (fun r2 => if r2 = (0 : Int32) then (some ((-1 : Int32), z1)) else (zz_ck (zz_in x1 14) (zz_nm (z1.1 1 x1.toNatClampNeg) (fun n6 => if n6 = x2 then (some ((-2 : Int32), z1)) else (zz_ck (zz_in x1 14) (zz_nm (zz_wI z1 1 x1 x2) (fun z9 => some (n6, z9)))))))))
theorem nX11_terms_X11 : ∀ w ∈ wsX110, w ∈ wsX11_terms := fun _ h => List.mem_cons_of_mem _ (List.mem_append_right _ (h))
theorem zdX11_terms : yX11_terms.cls = RX11 ∧ yX11_terms.cls ≠ "java/lang/invoke/MethodHandle" ∧ yX11_terms.cls ≠ "java/lang/invoke/VarHandle" ∧ (parseMethodDescriptor yX11_terms.desc).map (fun d => d.parameters.length) = some 2 := by decide +kernel
set_option maxHeartbeats 4000000 in
set_option maxRecDepth 100000 in
theorem zX11_terms (l : Launch) (D : va_G) (y : Nat → ClassId) (a : Nat → Nat) (sz : Nat) (x1 : Int32) (x2 : Int32) (z : zz_M) {r : Int32} {zt : zz_M} (hm : mX11_terms x1 x2 z = some (r, zt)) : Met l yX11_terms wsX11_terms { frames := 2, cells := 0, slots := 0, locals := 46 } (zz_Pc D y (wR y a z) sz [.ref (a 0), .int x1, .int x2]) (zz_Qi D y (wR y a) (va_A (wR y a z) sz) r zt) 0 0 (va_A (wR y a z) sz) := by
  refine Met.ofW (cc := cX11_terms) (maxL := 4) (ret := (some .int)) (by decide) rfl ?_
  intro p e s m args below meth c s₁ B hml hv
  obtain ⟨rfl, hsz, hP, hK, hD0, hN, hg⟩ := hv
  have hx := B.exec
  have hb := B.bytes
  have hr := B.returns
  have hts := atoms_spec (ws := wsX11_terms) B.pre
  have hown : s.vm.findClass RX11 = some m.cls := findClass_of_methodNamed B.named
  have hlocks := B.notSynchronized
  clear B
  subst hsz
  have hD := hD0.self (sz := s.heap.size)
  generalize hAe : va_A (wR y a z) s.heap.size = A at hD hg ⊢
  have hA : ∀ q : Nat, s.heap.size ≤ q → A q := fun q h => by rw [← hAe]; exact Or.inr h
  clear hAe hD0
  have hl := lv_entry ([.ref (a 0), .int x1, .int x2]) (n := 4) (Nat.le_of_ble_eq_true rfl)
  rw [lg_entry_eq]
  generalize (lg_sl ([.ref (a 0), .int x1, .int x2]) ++ List.replicate (4 - (lg_sl ([.ref (a 0), .int x1, .int x2])).length) Slot.unset).toArray = ls at hl ⊢
  replace hl : lv_has ls 4 [(0, .ref (a 0)), (1, .int x1), (2, .int x2)] := hl
  refine zz_go (w := wR y a) hP hD va_S.rf hl (fun G hG => ?_)
  clear hP hD hl ls
  rw [hG]
  intro H locs ls hP hD hS hl
  unfold mX11_terms at hm
  refine lv_aload_n hx hb dX11_terms_0 rfl (lv_at hl 0 rfl) ?_
  refine lv_iconst (v := (0 : Int32)) hx hb dX11_terms_1 (by decide) ?_
  refine va_put (D := D) (ci := 11) (v := .int (0 : Int32)) (ty := .int) (C := RX11) (T := TX11) (N := 35) hx hb hts nX11_terms_X11 tyX11 tyX11_ok nmX11 hown hK hP hD hS 0 (wR_0 y a z) rfl 19 (by decide) (hts (.fieldLink RX11 97 "WorksDeskModel" "thrown" "I") (List.mem_of_getElem? (i := 1) rfl)) (fun _ h9 => h9) rfl (tyX11_ok 19 (by decide)) rfl rfl (Nat.le_of_ble_eq_true rfl) dX11_terms_2 (fun H locs hP hD hS => ?_)
  obtain ⟨z1, hP, hD, hm⟩ := zz_up (w := wR y a) (wR_f19 y a z (0 : Int32)) hP hD hm
  refine lv_iload_n hx hb dX11_terms_5 rfl (lv_at hl 1 rfl) ?_
  refine lv_iload_n hx hb dX11_terms_6 rfl (lv_at hl 2 rfl) ?_
  obtain ⟨r2, h3, hm⟩ := zz_b1_some hm
  refine zz_calli (zz_runS (w := wR y a) (As := [.int x1, .int x2]) (rest := []) ⟨hx, hb, hml, hown, hts⟩ (zX11_isTerm l D y a H.size x1 x2 z1 h3) (va_cwS 2 hts gX11_terms_X11_isTerm rfl rfl rfl zdX11_isTerm ⟨Nat.le_of_ble_eq_true rfl, Nat.le_of_ble_eq_true rfl⟩) hK hN hg hP hD hS hA rfl hl.1 rfl (Nat.le_of_ble_eq_true rfl) dX11_terms_7 ⟨Nat.le_of_ble_eq_true rfl, Nat.le_of_ble_eq_true rfl⟩) hD hS hA (fun H locs hP hD hS => ?_)
  refine lv_if_ne (tgt := 15) hx hb dX11_terms_10 (by decide) (fun c4 => ?_) (fun c4 => ?_)
  · replace hm := zz_neg c4 hm
    refine lv_aload_n hx hb dX11_terms_15 rfl (lv_at hl 0 rfl) ?_
    refine va_get (D := D) (ci := 11) (v := .ref (a 1)) (C := RX11) (T := TX11) (N := 35) hx hb hts nX11_terms_X11 hown hK hP 0 (wR_0 y a z1) rfl 0 (by decide) (hts (.fieldLink RX11 7 "WorksDeskModel" "terms" "[I") (List.mem_of_getElem? (i := 2) rfl)) (fun _ h9 => h9) rfl dX11_terms_16 ?_
    refine lv_iload_n hx hb dX11_terms_19 rfl (lv_at hl 1 rfl) ?_
    obtain ⟨c5, hm⟩ := zz_ck_some hm
    refine va_iald hx hb hK hP 1 0 (wR_1 y a z1) rfl c5 dX11_terms_20 ?_
    refine lv_topi (fun n6 en6 => ?_)
    replace hm := zz_nm_some en6 hm
    refine lv_istore_n (lv' := [(3, .int n6), (0, .ref (a 0)), (1, .int x1), (2, .int x2)]) hx hb dX11_terms_21 rfl hl (by decide) rfl (fun ls hl => ?_)
    refine lv_iload_n hx hb dX11_terms_22 rfl (lv_at hl 0 rfl) ?_
    refine lv_iload_n hx hb dX11_terms_23 rfl (lv_at hl 3 rfl) ?_
    refine lv_icmp_ne (tgt := 30) hx hb dX11_terms_24 (by decide) (fun c7 => ?_) (fun c7 => ?_)
    · replace hm := zz_neg c7 hm
      refine lv_aload_n hx hb dX11_terms_30 rfl (lv_at hl 1 rfl) ?_
      refine va_get (D := D) (ci := 11) (v := .ref (a 1)) (C := RX11) (T := TX11) (N := 35) hx hb hts nX11_terms_X11 hown hK hP 0 (wR_0 y a z1) rfl 0 (by decide) (hts (.fieldLink RX11 7 "WorksDeskModel" "terms" "[I") (List.mem_of_getElem? (i := 2) rfl)) (fun _ h9 => h9) rfl dX11_terms_31 ?_
      refine lv_iload_n hx hb dX11_terms_34 rfl (lv_at hl 2 rfl) ?_
      refine lv_iload_n hx hb dX11_terms_35 rfl (lv_at hl 3 rfl) ?_
      obtain ⟨c8, hm⟩ := zz_ck_some hm
      refine va_iast hx hb hK hP hD hS 1 0 (wR_1 y a z1) rfl c8 dX11_terms_36 (fun H locs hP hD hS => ?_)
      obtain ⟨z9, hP, hD, hm⟩ := zz_up (w := wR y a) (wR_w1 y a z1 x1 x2) hP hD hm
      refine lv_iload_n hx hb dX11_terms_37 rfl (lv_at hl 0 rfl) ?_
      exact zz_iret hx hb hr hlocks (zz_some2 hm) hP hK hD hS dX11_terms_38
    · replace hm := zz_pos c7 hm
      refine lv_bipush (v := (-2 : Int32)) hx hb dX11_terms_27 (by decide) ?_
      exact zz_iret hx hb hr hlocks (zz_some2 hm) hP hK hD hS dX11_terms_29
  · replace hm := zz_pos c4 hm
    refine lv_iconst (v := (-1 : Int32)) hx hb dX11_terms_13 (by decide) ?_
    exact zz_iret hx hb hr hlocks (zz_some2 hm) hP hK hD hS dX11_terms_14
def mX11_thrown (z : zz_M) : Option Int32 := some (z.2.2.1 19)
theorem nX11_thrown_X11 : ∀ w ∈ wsX110, w ∈ wsX11_thrown := fun _ h => List.mem_cons_of_mem _ (List.mem_append_right _ (h))
theorem zdX11_thrown : yX11_thrown.cls = RX11 ∧ yX11_thrown.cls ≠ "java/lang/invoke/MethodHandle" ∧ yX11_thrown.cls ≠ "java/lang/invoke/VarHandle" ∧ (parseMethodDescriptor yX11_thrown.desc).map (fun d => d.parameters.length) = some 0 := by decide +kernel
set_option maxHeartbeats 4000000 in
set_option maxRecDepth 100000 in
theorem zX11_thrown (l : Launch) (D : va_G) (y : Nat → ClassId) (a : Nat → Nat) (sz : Nat) (z : zz_M) {r : Int32} (hm : mX11_thrown z = some r) : Met l yX11_thrown wsX11_thrown { frames := 0, cells := 0, slots := 0, locals := 0 } (zz_Pc D y (wR y a z) sz [.ref (a 0)]) (zz_Qi D y (wR y a) (va_A (wR y a z) sz) r z) 0 0 (va_A (wR y a z) sz) := by
  refine Met.ofW (cc := cX11_thrown) (maxL := 1) (ret := (some .int)) (by decide) rfl ?_
  intro p e s m args below meth c s₁ B hml hv
  obtain ⟨rfl, hsz, hP, hK, hD0, hN, hg⟩ := hv
  have hx := B.exec
  have hb := B.bytes
  have hr := B.returns
  have hts := atoms_spec (ws := wsX11_thrown) B.pre
  have hown : s.vm.findClass RX11 = some m.cls := findClass_of_methodNamed B.named
  have hlocks := B.notSynchronized
  clear B
  subst hsz
  have hD := hD0.self (sz := s.heap.size)
  generalize hAe : va_A (wR y a z) s.heap.size = A at hD hg ⊢
  have hA : ∀ q : Nat, s.heap.size ≤ q → A q := fun q h => by rw [← hAe]; exact Or.inr h
  clear hAe hD0
  have hl := lv_entry ([.ref (a 0)]) (n := 1) (Nat.le_of_ble_eq_true rfl)
  rw [lg_entry_eq]
  generalize (lg_sl ([.ref (a 0)]) ++ List.replicate (1 - (lg_sl ([.ref (a 0)])).length) Slot.unset).toArray = ls at hl ⊢
  replace hl : lv_has ls 1 [(0, .ref (a 0))] := hl
  refine zz_go (w := wR y a) hP hD va_S.rf hl (fun G hG => ?_)
  clear hP hD hl ls
  rw [hG]
  intro H locs ls hP hD hS hl
  unfold mX11_thrown at hm
  refine lv_aload_n hx hb dX11_thrown_0 rfl (lv_at hl 0 rfl) ?_
  refine va_get (D := D) (ci := 11) (v := .int (z.2.2.1 19)) (C := RX11) (T := TX11) (N := 35) hx hb hts nX11_thrown_X11 hown hK hP 0 (wR_0 y a z) rfl 19 (by decide) (hts (.fieldLink RX11 97 "WorksDeskModel" "thrown" "I") (List.mem_of_getElem? (i := 1) rfl)) (fun _ h9 => h9) rfl dX11_thrown_1 ?_
  exact zz_iret hx hb hr hlocks ⟨zz_some1 hm, rfl⟩ hP hK hD hS dX11_thrown_4
def mX11_were_b32 (z : zz_M) : Option (Int32 × zz_M) := some ((-1 : Int32), z)
def mX11_were (x1 : Int32) (x2 : Int32) (z : zz_M) : Option (Int32 × zz_M) := zz_nm (zz_sF z 19 (0 : Int32)) (fun z1 => zz_b1 (mX11_isSet x1 z1) (fun r2 => if r2 = (0 : Int32) then (mX11_were_b32 z1) else (zz_b1 (mX11_isMonth x2) (fun r5 => if r5 = (0 : Int32) then (mX11_were_b32 z1) else (zz_ck (zz_in ((5 : Int32) * x1) 30) (if (z1.1 6 ((5 : Int32) * x1).toNatClampNeg) ≤ x2 then (zz_nm ((5 : Int32) * x1) (fun n10 => zz_ck (zz_in (n10 + (2 : Int32)) 30) (zz_nm (z1.1 6 (n10 + (2 : Int32)).toNatClampNeg) (fun n12 => zz_ck (zz_in (n10 + (3 : Int32)) 30) (zz_nm (z1.1 6 (n10 + (3 : Int32)).toNatClampNeg) (fun n14 => zz_b2 (mX11_layAside z1) (fun r15 z17 => zz_ck (zz_in (n10 + (2 : Int32)) 30) (zz_nm (zz_wI z17 6 (n10 + (2 : Int32)) x2) (fun z19 => zz_ck (zz_in (n10 + (3 : Int32)) 30) (zz_nm (zz_wI z19 6 (n10 + (3 : Int32)) (24 : Int32)) (fun z21 => zz_b2 (mX11_tellMore z21) (fun r22 z24 => zz_ck (zz_in (n10 + (2 : Int32)) 30) (zz_nm (zz_wI z24 6 (n10 + (2 : Int32)) n12) (fun z26 => zz_ck (zz_in (n10 + (3 : Int32)) 30) (zz_nm (zz_wI z26 6 (n10 + (3 : Int32)) n14) (fun z28 => some ((0 : Int32), z28))))))))))))))))) else (mX11_were_b32 z1)))))))
theorem nX11_were_X11 : ∀ w ∈ wsX110, w ∈ wsX11_were := fun _ h => List.mem_cons_of_mem _ (List.mem_append_right _ (h))
theorem zdX11_were : yX11_were.cls = RX11 ∧ yX11_were.cls ≠ "java/lang/invoke/MethodHandle" ∧ yX11_were.cls ≠ "java/lang/invoke/VarHandle" ∧ (parseMethodDescriptor yX11_were.desc).map (fun d => d.parameters.length) = some 2 := by decide +kernel
set_option maxHeartbeats 4000000 in
set_option maxRecDepth 100000 in
theorem zX11_were (l : Launch) (D : va_G) (y : Nat → ClassId) (a : Nat → Nat) (sz : Nat) (x1 : Int32) (x2 : Int32) (z : zz_M) {r : Int32} {zt : zz_M} (hm : mX11_were x1 x2 z = some (r, zt)) : Met l yX11_were wsX11_were { frames := 8, cells := 0, slots := 0, locals := 196 } (zz_Pc D y (wR y a z) sz [.ref (a 0), .int x1, .int x2]) (zz_Qi D y (wR y a) (va_A (wR y a z) sz) r zt) 0 0 (va_A (wR y a z) sz) := by
  refine Met.ofW (cc := cX11_were) (maxL := 6) (ret := (some .int)) (by decide) rfl ?_
  intro p e s m args below meth c s₁ B hml hv
  obtain ⟨rfl, hsz, hP, hK, hD0, hN, hg⟩ := hv
  have hx := B.exec
  have hb := B.bytes
  have hr := B.returns
  have hts := atoms_spec (ws := wsX11_were) B.pre
  have hown : s.vm.findClass RX11 = some m.cls := findClass_of_methodNamed B.named
  have hlocks := B.notSynchronized
  clear B
  subst hsz
  have hD := hD0.self (sz := s.heap.size)
  generalize hAe : va_A (wR y a z) s.heap.size = A at hD hg ⊢
  have hA : ∀ q : Nat, s.heap.size ≤ q → A q := fun q h => by rw [← hAe]; exact Or.inr h
  clear hAe hD0
  have hl := lv_entry ([.ref (a 0), .int x1, .int x2]) (n := 6) (Nat.le_of_ble_eq_true rfl)
  rw [lg_entry_eq]
  generalize (lg_sl ([.ref (a 0), .int x1, .int x2]) ++ List.replicate (6 - (lg_sl ([.ref (a 0), .int x1, .int x2])).length) Slot.unset).toArray = ls at hl ⊢
  replace hl : lv_has ls 6 [(0, .ref (a 0)), (1, .int x1), (2, .int x2)] := hl
  refine zz_go (w := wR y a) hP hD va_S.rf hl (fun G hG => ?_)
  clear hP hD hl ls
  have J32 : ∀ (z : zz_M), mX11_were_b32 z = some (r, zt) → G 32 [] [] z := by
    intro z hm
    rw [mX11_were_b32] at hm
    rw [hG]
    intro H locs ls hP hD hS hl
    refine lv_iconst (v := (-1 : Int32)) hx hb dX11_were_32 (by decide) ?_
    exact zz_iret hx hb hr hlocks (zz_some2 hm) hP hK hD hS dX11_were_33
  rw [hG]
  intro H locs ls hP hD hS hl
  unfold mX11_were at hm
  refine lv_aload_n hx hb dX11_were_0 rfl (lv_at hl 0 rfl) ?_
  refine lv_iconst (v := (0 : Int32)) hx hb dX11_were_1 (by decide) ?_
  refine va_put (D := D) (ci := 11) (v := .int (0 : Int32)) (ty := .int) (C := RX11) (T := TX11) (N := 35) hx hb hts nX11_were_X11 tyX11 tyX11_ok nmX11 hown hK hP hD hS 0 (wR_0 y a z) rfl 19 (by decide) (hts (.fieldLink RX11 97 "WorksDeskModel" "thrown" "I") (List.mem_of_getElem? (i := 1) rfl)) (fun _ h9 => h9) rfl (tyX11_ok 19 (by decide)) rfl rfl (Nat.le_of_ble_eq_true rfl) dX11_were_2 (fun H locs hP hD hS => ?_)
  obtain ⟨z1, hP, hD, hm⟩ := zz_up (w := wR y a) (wR_f19 y a z (0 : Int32)) hP hD hm
  refine lv_aload_n hx hb dX11_were_5 rfl (lv_at hl 0 rfl) ?_
  refine lv_iload_n hx hb dX11_were_6 rfl (lv_at hl 1 rfl) ?_
  obtain ⟨r2, h3, hm⟩ := zz_b1_some hm
  refine zz_calli (zz_runV (w := wR y a) (As := [.int x1]) (rest := []) ⟨hx, hb, hml, hown, hts⟩ (zX11_isSet l D y a H.size x1 z1 h3) (cwV 1 hts gX11_were_X11_isSet rfl rfl rfl zdX11_isSet ⟨Nat.le_of_ble_eq_true rfl, Nat.le_of_ble_eq_true rfl⟩) hK hN hg hP hD hS hA 0 (wR_0 y a z1) rfl rfl hl.1 rfl (Nat.le_of_ble_eq_true rfl) dX11_were_7 ⟨Nat.le_of_ble_eq_true rfl, Nat.le_of_ble_eq_true rfl⟩) hD hS hA (fun H locs hP hD hS => ?_)
  refine lv_if_eq (tgt := 32) hx hb dX11_were_10 (by decide) (fun c4 => ?_) (fun c4 => ?_)
  · replace hm := zz_pos c4 hm
    have j := J32 z1 hm
    rw [hG] at j
    exact j H locs ls hP hD hS (lv_sub hl [] rfl)
  · replace hm := zz_neg c4 hm
    refine lv_iload_n hx hb dX11_were_13 rfl (lv_at hl 2 rfl) ?_
    obtain ⟨r5, h6, hm⟩ := zz_b1_some hm
    refine zz_calli (zz_runS (w := wR y a) (As := [.int x2]) (rest := []) ⟨hx, hb, hml, hown, hts⟩ (zX11_isMonth l D y a H.size x2 z1 h6) (va_cwS 1 hts gX11_were_X11_isMonth rfl rfl rfl zdX11_isMonth ⟨Nat.le_of_ble_eq_true rfl, Nat.le_of_ble_eq_true rfl⟩) hK hN hg hP hD hS hA rfl hl.1 rfl (Nat.le_of_ble_eq_true rfl) dX11_were_14 ⟨Nat.le_of_ble_eq_true rfl, Nat.le_of_ble_eq_true rfl⟩) hD hS hA (fun H locs hP hD hS => ?_)
    refine lv_if_eq (tgt := 32) hx hb dX11_were_17 (by decide) (fun c7 => ?_) (fun c7 => ?_)
    · replace hm := zz_pos c7 hm
      have j := J32 z1 hm
      rw [hG] at j
      exact j H locs ls hP hD hS (lv_sub hl [] rfl)
    · replace hm := zz_neg c7 hm
      refine lv_iload_n hx hb dX11_were_20 rfl (lv_at hl 2 rfl) ?_
      refine lv_aload_n hx hb dX11_were_21 rfl (lv_at hl 0 rfl) ?_
      refine va_get (D := D) (ci := 11) (v := .ref (a 6)) (C := RX11) (T := TX11) (N := 35) hx hb hts nX11_were_X11 hown hK hP 0 (wR_0 y a z1) rfl 7 (by decide) (hts (.fieldLink RX11 25 "WorksDeskModel" "sets" "[I") (List.mem_of_getElem? (i := 2) rfl)) (fun _ h9 => h9) rfl dX11_were_22 ?_
      refine lv_iconst (v := (5 : Int32)) hx hb dX11_were_25 (by decide) ?_
      refine lv_iload_n hx hb dX11_were_26 rfl (lv_at hl 1 rfl) ?_
      refine lv_imul hx hb dX11_were_27 ?_
      obtain ⟨c8, hm⟩ := zz_ck_some hm
      refine va_iald hx hb hK hP 6 0 (wR_6 y a z1) rfl c8 dX11_were_28 ?_
      refine lv_icmp_ge (tgt := 34) hx hb dX11_were_29 (by decide) (fun c9 => ?_) (fun c9 => ?_)
      · replace hm := zz_pos c9 hm
        refine lv_iconst (v := (5 : Int32)) hx hb dX11_were_34 (by decide) ?_
        refine lv_iload_n hx hb dX11_were_35 rfl (lv_at hl 1 rfl) ?_
        refine lv_imul hx hb dX11_were_36 ?_
        refine lv_topi (fun n10 en10 => ?_)
        replace hm := zz_nm_some en10 hm
        refine lv_istore_n (lv' := [(3, .int n10), (0, .ref (a 0)), (1, .int x1), (2, .int x2)]) hx hb dX11_were_37 rfl hl (by decide) rfl (fun ls hl => ?_)
        refine lv_aload_n hx hb dX11_were_38 rfl (lv_at hl 1 rfl) ?_
        refine va_get (D := D) (ci := 11) (v := .ref (a 6)) (C := RX11) (T := TX11) (N := 35) hx hb hts nX11_were_X11 hown hK hP 0 (wR_0 y a z1) rfl 7 (by decide) (hts (.fieldLink RX11 25 "WorksDeskModel" "sets" "[I") (List.mem_of_getElem? (i := 2) rfl)) (fun _ h9 => h9) rfl dX11_were_39 ?_
        refine lv_iload_n hx hb dX11_were_42 rfl (lv_at hl 0 rfl) ?_
        refine lv_iconst (v := (2 : Int32)) hx hb dX11_were_43 (by decide) ?_
        refine lv_iadd hx hb dX11_were_44 ?_
        obtain ⟨c11, hm⟩ := zz_ck_some hm
        refine va_iald hx hb hK hP 6 0 (wR_6 y a z1) rfl c11 dX11_were_45 ?_
        refine lv_topi (fun n12 en12 => ?_)
        replace hm := zz_nm_some en12 hm
        refine lv_istore (lv' := [(4, .int n12), (3, .int n10), (0, .ref (a 0)), (1, .int x1), (2, .int x2)]) hx hb dX11_were_46 hl (by decide) rfl (fun ls hl => ?_)
        refine lv_aload_n hx hb dX11_were_48 rfl (lv_at hl 2 rfl) ?_
        refine va_get (D := D) (ci := 11) (v := .ref (a 6)) (C := RX11) (T := TX11) (N := 35) hx hb hts nX11_were_X11 hown hK hP 0 (wR_0 y a z1) rfl 7 (by decide) (hts (.fieldLink RX11 25 "WorksDeskModel" "sets" "[I") (List.mem_of_getElem? (i := 2) rfl)) (fun _ h9 => h9) rfl dX11_were_49 ?_
        refine lv_iload_n hx hb dX11_were_52 rfl (lv_at hl 1 rfl) ?_
        refine lv_iconst (v := (3 : Int32)) hx hb dX11_were_53 (by decide) ?_
        refine lv_iadd hx hb dX11_were_54 ?_
        obtain ⟨c13, hm⟩ := zz_ck_some hm
        refine va_iald hx hb hK hP 6 0 (wR_6 y a z1) rfl c13 dX11_were_55 ?_
        refine lv_topi (fun n14 en14 => ?_)
        replace hm := zz_nm_some en14 hm
        refine lv_istore (lv' := [(5, .int n14), (4, .int n12), (3, .int n10), (0, .ref (a 0)), (1, .int x1), (2, .int x2)]) hx hb dX11_were_56 hl (by decide) rfl (fun ls hl => ?_)
        refine lv_aload_n hx hb dX11_were_58 rfl (lv_at hl 3 rfl) ?_
        obtain ⟨r15, z17, h16, hm⟩ := zz_b2_some hm
        refine zz_callv (zz_runV (w := wR y a) (As := []) (rest := []) ⟨hx, hb, hml, hown, hts⟩ (zX11_layAside l D y a H.size z1 h16) (cwV 0 hts gX11_were_X11_layAside rfl rfl rfl zdX11_layAside ⟨Nat.le_of_ble_eq_true rfl, Nat.le_of_ble_eq_true rfl⟩) hK hN hg hP hD hS hA 0 (wR_0 y a z1) rfl rfl hl.1 rfl (Nat.le_of_ble_eq_true rfl) dX11_were_59 ⟨Nat.le_of_ble_eq_true rfl, Nat.le_of_ble_eq_true rfl⟩) hD hS hA (fun H locs hP hD hS => ?_)
        refine lv_aload_n hx hb dX11_were_62 rfl (lv_at hl 3 rfl) ?_
        refine va_get (D := D) (ci := 11) (v := .ref (a 6)) (C := RX11) (T := TX11) (N := 35) hx hb hts nX11_were_X11 hown hK hP 0 (wR_0 y a z17) rfl 7 (by decide) (hts (.fieldLink RX11 25 "WorksDeskModel" "sets" "[I") (List.mem_of_getElem? (i := 2) rfl)) (fun _ h9 => h9) rfl dX11_were_63 ?_
        refine lv_iload_n hx hb dX11_were_66 rfl (lv_at hl 2 rfl) ?_
        refine lv_iconst (v := (2 : Int32)) hx hb dX11_were_67 (by decide) ?_
        refine lv_iadd hx hb dX11_were_68 ?_
        refine lv_iload_n hx hb dX11_were_69 rfl (lv_at hl 5 rfl) ?_
        obtain ⟨c18, hm⟩ := zz_ck_some hm
        refine va_iast hx hb hK hP hD hS 6 0 (wR_6 y a z17) rfl c18 dX11_were_70 (fun H locs hP hD hS => ?_)
        obtain ⟨z19, hP, hD, hm⟩ := zz_up (w := wR y a) (wR_w6 y a z17 (n10 + (2 : Int32)) x2) hP hD hm
        refine lv_aload_n hx hb dX11_were_71 rfl (lv_at hl 3 rfl) ?_
        refine va_get (D := D) (ci := 11) (v := .ref (a 6)) (C := RX11) (T := TX11) (N := 35) hx hb hts nX11_were_X11 hown hK hP 0 (wR_0 y a z19) rfl 7 (by decide) (hts (.fieldLink RX11 25 "WorksDeskModel" "sets" "[I") (List.mem_of_getElem? (i := 2) rfl)) (fun _ h9 => h9) rfl dX11_were_72 ?_
        refine lv_iload_n hx hb dX11_were_75 rfl (lv_at hl 2 rfl) ?_
        refine lv_iconst (v := (3 : Int32)) hx hb dX11_were_76 (by decide) ?_
        refine lv_iadd hx hb dX11_were_77 ?_
        refine lv_bipush (v := (24 : Int32)) hx hb dX11_were_78 (by decide) ?_
        obtain ⟨c20, hm⟩ := zz_ck_some hm
        refine va_iast hx hb hK hP hD hS 6 0 (wR_6 y a z19) rfl c20 dX11_were_80 (fun H locs hP hD hS => ?_)
        obtain ⟨z21, hP, hD, hm⟩ := zz_up (w := wR y a) (wR_w6 y a z19 (n10 + (3 : Int32)) (24 : Int32)) hP hD hm
        refine lv_aload_n hx hb dX11_were_81 rfl (lv_at hl 3 rfl) ?_
        obtain ⟨r22, z24, h23, hm⟩ := zz_b2_some hm
        refine zz_callv (zz_runV (w := wR y a) (As := []) (rest := []) ⟨hx, hb, hml, hown, hts⟩ (zX11_tellMore l D y a H.size z21 h23) (cwV 0 hts gX11_were_X11_tellMore rfl rfl rfl zdX11_tellMore ⟨Nat.le_of_ble_eq_true rfl, Nat.le_of_ble_eq_true rfl⟩) hK hN hg hP hD hS hA 0 (wR_0 y a z21) rfl rfl hl.1 rfl (Nat.le_of_ble_eq_true rfl) dX11_were_82 ⟨Nat.le_of_ble_eq_true rfl, Nat.le_of_ble_eq_true rfl⟩) hD hS hA (fun H locs hP hD hS => ?_)
        refine lv_aload_n hx hb dX11_were_85 rfl (lv_at hl 3 rfl) ?_
        refine va_get (D := D) (ci := 11) (v := .ref (a 6)) (C := RX11) (T := TX11) (N := 35) hx hb hts nX11_were_X11 hown hK hP 0 (wR_0 y a z24) rfl 7 (by decide) (hts (.fieldLink RX11 25 "WorksDeskModel" "sets" "[I") (List.mem_of_getElem? (i := 2) rfl)) (fun _ h9 => h9) rfl dX11_were_86 ?_
        refine lv_iload_n hx hb dX11_were_89 rfl (lv_at hl 2 rfl) ?_
        refine lv_iconst (v := (2 : Int32)) hx hb dX11_were_90 (by decide) ?_
        refine lv_iadd hx hb dX11_were_91 ?_
        refine lv_iload hx hb dX11_were_92 (lv_at hl 1 rfl) ?_
        obtain ⟨c25, hm⟩ := zz_ck_some hm
        refine va_iast hx hb hK hP hD hS 6 0 (wR_6 y a z24) rfl c25 dX11_were_94 (fun H locs hP hD hS => ?_)
        obtain ⟨z26, hP, hD, hm⟩ := zz_up (w := wR y a) (wR_w6 y a z24 (n10 + (2 : Int32)) n12) hP hD hm
        refine lv_aload_n hx hb dX11_were_95 rfl (lv_at hl 3 rfl) ?_
        refine va_get (D := D) (ci := 11) (v := .ref (a 6)) (C := RX11) (T := TX11) (N := 35) hx hb hts nX11_were_X11 hown hK hP 0 (wR_0 y a z26) rfl 7 (by decide) (hts (.fieldLink RX11 25 "WorksDeskModel" "sets" "[I") (List.mem_of_getElem? (i := 2) rfl)) (fun _ h9 => h9) rfl dX11_were_96 ?_
        refine lv_iload_n hx hb dX11_were_99 rfl (lv_at hl 2 rfl) ?_
        refine lv_iconst (v := (3 : Int32)) hx hb dX11_were_100 (by decide) ?_
        refine lv_iadd hx hb dX11_were_101 ?_
        refine lv_iload hx hb dX11_were_102 (lv_at hl 0 rfl) ?_
        obtain ⟨c27, hm⟩ := zz_ck_some hm
        refine va_iast hx hb hK hP hD hS 6 0 (wR_6 y a z26) rfl c27 dX11_were_104 (fun H locs hP hD hS => ?_)
        obtain ⟨z28, hP, hD, hm⟩ := zz_up (w := wR y a) (wR_w6 y a z26 (n10 + (3 : Int32)) n14) hP hD hm
        refine lv_iconst (v := (0 : Int32)) hx hb dX11_were_105 (by decide) ?_
        exact zz_iret hx hb hr hlocks (zz_some2 hm) hP hK hD hS dX11_were_106
      · replace hm := zz_neg c9 hm
        have j := J32 z1 hm
        rw [hG] at j
        exact j H locs ls hP hD hS (lv_sub hl [] rfl)
def mX11_worst_b56 (k15 : Int32 → Int32 → Int32 → zz_M → Option (Int32 × zz_M)) (v1 : Int32) (v3 : Int32) (t0 : Int32) (t1 : Int32) (z : zz_M) : Option (Int32 × zz_M) := zz_nm (t1 + t0) (fun n1 => zz_nm (v3 + (1 : Int32)) (fun n2 => k15 v1 n1 n2 z))
def mX11_worst_b39 (k15 : Int32 → Int32 → Int32 → zz_M → Option (Int32 × zz_M)) (v1 : Int32) (v2 : Int32) (v3 : Int32) (z : zz_M) : Option (Int32 × zz_M) := zz_ck (zz_in v3 24) (if (lg_cmp (z.2.1 17 v3.toNatClampNeg) (0 : Int64)) ≤ (0 : Int32) then (mX11_worst_b56 k15 v1 v3 (0 : Int32) v2 z) else (mX11_worst_b56 k15 v1 v3 (1 : Int32) v2 z))
def mX11_worst_b15 : Nat → Int32 → Int32 → Int32 → zz_M → Option (Int32 × zz_M)
  | 0, _, _, _, _ => none
  | n + 1, v1, v2, v3, z => if (24 : Int32) ≤ v3 then (zz_nm (zz_sF z 18 (0 : Int32)) (fun z6 => zz_ck (zz_in v1 24) (zz_b2 (mX11_tell (z6.2.1 17 v1.toNatClampNeg) z6) (fun r8 z10 => zz_b2 (mX11_tell v2.toInt64 z10) (fun r11 z13 => some (v1, z13)))))) else (zz_ck (zz_in v3 24) (zz_ck (zz_in v1 24) (if (lg_cmp (z.2.1 17 v3.toNatClampNeg) (z.2.1 17 v1.toNatClampNeg)) ≤ (0 : Int32) then (mX11_worst_b39 (mX11_worst_b15 n) v1 v2 v3 z) else (mX11_worst_b39 (mX11_worst_b15 n) v3 v2 v3 z))))
def mX11_worst (z : zz_M) : Option (Int32 × zz_M) := zz_nm (zz_sF z 19 (0 : Int32)) (fun z17 => zz_b2 (mX11_layMonths z17) (fun r18 z20 => mX11_worst_b15 zz_N (0 : Int32) (0 : Int32) (0 : Int32) z20))
theorem nX11_worst_X11 : ∀ w ∈ wsX110, w ∈ wsX11_worst := fun _ h => List.mem_cons_of_mem _ (List.mem_append_right _ (h))
theorem zdX11_worst : yX11_worst.cls = RX11 ∧ yX11_worst.cls ≠ "java/lang/invoke/MethodHandle" ∧ yX11_worst.cls ≠ "java/lang/invoke/VarHandle" ∧ (parseMethodDescriptor yX11_worst.desc).map (fun d => d.parameters.length) = some 0 := by decide +kernel
set_option maxHeartbeats 4000000 in
set_option maxRecDepth 100000 in
theorem zX11_worst (l : Launch) (D : va_G) (y : Nat → ClassId) (a : Nat → Nat) (sz : Nat) (z : zz_M) {r : Int32} {zt : zz_M} (hm : mX11_worst z = some (r, zt)) : Met l yX11_worst wsX11_worst { frames := 7, cells := 0, slots := 0, locals := 175 } (zz_Pc D y (wR y a z) sz [.ref (a 0)]) (zz_Qi D y (wR y a) (va_A (wR y a z) sz) r zt) 0 0 (va_A (wR y a z) sz) := by
  refine Met.ofW (cc := cX11_worst) (maxL := 4) (ret := (some .int)) (by decide) rfl ?_
  intro p e s m args below meth c s₁ B hml hv
  obtain ⟨rfl, hsz, hP, hK, hD0, hN, hg⟩ := hv
  have hx := B.exec
  have hb := B.bytes
  have hr := B.returns
  have hts := atoms_spec (ws := wsX11_worst) B.pre
  have hown : s.vm.findClass RX11 = some m.cls := findClass_of_methodNamed B.named
  have hlocks := B.notSynchronized
  clear B
  subst hsz
  have hD := hD0.self (sz := s.heap.size)
  generalize hAe : va_A (wR y a z) s.heap.size = A at hD hg ⊢
  have hA : ∀ q : Nat, s.heap.size ≤ q → A q := fun q h => by rw [← hAe]; exact Or.inr h
  clear hAe hD0
  have hl := lv_entry ([.ref (a 0)]) (n := 4) (Nat.le_of_ble_eq_true rfl)
  rw [lg_entry_eq]
  generalize (lg_sl ([.ref (a 0)]) ++ List.replicate (4 - (lg_sl ([.ref (a 0)])).length) Slot.unset).toArray = ls at hl ⊢
  replace hl : lv_has ls 4 [(0, .ref (a 0))] := hl
  refine zz_go (w := wR y a) hP hD va_S.rf hl (fun G hG => ?_)
  clear hP hD hl ls
  have J56 : ∀ (k15 : Int32 → Int32 → Int32 → zz_M → Option (Int32 × zz_M)) (K15 : ∀ (v1 : Int32) (v2 : Int32) (v3 : Int32) (z : zz_M), k15 v1 v2 v3 z = some (r, zt) → G 15 [(0, .ref (a 0)), (1, .int v1), (2, .int v2), (3, .int v3)] [] z) (v1 : Int32) (v3 : Int32) (t0 : Int32) (t1 : Int32) (z : zz_M), mX11_worst_b56 k15 v1 v3 t0 t1 z = some (r, zt) → G 56 [(0, .ref (a 0)), (1, .int v1), (3, .int v3)] [.int t0, .int t1] z := by
    intro k15 K15 v1 v3 t0 t1 z hm
    rw [mX11_worst_b56] at hm
    rw [hG]
    intro H locs ls hP hD hS hl
    refine lv_iadd hx hb dX11_worst_56 ?_
    refine lv_topi (fun n1 en1 => ?_)
    replace hm := zz_nm_some en1 hm
    refine lv_istore_n (lv' := [(2, .int n1), (0, .ref (a 0)), (1, .int v1), (3, .int v3)]) hx hb dX11_worst_57 rfl hl (by decide) rfl (fun ls hl => ?_)
    obtain ⟨n2, en2⟩ : ∃ q : Int32, q = v3 + (1 : Int32) := ⟨_, rfl⟩
    replace hm := zz_nm_some en2 hm
    refine lv_iinc (v := n2) (lv' := [(3, .int n2), (2, .int n1), (0, .ref (a 0)), (1, .int v1)]) hx hb dX11_worst_58 hl (k := 3) rfl (by rw [en2]; rfl) (by decide) rfl (fun ls hl => ?_)
    refine lv_goto (tgt := 15) hx hb dX11_worst_61 (by decide) ?_
    have j := K15 v1 n1 n2 z hm
    rw [hG] at j
    exact j H locs ls hP hD hS (lv_sub hl [2, 3, 1, 0] rfl)
  have J39 : ∀ (k15 : Int32 → Int32 → Int32 → zz_M → Option (Int32 × zz_M)) (K15 : ∀ (v1 : Int32) (v2 : Int32) (v3 : Int32) (z : zz_M), k15 v1 v2 v3 z = some (r, zt) → G 15 [(0, .ref (a 0)), (1, .int v1), (2, .int v2), (3, .int v3)] [] z) (v1 : Int32) (v2 : Int32) (v3 : Int32) (z : zz_M), mX11_worst_b39 k15 v1 v2 v3 z = some (r, zt) → G 39 [(0, .ref (a 0)), (1, .int v1), (2, .int v2), (3, .int v3)] [] z := by
    intro k15 K15 v1 v2 v3 z hm
    rw [mX11_worst_b39] at hm
    rw [hG]
    intro H locs ls hP hD hS hl
    refine lv_iload_n hx hb dX11_worst_39 rfl (lv_at hl 2 rfl) ?_
    refine lv_aload_n hx hb dX11_worst_40 rfl (lv_at hl 0 rfl) ?_
    refine va_get (D := D) (ci := 11) (v := .ref (a 17)) (C := RX11) (T := TX11) (N := 35) hx hb hts nX11_worst_X11 hown hK hP 0 (wR_0 y a z) rfl 29 (by decide) (hts (.fieldLink RX11 60 "WorksDeskModel" "owed" "[J") (List.mem_of_getElem? (i := 2) rfl)) (fun _ h9 => h9) rfl dX11_worst_41 ?_
    refine lv_iload_n hx hb dX11_worst_44 rfl (lv_at hl 3 rfl) ?_
    obtain ⟨c3, hm⟩ := zz_ck_some hm
    refine va_lald hx hb hK hP 17 1 (wR_17 y a z) rfl c3 dX11_worst_45 ?_
    refine lv_lconst (v := (0 : Int64)) hx hb dX11_worst_46 (by decide) ?_
    refine W.lcmp hx hb dX11_worst_47 ?_
    refine lv_if_le (tgt := 55) hx hb dX11_worst_48 (by decide) (fun c4 => ?_) (fun c4 => ?_)
    · replace hm := zz_pos c4 hm
      refine lv_iconst (v := (0 : Int32)) hx hb dX11_worst_55 (by decide) ?_
      have j := J56 k15 K15 v1 v3 (0 : Int32) v2 z hm
      rw [hG] at j
      exact j H locs ls hP hD hS (lv_sub hl [0, 1, 3] rfl)
    · replace hm := zz_neg c4 hm
      refine lv_iconst (v := (1 : Int32)) hx hb dX11_worst_51 (by decide) ?_
      refine lv_goto (tgt := 56) hx hb dX11_worst_52 (by decide) ?_
      have j := J56 k15 K15 v1 v3 (1 : Int32) v2 z hm
      rw [hG] at j
      exact j H locs ls hP hD hS (lv_sub hl [0, 1, 3] rfl)
  have J15 : ∀ (n : Nat) (v1 : Int32) (v2 : Int32) (v3 : Int32) (z : zz_M), mX11_worst_b15 n v1 v2 v3 z = some (r, zt) → G 15 [(0, .ref (a 0)), (1, .int v1), (2, .int v2), (3, .int v3)] [] z := by
    intro n
    induction n with
    | zero =>
      intro v1 v2 v3 z hm
      exact zz_none hm
    | succ n ih =>
      intro v1 v2 v3 z hm
      rw [mX11_worst_b15] at hm
      rw [hG]
      intro H locs ls hP hD hS hl
      refine lv_iload_n hx hb dX11_worst_15 rfl (lv_at hl 3 rfl) ?_
      refine lv_bipush (v := (24 : Int32)) hx hb dX11_worst_16 (by decide) ?_
      refine lv_icmp_ge (tgt := 64) hx hb dX11_worst_18 (by decide) (fun c5 => ?_) (fun c5 => ?_)
      · replace hm := zz_pos c5 hm
        refine lv_aload_n hx hb dX11_worst_64 rfl (lv_at hl 0 rfl) ?_
        refine lv_iconst (v := (0 : Int32)) hx hb dX11_worst_65 (by decide) ?_
        refine va_put (D := D) (ci := 11) (v := .int (0 : Int32)) (ty := .int) (C := RX11) (T := TX11) (N := 35) hx hb hts nX11_worst_X11 tyX11 tyX11_ok nmX11 hown hK hP hD hS 0 (wR_0 y a z) rfl 18 (by decide) (hts (.fieldLink RX11 100 "WorksDeskModel" "rowMany" "I") (List.mem_of_getElem? (i := 3) rfl)) (fun _ h9 => h9) rfl (tyX11_ok 18 (by decide)) rfl rfl (Nat.le_of_ble_eq_true rfl) dX11_worst_66 (fun H locs hP hD hS => ?_)
        obtain ⟨z6, hP, hD, hm⟩ := zz_up (w := wR y a) (wR_f18 y a z (0 : Int32)) hP hD hm
        refine lv_aload_n hx hb dX11_worst_69 rfl (lv_at hl 0 rfl) ?_
        refine lv_aload_n hx hb dX11_worst_70 rfl (lv_at hl 0 rfl) ?_
        refine va_get (D := D) (ci := 11) (v := .ref (a 17)) (C := RX11) (T := TX11) (N := 35) hx hb hts nX11_worst_X11 hown hK hP 0 (wR_0 y a z6) rfl 29 (by decide) (hts (.fieldLink RX11 60 "WorksDeskModel" "owed" "[J") (List.mem_of_getElem? (i := 2) rfl)) (fun _ h9 => h9) rfl dX11_worst_71 ?_
        refine lv_iload_n hx hb dX11_worst_74 rfl (lv_at hl 1 rfl) ?_
        obtain ⟨c7, hm⟩ := zz_ck_some hm
        refine va_lald hx hb hK hP 17 1 (wR_17 y a z6) rfl c7 dX11_worst_75 ?_
        obtain ⟨r8, z10, h9, hm⟩ := zz_b2_some hm
        refine zz_callv (zz_runV (w := wR y a) (As := [.long (z6.2.1 17 v1.toNatClampNeg)]) (rest := []) ⟨hx, hb, hml, hown, hts⟩ (zX11_tell l D y a H.size (z6.2.1 17 v1.toNatClampNeg) z6 h9) (cwV 1 hts gX11_worst_X11_tell rfl rfl rfl zdX11_tell ⟨Nat.le_of_ble_eq_true rfl, Nat.le_of_ble_eq_true rfl⟩) hK hN hg hP hD hS hA 0 (wR_0 y a z6) rfl rfl hl.1 rfl (Nat.le_of_ble_eq_true rfl) dX11_worst_76 ⟨Nat.le_of_ble_eq_true rfl, Nat.le_of_ble_eq_true rfl⟩) hD hS hA (fun H locs hP hD hS => ?_)
        refine lv_aload_n hx hb dX11_worst_79 rfl (lv_at hl 0 rfl) ?_
        refine lv_iload_n hx hb dX11_worst_80 rfl (lv_at hl 2 rfl) ?_
        refine lv_i2l hx hb dX11_worst_81 rfl ?_
        obtain ⟨r11, z13, h12, hm⟩ := zz_b2_some hm
        refine zz_callv (zz_runV (w := wR y a) (As := [.long v2.toInt64]) (rest := []) ⟨hx, hb, hml, hown, hts⟩ (zX11_tell l D y a H.size v2.toInt64 z10 h12) (cwV 1 hts gX11_worst_X11_tell rfl rfl rfl zdX11_tell ⟨Nat.le_of_ble_eq_true rfl, Nat.le_of_ble_eq_true rfl⟩) hK hN hg hP hD hS hA 0 (wR_0 y a z10) rfl rfl hl.1 rfl (Nat.le_of_ble_eq_true rfl) dX11_worst_82 ⟨Nat.le_of_ble_eq_true rfl, Nat.le_of_ble_eq_true rfl⟩) hD hS hA (fun H locs hP hD hS => ?_)
        refine lv_iload_n hx hb dX11_worst_85 rfl (lv_at hl 1 rfl) ?_
        exact zz_iret hx hb hr hlocks (zz_some2 hm) hP hK hD hS dX11_worst_86
      · replace hm := zz_neg c5 hm
        refine lv_aload_n hx hb dX11_worst_21 rfl (lv_at hl 0 rfl) ?_
        refine va_get (D := D) (ci := 11) (v := .ref (a 17)) (C := RX11) (T := TX11) (N := 35) hx hb hts nX11_worst_X11 hown hK hP 0 (wR_0 y a z) rfl 29 (by decide) (hts (.fieldLink RX11 60 "WorksDeskModel" "owed" "[J") (List.mem_of_getElem? (i := 2) rfl)) (fun _ h9 => h9) rfl dX11_worst_22 ?_
        refine lv_iload_n hx hb dX11_worst_25 rfl (lv_at hl 3 rfl) ?_
        obtain ⟨c14, hm⟩ := zz_ck_some hm
        refine va_lald hx hb hK hP 17 1 (wR_17 y a z) rfl c14 dX11_worst_26 ?_
        refine lv_aload_n hx hb dX11_worst_27 rfl (lv_at hl 0 rfl) ?_
        refine va_get (D := D) (ci := 11) (v := .ref (a 17)) (C := RX11) (T := TX11) (N := 35) hx hb hts nX11_worst_X11 hown hK hP 0 (wR_0 y a z) rfl 29 (by decide) (hts (.fieldLink RX11 60 "WorksDeskModel" "owed" "[J") (List.mem_of_getElem? (i := 2) rfl)) (fun _ h9 => h9) rfl dX11_worst_28 ?_
        refine lv_iload_n hx hb dX11_worst_31 rfl (lv_at hl 1 rfl) ?_
        obtain ⟨c15, hm⟩ := zz_ck_some hm
        refine va_lald hx hb hK hP 17 1 (wR_17 y a z) rfl c15 dX11_worst_32 ?_
        refine W.lcmp hx hb dX11_worst_33 ?_
        refine lv_if_le (tgt := 39) hx hb dX11_worst_34 (by decide) (fun c16 => ?_) (fun c16 => ?_)
        · replace hm := zz_pos c16 hm
          have j := J39 (mX11_worst_b15 n) ih v1 v2 v3 z hm
          rw [hG] at j
          exact j H locs ls hP hD hS (lv_sub hl [0, 1, 2, 3] rfl)
        · replace hm := zz_neg c16 hm
          refine lv_iload_n hx hb dX11_worst_37 rfl (lv_at hl 3 rfl) ?_
          refine lv_istore_n (lv' := [(1, .int v3), (0, .ref (a 0)), (2, .int v2), (3, .int v3)]) hx hb dX11_worst_38 rfl hl (by decide) rfl (fun ls hl => ?_)
          have j := J39 (mX11_worst_b15 n) ih v3 v2 v3 z hm
          rw [hG] at j
          exact j H locs ls hP hD hS (lv_sub hl [1, 0, 2, 3] rfl)
  rw [hG]
  intro H locs ls hP hD hS hl
  unfold mX11_worst at hm
  refine lv_aload_n hx hb dX11_worst_0 rfl (lv_at hl 0 rfl) ?_
  refine lv_iconst (v := (0 : Int32)) hx hb dX11_worst_1 (by decide) ?_
  refine va_put (D := D) (ci := 11) (v := .int (0 : Int32)) (ty := .int) (C := RX11) (T := TX11) (N := 35) hx hb hts nX11_worst_X11 tyX11 tyX11_ok nmX11 hown hK hP hD hS 0 (wR_0 y a z) rfl 19 (by decide) (hts (.fieldLink RX11 97 "WorksDeskModel" "thrown" "I") (List.mem_of_getElem? (i := 1) rfl)) (fun _ h9 => h9) rfl (tyX11_ok 19 (by decide)) rfl rfl (Nat.le_of_ble_eq_true rfl) dX11_worst_2 (fun H locs hP hD hS => ?_)
  obtain ⟨z17, hP, hD, hm⟩ := zz_up (w := wR y a) (wR_f19 y a z (0 : Int32)) hP hD hm
  refine lv_aload_n hx hb dX11_worst_5 rfl (lv_at hl 0 rfl) ?_
  obtain ⟨r18, z20, h19, hm⟩ := zz_b2_some hm
  refine zz_callv (zz_runV (w := wR y a) (As := []) (rest := []) ⟨hx, hb, hml, hown, hts⟩ (zX11_layMonths l D y a H.size z17 h19) (cwV 0 hts gX11_worst_X11_layMonths rfl rfl rfl zdX11_layMonths ⟨Nat.le_of_ble_eq_true rfl, Nat.le_of_ble_eq_true rfl⟩) hK hN hg hP hD hS hA 0 (wR_0 y a z17) rfl rfl hl.1 rfl (Nat.le_of_ble_eq_true rfl) dX11_worst_6 ⟨Nat.le_of_ble_eq_true rfl, Nat.le_of_ble_eq_true rfl⟩) hD hS hA (fun H locs hP hD hS => ?_)
  refine lv_iconst (v := (0 : Int32)) hx hb dX11_worst_9 (by decide) ?_
  refine lv_istore_n (lv' := [(1, .int (0 : Int32)), (0, .ref (a 0))]) hx hb dX11_worst_10 rfl hl (by decide) rfl (fun ls hl => ?_)
  refine lv_iconst (v := (0 : Int32)) hx hb dX11_worst_11 (by decide) ?_
  refine lv_istore_n (lv' := [(2, .int (0 : Int32)), (1, .int (0 : Int32)), (0, .ref (a 0))]) hx hb dX11_worst_12 rfl hl (by decide) rfl (fun ls hl => ?_)
  refine lv_iconst (v := (0 : Int32)) hx hb dX11_worst_13 (by decide) ?_
  refine lv_istore_n (lv' := [(3, .int (0 : Int32)), (2, .int (0 : Int32)), (1, .int (0 : Int32)), (0, .ref (a 0))]) hx hb dX11_worst_14 rfl hl (by decide) rfl (fun ls hl => ?_)
  have j := J15 zz_N (0 : Int32) (0 : Int32) (0 : Int32) z20 hm
  rw [hG] at j
  exact j H locs ls hP hD hS (lv_sub hl [3, 2, 1, 0] rfl)
def mX11_would (x1 : Int32) (x2 : Int32) (z : zz_M) : Option (Int32 × zz_M) := zz_nm (zz_sF z 19 (0 : Int32)) (fun z1 => zz_b1 (mX11_isTerm x1 x2) (fun r2 => if r2 = (0 : Int32) then (some ((-1 : Int32), z1)) else (zz_ck (zz_in x1 14) (zz_nm (z1.1 1 x1.toNatClampNeg) (fun n6 => zz_b2 (mX11_layAside z1) (fun r7 z9 => zz_ck (zz_in x1 14) (zz_nm (zz_wI z9 1 x1 x2) (fun z11 => zz_b2 (mX11_tellMore z11) (fun r12 z14 => zz_ck (zz_in x1 14) (zz_nm (zz_wI z14 1 x1 n6) (fun z16 => some ((0 : Int32), z16))))))))))))
theorem nX11_would_X11 : ∀ w ∈ wsX110, w ∈ wsX11_would := fun _ h => List.mem_cons_of_mem _ (List.mem_append_right _ (h))
theorem zdX11_would : yX11_would.cls = RX11 ∧ yX11_would.cls ≠ "java/lang/invoke/MethodHandle" ∧ yX11_would.cls ≠ "java/lang/invoke/VarHandle" ∧ (parseMethodDescriptor yX11_would.desc).map (fun d => d.parameters.length) = some 2 := by decide +kernel
set_option maxHeartbeats 4000000 in
set_option maxRecDepth 100000 in
theorem zX11_would (l : Launch) (D : va_G) (y : Nat → ClassId) (a : Nat → Nat) (sz : Nat) (x1 : Int32) (x2 : Int32) (z : zz_M) {r : Int32} {zt : zz_M} (hm : mX11_would x1 x2 z = some (r, zt)) : Met l yX11_would wsX11_would { frames := 8, cells := 0, slots := 0, locals := 196 } (zz_Pc D y (wR y a z) sz [.ref (a 0), .int x1, .int x2]) (zz_Qi D y (wR y a) (va_A (wR y a z) sz) r zt) 0 0 (va_A (wR y a z) sz) := by
  refine Met.ofW (cc := cX11_would) (maxL := 4) (ret := (some .int)) (by decide) rfl ?_
  intro p e s m args below meth c s₁ B hml hv
  obtain ⟨rfl, hsz, hP, hK, hD0, hN, hg⟩ := hv
  have hx := B.exec
  have hb := B.bytes
  have hr := B.returns
  have hts := atoms_spec (ws := wsX11_would) B.pre
  have hown : s.vm.findClass RX11 = some m.cls := findClass_of_methodNamed B.named
  have hlocks := B.notSynchronized
  clear B
  subst hsz
  have hD := hD0.self (sz := s.heap.size)
  generalize hAe : va_A (wR y a z) s.heap.size = A at hD hg ⊢
  have hA : ∀ q : Nat, s.heap.size ≤ q → A q := fun q h => by rw [← hAe]; exact Or.inr h
  clear hAe hD0
  have hl := lv_entry ([.ref (a 0), .int x1, .int x2]) (n := 4) (Nat.le_of_ble_eq_true rfl)
  rw [lg_entry_eq]
  generalize (lg_sl ([.ref (a 0), .int x1, .int x2]) ++ List.replicate (4 - (lg_sl ([.ref (a 0), .int x1, .int x2])).length) Slot.unset).toArray = ls at hl ⊢
  replace hl : lv_has ls 4 [(0, .ref (a 0)), (1, .int x1), (2, .int x2)] := hl
  refine zz_go (w := wR y a) hP hD va_S.rf hl (fun G hG => ?_)
  clear hP hD hl ls
  rw [hG]
  intro H locs ls hP hD hS hl
  unfold mX11_would at hm
  refine lv_aload_n hx hb dX11_would_0 rfl (lv_at hl 0 rfl) ?_
  refine lv_iconst (v := (0 : Int32)) hx hb dX11_would_1 (by decide) ?_
  refine va_put (D := D) (ci := 11) (v := .int (0 : Int32)) (ty := .int) (C := RX11) (T := TX11) (N := 35) hx hb hts nX11_would_X11 tyX11 tyX11_ok nmX11 hown hK hP hD hS 0 (wR_0 y a z) rfl 19 (by decide) (hts (.fieldLink RX11 97 "WorksDeskModel" "thrown" "I") (List.mem_of_getElem? (i := 1) rfl)) (fun _ h9 => h9) rfl (tyX11_ok 19 (by decide)) rfl rfl (Nat.le_of_ble_eq_true rfl) dX11_would_2 (fun H locs hP hD hS => ?_)
  obtain ⟨z1, hP, hD, hm⟩ := zz_up (w := wR y a) (wR_f19 y a z (0 : Int32)) hP hD hm
  refine lv_iload_n hx hb dX11_would_5 rfl (lv_at hl 1 rfl) ?_
  refine lv_iload_n hx hb dX11_would_6 rfl (lv_at hl 2 rfl) ?_
  obtain ⟨r2, h3, hm⟩ := zz_b1_some hm
  refine zz_calli (zz_runS (w := wR y a) (As := [.int x1, .int x2]) (rest := []) ⟨hx, hb, hml, hown, hts⟩ (zX11_isTerm l D y a H.size x1 x2 z1 h3) (va_cwS 2 hts gX11_would_X11_isTerm rfl rfl rfl zdX11_isTerm ⟨Nat.le_of_ble_eq_true rfl, Nat.le_of_ble_eq_true rfl⟩) hK hN hg hP hD hS hA rfl hl.1 rfl (Nat.le_of_ble_eq_true rfl) dX11_would_7 ⟨Nat.le_of_ble_eq_true rfl, Nat.le_of_ble_eq_true rfl⟩) hD hS hA (fun H locs hP hD hS => ?_)
  refine lv_if_ne (tgt := 15) hx hb dX11_would_10 (by decide) (fun c4 => ?_) (fun c4 => ?_)
  · replace hm := zz_neg c4 hm
    refine lv_aload_n hx hb dX11_would_15 rfl (lv_at hl 0 rfl) ?_
    refine va_get (D := D) (ci := 11) (v := .ref (a 1)) (C := RX11) (T := TX11) (N := 35) hx hb hts nX11_would_X11 hown hK hP 0 (wR_0 y a z1) rfl 0 (by decide) (hts (.fieldLink RX11 7 "WorksDeskModel" "terms" "[I") (List.mem_of_getElem? (i := 2) rfl)) (fun _ h9 => h9) rfl dX11_would_16 ?_
    refine lv_iload_n hx hb dX11_would_19 rfl (lv_at hl 1 rfl) ?_
    obtain ⟨c5, hm⟩ := zz_ck_some hm
    refine va_iald hx hb hK hP 1 0 (wR_1 y a z1) rfl c5 dX11_would_20 ?_
    refine lv_topi (fun n6 en6 => ?_)
    replace hm := zz_nm_some en6 hm
    refine lv_istore_n (lv' := [(3, .int n6), (0, .ref (a 0)), (1, .int x1), (2, .int x2)]) hx hb dX11_would_21 rfl hl (by decide) rfl (fun ls hl => ?_)
    refine lv_aload_n hx hb dX11_would_22 rfl (lv_at hl 1 rfl) ?_
    obtain ⟨r7, z9, h8, hm⟩ := zz_b2_some hm
    refine zz_callv (zz_runV (w := wR y a) (As := []) (rest := []) ⟨hx, hb, hml, hown, hts⟩ (zX11_layAside l D y a H.size z1 h8) (cwV 0 hts gX11_would_X11_layAside rfl rfl rfl zdX11_layAside ⟨Nat.le_of_ble_eq_true rfl, Nat.le_of_ble_eq_true rfl⟩) hK hN hg hP hD hS hA 0 (wR_0 y a z1) rfl rfl hl.1 rfl (Nat.le_of_ble_eq_true rfl) dX11_would_23 ⟨Nat.le_of_ble_eq_true rfl, Nat.le_of_ble_eq_true rfl⟩) hD hS hA (fun H locs hP hD hS => ?_)
    refine lv_aload_n hx hb dX11_would_26 rfl (lv_at hl 1 rfl) ?_
    refine va_get (D := D) (ci := 11) (v := .ref (a 1)) (C := RX11) (T := TX11) (N := 35) hx hb hts nX11_would_X11 hown hK hP 0 (wR_0 y a z9) rfl 0 (by decide) (hts (.fieldLink RX11 7 "WorksDeskModel" "terms" "[I") (List.mem_of_getElem? (i := 2) rfl)) (fun _ h9 => h9) rfl dX11_would_27 ?_
    refine lv_iload_n hx hb dX11_would_30 rfl (lv_at hl 2 rfl) ?_
    refine lv_iload_n hx hb dX11_would_31 rfl (lv_at hl 3 rfl) ?_
    obtain ⟨c10, hm⟩ := zz_ck_some hm
    refine va_iast hx hb hK hP hD hS 1 0 (wR_1 y a z9) rfl c10 dX11_would_32 (fun H locs hP hD hS => ?_)
    obtain ⟨z11, hP, hD, hm⟩ := zz_up (w := wR y a) (wR_w1 y a z9 x1 x2) hP hD hm
    refine lv_aload_n hx hb dX11_would_33 rfl (lv_at hl 1 rfl) ?_
    obtain ⟨r12, z14, h13, hm⟩ := zz_b2_some hm
    refine zz_callv (zz_runV (w := wR y a) (As := []) (rest := []) ⟨hx, hb, hml, hown, hts⟩ (zX11_tellMore l D y a H.size z11 h13) (cwV 0 hts gX11_would_X11_tellMore rfl rfl rfl zdX11_tellMore ⟨Nat.le_of_ble_eq_true rfl, Nat.le_of_ble_eq_true rfl⟩) hK hN hg hP hD hS hA 0 (wR_0 y a z11) rfl rfl hl.1 rfl (Nat.le_of_ble_eq_true rfl) dX11_would_34 ⟨Nat.le_of_ble_eq_true rfl, Nat.le_of_ble_eq_true rfl⟩) hD hS hA (fun H locs hP hD hS => ?_)
    refine lv_aload_n hx hb dX11_would_37 rfl (lv_at hl 1 rfl) ?_
    refine va_get (D := D) (ci := 11) (v := .ref (a 1)) (C := RX11) (T := TX11) (N := 35) hx hb hts nX11_would_X11 hown hK hP 0 (wR_0 y a z14) rfl 0 (by decide) (hts (.fieldLink RX11 7 "WorksDeskModel" "terms" "[I") (List.mem_of_getElem? (i := 2) rfl)) (fun _ h9 => h9) rfl dX11_would_38 ?_
    refine lv_iload_n hx hb dX11_would_41 rfl (lv_at hl 2 rfl) ?_
    refine lv_iload_n hx hb dX11_would_42 rfl (lv_at hl 0 rfl) ?_
    obtain ⟨c15, hm⟩ := zz_ck_some hm
    refine va_iast hx hb hK hP hD hS 1 0 (wR_1 y a z14) rfl c15 dX11_would_43 (fun H locs hP hD hS => ?_)
    obtain ⟨z16, hP, hD, hm⟩ := zz_up (w := wR y a) (wR_w1 y a z14 x1 n6) hP hD hm
    refine lv_iconst (v := (0 : Int32)) hx hb dX11_would_44 (by decide) ?_
    exact zz_iret hx hb hr hlocks (zz_some2 hm) hP hK hD hS dX11_would_45
  · replace hm := zz_pos c4 hm
    refine lv_iconst (v := (-1 : Int32)) hx hb dX11_would_13 (by decide) ?_
    exact zz_iret hx hb hr hlocks (zz_some2 hm) hP hK hD hS dX11_would_14
