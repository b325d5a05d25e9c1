def mX11_change_b39 (z : zz_M) : Option (Int32 × zz_M) := some ((-1 : Int32), z)
def mX11_change (x1 : Int32) (x2 : Int32) (x3 : Int32) (x4 : Int32) (z : zz_M) : Option (Int32 × zz_M) := zz_nm (zz_sF z 19 (0 : Int32)) (fun z1 => zz_b1 (mX11_isMonth x1) (fun r2 => if r2 = (0 : Int32) then (mX11_change_b39 z1) else (zz_b1 (mX11_isKind x2) (fun r5 => if r5 = (0 : Int32) then (mX11_change_b39 z1) else (zz_b1 (mX11_isChanged x3) (fun r8 => if r8 = (0 : Int32) then (mX11_change_b39 z1) else (zz_b1 (mX11_in x4.toInt64 (0 : Int64) (999 : Int64)) (fun r11 => if r11 = (0 : Int32) then (mX11_change_b39 z1) else (if (z1.2.2.1 6) = (8 : Int32) then (some ((-2 : Int32), z1)) else (zz_nm ((4 : Int32) * (z1.2.2.1 6)) (fun n15 => zz_ck (zz_in n15 32) (zz_nm (zz_wI z1 5 n15 x1) (fun z17 => zz_ck (zz_in (n15 + (1 : Int32)) 32) (zz_nm (zz_wI z17 5 (n15 + (1 : Int32)) x2) (fun z19 => zz_ck (zz_in (n15 + (2 : Int32)) 32) (zz_nm (zz_wI z19 5 (n15 + (2 : Int32)) x3) (fun z21 => zz_ck (zz_in (n15 + (3 : Int32)) 32) (zz_nm (zz_wI z21 5 (n15 + (3 : Int32)) x4) (fun z23 => zz_nm (zz_sF z23 6 ((z23.2.2.1 6) + (1 : Int32))) (fun z24 => some ((z24.2.2.1 6) - (1 : Int32), z24)))))))))))))))))))))
theorem nX11_change_X11 : ∀ w ∈ wsX110, w ∈ wsX11_change := fun _ h => List.mem_cons_of_mem _ (List.mem_append_right _ (h))
theorem zdX11_change : yX11_change.cls = RX11 ∧ yX11_change.cls ≠ "java/lang/invoke/MethodHandle" ∧ yX11_change.cls ≠ "java/lang/invoke/VarHandle" ∧ (parseMethodDescriptor yX11_change.desc).map (fun d => d.parameters.length) = some 4 := by decide +kernel
set_option maxHeartbeats 4000000 in
set_option maxRecDepth 100000 in
theorem zX11_change (l : Launch) (D : va_G) (y : Nat → ClassId) (a : Nat → Nat) (sz : Nat) (x1 : Int32) (x2 : Int32) (x3 : Int32) (x4 : Int32) (z : zz_M) {r : Int32} {zt : zz_M} (hm : mX11_change x1 x2 x3 x4 z = some (r, zt)) : Met l yX11_change wsX11_change { frames := 2, cells := 0, slots := 0, locals := 45 } (zz_Pc D y (wR y a z) sz [.ref (a 0), .int x1, .int x2, .int x3, .int x4]) (zz_Qi D y (wR y a) (va_A (wR y a z) sz) r zt) 0 0 (va_A (wR y a z) sz) := by
  refine Met.ofW (cc := cX11_change) (maxL := 6) (ret := (some .int)) (by decide) rfl ?_
  intro p e s m args below meth c s₁ B hml hv
  obtain ⟨rfl, hsz, hP, hK, hD0, hN, hg⟩ := hv
  have hx := B.exec
  have hb := B.bytes
  have hr := B.returns
  have hts := atoms_spec (ws := wsX11_change) B.pre
  have hown : s.vm.findClass RX11 = some m.cls := findClass_of_methodNamed B.named
  have hlocks := B.notSynchronized
  clear B
  subst hsz
  have hD := hD0.self (sz := s.heap.size)
  generalize hAe : va_A (wR y a z) s.heap.size = A at hD hg ⊢
  have hA : ∀ q : Nat, s.heap.size ≤ q → A q := fun q h => by rw [← hAe]; exact Or.inr h
  clear hAe hD0
  have hl := lv_entry ([.ref (a 0), .int x1, .int x2, .int x3, .int x4]) (n := 6) (Nat.le_of_ble_eq_true rfl)
  rw [lg_entry_eq]
  generalize (lg_sl ([.ref (a 0), .int x1, .int x2, .int x3, .int x4]) ++ List.replicate (6 - (lg_sl ([.ref (a 0), .int x1, .int x2, .int x3, .int x4])).length) Slot.unset).toArray = ls at hl ⊢
  replace hl : lv_has ls 6 [(0, .ref (a 0)), (1, .int x1), (2, .int x2), (3, .int x3), (4, .int x4)] := hl
  refine zz_go (w := wR y a) hP hD va_S.rf hl (fun G hG => ?_)
  clear hP hD hl ls
  have J39 : ∀ (z : zz_M), mX11_change_b39 z = some (r, zt) → G 39 [] [] z := by
    intro z hm
    rw [mX11_change_b39] at hm
    rw [hG]
    intro H locs ls hP hD hS hl
    refine lv_iconst (v := (-1 : Int32)) hx hb dX11_change_39 (by decide) ?_
    exact zz_iret hx hb hr hlocks (zz_some2 hm) hP hK hD hS dX11_change_40
  rw [hG]
  intro H locs ls hP hD hS hl
  unfold mX11_change at hm
  refine lv_aload_n hx hb dX11_change_0 rfl (lv_at hl 0 rfl) ?_
  refine lv_iconst (v := (0 : Int32)) hx hb dX11_change_1 (by decide) ?_
  refine va_put (D := D) (ci := 11) (v := .int (0 : Int32)) (ty := .int) (C := RX11) (T := TX11) (N := 35) hx hb hts nX11_change_X11 tyX11 tyX11_ok nmX11 hown hK hP hD hS 0 (wR_0 y a z) rfl 19 (by decide) (hts (.fieldLink RX11 97 "WorksDeskModel" "thrown" "I") (List.mem_of_getElem? (i := 1) rfl)) (fun _ h9 => h9) rfl (tyX11_ok 19 (by decide)) rfl rfl (Nat.le_of_ble_eq_true rfl) dX11_change_2 (fun H locs hP hD hS => ?_)
  obtain ⟨z1, hP, hD, hm⟩ := zz_up (w := wR y a) (wR_f19 y a z (0 : Int32)) hP hD hm
  refine lv_iload_n hx hb dX11_change_5 rfl (lv_at hl 1 rfl) ?_
  obtain ⟨r2, h3, hm⟩ := zz_b1_some hm
  refine zz_calli (zz_runS (w := wR y a) (As := [.int x1]) (rest := []) ⟨hx, hb, hml, hown, hts⟩ (zX11_isMonth l D y a H.size x1 z1 h3) (va_cwS 1 hts gX11_change_X11_isMonth rfl rfl rfl zdX11_isMonth ⟨Nat.le_of_ble_eq_true rfl, Nat.le_of_ble_eq_true rfl⟩) hK hN hg hP hD hS hA rfl hl.1 rfl (Nat.le_of_ble_eq_true rfl) dX11_change_6 ⟨Nat.le_of_ble_eq_true rfl, Nat.le_of_ble_eq_true rfl⟩) hD hS hA (fun H locs hP hD hS => ?_)
  refine lv_if_eq (tgt := 39) hx hb dX11_change_9 (by decide) (fun c4 => ?_) (fun c4 => ?_)
  · replace hm := zz_pos c4 hm
    have j := J39 z1 hm
    rw [hG] at j
    exact j H locs ls hP hD hS (lv_sub hl [] rfl)
  · replace hm := zz_neg c4 hm
    refine lv_iload_n hx hb dX11_change_12 rfl (lv_at hl 2 rfl) ?_
    obtain ⟨r5, h6, hm⟩ := zz_b1_some hm
    refine zz_calli (zz_runS (w := wR y a) (As := [.int x2]) (rest := []) ⟨hx, hb, hml, hown, hts⟩ (zX11_isKind l D y a H.size x2 z1 h6) (va_cwS 1 hts gX11_change_X11_isKind rfl rfl rfl zdX11_isKind ⟨Nat.le_of_ble_eq_true rfl, Nat.le_of_ble_eq_true rfl⟩) hK hN hg hP hD hS hA rfl hl.1 rfl (Nat.le_of_ble_eq_true rfl) dX11_change_13 ⟨Nat.le_of_ble_eq_true rfl, Nat.le_of_ble_eq_true rfl⟩) hD hS hA (fun H locs hP hD hS => ?_)
    refine lv_if_eq (tgt := 39) hx hb dX11_change_16 (by decide) (fun c7 => ?_) (fun c7 => ?_)
    · replace hm := zz_pos c7 hm
      have j := J39 z1 hm
      rw [hG] at j
      exact j H locs ls hP hD hS (lv_sub hl [] rfl)
    · replace hm := zz_neg c7 hm
      refine lv_iload_n hx hb dX11_change_19 rfl (lv_at hl 3 rfl) ?_
      obtain ⟨r8, h9, hm⟩ := zz_b1_some hm
      refine zz_calli (zz_runS (w := wR y a) (As := [.int x3]) (rest := []) ⟨hx, hb, hml, hown, hts⟩ (zX11_isChanged l D y a H.size x3 z1 h9) (va_cwS 1 hts gX11_change_X11_isChanged rfl rfl rfl zdX11_isChanged ⟨Nat.le_of_ble_eq_true rfl, Nat.le_of_ble_eq_true rfl⟩) hK hN hg hP hD hS hA rfl hl.1 rfl (Nat.le_of_ble_eq_true rfl) dX11_change_20 ⟨Nat.le_of_ble_eq_true rfl, Nat.le_of_ble_eq_true rfl⟩) hD hS hA (fun H locs hP hD hS => ?_)
      refine lv_if_eq (tgt := 39) hx hb dX11_change_23 (by decide) (fun c10 => ?_) (fun c10 => ?_)
      · replace hm := zz_pos c10 hm
        have j := J39 z1 hm
        rw [hG] at j
        exact j H locs ls hP hD hS (lv_sub hl [] rfl)
      · replace hm := zz_neg c10 hm
        refine lv_iload hx hb dX11_change_26 (lv_at hl 4 rfl) ?_
        refine lv_i2l hx hb dX11_change_28 rfl ?_
        refine lv_lconst (v := (0 : Int64)) hx hb dX11_change_29 (by decide) ?_
        refine lv_ldc2 (v := (999 : Int64)) hx hb hown (hts (.constantLong RX11 178 (999)) (List.mem_of_getElem? (i := 2) rfl)) dX11_change_30 ?_
        obtain ⟨r11, h12, hm⟩ := zz_b1_some hm
        refine zz_calli (zz_runS (w := wR y a) (As := [.long x4.toInt64, .long (0 : Int64), .long (999 : Int64)]) (rest := []) ⟨hx, hb, hml, hown, hts⟩ (zX11_in l D y a H.size x4.toInt64 (0 : Int64) (999 : Int64) z1 h12) (va_cwS 3 hts gX11_change_X11_in rfl rfl rfl zdX11_in ⟨Nat.le_of_ble_eq_true rfl, Nat.le_of_ble_eq_true rfl⟩) hK hN hg hP hD hS hA rfl hl.1 rfl (Nat.le_of_ble_eq_true rfl) dX11_change_33 ⟨Nat.le_of_ble_eq_true rfl, Nat.le_of_ble_eq_true rfl⟩) hD hS hA (fun H locs hP hD hS => ?_)
        refine lv_if_ne (tgt := 41) hx hb dX11_change_36 (by decide) (fun c13 => ?_) (fun c13 => ?_)
        · replace hm := zz_neg c13 hm
          refine lv_aload_n hx hb dX11_change_41 rfl (lv_at hl 0 rfl) ?_
          refine va_get (D := D) (ci := 11) (v := .int (z1.2.2.1 6)) (C := RX11) (T := TX11) (N := 35) hx hb hts nX11_change_X11 hown hK hP 0 (wR_0 y a z1) rfl 6 (by decide) (hts (.fieldLink RX11 79 "WorksDeskModel" "changeMany" "I") (List.mem_of_getElem? (i := 3) rfl)) (fun _ h9 => h9) rfl dX11_change_42 ?_
          refine lv_bipush (v := (8 : Int32)) hx hb dX11_change_45 (by decide) ?_
          refine lv_icmp_ne (tgt := 53) hx hb dX11_change_47 (by decide) (fun c14 => ?_) (fun c14 => ?_)
          · replace hm := zz_neg c14 hm
            refine lv_iconst (v := (4 : Int32)) hx hb dX11_change_53 (by decide) ?_
            refine lv_aload_n hx hb dX11_change_54 rfl (lv_at hl 0 rfl) ?_
            refine va_get (D := D) (ci := 11) (v := .int (z1.2.2.1 6)) (C := RX11) (T := TX11) (N := 35) hx hb hts nX11_change_X11 hown hK hP 0 (wR_0 y a z1) rfl 6 (by decide) (hts (.fieldLink RX11 79 "WorksDeskModel" "changeMany" "I") (List.mem_of_getElem? (i := 3) rfl)) (fun _ h9 => h9) rfl dX11_change_55 ?_
            refine lv_imul hx hb dX11_change_58 ?_
            refine lv_topi (fun n15 en15 => ?_)
            replace hm := zz_nm_some en15 hm
            refine lv_istore (lv' := [(5, .int n15), (0, .ref (a 0)), (1, .int x1), (2, .int x2), (3, .int x3), (4, .int x4)]) hx hb dX11_change_59 hl (by decide) rfl (fun ls hl => ?_)
            refine lv_aload_n hx hb dX11_change_61 rfl (lv_at hl 1 rfl) ?_
            refine va_get (D := D) (ci := 11) (v := .ref (a 5)) (C := RX11) (T := TX11) (N := 35) hx hb hts nX11_change_X11 hown hK hP 0 (wR_0 y a z1) rfl 5 (by decide) (hts (.fieldLink RX11 22 "WorksDeskModel" "changes" "[I") (List.mem_of_getElem? (i := 4) rfl)) (fun _ h9 => h9) rfl dX11_change_62 ?_
            refine lv_iload hx hb dX11_change_65 (lv_at hl 0 rfl) ?_
            refine lv_iload_n hx hb dX11_change_67 rfl (lv_at hl 2 rfl) ?_
            obtain ⟨c16, hm⟩ := zz_ck_some hm
            refine va_iast hx hb hK hP hD hS 5 0 (wR_5 y a z1) rfl c16 dX11_change_68 (fun H locs hP hD hS => ?_)
            obtain ⟨z17, hP, hD, hm⟩ := zz_up (w := wR y a) (wR_w5 y a z1 n15 x1) hP hD hm
            refine lv_aload_n hx hb dX11_change_69 rfl (lv_at hl 1 rfl) ?_
            refine va_get (D := D) (ci := 11) (v := .ref (a 5)) (C := RX11) (T := TX11) (N := 35) hx hb hts nX11_change_X11 hown hK hP 0 (wR_0 y a z17) rfl 5 (by decide) (hts (.fieldLink RX11 22 "WorksDeskModel" "changes" "[I") (List.mem_of_getElem? (i := 4) rfl)) (fun _ h9 => h9) rfl dX11_change_70 ?_
            refine lv_iload hx hb dX11_change_73 (lv_at hl 0 rfl) ?_
            refine lv_iconst (v := (1 : Int32)) hx hb dX11_change_75 (by decide) ?_
            refine lv_iadd hx hb dX11_change_76 ?_
            refine lv_iload_n hx hb dX11_change_77 rfl (lv_at hl 3 rfl) ?_
            obtain ⟨c18, hm⟩ := zz_ck_some hm
            refine va_iast hx hb hK hP hD hS 5 0 (wR_5 y a z17) rfl c18 dX11_change_78 (fun H locs hP hD hS => ?_)
            obtain ⟨z19, hP, hD, hm⟩ := zz_up (w := wR y a) (wR_w5 y a z17 (n15 + (1 : Int32)) x2) hP hD hm
            refine lv_aload_n hx hb dX11_change_79 rfl (lv_at hl 1 rfl) ?_
            refine va_get (D := D) (ci := 11) (v := .ref (a 5)) (C := RX11) (T := TX11) (N := 35) hx hb hts nX11_change_X11 hown hK hP 0 (wR_0 y a z19) rfl 5 (by decide) (hts (.fieldLink RX11 22 "WorksDeskModel" "changes" "[I") (List.mem_of_getElem? (i := 4) rfl)) (fun _ h9 => h9) rfl dX11_change_80 ?_
            refine lv_iload hx hb dX11_change_83 (lv_at hl 0 rfl) ?_
            refine lv_iconst (v := (2 : Int32)) hx hb dX11_change_85 (by decide) ?_
            refine lv_iadd hx hb dX11_change_86 ?_
            refine lv_iload_n hx hb dX11_change_87 rfl (lv_at hl 4 rfl) ?_
            obtain ⟨c20, hm⟩ := zz_ck_some hm
            refine va_iast hx hb hK hP hD hS 5 0 (wR_5 y a z19) rfl c20 dX11_change_88 (fun H locs hP hD hS => ?_)
            obtain ⟨z21, hP, hD, hm⟩ := zz_up (w := wR y a) (wR_w5 y a z19 (n15 + (2 : Int32)) x3) hP hD hm
            refine lv_aload_n hx hb dX11_change_89 rfl (lv_at hl 1 rfl) ?_
            refine va_get (D := D) (ci := 11) (v := .ref (a 5)) (C := RX11) (T := TX11) (N := 35) hx hb hts nX11_change_X11 hown hK hP 0 (wR_0 y a z21) rfl 5 (by decide) (hts (.fieldLink RX11 22 "WorksDeskModel" "changes" "[I") (List.mem_of_getElem? (i := 4) rfl)) (fun _ h9 => h9) rfl dX11_change_90 ?_
            refine lv_iload hx hb dX11_change_93 (lv_at hl 0 rfl) ?_
            refine lv_iconst (v := (3 : Int32)) hx hb dX11_change_95 (by decide) ?_
            refine lv_iadd hx hb dX11_change_96 ?_
            refine lv_iload hx hb dX11_change_97 (lv_at hl 5 rfl) ?_
            obtain ⟨c22, hm⟩ := zz_ck_some hm
            refine va_iast hx hb hK hP hD hS 5 0 (wR_5 y a z21) rfl c22 dX11_change_99 (fun H locs hP hD hS => ?_)
            obtain ⟨z23, hP, hD, hm⟩ := zz_up (w := wR y a) (wR_w5 y a z21 (n15 + (3 : Int32)) x4) hP hD hm
            refine lv_aload_n hx hb dX11_change_100 rfl (lv_at hl 1 rfl) ?_
            refine lv_dup hx hb dX11_change_101 rfl ?_
            refine va_get (D := D) (ci := 11) (v := .int (z23.2.2.1 6)) (C := RX11) (T := TX11) (N := 35) hx hb hts nX11_change_X11 hown hK hP 0 (wR_0 y a z23) rfl 6 (by decide) (hts (.fieldLink RX11 79 "WorksDeskModel" "changeMany" "I") (List.mem_of_getElem? (i := 3) rfl)) (fun _ h9 => h9) rfl dX11_change_102 ?_
            refine lv_iconst (v := (1 : Int32)) hx hb dX11_change_105 (by decide) ?_
            refine lv_iadd hx hb dX11_change_106 ?_
            refine va_put (D := D) (ci := 11) (v := .int ((z23.2.2.1 6) + (1 : Int32))) (ty := .int) (C := RX11) (T := TX11) (N := 35) hx hb hts nX11_change_X11 tyX11 tyX11_ok nmX11 hown hK hP hD hS 0 (wR_0 y a z23) rfl 6 (by decide) (hts (.fieldLink RX11 79 "WorksDeskModel" "changeMany" "I") (List.mem_of_getElem? (i := 3) rfl)) (fun _ h9 => h9) rfl (tyX11_ok 6 (by decide)) rfl rfl (Nat.le_of_ble_eq_true rfl) dX11_change_107 (fun H locs hP hD hS => ?_)
            obtain ⟨z24, hP, hD, hm⟩ := zz_up (w := wR y a) (wR_f6 y a z23 ((z23.2.2.1 6) + (1 : Int32))) hP hD hm
            refine lv_aload_n hx hb dX11_change_110 rfl (lv_at hl 1 rfl) ?_
            refine va_get (D := D) (ci := 11) (v := .int (z24.2.2.1 6)) (C := RX11) (T := TX11) (N := 35) hx hb hts nX11_change_X11 hown hK hP 0 (wR_0 y a z24) rfl 6 (by decide) (hts (.fieldLink RX11 79 "WorksDeskModel" "changeMany" "I") (List.mem_of_getElem? (i := 3) rfl)) (fun _ h9 => h9) rfl dX11_change_111 ?_
            refine lv_iconst (v := (1 : Int32)) hx hb dX11_change_114 (by decide) ?_
            refine lv_isub hx hb dX11_change_115 ?_
            exact zz_iret hx hb hr hlocks (zz_some2 hm) hP hK hD hS dX11_change_116
          · replace hm := zz_pos c14 hm
            refine lv_bipush (v := (-2 : Int32)) hx hb dX11_change_50 (by decide) ?_
            exact zz_iret hx hb hr hlocks (zz_some2 hm) hP hK hD hS dX11_change_52
        · replace hm := zz_pos c13 hm
          have j := J39 z1 hm
          rw [hG] at j
          exact j H locs ls hP hD hS (lv_sub hl [] rfl)
def mX11_lacking_b29 (z : zz_M) (v1 : Int32) (t0 : Int64) : Option Int64 := zz_b1 (mX11_paidTill v1 z) (fun r1 => some (t0 - r1))
def mX11_lacking (x1 : Int32) (z : zz_M) : Option Int64 := zz_ck (zz_in (8 : Int32) 14) (if x1 < (z.1 1 (8 : Int32).toNatClampNeg) then (mX11_lacking_b29 z x1 (0 : Int64)) else (zz_ck (zz_in (8 : Int32) 14) (zz_ck (zz_in (x1 - (z.1 1 (8 : Int32).toNatClampNeg)) 24) (mX11_lacking_b29 z x1 (z.2.1 16 (x1 - (z.1 1 (8 : Int32).toNatClampNeg)).toNatClampNeg)))))
theorem nX11_lacking_X11 : ∀ w ∈ wsX110, w ∈ wsX11_lacking := fun _ h => List.mem_cons_of_mem _ (List.mem_append_right _ (h))
theorem zdX11_lacking : yX11_lacking.cls = RX11 ∧ yX11_lacking.cls ≠ "java/lang/invoke/MethodHandle" ∧ yX11_lacking.cls ≠ "java/lang/invoke/VarHandle" ∧ (parseMethodDescriptor yX11_lacking.desc).map (fun d => d.parameters.length) = some 1 := by decide +kernel
set_option maxHeartbeats 4000000 in
set_option maxRecDepth 100000 in
theorem zX11_lacking (l : Launch) (D : va_G) (y : Nat → ClassId) (a : Nat → Nat) (sz : Nat) (x1 : Int32) (z : zz_M) {r : Int64} (hm : mX11_lacking x1 z = some r) : Met l yX11_lacking wsX11_lacking { frames := 1, cells := 0, slots := 0, locals := 24 } (zz_Pc D y (wR y a z) sz [.ref (a 0), .int x1]) (zz_Ql D y (wR y a) (va_A (wR y a z) sz) r z) 0 0 (va_A (wR y a z) sz) := by
  refine Met.ofW (cc := cX11_lacking) (maxL := 2) (ret := (some .long)) (by decide) rfl ?_
  intro p e s m args below meth c s₁ B hml hv
  obtain ⟨rfl, hsz, hP, hK, hD0, hN, hg⟩ := hv
  have hx := B.exec
  have hb := B.bytes
  have hr := B.returns
  have hts := atoms_spec (ws := wsX11_lacking) B.pre
  have hown : s.vm.findClass RX11 = some m.cls := findClass_of_methodNamed B.named
  have hlocks := B.notSynchronized
  clear B
  subst hsz
  have hD := hD0.self (sz := s.heap.size)
  generalize hAe : va_A (wR y a z) s.heap.size = A at hD hg ⊢
  have hA : ∀ q : Nat, s.heap.size ≤ q → A q := fun q h => by rw [← hAe]; exact Or.inr h
  clear hAe hD0
  have hl := lv_entry ([.ref (a 0), .int x1]) (n := 2) (Nat.le_of_ble_eq_true rfl)
  rw [lg_entry_eq]
  generalize (lg_sl ([.ref (a 0), .int x1]) ++ List.replicate (2 - (lg_sl ([.ref (a 0), .int x1])).length) Slot.unset).toArray = ls at hl ⊢
  replace hl : lv_has ls 2 [(0, .ref (a 0)), (1, .int x1)] := hl
  refine zz_go (w := wR y a) hP hD va_S.rf hl (fun G hG => ?_)
  clear hP hD hl ls
  have J29 : ∀ (v1 : Int32) (t0 : Int64), mX11_lacking_b29 z v1 t0 = some r → G 29 [(0, .ref (a 0)), (1, .int v1)] [.long t0] z := by
    intro v1 t0 hm
    rw [mX11_lacking_b29] at hm
    rw [hG]
    intro H locs ls hP hD hS hl
    refine lv_aload_n hx hb dX11_lacking_29 rfl (lv_at hl 0 rfl) ?_
    refine lv_iload_n hx hb dX11_lacking_30 rfl (lv_at hl 1 rfl) ?_
    obtain ⟨r1, h2, hm⟩ := zz_b1_some hm
    refine zz_calll (zz_runV (w := wR y a) (As := [.int v1]) (rest := [.long t0]) ⟨hx, hb, hml, hown, hts⟩ (zX11_paidTill l D y a H.size v1 z h2) (cwV 1 hts gX11_lacking_X11_paidTill rfl rfl rfl zdX11_paidTill ⟨Nat.le_of_ble_eq_true rfl, Nat.le_of_ble_eq_true rfl⟩) hK hN hg hP hD hS hA 0 (wR_0 y a z) rfl rfl hl.1 rfl (Nat.le_of_ble_eq_true rfl) dX11_lacking_31 ⟨Nat.le_of_ble_eq_true rfl, Nat.le_of_ble_eq_true rfl⟩) hD hS hA (fun H locs hP hD hS => ?_)
    refine lv_lsub hx hb dX11_lacking_34 ?_
    exact zz_lret hx hb hr hlocks ⟨zz_some1 hm, rfl⟩ hP hK hD hS dX11_lacking_35
  rw [hG]
  intro H locs ls hP hD hS hl
  unfold mX11_lacking at hm
  refine lv_iload_n hx hb dX11_lacking_0 rfl (lv_at hl 1 rfl) ?_
  refine lv_aload_n hx hb dX11_lacking_1 rfl (lv_at hl 0 rfl) ?_
  refine va_get (D := D) (ci := 11) (v := .ref (a 1)) (C := RX11) (T := TX11) (N := 35) hx hb hts nX11_lacking_X11 hown hK hP 0 (wR_0 y a z) rfl 0 (by decide) (hts (.fieldLink RX11 7 "WorksDeskModel" "terms" "[I") (List.mem_of_getElem? (i := 1) rfl)) (fun _ h9 => h9) rfl dX11_lacking_2 ?_
  refine lv_bipush (v := (8 : Int32)) hx hb dX11_lacking_5 (by decide) ?_
  obtain ⟨c3, hm⟩ := zz_ck_some hm
  refine va_iald hx hb hK hP 1 0 (wR_1 y a z) rfl c3 dX11_lacking_7 ?_
  refine lv_icmp_lt (tgt := 28) hx hb dX11_lacking_8 (by decide) (fun c4 => ?_) (fun c4 => ?_)
  · replace hm := zz_pos c4 hm
    refine lv_lconst (v := (0 : Int64)) hx hb dX11_lacking_28 (by decide) ?_
    have j := J29 x1 (0 : Int64) hm
    rw [hG] at j
    exact j H locs ls hP hD hS (lv_sub hl [0, 1] rfl)
  · replace hm := zz_neg c4 hm
    refine lv_aload_n hx hb dX11_lacking_11 rfl (lv_at hl 0 rfl) ?_
    refine va_get (D := D) (ci := 11) (v := .ref (a 16)) (C := RX11) (T := TX11) (N := 35) hx hb hts nX11_lacking_X11 hown hK hP 0 (wR_0 y a z) rfl 28 (by decide) (hts (.fieldLink RX11 57 "WorksDeskModel" "total" "[J") (List.mem_of_getElem? (i := 2) rfl)) (fun _ h9 => h9) rfl dX11_lacking_12 ?_
    refine lv_iload_n hx hb dX11_lacking_15 rfl (lv_at hl 1 rfl) ?_
    refine lv_aload_n hx hb dX11_lacking_16 rfl (lv_at hl 0 rfl) ?_
    refine va_get (D := D) (ci := 11) (v := .ref (a 1)) (C := RX11) (T := TX11) (N := 35) hx hb hts nX11_lacking_X11 hown hK hP 0 (wR_0 y a z) rfl 0 (by decide) (hts (.fieldLink RX11 7 "WorksDeskModel" "terms" "[I") (List.mem_of_getElem? (i := 1) rfl)) (fun _ h9 => h9) rfl dX11_lacking_17 ?_
    refine lv_bipush (v := (8 : Int32)) hx hb dX11_lacking_20 (by decide) ?_
    obtain ⟨c5, hm⟩ := zz_ck_some hm
    refine va_iald hx hb hK hP 1 0 (wR_1 y a z) rfl c5 dX11_lacking_22 ?_
    refine lv_isub hx hb dX11_lacking_23 ?_
    obtain ⟨c6, hm⟩ := zz_ck_some hm
    refine va_lald hx hb hK hP 16 1 (wR_16 y a z) rfl c6 dX11_lacking_24 ?_
    refine lv_goto (tgt := 29) hx hb dX11_lacking_25 (by decide) ?_
    have j := J29 x1 (z.2.1 16 (x1 - (z.1 1 (8 : Int32).toNatClampNeg)).toNatClampNeg) hm
    rw [hG] at j
    exact j H locs ls hP hD hS (lv_sub hl [0, 1] rfl)
def mX11_clears_b78 (k31 : Int32 → Int64 → Int64 → Int32 → zz_M → Option (Int32 × zz_M)) (v1 : Int32) (v2 : Int64) (v6 : Int32) (t0 : Int64) (t1 : Int64) (z : zz_M) : Option (Int32 × zz_M) := zz_nm (t1 + t0) (fun n1 => zz_nm (v6 + (1 : Int32)) (fun n2 => k31 v1 v2 n1 n2 z))
def mX11_clears_b31 : Nat → Int32 → Int64 → Int64 → Int32 → zz_M → Option (Int32 × zz_M)
  | 0, _, _, _, _, _ => none
  | n + 1, v1, v2, v4, v6, z => if (24 : Int32) ≤ v6 then (zz_nm (zz_sF z 18 (0 : Int32)) (fun z4 => zz_b2 (mX11_tell v2 z4) (fun r5 z7 => zz_b2 (mX11_tell v4 z7) (fun r8 z10 => some ((0 : Int32), z10))))) else (if v1 ≤ v6 then (zz_b1 (mX11_lacking v6 z) (fun r12 => zz_ck (zz_in (7 : Int32) 14) (zz_b1 (mX11_thousandths (if (r12 - v2) < (0 : Int64) then (0 : Int64) else (r12 - v2)) (z.1 1 (7 : Int32).toNatClampNeg)) (fun r15 => mX11_clears_b78 (mX11_clears_b31 n) v1 v2 v6 r15 v4 z)))) else (zz_ck (zz_in v6 24) (mX11_clears_b78 (mX11_clears_b31 n) v1 v2 v6 (z.2.1 18 v6.toNatClampNeg) v4 z)))
def mX11_clears (x1 : Int32) (z : zz_M) : Option (Int32 × zz_M) := zz_nm (zz_sF z 19 (0 : Int32)) (fun z18 => zz_b1 (mX11_isMonth x1) (fun r19 => if r19 = (0 : Int32) then (some ((-1 : Int32), z18)) else (zz_b2 (mX11_layMonths z18) (fun r22 z24 => zz_ck (zz_in x1 24) (zz_nm (z24.2.1 17 x1.toNatClampNeg) (fun n26 => mX11_clears_b31 zz_N x1 n26 (0 : Int64) (0 : Int32) z24))))))
theorem nX11_clears_X11 : ∀ w ∈ wsX110, w ∈ wsX11_clears := fun _ h => List.mem_cons_of_mem _ (List.mem_append_right _ (h))
theorem zdX11_clears : yX11_clears.cls = RX11 ∧ yX11_clears.cls ≠ "java/lang/invoke/MethodHandle" ∧ yX11_clears.cls ≠ "java/lang/invoke/VarHandle" ∧ (parseMethodDescriptor yX11_clears.desc).map (fun d => d.parameters.length) = some 1 := by decide +kernel
set_option maxHeartbeats 4000000 in
set_option maxRecDepth 100000 in
theorem zX11_clears (l : Launch) (D : va_G) (y : Nat → ClassId) (a : Nat → Nat) (sz : Nat) (x1 : Int32) (z : zz_M) {r : Int32} {zt : zz_M} (hm : mX11_clears x1 z = some (r, zt)) : Met l yX11_clears wsX11_clears { frames := 7, cells := 0, slots := 0, locals := 175 } (zz_Pc D y (wR y a z) sz [.ref (a 0), .int x1]) (zz_Qi D y (wR y a) (va_A (wR y a z) sz) r zt) 0 0 (va_A (wR y a z) sz) := by
  refine Met.ofW (cc := cX11_clears) (maxL := 7) (ret := (some .int)) (by decide) rfl ?_
  intro p e s m args below meth c s₁ B hml hv
  obtain ⟨rfl, hsz, hP, hK, hD0, hN, hg⟩ := hv
  have hx := B.exec
  have hb := B.bytes
  have hr := B.returns
  have hts := atoms_spec (ws := wsX11_clears) B.pre
  have hown : s.vm.findClass RX11 = some m.cls := findClass_of_methodNamed B.named
  have hlocks := B.notSynchronized
  clear B
  subst hsz
  have hD := hD0.self (sz := s.heap.size)
  generalize hAe : va_A (wR y a z) s.heap.size = A at hD hg ⊢
  have hA : ∀ q : Nat, s.heap.size ≤ q → A q := fun q h => by rw [← hAe]; exact Or.inr h
  clear hAe hD0
  have hl := lv_entry ([.ref (a 0), .int x1]) (n := 7) (Nat.le_of_ble_eq_true rfl)
  rw [lg_entry_eq]
  generalize (lg_sl ([.ref (a 0), .int x1]) ++ List.replicate (7 - (lg_sl ([.ref (a 0), .int x1])).length) Slot.unset).toArray = ls at hl ⊢
  replace hl : lv_has ls 7 [(0, .ref (a 0)), (1, .int x1)] := hl
  refine zz_go (w := wR y a) hP hD va_S.rf hl (fun G hG => ?_)
  clear hP hD hl ls
  have J78 : ∀ (k31 : Int32 → Int64 → Int64 → Int32 → zz_M → Option (Int32 × zz_M)) (K31 : ∀ (v1 : Int32) (v2 : Int64) (v4 : Int64) (v6 : Int32) (z : zz_M), k31 v1 v2 v4 v6 z = some (r, zt) → G 31 [(0, .ref (a 0)), (1, .int v1), (2, .long v2), (4, .long v4), (6, .int v6)] [] z) (v1 : Int32) (v2 : Int64) (v6 : Int32) (t0 : Int64) (t1 : Int64) (z : zz_M), mX11_clears_b78 k31 v1 v2 v6 t0 t1 z = some (r, zt) → G 78 [(0, .ref (a 0)), (1, .int v1), (2, .long v2), (6, .int v6)] [.long t0, .long t1] z := by
    intro k31 K31 v1 v2 v6 t0 t1 z hm
    rw [mX11_clears_b78] at hm
    rw [hG]
    intro H locs ls hP hD hS hl
    refine lv_ladd hx hb dX11_clears_78 ?_
    refine lv_topl (fun n1 en1 => ?_)
    replace hm := zz_nm_some en1 hm
    refine lv_lstore (lv' := [(4, .long n1), (0, .ref (a 0)), (1, .int v1), (2, .long v2), (6, .int v6)]) hx hb dX11_clears_79 hl (by decide) rfl (fun ls hl => ?_)
    obtain ⟨n2, en2⟩ : ∃ q : Int32, q = v6 + (1 : Int32) := ⟨_, rfl⟩
    replace hm := zz_nm_some en2 hm
    refine lv_iinc (v := n2) (lv' := [(6, .int n2), (4, .long n1), (0, .ref (a 0)), (1, .int v1), (2, .long v2)]) hx hb dX11_clears_81 hl (k := 4) rfl (by rw [en2]; rfl) (by decide) rfl (fun ls hl => ?_)
    refine lv_goto (tgt := 31) hx hb dX11_clears_84 (by decide) ?_
    have j := K31 v1 v2 n1 n2 z hm
    rw [hG] at j
    exact j H locs ls hP hD hS (lv_sub hl [2, 3, 4, 1, 0] rfl)
  have J31 : ∀ (n : Nat) (v1 : Int32) (v2 : Int64) (v4 : Int64) (v6 : Int32) (z : zz_M), mX11_clears_b31 n v1 v2 v4 v6 z = some (r, zt) → G 31 [(0, .ref (a 0)), (1, .int v1), (2, .long v2), (4, .long v4), (6, .int v6)] [] z := by
    intro n
    induction n with
    | zero =>
      intro v1 v2 v4 v6 z hm
      exact zz_none hm
    | succ n ih =>
      intro v1 v2 v4 v6 z hm
      rw [mX11_clears_b31] at hm
      rw [hG]
      intro H locs ls hP hD hS hl
      refine lv_iload hx hb dX11_clears_31 (lv_at hl 4 rfl) ?_
      refine lv_bipush (v := (24 : Int32)) hx hb dX11_clears_33 (by decide) ?_
      refine lv_icmp_ge (tgt := 87) hx hb dX11_clears_35 (by decide) (fun c3 => ?_) (fun c3 => ?_)
      · replace hm := zz_pos c3 hm
        refine lv_aload_n hx hb dX11_clears_87 rfl (lv_at hl 0 rfl) ?_
        refine lv_iconst (v := (0 : Int32)) hx hb dX11_clears_88 (by decide) ?_
        refine va_put (D := D) (ci := 11) (v := .int (0 : Int32)) (ty := .int) (C := RX11) (T := TX11) (N := 35) hx hb hts nX11_clears_X11 tyX11 tyX11_ok nmX11 hown hK hP hD hS 0 (wR_0 y a z) rfl 18 (by decide) (hts (.fieldLink RX11 100 "WorksDeskModel" "rowMany" "I") (List.mem_of_getElem? (i := 9) rfl)) (fun _ h9 => h9) rfl (tyX11_ok 18 (by decide)) rfl rfl (Nat.le_of_ble_eq_true rfl) dX11_clears_89 (fun H locs hP hD hS => ?_)
        obtain ⟨z4, hP, hD, hm⟩ := zz_up (w := wR y a) (wR_f18 y a z (0 : Int32)) hP hD hm
        refine lv_aload_n hx hb dX11_clears_92 rfl (lv_at hl 0 rfl) ?_
        refine lv_lload_n hx hb dX11_clears_93 rfl (lv_at hl 2 rfl) ?_
        obtain ⟨r5, z7, h6, hm⟩ := zz_b2_some hm
        refine zz_callv (zz_runV (w := wR y a) (As := [.long v2]) (rest := []) ⟨hx, hb, hml, hown, hts⟩ (zX11_tell l D y a H.size v2 z4 h6) (cwV 1 hts gX11_clears_X11_tell rfl rfl rfl zdX11_tell ⟨Nat.le_of_ble_eq_true rfl, Nat.le_of_ble_eq_true rfl⟩) hK hN hg hP hD hS hA 0 (wR_0 y a z4) rfl rfl hl.1 rfl (Nat.le_of_ble_eq_true rfl) dX11_clears_94 ⟨Nat.le_of_ble_eq_true rfl, Nat.le_of_ble_eq_true rfl⟩) hD hS hA (fun H locs hP hD hS => ?_)
        refine lv_aload_n hx hb dX11_clears_97 rfl (lv_at hl 0 rfl) ?_
        refine lv_lload hx hb dX11_clears_98 (lv_at hl 3 rfl) ?_
        obtain ⟨r8, z10, h9, hm⟩ := zz_b2_some hm
        refine zz_callv (zz_runV (w := wR y a) (As := [.long v4]) (rest := []) ⟨hx, hb, hml, hown, hts⟩ (zX11_tell l D y a H.size v4 z7 h9) (cwV 1 hts gX11_clears_X11_tell rfl rfl rfl zdX11_tell ⟨Nat.le_of_ble_eq_true rfl, Nat.le_of_ble_eq_true rfl⟩) hK hN hg hP hD hS hA 0 (wR_0 y a z7) rfl rfl hl.1 rfl (Nat.le_of_ble_eq_true rfl) dX11_clears_100 ⟨Nat.le_of_ble_eq_true rfl, Nat.le_of_ble_eq_true rfl⟩) hD hS hA (fun H locs hP hD hS => ?_)
        refine lv_iconst (v := (0 : Int32)) hx hb dX11_clears_103 (by decide) ?_
        exact zz_iret hx hb hr hlocks (zz_some2 hm) hP hK hD hS dX11_clears_104
      · replace hm := zz_neg c3 hm
        refine lv_lload hx hb dX11_clears_38 (lv_at hl 3 rfl) ?_
        refine lv_iload hx hb dX11_clears_40 (lv_at hl 4 rfl) ?_
        refine lv_iload_n hx hb dX11_clears_42 rfl (lv_at hl 1 rfl) ?_
        refine lv_icmp_ge (tgt := 56) hx hb dX11_clears_43 (by decide) (fun c11 => ?_) (fun c11 => ?_)
        · replace hm := zz_pos c11 hm
          refine lv_lconst (v := (0 : Int64)) hx hb dX11_clears_56 (by decide) ?_
          refine lv_aload_n hx hb dX11_clears_57 rfl (lv_at hl 0 rfl) ?_
          refine lv_iload hx hb dX11_clears_58 (lv_at hl 4 rfl) ?_
          obtain ⟨r12, h13, hm⟩ := zz_b1_some hm
          refine zz_calll (zz_runV (w := wR y a) (As := [.int v6]) (rest := [.long (0 : Int64), .long v4]) ⟨hx, hb, hml, hown, hts⟩ (zX11_lacking l D y a H.size v6 z h13) (cwV 1 hts gX11_clears_X11_lacking rfl rfl rfl zdX11_lacking ⟨Nat.le_of_ble_eq_true rfl, Nat.le_of_ble_eq_true rfl⟩) hK hN hg hP hD hS hA 0 (wR_0 y a z) rfl rfl hl.1 rfl (Nat.le_of_ble_eq_true rfl) dX11_clears_60 ⟨Nat.le_of_ble_eq_true rfl, Nat.le_of_ble_eq_true rfl⟩) hD hS hA (fun H locs hP hD hS => ?_)
          refine lv_lload_n hx hb dX11_clears_63 rfl (lv_at hl 2 rfl) ?_
          refine lv_lsub hx hb dX11_clears_64 ?_
          refine va_mmax_long hx hb (hml.trans hl.1.symm) hown (hts (.methodLink RX11 259 Lib.MathLoose.max_long.x) (List.mem_of_getElem? (i := 4) rfl)) (hts (.static Lib.MathLoose.max_long.x) (List.mem_of_getElem? (i := 5) rfl)) (hts (.initialized "java/lang/Math") (List.mem_of_getElem? (i := 6) rfl)) (hts (.code Lib.MathLoose.max_long.x Lib.MathLoose.max_long.code 4 (some .long)) (List.mem_of_getElem? (i := 7) rfl)) (Nat.le_of_ble_eq_true rfl) (Nat.le_of_ble_eq_true rfl) (Nat.le_of_ble_eq_true rfl) (Nat.le_of_ble_eq_true rfl) dX11_clears_65 ?_
          refine lv_aload_n hx hb dX11_clears_68 rfl (lv_at hl 0 rfl) ?_
          refine va_get (D := D) (ci := 11) (v := .ref (a 1)) (C := RX11) (T := TX11) (N := 35) hx hb hts nX11_clears_X11 hown hK hP 0 (wR_0 y a z) rfl 0 (by decide) (hts (.fieldLink RX11 7 "WorksDeskModel" "terms" "[I") (List.mem_of_getElem? (i := 8) rfl)) (fun _ h9 => h9) rfl dX11_clears_69 ?_
          refine lv_bipush (v := (7 : Int32)) hx hb dX11_clears_72 (by decide) ?_
          obtain ⟨c14, hm⟩ := zz_ck_some hm
          refine va_iald hx hb hK hP 1 0 (wR_1 y a z) rfl c14 dX11_clears_74 ?_
          obtain ⟨r15, h16, hm⟩ := zz_b1_some hm
          refine zz_calll (zz_runS (w := wR y a) (As := [.long (if (r12 - v2) < (0 : Int64) then (0 : Int64) else (r12 - v2)), .int (z.1 1 (7 : Int32).toNatClampNeg)]) (rest := [.long v4]) ⟨hx, hb, hml, hown, hts⟩ (zX11_thousandths l D y a H.size (if (r12 - v2) < (0 : Int64) then (0 : Int64) else (r12 - v2)) (z.1 1 (7 : Int32).toNatClampNeg) z h16) (va_cwS 2 hts gX11_clears_X11_thousandths rfl rfl rfl zdX11_thousandths ⟨Nat.le_of_ble_eq_true rfl, Nat.le_of_ble_eq_true rfl⟩) hK hN hg hP hD hS hA rfl hl.1 rfl (Nat.le_of_ble_eq_true rfl) dX11_clears_75 ⟨Nat.le_of_ble_eq_true rfl, Nat.le_of_ble_eq_true rfl⟩) hD hS hA (fun H locs hP hD hS => ?_)
          have j := J78 (mX11_clears_b31 n) ih v1 v2 v6 r15 v4 z hm
          rw [hG] at j
          exact j H locs ls hP hD hS (lv_sub hl [0, 1, 2, 4] rfl)
        · replace hm := zz_neg c11 hm
          refine lv_aload_n hx hb dX11_clears_46 rfl (lv_at hl 0 rfl) ?_
          refine va_get (D := D) (ci := 11) (v := .ref (a 18)) (C := RX11) (T := TX11) (N := 35) hx hb hts nX11_clears_X11 hown hK hP 0 (wR_0 y a z) rfl 30 (by decide) (hts (.fieldLink RX11 63 "WorksDeskModel" "interest" "[J") (List.mem_of_getElem? (i := 3) rfl)) (fun _ h9 => h9) rfl dX11_clears_47 ?_
          refine lv_iload hx hb dX11_clears_50 (lv_at hl 4 rfl) ?_
          obtain ⟨c17, hm⟩ := zz_ck_some hm
          refine va_lald hx hb hK hP 18 1 (wR_18 y a z) rfl c17 dX11_clears_52 ?_
          refine lv_goto (tgt := 78) hx hb dX11_clears_53 (by decide) ?_
          have j := J78 (mX11_clears_b31 n) ih v1 v2 v6 (z.2.1 18 v6.toNatClampNeg) v4 z hm
          rw [hG] at j
          exact j H locs ls hP hD hS (lv_sub hl [0, 1, 2, 4] rfl)
  rw [hG]
  intro H locs ls hP hD hS hl
  unfold mX11_clears at hm
  refine lv_aload_n hx hb dX11_clears_0 rfl (lv_at hl 0 rfl) ?_
  refine lv_iconst (v := (0 : Int32)) hx hb dX11_clears_1 (by decide) ?_
  refine va_put (D := D) (ci := 11) (v := .int (0 : Int32)) (ty := .int) (C := RX11) (T := TX11) (N := 35) hx hb hts nX11_clears_X11 tyX11 tyX11_ok nmX11 hown hK hP hD hS 0 (wR_0 y a z) rfl 19 (by decide) (hts (.fieldLink RX11 97 "WorksDeskModel" "thrown" "I") (List.mem_of_getElem? (i := 1) rfl)) (fun _ h9 => h9) rfl (tyX11_ok 19 (by decide)) rfl rfl (Nat.le_of_ble_eq_true rfl) dX11_clears_2 (fun H locs hP hD hS => ?_)
  obtain ⟨z18, hP, hD, hm⟩ := zz_up (w := wR y a) (wR_f19 y a z (0 : Int32)) hP hD hm
  refine lv_iload_n hx hb dX11_clears_5 rfl (lv_at hl 1 rfl) ?_
  obtain ⟨r19, h20, hm⟩ := zz_b1_some hm
  refine zz_calli (zz_runS (w := wR y a) (As := [.int x1]) (rest := []) ⟨hx, hb, hml, hown, hts⟩ (zX11_isMonth l D y a H.size x1 z18 h20) (va_cwS 1 hts gX11_clears_X11_isMonth rfl rfl rfl zdX11_isMonth ⟨Nat.le_of_ble_eq_true rfl, Nat.le_of_ble_eq_true rfl⟩) hK hN hg hP hD hS hA rfl hl.1 rfl (Nat.le_of_ble_eq_true rfl) dX11_clears_6 ⟨Nat.le_of_ble_eq_true rfl, Nat.le_of_ble_eq_true rfl⟩) hD hS hA (fun H locs hP hD hS => ?_)
  refine lv_if_ne (tgt := 14) hx hb dX11_clears_9 (by decide) (fun c21 => ?_) (fun c21 => ?_)
  · replace hm := zz_neg c21 hm
    refine lv_aload_n hx hb dX11_clears_14 rfl (lv_at hl 0 rfl) ?_
    obtain ⟨r22, z24, h23, hm⟩ := zz_b2_some hm
    refine zz_callv (zz_runV (w := wR y a) (As := []) (rest := []) ⟨hx, hb, hml, hown, hts⟩ (zX11_layMonths l D y a H.size z18 h23) (cwV 0 hts gX11_clears_X11_layMonths rfl rfl rfl zdX11_layMonths ⟨Nat.le_of_ble_eq_true rfl, Nat.le_of_ble_eq_true rfl⟩) hK hN hg hP hD hS hA 0 (wR_0 y a z18) rfl rfl hl.1 rfl (Nat.le_of_ble_eq_true rfl) dX11_clears_15 ⟨Nat.le_of_ble_eq_true rfl, Nat.le_of_ble_eq_true rfl⟩) hD hS hA (fun H locs hP hD hS => ?_)
    refine lv_aload_n hx hb dX11_clears_18 rfl (lv_at hl 0 rfl) ?_
    refine va_get (D := D) (ci := 11) (v := .ref (a 17)) (C := RX11) (T := TX11) (N := 35) hx hb hts nX11_clears_X11 hown hK hP 0 (wR_0 y a z24) rfl 29 (by decide) (hts (.fieldLink RX11 60 "WorksDeskModel" "owed" "[J") (List.mem_of_getElem? (i := 2) rfl)) (fun _ h9 => h9) rfl dX11_clears_19 ?_
    refine lv_iload_n hx hb dX11_clears_22 rfl (lv_at hl 1 rfl) ?_
    obtain ⟨c25, hm⟩ := zz_ck_some hm
    refine va_lald hx hb hK hP 17 1 (wR_17 y a z24) rfl c25 dX11_clears_23 ?_
    refine lv_topl (fun n26 en26 => ?_)
    replace hm := zz_nm_some en26 hm
    refine lv_lstore_n (lv' := [(2, .long n26), (0, .ref (a 0)), (1, .int x1)]) hx hb dX11_clears_24 rfl hl (by decide) rfl (fun ls hl => ?_)
    refine lv_lconst (v := (0 : Int64)) hx hb dX11_clears_25 (by decide) ?_
    refine lv_lstore (lv' := [(4, .long (0 : Int64)), (2, .long n26), (0, .ref (a 0)), (1, .int x1)]) hx hb dX11_clears_26 hl (by decide) rfl (fun ls hl => ?_)
    refine lv_iconst (v := (0 : Int32)) hx hb dX11_clears_28 (by decide) ?_
    refine lv_istore (lv' := [(6, .int (0 : Int32)), (4, .long (0 : Int64)), (2, .long n26), (0, .ref (a 0)), (1, .int x1)]) hx hb dX11_clears_29 hl (by decide) rfl (fun ls hl => ?_)
    have j := J31 zz_N x1 n26 (0 : Int64) (0 : Int32) z24 hm
    rw [hG] at j
    exact j H locs ls hP hD hS (lv_sub hl [3, 4, 2, 1, 0] rfl)
  · replace hm := zz_pos c21 hm
    refine lv_iconst (v := (-1 : Int32)) hx hb dX11_clears_12 (by decide) ?_
    exact zz_iret hx hb hr hlocks (zz_some2 hm) hP hK hD hS dX11_clears_13
def mX11_closes (x1 : Int32) (z : zz_M) : Option (Int32 × zz_M) := zz_nm (zz_sF z 19 (0 : Int32)) (fun z1 => zz_b1 (mX11_isMonth x1) (fun r2 => if r2 = (0 : Int32) then (some ((-1 : Int32), z1)) else (if x1 = (z1.2.2.1 10) then (some ((-2 : Int32), z1)) else (if (z1.2.2.1 9) ≤ x1 then (zz_nm (zz_sF z1 10 x1) (fun z7 => some (z1.2.2.1 10, z7))) else (some ((-3 : Int32), z1))))))
theorem nX11_closes_X11 : ∀ w ∈ wsX110, w ∈ wsX11_closes := fun _ h => List.mem_cons_of_mem _ (List.mem_append_right _ (h))
theorem zdX11_closes : yX11_closes.cls = RX11 ∧ yX11_closes.cls ≠ "java/lang/invoke/MethodHandle" ∧ yX11_closes.cls ≠ "java/lang/invoke/VarHandle" ∧ (parseMethodDescriptor yX11_closes.desc).map (fun d => d.parameters.length) = some 1 := by decide +kernel
set_option maxHeartbeats 4000000 in
set_option maxRecDepth 100000 in
theorem zX11_closes (l : Launch) (D : va_G) (y : Nat → ClassId) (a : Nat → Nat) (sz : Nat) (x1 : Int32) (z : zz_M) {r : Int32} {zt : zz_M} (hm : mX11_closes x1 z = some (r, zt)) : Met l yX11_closes wsX11_closes { frames := 2, cells := 0, slots := 0, locals := 45 } (zz_Pc D y (wR y a z) sz [.ref (a 0), .int x1]) (zz_Qi D y (wR y a) (va_A (wR y a z) sz) r zt) 0 0 (va_A (wR y a z) sz) := by
  refine Met.ofW (cc := cX11_closes) (maxL := 3) (ret := (some .int)) (by decide) rfl ?_
  intro p e s m args below meth c s₁ B hml hv
  obtain ⟨rfl, hsz, hP, hK, hD0, hN, hg⟩ := hv
  have hx := B.exec
  have hb := B.bytes
  have hr := B.returns
  have hts := atoms_spec (ws := wsX11_closes) B.pre
  have hown : s.vm.findClass RX11 = some m.cls := findClass_of_methodNamed B.named
  have hlocks := B.notSynchronized
  clear B
  subst hsz
  have hD := hD0.self (sz := s.heap.size)
  generalize hAe : va_A (wR y a z) s.heap.size = A at hD hg ⊢
  have hA : ∀ q : Nat, s.heap.size ≤ q → A q := fun q h => by rw [← hAe]; exact Or.inr h
  clear hAe hD0
  have hl := lv_entry ([.ref (a 0), .int x1]) (n := 3) (Nat.le_of_ble_eq_true rfl)
  rw [lg_entry_eq]
  generalize (lg_sl ([.ref (a 0), .int x1]) ++ List.replicate (3 - (lg_sl ([.ref (a 0), .int x1])).length) Slot.unset).toArray = ls at hl ⊢
  replace hl : lv_has ls 3 [(0, .ref (a 0)), (1, .int x1)] := hl
  refine zz_go (w := wR y a) hP hD va_S.rf hl (fun G hG => ?_)
  clear hP hD hl ls
  rw [hG]
  intro H locs ls hP hD hS hl
  unfold mX11_closes at hm
  refine lv_aload_n hx hb dX11_closes_0 rfl (lv_at hl 0 rfl) ?_
  refine lv_iconst (v := (0 : Int32)) hx hb dX11_closes_1 (by decide) ?_
  refine va_put (D := D) (ci := 11) (v := .int (0 : Int32)) (ty := .int) (C := RX11) (T := TX11) (N := 35) hx hb hts nX11_closes_X11 tyX11 tyX11_ok nmX11 hown hK hP hD hS 0 (wR_0 y a z) rfl 19 (by decide) (hts (.fieldLink RX11 97 "WorksDeskModel" "thrown" "I") (List.mem_of_getElem? (i := 1) rfl)) (fun _ h9 => h9) rfl (tyX11_ok 19 (by decide)) rfl rfl (Nat.le_of_ble_eq_true rfl) dX11_closes_2 (fun H locs hP hD hS => ?_)
  obtain ⟨z1, hP, hD, hm⟩ := zz_up (w := wR y a) (wR_f19 y a z (0 : Int32)) hP hD hm
  refine lv_iload_n hx hb dX11_closes_5 rfl (lv_at hl 1 rfl) ?_
  obtain ⟨r2, h3, hm⟩ := zz_b1_some hm
  refine zz_calli (zz_runS (w := wR y a) (As := [.int x1]) (rest := []) ⟨hx, hb, hml, hown, hts⟩ (zX11_isMonth l D y a H.size x1 z1 h3) (va_cwS 1 hts gX11_closes_X11_isMonth rfl rfl rfl zdX11_isMonth ⟨Nat.le_of_ble_eq_true rfl, Nat.le_of_ble_eq_true rfl⟩) hK hN hg hP hD hS hA rfl hl.1 rfl (Nat.le_of_ble_eq_true rfl) dX11_closes_6 ⟨Nat.le_of_ble_eq_true rfl, Nat.le_of_ble_eq_true rfl⟩) hD hS hA (fun H locs hP hD hS => ?_)
  refine lv_if_ne (tgt := 14) hx hb dX11_closes_9 (by decide) (fun c4 => ?_) (fun c4 => ?_)
  · replace hm := zz_neg c4 hm
    refine lv_iload_n hx hb dX11_closes_14 rfl (lv_at hl 1 rfl) ?_
    refine lv_aload_n hx hb dX11_closes_15 rfl (lv_at hl 0 rfl) ?_
    refine va_get (D := D) (ci := 11) (v := .int (z1.2.2.1 10)) (C := RX11) (T := TX11) (N := 35) hx hb hts nX11_closes_X11 hown hK hP 0 (wR_0 y a z1) rfl 10 (by decide) (hts (.fieldLink RX11 88 "WorksDeskModel" "last" "I") (List.mem_of_getElem? (i := 2) rfl)) (fun _ h9 => h9) rfl dX11_closes_16 ?_
    refine lv_icmp_ne (tgt := 25) hx hb dX11_closes_19 (by decide) (fun c5 => ?_) (fun c5 => ?_)
    · replace hm := zz_neg c5 hm
      refine lv_aload_n hx hb dX11_closes_25 rfl (lv_at hl 0 rfl) ?_
      refine va_get (D := D) (ci := 11) (v := .int (z1.2.2.1 9)) (C := RX11) (T := TX11) (N := 35) hx hb hts nX11_closes_X11 hown hK hP 0 (wR_0 y a z1) rfl 9 (by decide) (hts (.fieldLink RX11 85 "WorksDeskModel" "handover" "I") (List.mem_of_getElem? (i := 3) rfl)) (fun _ h9 => h9) rfl dX11_closes_26 ?_
      refine lv_iload_n hx hb dX11_closes_29 rfl (lv_at hl 1 rfl) ?_
      refine lv_icmp_le (tgt := 36) hx hb dX11_closes_30 (by decide) (fun c6 => ?_) (fun c6 => ?_)
      · replace hm := zz_pos c6 hm
        refine lv_aload_n hx hb dX11_closes_36 rfl (lv_at hl 0 rfl) ?_
        refine va_get (D := D) (ci := 11) (v := .int (z1.2.2.1 10)) (C := RX11) (T := TX11) (N := 35) hx hb hts nX11_closes_X11 hown hK hP 0 (wR_0 y a z1) rfl 10 (by decide) (hts (.fieldLink RX11 88 "WorksDeskModel" "last" "I") (List.mem_of_getElem? (i := 2) rfl)) (fun _ h9 => h9) rfl dX11_closes_37 ?_
        refine lv_istore_n (lv' := [(2, .int (z1.2.2.1 10)), (0, .ref (a 0)), (1, .int x1)]) hx hb dX11_closes_40 rfl hl (by decide) rfl (fun ls hl => ?_)
        refine lv_aload_n hx hb dX11_closes_41 rfl (lv_at hl 1 rfl) ?_
        refine lv_iload_n hx hb dX11_closes_42 rfl (lv_at hl 2 rfl) ?_
        refine va_put (D := D) (ci := 11) (v := .int x1) (ty := .int) (C := RX11) (T := TX11) (N := 35) hx hb hts nX11_closes_X11 tyX11 tyX11_ok nmX11 hown hK hP hD hS 0 (wR_0 y a z1) rfl 10 (by decide) (hts (.fieldLink RX11 88 "WorksDeskModel" "last" "I") (List.mem_of_getElem? (i := 2) rfl)) (fun _ h9 => h9) rfl (tyX11_ok 10 (by decide)) rfl rfl (Nat.le_of_ble_eq_true rfl) dX11_closes_43 (fun H locs hP hD hS => ?_)
        obtain ⟨z7, hP, hD, hm⟩ := zz_up (w := wR y a) (wR_f10 y a z1 x1) hP hD hm
        refine lv_iload_n hx hb dX11_closes_46 rfl (lv_at hl 0 rfl) ?_
        exact zz_iret hx hb hr hlocks (zz_some2 hm) hP hK hD hS dX11_closes_47
      · replace hm := zz_neg c6 hm
        refine lv_bipush (v := (-3 : Int32)) hx hb dX11_closes_33 (by decide) ?_
        exact zz_iret hx hb hr hlocks (zz_some2 hm) hP hK hD hS dX11_closes_35
    · replace hm := zz_pos c5 hm
      refine lv_bipush (v := (-2 : Int32)) hx hb dX11_closes_22 (by decide) ?_
      exact zz_iret hx hb hr hlocks (zz_some2 hm) hP hK hD hS dX11_closes_24
  · replace hm := zz_pos c4 hm
    refine lv_iconst (v := (-1 : Int32)) hx hb dX11_closes_12 (by decide) ?_
    exact zz_iret hx hb hr hlocks (zz_some2 hm) hP hK hD hS dX11_closes_13
def mX11_measuredMonths_b66 (z : zz_M) (k4 : Int32 → Int32 → Option Int32) (v2 : Int32) (t0 : Int32) (t1 : Int32) : Option Int32 := zz_nm (t1 + t0) (fun n1 => zz_nm (v2 + (1 : Int32)) (fun n2 => k4 n1 n2))
def mX11_measuredMonths_b49 (z : zz_M) (k4 : Int32 → Int32 → Option Int32) (k15 : Int32 → Int32 → Int32 → Int32 → Option Int32) (v1 : Int32) (v2 : Int32) (v4 : Int32) (t0 : Int32) : Option Int32 := zz_nm (v4 + (1 : Int32)) (fun n3 => k15 v1 v2 t0 n3)
def mX11_measuredMonths_b44 (z : zz_M) (k4 : Int32 → Int32 → Option Int32) (k15 : Int32 → Int32 → Int32 → Int32 → Option Int32) (v1 : Int32) (v2 : Int32) (v4 : Int32) : Option Int32 := mX11_measuredMonths_b49 z k4 k15 v1 v2 v4 (1 : Int32)
def mX11_measuredMonths_b15 (z : zz_M) (k4 : Int32 → Int32 → Option Int32) : Nat → Int32 → Int32 → Int32 → Int32 → Option Int32
  | 0, _, _, _, _ => none
  | n + 1, v1, v2, v3, v4 => if (10 : Int32) ≤ v4 then (if v3 = (0 : Int32) then (mX11_measuredMonths_b66 z k4 v2 (0 : Int32) v1) else (mX11_measuredMonths_b66 z k4 v2 (1 : Int32) v1)) else (if v3 = (0 : Int32) then (zz_ck (zz_in (((10 : Int32) * v2) + v4) 240) (if (z.1 3 (((10 : Int32) * v2) + v4).toNatClampNeg) = (-9999 : Int32) then (mX11_measuredMonths_b49 z k4 (mX11_measuredMonths_b15 z k4 n) v1 v2 v4 (0 : Int32)) else (mX11_measuredMonths_b44 z k4 (mX11_measuredMonths_b15 z k4 n) v1 v2 v4))) else (mX11_measuredMonths_b44 z k4 (mX11_measuredMonths_b15 z k4 n) v1 v2 v4))
def mX11_measuredMonths_b4 (z : zz_M) : Nat → Int32 → Int32 → Option Int32
  | 0, _, _ => none
  | n + 1, v1, v2 => if (24 : Int32) ≤ v2 then (some v1) else (mX11_measuredMonths_b15 z (mX11_measuredMonths_b4 z n) zz_N v1 v2 (0 : Int32) (0 : Int32))
def mX11_measuredMonths (z : zz_M) : Option Int32 := mX11_measuredMonths_b4 z zz_N (0 : Int32) (0 : Int32)
theorem nX11_measuredMonths_X11 : ∀ w ∈ wsX110, w ∈ wsX11_measuredMonths := fun _ h => List.mem_cons_of_mem _ (List.mem_append_right _ (h))
theorem zdX11_measuredMonths : yX11_measuredMonths.cls = RX11 ∧ yX11_measuredMonths.cls ≠ "java/lang/invoke/MethodHandle" ∧ yX11_measuredMonths.cls ≠ "java/lang/invoke/VarHandle" ∧ (parseMethodDescriptor yX11_measuredMonths.desc).map (fun d => d.parameters.length) = some 0 := by decide +kernel
set_option maxHeartbeats 4000000 in
set_option maxRecDepth 100000 in
theorem zX11_measuredMonths (l : Launch) (D : va_G) (y : Nat → ClassId) (a : Nat → Nat) (sz : Nat) (z : zz_M) {r : Int32} (hm : mX11_measuredMonths z = some r) : Met l yX11_measuredMonths wsX11_measuredMonths { frames := 0, cells := 0, slots := 0, locals := 0 } (zz_Pc D y (wR y a z) sz [.ref (a 0)]) (zz_Qi D y (wR y a) (va_A (wR y a z) sz) r z) 0 0 (va_A (wR y a z) sz) := by
  refine Met.ofW (cc := cX11_measuredMonths) (maxL := 5) (ret := (some .int)) (by decide) rfl ?_
  intro p e s m args below meth c s₁ B hml hv
  obtain ⟨rfl, hsz, hP, hK, hD0, hN, hg⟩ := hv
  have hx := B.exec
  have hb := B.bytes
  have hr := B.returns
  have hts := atoms_spec (ws := wsX11_measuredMonths) B.pre
  have hown : s.vm.findClass RX11 = some m.cls := findClass_of_methodNamed B.named
  have hlocks := B.notSynchronized
  clear B
  subst hsz
  have hD := hD0.self (sz := s.heap.size)
  generalize hAe : va_A (wR y a z) s.heap.size = A at hD hg ⊢
  have hA : ∀ q : Nat, s.heap.size ≤ q → A q := fun q h => by rw [← hAe]; exact Or.inr h
  clear hAe hD0
  have hl := lv_entry ([.ref (a 0)]) (n := 5) (Nat.le_of_ble_eq_true rfl)
  rw [lg_entry_eq]
  generalize (lg_sl ([.ref (a 0)]) ++ List.replicate (5 - (lg_sl ([.ref (a 0)])).length) Slot.unset).toArray = ls at hl ⊢
  replace hl : lv_has ls 5 [(0, .ref (a 0))] := hl
  refine zz_go (w := wR y a) hP hD va_S.rf hl (fun G hG => ?_)
  clear hP hD hl ls
  have J66 : ∀ (k4 : Int32 → Int32 → Option Int32) (K4 : ∀ (v1 : Int32) (v2 : Int32), k4 v1 v2 = some r → G 4 [(0, .ref (a 0)), (1, .int v1), (2, .int v2)] [] z) (v2 : Int32) (t0 : Int32) (t1 : Int32), mX11_measuredMonths_b66 z k4 v2 t0 t1 = some r → G 66 [(0, .ref (a 0)), (2, .int v2)] [.int t0, .int t1] z := by
    intro k4 K4 v2 t0 t1 hm
    rw [mX11_measuredMonths_b66] at hm
    rw [hG]
    intro H locs ls hP hD hS hl
    refine lv_iadd hx hb dX11_measuredMonths_66 ?_
    refine lv_topi (fun n1 en1 => ?_)
    replace hm := zz_nm_some en1 hm
    refine lv_istore_n (lv' := [(1, .int n1), (0, .ref (a 0)), (2, .int v2)]) hx hb dX11_measuredMonths_67 rfl hl (by decide) rfl (fun ls hl => ?_)
    obtain ⟨n2, en2⟩ : ∃ q : Int32, q = v2 + (1 : Int32) := ⟨_, rfl⟩
    replace hm := zz_nm_some en2 hm
    refine lv_iinc (v := n2) (lv' := [(2, .int n2), (1, .int n1), (0, .ref (a 0))]) hx hb dX11_measuredMonths_68 hl (k := 2) rfl (by rw [en2]; rfl) (by decide) rfl (fun ls hl => ?_)
    refine lv_goto (tgt := 4) hx hb dX11_measuredMonths_71 (by decide) ?_
    have j := K4 n1 n2 hm
    rw [hG] at j
    exact j H locs ls hP hD hS (lv_sub hl [2, 1, 0] rfl)
  have J49 : ∀ (k4 : Int32 → Int32 → Option Int32) (K4 : ∀ (v1 : Int32) (v2 : Int32), k4 v1 v2 = some r → G 4 [(0, .ref (a 0)), (1, .int v1), (2, .int v2)] [] z) (k15 : Int32 → Int32 → Int32 → Int32 → Option Int32) (K15 : ∀ (v1 : Int32) (v2 : Int32) (v3 : Int32) (v4 : Int32), k15 v1 v2 v3 v4 = some r → G 15 [(0, .ref (a 0)), (1, .int v1), (2, .int v2), (3, .int v3), (4, .int v4)] [] z) (v1 : Int32) (v2 : Int32) (v4 : Int32) (t0 : Int32), mX11_measuredMonths_b49 z k4 k15 v1 v2 v4 t0 = some r → G 49 [(0, .ref (a 0)), (1, .int v1), (2, .int v2), (4, .int v4)] [.int t0] z := by
    intro k4 K4 k15 K15 v1 v2 v4 t0 hm
    rw [mX11_measuredMonths_b49] at hm
    rw [hG]
    intro H locs ls hP hD hS hl
    refine lv_istore_n (lv' := [(3, .int t0), (0, .ref (a 0)), (1, .int v1), (2, .int v2), (4, .int v4)]) hx hb dX11_measuredMonths_49 rfl hl (by decide) rfl (fun ls hl => ?_)
    obtain ⟨n3, en3⟩ : ∃ q : Int32, q = v4 + (1 : Int32) := ⟨_, rfl⟩
    replace hm := zz_nm_some en3 hm
    refine lv_iinc (v := n3) (lv' := [(4, .int n3), (3, .int t0), (0, .ref (a 0)), (1, .int v1), (2, .int v2)]) hx hb dX11_measuredMonths_50 hl (k := 4) rfl (by rw [en3]; rfl) (by decide) rfl (fun ls hl => ?_)
    refine lv_goto (tgt := 15) hx hb dX11_measuredMonths_53 (by decide) ?_
    have j := K15 v1 v2 t0 n3 hm
    rw [hG] at j
    exact j H locs ls hP hD hS (lv_sub hl [2, 3, 4, 1, 0] rfl)
  have J44 : ∀ (k4 : Int32 → Int32 → Option Int32) (K4 : ∀ (v1 : Int32) (v2 : Int32), k4 v1 v2 = some r → G 4 [(0, .ref (a 0)), (1, .int v1), (2, .int v2)] [] z) (k15 : Int32 → Int32 → Int32 → Int32 → Option Int32) (K15 : ∀ (v1 : Int32) (v2 : Int32) (v3 : Int32) (v4 : Int32), k15 v1 v2 v3 v4 = some r → G 15 [(0, .ref (a 0)), (1, .int v1), (2, .int v2), (3, .int v3), (4, .int v4)] [] z) (v1 : Int32) (v2 : Int32) (v4 : Int32), mX11_measuredMonths_b44 z k4 k15 v1 v2 v4 = some r → G 44 [(0, .ref (a 0)), (1, .int v1), (2, .int v2), (4, .int v4)] [] z := by
    intro k4 K4 k15 K15 v1 v2 v4 hm
    rw [mX11_measuredMonths_b44] at hm
    rw [hG]
    intro H locs ls hP hD hS hl
    refine lv_iconst (v := (1 : Int32)) hx hb dX11_measuredMonths_44 (by decide) ?_
    refine lv_goto (tgt := 49) hx hb dX11_measuredMonths_45 (by decide) ?_
    have j := J49 k4 K4 k15 K15 v1 v2 v4 (1 : Int32) hm
    rw [hG] at j
    exact j H locs ls hP hD hS (lv_sub hl [0, 1, 2, 3] rfl)
  have J15 : ∀ (k4 : Int32 → Int32 → Option Int32) (K4 : ∀ (v1 : Int32) (v2 : Int32), k4 v1 v2 = some r → G 4 [(0, .ref (a 0)), (1, .int v1), (2, .int v2)] [] z) (n : Nat) (v1 : Int32) (v2 : Int32) (v3 : Int32) (v4 : Int32), mX11_measuredMonths_b15 z k4 n v1 v2 v3 v4 = some r → G 15 [(0, .ref (a 0)), (1, .int v1), (2, .int v2), (3, .int v3), (4, .int v4)] [] z := by
    intro k4 K4 n
    induction n with
    | zero =>
      intro v1 v2 v3 v4 hm
      exact zz_none hm
    | succ n ih =>
      intro v1 v2 v3 v4 hm
      rw [mX11_measuredMonths_b15] at hm
      rw [hG]
      intro H locs ls hP hD hS hl
      refine lv_iload hx hb dX11_measuredMonths_15 (lv_at hl 4 rfl) ?_
      refine lv_bipush (v := (10 : Int32)) hx hb dX11_measuredMonths_17 (by decide) ?_
      refine lv_icmp_ge (tgt := 56) hx hb dX11_measuredMonths_19 (by decide) (fun c4 => ?_) (fun c4 => ?_)
      · replace hm := zz_pos c4 hm
        refine lv_iload_n hx hb dX11_measuredMonths_56 rfl (lv_at hl 1 rfl) ?_
        refine lv_iload_n hx hb dX11_measuredMonths_57 rfl (lv_at hl 3 rfl) ?_
        refine lv_if_eq (tgt := 65) hx hb dX11_measuredMonths_58 (by decide) (fun c5 => ?_) (fun c5 => ?_)
        · replace hm := zz_pos c5 hm
          refine lv_iconst (v := (0 : Int32)) hx hb dX11_measuredMonths_65 (by decide) ?_
          have j := J66 k4 K4 v2 (0 : Int32) v1 hm
          rw [hG] at j
          exact j H locs ls hP hD hS (lv_sub hl [0, 2] rfl)
        · replace hm := zz_neg c5 hm
          refine lv_iconst (v := (1 : Int32)) hx hb dX11_measuredMonths_61 (by decide) ?_
          refine lv_goto (tgt := 66) hx hb dX11_measuredMonths_62 (by decide) ?_
          have j := J66 k4 K4 v2 (1 : Int32) v1 hm
          rw [hG] at j
          exact j H locs ls hP hD hS (lv_sub hl [0, 2] rfl)
      · replace hm := zz_neg c4 hm
        refine lv_iload_n hx hb dX11_measuredMonths_22 rfl (lv_at hl 3 rfl) ?_
        refine lv_if_ne (tgt := 44) hx hb dX11_measuredMonths_23 (by decide) (fun c6 => ?_) (fun c6 => ?_)
        · replace hm := zz_neg c6 hm
          have j := J44 k4 K4 (mX11_measuredMonths_b15 z k4 n) ih v1 v2 v4 hm
          rw [hG] at j
          exact j H locs ls hP hD hS (lv_sub hl [0, 1, 2, 4] rfl)
        · replace hm := zz_pos c6 hm
          refine lv_aload_n hx hb dX11_measuredMonths_26 rfl (lv_at hl 0 rfl) ?_
          refine va_get (D := D) (ci := 11) (v := .ref (a 3)) (C := RX11) (T := TX11) (N := 35) hx hb hts nX11_measuredMonths_X11 hown hK hP 0 (wR_0 y a z) rfl 3 (by decide) (hts (.fieldLink RX11 16 "WorksDeskModel" "measured" "[I") (List.mem_of_getElem? (i := 1) rfl)) (fun _ h9 => h9) rfl dX11_measuredMonths_27 ?_
          refine lv_bipush (v := (10 : Int32)) hx hb dX11_measuredMonths_30 (by decide) ?_
          refine lv_iload_n hx hb dX11_measuredMonths_32 rfl (lv_at hl 2 rfl) ?_
          refine lv_imul hx hb dX11_measuredMonths_33 ?_
          refine lv_iload hx hb dX11_measuredMonths_34 (lv_at hl 4 rfl) ?_
          refine lv_iadd hx hb dX11_measuredMonths_36 ?_
          obtain ⟨c7, hm⟩ := zz_ck_some hm
          refine va_iald hx hb hK hP 3 0 (wR_3 y a z) rfl c7 dX11_measuredMonths_37 ?_
          refine lv_sipush (v := (-9999 : Int32)) hx hb dX11_measuredMonths_38 (by decide) ?_
          refine lv_icmp_eq (tgt := 48) hx hb dX11_measuredMonths_41 (by decide) (fun c8 => ?_) (fun c8 => ?_)
          · replace hm := zz_pos c8 hm
            refine lv_iconst (v := (0 : Int32)) hx hb dX11_measuredMonths_48 (by decide) ?_
            have j := J49 k4 K4 (mX11_measuredMonths_b15 z k4 n) ih v1 v2 v4 (0 : Int32) hm
            rw [hG] at j
            exact j H locs ls hP hD hS (lv_sub hl [0, 1, 2, 4] rfl)
          · replace hm := zz_neg c8 hm
            have j := J44 k4 K4 (mX11_measuredMonths_b15 z k4 n) ih v1 v2 v4 hm
            rw [hG] at j
            exact j H locs ls hP hD hS (lv_sub hl [0, 1, 2, 4] rfl)
  have J4 : ∀ (n : Nat) (v1 : Int32) (v2 : Int32), mX11_measuredMonths_b4 z n v1 v2 = some r → G 4 [(0, .ref (a 0)), (1, .int v1), (2, .int v2)] [] z := by
    intro n
    induction n with
    | zero =>
      intro v1 v2 hm
      exact zz_none hm
    | succ n ih =>
      intro v1 v2 hm
      rw [mX11_measuredMonths_b4] at hm
      rw [hG]
      intro H locs ls hP hD hS hl
      refine lv_iload_n hx hb dX11_measuredMonths_4 rfl (lv_at hl 2 rfl) ?_
      refine lv_bipush (v := (24 : Int32)) hx hb dX11_measuredMonths_5 (by decide) ?_
      refine lv_icmp_ge (tgt := 74) hx hb dX11_measuredMonths_7 (by decide) (fun c9 => ?_) (fun c9 => ?_)
      · replace hm := zz_pos c9 hm
        refine lv_iload_n hx hb dX11_measuredMonths_74 rfl (lv_at hl 1 rfl) ?_
        exact zz_iret hx hb hr hlocks ⟨zz_some1 hm, rfl⟩ hP hK hD hS dX11_measuredMonths_75
      · replace hm := zz_neg c9 hm
        refine lv_iconst (v := (0 : Int32)) hx hb dX11_measuredMonths_10 (by decide) ?_
        refine lv_istore_n (lv' := [(3, .int (0 : Int32)), (0, .ref (a 0)), (1, .int v1), (2, .int v2)]) hx hb dX11_measuredMonths_11 rfl hl (by decide) rfl (fun ls hl => ?_)
        refine lv_iconst (v := (0 : Int32)) hx hb dX11_measuredMonths_12 (by decide) ?_
        refine lv_istore (lv' := [(4, .int (0 : Int32)), (3, .int (0 : Int32)), (0, .ref (a 0)), (1, .int v1), (2, .int v2)]) hx hb dX11_measuredMonths_13 hl (by decide) rfl (fun ls hl => ?_)
        have j := J15 (mX11_measuredMonths_b4 z n) ih zz_N v1 v2 (0 : Int32) (0 : Int32) hm
        rw [hG] at j
        exact j H locs ls hP hD hS (lv_sub hl [2, 3, 4, 1, 0] rfl)
  rw [hG]
  intro H locs ls hP hD hS hl
  unfold mX11_measuredMonths at hm
  refine lv_iconst (v := (0 : Int32)) hx hb dX11_measuredMonths_0 (by decide) ?_
  refine lv_istore_n (lv' := [(1, .int (0 : Int32)), (0, .ref (a 0))]) hx hb dX11_measuredMonths_1 rfl hl (by decide) rfl (fun ls hl => ?_)
  refine lv_iconst (v := (0 : Int32)) hx hb dX11_measuredMonths_2 (by decide) ?_
  refine lv_istore_n (lv' := [(2, .int (0 : Int32)), (1, .int (0 : Int32)), (0, .ref (a 0))]) hx hb dX11_measuredMonths_3 rfl hl (by decide) rfl (fun ls hl => ?_)
  have j := J4 zz_N (0 : Int32) (0 : Int32) hm
  rw [hG] at j
  exact j H locs ls hP hD hS (lv_sub hl [2, 1, 0] rfl)
def mX11_monthTold_b11 (t0 : Int32) : Option Int32 := some t0
def mX11_monthTold (x0 : Int32) : Option Int32 := if x0 = (24 : Int32) then (mX11_monthTold_b11 (-1 : Int32)) else (mX11_monthTold_b11 x0)
theorem zdX11_monthTold : yX11_monthTold.cls ≠ "java/lang/invoke/MethodHandle" ∧ yX11_monthTold.cls ≠ "java/lang/invoke/VarHandle" ∧ (parseMethodDescriptor yX11_monthTold.desc).map (fun d => d.parameters.length) = some 1 := by decide +kernel
set_option maxHeartbeats 4000000 in
set_option maxRecDepth 100000 in
theorem zX11_monthTold (l : Launch) (D : va_G) (y : Nat → ClassId) (a : Nat → Nat) (sz : Nat) (x0 : Int32) (z : zz_M) {r : Int32} (hm : mX11_monthTold x0 = some r) : Met l yX11_monthTold wsX11_monthTold { frames := 0, cells := 0, slots := 0, locals := 0 } (zz_Pc D y (wR y a z) sz [.int x0]) (zz_Qi D y (wR y a) (va_A (wR y a z) sz) r z) 0 0 (va_A (wR y a z) sz) := by
  refine Met.ofW (cc := cX11_monthTold) (maxL := 1) (ret := (some .int)) (by decide) rfl ?_
  intro p e s m args below meth c s₁ B hml hv
  obtain ⟨rfl, hsz, hP, hK, hD0, hN, hg⟩ := hv
  have hx := B.exec
  have hb := B.bytes
  have hr := B.returns
  have hts := atoms_spec (ws := wsX11_monthTold) B.pre
  have hown : s.vm.findClass RX11 = some m.cls := findClass_of_methodNamed B.named
  have hlocks := B.notSynchronized
  clear B
  subst hsz
  have hD := hD0.self (sz := s.heap.size)
  generalize hAe : va_A (wR y a z) s.heap.size = A at hD hg ⊢
  have hA : ∀ q : Nat, s.heap.size ≤ q → A q := fun q h => by rw [← hAe]; exact Or.inr h
  clear hAe hD0
  have hl := lv_entry ([.int x0]) (n := 1) (Nat.le_of_ble_eq_true rfl)
  rw [lg_entry_eq]
  generalize (lg_sl ([.int x0]) ++ List.replicate (1 - (lg_sl ([.int x0])).length) Slot.unset).toArray = ls at hl ⊢
  replace hl : lv_has ls 1 [(0, .int x0)] := hl
  refine zz_go (w := wR y a) hP hD va_S.rf hl (fun G hG => ?_)
  clear hP hD hl ls
  have J11 : ∀ (t0 : Int32), mX11_monthTold_b11 t0 = some r → G 11 [] [.int t0] z := by
    intro t0 hm
    rw [mX11_monthTold_b11] at hm
    rw [hG]
    intro H locs ls hP hD hS hl
    exact zz_iret hx hb hr hlocks ⟨zz_some1 hm, rfl⟩ hP hK hD hS dX11_monthTold_11
  rw [hG]
  intro H locs ls hP hD hS hl
  unfold mX11_monthTold at hm
  refine lv_iload_n hx hb dX11_monthTold_0 rfl (lv_at hl 0 rfl) ?_
  refine lv_bipush (v := (24 : Int32)) hx hb dX11_monthTold_1 (by decide) ?_
  refine lv_icmp_ne (tgt := 10) hx hb dX11_monthTold_3 (by decide) (fun c1 => ?_) (fun c1 => ?_)
  · replace hm := zz_neg c1 hm
    refine lv_iload_n hx hb dX11_monthTold_10 rfl (lv_at hl 0 rfl) ?_
    have j := J11 x0 hm
    rw [hG] at j
    exact j H locs ls hP hD hS (lv_sub hl [] rfl)
  · replace hm := zz_pos c1 hm
    refine lv_iconst (v := (-1 : Int32)) hx hb dX11_monthTold_6 (by decide) ?_
    refine lv_goto (tgt := 11) hx hb dX11_monthTold_7 (by decide) ?_
    have j := J11 (-1 : Int32) hm
    rw [hG] at j
    exact j H locs ls hP hD hS (lv_sub hl [] rfl)
def mX11_count_b152 (t0 : Int32) (z : zz_M) : Option (Int32 × zz_M) := some (t0, z)
def mX11_count (x1 : Int32) (z : zz_M) : Option (Int32 × zz_M) := zz_nm (zz_sF z 19 (0 : Int32)) (fun z1 => zz_b1 (mX11_in x1.toInt64 (10 : Int64) (23 : Int64)) (fun r2 => if r2 = (0 : Int32) then (if x1 = (0 : Int32) then (some (z1.2.2.1 2, z1)) else (if x1 = (1 : Int32) then (some (z1.2.2.1 6, z1)) else (if x1 = (2 : Int32) then (some (z1.2.2.1 8, z1)) else (if x1 = (3 : Int32) then (zz_b1 (mX11_monthTold (z1.2.2.1 9)) (fun r9 => some (r9, z1))) else (if x1 = (4 : Int32) then (zz_b1 (mX11_monthTold (z1.2.2.1 10)) (fun r12 => some (r12, z1))) else (if x1 = (5 : Int32) then (zz_b1 (mX11_measuredMonths z1) (fun r15 => some (r15, z1))) else (if x1 = (6 : Int32) then (some (z1.2.2.1 18, z1)) else (if x1 = (7 : Int32) then (some (z1.2.2.1 16, z1)) else (if x1 = (8 : Int32) then (if (z1.2.2.1 11) = (24 : Int32) then (mX11_count_b152 (-1 : Int32) z1) else (mX11_count_b152 ((z1.2.2.1 11) + (z1.2.2.1 12)) z1)) else (if x1 = (9 : Int32) then (some (z1.2.2.1 12, z1)) else (some ((-1 : Int32), z1)))))))))))) else (zz_ck (zz_in (x1 - (10 : Int32)) 14) (some (z1.1 1 (x1 - (10 : Int32)).toNatClampNeg, z1)))))
theorem nX11_count_X11 : ∀ w ∈ wsX110, w ∈ wsX11_count := fun _ h => List.mem_cons_of_mem _ (List.mem_append_right _ (h))
theorem zdX11_count : yX11_count.cls = RX11 ∧ yX11_count.cls ≠ "java/lang/invoke/MethodHandle" ∧ yX11_count.cls ≠ "java/lang/invoke/VarHandle" ∧ (parseMethodDescriptor yX11_count.desc).map (fun d => d.parameters.length) = some 1 := by decide +kernel
set_option maxHeartbeats 4000000 in
set_option maxRecDepth 100000 in
theorem zX11_count (l : Launch) (D : va_G) (y : Nat → ClassId) (a : Nat → Nat) (sz : Nat) (x1 : Int32) (z : zz_M) {r : Int32} {zt : zz_M} (hm : mX11_count x1 z = some (r, zt)) : Met l yX11_count wsX11_count { frames := 1, cells := 0, slots := 0, locals := 25 } (zz_Pc D y (wR y a z) sz [.ref (a 0), .int x1]) (zz_Qi D y (wR y a) (va_A (wR y a z) sz) r zt) 0 0 (va_A (wR y a z) sz) := by
  refine Met.ofW (cc := cX11_count) (maxL := 2) (ret := (some .int)) (by decide) rfl ?_
  intro p e s m args below meth c s₁ B hml hv
  obtain ⟨rfl, hsz, hP, hK, hD0, hN, hg⟩ := hv
  have hx := B.exec
  have hb := B.bytes
  have hr := B.returns
  have hts := atoms_spec (ws := wsX11_count) B.pre
  have hown : s.vm.findClass RX11 = some m.cls := findClass_of_methodNamed B.named
  have hlocks := B.notSynchronized
  clear B
  subst hsz
  have hD := hD0.self (sz := s.heap.size)
  generalize hAe : va_A (wR y a z) s.heap.size = A at hD hg ⊢
  have hA : ∀ q : Nat, s.heap.size ≤ q → A q := fun q h => by rw [← hAe]; exact Or.inr h
  clear hAe hD0
  have hl := lv_entry ([.ref (a 0), .int x1]) (n := 2) (Nat.le_of_ble_eq_true rfl)
  rw [lg_entry_eq]
  generalize (lg_sl ([.ref (a 0), .int x1]) ++ List.replicate (2 - (lg_sl ([.ref (a 0), .int x1])).length) Slot.unset).toArray = ls at hl ⊢
  replace hl : lv_has ls 2 [(0, .ref (a 0)), (1, .int x1)] := hl
  refine zz_go (w := wR y a) hP hD va_S.rf hl (fun G hG => ?_)
  clear hP hD hl ls
  have J152 : ∀ (t0 : Int32) (z : zz_M), mX11_count_b152 t0 z = some (r, zt) → G 152 [] [.int t0] z := by
    intro t0 z hm
    rw [mX11_count_b152] at hm
    rw [hG]
    intro H locs ls hP hD hS hl
    exact zz_iret hx hb hr hlocks (zz_some2 hm) hP hK hD hS dX11_count_152
  rw [hG]
  intro H locs ls hP hD hS hl
  unfold mX11_count at hm
  refine lv_aload_n hx hb dX11_count_0 rfl (lv_at hl 0 rfl) ?_
  refine lv_iconst (v := (0 : Int32)) hx hb dX11_count_1 (by decide) ?_
  refine va_put (D := D) (ci := 11) (v := .int (0 : Int32)) (ty := .int) (C := RX11) (T := TX11) (N := 35) hx hb hts nX11_count_X11 tyX11 tyX11_ok nmX11 hown hK hP hD hS 0 (wR_0 y a z) rfl 19 (by decide) (hts (.fieldLink RX11 97 "WorksDeskModel" "thrown" "I") (List.mem_of_getElem? (i := 1) rfl)) (fun _ h9 => h9) rfl (tyX11_ok 19 (by decide)) rfl rfl (Nat.le_of_ble_eq_true rfl) dX11_count_2 (fun H locs hP hD hS => ?_)
  obtain ⟨z1, hP, hD, hm⟩ := zz_up (w := wR y a) (wR_f19 y a z (0 : Int32)) hP hD hm
  refine lv_iload_n hx hb dX11_count_5 rfl (lv_at hl 1 rfl) ?_
  refine lv_i2l hx hb dX11_count_6 rfl ?_
  refine lv_ldc2 (v := (10 : Int64)) hx hb hown (hts (.constantLong RX11 355 (10)) (List.mem_of_getElem? (i := 2) rfl)) dX11_count_7 ?_
  refine lv_ldc2 (v := (23 : Int64)) hx hb hown (hts (.constantLong RX11 103 (23)) (List.mem_of_getElem? (i := 3) rfl)) dX11_count_10 ?_
  obtain ⟨r2, h3, hm⟩ := zz_b1_some hm
  refine zz_calli (zz_runS (w := wR y a) (As := [.long x1.toInt64, .long (10 : Int64), .long (23 : Int64)]) (rest := []) ⟨hx, hb, hml, hown, hts⟩ (zX11_in l D y a H.size x1.toInt64 (10 : Int64) (23 : Int64) z1 h3) (va_cwS 3 hts gX11_count_X11_in rfl rfl rfl zdX11_in ⟨Nat.le_of_ble_eq_true rfl, Nat.le_of_ble_eq_true rfl⟩) hK hN hg hP hD hS hA rfl hl.1 rfl (Nat.le_of_ble_eq_true rfl) dX11_count_13 ⟨Nat.le_of_ble_eq_true rfl, Nat.le_of_ble_eq_true rfl⟩) hD hS hA (fun H locs hP hD hS => ?_)
  refine lv_if_eq (tgt := 29) hx hb dX11_count_16 (by decide) (fun c4 => ?_) (fun c4 => ?_)
  · replace hm := zz_pos c4 hm
    refine lv_iload_n hx hb dX11_count_29 rfl (lv_at hl 1 rfl) ?_
    by_cases c5 : x1 = (0 : Int32)
    · replace hm := zz_pos c5 hm
      refine lv_tableIn (tgt := 84) hx hb dX11_count_30 (by rw [c5]; decide) (by rw [c5]; decide) (by rw [c5]; rfl) (by decide) ?_
      refine lv_aload_n hx hb dX11_count_84 rfl (lv_at hl 0 rfl) ?_
      refine va_get (D := D) (ci := 11) (v := .int (z1.2.2.1 2)) (C := RX11) (T := TX11) (N := 35) hx hb hts nX11_count_X11 hown hK hP 0 (wR_0 y a z1) rfl 2 (by decide) (hts (.fieldLink RX11 75 "WorksDeskModel" "itemMany" "I") (List.mem_of_getElem? (i := 5) rfl)) (fun _ h9 => h9) rfl dX11_count_85 ?_
      exact zz_iret hx hb hr hlocks (zz_some2 hm) hP hK hD hS dX11_count_88
    · replace hm := zz_neg c5 hm
      by_cases c6 : x1 = (1 : Int32)
      · replace hm := zz_pos c6 hm
        refine lv_tableIn (tgt := 89) hx hb dX11_count_30 (by rw [c6]; decide) (by rw [c6]; decide) (by rw [c6]; rfl) (by decide) ?_
        refine lv_aload_n hx hb dX11_count_89 rfl (lv_at hl 0 rfl) ?_
        refine va_get (D := D) (ci := 11) (v := .int (z1.2.2.1 6)) (C := RX11) (T := TX11) (N := 35) hx hb hts nX11_count_X11 hown hK hP 0 (wR_0 y a z1) rfl 6 (by decide) (hts (.fieldLink RX11 79 "WorksDeskModel" "changeMany" "I") (List.mem_of_getElem? (i := 6) rfl)) (fun _ h9 => h9) rfl dX11_count_90 ?_
        exact zz_iret hx hb hr hlocks (zz_some2 hm) hP hK hD hS dX11_count_93
      · replace hm := zz_neg c6 hm
        by_cases c7 : x1 = (2 : Int32)
        · replace hm := zz_pos c7 hm
          refine lv_tableIn (tgt := 94) hx hb dX11_count_30 (by rw [c7]; decide) (by rw [c7]; decide) (by rw [c7]; rfl) (by decide) ?_
          refine lv_aload_n hx hb dX11_count_94 rfl (lv_at hl 0 rfl) ?_
          refine va_get (D := D) (ci := 11) (v := .int (z1.2.2.1 8)) (C := RX11) (T := TX11) (N := 35) hx hb hts nX11_count_X11 hown hK hP 0 (wR_0 y a z1) rfl 8 (by decide) (hts (.fieldLink RX11 82 "WorksDeskModel" "setMany" "I") (List.mem_of_getElem? (i := 7) rfl)) (fun _ h9 => h9) rfl dX11_count_95 ?_
          exact zz_iret hx hb hr hlocks (zz_some2 hm) hP hK hD hS dX11_count_98
        · replace hm := zz_neg c7 hm
          by_cases c8 : x1 = (3 : Int32)
          · replace hm := zz_pos c8 hm
            refine lv_tableIn (tgt := 99) hx hb dX11_count_30 (by rw [c8]; decide) (by rw [c8]; decide) (by rw [c8]; rfl) (by decide) ?_
            refine lv_aload_n hx hb dX11_count_99 rfl (lv_at hl 0 rfl) ?_
            refine va_get (D := D) (ci := 11) (v := .int (z1.2.2.1 9)) (C := RX11) (T := TX11) (N := 35) hx hb hts nX11_count_X11 hown hK hP 0 (wR_0 y a z1) rfl 9 (by decide) (hts (.fieldLink RX11 85 "WorksDeskModel" "handover" "I") (List.mem_of_getElem? (i := 8) rfl)) (fun _ h9 => h9) rfl dX11_count_100 ?_
            obtain ⟨r9, h10, hm⟩ := zz_b1_some hm
            refine zz_calli (zz_runS (w := wR y a) (As := [.int (z1.2.2.1 9)]) (rest := []) ⟨hx, hb, hml, hown, hts⟩ (zX11_monthTold l D y a H.size (z1.2.2.1 9) z1 h10) (va_cwS 1 hts gX11_count_X11_monthTold rfl rfl rfl zdX11_monthTold ⟨Nat.le_of_ble_eq_true rfl, Nat.le_of_ble_eq_true rfl⟩) hK hN hg hP hD hS hA rfl hl.1 rfl (Nat.le_of_ble_eq_true rfl) dX11_count_103 ⟨Nat.le_of_ble_eq_true rfl, Nat.le_of_ble_eq_true rfl⟩) hD hS hA (fun H locs hP hD hS => ?_)
            exact zz_iret hx hb hr hlocks (zz_some2 hm) hP hK hD hS dX11_count_106
          · replace hm := zz_neg c8 hm
            by_cases c11 : x1 = (4 : Int32)
            · replace hm := zz_pos c11 hm
              refine lv_tableIn (tgt := 107) hx hb dX11_count_30 (by rw [c11]; decide) (by rw [c11]; decide) (by rw [c11]; rfl) (by decide) ?_
              refine lv_aload_n hx hb dX11_count_107 rfl (lv_at hl 0 rfl) ?_
              refine va_get (D := D) (ci := 11) (v := .int (z1.2.2.1 10)) (C := RX11) (T := TX11) (N := 35) hx hb hts nX11_count_X11 hown hK hP 0 (wR_0 y a z1) rfl 10 (by decide) (hts (.fieldLink RX11 88 "WorksDeskModel" "last" "I") (List.mem_of_getElem? (i := 9) rfl)) (fun _ h9 => h9) rfl dX11_count_108 ?_
              obtain ⟨r12, h13, hm⟩ := zz_b1_some hm
              refine zz_calli (zz_runS (w := wR y a) (As := [.int (z1.2.2.1 10)]) (rest := []) ⟨hx, hb, hml, hown, hts⟩ (zX11_monthTold l D y a H.size (z1.2.2.1 10) z1 h13) (va_cwS 1 hts gX11_count_X11_monthTold rfl rfl rfl zdX11_monthTold ⟨Nat.le_of_ble_eq_true rfl, Nat.le_of_ble_eq_true rfl⟩) hK hN hg hP hD hS hA rfl hl.1 rfl (Nat.le_of_ble_eq_true rfl) dX11_count_111 ⟨Nat.le_of_ble_eq_true rfl, Nat.le_of_ble_eq_true rfl⟩) hD hS hA (fun H locs hP hD hS => ?_)
              exact zz_iret hx hb hr hlocks (zz_some2 hm) hP hK hD hS dX11_count_114
            · replace hm := zz_neg c11 hm
              by_cases c14 : x1 = (5 : Int32)
              · replace hm := zz_pos c14 hm
                refine lv_tableIn (tgt := 115) hx hb dX11_count_30 (by rw [c14]; decide) (by rw [c14]; decide) (by rw [c14]; rfl) (by decide) ?_
                refine lv_aload_n hx hb dX11_count_115 rfl (lv_at hl 0 rfl) ?_
                obtain ⟨r15, h16, hm⟩ := zz_b1_some hm
                refine zz_calli (zz_runV (w := wR y a) (As := []) (rest := []) ⟨hx, hb, hml, hown, hts⟩ (zX11_measuredMonths l D y a H.size z1 h16) (cwV 0 hts gX11_count_X11_measuredMonths rfl rfl rfl zdX11_measuredMonths ⟨Nat.le_of_ble_eq_true rfl, Nat.le_of_ble_eq_true rfl⟩) hK hN hg hP hD hS hA 0 (wR_0 y a z1) rfl rfl hl.1 rfl (Nat.le_of_ble_eq_true rfl) dX11_count_116 ⟨Nat.le_of_ble_eq_true rfl, Nat.le_of_ble_eq_true rfl⟩) hD hS hA (fun H locs hP hD hS => ?_)
                exact zz_iret hx hb hr hlocks (zz_some2 hm) hP hK hD hS dX11_count_119
              · replace hm := zz_neg c14 hm
                by_cases c17 : x1 = (6 : Int32)
                · replace hm := zz_pos c17 hm
                  refine lv_tableIn (tgt := 120) hx hb dX11_count_30 (by rw [c17]; decide) (by rw [c17]; decide) (by rw [c17]; rfl) (by decide) ?_
                  refine lv_aload_n hx hb dX11_count_120 rfl (lv_at hl 0 rfl) ?_
                  refine va_get (D := D) (ci := 11) (v := .int (z1.2.2.1 18)) (C := RX11) (T := TX11) (N := 35) hx hb hts nX11_count_X11 hown hK hP 0 (wR_0 y a z1) rfl 18 (by decide) (hts (.fieldLink RX11 100 "WorksDeskModel" "rowMany" "I") (List.mem_of_getElem? (i := 10) rfl)) (fun _ h9 => h9) rfl dX11_count_121 ?_
                  exact zz_iret hx hb hr hlocks (zz_some2 hm) hP hK hD hS dX11_count_124
                · replace hm := zz_neg c17 hm
                  by_cases c18 : x1 = (7 : Int32)
                  · replace hm := zz_pos c18 hm
                    refine lv_tableIn (tgt := 125) hx hb dX11_count_30 (by rw [c18]; decide) (by rw [c18]; decide) (by rw [c18]; rfl) (by decide) ?_
                    refine lv_aload_n hx hb dX11_count_125 rfl (lv_at hl 0 rfl) ?_
                    refine va_get (D := D) (ci := 11) (v := .int (z1.2.2.1 16)) (C := RX11) (T := TX11) (N := 35) hx hb hts nX11_count_X11 hown hK hP 0 (wR_0 y a z1) rfl 16 (by decide) (hts (.fieldLink RX11 109 "WorksDeskModel" "typed" "I") (List.mem_of_getElem? (i := 11) rfl)) (fun _ h9 => h9) rfl dX11_count_126 ?_
                    exact zz_iret hx hb hr hlocks (zz_some2 hm) hP hK hD hS dX11_count_129
                  · replace hm := zz_neg c18 hm
                    by_cases c19 : x1 = (8 : Int32)
                    · replace hm := zz_pos c19 hm
                      refine lv_tableIn (tgt := 130) hx hb dX11_count_30 (by rw [c19]; decide) (by rw [c19]; decide) (by rw [c19]; rfl) (by decide) ?_
                      refine lv_aload_n hx hb dX11_count_130 rfl (lv_at hl 0 rfl) ?_
                      refine va_get (D := D) (ci := 11) (v := .int (z1.2.2.1 11)) (C := RX11) (T := TX11) (N := 35) hx hb hts nX11_count_X11 hown hK hP 0 (wR_0 y a z1) rfl 11 (by decide) (hts (.fieldLink RX11 91 "WorksDeskModel" "due" "I") (List.mem_of_getElem? (i := 12) rfl)) (fun _ h9 => h9) rfl dX11_count_131 ?_
                      refine lv_bipush (v := (24 : Int32)) hx hb dX11_count_134 (by decide) ?_
                      refine lv_icmp_ne (tgt := 143) hx hb dX11_count_136 (by decide) (fun c20 => ?_) (fun c20 => ?_)
                      · replace hm := zz_neg c20 hm
                        refine lv_aload_n hx hb dX11_count_143 rfl (lv_at hl 0 rfl) ?_
                        refine va_get (D := D) (ci := 11) (v := .int (z1.2.2.1 11)) (C := RX11) (T := TX11) (N := 35) hx hb hts nX11_count_X11 hown hK hP 0 (wR_0 y a z1) rfl 11 (by decide) (hts (.fieldLink RX11 91 "WorksDeskModel" "due" "I") (List.mem_of_getElem? (i := 12) rfl)) (fun _ h9 => h9) rfl dX11_count_144 ?_
                        refine lv_aload_n hx hb dX11_count_147 rfl (lv_at hl 0 rfl) ?_
                        refine va_get (D := D) (ci := 11) (v := .int (z1.2.2.1 12)) (C := RX11) (T := TX11) (N := 35) hx hb hts nX11_count_X11 hown hK hP 0 (wR_0 y a z1) rfl 12 (by decide) (hts (.fieldLink RX11 94 "WorksDeskModel" "granted" "I") (List.mem_of_getElem? (i := 13) rfl)) (fun _ h9 => h9) rfl dX11_count_148 ?_
                        refine lv_iadd hx hb dX11_count_151 ?_
                        have j := J152 ((z1.2.2.1 11) + (z1.2.2.1 12)) z1 hm
                        rw [hG] at j
                        exact j H locs ls hP hD hS (lv_sub hl [] rfl)
                      · replace hm := zz_pos c20 hm
                        refine lv_iconst (v := (-1 : Int32)) hx hb dX11_count_139 (by decide) ?_
                        refine lv_goto (tgt := 152) hx hb dX11_count_140 (by decide) ?_
                        have j := J152 (-1 : Int32) z1 hm
                        rw [hG] at j
                        exact j H locs ls hP hD hS (lv_sub hl [] rfl)
                    · replace hm := zz_neg c19 hm
                      by_cases c21 : x1 = (9 : Int32)
                      · replace hm := zz_pos c21 hm
                        refine lv_tableIn (tgt := 153) hx hb dX11_count_30 (by rw [c21]; decide) (by rw [c21]; decide) (by rw [c21]; rfl) (by decide) ?_
                        refine lv_aload_n hx hb dX11_count_153 rfl (lv_at hl 0 rfl) ?_
                        refine va_get (D := D) (ci := 11) (v := .int (z1.2.2.1 12)) (C := RX11) (T := TX11) (N := 35) hx hb hts nX11_count_X11 hown hK hP 0 (wR_0 y a z1) rfl 12 (by decide) (hts (.fieldLink RX11 94 "WorksDeskModel" "granted" "I") (List.mem_of_getElem? (i := 13) rfl)) (fun _ h9 => h9) rfl dX11_count_154 ?_
                        exact zz_iret hx hb hr hlocks (zz_some2 hm) hP hK hD hS dX11_count_157
                      · replace hm := zz_neg c21 hm
                        refine lv_tableOut (tgt := 158) hx hb dX11_count_30 (by have ec5 := lv_neT (a := 0) c5 (by decide); have ec6 := lv_neT (a := 1) c6 (by decide); have ec7 := lv_neT (a := 2) c7 (by decide); have ec8 := lv_neT (a := 3) c8 (by decide); have ec11 := lv_neT (a := 4) c11 (by decide); have ec14 := lv_neT (a := 5) c14 (by decide); have ec17 := lv_neT (a := 6) c17 (by decide); have ec18 := lv_neT (a := 7) c18 (by decide); have ec19 := lv_neT (a := 8) c19 (by decide); have ec21 := lv_neT (a := 9) c21 (by decide); omega) (by decide) ?_
                        refine lv_iconst (v := (-1 : Int32)) hx hb dX11_count_158 (by decide) ?_
                        exact zz_iret hx hb hr hlocks (zz_some2 hm) hP hK hD hS dX11_count_159
  · replace hm := zz_neg c4 hm
    refine lv_aload_n hx hb dX11_count_19 rfl (lv_at hl 0 rfl) ?_
    refine va_get (D := D) (ci := 11) (v := .ref (a 1)) (C := RX11) (T := TX11) (N := 35) hx hb hts nX11_count_X11 hown hK hP 0 (wR_0 y a z1) rfl 0 (by decide) (hts (.fieldLink RX11 7 "WorksDeskModel" "terms" "[I") (List.mem_of_getElem? (i := 4) rfl)) (fun _ h9 => h9) rfl dX11_count_20 ?_
    refine lv_iload_n hx hb dX11_count_23 rfl (lv_at hl 1 rfl) ?_
    refine lv_bipush (v := (10 : Int32)) hx hb dX11_count_24 (by decide) ?_
    refine lv_isub hx hb dX11_count_26 ?_
    obtain ⟨c22, hm⟩ := zz_ck_some hm
    refine va_iald hx hb hK hP 1 0 (wR_1 y a z1) rfl c22 dX11_count_27 ?_
    exact zz_iret hx hb hr hlocks (zz_some2 hm) hP hK hD hS dX11_count_28
def mX11_countBits_b4 : Nat → Int32 → Int32 → Int32 → Option Int32
  | 0, _, _, _ => none
  | n + 1, v0, v1, v2 => if (31 : Int32) ≤ v2 then (some v1) else (zz_nm (v1 + ((v0 >>> (v2 &&& 31)) &&& (1 : Int32))) (fun n2 => zz_nm (v2 + (1 : Int32)) (fun n3 => (mX11_countBits_b4 n) v0 n2 n3)))
def mX11_countBits (x0 : Int32) : Option Int32 := mX11_countBits_b4 zz_N x0 (0 : Int32) (0 : Int32)
theorem zdX11_countBits : yX11_countBits.cls ≠ "java/lang/invoke/MethodHandle" ∧ yX11_countBits.cls ≠ "java/lang/invoke/VarHandle" ∧ (parseMethodDescriptor yX11_countBits.desc).map (fun d => d.parameters.length) = some 1 := by decide +kernel
set_option maxHeartbeats 4000000 in
set_option maxRecDepth 100000 in
theorem zX11_countBits (l : Launch) (D : va_G) (y : Nat → ClassId) (a : Nat → Nat) (sz : Nat) (x0 : Int32) (z : zz_M) {r : Int32} (hm : mX11_countBits x0 = some r) : Met l yX11_countBits wsX11_countBits { frames := 0, cells := 0, slots := 0, locals := 0 } (zz_Pc D y (wR y a z) sz [.int x0]) (zz_Qi D y (wR y a) (va_A (wR y a z) sz) r z) 0 0 (va_A (wR y a z) sz) := by
  refine Met.ofW (cc := cX11_countBits) (maxL := 3) (ret := (some .int)) (by decide) rfl ?_
  intro p e s m args below meth c s₁ B hml hv
  obtain ⟨rfl, hsz, hP, hK, hD0, hN, hg⟩ := hv
  have hx := B.exec
  have hb := B.bytes
  have hr := B.returns
  have hts := atoms_spec (ws := wsX11_countBits) B.pre
  have hown : s.vm.findClass RX11 = some m.cls := findClass_of_methodNamed B.named
  have hlocks := B.notSynchronized
  clear B
  subst hsz
  have hD := hD0.self (sz := s.heap.size)
  generalize hAe : va_A (wR y a z) s.heap.size = A at hD hg ⊢
  have hA : ∀ q : Nat, s.heap.size ≤ q → A q := fun q h => by rw [← hAe]; exact Or.inr h
  clear hAe hD0
  have hl := lv_entry ([.int x0]) (n := 3) (Nat.le_of_ble_eq_true rfl)
  rw [lg_entry_eq]
  generalize (lg_sl ([.int x0]) ++ List.replicate (3 - (lg_sl ([.int x0])).length) Slot.unset).toArray = ls at hl ⊢
  replace hl : lv_has ls 3 [(0, .int x0)] := hl
  refine zz_go (w := wR y a) hP hD va_S.rf hl (fun G hG => ?_)
  clear hP hD hl ls
  have J4 : ∀ (n : Nat) (v0 : Int32) (v1 : Int32) (v2 : Int32), mX11_countBits_b4 n v0 v1 v2 = some r → G 4 [(0, .int v0), (1, .int v1), (2, .int v2)] [] z := by
    intro n
    induction n with
    | zero =>
      intro v0 v1 v2 hm
      exact zz_none hm
    | succ n ih =>
      intro v0 v1 v2 hm
      rw [mX11_countBits_b4] at hm
      rw [hG]
      intro H locs ls hP hD hS hl
      refine lv_iload_n hx hb dX11_countBits_4 rfl (lv_at hl 2 rfl) ?_
      refine lv_bipush (v := (31 : Int32)) hx hb dX11_countBits_5 (by decide) ?_
      refine lv_icmp_ge (tgt := 24) hx hb dX11_countBits_7 (by decide) (fun c1 => ?_) (fun c1 => ?_)
      · replace hm := zz_pos c1 hm
        refine lv_iload_n hx hb dX11_countBits_24 rfl (lv_at hl 1 rfl) ?_
        exact zz_iret hx hb hr hlocks ⟨zz_some1 hm, rfl⟩ hP hK hD hS dX11_countBits_25
      · replace hm := zz_neg c1 hm
        refine lv_iload_n hx hb dX11_countBits_10 rfl (lv_at hl 1 rfl) ?_
        refine lv_iload_n hx hb dX11_countBits_11 rfl (lv_at hl 0 rfl) ?_
        refine lv_iload_n hx hb dX11_countBits_12 rfl (lv_at hl 2 rfl) ?_
        refine lv_ishr hx hb dX11_countBits_13 ?_
        refine lv_iconst (v := (1 : Int32)) hx hb dX11_countBits_14 (by decide) ?_
        refine lv_iand hx hb dX11_countBits_15 ?_
        refine lv_iadd hx hb dX11_countBits_16 ?_
        refine lv_topi (fun n2 en2 => ?_)
        replace hm := zz_nm_some en2 hm
        refine lv_istore_n (lv' := [(1, .int n2), (0, .int v0), (2, .int v2)]) hx hb dX11_countBits_17 rfl hl (by decide) rfl (fun ls hl => ?_)
        obtain ⟨n3, en3⟩ : ∃ q : Int32, q = v2 + (1 : Int32) := ⟨_, rfl⟩
        replace hm := zz_nm_some en3 hm
        refine lv_iinc (v := n3) (lv' := [(2, .int n3), (1, .int n2), (0, .int v0)]) hx hb dX11_countBits_18 hl (k := 2) rfl (by rw [en3]; rfl) (by decide) rfl (fun ls hl => ?_)
        refine lv_goto (tgt := 4) hx hb dX11_countBits_21 (by decide) ?_
        have j := ih v0 n2 n3 hm
        rw [hG] at j
        exact j H locs ls hP hD hS (lv_sub hl [2, 1, 0] rfl)
  rw [hG]
  intro H locs ls hP hD hS hl
  unfold mX11_countBits at hm
  refine lv_iconst (v := (0 : Int32)) hx hb dX11_countBits_0 (by decide) ?_
  refine lv_istore_n (lv' := [(1, .int (0 : Int32)), (0, .int x0)]) hx hb dX11_countBits_1 rfl hl (by decide) rfl (fun ls hl => ?_)
  refine lv_iconst (v := (0 : Int32)) hx hb dX11_countBits_2 (by decide) ?_
  refine lv_istore_n (lv' := [(2, .int (0 : Int32)), (1, .int (0 : Int32)), (0, .int x0)]) hx hb dX11_countBits_3 rfl hl (by decide) rfl (fun ls hl => ?_)
  have j := J4 zz_N x0 (0 : Int32) (0 : Int32) hm
  rw [hG] at j
  exact j H locs ls hP hD hS (lv_sub hl [2, 1, 0] rfl)
def mX11_interestAll (z : zz_M) : Option Int64 := zz_b1 (mX11_interestTill (23 : Int32) z) (fun r1 => some r1)
theorem zdX11_interestAll : yX11_interestAll.cls = RX11 ∧ yX11_interestAll.cls ≠ "java/lang/invoke/MethodHandle" ∧ yX11_interestAll.cls ≠ "java/lang/invoke/VarHandle" ∧ (parseMethodDescriptor yX11_interestAll.desc).map (fun d => d.parameters.length) = some 0 := by decide +kernel
set_option maxHeartbeats 4000000 in
set_option maxRecDepth 100000 in
theorem zX11_interestAll (l : Launch) (D : va_G) (y : Nat → ClassId) (a : Nat → Nat) (sz : Nat) (z : zz_M) {r : Int64} (hm : mX11_interestAll z = some r) : Met l yX11_interestAll wsX11_interestAll { frames := 1, cells := 0, slots := 0, locals := 24 } (zz_Pc D y (wR y a z) sz [.ref (a 0)]) (zz_Ql D y (wR y a) (va_A (wR y a z) sz) r z) 0 0 (va_A (wR y a z) sz) := by
  refine Met.ofW (cc := cX11_interestAll) (maxL := 1) (ret := (some .long)) (by decide) rfl ?_
  intro p e s m args below meth c s₁ B hml hv
  obtain ⟨rfl, hsz, hP, hK, hD0, hN, hg⟩ := hv
  have hx := B.exec
  have hb := B.bytes
  have hr := B.returns
  have hts := atoms_spec (ws := wsX11_interestAll) B.pre
  have hown : s.vm.findClass RX11 = some m.cls := findClass_of_methodNamed B.named
  have hlocks := B.notSynchronized
  clear B
  subst hsz
  have hD := hD0.self (sz := s.heap.size)
  generalize hAe : va_A (wR y a z) s.heap.size = A at hD hg ⊢
  have hA : ∀ q : Nat, s.heap.size ≤ q → A q := fun q h => by rw [← hAe]; exact Or.inr h
  clear hAe hD0
  have hl := lv_entry ([.ref (a 0)]) (n := 1) (Nat.le_of_ble_eq_true rfl)
  rw [lg_entry_eq]
  generalize (lg_sl ([.ref (a 0)]) ++ List.replicate (1 - (lg_sl ([.ref (a 0)])).length) Slot.unset).toArray = ls at hl ⊢
  replace hl : lv_has ls 1 [(0, .ref (a 0))] := hl
  refine zz_go (w := wR y a) hP hD va_S.rf hl (fun G hG => ?_)
  clear hP hD hl ls
  rw [hG]
  intro H locs ls hP hD hS hl
  unfold mX11_interestAll at hm
  refine lv_aload_n hx hb dX11_interestAll_0 rfl (lv_at hl 0 rfl) ?_
  refine lv_bipush (v := (23 : Int32)) hx hb dX11_interestAll_1 (by decide) ?_
  obtain ⟨r1, h2, hm⟩ := zz_b1_some hm
  refine zz_calll (zz_runV (w := wR y a) (As := [.int (23 : Int32)]) (rest := []) ⟨hx, hb, hml, hown, hts⟩ (zX11_interestTill l D y a H.size (23 : Int32) z h2) (cwV 1 hts gX11_interestAll_X11_interestTill rfl rfl rfl zdX11_interestTill ⟨Nat.le_of_ble_eq_true rfl, Nat.le_of_ble_eq_true rfl⟩) hK hN hg hP hD hS hA 0 (wR_0 y a z) rfl rfl hl.1 rfl (Nat.le_of_ble_eq_true rfl) dX11_interestAll_3 ⟨Nat.le_of_ble_eq_true rfl, Nat.le_of_ble_eq_true rfl⟩) hD hS hA (fun H locs hP hD hS => ?_)
  exact zz_lret hx hb hr hlocks ⟨zz_some1 hm, rfl⟩ hP hK hD hS dX11_interestAll_6
def mX11_dearest_b102 (k12 : Int32 → Int64 → Int32 → zz_M → Option (Int32 × zz_M)) (v1 : Int32) (v2 : Int64) (v4 : Int32) (z : zz_M) : Option (Int32 × zz_M) := zz_nm (v4 + (1 : Int32)) (fun n1 => k12 v1 v2 n1 z)
def mX11_dearest_b94 (k12 : Int32 → Int64 → Int32 → zz_M → Option (Int32 × zz_M)) (v4 : Int32) (z : zz_M) : Option (Int32 × zz_M) := zz_b1 (mX11_interestAll z) (fun r2 => mX11_dearest_b102 k12 v4 r2 v4 z)
def mX11_dearest_b12 : Nat → Int32 → Int64 → Int32 → zz_M → Option (Int32 × zz_M)
  | 0, _, _, _, _ => none
  | n + 1, v1, v2, v4, z => if (z.2.2.1 8) ≤ v4 then (if v1 = (-1 : Int32) then (some ((-2 : Int32), z)) else (zz_nm (zz_sF z 18 (0 : Int32)) (fun z6 => zz_b2 (mX11_tell v2 z6) (fun r7 z9 => some (v1, z9))))) else (zz_ck (zz_in (((5 : Int32) * v4) + (2 : Int32)) 30) (if (24 : Int32) ≤ (z.1 6 (((5 : Int32) * v4) + (2 : Int32)).toNatClampNeg) then (zz_ck (zz_in ((5 : Int32) * v4) 30) (zz_ck (zz_in (((5 : Int32) * v4) + (2 : Int32)) 30) (zz_nm (zz_wI z 6 (((5 : Int32) * v4) + (2 : Int32)) (z.1 6 ((5 : Int32) * v4).toNatClampNeg)) (fun z14 => zz_b2 (mX11_layMonths z14) (fun r15 z17 => zz_ck (zz_in (((5 : Int32) * v4) + (2 : Int32)) 30) (zz_nm (zz_wI z17 6 (((5 : Int32) * v4) + (2 : Int32)) (24 : Int32)) (fun z19 => if v1 = (-1 : Int32) then (mX11_dearest_b94 (mX11_dearest_b12 n) v4 z19) else (zz_b1 (mX11_interestAll z19) (fun r21 => if (0 : Int32) < (lg_cmp r21 v2) then (mX11_dearest_b94 (mX11_dearest_b12 n) v4 z19) else (mX11_dearest_b102 (mX11_dearest_b12 n) v1 v2 v4 z19)))))))))) else (mX11_dearest_b102 (mX11_dearest_b12 n) v1 v2 v4 z)))
def mX11_dearest (z : zz_M) : Option (Int32 × zz_M) := zz_nm (zz_sF z 19 (0 : Int32)) (fun z24 => mX11_dearest_b12 zz_N (-1 : Int32) (0 : Int64) (0 : Int32) z24)
theorem nX11_dearest_X11 : ∀ w ∈ wsX110, w ∈ wsX11_dearest := fun _ h => List.mem_cons_of_mem _ (List.mem_append_right _ (h))
theorem zdX11_dearest : yX11_dearest.cls = RX11 ∧ yX11_dearest.cls ≠ "java/lang/invoke/MethodHandle" ∧ yX11_dearest.cls ≠ "java/lang/invoke/VarHandle" ∧ (parseMethodDescriptor yX11_dearest.desc).map (fun d => d.parameters.length) = some 0 := by decide +kernel
set_option maxHeartbeats 4000000 in
set_option maxRecDepth 100000 in
theorem zX11_dearest (l : Launch) (D : va_G) (y : Nat → ClassId) (a : Nat → Nat) (sz : Nat) (z : zz_M) {r : Int32} {zt : zz_M} (hm : mX11_dearest z = some (r, zt)) : Met l yX11_dearest wsX11_dearest { frames := 7, cells := 0, slots := 0, locals := 175 } (zz_Pc D y (wR y a z) sz [.ref (a 0)]) (zz_Qi D y (wR y a) (va_A (wR y a z) sz) r zt) 0 0 (va_A (wR y a z) sz) := by
  refine Met.ofW (cc := cX11_dearest) (maxL := 5) (ret := (some .int)) (by decide) rfl ?_
  intro p e s m args below meth c s₁ B hml hv
  obtain ⟨rfl, hsz, hP, hK, hD0, hN, hg⟩ := hv
  have hx := B.exec
  have hb := B.bytes
  have hr := B.returns
  have hts := atoms_spec (ws := wsX11_dearest) B.pre
  have hown : s.vm.findClass RX11 = some m.cls := findClass_of_methodNamed B.named
  have hlocks := B.notSynchronized
  clear B
  subst hsz
  have hD := hD0.self (sz := s.heap.size)
  generalize hAe : va_A (wR y a z) s.heap.size = A at hD hg ⊢
  have hA : ∀ q : Nat, s.heap.size ≤ q → A q := fun q h => by rw [← hAe]; exact Or.inr h
  clear hAe hD0
  have hl := lv_entry ([.ref (a 0)]) (n := 5) (Nat.le_of_ble_eq_true rfl)
  rw [lg_entry_eq]
  generalize (lg_sl ([.ref (a 0)]) ++ List.replicate (5 - (lg_sl ([.ref (a 0)])).length) Slot.unset).toArray = ls at hl ⊢
  replace hl : lv_has ls 5 [(0, .ref (a 0))] := hl
  refine zz_go (w := wR y a) hP hD va_S.rf hl (fun G hG => ?_)
  clear hP hD hl ls
  have J102 : ∀ (k12 : Int32 → Int64 → Int32 → zz_M → Option (Int32 × zz_M)) (K12 : ∀ (v1 : Int32) (v2 : Int64) (v4 : Int32) (z : zz_M), k12 v1 v2 v4 z = some (r, zt) → G 12 [(0, .ref (a 0)), (1, .int v1), (2, .long v2), (4, .int v4)] [] z) (v1 : Int32) (v2 : Int64) (v4 : Int32) (z : zz_M), mX11_dearest_b102 k12 v1 v2 v4 z = some (r, zt) → G 102 [(0, .ref (a 0)), (1, .int v1), (2, .long v2), (4, .int v4)] [] z := by
    intro k12 K12 v1 v2 v4 z hm
    rw [mX11_dearest_b102] at hm
    rw [hG]
    intro H locs ls hP hD hS hl
    obtain ⟨n1, en1⟩ : ∃ q : Int32, q = v4 + (1 : Int32) := ⟨_, rfl⟩
    replace hm := zz_nm_some en1 hm
    refine lv_iinc (v := n1) (lv' := [(4, .int n1), (0, .ref (a 0)), (1, .int v1), (2, .long v2)]) hx hb dX11_dearest_102 hl (k := 3) rfl (by rw [en1]; rfl) (by decide) rfl (fun ls hl => ?_)
    refine lv_goto (tgt := 12) hx hb dX11_dearest_105 (by decide) ?_
    have j := K12 v1 v2 n1 z hm
    rw [hG] at j
    exact j H locs ls hP hD hS (lv_sub hl [1, 2, 3, 0] rfl)
  have J94 : ∀ (k12 : Int32 → Int64 → Int32 → zz_M → Option (Int32 × zz_M)) (K12 : ∀ (v1 : Int32) (v2 : Int64) (v4 : Int32) (z : zz_M), k12 v1 v2 v4 z = some (r, zt) → G 12 [(0, .ref (a 0)), (1, .int v1), (2, .long v2), (4, .int v4)] [] z) (v4 : Int32) (z : zz_M), mX11_dearest_b94 k12 v4 z = some (r, zt) → G 94 [(0, .ref (a 0)), (4, .int v4)] [] z := by
    intro k12 K12 v4 z hm
    rw [mX11_dearest_b94] at hm
    rw [hG]
    intro H locs ls hP hD hS hl
    refine lv_iload hx hb dX11_dearest_94 (lv_at hl 1 rfl) ?_
    refine lv_istore_n (lv' := [(1, .int v4), (0, .ref (a 0)), (4, .int v4)]) hx hb dX11_dearest_96 rfl hl (by decide) rfl (fun ls hl => ?_)
    refine lv_aload_n hx hb dX11_dearest_97 rfl (lv_at hl 1 rfl) ?_
    obtain ⟨r2, h3, hm⟩ := zz_b1_some hm
    refine zz_calll (zz_runV (w := wR y a) (As := []) (rest := []) ⟨hx, hb, hml, hown, hts⟩ (zX11_interestAll l D y a H.size z h3) (cwV 0 hts gX11_dearest_X11_interestAll rfl rfl rfl zdX11_interestAll ⟨Nat.le_of_ble_eq_true rfl, Nat.le_of_ble_eq_true rfl⟩) hK hN hg hP hD hS hA 0 (wR_0 y a z) rfl rfl hl.1 rfl (Nat.le_of_ble_eq_true rfl) dX11_dearest_98 ⟨Nat.le_of_ble_eq_true rfl, Nat.le_of_ble_eq_true rfl⟩) hD hS hA (fun H locs hP hD hS => ?_)
    refine lv_lstore_n (lv' := [(2, .long r2), (1, .int v4), (0, .ref (a 0)), (4, .int v4)]) hx hb dX11_dearest_101 rfl hl (by decide) rfl (fun ls hl => ?_)
    have j := J102 k12 K12 v4 r2 v4 z hm
    rw [hG] at j
    exact j H locs ls hP hD hS (lv_sub hl [2, 1, 0, 3] rfl)
  have J12 : ∀ (n : Nat) (v1 : Int32) (v2 : Int64) (v4 : Int32) (z : zz_M), mX11_dearest_b12 n v1 v2 v4 z = some (r, zt) → G 12 [(0, .ref (a 0)), (1, .int v1), (2, .long v2), (4, .int v4)] [] z := by
    intro n
    induction n with
    | zero =>
      intro v1 v2 v4 z hm
      exact zz_none hm
    | succ n ih =>
      intro v1 v2 v4 z hm
      rw [mX11_dearest_b12] at hm
      rw [hG]
      intro H locs ls hP hD hS hl
      refine lv_iload hx hb dX11_dearest_12 (lv_at hl 3 rfl) ?_
      refine lv_aload_n hx hb dX11_dearest_14 rfl (lv_at hl 0 rfl) ?_
      refine va_get (D := D) (ci := 11) (v := .int (z.2.2.1 8)) (C := RX11) (T := TX11) (N := 35) hx hb hts nX11_dearest_X11 hown hK hP 0 (wR_0 y a z) rfl 8 (by decide) (hts (.fieldLink RX11 82 "WorksDeskModel" "setMany" "I") (List.mem_of_getElem? (i := 2) rfl)) (fun _ h9 => h9) rfl dX11_dearest_15 ?_
      refine lv_icmp_ge (tgt := 108) hx hb dX11_dearest_18 (by decide) (fun c4 => ?_) (fun c4 => ?_)
      · replace hm := zz_pos c4 hm
        refine lv_iload_n hx hb dX11_dearest_108 rfl (lv_at hl 1 rfl) ?_
        refine lv_iconst (v := (-1 : Int32)) hx hb dX11_dearest_109 (by decide) ?_
        refine lv_icmp_ne (tgt := 116) hx hb dX11_dearest_110 (by decide) (fun c5 => ?_) (fun c5 => ?_)
        · replace hm := zz_neg c5 hm
          refine lv_aload_n hx hb dX11_dearest_116 rfl (lv_at hl 0 rfl) ?_
          refine lv_iconst (v := (0 : Int32)) hx hb dX11_dearest_117 (by decide) ?_
          refine va_put (D := D) (ci := 11) (v := .int (0 : Int32)) (ty := .int) (C := RX11) (T := TX11) (N := 35) hx hb hts nX11_dearest_X11 tyX11 tyX11_ok nmX11 hown hK hP hD hS 0 (wR_0 y a z) rfl 18 (by decide) (hts (.fieldLink RX11 100 "WorksDeskModel" "rowMany" "I") (List.mem_of_getElem? (i := 4) rfl)) (fun _ h9 => h9) rfl (tyX11_ok 18 (by decide)) rfl rfl (Nat.le_of_ble_eq_true rfl) dX11_dearest_118 (fun H locs hP hD hS => ?_)
          obtain ⟨z6, hP, hD, hm⟩ := zz_up (w := wR y a) (wR_f18 y a z (0 : Int32)) hP hD hm
          refine lv_aload_n hx hb dX11_dearest_121 rfl (lv_at hl 0 rfl) ?_
          refine lv_lload_n hx hb dX11_dearest_122 rfl (lv_at hl 2 rfl) ?_
          obtain ⟨r7, z9, h8, hm⟩ := zz_b2_some hm
          refine zz_callv (zz_runV (w := wR y a) (As := [.long v2]) (rest := []) ⟨hx, hb, hml, hown, hts⟩ (zX11_tell l D y a H.size v2 z6 h8) (cwV 1 hts gX11_dearest_X11_tell rfl rfl rfl zdX11_tell ⟨Nat.le_of_ble_eq_true rfl, Nat.le_of_ble_eq_true rfl⟩) hK hN hg hP hD hS hA 0 (wR_0 y a z6) rfl rfl hl.1 rfl (Nat.le_of_ble_eq_true rfl) dX11_dearest_123 ⟨Nat.le_of_ble_eq_true rfl, Nat.le_of_ble_eq_true rfl⟩) hD hS hA (fun H locs hP hD hS => ?_)
          refine lv_iload_n hx hb dX11_dearest_126 rfl (lv_at hl 1 rfl) ?_
          exact zz_iret hx hb hr hlocks (zz_some2 hm) hP hK hD hS dX11_dearest_127
        · replace hm := zz_pos c5 hm
          refine lv_bipush (v := (-2 : Int32)) hx hb dX11_dearest_113 (by decide) ?_
          exact zz_iret hx hb hr hlocks (zz_some2 hm) hP hK hD hS dX11_dearest_115
      · replace hm := zz_neg c4 hm
        refine lv_aload_n hx hb dX11_dearest_21 rfl (lv_at hl 0 rfl) ?_
        refine va_get (D := D) (ci := 11) (v := .ref (a 6)) (C := RX11) (T := TX11) (N := 35) hx hb hts nX11_dearest_X11 hown hK hP 0 (wR_0 y a z) rfl 7 (by decide) (hts (.fieldLink RX11 25 "WorksDeskModel" "sets" "[I") (List.mem_of_getElem? (i := 3) rfl)) (fun _ h9 => h9) rfl dX11_dearest_22 ?_
        refine lv_iconst (v := (5 : Int32)) hx hb dX11_dearest_25 (by decide) ?_
        refine lv_iload hx hb dX11_dearest_26 (lv_at hl 3 rfl) ?_
        refine lv_imul hx hb dX11_dearest_28 ?_
        refine lv_iconst (v := (2 : Int32)) hx hb dX11_dearest_29 (by decide) ?_
        refine lv_iadd hx hb dX11_dearest_30 ?_
        obtain ⟨c10, hm⟩ := zz_ck_some hm
        refine va_iald hx hb hK hP 6 0 (wR_6 y a z) rfl c10 dX11_dearest_31 ?_
        refine lv_bipush (v := (24 : Int32)) hx hb dX11_dearest_32 (by decide) ?_
        refine lv_icmp_ge (tgt := 40) hx hb dX11_dearest_34 (by decide) (fun c11 => ?_) (fun c11 => ?_)
        · replace hm := zz_pos c11 hm
          refine lv_aload_n hx hb dX11_dearest_40 rfl (lv_at hl 0 rfl) ?_
          refine va_get (D := D) (ci := 11) (v := .ref (a 6)) (C := RX11) (T := TX11) (N := 35) hx hb hts nX11_dearest_X11 hown hK hP 0 (wR_0 y a z) rfl 7 (by decide) (hts (.fieldLink RX11 25 "WorksDeskModel" "sets" "[I") (List.mem_of_getElem? (i := 3) rfl)) (fun _ h9 => h9) rfl dX11_dearest_41 ?_
          refine lv_iconst (v := (5 : Int32)) hx hb dX11_dearest_44 (by decide) ?_
          refine lv_iload hx hb dX11_dearest_45 (lv_at hl 3 rfl) ?_
          refine lv_imul hx hb dX11_dearest_47 ?_
          refine lv_iconst (v := (2 : Int32)) hx hb dX11_dearest_48 (by decide) ?_
          refine lv_iadd hx hb dX11_dearest_49 ?_
          refine lv_aload_n hx hb dX11_dearest_50 rfl (lv_at hl 0 rfl) ?_
          refine va_get (D := D) (ci := 11) (v := .ref (a 6)) (C := RX11) (T := TX11) (N := 35) hx hb hts nX11_dearest_X11 hown hK hP 0 (wR_0 y a z) rfl 7 (by decide) (hts (.fieldLink RX11 25 "WorksDeskModel" "sets" "[I") (List.mem_of_getElem? (i := 3) rfl)) (fun _ h9 => h9) rfl dX11_dearest_51 ?_
          refine lv_iconst (v := (5 : Int32)) hx hb dX11_dearest_54 (by decide) ?_
          refine lv_iload hx hb dX11_dearest_55 (lv_at hl 3 rfl) ?_
          refine lv_imul hx hb dX11_dearest_57 ?_
          obtain ⟨c12, hm⟩ := zz_ck_some hm
          refine va_iald hx hb hK hP 6 0 (wR_6 y a z) rfl c12 dX11_dearest_58 ?_
          obtain ⟨c13, hm⟩ := zz_ck_some hm
          refine va_iast hx hb hK hP hD hS 6 0 (wR_6 y a z) rfl c13 dX11_dearest_59 (fun H locs hP hD hS => ?_)
          obtain ⟨z14, hP, hD, hm⟩ := zz_up (w := wR y a) (wR_w6 y a z (((5 : Int32) * v4) + (2 : Int32)) (z.1 6 ((5 : Int32) * v4).toNatClampNeg)) hP hD hm
          refine lv_aload_n hx hb dX11_dearest_60 rfl (lv_at hl 0 rfl) ?_
          obtain ⟨r15, z17, h16, hm⟩ := zz_b2_some hm
          refine zz_callv (zz_runV (w := wR y a) (As := []) (rest := []) ⟨hx, hb, hml, hown, hts⟩ (zX11_layMonths l D y a H.size z14 h16) (cwV 0 hts gX11_dearest_X11_layMonths rfl rfl rfl zdX11_layMonths ⟨Nat.le_of_ble_eq_true rfl, Nat.le_of_ble_eq_true rfl⟩) hK hN hg hP hD hS hA 0 (wR_0 y a z14) rfl rfl hl.1 rfl (Nat.le_of_ble_eq_true rfl) dX11_dearest_61 ⟨Nat.le_of_ble_eq_true rfl, Nat.le_of_ble_eq_true rfl⟩) hD hS hA (fun H locs hP hD hS => ?_)
          refine lv_aload_n hx hb dX11_dearest_64 rfl (lv_at hl 0 rfl) ?_
          refine va_get (D := D) (ci := 11) (v := .ref (a 6)) (C := RX11) (T := TX11) (N := 35) hx hb hts nX11_dearest_X11 hown hK hP 0 (wR_0 y a z17) rfl 7 (by decide) (hts (.fieldLink RX11 25 "WorksDeskModel" "sets" "[I") (List.mem_of_getElem? (i := 3) rfl)) (fun _ h9 => h9) rfl dX11_dearest_65 ?_
          refine lv_iconst (v := (5 : Int32)) hx hb dX11_dearest_68 (by decide) ?_
          refine lv_iload hx hb dX11_dearest_69 (lv_at hl 3 rfl) ?_
          refine lv_imul hx hb dX11_dearest_71 ?_
          refine lv_iconst (v := (2 : Int32)) hx hb dX11_dearest_72 (by decide) ?_
          refine lv_iadd hx hb dX11_dearest_73 ?_
          refine lv_bipush (v := (24 : Int32)) hx hb dX11_dearest_74 (by decide) ?_
          obtain ⟨c18, hm⟩ := zz_ck_some hm
          refine va_iast hx hb hK hP hD hS 6 0 (wR_6 y a z17) rfl c18 dX11_dearest_76 (fun H locs hP hD hS => ?_)
          obtain ⟨z19, hP, hD, hm⟩ := zz_up (w := wR y a) (wR_w6 y a z17 (((5 : Int32) * v4) + (2 : Int32)) (24 : Int32)) hP hD hm
          refine lv_iload_n hx hb dX11_dearest_77 rfl (lv_at hl 1 rfl) ?_
          refine lv_iconst (v := (-1 : Int32)) hx hb dX11_dearest_78 (by decide) ?_
          refine lv_icmp_eq (tgt := 94) hx hb dX11_dearest_79 (by decide) (fun c20 => ?_) (fun c20 => ?_)
          · replace hm := zz_pos c20 hm
            have j := J94 (mX11_dearest_b12 n) ih v4 z19 hm
            rw [hG] at j
            exact j H locs ls hP hD hS (lv_sub hl [0, 3] rfl)
          · replace hm := zz_neg c20 hm
            refine lv_aload_n hx hb dX11_dearest_82 rfl (lv_at hl 0 rfl) ?_
            obtain ⟨r21, h22, hm⟩ := zz_b1_some hm
            refine zz_calll (zz_runV (w := wR y a) (As := []) (rest := []) ⟨hx, hb, hml, hown, hts⟩ (zX11_interestAll l D y a H.size z19 h22) (cwV 0 hts gX11_dearest_X11_interestAll rfl rfl rfl zdX11_interestAll ⟨Nat.le_of_ble_eq_true rfl, Nat.le_of_ble_eq_true rfl⟩) hK hN hg hP hD hS hA 0 (wR_0 y a z19) rfl rfl hl.1 rfl (Nat.le_of_ble_eq_true rfl) dX11_dearest_83 ⟨Nat.le_of_ble_eq_true rfl, Nat.le_of_ble_eq_true rfl⟩) hD hS hA (fun H locs hP hD hS => ?_)
            refine lv_lload_n hx hb dX11_dearest_86 rfl (lv_at hl 2 rfl) ?_
            refine W.lcmp hx hb dX11_dearest_87 ?_
            refine lv_if_gt (tgt := 94) hx hb dX11_dearest_88 (by decide) (fun c23 => ?_) (fun c23 => ?_)
            · replace hm := zz_pos c23 hm
              have j := J94 (mX11_dearest_b12 n) ih v4 z19 hm
              rw [hG] at j
              exact j H locs ls hP hD hS (lv_sub hl [0, 3] rfl)
            · replace hm := zz_neg c23 hm
              refine lv_goto (tgt := 102) hx hb dX11_dearest_91 (by decide) ?_
              have j := J102 (mX11_dearest_b12 n) ih v1 v2 v4 z19 hm
              rw [hG] at j
              exact j H locs ls hP hD hS (lv_sub hl [0, 1, 2, 3] rfl)
        · replace hm := zz_neg c11 hm
          refine lv_goto (tgt := 102) hx hb dX11_dearest_37 (by decide) ?_
          have j := J102 (mX11_dearest_b12 n) ih v1 v2 v4 z hm
          rw [hG] at j
          exact j H locs ls hP hD hS (lv_sub hl [0, 1, 2, 3] rfl)
  rw [hG]
  intro H locs ls hP hD hS hl
  unfold mX11_dearest at hm
  refine lv_aload_n hx hb dX11_dearest_0 rfl (lv_at hl 0 rfl) ?_
  refine lv_iconst (v := (0 : Int32)) hx hb dX11_dearest_1 (by decide) ?_
  refine va_put (D := D) (ci := 11) (v := .int (0 : Int32)) (ty := .int) (C := RX11) (T := TX11) (N := 35) hx hb hts nX11_dearest_X11 tyX11 tyX11_ok nmX11 hown hK hP hD hS 0 (wR_0 y a z) rfl 19 (by decide) (hts (.fieldLink RX11 97 "WorksDeskModel" "thrown" "I") (List.mem_of_getElem? (i := 1) rfl)) (fun _ h9 => h9) rfl (tyX11_ok 19 (by decide)) rfl rfl (Nat.le_of_ble_eq_true rfl) dX11_dearest_2 (fun H locs hP hD hS => ?_)
  obtain ⟨z24, hP, hD, hm⟩ := zz_up (w := wR y a) (wR_f19 y a z (0 : Int32)) hP hD hm
  refine lv_iconst (v := (-1 : Int32)) hx hb dX11_dearest_5 (by decide) ?_
  refine lv_istore_n (lv' := [(1, .int (-1 : Int32)), (0, .ref (a 0))]) hx hb dX11_dearest_6 rfl hl (by decide) rfl (fun ls hl => ?_)
  refine lv_lconst (v := (0 : Int64)) hx hb dX11_dearest_7 (by decide) ?_
  refine lv_lstore_n (lv' := [(2, .long (0 : Int64)), (1, .int (-1 : Int32)), (0, .ref (a 0))]) hx hb dX11_dearest_8 rfl hl (by decide) rfl (fun ls hl => ?_)
  refine lv_iconst (v := (0 : Int32)) hx hb dX11_dearest_9 (by decide) ?_
  refine lv_istore (lv' := [(4, .int (0 : Int32)), (2, .long (0 : Int64)), (1, .int (-1 : Int32)), (0, .ref (a 0))]) hx hb dX11_dearest_10 hl (by decide) rfl (fun ls hl => ?_)
  have j := J12 zz_N (-1 : Int32) (0 : Int64) (0 : Int32) z24 hm
  rw [hG] at j
  exact j H locs ls hP hD hS (lv_sub hl [3, 2, 1, 0] rfl)
def mX11_isSet (x1 : Int32) (z : zz_M) : Option Int32 := zz_b1 (mX11_in x1.toInt64 (0 : Int64) (((z.2.2.1 8) - (1 : Int32)).toInt64)) (fun r1 => zz_ck (zz_bool r1) (some r1))
theorem nX11_isSet_X11 : ∀ w ∈ wsX110, w ∈ wsX11_isSet := fun _ h => List.mem_cons_of_mem _ (List.mem_append_right _ (h))
theorem zdX11_isSet : yX11_isSet.cls = RX11 ∧ yX11_isSet.cls ≠ "java/lang/invoke/MethodHandle" ∧ yX11_isSet.cls ≠ "java/lang/invoke/VarHandle" ∧ (parseMethodDescriptor yX11_isSet.desc).map (fun d => d.parameters.length) = some 1 := by decide +kernel
set_option maxHeartbeats 4000000 in
set_option maxRecDepth 100000 in
theorem zX11_isSet (l : Launch) (D : va_G) (y : Nat → ClassId) (a : Nat → Nat) (sz : Nat) (x1 : Int32) (z : zz_M) {r : Int32} (hm : mX11_isSet x1 z = some r) : Met l yX11_isSet wsX11_isSet { frames := 1, cells := 0, slots := 0, locals := 25 } (zz_Pc D y (wR y a z) sz [.ref (a 0), .int x1]) (zz_Qi D y (wR y a) (va_A (wR y a z) sz) r z) 0 0 (va_A (wR y a z) sz) := by
  refine Met.ofW (cc := cX11_isSet) (maxL := 2) (ret := (some .boolean)) (by decide) rfl ?_
  intro p e s m args below meth c s₁ B hml hv
  obtain ⟨rfl, hsz, hP, hK, hD0, hN, hg⟩ := hv
  have hx := B.exec
  have hb := B.bytes
  have hr := B.returns
  have hts := atoms_spec (ws := wsX11_isSet) B.pre
  have hown : s.vm.findClass RX11 = some m.cls := findClass_of_methodNamed B.named
  have hlocks := B.notSynchronized
  clear B
  subst hsz
  have hD := hD0.self (sz := s.heap.size)
  generalize hAe : va_A (wR y a z) s.heap.size = A at hD hg ⊢
  have hA : ∀ q : Nat, s.heap.size ≤ q → A q := fun q h => by rw [← hAe]; exact Or.inr h
  clear hAe hD0
  have hl := lv_entry ([.ref (a 0), .int x1]) (n := 2) (Nat.le_of_ble_eq_true rfl)
  rw [lg_entry_eq]
  generalize (lg_sl ([.ref (a 0), .int x1]) ++ List.replicate (2 - (lg_sl ([.ref (a 0), .int x1])).length) Slot.unset).toArray = ls at hl ⊢
  replace hl : lv_has ls 2 [(0, .ref (a 0)), (1, .int x1)] := hl
  refine zz_go (w := wR y a) hP hD va_S.rf hl (fun G hG => ?_)
  clear hP hD hl ls
  rw [hG]
  intro H locs ls hP hD hS hl
  unfold mX11_isSet at hm
  refine lv_iload_n hx hb dX11_isSet_0 rfl (lv_at hl 1 rfl) ?_
  refine lv_i2l hx hb dX11_isSet_1 rfl ?_
  refine lv_lconst (v := (0 : Int64)) hx hb dX11_isSet_2 (by decide) ?_
  refine lv_aload_n hx hb dX11_isSet_3 rfl (lv_at hl 0 rfl) ?_
  refine va_get (D := D) (ci := 11) (v := .int (z.2.2.1 8)) (C := RX11) (T := TX11) (N := 35) hx hb hts nX11_isSet_X11 hown hK hP 0 (wR_0 y a z) rfl 8 (by decide) (hts (.fieldLink RX11 82 "WorksDeskModel" "setMany" "I") (List.mem_of_getElem? (i := 1) rfl)) (fun _ h9 => h9) rfl dX11_isSet_4 ?_
  refine lv_iconst (v := (1 : Int32)) hx hb dX11_isSet_7 (by decide) ?_
  refine lv_isub hx hb dX11_isSet_8 ?_
  refine lv_i2l hx hb dX11_isSet_9 rfl ?_
  obtain ⟨r1, h2, hm⟩ := zz_b1_some hm
  refine zz_calli (zz_runS (w := wR y a) (As := [.long x1.toInt64, .long (0 : Int64), .long (((z.2.2.1 8) - (1 : Int32)).toInt64)]) (rest := []) ⟨hx, hb, hml, hown, hts⟩ (zX11_in l D y a H.size x1.toInt64 (0 : Int64) (((z.2.2.1 8) - (1 : Int32)).toInt64) z h2) (va_cwS 3 hts gX11_isSet_X11_in rfl rfl rfl zdX11_in ⟨Nat.le_of_ble_eq_true rfl, Nat.le_of_ble_eq_true rfl⟩) hK hN hg hP hD hS hA rfl hl.1 rfl (Nat.le_of_ble_eq_true rfl) dX11_isSet_10 ⟨Nat.le_of_ble_eq_true rfl, Nat.le_of_ble_eq_true rfl⟩) hD hS hA (fun H locs hP hD hS => ?_)
  obtain ⟨c3, hm⟩ := zz_ck_some hm
  exact zz_zret hx hb hr hlocks c3 ⟨zz_some1 hm, rfl⟩ hP hK hD hS dX11_isSet_13
def mX11_decides_b65 (v1 : Int32) (v2 : Int32) (v3 : Int32) (z : zz_M) : Option (Int32 × zz_M) := zz_ck (zz_in (((5 : Int32) * v1) + (2 : Int32)) 30) (if (z.1 6 (((5 : Int32) * v1) + (2 : Int32)).toNatClampNeg) = (24 : Int32) then (some ((-2 : Int32), z)) else (zz_ck (zz_in (((5 : Int32) * v1) + (3 : Int32)) 30) (if (24 : Int32) ≤ (z.1 6 (((5 : Int32) * v1) + (3 : Int32)).toNatClampNeg) then (zz_ck (zz_in (((5 : Int32) * v1) + (3 : Int32)) 30) (zz_nm (zz_wI z 6 (((5 : Int32) * v1) + (3 : Int32)) v2) (fun z6 => zz_ck (zz_in (((5 : Int32) * v1) + (4 : Int32)) 30) (zz_nm (zz_wI z6 6 (((5 : Int32) * v1) + (4 : Int32)) v3) (fun z8 => zz_b1 (mX11_heldOf v1 v2 z8) (fun r9 => some (r9, z8))))))) else (some ((-3 : Int32), z)))))
def mX11_decides_b32 (z : zz_M) : Option (Int32 × zz_M) := some ((-1 : Int32), z)
def mX11_decides (x1 : Int32) (x2 : Int32) (x3 : Int32) (z : zz_M) : Option (Int32 × zz_M) := zz_nm (zz_sF z 19 (0 : Int32)) (fun z11 => zz_b1 (mX11_isSet x1 z11) (fun r12 => if r12 = (0 : Int32) then (mX11_decides_b32 z11) else (zz_b1 (mX11_isMonth x2) (fun r15 => if r15 = (0 : Int32) then (mX11_decides_b32 z11) else (zz_b1 (mX11_in x3.toInt64 (0 : Int64) (1000 : Int64)) (fun r18 => if r18 = (0 : Int32) then (mX11_decides_b32 z11) else (zz_ck (zz_in (((5 : Int32) * x1) + (2 : Int32)) 30) (if (24 : Int32) ≤ (z11.1 6 (((5 : Int32) * x1) + (2 : Int32)).toNatClampNeg) then (mX11_decides_b65 x1 x2 x3 z11) else (zz_ck (zz_in (((5 : Int32) * x1) + (2 : Int32)) 30) (if (z11.1 6 (((5 : Int32) * x1) + (2 : Int32)).toNatClampNeg) ≤ x2 then (mX11_decides_b65 x1 x2 x3 z11) else (some ((-1 : Int32), z11))))))))))))
theorem nX11_decides_X11 : ∀ w ∈ wsX110, w ∈ wsX11_decides := fun _ h => List.mem_cons_of_mem _ (List.mem_append_right _ (h))
theorem zdX11_decides : yX11_decides.cls = RX11 ∧ yX11_decides.cls ≠ "java/lang/invoke/MethodHandle" ∧ yX11_decides.cls ≠ "java/lang/invoke/VarHandle" ∧ (parseMethodDescriptor yX11_decides.desc).map (fun d => d.parameters.length) = some 3 := by decide +kernel
set_option maxHeartbeats 4000000 in
set_option maxRecDepth 100000 in
theorem zX11_decides (l : Launch) (D : va_G) (y : Nat → ClassId) (a : Nat → Nat) (sz : Nat) (x1 : Int32) (x2 : Int32) (x3 : Int32) (z : zz_M) {r : Int32} {zt : zz_M} (hm : mX11_decides x1 x2 x3 z = some (r, zt)) : Met l yX11_decides wsX11_decides { frames := 2, cells := 0, slots := 0, locals := 46 } (zz_Pc D y (wR y a z) sz [.ref (a 0), .int x1, .int x2, .int x3]) (zz_Qi D y (wR y a) (va_A (wR y a z) sz) r zt) 0 0 (va_A (wR y a z) sz) := by
  refine Met.ofW (cc := cX11_decides) (maxL := 4) (ret := (some .int)) (by decide) rfl ?_
  intro p e s m args below meth c s₁ B hml hv
  obtain ⟨rfl, hsz, hP, hK, hD0, hN, hg⟩ := hv
  have hx := B.exec
  have hb := B.bytes
  have hr := B.returns
  have hts := atoms_spec (ws := wsX11_decides) B.pre
  have hown : s.vm.findClass RX11 = some m.cls := findClass_of_methodNamed B.named
  have hlocks := B.notSynchronized
  clear B
  subst hsz
  have hD := hD0.self (sz := s.heap.size)
  generalize hAe : va_A (wR y a z) s.heap.size = A at hD hg ⊢
  have hA : ∀ q : Nat, s.heap.size ≤ q → A q := fun q h => by rw [← hAe]; exact Or.inr h
  clear hAe hD0
  have hl := lv_entry ([.ref (a 0), .int x1, .int x2, .int x3]) (n := 4) (Nat.le_of_ble_eq_true rfl)
  rw [lg_entry_eq]
  generalize (lg_sl ([.ref (a 0), .int x1, .int x2, .int x3]) ++ List.replicate (4 - (lg_sl ([.ref (a 0), .int x1, .int x2, .int x3])).length) Slot.unset).toArray = ls at hl ⊢
  replace hl : lv_has ls 4 [(0, .ref (a 0)), (1, .int x1), (2, .int x2), (3, .int x3)] := hl
  refine zz_go (w := wR y a) hP hD va_S.rf hl (fun G hG => ?_)
  clear hP hD hl ls
  have J65 : ∀ (v1 : Int32) (v2 : Int32) (v3 : Int32) (z : zz_M), mX11_decides_b65 v1 v2 v3 z = some (r, zt) → G 65 [(0, .ref (a 0)), (1, .int v1), (2, .int v2), (3, .int v3)] [] z := by
    intro v1 v2 v3 z hm
    rw [mX11_decides_b65] at hm
    rw [hG]
    intro H locs ls hP hD hS hl
    refine lv_aload_n hx hb dX11_decides_65 rfl (lv_at hl 0 rfl) ?_
    refine va_get (D := D) (ci := 11) (v := .ref (a 6)) (C := RX11) (T := TX11) (N := 35) hx hb hts nX11_decides_X11 hown hK hP 0 (wR_0 y a z) rfl 7 (by decide) (hts (.fieldLink RX11 25 "WorksDeskModel" "sets" "[I") (List.mem_of_getElem? (i := 3) rfl)) (fun _ h9 => h9) rfl dX11_decides_66 ?_
    refine lv_iconst (v := (5 : Int32)) hx hb dX11_decides_69 (by decide) ?_
    refine lv_iload_n hx hb dX11_decides_70 rfl (lv_at hl 1 rfl) ?_
    refine lv_imul hx hb dX11_decides_71 ?_
    refine lv_iconst (v := (2 : Int32)) hx hb dX11_decides_72 (by decide) ?_
    refine lv_iadd hx hb dX11_decides_73 ?_
    obtain ⟨c1, hm⟩ := zz_ck_some hm
    refine va_iald hx hb hK hP 6 0 (wR_6 y a z) rfl c1 dX11_decides_74 ?_
    refine lv_bipush (v := (24 : Int32)) hx hb dX11_decides_75 (by decide) ?_
    refine lv_icmp_ne (tgt := 83) hx hb dX11_decides_77 (by decide) (fun c2 => ?_) (fun c2 => ?_)
    · replace hm := zz_neg c2 hm
      refine lv_aload_n hx hb dX11_decides_83 rfl (lv_at hl 0 rfl) ?_
      refine va_get (D := D) (ci := 11) (v := .ref (a 6)) (C := RX11) (T := TX11) (N := 35) hx hb hts nX11_decides_X11 hown hK hP 0 (wR_0 y a z) rfl 7 (by decide) (hts (.fieldLink RX11 25 "WorksDeskModel" "sets" "[I") (List.mem_of_getElem? (i := 3) rfl)) (fun _ h9 => h9) rfl dX11_decides_84 ?_
      refine lv_iconst (v := (5 : Int32)) hx hb dX11_decides_87 (by decide) ?_
      refine lv_iload_n hx hb dX11_decides_88 rfl (lv_at hl 1 rfl) ?_
      refine lv_imul hx hb dX11_decides_89 ?_
      refine lv_iconst (v := (3 : Int32)) hx hb dX11_decides_90 (by decide) ?_
      refine lv_iadd hx hb dX11_decides_91 ?_
      obtain ⟨c3, hm⟩ := zz_ck_some hm
      refine va_iald hx hb hK hP 6 0 (wR_6 y a z) rfl c3 dX11_decides_92 ?_
      refine lv_bipush (v := (24 : Int32)) hx hb dX11_decides_93 (by decide) ?_
      refine lv_icmp_ge (tgt := 101) hx hb dX11_decides_95 (by decide) (fun c4 => ?_) (fun c4 => ?_)
      · replace hm := zz_pos c4 hm
        refine lv_aload_n hx hb dX11_decides_101 rfl (lv_at hl 0 rfl) ?_
        refine va_get (D := D) (ci := 11) (v := .ref (a 6)) (C := RX11) (T := TX11) (N := 35) hx hb hts nX11_decides_X11 hown hK hP 0 (wR_0 y a z) rfl 7 (by decide) (hts (.fieldLink RX11 25 "WorksDeskModel" "sets" "[I") (List.mem_of_getElem? (i := 3) rfl)) (fun _ h9 => h9) rfl dX11_decides_102 ?_
        refine lv_iconst (v := (5 : Int32)) hx hb dX11_decides_105 (by decide) ?_
        refine lv_iload_n hx hb dX11_decides_106 rfl (lv_at hl 1 rfl) ?_
        refine lv_imul hx hb dX11_decides_107 ?_
        refine lv_iconst (v := (3 : Int32)) hx hb dX11_decides_108 (by decide) ?_
        refine lv_iadd hx hb dX11_decides_109 ?_
        refine lv_iload_n hx hb dX11_decides_110 rfl (lv_at hl 2 rfl) ?_
        obtain ⟨c5, hm⟩ := zz_ck_some hm
        refine va_iast hx hb hK hP hD hS 6 0 (wR_6 y a z) rfl c5 dX11_decides_111 (fun H locs hP hD hS => ?_)
        obtain ⟨z6, hP, hD, hm⟩ := zz_up (w := wR y a) (wR_w6 y a z (((5 : Int32) * v1) + (3 : Int32)) v2) hP hD hm
        refine lv_aload_n hx hb dX11_decides_112 rfl (lv_at hl 0 rfl) ?_
        refine va_get (D := D) (ci := 11) (v := .ref (a 6)) (C := RX11) (T := TX11) (N := 35) hx hb hts nX11_decides_X11 hown hK hP 0 (wR_0 y a z6) rfl 7 (by decide) (hts (.fieldLink RX11 25 "WorksDeskModel" "sets" "[I") (List.mem_of_getElem? (i := 3) rfl)) (fun _ h9 => h9) rfl dX11_decides_113 ?_
        refine lv_iconst (v := (5 : Int32)) hx hb dX11_decides_116 (by decide) ?_
        refine lv_iload_n hx hb dX11_decides_117 rfl (lv_at hl 1 rfl) ?_
        refine lv_imul hx hb dX11_decides_118 ?_
        refine lv_iconst (v := (4 : Int32)) hx hb dX11_decides_119 (by decide) ?_
        refine lv_iadd hx hb dX11_decides_120 ?_
        refine lv_iload_n hx hb dX11_decides_121 rfl (lv_at hl 3 rfl) ?_
        obtain ⟨c7, hm⟩ := zz_ck_some hm
        refine va_iast hx hb hK hP hD hS 6 0 (wR_6 y a z6) rfl c7 dX11_decides_122 (fun H locs hP hD hS => ?_)
        obtain ⟨z8, hP, hD, hm⟩ := zz_up (w := wR y a) (wR_w6 y a z6 (((5 : Int32) * v1) + (4 : Int32)) v3) hP hD hm
        refine lv_aload_n hx hb dX11_decides_123 rfl (lv_at hl 0 rfl) ?_
        refine lv_iload_n hx hb dX11_decides_124 rfl (lv_at hl 1 rfl) ?_
        refine lv_iload_n hx hb dX11_decides_125 rfl (lv_at hl 2 rfl) ?_
        obtain ⟨r9, h10, hm⟩ := zz_b1_some hm
        refine zz_calli (zz_runV (w := wR y a) (As := [.int v1, .int v2]) (rest := []) ⟨hx, hb, hml, hown, hts⟩ (zX11_heldOf l D y a H.size v1 v2 z8 h10) (cwV 2 hts gX11_decides_X11_heldOf rfl rfl rfl zdX11_heldOf ⟨Nat.le_of_ble_eq_true rfl, Nat.le_of_ble_eq_true rfl⟩) hK hN hg hP hD hS hA 0 (wR_0 y a z8) rfl rfl hl.1 rfl (Nat.le_of_ble_eq_true rfl) dX11_decides_126 ⟨Nat.le_of_ble_eq_true rfl, Nat.le_of_ble_eq_true rfl⟩) hD hS hA (fun H locs hP hD hS => ?_)
        exact zz_iret hx hb hr hlocks (zz_some2 hm) hP hK hD hS dX11_decides_129
      · replace hm := zz_neg c4 hm
        refine lv_bipush (v := (-3 : Int32)) hx hb dX11_decides_98 (by decide) ?_
        exact zz_iret hx hb hr hlocks (zz_some2 hm) hP hK hD hS dX11_decides_100
    · replace hm := zz_pos c2 hm
      refine lv_bipush (v := (-2 : Int32)) hx hb dX11_decides_80 (by decide) ?_
      exact zz_iret hx hb hr hlocks (zz_some2 hm) hP hK hD hS dX11_decides_82
  have J32 : ∀ (z : zz_M), mX11_decides_b32 z = some (r, zt) → G 32 [] [] z := by
    intro z hm
    rw [mX11_decides_b32] at hm
    rw [hG]
    intro H locs ls hP hD hS hl
    refine lv_iconst (v := (-1 : Int32)) hx hb dX11_decides_32 (by decide) ?_
    exact zz_iret hx hb hr hlocks (zz_some2 hm) hP hK hD hS dX11_decides_33
  rw [hG]
  intro H locs ls hP hD hS hl
  unfold mX11_decides at hm
  refine lv_aload_n hx hb dX11_decides_0 rfl (lv_at hl 0 rfl) ?_
  refine lv_iconst (v := (0 : Int32)) hx hb dX11_decides_1 (by decide) ?_
  refine va_put (D := D) (ci := 11) (v := .int (0 : Int32)) (ty := .int) (C := RX11) (T := TX11) (N := 35) hx hb hts nX11_decides_X11 tyX11 tyX11_ok nmX11 hown hK hP hD hS 0 (wR_0 y a z) rfl 19 (by decide) (hts (.fieldLink RX11 97 "WorksDeskModel" "thrown" "I") (List.mem_of_getElem? (i := 1) rfl)) (fun _ h9 => h9) rfl (tyX11_ok 19 (by decide)) rfl rfl (Nat.le_of_ble_eq_true rfl) dX11_decides_2 (fun H locs hP hD hS => ?_)
  obtain ⟨z11, hP, hD, hm⟩ := zz_up (w := wR y a) (wR_f19 y a z (0 : Int32)) hP hD hm
  refine lv_aload_n hx hb dX11_decides_5 rfl (lv_at hl 0 rfl) ?_
  refine lv_iload_n hx hb dX11_decides_6 rfl (lv_at hl 1 rfl) ?_
  obtain ⟨r12, h13, hm⟩ := zz_b1_some hm
  refine zz_calli (zz_runV (w := wR y a) (As := [.int x1]) (rest := []) ⟨hx, hb, hml, hown, hts⟩ (zX11_isSet l D y a H.size x1 z11 h13) (cwV 1 hts gX11_decides_X11_isSet rfl rfl rfl zdX11_isSet ⟨Nat.le_of_ble_eq_true rfl, Nat.le_of_ble_eq_true rfl⟩) hK hN hg hP hD hS hA 0 (wR_0 y a z11) rfl rfl hl.1 rfl (Nat.le_of_ble_eq_true rfl) dX11_decides_7 ⟨Nat.le_of_ble_eq_true rfl, Nat.le_of_ble_eq_true rfl⟩) hD hS hA (fun H locs hP hD hS => ?_)
  refine lv_if_eq (tgt := 32) hx hb dX11_decides_10 (by decide) (fun c14 => ?_) (fun c14 => ?_)
  · replace hm := zz_pos c14 hm
    have j := J32 z11 hm
    rw [hG] at j
    exact j H locs ls hP hD hS (lv_sub hl [] rfl)
  · replace hm := zz_neg c14 hm
    refine lv_iload_n hx hb dX11_decides_13 rfl (lv_at hl 2 rfl) ?_
    obtain ⟨r15, h16, hm⟩ := zz_b1_some hm
    refine zz_calli (zz_runS (w := wR y a) (As := [.int x2]) (rest := []) ⟨hx, hb, hml, hown, hts⟩ (zX11_isMonth l D y a H.size x2 z11 h16) (va_cwS 1 hts gX11_decides_X11_isMonth rfl rfl rfl zdX11_isMonth ⟨Nat.le_of_ble_eq_true rfl, Nat.le_of_ble_eq_true rfl⟩) hK hN hg hP hD hS hA rfl hl.1 rfl (Nat.le_of_ble_eq_true rfl) dX11_decides_14 ⟨Nat.le_of_ble_eq_true rfl, Nat.le_of_ble_eq_true rfl⟩) hD hS hA (fun H locs hP hD hS => ?_)
    refine lv_if_eq (tgt := 32) hx hb dX11_decides_17 (by decide) (fun c17 => ?_) (fun c17 => ?_)
    · replace hm := zz_pos c17 hm
      have j := J32 z11 hm
      rw [hG] at j
      exact j H locs ls hP hD hS (lv_sub hl [] rfl)
    · replace hm := zz_neg c17 hm
      refine lv_iload_n hx hb dX11_decides_20 rfl (lv_at hl 3 rfl) ?_
      refine lv_i2l hx hb dX11_decides_21 rfl ?_
      refine lv_lconst (v := (0 : Int64)) hx hb dX11_decides_22 (by decide) ?_
      refine lv_ldc2 (v := (1000 : Int64)) hx hb hown (hts (.constantLong RX11 195 (1000)) (List.mem_of_getElem? (i := 2) rfl)) dX11_decides_23 ?_
      obtain ⟨r18, h19, hm⟩ := zz_b1_some hm
      refine zz_calli (zz_runS (w := wR y a) (As := [.long x3.toInt64, .long (0 : Int64), .long (1000 : Int64)]) (rest := []) ⟨hx, hb, hml, hown, hts⟩ (zX11_in l D y a H.size x3.toInt64 (0 : Int64) (1000 : Int64) z11 h19) (va_cwS 3 hts gX11_decides_X11_in rfl rfl rfl zdX11_in ⟨Nat.le_of_ble_eq_true rfl, Nat.le_of_ble_eq_true rfl⟩) hK hN hg hP hD hS hA rfl hl.1 rfl (Nat.le_of_ble_eq_true rfl) dX11_decides_26 ⟨Nat.le_of_ble_eq_true rfl, Nat.le_of_ble_eq_true rfl⟩) hD hS hA (fun H locs hP hD hS => ?_)
      refine lv_if_ne (tgt := 34) hx hb dX11_decides_29 (by decide) (fun c20 => ?_) (fun c20 => ?_)
      · replace hm := zz_neg c20 hm
        refine lv_aload_n hx hb dX11_decides_34 rfl (lv_at hl 0 rfl) ?_
        refine va_get (D := D) (ci := 11) (v := .ref (a 6)) (C := RX11) (T := TX11) (N := 35) hx hb hts nX11_decides_X11 hown hK hP 0 (wR_0 y a z11) rfl 7 (by decide) (hts (.fieldLink RX11 25 "WorksDeskModel" "sets" "[I") (List.mem_of_getElem? (i := 3) rfl)) (fun _ h9 => h9) rfl dX11_decides_35 ?_
        refine lv_iconst (v := (5 : Int32)) hx hb dX11_decides_38 (by decide) ?_
        refine lv_iload_n hx hb dX11_decides_39 rfl (lv_at hl 1 rfl) ?_
        refine lv_imul hx hb dX11_decides_40 ?_
        refine lv_iconst (v := (2 : Int32)) hx hb dX11_decides_41 (by decide) ?_
        refine lv_iadd hx hb dX11_decides_42 ?_
        obtain ⟨c21, hm⟩ := zz_ck_some hm
        refine va_iald hx hb hK hP 6 0 (wR_6 y a z11) rfl c21 dX11_decides_43 ?_
        refine lv_bipush (v := (24 : Int32)) hx hb dX11_decides_44 (by decide) ?_
        refine lv_icmp_ge (tgt := 65) hx hb dX11_decides_46 (by decide) (fun c22 => ?_) (fun c22 => ?_)
        · replace hm := zz_pos c22 hm
          have j := J65 x1 x2 x3 z11 hm
          rw [hG] at j
          exact j H locs ls hP hD hS (lv_sub hl [0, 1, 2, 3] rfl)
        · replace hm := zz_neg c22 hm
          refine lv_iload_n hx hb dX11_decides_49 rfl (lv_at hl 2 rfl) ?_
          refine lv_aload_n hx hb dX11_decides_50 rfl (lv_at hl 0 rfl) ?_
          refine va_get (D := D) (ci := 11) (v := .ref (a 6)) (C := RX11) (T := TX11) (N := 35) hx hb hts nX11_decides_X11 hown hK hP 0 (wR_0 y a z11) rfl 7 (by decide) (hts (.fieldLink RX11 25 "WorksDeskModel" "sets" "[I") (List.mem_of_getElem? (i := 3) rfl)) (fun _ h9 => h9) rfl dX11_decides_51 ?_
          refine lv_iconst (v := (5 : Int32)) hx hb dX11_decides_54 (by decide) ?_
          refine lv_iload_n hx hb dX11_decides_55 rfl (lv_at hl 1 rfl) ?_
          refine lv_imul hx hb dX11_decides_56 ?_
          refine lv_iconst (v := (2 : Int32)) hx hb dX11_decides_57 (by decide) ?_
          refine lv_iadd hx hb dX11_decides_58 ?_
          obtain ⟨c23, hm⟩ := zz_ck_some hm
          refine va_iald hx hb hK hP 6 0 (wR_6 y a z11) rfl c23 dX11_decides_59 ?_
          refine lv_icmp_ge (tgt := 65) hx hb dX11_decides_60 (by decide) (fun c24 => ?_) (fun c24 => ?_)
          · replace hm := zz_pos c24 hm
            have j := J65 x1 x2 x3 z11 hm
            rw [hG] at j
            exact j H locs ls hP hD hS (lv_sub hl [0, 1, 2, 3] rfl)
          · replace hm := zz_neg c24 hm
            refine lv_iconst (v := (-1 : Int32)) hx hb dX11_decides_63 (by decide) ?_
            exact zz_iret hx hb hr hlocks (zz_some2 hm) hP hK hD hS dX11_decides_64
      · replace hm := zz_pos c20 hm
        have j := J32 z11 hm
        rw [hG] at j
        exact j H locs ls hP hD hS (lv_sub hl [] rfl)
def mX11_openDisputes_b48 (z : zz_M) (k4 : Int32 → Int32 → Option Int32) (v2 : Int32) (t0 : Int32) (t1 : Int32) : Option Int32 := zz_nm (t1 + t0) (fun n1 => zz_nm (v2 + (1 : Int32)) (fun n2 => k4 n1 n2))
def mX11_openDisputes_b47 (z : zz_M) (k4 : Int32 → Int32 → Option Int32) (v2 : Int32) (t0 : Int32) : Option Int32 := mX11_openDisputes_b48 z k4 v2 (0 : Int32) t0
def mX11_openDisputes_b4 (z : zz_M) : Nat → Int32 → Int32 → Option Int32
  | 0, _, _ => none
  | n + 1, v1, v2 => if (z.2.2.1 8) ≤ v2 then (some v1) else (zz_ck (zz_in (((5 : Int32) * v2) + (2 : Int32)) 30) (if (24 : Int32) ≤ (z.1 6 (((5 : Int32) * v2) + (2 : Int32)).toNatClampNeg) then (mX11_openDisputes_b47 z (mX11_openDisputes_b4 z n) v2 v1) else (zz_ck (zz_in (((5 : Int32) * v2) + (3 : Int32)) 30) (if (z.1 6 (((5 : Int32) * v2) + (3 : Int32)).toNatClampNeg) = (24 : Int32) then (mX11_openDisputes_b48 z (mX11_openDisputes_b4 z n) v2 (1 : Int32) v1) else (mX11_openDisputes_b47 z (mX11_openDisputes_b4 z n) v2 v1)))))
def mX11_openDisputes (z : zz_M) : Option Int32 := mX11_openDisputes_b4 z zz_N (0 : Int32) (0 : Int32)
theorem nX11_openDisputes_X11 : ∀ w ∈ wsX110, w ∈ wsX11_openDisputes := fun _ h => List.mem_cons_of_mem _ (List.mem_append_right _ (h))
theorem zdX11_openDisputes : yX11_openDisputes.cls = RX11 ∧ yX11_openDisputes.cls ≠ "java/lang/invoke/MethodHandle" ∧ yX11_openDisputes.cls ≠ "java/lang/invoke/VarHandle" ∧ (parseMethodDescriptor yX11_openDisputes.desc).map (fun d => d.parameters.length) = some 0 := by decide +kernel
set_option maxHeartbeats 4000000 in
set_option maxRecDepth 100000 in
theorem zX11_openDisputes (l : Launch) (D : va_G) (y : Nat → ClassId) (a : Nat → Nat) (sz : Nat) (z : zz_M) {r : Int32} (hm : mX11_openDisputes z = some r) : Met l yX11_openDisputes wsX11_openDisputes { frames := 0, cells := 0, slots := 0, locals := 0 } (zz_Pc D y (wR y a z) sz [.ref (a 0)]) (zz_Qi D y (wR y a) (va_A (wR y a z) sz) r z) 0 0 (va_A (wR y a z) sz) := by
  refine Met.ofW (cc := cX11_openDisputes) (maxL := 3) (ret := (some .int)) (by decide) rfl ?_
  intro p e s m args below meth c s₁ B hml hv
  obtain ⟨rfl, hsz, hP, hK, hD0, hN, hg⟩ := hv
  have hx := B.exec
  have hb := B.bytes
  have hr := B.returns
  have hts := atoms_spec (ws := wsX11_openDisputes) B.pre
  have hown : s.vm.findClass RX11 = some m.cls := findClass_of_methodNamed B.named
  have hlocks := B.notSynchronized
  clear B
  subst hsz
  have hD := hD0.self (sz := s.heap.size)
  generalize hAe : va_A (wR y a z) s.heap.size = A at hD hg ⊢
  have hA : ∀ q : Nat, s.heap.size ≤ q → A q := fun q h => by rw [← hAe]; exact Or.inr h
  clear hAe hD0
  have hl := lv_entry ([.ref (a 0)]) (n := 3) (Nat.le_of_ble_eq_true rfl)
  rw [lg_entry_eq]
  generalize (lg_sl ([.ref (a 0)]) ++ List.replicate (3 - (lg_sl ([.ref (a 0)])).length) Slot.unset).toArray = ls at hl ⊢
  replace hl : lv_has ls 3 [(0, .ref (a 0))] := hl
  refine zz_go (w := wR y a) hP hD va_S.rf hl (fun G hG => ?_)
  clear hP hD hl ls
  have J48 : ∀ (k4 : Int32 → Int32 → Option Int32) (K4 : ∀ (v1 : Int32) (v2 : Int32), k4 v1 v2 = some r → G 4 [(0, .ref (a 0)), (1, .int v1), (2, .int v2)] [] z) (v2 : Int32) (t0 : Int32) (t1 : Int32), mX11_openDisputes_b48 z k4 v2 t0 t1 = some r → G 48 [(0, .ref (a 0)), (2, .int v2)] [.int t0, .int t1] z := by
    intro k4 K4 v2 t0 t1 hm
    rw [mX11_openDisputes_b48] at hm
    rw [hG]
    intro H locs ls hP hD hS hl
    refine lv_iadd hx hb dX11_openDisputes_48 ?_
    refine lv_topi (fun n1 en1 => ?_)
    replace hm := zz_nm_some en1 hm
    refine lv_istore_n (lv' := [(1, .int n1), (0, .ref (a 0)), (2, .int v2)]) hx hb dX11_openDisputes_49 rfl hl (by decide) rfl (fun ls hl => ?_)
    obtain ⟨n2, en2⟩ : ∃ q : Int32, q = v2 + (1 : Int32) := ⟨_, rfl⟩
    replace hm := zz_nm_some en2 hm
    refine lv_iinc (v := n2) (lv' := [(2, .int n2), (1, .int n1), (0, .ref (a 0))]) hx hb dX11_openDisputes_50 hl (k := 2) rfl (by rw [en2]; rfl) (by decide) rfl (fun ls hl => ?_)
    refine lv_goto (tgt := 4) hx hb dX11_openDisputes_53 (by decide) ?_
    have j := K4 n1 n2 hm
    rw [hG] at j
    exact j H locs ls hP hD hS (lv_sub hl [2, 1, 0] rfl)
  have J47 : ∀ (k4 : Int32 → Int32 → Option Int32) (K4 : ∀ (v1 : Int32) (v2 : Int32), k4 v1 v2 = some r → G 4 [(0, .ref (a 0)), (1, .int v1), (2, .int v2)] [] z) (v2 : Int32) (t0 : Int32), mX11_openDisputes_b47 z k4 v2 t0 = some r → G 47 [(0, .ref (a 0)), (2, .int v2)] [.int t0] z := by
    intro k4 K4 v2 t0 hm
    rw [mX11_openDisputes_b47] at hm
    rw [hG]
    intro H locs ls hP hD hS hl
    refine lv_iconst (v := (0 : Int32)) hx hb dX11_openDisputes_47 (by decide) ?_
    have j := J48 k4 K4 v2 (0 : Int32) t0 hm
    rw [hG] at j
    exact j H locs ls hP hD hS (lv_sub hl [0, 1] rfl)
  have J4 : ∀ (n : Nat) (v1 : Int32) (v2 : Int32), mX11_openDisputes_b4 z n v1 v2 = some r → G 4 [(0, .ref (a 0)), (1, .int v1), (2, .int v2)] [] z := by
    intro n
    induction n with
    | zero =>
      intro v1 v2 hm
      exact zz_none hm
    | succ n ih =>
      intro v1 v2 hm
      rw [mX11_openDisputes_b4] at hm
      rw [hG]
      intro H locs ls hP hD hS hl
      refine lv_iload_n hx hb dX11_openDisputes_4 rfl (lv_at hl 2 rfl) ?_
      refine lv_aload_n hx hb dX11_openDisputes_5 rfl (lv_at hl 0 rfl) ?_
      refine va_get (D := D) (ci := 11) (v := .int (z.2.2.1 8)) (C := RX11) (T := TX11) (N := 35) hx hb hts nX11_openDisputes_X11 hown hK hP 0 (wR_0 y a z) rfl 8 (by decide) (hts (.fieldLink RX11 82 "WorksDeskModel" "setMany" "I") (List.mem_of_getElem? (i := 1) rfl)) (fun _ h9 => h9) rfl dX11_openDisputes_6 ?_
      refine lv_icmp_ge (tgt := 56) hx hb dX11_openDisputes_9 (by decide) (fun c3 => ?_) (fun c3 => ?_)
      · replace hm := zz_pos c3 hm
        refine lv_iload_n hx hb dX11_openDisputes_56 rfl (lv_at hl 1 rfl) ?_
        exact zz_iret hx hb hr hlocks ⟨zz_some1 hm, rfl⟩ hP hK hD hS dX11_openDisputes_57
      · replace hm := zz_neg c3 hm
        refine lv_iload_n hx hb dX11_openDisputes_12 rfl (lv_at hl 1 rfl) ?_
        refine lv_aload_n hx hb dX11_openDisputes_13 rfl (lv_at hl 0 rfl) ?_
        refine va_get (D := D) (ci := 11) (v := .ref (a 6)) (C := RX11) (T := TX11) (N := 35) hx hb hts nX11_openDisputes_X11 hown hK hP 0 (wR_0 y a z) rfl 7 (by decide) (hts (.fieldLink RX11 25 "WorksDeskModel" "sets" "[I") (List.mem_of_getElem? (i := 2) rfl)) (fun _ h9 => h9) rfl dX11_openDisputes_14 ?_
        refine lv_iconst (v := (5 : Int32)) hx hb dX11_openDisputes_17 (by decide) ?_
        refine lv_iload_n hx hb dX11_openDisputes_18 rfl (lv_at hl 2 rfl) ?_
        refine lv_imul hx hb dX11_openDisputes_19 ?_
        refine lv_iconst (v := (2 : Int32)) hx hb dX11_openDisputes_20 (by decide) ?_
        refine lv_iadd hx hb dX11_openDisputes_21 ?_
        obtain ⟨c4, hm⟩ := zz_ck_some hm
        refine va_iald hx hb hK hP 6 0 (wR_6 y a z) rfl c4 dX11_openDisputes_22 ?_
        refine lv_bipush (v := (24 : Int32)) hx hb dX11_openDisputes_23 (by decide) ?_
        refine lv_icmp_ge (tgt := 47) hx hb dX11_openDisputes_25 (by decide) (fun c5 => ?_) (fun c5 => ?_)
        · replace hm := zz_pos c5 hm
          have j := J47 (mX11_openDisputes_b4 z n) ih v2 v1 hm
          rw [hG] at j
          exact j H locs ls hP hD hS (lv_sub hl [0, 2] rfl)
        · replace hm := zz_neg c5 hm
          refine lv_aload_n hx hb dX11_openDisputes_28 rfl (lv_at hl 0 rfl) ?_
          refine va_get (D := D) (ci := 11) (v := .ref (a 6)) (C := RX11) (T := TX11) (N := 35) hx hb hts nX11_openDisputes_X11 hown hK hP 0 (wR_0 y a z) rfl 7 (by decide) (hts (.fieldLink RX11 25 "WorksDeskModel" "sets" "[I") (List.mem_of_getElem? (i := 2) rfl)) (fun _ h9 => h9) rfl dX11_openDisputes_29 ?_
          refine lv_iconst (v := (5 : Int32)) hx hb dX11_openDisputes_32 (by decide) ?_
          refine lv_iload_n hx hb dX11_openDisputes_33 rfl (lv_at hl 2 rfl) ?_
          refine lv_imul hx hb dX11_openDisputes_34 ?_
          refine lv_iconst (v := (3 : Int32)) hx hb dX11_openDisputes_35 (by decide) ?_
          refine lv_iadd hx hb dX11_openDisputes_36 ?_
          obtain ⟨c6, hm⟩ := zz_ck_some hm
          refine va_iald hx hb hK hP 6 0 (wR_6 y a z) rfl c6 dX11_openDisputes_37 ?_
          refine lv_bipush (v := (24 : Int32)) hx hb dX11_openDisputes_38 (by decide) ?_
          refine lv_icmp_ne (tgt := 47) hx hb dX11_openDisputes_40 (by decide) (fun c7 => ?_) (fun c7 => ?_)
          · replace hm := zz_neg c7 hm
            have j := J47 (mX11_openDisputes_b4 z n) ih v2 v1 hm
            rw [hG] at j
            exact j H locs ls hP hD hS (lv_sub hl [0, 2] rfl)
          · replace hm := zz_pos c7 hm
            refine lv_iconst (v := (1 : Int32)) hx hb dX11_openDisputes_43 (by decide) ?_
            refine lv_goto (tgt := 48) hx hb dX11_openDisputes_44 (by decide) ?_
            have j := J48 (mX11_openDisputes_b4 z n) ih v2 (1 : Int32) v1 hm
            rw [hG] at j
            exact j H locs ls hP hD hS (lv_sub hl [0, 2] rfl)
  rw [hG]
  intro H locs ls hP hD hS hl
  unfold mX11_openDisputes at hm
  refine lv_iconst (v := (0 : Int32)) hx hb dX11_openDisputes_0 (by decide) ?_
  refine lv_istore_n (lv' := [(1, .int (0 : Int32)), (0, .ref (a 0))]) hx hb dX11_openDisputes_1 rfl hl (by decide) rfl (fun ls hl => ?_)
  refine lv_iconst (v := (0 : Int32)) hx hb dX11_openDisputes_2 (by decide) ?_
  refine lv_istore_n (lv' := [(2, .int (0 : Int32)), (1, .int (0 : Int32)), (0, .ref (a 0))]) hx hb dX11_openDisputes_3 rfl hl (by decide) rfl (fun ls hl => ?_)
  have j := J4 zz_N (0 : Int32) (0 : Int32) hm
  rw [hG] at j
  exact j H locs ls hP hD hS (lv_sub hl [2, 1, 0] rfl)
def mX11_disputes_b32 (z : zz_M) : Option (Int32 × zz_M) := some ((-1 : Int32), z)
def mX11_disputes (x1 : Int32) (x2 : Int32) (z : zz_M) : Option (Int32 × zz_M) := zz_nm (zz_sF z 19 (0 : Int32)) (fun z1 => zz_b1 (mX11_isSet x1 z1) (fun r2 => if r2 = (0 : Int32) then (mX11_disputes_b32 z1) else (zz_b1 (mX11_isMonth x2) (fun r5 => if r5 = (0 : Int32) then (mX11_disputes_b32 z1) else (zz_ck (zz_in ((5 : Int32) * x1) 30) (if (z1.1 6 ((5 : Int32) * x1).toNatClampNeg) ≤ x2 then (zz_ck (zz_in (((5 : Int32) * x1) + (2 : Int32)) 30) (if (24 : Int32) ≤ (z1.1 6 (((5 : Int32) * x1) + (2 : Int32)).toNatClampNeg) then (zz_ck (zz_in (((5 : Int32) * x1) + (2 : Int32)) 30) (zz_nm (zz_wI z1 6 (((5 : Int32) * x1) + (2 : Int32)) x2) (fun z13 => zz_b1 (mX11_openDisputes z13) (fun r14 => some (r14, z13))))) else (some ((-2 : Int32), z1)))) else (mX11_disputes_b32 z1)))))))
theorem nX11_disputes_X11 : ∀ w ∈ wsX110, w ∈ wsX11_disputes := fun _ h => List.mem_cons_of_mem _ (List.mem_append_right _ (h))
theorem zdX11_disputes : yX11_disputes.cls = RX11 ∧ yX11_disputes.cls ≠ "java/lang/invoke/MethodHandle" ∧ yX11_disputes.cls ≠ "java/lang/invoke/VarHandle" ∧ (parseMethodDescriptor yX11_disputes.desc).map (fun d => d.parameters.length) = some 2 := by decide +kernel
set_option maxHeartbeats 4000000 in
set_option maxRecDepth 100000 in
theorem zX11_disputes (l : Launch) (D : va_G) (y : Nat → ClassId) (a : Nat → Nat) (sz : Nat) (x1 : Int32) (x2 : Int32) (z : zz_M) {r : Int32} {zt : zz_M} (hm : mX11_disputes x1 x2 z = some (r, zt)) : Met l yX11_disputes wsX11_disputes { frames := 2, cells := 0, slots := 0, locals := 46 } (zz_Pc D y (wR y a z) sz [.ref (a 0), .int x1, .int x2]) (zz_Qi D y (wR y a) (va_A (wR y a z) sz) r zt) 0 0 (va_A (wR y a z) sz) := by
  refine Met.ofW (cc := cX11_disputes) (maxL := 3) (ret := (some .int)) (by decide) rfl ?_
  intro p e s m args below meth c s₁ B hml hv
  obtain ⟨rfl, hsz, hP, hK, hD0, hN, hg⟩ := hv
  have hx := B.exec
  have hb := B.bytes
  have hr := B.returns
  have hts := atoms_spec (ws := wsX11_disputes) B.pre
  have hown : s.vm.findClass RX11 = some m.cls := findClass_of_methodNamed B.named
  have hlocks := B.notSynchronized
  clear B
  subst hsz
  have hD := hD0.self (sz := s.heap.size)
  generalize hAe : va_A (wR y a z) s.heap.size = A at hD hg ⊢
  have hA : ∀ q : Nat, s.heap.size ≤ q → A q := fun q h => by rw [← hAe]; exact Or.inr h
  clear hAe hD0
  have hl := lv_entry ([.ref (a 0), .int x1, .int x2]) (n := 3) (Nat.le_of_ble_eq_true rfl)
  rw [lg_entry_eq]
  generalize (lg_sl ([.ref (a 0), .int x1, .int x2]) ++ List.replicate (3 - (lg_sl ([.ref (a 0), .int x1, .int x2])).length) Slot.unset).toArray = ls at hl ⊢
  replace hl : lv_has ls 3 [(0, .ref (a 0)), (1, .int x1), (2, .int x2)] := hl
  refine zz_go (w := wR y a) hP hD va_S.rf hl (fun G hG => ?_)
  clear hP hD hl ls
  have J32 : ∀ (z : zz_M), mX11_disputes_b32 z = some (r, zt) → G 32 [] [] z := by
    intro z hm
    rw [mX11_disputes_b32] at hm
    rw [hG]
    intro H locs ls hP hD hS hl
    refine lv_iconst (v := (-1 : Int32)) hx hb dX11_disputes_32 (by decide) ?_
    exact zz_iret hx hb hr hlocks (zz_some2 hm) hP hK hD hS dX11_disputes_33
  rw [hG]
  intro H locs ls hP hD hS hl
  unfold mX11_disputes at hm
  refine lv_aload_n hx hb dX11_disputes_0 rfl (lv_at hl 0 rfl) ?_
  refine lv_iconst (v := (0 : Int32)) hx hb dX11_disputes_1 (by decide) ?_
  refine va_put (D := D) (ci := 11) (v := .int (0 : Int32)) (ty := .int) (C := RX11) (T := TX11) (N := 35) hx hb hts nX11_disputes_X11 tyX11 tyX11_ok nmX11 hown hK hP hD hS 0 (wR_0 y a z) rfl 19 (by decide) (hts (.fieldLink RX11 97 "WorksDeskModel" "thrown" "I") (List.mem_of_getElem? (i := 1) rfl)) (fun _ h9 => h9) rfl (tyX11_ok 19 (by decide)) rfl rfl (Nat.le_of_ble_eq_true rfl) dX11_disputes_2 (fun H locs hP hD hS => ?_)
  obtain ⟨z1, hP, hD, hm⟩ := zz_up (w := wR y a) (wR_f19 y a z (0 : Int32)) hP hD hm
  refine lv_aload_n hx hb dX11_disputes_5 rfl (lv_at hl 0 rfl) ?_
  refine lv_iload_n hx hb dX11_disputes_6 rfl (lv_at hl 1 rfl) ?_
  obtain ⟨r2, h3, hm⟩ := zz_b1_some hm
  refine zz_calli (zz_runV (w := wR y a) (As := [.int x1]) (rest := []) ⟨hx, hb, hml, hown, hts⟩ (zX11_isSet l D y a H.size x1 z1 h3) (cwV 1 hts gX11_disputes_X11_isSet rfl rfl rfl zdX11_isSet ⟨Nat.le_of_ble_eq_true rfl, Nat.le_of_ble_eq_true rfl⟩) hK hN hg hP hD hS hA 0 (wR_0 y a z1) rfl rfl hl.1 rfl (Nat.le_of_ble_eq_true rfl) dX11_disputes_7 ⟨Nat.le_of_ble_eq_true rfl, Nat.le_of_ble_eq_true rfl⟩) hD hS hA (fun H locs hP hD hS => ?_)
  refine lv_if_eq (tgt := 32) hx hb dX11_disputes_10 (by decide) (fun c4 => ?_) (fun c4 => ?_)
  · replace hm := zz_pos c4 hm
    have j := J32 z1 hm
    rw [hG] at j
    exact j H locs ls hP hD hS (lv_sub hl [] rfl)
  · replace hm := zz_neg c4 hm
    refine lv_iload_n hx hb dX11_disputes_13 rfl (lv_at hl 2 rfl) ?_
    obtain ⟨r5, h6, hm⟩ := zz_b1_some hm
    refine zz_calli (zz_runS (w := wR y a) (As := [.int x2]) (rest := []) ⟨hx, hb, hml, hown, hts⟩ (zX11_isMonth l D y a H.size x2 z1 h6) (va_cwS 1 hts gX11_disputes_X11_isMonth rfl rfl rfl zdX11_isMonth ⟨Nat.le_of_ble_eq_true rfl, Nat.le_of_ble_eq_true rfl⟩) hK hN hg hP hD hS hA rfl hl.1 rfl (Nat.le_of_ble_eq_true rfl) dX11_disputes_14 ⟨Nat.le_of_ble_eq_true rfl, Nat.le_of_ble_eq_true rfl⟩) hD hS hA (fun H locs hP hD hS => ?_)
    refine lv_if_eq (tgt := 32) hx hb dX11_disputes_17 (by decide) (fun c7 => ?_) (fun c7 => ?_)
    · replace hm := zz_pos c7 hm
      have j := J32 z1 hm
      rw [hG] at j
      exact j H locs ls hP hD hS (lv_sub hl [] rfl)
    · replace hm := zz_neg c7 hm
      refine lv_iload_n hx hb dX11_disputes_20 rfl (lv_at hl 2 rfl) ?_
      refine lv_aload_n hx hb dX11_disputes_21 rfl (lv_at hl 0 rfl) ?_
      refine va_get (D := D) (ci := 11) (v := .ref (a 6)) (C := RX11) (T := TX11) (N := 35) hx hb hts nX11_disputes_X11 hown hK hP 0 (wR_0 y a z1) rfl 7 (by decide) (hts (.fieldLink RX11 25 "WorksDeskModel" "sets" "[I") (List.mem_of_getElem? (i := 2) rfl)) (fun _ h9 => h9) rfl dX11_disputes_22 ?_
      refine lv_iconst (v := (5 : Int32)) hx hb dX11_disputes_25 (by decide) ?_
      refine lv_iload_n hx hb dX11_disputes_26 rfl (lv_at hl 1 rfl) ?_
      refine lv_imul hx hb dX11_disputes_27 ?_
      obtain ⟨c8, hm⟩ := zz_ck_some hm
      refine va_iald hx hb hK hP 6 0 (wR_6 y a z1) rfl c8 dX11_disputes_28 ?_
      refine lv_icmp_ge (tgt := 34) hx hb dX11_disputes_29 (by decide) (fun c9 => ?_) (fun c9 => ?_)
      · replace hm := zz_pos c9 hm
        refine lv_aload_n hx hb dX11_disputes_34 rfl (lv_at hl 0 rfl) ?_
        refine va_get (D := D) (ci := 11) (v := .ref (a 6)) (C := RX11) (T := TX11) (N := 35) hx hb hts nX11_disputes_X11 hown hK hP 0 (wR_0 y a z1) rfl 7 (by decide) (hts (.fieldLink RX11 25 "WorksDeskModel" "sets" "[I") (List.mem_of_getElem? (i := 2) rfl)) (fun _ h9 => h9) rfl dX11_disputes_35 ?_
        refine lv_iconst (v := (5 : Int32)) hx hb dX11_disputes_38 (by decide) ?_
        refine lv_iload_n hx hb dX11_disputes_39 rfl (lv_at hl 1 rfl) ?_
        refine lv_imul hx hb dX11_disputes_40 ?_
        refine lv_iconst (v := (2 : Int32)) hx hb dX11_disputes_41 (by decide) ?_
        refine lv_iadd hx hb dX11_disputes_42 ?_
        obtain ⟨c10, hm⟩ := zz_ck_some hm
        refine va_iald hx hb hK hP 6 0 (wR_6 y a z1) rfl c10 dX11_disputes_43 ?_
        refine lv_bipush (v := (24 : Int32)) hx hb dX11_disputes_44 (by decide) ?_
        refine lv_icmp_ge (tgt := 52) hx hb dX11_disputes_46 (by decide) (fun c11 => ?_) (fun c11 => ?_)
        · replace hm := zz_pos c11 hm
          refine lv_aload_n hx hb dX11_disputes_52 rfl (lv_at hl 0 rfl) ?_
          refine va_get (D := D) (ci := 11) (v := .ref (a 6)) (C := RX11) (T := TX11) (N := 35) hx hb hts nX11_disputes_X11 hown hK hP 0 (wR_0 y a z1) rfl 7 (by decide) (hts (.fieldLink RX11 25 "WorksDeskModel" "sets" "[I") (List.mem_of_getElem? (i := 2) rfl)) (fun _ h9 => h9) rfl dX11_disputes_53 ?_
          refine lv_iconst (v := (5 : Int32)) hx hb dX11_disputes_56 (by decide) ?_
          refine lv_iload_n hx hb dX11_disputes_57 rfl (lv_at hl 1 rfl) ?_
          refine lv_imul hx hb dX11_disputes_58 ?_
          refine lv_iconst (v := (2 : Int32)) hx hb dX11_disputes_59 (by decide) ?_
          refine lv_iadd hx hb dX11_disputes_60 ?_
          refine lv_iload_n hx hb dX11_disputes_61 rfl (lv_at hl 2 rfl) ?_
          obtain ⟨c12, hm⟩ := zz_ck_some hm
          refine va_iast hx hb hK hP hD hS 6 0 (wR_6 y a z1) rfl c12 dX11_disputes_62 (fun H locs hP hD hS => ?_)
          obtain ⟨z13, hP, hD, hm⟩ := zz_up (w := wR y a) (wR_w6 y a z1 (((5 : Int32) * x1) + (2 : Int32)) x2) hP hD hm
          refine lv_aload_n hx hb dX11_disputes_63 rfl (lv_at hl 0 rfl) ?_
          obtain ⟨r14, h15, hm⟩ := zz_b1_some hm
          refine zz_calli (zz_runV (w := wR y a) (As := []) (rest := []) ⟨hx, hb, hml, hown, hts⟩ (zX11_openDisputes l D y a H.size z13 h15) (cwV 0 hts gX11_disputes_X11_openDisputes rfl rfl rfl zdX11_openDisputes ⟨Nat.le_of_ble_eq_true rfl, Nat.le_of_ble_eq_true rfl⟩) hK hN hg hP hD hS hA 0 (wR_0 y a z13) rfl rfl hl.1 rfl (Nat.le_of_ble_eq_true rfl) dX11_disputes_64 ⟨Nat.le_of_ble_eq_true rfl, Nat.le_of_ble_eq_true rfl⟩) hD hS hA (fun H locs hP hD hS => ?_)
          exact zz_iret hx hb hr hlocks (zz_some2 hm) hP hK hD hS dX11_disputes_67
        · replace hm := zz_neg c11 hm
          refine lv_bipush (v := (-2 : Int32)) hx hb dX11_disputes_49 (by decide) ?_
          exact zz_iret hx hb hr hlocks (zz_some2 hm) hP hK hD hS dX11_disputes_51
      · replace hm := zz_neg c9 hm
        have j := J32 z1 hm
        rw [hG] at j
        exact j H locs ls hP hD hS (lv_sub hl [] rfl)
def mX11_due (x1 : Int32) (z : zz_M) : Option (Int32 × zz_M) := zz_nm (zz_sF z 19 (0 : Int32)) (fun z1 => zz_b1 (mX11_isMonth x1) (fun r2 => if r2 = (0 : Int32) then (some ((-1 : Int32), z1)) else (if x1 = (z1.2.2.1 11) then (some ((-2 : Int32), z1)) else (zz_nm (zz_sF z1 11 x1) (fun z6 => some (z1.2.2.1 11, z6))))))
theorem nX11_due_X11 : ∀ w ∈ wsX110, w ∈ wsX11_due := fun _ h => List.mem_cons_of_mem _ (List.mem_append_right _ (h))
theorem zdX11_due : yX11_due.cls = RX11 ∧ yX11_due.cls ≠ "java/lang/invoke/MethodHandle" ∧ yX11_due.cls ≠ "java/lang/invoke/VarHandle" ∧ (parseMethodDescriptor yX11_due.desc).map (fun d => d.parameters.length) = some 1 := by decide +kernel
set_option maxHeartbeats 4000000 in
set_option maxRecDepth 100000 in
theorem zX11_due (l : Launch) (D : va_G) (y : Nat → ClassId) (a : Nat → Nat) (sz : Nat) (x1 : Int32) (z : zz_M) {r : Int32} {zt : zz_M} (hm : mX11_due x1 z = some (r, zt)) : Met l yX11_due wsX11_due { frames := 2, cells := 0, slots := 0, locals := 45 } (zz_Pc D y (wR y a z) sz [.ref (a 0), .int x1]) (zz_Qi D y (wR y a) (va_A (wR y a z) sz) r zt) 0 0 (va_A (wR y a z) sz) := by
  refine Met.ofW (cc := cX11_due) (maxL := 3) (ret := (some .int)) (by decide) rfl ?_
  intro p e s m args below meth c s₁ B hml hv
  obtain ⟨rfl, hsz, hP, hK, hD0, hN, hg⟩ := hv
  have hx := B.exec
  have hb := B.bytes
  have hr := B.returns
  have hts := atoms_spec (ws := wsX11_due) B.pre
  have hown : s.vm.findClass RX11 = some m.cls := findClass_of_methodNamed B.named
  have hlocks := B.notSynchronized
  clear B
  subst hsz
  have hD := hD0.self (sz := s.heap.size)
  generalize hAe : va_A (wR y a z) s.heap.size = A at hD hg ⊢
  have hA : ∀ q : Nat, s.heap.size ≤ q → A q := fun q h => by rw [← hAe]; exact Or.inr h
  clear hAe hD0
  have hl := lv_entry ([.ref (a 0), .int x1]) (n := 3) (Nat.le_of_ble_eq_true rfl)
  rw [lg_entry_eq]
  generalize (lg_sl ([.ref (a 0), .int x1]) ++ List.replicate (3 - (lg_sl ([.ref (a 0), .int x1])).length) Slot.unset).toArray = ls at hl ⊢
  replace hl : lv_has ls 3 [(0, .ref (a 0)), (1, .int x1)] := hl
  refine zz_go (w := wR y a) hP hD va_S.rf hl (fun G hG => ?_)
  clear hP hD hl ls
  rw [hG]
  intro H locs ls hP hD hS hl
  unfold mX11_due at hm
  refine lv_aload_n hx hb dX11_due_0 rfl (lv_at hl 0 rfl) ?_
  refine lv_iconst (v := (0 : Int32)) hx hb dX11_due_1 (by decide) ?_
  refine va_put (D := D) (ci := 11) (v := .int (0 : Int32)) (ty := .int) (C := RX11) (T := TX11) (N := 35) hx hb hts nX11_due_X11 tyX11 tyX11_ok nmX11 hown hK hP hD hS 0 (wR_0 y a z) rfl 19 (by decide) (hts (.fieldLink RX11 97 "WorksDeskModel" "thrown" "I") (List.mem_of_getElem? (i := 1) rfl)) (fun _ h9 => h9) rfl (tyX11_ok 19 (by decide)) rfl rfl (Nat.le_of_ble_eq_true rfl) dX11_due_2 (fun H locs hP hD hS => ?_)
  obtain ⟨z1, hP, hD, hm⟩ := zz_up (w := wR y a) (wR_f19 y a z (0 : Int32)) hP hD hm
  refine lv_iload_n hx hb dX11_due_5 rfl (lv_at hl 1 rfl) ?_
  obtain ⟨r2, h3, hm⟩ := zz_b1_some hm
  refine zz_calli (zz_runS (w := wR y a) (As := [.int x1]) (rest := []) ⟨hx, hb, hml, hown, hts⟩ (zX11_isMonth l D y a H.size x1 z1 h3) (va_cwS 1 hts gX11_due_X11_isMonth rfl rfl rfl zdX11_isMonth ⟨Nat.le_of_ble_eq_true rfl, Nat.le_of_ble_eq_true rfl⟩) hK hN hg hP hD hS hA rfl hl.1 rfl (Nat.le_of_ble_eq_true rfl) dX11_due_6 ⟨Nat.le_of_ble_eq_true rfl, Nat.le_of_ble_eq_true rfl⟩) hD hS hA (fun H locs hP hD hS => ?_)
  refine lv_if_ne (tgt := 14) hx hb dX11_due_9 (by decide) (fun c4 => ?_) (fun c4 => ?_)
  · replace hm := zz_neg c4 hm
    refine lv_iload_n hx hb dX11_due_14 rfl (lv_at hl 1 rfl) ?_
    refine lv_aload_n hx hb dX11_due_15 rfl (lv_at hl 0 rfl) ?_
    refine va_get (D := D) (ci := 11) (v := .int (z1.2.2.1 11)) (C := RX11) (T := TX11) (N := 35) hx hb hts nX11_due_X11 hown hK hP 0 (wR_0 y a z1) rfl 11 (by decide) (hts (.fieldLink RX11 91 "WorksDeskModel" "due" "I") (List.mem_of_getElem? (i := 2) rfl)) (fun _ h9 => h9) rfl dX11_due_16 ?_
    refine lv_icmp_ne (tgt := 25) hx hb dX11_due_19 (by decide) (fun c5 => ?_) (fun c5 => ?_)
    · replace hm := zz_neg c5 hm
      refine lv_aload_n hx hb dX11_due_25 rfl (lv_at hl 0 rfl) ?_
      refine va_get (D := D) (ci := 11) (v := .int (z1.2.2.1 11)) (C := RX11) (T := TX11) (N := 35) hx hb hts nX11_due_X11 hown hK hP 0 (wR_0 y a z1) rfl 11 (by decide) (hts (.fieldLink RX11 91 "WorksDeskModel" "due" "I") (List.mem_of_getElem? (i := 2) rfl)) (fun _ h9 => h9) rfl dX11_due_26 ?_
      refine lv_istore_n (lv' := [(2, .int (z1.2.2.1 11)), (0, .ref (a 0)), (1, .int x1)]) hx hb dX11_due_29 rfl hl (by decide) rfl (fun ls hl => ?_)
      refine lv_aload_n hx hb dX11_due_30 rfl (lv_at hl 1 rfl) ?_
      refine lv_iload_n hx hb dX11_due_31 rfl (lv_at hl 2 rfl) ?_
      refine va_put (D := D) (ci := 11) (v := .int x1) (ty := .int) (C := RX11) (T := TX11) (N := 35) hx hb hts nX11_due_X11 tyX11 tyX11_ok nmX11 hown hK hP hD hS 0 (wR_0 y a z1) rfl 11 (by decide) (hts (.fieldLink RX11 91 "WorksDeskModel" "due" "I") (List.mem_of_getElem? (i := 2) rfl)) (fun _ h9 => h9) rfl (tyX11_ok 11 (by decide)) rfl rfl (Nat.le_of_ble_eq_true rfl) dX11_due_32 (fun H locs hP hD hS => ?_)
      obtain ⟨z6, hP, hD, hm⟩ := zz_up (w := wR y a) (wR_f11 y a z1 x1) hP hD hm
      refine lv_iload_n hx hb dX11_due_35 rfl (lv_at hl 0 rfl) ?_
      exact zz_iret hx hb hr hlocks (zz_some2 hm) hP hK hD hS dX11_due_36
    · replace hm := zz_pos c5 hm
      refine lv_bipush (v := (-2 : Int32)) hx hb dX11_due_22 (by decide) ?_
      exact zz_iret hx hb hr hlocks (zz_some2 hm) hP hK hD hS dX11_due_24
  · replace hm := zz_pos c4 hm
    refine lv_iconst (v := (-1 : Int32)) hx hb dX11_due_12 (by decide) ?_
    exact zz_iret hx hb hr hlocks (zz_some2 hm) hP hK hD hS dX11_due_13
def mX11_end (x1 : Int32) (z : zz_M) : Option (Int32 × zz_M) := zz_nm (zz_sF z 19 (0 : Int32)) (fun z1 => zz_b1 (mX11_in x1.toInt64 (0 : Int64) ((z1.2.2.1 16).toInt64)) (fun r2 => if r2 = (0 : Int32) then (some ((0 : Int32), z1)) else (zz_nm (zz_sF z1 16 x1) (fun z5 => some ((1 : Int32), z5)))))
theorem nX11_end_X11 : ∀ w ∈ wsX110, w ∈ wsX11_end := fun _ h => List.mem_cons_of_mem _ (List.mem_append_right _ (h))
theorem zdX11_end : yX11_end.cls = RX11 ∧ yX11_end.cls ≠ "java/lang/invoke/MethodHandle" ∧ yX11_end.cls ≠ "java/lang/invoke/VarHandle" ∧ (parseMethodDescriptor yX11_end.desc).map (fun d => d.parameters.length) = some 1 := by decide +kernel
set_option maxHeartbeats 4000000 in
set_option maxRecDepth 100000 in
theorem zX11_end (l : Launch) (D : va_G) (y : Nat → ClassId) (a : Nat → Nat) (sz : Nat) (x1 : Int32) (z : zz_M) {r : Int32} {zt : zz_M} (hm : mX11_end x1 z = some (r, zt)) : Met l yX11_end wsX11_end { frames := 1, cells := 0, slots := 0, locals := 25 } (zz_Pc D y (wR y a z) sz [.ref (a 0), .int x1]) (zz_Qi D y (wR y a) (va_A (wR y a z) sz) r zt) 0 0 (va_A (wR y a z) sz) := by
  refine Met.ofW (cc := cX11_end) (maxL := 2) (ret := (some .boolean)) (by decide) rfl ?_
  intro p e s m args below meth c s₁ B hml hv
  obtain ⟨rfl, hsz, hP, hK, hD0, hN, hg⟩ := hv
  have hx := B.exec
  have hb := B.bytes
  have hr := B.returns
  have hts := atoms_spec (ws := wsX11_end) B.pre
  have hown : s.vm.findClass RX11 = some m.cls := findClass_of_methodNamed B.named
  have hlocks := B.notSynchronized
  clear B
  subst hsz
  have hD := hD0.self (sz := s.heap.size)
  generalize hAe : va_A (wR y a z) s.heap.size = A at hD hg ⊢
  have hA : ∀ q : Nat, s.heap.size ≤ q → A q := fun q h => by rw [← hAe]; exact Or.inr h
  clear hAe hD0
  have hl := lv_entry ([.ref (a 0), .int x1]) (n := 2) (Nat.le_of_ble_eq_true rfl)
  rw [lg_entry_eq]
  generalize (lg_sl ([.ref (a 0), .int x1]) ++ List.replicate (2 - (lg_sl ([.ref (a 0), .int x1])).length) Slot.unset).toArray = ls at hl ⊢
  replace hl : lv_has ls 2 [(0, .ref (a 0)), (1, .int x1)] := hl
  refine zz_go (w := wR y a) hP hD va_S.rf hl (fun G hG => ?_)
  clear hP hD hl ls
  rw [hG]
  intro H locs ls hP hD hS hl
  unfold mX11_end at hm
  refine lv_aload_n hx hb dX11_end_0 rfl (lv_at hl 0 rfl) ?_
  refine lv_iconst (v := (0 : Int32)) hx hb dX11_end_1 (by decide) ?_
  refine va_put (D := D) (ci := 11) (v := .int (0 : Int32)) (ty := .int) (C := RX11) (T := TX11) (N := 35) hx hb hts nX11_end_X11 tyX11 tyX11_ok nmX11 hown hK hP hD hS 0 (wR_0 y a z) rfl 19 (by decide) (hts (.fieldLink RX11 97 "WorksDeskModel" "thrown" "I") (List.mem_of_getElem? (i := 1) rfl)) (fun _ h9 => h9) rfl (tyX11_ok 19 (by decide)) rfl rfl (Nat.le_of_ble_eq_true rfl) dX11_end_2 (fun H locs hP hD hS => ?_)
  obtain ⟨z1, hP, hD, hm⟩ := zz_up (w := wR y a) (wR_f19 y a z (0 : Int32)) hP hD hm
  refine lv_iload_n hx hb dX11_end_5 rfl (lv_at hl 1 rfl) ?_
  refine lv_i2l hx hb dX11_end_6 rfl ?_
  refine lv_lconst (v := (0 : Int64)) hx hb dX11_end_7 (by decide) ?_
  refine lv_aload_n hx hb dX11_end_8 rfl (lv_at hl 0 rfl) ?_
  refine va_get (D := D) (ci := 11) (v := .int (z1.2.2.1 16)) (C := RX11) (T := TX11) (N := 35) hx hb hts nX11_end_X11 hown hK hP 0 (wR_0 y a z1) rfl 16 (by decide) (hts (.fieldLink RX11 109 "WorksDeskModel" "typed" "I") (List.mem_of_getElem? (i := 2) rfl)) (fun _ h9 => h9) rfl dX11_end_9 ?_
  refine lv_i2l hx hb dX11_end_12 rfl ?_
  obtain ⟨r2, h3, hm⟩ := zz_b1_some hm
  refine zz_calli (zz_runS (w := wR y a) (As := [.long x1.toInt64, .long (0 : Int64), .long ((z1.2.2.1 16).toInt64)]) (rest := []) ⟨hx, hb, hml, hown, hts⟩ (zX11_in l D y a H.size x1.toInt64 (0 : Int64) ((z1.2.2.1 16).toInt64) z1 h3) (va_cwS 3 hts gX11_end_X11_in rfl rfl rfl zdX11_in ⟨Nat.le_of_ble_eq_true rfl, Nat.le_of_ble_eq_true rfl⟩) hK hN hg hP hD hS hA rfl hl.1 rfl (Nat.le_of_ble_eq_true rfl) dX11_end_13 ⟨Nat.le_of_ble_eq_true rfl, Nat.le_of_ble_eq_true rfl⟩) hD hS hA (fun H locs hP hD hS => ?_)
  refine lv_if_ne (tgt := 21) hx hb dX11_end_16 (by decide) (fun c4 => ?_) (fun c4 => ?_)
  · replace hm := zz_neg c4 hm
    refine lv_aload_n hx hb dX11_end_21 rfl (lv_at hl 0 rfl) ?_
    refine lv_iload_n hx hb dX11_end_22 rfl (lv_at hl 1 rfl) ?_
    refine va_put (D := D) (ci := 11) (v := .int x1) (ty := .int) (C := RX11) (T := TX11) (N := 35) hx hb hts nX11_end_X11 tyX11 tyX11_ok nmX11 hown hK hP hD hS 0 (wR_0 y a z1) rfl 16 (by decide) (hts (.fieldLink RX11 109 "WorksDeskModel" "typed" "I") (List.mem_of_getElem? (i := 2) rfl)) (fun _ h9 => h9) rfl (tyX11_ok 16 (by decide)) rfl rfl (Nat.le_of_ble_eq_true rfl) dX11_end_23 (fun H locs hP hD hS => ?_)
    obtain ⟨z5, hP, hD, hm⟩ := zz_up (w := wR y a) (wR_f16 y a z1 x1) hP hD hm
    refine lv_iconst (v := (1 : Int32)) hx hb dX11_end_26 (by decide) ?_
    exact zz_zret hx hb hr hlocks (by decide) (zz_some2 hm) hP hK hD hS dX11_end_27
  · replace hm := zz_pos c4 hm
    refine lv_iconst (v := (0 : Int32)) hx hb dX11_end_19 (by decide) ?_
    exact zz_zret hx hb hr hlocks (by decide) (zz_some2 hm) hP hK hD hS dX11_end_20
def mX11_isItem (x1 : Int32) (z : zz_M) : Option Int32 := zz_b1 (mX11_in x1.toInt64 (0 : Int64) (((z.2.2.1 2) - (1 : Int32)).toInt64)) (fun r1 => zz_ck (zz_bool r1) (some r1))
theorem nX11_isItem_X11 : ∀ w ∈ wsX110, w ∈ wsX11_isItem := fun _ h => List.mem_cons_of_mem _ (List.mem_append_right _ (h))
theorem zdX11_isItem : yX11_isItem.cls = RX11 ∧ yX11_isItem.cls ≠ "java/lang/invoke/MethodHandle" ∧ yX11_isItem.cls ≠ "java/lang/invoke/VarHandle" ∧ (parseMethodDescriptor yX11_isItem.desc).map (fun d => d.parameters.length) = some 1 := by decide +kernel
set_option maxHeartbeats 4000000 in
set_option maxRecDepth 100000 in
theorem zX11_isItem (l : Launch) (D : va_G) (y : Nat → ClassId) (a : Nat → Nat) (sz : Nat) (x1 : Int32) (z : zz_M) {r : Int32} (hm : mX11_isItem x1 z = some r) : Met l yX11_isItem wsX11_isItem { frames := 1, cells := 0, slots := 0, locals := 25 } (zz_Pc D y (wR y a z) sz [.ref (a 0), .int x1]) (zz_Qi D y (wR y a) (va_A (wR y a z) sz) r z) 0 0 (va_A (wR y a z) sz) := by
  refine Met.ofW (cc := cX11_isItem) (maxL := 2) (ret := (some .boolean)) (by decide) rfl ?_
  intro p e s m args below meth c s₁ B hml hv
  obtain ⟨rfl, hsz, hP, hK, hD0, hN, hg⟩ := hv
  have hx := B.exec
  have hb := B.bytes
  have hr := B.returns
  have hts := atoms_spec (ws := wsX11_isItem) B.pre
  have hown : s.vm.findClass RX11 = some m.cls := findClass_of_methodNamed B.named
  have hlocks := B.notSynchronized
  clear B
  subst hsz
  have hD := hD0.self (sz := s.heap.size)
  generalize hAe : va_A (wR y a z) s.heap.size = A at hD hg ⊢
  have hA : ∀ q : Nat, s.heap.size ≤ q → A q := fun q h => by rw [← hAe]; exact Or.inr h
  clear hAe hD0
  have hl := lv_entry ([.ref (a 0), .int x1]) (n := 2) (Nat.le_of_ble_eq_true rfl)
  rw [lg_entry_eq]
  generalize (lg_sl ([.ref (a 0), .int x1]) ++ List.replicate (2 - (lg_sl ([.ref (a 0), .int x1])).length) Slot.unset).toArray = ls at hl ⊢
  replace hl : lv_has ls 2 [(0, .ref (a 0)), (1, .int x1)] := hl
  refine zz_go (w := wR y a) hP hD va_S.rf hl (fun G hG => ?_)
  clear hP hD hl ls
  rw [hG]
  intro H locs ls hP hD hS hl
  unfold mX11_isItem at hm
  refine lv_iload_n hx hb dX11_isItem_0 rfl (lv_at hl 1 rfl) ?_
  refine lv_i2l hx hb dX11_isItem_1 rfl ?_
  refine lv_lconst (v := (0 : Int64)) hx hb dX11_isItem_2 (by decide) ?_
  refine lv_aload_n hx hb dX11_isItem_3 rfl (lv_at hl 0 rfl) ?_
  refine va_get (D := D) (ci := 11) (v := .int (z.2.2.1 2)) (C := RX11) (T := TX11) (N := 35) hx hb hts nX11_isItem_X11 hown hK hP 0 (wR_0 y a z) rfl 2 (by decide) (hts (.fieldLink RX11 75 "WorksDeskModel" "itemMany" "I") (List.mem_of_getElem? (i := 1) rfl)) (fun _ h9 => h9) rfl dX11_isItem_4 ?_
  refine lv_iconst (v := (1 : Int32)) hx hb dX11_isItem_7 (by decide) ?_
  refine lv_isub hx hb dX11_isItem_8 ?_
  refine lv_i2l hx hb dX11_isItem_9 rfl ?_
  obtain ⟨r1, h2, hm⟩ := zz_b1_some hm
  refine zz_calli (zz_runS (w := wR y a) (As := [.long x1.toInt64, .long (0 : Int64), .long (((z.2.2.1 2) - (1 : Int32)).toInt64)]) (rest := []) ⟨hx, hb, hml, hown, hts⟩ (zX11_in l D y a H.size x1.toInt64 (0 : Int64) (((z.2.2.1 2) - (1 : Int32)).toInt64) z h2) (va_cwS 3 hts gX11_isItem_X11_in rfl rfl rfl zdX11_in ⟨Nat.le_of_ble_eq_true rfl, Nat.le_of_ble_eq_true rfl⟩) hK hN hg hP hD hS hA rfl hl.1 rfl (Nat.le_of_ble_eq_true rfl) dX11_isItem_10 ⟨Nat.le_of_ble_eq_true rfl, Nat.le_of_ble_eq_true rfl⟩) hD hS hA (fun H locs hP hD hS => ?_)
  obtain ⟨c3, hm⟩ := zz_ck_some hm
  exact zz_zret hx hb hr hlocks c3 ⟨zz_some1 hm, rfl⟩ hP hK hD hS dX11_isItem_13
