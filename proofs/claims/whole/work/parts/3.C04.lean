def mX10_ends (x1 : Int32) (z : zz_M) : Option (Int32 × zz_M) := zz_b1 (mX0_has 9 x1 z) (fun r1 => if r1 = (0 : Int32) then (some ((-1 : Int32), z)) else (zz_ck (zz_in x1 10) (zz_b1 (mX6_lastToldAhead x1.toNatClampNeg (24 : Int32) z) (fun r5 => if r5 = (-1 : Int32) then (some ((-2 : Int32), z)) else (zz_ck (zz_in x1 10) (zz_nm (z.1 11 x1.toNatClampNeg) (fun n9 => zz_b1 (mX6_firstAtLeast x1.toNatClampNeg n9 z) (fun r10 => if r10 = (-1 : Int32) then (zz_b1 (mX6_pace x1.toNatClampNeg r5 z) (fun r13 => if (0 : Int32) < r13 then (zz_b2 (mX5_start r13.toInt64 z) (fun r16 z18 => zz_b1 (mX6_latest x1.toNatClampNeg r5 z18) (fun r19 => zz_ck (¬ r13 = (0 : Int32)) (some (r5 + ((((n9 - r19) + r13) - (1 : Int32)) / r13), z18))))) else (some ((-3 : Int32), z)))) else (zz_b2 (mX5_start (0 : Int64) z) (fun r22 z24 => some (r10, z24)))))))))))
theorem nX10_ends_X0 : ∀ w ∈ wsX00, w ∈ wsX10_ends := fun _ h => List.mem_cons_of_mem _ (List.mem_append_left _ (List.mem_append_left _ (List.mem_append_right _ (h))))
theorem nX10_ends_X10 : ∀ w ∈ wsX100, w ∈ wsX10_ends := fun _ h => List.mem_cons_of_mem _ (List.mem_append_left _ (List.mem_append_left _ (List.mem_append_left _ (List.mem_append_left _ (List.mem_append_right _ (h))))))
theorem nX10_ends_X2 : ∀ w ∈ wsX20, w ∈ wsX10_ends := fun _ h => List.mem_cons_of_mem _ (List.mem_append_left _ (List.mem_append_left _ (List.mem_append_left _ (List.mem_append_right _ (h)))))
theorem zdX10_ends : yX10_ends.cls = RX10 ∧ yX10_ends.cls ≠ "java/lang/invoke/MethodHandle" ∧ yX10_ends.cls ≠ "java/lang/invoke/VarHandle" ∧ (parseMethodDescriptor yX10_ends.desc).map (fun d => d.parameters.length) = some 1 := by decide +kernel
set_option maxHeartbeats 4000000 in
set_option maxRecDepth 100000 in
theorem zX10_ends (l : Launch) (D : va_G) (y : Nat → ClassId) (a : Nat → Nat) (sz : Nat) (x1 : Int32) (z : zz_M) {r : Int32} {zt : zz_M} (hm : mX10_ends x1 z = some (r, zt)) : Met l yX10_ends wsX10_ends { frames := 3, cells := 0, slots := 0, locals := 65 } (zz_Pc D y (wC y a z) sz [.ref (a 0), .int x1]) (zz_Qi D y (wC y a) (va_A (wC y a z) sz) r zt) 0 0 (va_A (wC y a z) sz) := by
  refine Met.ofW (cc := cX10_ends) (maxL := 7) (ret := (some .int)) (by decide) rfl ?_
  intro p e s m args below meth c s₁ B hml hv
  obtain ⟨rfl, hsz, hP, hK, hD0, hN, hg⟩ := hv
  have hx := B.exec
  have hb := B.bytes
  have hr := B.returns
  have hts := atoms_spec (ws := wsX10_ends) B.pre
  have hown : s.vm.findClass RX10 = some m.cls := findClass_of_methodNamed B.named
  have hlocks := B.notSynchronized
  clear B
  subst hsz
  have hD := hD0.self (sz := s.heap.size)
  generalize hAe : va_A (wC y a z) s.heap.size = A at hD hg ⊢
  have hA : ∀ q : Nat, s.heap.size ≤ q → A q := fun q h => by rw [← hAe]; exact Or.inr h
  clear hAe hD0
  have hl := lv_entry ([.ref (a 0), .int x1]) (n := 7) (Nat.le_of_ble_eq_true rfl)
  rw [lg_entry_eq]
  generalize (lg_sl ([.ref (a 0), .int x1]) ++ List.replicate (7 - (lg_sl ([.ref (a 0), .int x1])).length) Slot.unset).toArray = ls at hl ⊢
  replace hl : lv_has ls 7 [(0, .ref (a 0)), (1, .int x1)] := hl
  refine zz_go (w := wC y a) hP hD va_S.rf hl (fun G hG => ?_)
  clear hP hD hl ls
  rw [hG]
  intro H locs ls hP hD hS hl
  unfold mX10_ends at hm
  refine lv_aload_n hx hb dX10_ends_0 rfl (lv_at hl 0 rfl) ?_
  refine va_get (D := D) (ci := 10) (v := .ref (a 8)) (C := RX10) (T := TX10) (N := 7) hx hb hts nX10_ends_X10 hown hK hP 0 (wC_0 y a z) rfl 2 (by decide) (hts (.fieldLink RX10 26 "WorksDesk" "book" "LWorksDesk$Book;") (List.mem_of_getElem? (i := 1) rfl)) (fun _ h9 => h9) rfl dX10_ends_1 ?_
  refine va_get (D := D) (ci := 2) (v := .ref (a 9)) (C := RX2) (T := TX2) (N := 12) hx hb hts nX10_ends_X2 hown hK hP 8 (wC_8 y a z) rfl 0 (by decide) (hts (.fieldLink RX10 107 "WorksDesk$Book" "items" "LWorksDesk$Bill;") (List.mem_of_getElem? (i := 2) rfl)) (fun _ h9 => h9) rfl dX10_ends_4 ?_
  refine lv_iload_n hx hb dX10_ends_7 rfl (lv_at hl 1 rfl) ?_
  obtain ⟨r1, h2, hm⟩ := zz_b1_some hm
  refine zz_calli (zz_runV (w := wC y a) (As := [.int x1]) (rest := []) ⟨hx, hb, hml, hown, hts⟩ (zX0_has l D y a H.size 9 x1 (Or.inr rfl) z h2) (cwV 1 hts gX10_ends_X0_has rfl rfl rfl zdX0_has ⟨Nat.le_of_ble_eq_true rfl, Nat.le_of_ble_eq_true rfl⟩) hK hN hg hP hD hS hA 9 (wC_bill y a z 9 (Or.inr rfl)) rfl rfl hl.1 rfl (Nat.le_of_ble_eq_true rfl) dX10_ends_8 ⟨Nat.le_of_ble_eq_true rfl, Nat.le_of_ble_eq_true rfl⟩) hD hS hA (fun H locs hP hD hS => ?_)
  refine lv_if_ne (tgt := 16) hx hb dX10_ends_11 (by decide) (fun c3 => ?_) (fun c3 => ?_)
  · replace hm := zz_neg c3 hm
    refine lv_aload_n hx hb dX10_ends_16 rfl (lv_at hl 0 rfl) ?_
    refine va_get (D := D) (ci := 10) (v := .ref (a 8)) (C := RX10) (T := TX10) (N := 7) hx hb hts nX10_ends_X10 hown hK hP 0 (wC_0 y a z) rfl 2 (by decide) (hts (.fieldLink RX10 26 "WorksDesk" "book" "LWorksDesk$Book;") (List.mem_of_getElem? (i := 1) rfl)) (fun _ h9 => h9) rfl dX10_ends_17 ?_
    refine va_get (D := D) (ci := 2) (v := .ref (a 15)) (C := RX2) (T := TX2) (N := 12) hx hb hts nX10_ends_X2 hown hK hP 8 (wC_8 y a z) rfl 2 (by decide) (hts (.fieldLink RX10 96 "WorksDesk$Book" "measured" "[LWorksDesk$Series;") (List.mem_of_getElem? (i := 3) rfl)) (fun _ h9 => h9) rfl dX10_ends_20 ?_
    refine lv_iload_n hx hb dX10_ends_23 rfl (lv_at hl 1 rfl) ?_
    obtain ⟨c4, hm⟩ := zz_ck_some hm
    refine va_aldq (C := RX6) hx hb hK hP 15 3 (wC_15 y a z) rfl c4 dX10_ends_24 ?_
    refine W.eq (g2 := F0 m 25 ls [.ref (a (16 + 3 * x1.toNatClampNeg))]) rfl ?_
    refine lv_astore_n (lv' := [(2, .ref (a (16 + 3 * x1.toNatClampNeg))), (0, .ref (a 0)), (1, .int x1)]) hx hb dX10_ends_25 rfl hl (by decide) rfl (fun ls hl => ?_)
    refine lv_aload_n hx hb dX10_ends_26 rfl (lv_at hl 0 rfl) ?_
    refine lv_bipush (v := (24 : Int32)) hx hb dX10_ends_27 (by decide) ?_
    obtain ⟨r5, h6, hm⟩ := zz_b1_some hm
    refine zz_calli (zz_runV (w := wC y a) (As := [.int (24 : Int32)]) (rest := []) ⟨hx, hb, hml, hown, hts⟩ (zX6_lastToldAhead l D y a H.size x1.toNatClampNeg (24 : Int32) (zz_lt c4 (by decide)) z h6) (cwV 1 hts gX10_ends_X6_lastToldAhead rfl rfl rfl zdX6_lastToldAhead ⟨Nat.le_of_ble_eq_true rfl, Nat.le_of_ble_eq_true rfl⟩) hK hN hg hP hD hS hA (16 + 3 * x1.toNatClampNeg) (wC_ser y a z x1.toNatClampNeg (zz_lt c4 (by decide))) rfl rfl hl.1 rfl (Nat.le_of_ble_eq_true rfl) dX10_ends_29 ⟨Nat.le_of_ble_eq_true rfl, Nat.le_of_ble_eq_true rfl⟩) hD hS hA (fun H locs hP hD hS => ?_)
    refine lv_istore_n (lv' := [(3, .int r5), (2, .ref (a (16 + 3 * x1.toNatClampNeg))), (0, .ref (a 0)), (1, .int x1)]) hx hb dX10_ends_32 rfl hl (by decide) rfl (fun ls hl => ?_)
    refine lv_iload_n hx hb dX10_ends_33 rfl (lv_at hl 0 rfl) ?_
    refine lv_iconst (v := (-1 : Int32)) hx hb dX10_ends_34 (by decide) ?_
    refine lv_icmp_ne (tgt := 41) hx hb dX10_ends_35 (by decide) (fun c7 => ?_) (fun c7 => ?_)
    · replace hm := zz_neg c7 hm
      refine lv_aload_n hx hb dX10_ends_41 rfl (lv_at hl 2 rfl) ?_
      refine va_get (D := D) (ci := 10) (v := .ref (a 8)) (C := RX10) (T := TX10) (N := 7) hx hb hts nX10_ends_X10 hown hK hP 0 (wC_0 y a z) rfl 2 (by decide) (hts (.fieldLink RX10 26 "WorksDesk" "book" "LWorksDesk$Book;") (List.mem_of_getElem? (i := 1) rfl)) (fun _ h9 => h9) rfl dX10_ends_42 ?_
      refine va_get (D := D) (ci := 2) (v := .ref (a 9)) (C := RX2) (T := TX2) (N := 12) hx hb hts nX10_ends_X2 hown hK hP 8 (wC_8 y a z) rfl 0 (by decide) (hts (.fieldLink RX10 107 "WorksDesk$Book" "items" "LWorksDesk$Bill;") (List.mem_of_getElem? (i := 2) rfl)) (fun _ h9 => h9) rfl dX10_ends_45 ?_
      refine va_get (D := D) (ci := 0) (v := .ref (a 11)) (C := RX0) (T := TX0) (N := 5) hx hb hts nX10_ends_X0 hown hK hP 9 (wC_bill y a z 9 (Or.inr rfl)) rfl 1 (by decide) (hts (.fieldLink RX10 344 "WorksDesk$Bill" "quantities" "[I") (List.mem_of_getElem? (i := 4) rfl)) (fun _ h9 => h9) rfl dX10_ends_48 ?_
      refine lv_iload_n hx hb dX10_ends_51 rfl (lv_at hl 3 rfl) ?_
      obtain ⟨c8, hm⟩ := zz_ck_some hm
      refine va_iald hx hb hK hP 11 0 (wC_billA2 y a z 9 (Or.inr rfl)) rfl c8 dX10_ends_52 ?_
      refine lv_topi (fun n9 en9 => ?_)
      replace hm := zz_nm_some en9 hm
      refine lv_istore (lv' := [(4, .int n9), (3, .int r5), (2, .ref (a (16 + 3 * x1.toNatClampNeg))), (0, .ref (a 0)), (1, .int x1)]) hx hb dX10_ends_53 hl (by decide) rfl (fun ls hl => ?_)
      refine lv_aload_n hx hb dX10_ends_55 rfl (lv_at hl 2 rfl) ?_
      refine lv_iload hx hb dX10_ends_56 (lv_at hl 0 rfl) ?_
      obtain ⟨r10, h11, hm⟩ := zz_b1_some hm
      refine zz_calli (zz_runV (w := wC y a) (As := [.int n9]) (rest := []) ⟨hx, hb, hml, hown, hts⟩ (zX6_firstAtLeast l D y a H.size x1.toNatClampNeg n9 (zz_lt c4 (by decide)) z h11) (cwV 1 hts gX10_ends_X6_firstAtLeast rfl rfl rfl zdX6_firstAtLeast ⟨Nat.le_of_ble_eq_true rfl, Nat.le_of_ble_eq_true rfl⟩) hK hN hg hP hD hS hA (16 + 3 * x1.toNatClampNeg) (wC_ser y a z x1.toNatClampNeg (zz_lt c4 (by decide))) rfl rfl hl.1 rfl (Nat.le_of_ble_eq_true rfl) dX10_ends_58 ⟨Nat.le_of_ble_eq_true rfl, Nat.le_of_ble_eq_true rfl⟩) hD hS hA (fun H locs hP hD hS => ?_)
      refine lv_istore (lv' := [(5, .int r10), (4, .int n9), (3, .int r5), (2, .ref (a (16 + 3 * x1.toNatClampNeg))), (0, .ref (a 0)), (1, .int x1)]) hx hb dX10_ends_61 hl (by decide) rfl (fun ls hl => ?_)
      refine lv_iload hx hb dX10_ends_63 (lv_at hl 0 rfl) ?_
      refine lv_iconst (v := (-1 : Int32)) hx hb dX10_ends_65 (by decide) ?_
      refine lv_icmp_eq (tgt := 81) hx hb dX10_ends_66 (by decide) (fun c12 => ?_) (fun c12 => ?_)
      · replace hm := zz_pos c12 hm
        refine lv_aload_n hx hb dX10_ends_81 rfl (lv_at hl 3 rfl) ?_
        refine lv_iload_n hx hb dX10_ends_82 rfl (lv_at hl 2 rfl) ?_
        obtain ⟨r13, h14, hm⟩ := zz_b1_some hm
        refine zz_calli (zz_runV (w := wC y a) (As := [.int r5]) (rest := []) ⟨hx, hb, hml, hown, hts⟩ (zX6_pace l D y a H.size x1.toNatClampNeg r5 (zz_lt c4 (by decide)) z h14) (cwV 1 hts gX10_ends_X6_pace rfl rfl rfl zdX6_pace ⟨Nat.le_of_ble_eq_true rfl, Nat.le_of_ble_eq_true rfl⟩) hK hN hg hP hD hS hA (16 + 3 * x1.toNatClampNeg) (wC_ser y a z x1.toNatClampNeg (zz_lt c4 (by decide))) rfl rfl hl.1 rfl (Nat.le_of_ble_eq_true rfl) dX10_ends_83 ⟨Nat.le_of_ble_eq_true rfl, Nat.le_of_ble_eq_true rfl⟩) hD hS hA (fun H locs hP hD hS => ?_)
        refine lv_istore (lv' := [(6, .int r13), (5, .int r10), (4, .int n9), (3, .int r5), (2, .ref (a (16 + 3 * x1.toNatClampNeg))), (0, .ref (a 0)), (1, .int x1)]) hx hb dX10_ends_86 hl (by decide) rfl (fun ls hl => ?_)
        refine lv_iload hx hb dX10_ends_88 (lv_at hl 0 rfl) ?_
        refine lv_if_gt (tgt := 96) hx hb dX10_ends_90 (by decide) (fun c15 => ?_) (fun c15 => ?_)
        · replace hm := zz_pos c15 hm
          refine lv_aload_n hx hb dX10_ends_96 rfl (lv_at hl 5 rfl) ?_
          refine va_get (D := D) (ci := 10) (v := .ref (a 99)) (C := RX10) (T := TX10) (N := 7) hx hb hts nX10_ends_X10 hown hK hP 0 (wC_0 y a z) rfl 6 (by decide) (hts (.fieldLink RX10 47 "WorksDesk" "lastRow" "LWorksDesk$Row;") (List.mem_of_getElem? (i := 5) rfl)) (fun _ h9 => h9) rfl dX10_ends_97 ?_
          refine lv_iload hx hb dX10_ends_100 (lv_at hl 0 rfl) ?_
          refine lv_i2l hx hb dX10_ends_102 rfl ?_
          obtain ⟨r16, z18, h17, hm⟩ := zz_b2_some hm
          refine zz_callr (zz_runV (w := wC y a) (As := [.long r13.toInt64]) (rest := []) ⟨hx, hb, hml, hown, hts⟩ (zX5_start l D y a H.size r13.toInt64 z h17) (cwV 1 hts gX10_ends_X5_start rfl rfl rfl zdX5_start ⟨Nat.le_of_ble_eq_true rfl, Nat.le_of_ble_eq_true rfl⟩) hK hN hg hP hD hS hA 99 (wC_99 y a z) rfl rfl hl.1 rfl (Nat.le_of_ble_eq_true rfl) dX10_ends_103 ⟨Nat.le_of_ble_eq_true rfl, Nat.le_of_ble_eq_true rfl⟩) hD hS hA (fun H locs hP hD hS => ?_)
          refine lv_pop hx hb dX10_ends_106 rfl ?_
          refine lv_iload_n hx hb dX10_ends_107 rfl (lv_at hl 3 rfl) ?_
          refine lv_iload hx hb dX10_ends_108 (lv_at hl 2 rfl) ?_
          refine lv_aload_n hx hb dX10_ends_110 rfl (lv_at hl 4 rfl) ?_
          refine lv_iload_n hx hb dX10_ends_111 rfl (lv_at hl 3 rfl) ?_
          obtain ⟨r19, h20, hm⟩ := zz_b1_some hm
          refine zz_calli (zz_runV (w := wC y a) (As := [.int r5]) (rest := [.int n9, .int r5]) ⟨hx, hb, hml, hown, hts⟩ (zX6_latest l D y a H.size x1.toNatClampNeg r5 (zz_lt c4 (by decide)) z18 h20) (cwV 1 hts gX10_ends_X6_latest rfl rfl rfl zdX6_latest ⟨Nat.le_of_ble_eq_true rfl, Nat.le_of_ble_eq_true rfl⟩) hK hN hg hP hD hS hA (16 + 3 * x1.toNatClampNeg) (wC_ser y a z18 x1.toNatClampNeg (zz_lt c4 (by decide))) rfl rfl hl.1 rfl (Nat.le_of_ble_eq_true rfl) dX10_ends_112 ⟨Nat.le_of_ble_eq_true rfl, Nat.le_of_ble_eq_true rfl⟩) hD hS hA (fun H locs hP hD hS => ?_)
          refine lv_isub hx hb dX10_ends_115 ?_
          refine lv_iload hx hb dX10_ends_116 (lv_at hl 0 rfl) ?_
          refine lv_iadd hx hb dX10_ends_118 ?_
          refine lv_iconst (v := (1 : Int32)) hx hb dX10_ends_119 (by decide) ?_
          refine lv_isub hx hb dX10_ends_120 ?_
          refine lv_iload hx hb dX10_ends_121 (lv_at hl 0 rfl) ?_
          obtain ⟨c21, hm⟩ := zz_ck_some hm
          refine lv_idiv hx hb dX10_ends_123 c21 ?_
          refine lv_iadd hx hb dX10_ends_124 ?_
          exact zz_iret hx hb hr hlocks (zz_some2 hm) hP hK hD hS dX10_ends_125
        · replace hm := zz_neg c15 hm
          refine lv_bipush (v := (-3 : Int32)) hx hb dX10_ends_93 (by decide) ?_
          exact zz_iret hx hb hr hlocks (zz_some2 hm) hP hK hD hS dX10_ends_95
      · replace hm := zz_neg c12 hm
        refine lv_aload_n hx hb dX10_ends_69 rfl (lv_at hl 4 rfl) ?_
        refine va_get (D := D) (ci := 10) (v := .ref (a 99)) (C := RX10) (T := TX10) (N := 7) hx hb hts nX10_ends_X10 hown hK hP 0 (wC_0 y a z) rfl 6 (by decide) (hts (.fieldLink RX10 47 "WorksDesk" "lastRow" "LWorksDesk$Row;") (List.mem_of_getElem? (i := 5) rfl)) (fun _ h9 => h9) rfl dX10_ends_70 ?_
        refine lv_lconst (v := (0 : Int64)) hx hb dX10_ends_73 (by decide) ?_
        obtain ⟨r22, z24, h23, hm⟩ := zz_b2_some hm
        refine zz_callr (zz_runV (w := wC y a) (As := [.long (0 : Int64)]) (rest := []) ⟨hx, hb, hml, hown, hts⟩ (zX5_start l D y a H.size (0 : Int64) z h23) (cwV 1 hts gX10_ends_X5_start rfl rfl rfl zdX5_start ⟨Nat.le_of_ble_eq_true rfl, Nat.le_of_ble_eq_true rfl⟩) hK hN hg hP hD hS hA 99 (wC_99 y a z) rfl rfl hl.1 rfl (Nat.le_of_ble_eq_true rfl) dX10_ends_74 ⟨Nat.le_of_ble_eq_true rfl, Nat.le_of_ble_eq_true rfl⟩) hD hS hA (fun H locs hP hD hS => ?_)
        refine lv_pop hx hb dX10_ends_77 rfl ?_
        refine lv_iload hx hb dX10_ends_78 (lv_at hl 0 rfl) ?_
        exact zz_iret hx hb hr hlocks (zz_some2 hm) hP hK hD hS dX10_ends_80
    · replace hm := zz_pos c7 hm
      refine lv_bipush (v := (-2 : Int32)) hx hb dX10_ends_38 (by decide) ?_
      exact zz_iret hx hb hr hlocks (zz_some2 hm) hP hK hD hS dX10_ends_40
  · replace hm := zz_pos c3 hm
    refine lv_iconst (v := (-1 : Int32)) hx hb dX10_ends_14 (by decide) ?_
    exact zz_iret hx hb hr hlocks (zz_some2 hm) hP hK hD hS dX10_ends_15
def mX10_payFrom_b32 (k2 : Int32 → Int32 → Int32 → zz_M → Option (Unit × zz_M)) (v1 : Int32) (v2 : Int32) (v3 : Int32) (t0 : Int64) (t1 : Int32) (z : zz_M) : Option (Unit × zz_M) := zz_ck (zz_in t1 24) (zz_nm (zz_wJ z 98 t1 t0) (fun z2 => zz_nm (v3 + (1 : Int32)) (fun n3 => k2 v1 v2 n3 z2)))
def mX10_payFrom_b2 : Nat → Int32 → Int32 → Int32 → zz_M → Option (Unit × zz_M)
  | 0, _, _, _, _ => none
  | n + 1, v1, v2, v3, z => if (24 : Int32) ≤ v3 then (zz_b2 (mX4_reckon 64 z) (fun r5 z7 => zz_b2 (mX4_reckonDebt 64 98 z7) (fun r8 z10 => some ((), z10)))) else (if v1 ≤ v3 then (mX10_payFrom_b32 (mX10_payFrom_b2 n) v1 v2 v3 v2.toInt64 v3 z) else (zz_ck (zz_in v3 24) (mX10_payFrom_b32 (mX10_payFrom_b2 n) v1 v2 v3 (z.2.1 63 v3.toNatClampNeg) v3 z)))
def mX10_payFrom (x1 : Int32) (x2 : Int32) (z : zz_M) : Option (Unit × zz_M) := mX10_payFrom_b2 zz_N x1 x2 (0 : Int32) z
theorem nX10_payFrom_X10 : ∀ w ∈ wsX100, w ∈ wsX10_payFrom := fun _ h => List.mem_cons_of_mem _ (List.mem_append_left _ (List.mem_append_left _ (List.mem_append_left _ (List.mem_append_left _ (List.mem_append_left _ (List.mem_append_left _ (List.mem_append_left _ (List.mem_append_right _ (h)))))))))
theorem nX10_payFrom_X2 : ∀ w ∈ wsX20, w ∈ wsX10_payFrom := fun _ h => List.mem_cons_of_mem _ (List.mem_append_left _ (List.mem_append_left _ (List.mem_append_left _ (List.mem_append_left _ (List.mem_append_left _ (List.mem_append_left _ (List.mem_append_right _ (h))))))))
theorem zdX10_payFrom : yX10_payFrom.cls = RX10 ∧ yX10_payFrom.cls ≠ "java/lang/invoke/MethodHandle" ∧ yX10_payFrom.cls ≠ "java/lang/invoke/VarHandle" ∧ (parseMethodDescriptor yX10_payFrom.desc).map (fun d => d.parameters.length) = some 2 := by decide +kernel
set_option maxHeartbeats 4000000 in
set_option maxRecDepth 100000 in
theorem zX10_payFrom (l : Launch) (D : va_G) (y : Nat → ClassId) (a : Nat → Nat) (sz : Nat) (x1 : Int32) (x2 : Int32) (z : zz_M) {r : Unit} {zt : zz_M} (hm : mX10_payFrom x1 x2 z = some (r, zt)) : Met l yX10_payFrom wsX10_payFrom { frames := 5, cells := 0, slots := 0, locals := 129 } (zz_Pc D y (wC y a z) sz [.ref (a 0), .int x1, .int x2]) (zz_Qv D y (wC y a) (va_A (wC y a z) sz) zt) 0 0 (va_A (wC y a z) sz) := by
  refine Met.ofW (cc := cX10_payFrom) (maxL := 4) (ret := none) (by decide) rfl ?_
  intro p e s m args below meth c s₁ B hml hv
  obtain ⟨rfl, hsz, hP, hK, hD0, hN, hg⟩ := hv
  have hx := B.exec
  have hb := B.bytes
  have hr := B.returns
  have hts := atoms_spec (ws := wsX10_payFrom) B.pre
  have hown : s.vm.findClass RX10 = some m.cls := findClass_of_methodNamed B.named
  have hlocks := B.notSynchronized
  clear B
  subst hsz
  have hD := hD0.self (sz := s.heap.size)
  generalize hAe : va_A (wC y a z) s.heap.size = A at hD hg ⊢
  have hA : ∀ q : Nat, s.heap.size ≤ q → A q := fun q h => by rw [← hAe]; exact Or.inr h
  clear hAe hD0
  have hl := lv_entry ([.ref (a 0), .int x1, .int x2]) (n := 4) (Nat.le_of_ble_eq_true rfl)
  rw [lg_entry_eq]
  generalize (lg_sl ([.ref (a 0), .int x1, .int x2]) ++ List.replicate (4 - (lg_sl ([.ref (a 0), .int x1, .int x2])).length) Slot.unset).toArray = ls at hl ⊢
  replace hl : lv_has ls 4 [(0, .ref (a 0)), (1, .int x1), (2, .int x2)] := hl
  refine zz_go (w := wC y a) hP hD va_S.rf hl (fun G hG => ?_)
  clear hP hD hl ls
  have J32 : ∀ (k2 : Int32 → Int32 → Int32 → zz_M → Option (Unit × zz_M)) (K2 : ∀ (v1 : Int32) (v2 : Int32) (v3 : Int32) (z : zz_M), k2 v1 v2 v3 z = some (r, zt) → G 2 [(0, .ref (a 0)), (1, .int v1), (2, .int v2), (3, .int v3)] [] z) (v1 : Int32) (v2 : Int32) (v3 : Int32) (t0 : Int64) (t1 : Int32) (z : zz_M), mX10_payFrom_b32 k2 v1 v2 v3 t0 t1 z = some (r, zt) → G 32 [(0, .ref (a 0)), (1, .int v1), (2, .int v2), (3, .int v3)] [.long t0, .int t1, .ref (a 98)] z := by
    intro k2 K2 v1 v2 v3 t0 t1 z hm
    rw [mX10_payFrom_b32] at hm
    rw [hG]
    intro H locs ls hP hD hS hl
    obtain ⟨c1, hm⟩ := zz_ck_some hm
    refine va_last hx hb hK hP hD hS 98 1 (wC_98 y a z) rfl c1 dX10_payFrom_32 (fun H locs hP hD hS => ?_)
    obtain ⟨z2, hP, hD, hm⟩ := zz_up (w := wC y a) (wC_w98 y a z t1 t0) hP hD hm
    obtain ⟨n3, en3⟩ : ∃ q : Int32, q = v3 + (1 : Int32) := ⟨_, rfl⟩
    replace hm := zz_nm_some en3 hm
    refine lv_iinc (v := n3) (lv' := [(3, .int n3), (0, .ref (a 0)), (1, .int v1), (2, .int v2)]) hx hb dX10_payFrom_33 hl (k := 3) rfl (by rw [en3]; rfl) (by decide) rfl (fun ls hl => ?_)
    refine lv_goto (tgt := 2) hx hb dX10_payFrom_36 (by decide) ?_
    have j := K2 v1 v2 n3 z2 hm
    rw [hG] at j
    exact j H locs ls hP hD hS (lv_sub hl [1, 2, 3, 0] rfl)
  have J2 : ∀ (n : Nat) (v1 : Int32) (v2 : Int32) (v3 : Int32) (z : zz_M), mX10_payFrom_b2 n v1 v2 v3 z = some (r, zt) → G 2 [(0, .ref (a 0)), (1, .int v1), (2, .int v2), (3, .int v3)] [] z := by
    intro n
    induction n with
    | zero =>
      intro v1 v2 v3 z hm
      exact zz_none hm
    | succ n ih =>
      intro v1 v2 v3 z hm
      rw [mX10_payFrom_b2] at hm
      rw [hG]
      intro H locs ls hP hD hS hl
      refine lv_iload_n hx hb dX10_payFrom_2 rfl (lv_at hl 3 rfl) ?_
      refine lv_bipush (v := (24 : Int32)) hx hb dX10_payFrom_3 (by decide) ?_
      refine lv_icmp_ge (tgt := 39) hx hb dX10_payFrom_5 (by decide) (fun c4 => ?_) (fun c4 => ?_)
      · replace hm := zz_pos c4 hm
        refine lv_aload_n hx hb dX10_payFrom_39 rfl (lv_at hl 0 rfl) ?_
        refine va_get (D := D) (ci := 10) (v := .ref (a 64)) (C := RX10) (T := TX10) (N := 7) hx hb hts nX10_payFrom_X10 hown hK hP 0 (wC_0 y a z) rfl 3 (by decide) (hts (.fieldLink RX10 33 "WorksDesk" "real" "LWorksDesk$Figures;") (List.mem_of_getElem? (i := 4) rfl)) (fun _ h9 => h9) rfl dX10_payFrom_40 ?_
        refine lv_aload_n hx hb dX10_payFrom_43 rfl (lv_at hl 0 rfl) ?_
        refine va_get (D := D) (ci := 10) (v := .ref (a 8)) (C := RX10) (T := TX10) (N := 7) hx hb hts nX10_payFrom_X10 hown hK hP 0 (wC_0 y a z) rfl 2 (by decide) (hts (.fieldLink RX10 26 "WorksDesk" "book" "LWorksDesk$Book;") (List.mem_of_getElem? (i := 2) rfl)) (fun _ h9 => h9) rfl dX10_payFrom_44 ?_
        obtain ⟨r5, z7, h6, hm⟩ := zz_b2_some hm
        refine zz_callv (zz_runV (w := wC y a) (As := [.ref (a 8)]) (rest := []) ⟨hx, hb, hml, hown, hts⟩ (zX4_reckon l D y a H.size 64 (Or.inl rfl) z h6) (cwV 1 hts gX10_payFrom_X4_reckon rfl rfl rfl zdX4_reckon ⟨Nat.le_of_ble_eq_true rfl, Nat.le_of_ble_eq_true rfl⟩) hK hN hg hP hD hS hA 64 (wC_fig y a z 64 (Or.inl rfl)) rfl rfl hl.1 rfl (Nat.le_of_ble_eq_true rfl) dX10_payFrom_47 ⟨Nat.le_of_ble_eq_true rfl, Nat.le_of_ble_eq_true rfl⟩) hD hS hA (fun H locs hP hD hS => ?_)
        refine lv_aload_n hx hb dX10_payFrom_50 rfl (lv_at hl 0 rfl) ?_
        refine va_get (D := D) (ci := 10) (v := .ref (a 64)) (C := RX10) (T := TX10) (N := 7) hx hb hts nX10_payFrom_X10 hown hK hP 0 (wC_0 y a z7) rfl 3 (by decide) (hts (.fieldLink RX10 33 "WorksDesk" "real" "LWorksDesk$Figures;") (List.mem_of_getElem? (i := 4) rfl)) (fun _ h9 => h9) rfl dX10_payFrom_51 ?_
        refine lv_aload_n hx hb dX10_payFrom_54 rfl (lv_at hl 0 rfl) ?_
        refine va_get (D := D) (ci := 10) (v := .ref (a 8)) (C := RX10) (T := TX10) (N := 7) hx hb hts nX10_payFrom_X10 hown hK hP 0 (wC_0 y a z7) rfl 2 (by decide) (hts (.fieldLink RX10 26 "WorksDesk" "book" "LWorksDesk$Book;") (List.mem_of_getElem? (i := 2) rfl)) (fun _ h9 => h9) rfl dX10_payFrom_55 ?_
        refine va_get (D := D) (ci := 2) (v := .ref (a 13)) (C := RX2) (T := TX2) (N := 12) hx hb hts nX10_payFrom_X2 hown hK hP 8 (wC_8 y a z7) rfl 1 (by decide) (hts (.fieldLink RX10 80 "WorksDesk$Book" "clauses" "LWorksDesk$Terms;") (List.mem_of_getElem? (i := 5) rfl)) (fun _ h9 => h9) rfl dX10_payFrom_58 ?_
        refine lv_aload_n hx hb dX10_payFrom_61 rfl (lv_at hl 0 rfl) ?_
        refine va_get (D := D) (ci := 10) (v := .ref (a 98)) (C := RX10) (T := TX10) (N := 7) hx hb hts nX10_payFrom_X10 hown hK hP 0 (wC_0 y a z7) rfl 5 (by decide) (hts (.fieldLink RX10 40 "WorksDesk" "otherPayments" "[J") (List.mem_of_getElem? (i := 1) rfl)) (fun _ h9 => h9) rfl dX10_payFrom_62 ?_
        obtain ⟨r8, z10, h9, hm⟩ := zz_b2_some hm
        refine zz_callv (zz_runV (w := wC y a) (As := [.ref (a 13), .ref (a 98)]) (rest := []) ⟨hx, hb, hml, hown, hts⟩ (zX4_reckonDebt l D y a H.size 64 98 (Or.inl rfl) (Or.inr rfl) z7 h9) (cwV 2 hts gX10_payFrom_X4_reckonDebt rfl rfl rfl zdX4_reckonDebt ⟨Nat.le_of_ble_eq_true rfl, Nat.le_of_ble_eq_true rfl⟩) hK hN hg hP hD hS hA 64 (wC_fig y a z7 64 (Or.inl rfl)) rfl rfl hl.1 rfl (Nat.le_of_ble_eq_true rfl) dX10_payFrom_65 ⟨Nat.le_of_ble_eq_true rfl, Nat.le_of_ble_eq_true rfl⟩) hD hS hA (fun H locs hP hD hS => ?_)
        exact zz_vret hx hb hr hlocks (zz_some2 hm).2 hP hK hD hS dX10_payFrom_68
      · replace hm := zz_neg c4 hm
        refine lv_aload_n hx hb dX10_payFrom_8 rfl (lv_at hl 0 rfl) ?_
        refine va_get (D := D) (ci := 10) (v := .ref (a 98)) (C := RX10) (T := TX10) (N := 7) hx hb hts nX10_payFrom_X10 hown hK hP 0 (wC_0 y a z) rfl 5 (by decide) (hts (.fieldLink RX10 40 "WorksDesk" "otherPayments" "[J") (List.mem_of_getElem? (i := 1) rfl)) (fun _ h9 => h9) rfl dX10_payFrom_9 ?_
        refine lv_iload_n hx hb dX10_payFrom_12 rfl (lv_at hl 3 rfl) ?_
        refine lv_iload_n hx hb dX10_payFrom_13 rfl (lv_at hl 3 rfl) ?_
        refine lv_iload_n hx hb dX10_payFrom_14 rfl (lv_at hl 1 rfl) ?_
        refine lv_icmp_ge (tgt := 30) hx hb dX10_payFrom_15 (by decide) (fun c11 => ?_) (fun c11 => ?_)
        · replace hm := zz_pos c11 hm
          refine lv_iload_n hx hb dX10_payFrom_30 rfl (lv_at hl 2 rfl) ?_
          refine lv_i2l hx hb dX10_payFrom_31 rfl ?_
          have j := J32 (mX10_payFrom_b2 n) ih v1 v2 v3 v2.toInt64 v3 z hm
          rw [hG] at j
          exact j H locs ls hP hD hS (lv_sub hl [0, 1, 2, 3] rfl)
        · replace hm := zz_neg c11 hm
          refine lv_aload_n hx hb dX10_payFrom_18 rfl (lv_at hl 0 rfl) ?_
          refine va_get (D := D) (ci := 10) (v := .ref (a 8)) (C := RX10) (T := TX10) (N := 7) hx hb hts nX10_payFrom_X10 hown hK hP 0 (wC_0 y a z) rfl 2 (by decide) (hts (.fieldLink RX10 26 "WorksDesk" "book" "LWorksDesk$Book;") (List.mem_of_getElem? (i := 2) rfl)) (fun _ h9 => h9) rfl dX10_payFrom_19 ?_
          refine va_get (D := D) (ci := 2) (v := .ref (a 63)) (C := RX2) (T := TX2) (N := 12) hx hb hts nX10_payFrom_X2 hown hK hP 8 (wC_8 y a z) rfl 7 (by decide) (hts (.fieldLink RX10 205 "WorksDesk$Book" "paid" "[J") (List.mem_of_getElem? (i := 3) rfl)) (fun _ h9 => h9) rfl dX10_payFrom_22 ?_
          refine lv_iload_n hx hb dX10_payFrom_25 rfl (lv_at hl 3 rfl) ?_
          obtain ⟨c12, hm⟩ := zz_ck_some hm
          refine va_lald hx hb hK hP 63 1 (wC_63 y a z) rfl c12 dX10_payFrom_26 ?_
          refine lv_goto (tgt := 32) hx hb dX10_payFrom_27 (by decide) ?_
          have j := J32 (mX10_payFrom_b2 n) ih v1 v2 v3 (z.2.1 63 v3.toNatClampNeg) v3 z hm
          rw [hG] at j
          exact j H locs ls hP hD hS (lv_sub hl [0, 1, 2, 3] rfl)
  rw [hG]
  intro H locs ls hP hD hS hl
  unfold mX10_payFrom at hm
  refine lv_iconst (v := (0 : Int32)) hx hb dX10_payFrom_0 (by decide) ?_
  refine lv_istore_n (lv' := [(3, .int (0 : Int32)), (0, .ref (a 0)), (1, .int x1), (2, .int x2)]) hx hb dX10_payFrom_1 rfl hl (by decide) rfl (fun ls hl => ?_)
  have j := J2 zz_N x1 x2 (0 : Int32) z hm
  rw [hG] at j
  exact j H locs ls hP hD hS (lv_sub hl [1, 2, 3, 0] rfl)
def mX10_enough_b34 : Nat → Int32 → Int32 → Int64 → Int32 → zz_M → Option (Int32 × zz_M)
  | 0, _, _, _, _, _ => none
  | n + 1, v1, v2, v3, v5, z => if v2 < v5 then (if (lg_cmp v3 (999999 : Int64)) ≤ (0 : Int32) then (zz_b2 (mX5_start (if (1 : Int64) < v3 then v3 else (1 : Int64)) z) (fun r3 z5 => some ((0 : Int32), z5))) else (some ((-2 : Int32), z))) else (zz_nm (((v5 - v1) + (1 : Int32)).toInt64) (fun n6 => zz_b1 (mX4_of 64 (9 : Int32) v5 z) (fun r7 => zz_ck (¬ n6 = (0 : Int64)) (zz_nm (if (((r7 + n6) - (1 : Int64)) / n6) < v3 then (((r7 + n6) - (1 : Int64)) / n6) else v3) (fun n10 => zz_nm (v5 + (1 : Int32)) (fun n11 => (mX10_enough_b34 n) v1 v2 n10 n11 z))))))
def mX10_enough_b19 (z : zz_M) : Option (Int32 × zz_M) := some ((-1 : Int32), z)
def mX10_enough (x1 : Int32) (x2 : Int32) (z : zz_M) : Option (Int32 × zz_M) := zz_b1 (mX10_isMonth x1) (fun r12 => if r12 = (0 : Int32) then (mX10_enough_b19 z) else (zz_b1 (mX10_isMonth x2) (fun r15 => if r15 = (0 : Int32) then (mX10_enough_b19 z) else (if x1 ≤ x2 then (zz_b2 (mX10_payFrom x1 (0 : Int32) z) (fun r19 z21 => mX10_enough_b34 zz_N x1 x2 (1000000 : Int64) x1 z21)) else (mX10_enough_b19 z)))))
theorem nX10_enough_X10 : ∀ w ∈ wsX100, w ∈ wsX10_enough := fun _ h => List.mem_cons_of_mem _ (List.mem_append_left _ (List.mem_append_left _ (List.mem_append_left _ (List.mem_append_left _ (List.mem_append_left _ (List.mem_append_left _ (List.mem_append_left _ (List.mem_append_left _ (List.mem_append_right _ (h))))))))))
theorem zdX10_enough : yX10_enough.cls = RX10 ∧ yX10_enough.cls ≠ "java/lang/invoke/MethodHandle" ∧ yX10_enough.cls ≠ "java/lang/invoke/VarHandle" ∧ (parseMethodDescriptor yX10_enough.desc).map (fun d => d.parameters.length) = some 2 := by decide +kernel
set_option maxHeartbeats 4000000 in
set_option maxRecDepth 100000 in
theorem zX10_enough (l : Launch) (D : va_G) (y : Nat → ClassId) (a : Nat → Nat) (sz : Nat) (x1 : Int32) (x2 : Int32) (z : zz_M) {r : Int32} {zt : zz_M} (hm : mX10_enough x1 x2 z = some (r, zt)) : Met l yX10_enough wsX10_enough { frames := 6, cells := 0, slots := 0, locals := 152 } (zz_Pc D y (wC y a z) sz [.ref (a 0), .int x1, .int x2]) (zz_Qi D y (wC y a) (va_A (wC y a z) sz) r zt) 0 0 (va_A (wC y a z) sz) := by
  refine Met.ofW (cc := cX10_enough) (maxL := 8) (ret := (some .int)) (by decide) rfl ?_
  intro p e s m args below meth c s₁ B hml hv
  obtain ⟨rfl, hsz, hP, hK, hD0, hN, hg⟩ := hv
  have hx := B.exec
  have hb := B.bytes
  have hr := B.returns
  have hts := atoms_spec (ws := wsX10_enough) B.pre
  have hown : s.vm.findClass RX10 = some m.cls := findClass_of_methodNamed B.named
  have hlocks := B.notSynchronized
  clear B
  subst hsz
  have hD := hD0.self (sz := s.heap.size)
  generalize hAe : va_A (wC y a z) s.heap.size = A at hD hg ⊢
  have hA : ∀ q : Nat, s.heap.size ≤ q → A q := fun q h => by rw [← hAe]; exact Or.inr h
  clear hAe hD0
  have hl := lv_entry ([.ref (a 0), .int x1, .int x2]) (n := 8) (Nat.le_of_ble_eq_true rfl)
  rw [lg_entry_eq]
  generalize (lg_sl ([.ref (a 0), .int x1, .int x2]) ++ List.replicate (8 - (lg_sl ([.ref (a 0), .int x1, .int x2])).length) Slot.unset).toArray = ls at hl ⊢
  replace hl : lv_has ls 8 [(0, .ref (a 0)), (1, .int x1), (2, .int x2)] := hl
  refine zz_go (w := wC y a) hP hD va_S.rf hl (fun G hG => ?_)
  clear hP hD hl ls
  have J34 : ∀ (n : Nat) (v1 : Int32) (v2 : Int32) (v3 : Int64) (v5 : Int32) (z : zz_M), mX10_enough_b34 n v1 v2 v3 v5 z = some (r, zt) → G 34 [(0, .ref (a 0)), (1, .int v1), (2, .int v2), (3, .long v3), (5, .int v5)] [] z := by
    intro n
    induction n with
    | zero =>
      intro v1 v2 v3 v5 z hm
      exact zz_none hm
    | succ n ih =>
      intro v1 v2 v3 v5 z hm
      rw [mX10_enough_b34] at hm
      rw [hG]
      intro H locs ls hP hD hS hl
      refine lv_iload hx hb dX10_enough_34 (lv_at hl 4 rfl) ?_
      refine lv_iload_n hx hb dX10_enough_36 rfl (lv_at hl 2 rfl) ?_
      refine lv_icmp_gt (tgt := 79) hx hb dX10_enough_37 (by decide) (fun c1 => ?_) (fun c1 => ?_)
      · replace hm := zz_pos c1 hm
        refine lv_lload_n hx hb dX10_enough_79 rfl (lv_at hl 3 rfl) ?_
        refine lv_ldc2 (v := (999999 : Int64)) hx hb hown (hts (.constantLong RX10 321 (999999)) (List.mem_of_getElem? (i := 7) rfl)) dX10_enough_80 ?_
        refine W.lcmp hx hb dX10_enough_83 ?_
        refine lv_if_le (tgt := 90) hx hb dX10_enough_84 (by decide) (fun c2 => ?_) (fun c2 => ?_)
        · replace hm := zz_pos c2 hm
          refine lv_aload_n hx hb dX10_enough_90 rfl (lv_at hl 0 rfl) ?_
          refine va_get (D := D) (ci := 10) (v := .ref (a 99)) (C := RX10) (T := TX10) (N := 7) hx hb hts nX10_enough_X10 hown hK hP 0 (wC_0 y a z) rfl 6 (by decide) (hts (.fieldLink RX10 47 "WorksDesk" "lastRow" "LWorksDesk$Row;") (List.mem_of_getElem? (i := 8) rfl)) (fun _ h9 => h9) rfl dX10_enough_91 ?_
          refine lv_lload_n hx hb dX10_enough_94 rfl (lv_at hl 3 rfl) ?_
          refine lv_lconst (v := (1 : Int64)) hx hb dX10_enough_95 (by decide) ?_
          refine va_mmax_long hx hb (hml.trans hl.1.symm) hown (hts (.methodLink RX10 323 Lib.MathLoose.max_long.x) (List.mem_of_getElem? (i := 9) rfl)) (hts (.static Lib.MathLoose.max_long.x) (List.mem_of_getElem? (i := 10) rfl)) (hts (.initialized "java/lang/Math") (List.mem_of_getElem? (i := 5) rfl)) (hts (.code Lib.MathLoose.max_long.x Lib.MathLoose.max_long.code 4 (some .long)) (List.mem_of_getElem? (i := 11) rfl)) (Nat.le_of_ble_eq_true rfl) (Nat.le_of_ble_eq_true rfl) (Nat.le_of_ble_eq_true rfl) (Nat.le_of_ble_eq_true rfl) dX10_enough_96 ?_
          obtain ⟨r3, z5, h4, hm⟩ := zz_b2_some hm
          refine zz_callr (zz_runV (w := wC y a) (As := [.long (if (1 : Int64) < v3 then v3 else (1 : Int64))]) (rest := []) ⟨hx, hb, hml, hown, hts⟩ (zX5_start l D y a H.size (if (1 : Int64) < v3 then v3 else (1 : Int64)) z h4) (cwV 1 hts gX10_enough_X5_start rfl rfl rfl zdX5_start ⟨Nat.le_of_ble_eq_true rfl, Nat.le_of_ble_eq_true rfl⟩) hK hN hg hP hD hS hA 99 (wC_99 y a z) rfl rfl hl.1 rfl (Nat.le_of_ble_eq_true rfl) dX10_enough_99 ⟨Nat.le_of_ble_eq_true rfl, Nat.le_of_ble_eq_true rfl⟩) hD hS hA (fun H locs hP hD hS => ?_)
          refine lv_pop hx hb dX10_enough_102 rfl ?_
          refine lv_iconst (v := (0 : Int32)) hx hb dX10_enough_103 (by decide) ?_
          exact zz_iret hx hb hr hlocks (zz_some2 hm) hP hK hD hS dX10_enough_104
        · replace hm := zz_neg c2 hm
          refine lv_bipush (v := (-2 : Int32)) hx hb dX10_enough_87 (by decide) ?_
          exact zz_iret hx hb hr hlocks (zz_some2 hm) hP hK hD hS dX10_enough_89
      · replace hm := zz_neg c1 hm
        refine lv_iload hx hb dX10_enough_40 (lv_at hl 4 rfl) ?_
        refine lv_iload_n hx hb dX10_enough_42 rfl (lv_at hl 1 rfl) ?_
        refine lv_isub hx hb dX10_enough_43 ?_
        refine lv_iconst (v := (1 : Int32)) hx hb dX10_enough_44 (by decide) ?_
        refine lv_iadd hx hb dX10_enough_45 ?_
        refine lv_i2l hx hb dX10_enough_46 rfl ?_
        refine lv_topl (fun n6 en6 => ?_)
        replace hm := zz_nm_some en6 hm
        refine lv_lstore (lv' := [(6, .long n6), (0, .ref (a 0)), (1, .int v1), (2, .int v2), (3, .long v3), (5, .int v5)]) hx hb dX10_enough_47 hl (by decide) rfl (fun ls hl => ?_)
        refine lv_lload_n hx hb dX10_enough_49 rfl (lv_at hl 4 rfl) ?_
        refine lv_aload_n hx hb dX10_enough_50 rfl (lv_at hl 1 rfl) ?_
        refine va_get (D := D) (ci := 10) (v := .ref (a 64)) (C := RX10) (T := TX10) (N := 7) hx hb hts nX10_enough_X10 hown hK hP 0 (wC_0 y a z) rfl 3 (by decide) (hts (.fieldLink RX10 33 "WorksDesk" "real" "LWorksDesk$Figures;") (List.mem_of_getElem? (i := 2) rfl)) (fun _ h9 => h9) rfl dX10_enough_51 ?_
        refine lv_bipush (v := (9 : Int32)) hx hb dX10_enough_54 (by decide) ?_
        refine lv_iload hx hb dX10_enough_56 (lv_at hl 5 rfl) ?_
        obtain ⟨r7, h8, hm⟩ := zz_b1_some hm
        refine zz_calll (zz_runV (w := wC y a) (As := [.int (9 : Int32), .int v5]) (rest := [.long v3]) ⟨hx, hb, hml, hown, hts⟩ (zX4_of l D y a H.size 64 (9 : Int32) v5 (Or.inl rfl) z h8) (cwV 2 hts gX10_enough_X4_of rfl rfl rfl zdX4_of ⟨Nat.le_of_ble_eq_true rfl, Nat.le_of_ble_eq_true rfl⟩) hK hN hg hP hD hS hA 64 (wC_fig y a z 64 (Or.inl rfl)) rfl rfl hl.1 rfl (Nat.le_of_ble_eq_true rfl) dX10_enough_58 ⟨Nat.le_of_ble_eq_true rfl, Nat.le_of_ble_eq_true rfl⟩) hD hS hA (fun H locs hP hD hS => ?_)
        refine lv_lload hx hb dX10_enough_61 (lv_at hl 0 rfl) ?_
        refine lv_ladd hx hb dX10_enough_63 ?_
        refine lv_lconst (v := (1 : Int64)) hx hb dX10_enough_64 (by decide) ?_
        refine lv_lsub hx hb dX10_enough_65 ?_
        refine lv_lload hx hb dX10_enough_66 (lv_at hl 0 rfl) ?_
        obtain ⟨c9, hm⟩ := zz_ck_some hm
        refine lv_ldiv hx hb dX10_enough_68 c9 ?_
        refine va_mmin_long hx hb (hml.trans hl.1.symm) hown (hts (.methodLink RX10 315 Lib.MathLoose.min_long.x) (List.mem_of_getElem? (i := 3) rfl)) (hts (.static Lib.MathLoose.min_long.x) (List.mem_of_getElem? (i := 4) rfl)) (hts (.initialized "java/lang/Math") (List.mem_of_getElem? (i := 5) rfl)) (hts (.code Lib.MathLoose.min_long.x Lib.MathLoose.min_long.code 4 (some .long)) (List.mem_of_getElem? (i := 6) rfl)) (Nat.le_of_ble_eq_true rfl) (Nat.le_of_ble_eq_true rfl) (Nat.le_of_ble_eq_true rfl) (Nat.le_of_ble_eq_true rfl) dX10_enough_69 ?_
        refine lv_topl (fun n10 en10 => ?_)
        replace hm := zz_nm_some en10 hm
        refine lv_lstore_n (lv' := [(3, .long n10), (6, .long n6), (0, .ref (a 0)), (1, .int v1), (2, .int v2), (5, .int v5)]) hx hb dX10_enough_72 rfl hl (by decide) rfl (fun ls hl => ?_)
        obtain ⟨n11, en11⟩ : ∃ q : Int32, q = v5 + (1 : Int32) := ⟨_, rfl⟩
        replace hm := zz_nm_some en11 hm
        refine lv_iinc (v := n11) (lv' := [(5, .int n11), (3, .long n10), (6, .long n6), (0, .ref (a 0)), (1, .int v1), (2, .int v2)]) hx hb dX10_enough_73 hl (k := 5) rfl (by rw [en11]; rfl) (by decide) rfl (fun ls hl => ?_)
        refine lv_goto (tgt := 34) hx hb dX10_enough_76 (by decide) ?_
        have j := ih v1 v2 n10 n11 z hm
        rw [hG] at j
        exact j H locs ls hP hD hS (lv_sub hl [3, 4, 5, 1, 0] rfl)
  have J19 : ∀ (z : zz_M), mX10_enough_b19 z = some (r, zt) → G 19 [] [] z := by
    intro z hm
    rw [mX10_enough_b19] at hm
    rw [hG]
    intro H locs ls hP hD hS hl
    refine lv_iconst (v := (-1 : Int32)) hx hb dX10_enough_19 (by decide) ?_
    exact zz_iret hx hb hr hlocks (zz_some2 hm) hP hK hD hS dX10_enough_20
  rw [hG]
  intro H locs ls hP hD hS hl
  unfold mX10_enough at hm
  refine lv_iload_n hx hb dX10_enough_0 rfl (lv_at hl 1 rfl) ?_
  obtain ⟨r12, h13, hm⟩ := zz_b1_some hm
  refine zz_calli (zz_runS (w := wC y a) (As := [.int x1]) (rest := []) ⟨hx, hb, hml, hown, hts⟩ (zX10_isMonth l D y a H.size x1 z h13) (va_cwS 1 hts gX10_enough_X10_isMonth rfl rfl rfl zdX10_isMonth ⟨Nat.le_of_ble_eq_true rfl, Nat.le_of_ble_eq_true rfl⟩) hK hN hg hP hD hS hA rfl hl.1 rfl (Nat.le_of_ble_eq_true rfl) dX10_enough_1 ⟨Nat.le_of_ble_eq_true rfl, Nat.le_of_ble_eq_true rfl⟩) hD hS hA (fun H locs hP hD hS => ?_)
  refine lv_if_eq (tgt := 19) hx hb dX10_enough_4 (by decide) (fun c14 => ?_) (fun c14 => ?_)
  · replace hm := zz_pos c14 hm
    have j := J19 z hm
    rw [hG] at j
    exact j H locs ls hP hD hS (lv_sub hl [] rfl)
  · replace hm := zz_neg c14 hm
    refine lv_iload_n hx hb dX10_enough_7 rfl (lv_at hl 2 rfl) ?_
    obtain ⟨r15, h16, hm⟩ := zz_b1_some hm
    refine zz_calli (zz_runS (w := wC y a) (As := [.int x2]) (rest := []) ⟨hx, hb, hml, hown, hts⟩ (zX10_isMonth l D y a H.size x2 z h16) (va_cwS 1 hts gX10_enough_X10_isMonth rfl rfl rfl zdX10_isMonth ⟨Nat.le_of_ble_eq_true rfl, Nat.le_of_ble_eq_true rfl⟩) hK hN hg hP hD hS hA rfl hl.1 rfl (Nat.le_of_ble_eq_true rfl) dX10_enough_8 ⟨Nat.le_of_ble_eq_true rfl, Nat.le_of_ble_eq_true rfl⟩) hD hS hA (fun H locs hP hD hS => ?_)
    refine lv_if_eq (tgt := 19) hx hb dX10_enough_11 (by decide) (fun c17 => ?_) (fun c17 => ?_)
    · replace hm := zz_pos c17 hm
      have j := J19 z hm
      rw [hG] at j
      exact j H locs ls hP hD hS (lv_sub hl [] rfl)
    · replace hm := zz_neg c17 hm
      refine lv_iload_n hx hb dX10_enough_14 rfl (lv_at hl 2 rfl) ?_
      refine lv_iload_n hx hb dX10_enough_15 rfl (lv_at hl 1 rfl) ?_
      refine lv_icmp_ge (tgt := 21) hx hb dX10_enough_16 (by decide) (fun c18 => ?_) (fun c18 => ?_)
      · replace hm := zz_pos c18 hm
        refine lv_aload_n hx hb dX10_enough_21 rfl (lv_at hl 0 rfl) ?_
        refine lv_iload_n hx hb dX10_enough_22 rfl (lv_at hl 1 rfl) ?_
        refine lv_iconst (v := (0 : Int32)) hx hb dX10_enough_23 (by decide) ?_
        obtain ⟨r19, z21, h20, hm⟩ := zz_b2_some hm
        refine zz_callv (zz_runV (w := wC y a) (As := [.int x1, .int (0 : Int32)]) (rest := []) ⟨hx, hb, hml, hown, hts⟩ (zX10_payFrom l D y a H.size x1 (0 : Int32) z h20) (cwV 2 hts gX10_enough_X10_payFrom rfl rfl rfl zdX10_payFrom ⟨Nat.le_of_ble_eq_true rfl, Nat.le_of_ble_eq_true rfl⟩) hK hN hg hP hD hS hA 0 (wC_0 y a z) rfl rfl hl.1 rfl (Nat.le_of_ble_eq_true rfl) dX10_enough_24 ⟨Nat.le_of_ble_eq_true rfl, Nat.le_of_ble_eq_true rfl⟩) hD hS hA (fun H locs hP hD hS => ?_)
        refine lv_ldc2 (v := (1000000 : Int64)) hx hb hown (hts (.constantLong RX10 313 (1000000)) (List.mem_of_getElem? (i := 1) rfl)) dX10_enough_27 ?_
        refine lv_lstore_n (lv' := [(3, .long (1000000 : Int64)), (0, .ref (a 0)), (1, .int x1), (2, .int x2)]) hx hb dX10_enough_30 rfl hl (by decide) rfl (fun ls hl => ?_)
        refine lv_iload_n hx hb dX10_enough_31 rfl (lv_at hl 2 rfl) ?_
        refine lv_istore (lv' := [(5, .int x1), (3, .long (1000000 : Int64)), (0, .ref (a 0)), (1, .int x1), (2, .int x2)]) hx hb dX10_enough_32 hl (by decide) rfl (fun ls hl => ?_)
        have j := J34 zz_N x1 x2 (1000000 : Int64) x1 z21 hm
        rw [hG] at j
        exact j H locs ls hP hD hS (lv_sub hl [2, 3, 4, 1, 0] rfl)
      · replace hm := zz_neg c18 hm
        have j := J19 z hm
        rw [hG] at j
        exact j H locs ls hP hD hS (lv_sub hl [] rfl)
def mX10_grants (x1 : Int32) (z : zz_M) : Option (Int32 × zz_M) := zz_b1 (mX10_isWithin x1 (1 : Int32) (12 : Int32)) (fun r1 => if r1 = (0 : Int32) then (some ((-1 : Int32), z)) else (if (z.2.2.1 522) = (24 : Int32) then (some ((-2 : Int32), z)) else (if ((z.2.2.1 523) + x1) ≤ (12 : Int32) then (zz_nm (zz_sF z 523 ((z.2.2.1 523) + x1)) (fun z6 => some (z6.2.2.1 523, z6))) else (some ((-3 : Int32), z)))))
theorem nX10_grants_X10 : ∀ w ∈ wsX100, w ∈ wsX10_grants := fun _ h => List.mem_cons_of_mem _ (List.mem_append_left _ (List.mem_append_right _ (h)))
theorem nX10_grants_X2 : ∀ w ∈ wsX20, w ∈ wsX10_grants := fun _ h => List.mem_cons_of_mem _ (List.mem_append_right _ (h))
theorem zdX10_grants : yX10_grants.cls = RX10 ∧ yX10_grants.cls ≠ "java/lang/invoke/MethodHandle" ∧ yX10_grants.cls ≠ "java/lang/invoke/VarHandle" ∧ (parseMethodDescriptor yX10_grants.desc).map (fun d => d.parameters.length) = some 1 := by decide +kernel
set_option maxHeartbeats 4000000 in
set_option maxRecDepth 100000 in
theorem zX10_grants (l : Launch) (D : va_G) (y : Nat → ClassId) (a : Nat → Nat) (sz : Nat) (x1 : Int32) (z : zz_M) {r : Int32} {zt : zz_M} (hm : mX10_grants x1 z = some (r, zt)) : Met l yX10_grants wsX10_grants { frames := 1, cells := 0, slots := 0, locals := 22 } (zz_Pc D y (wC y a z) sz [.ref (a 0), .int x1]) (zz_Qi D y (wC y a) (va_A (wC y a z) sz) r zt) 0 0 (va_A (wC y a z) sz) := by
  refine Met.ofW (cc := cX10_grants) (maxL := 2) (ret := (some .int)) (by decide) rfl ?_
  intro p e s m args below meth c s₁ B hml hv
  obtain ⟨rfl, hsz, hP, hK, hD0, hN, hg⟩ := hv
  have hx := B.exec
  have hb := B.bytes
  have hr := B.returns
  have hts := atoms_spec (ws := wsX10_grants) B.pre
  have hown : s.vm.findClass RX10 = some m.cls := findClass_of_methodNamed B.named
  have hlocks := B.notSynchronized
  clear B
  subst hsz
  have hD := hD0.self (sz := s.heap.size)
  generalize hAe : va_A (wC y a z) s.heap.size = A at hD hg ⊢
  have hA : ∀ q : Nat, s.heap.size ≤ q → A q := fun q h => by rw [← hAe]; exact Or.inr h
  clear hAe hD0
  have hl := lv_entry ([.ref (a 0), .int x1]) (n := 2) (Nat.le_of_ble_eq_true rfl)
  rw [lg_entry_eq]
  generalize (lg_sl ([.ref (a 0), .int x1]) ++ List.replicate (2 - (lg_sl ([.ref (a 0), .int x1])).length) Slot.unset).toArray = ls at hl ⊢
  replace hl : lv_has ls 2 [(0, .ref (a 0)), (1, .int x1)] := hl
  refine zz_go (w := wC y a) hP hD va_S.rf hl (fun G hG => ?_)
  clear hP hD hl ls
  rw [hG]
  intro H locs ls hP hD hS hl
  unfold mX10_grants at hm
  refine lv_iload_n hx hb dX10_grants_0 rfl (lv_at hl 1 rfl) ?_
  refine lv_iconst (v := (1 : Int32)) hx hb dX10_grants_1 (by decide) ?_
  refine lv_bipush (v := (12 : Int32)) hx hb dX10_grants_2 (by decide) ?_
  obtain ⟨r1, h2, hm⟩ := zz_b1_some hm
  refine zz_calli (zz_runS (w := wC y a) (As := [.int x1, .int (1 : Int32), .int (12 : Int32)]) (rest := []) ⟨hx, hb, hml, hown, hts⟩ (zX10_isWithin l D y a H.size x1 (1 : Int32) (12 : Int32) z h2) (va_cwS 3 hts gX10_grants_X10_isWithin rfl rfl rfl zdX10_isWithin ⟨Nat.le_of_ble_eq_true rfl, Nat.le_of_ble_eq_true rfl⟩) hK hN hg hP hD hS hA rfl hl.1 rfl (Nat.le_of_ble_eq_true rfl) dX10_grants_4 ⟨Nat.le_of_ble_eq_true rfl, Nat.le_of_ble_eq_true rfl⟩) hD hS hA (fun H locs hP hD hS => ?_)
  refine lv_if_ne (tgt := 12) hx hb dX10_grants_7 (by decide) (fun c3 => ?_) (fun c3 => ?_)
  · replace hm := zz_neg c3 hm
    refine lv_aload_n hx hb dX10_grants_12 rfl (lv_at hl 0 rfl) ?_
    refine va_get (D := D) (ci := 10) (v := .ref (a 8)) (C := RX10) (T := TX10) (N := 7) hx hb hts nX10_grants_X10 hown hK hP 0 (wC_0 y a z) rfl 2 (by decide) (hts (.fieldLink RX10 26 "WorksDesk" "book" "LWorksDesk$Book;") (List.mem_of_getElem? (i := 1) rfl)) (fun _ h9 => h9) rfl dX10_grants_13 ?_
    refine va_get (D := D) (ci := 2) (v := .int (z.2.2.1 522)) (C := RX2) (T := TX2) (N := 12) hx hb hts nX10_grants_X2 hown hK hP 8 (wC_8 y a z) rfl 10 (by decide) (hts (.fieldLink RX10 208 "WorksDesk$Book" "dueBy" "I") (List.mem_of_getElem? (i := 2) rfl)) (fun _ h9 => h9) rfl dX10_grants_16 ?_
    refine lv_bipush (v := (24 : Int32)) hx hb dX10_grants_19 (by decide) ?_
    refine lv_icmp_ne (tgt := 27) hx hb dX10_grants_21 (by decide) (fun c4 => ?_) (fun c4 => ?_)
    · replace hm := zz_neg c4 hm
      refine lv_aload_n hx hb dX10_grants_27 rfl (lv_at hl 0 rfl) ?_
      refine va_get (D := D) (ci := 10) (v := .ref (a 8)) (C := RX10) (T := TX10) (N := 7) hx hb hts nX10_grants_X10 hown hK hP 0 (wC_0 y a z) rfl 2 (by decide) (hts (.fieldLink RX10 26 "WorksDesk" "book" "LWorksDesk$Book;") (List.mem_of_getElem? (i := 1) rfl)) (fun _ h9 => h9) rfl dX10_grants_28 ?_
      refine va_get (D := D) (ci := 2) (v := .int (z.2.2.1 523)) (C := RX2) (T := TX2) (N := 12) hx hb hts nX10_grants_X2 hown hK hP 8 (wC_8 y a z) rfl 11 (by decide) (hts (.fieldLink RX10 211 "WorksDesk$Book" "granted" "I") (List.mem_of_getElem? (i := 3) rfl)) (fun _ h9 => h9) rfl dX10_grants_31 ?_
      refine lv_iload_n hx hb dX10_grants_34 rfl (lv_at hl 1 rfl) ?_
      refine lv_iadd hx hb dX10_grants_35 ?_
      refine lv_bipush (v := (12 : Int32)) hx hb dX10_grants_36 (by decide) ?_
      refine lv_icmp_le (tgt := 44) hx hb dX10_grants_38 (by decide) (fun c5 => ?_) (fun c5 => ?_)
      · replace hm := zz_pos c5 hm
        refine lv_aload_n hx hb dX10_grants_44 rfl (lv_at hl 0 rfl) ?_
        refine va_get (D := D) (ci := 10) (v := .ref (a 8)) (C := RX10) (T := TX10) (N := 7) hx hb hts nX10_grants_X10 hown hK hP 0 (wC_0 y a z) rfl 2 (by decide) (hts (.fieldLink RX10 26 "WorksDesk" "book" "LWorksDesk$Book;") (List.mem_of_getElem? (i := 1) rfl)) (fun _ h9 => h9) rfl dX10_grants_45 ?_
        refine lv_dup hx hb dX10_grants_48 rfl ?_
        refine va_get (D := D) (ci := 2) (v := .int (z.2.2.1 523)) (C := RX2) (T := TX2) (N := 12) hx hb hts nX10_grants_X2 hown hK hP 8 (wC_8 y a z) rfl 11 (by decide) (hts (.fieldLink RX10 211 "WorksDesk$Book" "granted" "I") (List.mem_of_getElem? (i := 3) rfl)) (fun _ h9 => h9) rfl dX10_grants_49 ?_
        refine lv_iload_n hx hb dX10_grants_52 rfl (lv_at hl 1 rfl) ?_
        refine lv_iadd hx hb dX10_grants_53 ?_
        refine va_put (D := D) (ci := 2) (v := .int ((z.2.2.1 523) + x1)) (ty := .int) (C := RX2) (T := TX2) (N := 12) hx hb hts nX10_grants_X2 tyX2 tyX2_ok nmX2 hown hK hP hD hS 8 (wC_8 y a z) rfl 11 (by decide) (hts (.fieldLink RX10 211 "WorksDesk$Book" "granted" "I") (List.mem_of_getElem? (i := 3) rfl)) (fun _ h9 => h9) rfl (tyX2_ok 11 (by decide)) rfl rfl (Nat.le_of_ble_eq_true rfl) dX10_grants_54 (fun H locs hP hD hS => ?_)
        obtain ⟨z6, hP, hD, hm⟩ := zz_up (w := wC y a) (wC_f8_11 y a z ((z.2.2.1 523) + x1)) hP hD hm
        refine lv_aload_n hx hb dX10_grants_57 rfl (lv_at hl 0 rfl) ?_
        refine va_get (D := D) (ci := 10) (v := .ref (a 8)) (C := RX10) (T := TX10) (N := 7) hx hb hts nX10_grants_X10 hown hK hP 0 (wC_0 y a z6) rfl 2 (by decide) (hts (.fieldLink RX10 26 "WorksDesk" "book" "LWorksDesk$Book;") (List.mem_of_getElem? (i := 1) rfl)) (fun _ h9 => h9) rfl dX10_grants_58 ?_
        refine va_get (D := D) (ci := 2) (v := .int (z6.2.2.1 523)) (C := RX2) (T := TX2) (N := 12) hx hb hts nX10_grants_X2 hown hK hP 8 (wC_8 y a z6) rfl 11 (by decide) (hts (.fieldLink RX10 211 "WorksDesk$Book" "granted" "I") (List.mem_of_getElem? (i := 3) rfl)) (fun _ h9 => h9) rfl dX10_grants_61 ?_
        exact zz_iret hx hb hr hlocks (zz_some2 hm) hP hK hD hS dX10_grants_64
      · replace hm := zz_neg c5 hm
        refine lv_bipush (v := (-3 : Int32)) hx hb dX10_grants_41 (by decide) ?_
        exact zz_iret hx hb hr hlocks (zz_some2 hm) hP hK hD hS dX10_grants_43
    · replace hm := zz_pos c4 hm
      refine lv_bipush (v := (-2 : Int32)) hx hb dX10_grants_24 (by decide) ?_
      exact zz_iret hx hb hr hlocks (zz_some2 hm) hP hK hD hS dX10_grants_26
  · replace hm := zz_pos c3 hm
    refine lv_iconst (v := (-1 : Int32)) hx hb dX10_grants_10 (by decide) ?_
    exact zz_iret hx hb hr hlocks (zz_some2 hm) hP hK hD hS dX10_grants_11
def mX10_greatestRetained_b5 (z : zz_M) : Nat → Int32 → Int64 → Int32 → Option Int64
  | 0, _, _, _ => none
  | n + 1, v1, v2, v4 => if (24 : Int32) ≤ v4 then (some v2) else (zz_b1 (mX4_of 64 (0 : Int32) v4 z) (fun r2 => zz_b1 (mX2_retained v1 r2 v4 z) (fun r4 => zz_nm (if r4 < v2 then v2 else r4) (fun n6 => zz_nm (v4 + (1 : Int32)) (fun n7 => (mX10_greatestRetained_b5 z n) v1 n6 n7)))))
def mX10_greatestRetained (x1 : Int32) (z : zz_M) : Option Int64 := mX10_greatestRetained_b5 z zz_N x1 (0 : Int64) (0 : Int32)
theorem nX10_greatestRetained_X10 : ∀ w ∈ wsX100, w ∈ wsX10_greatestRetained := fun _ h => List.mem_cons_of_mem _ (List.mem_append_left _ (List.mem_append_left _ (List.mem_append_left _ (List.mem_append_left _ (List.mem_append_right _ (h))))))
theorem zdX10_greatestRetained : yX10_greatestRetained.cls = RX10 ∧ yX10_greatestRetained.cls ≠ "java/lang/invoke/MethodHandle" ∧ yX10_greatestRetained.cls ≠ "java/lang/invoke/VarHandle" ∧ (parseMethodDescriptor yX10_greatestRetained.desc).map (fun d => d.parameters.length) = some 1 := by decide +kernel
set_option maxHeartbeats 4000000 in
set_option maxRecDepth 100000 in
theorem zX10_greatestRetained (l : Launch) (D : va_G) (y : Nat → ClassId) (a : Nat → Nat) (sz : Nat) (x1 : Int32) (z : zz_M) {r : Int64} (hm : mX10_greatestRetained x1 z = some r) : Met l yX10_greatestRetained wsX10_greatestRetained { frames := 3, cells := 0, slots := 0, locals := 68 } (zz_Pc D y (wC y a z) sz [.ref (a 0), .int x1]) (zz_Ql D y (wC y a) (va_A (wC y a z) sz) r z) 0 0 (va_A (wC y a z) sz) := by
  refine Met.ofW (cc := cX10_greatestRetained) (maxL := 5) (ret := (some .long)) (by decide) rfl ?_
  intro p e s m args below meth c s₁ B hml hv
  obtain ⟨rfl, hsz, hP, hK, hD0, hN, hg⟩ := hv
  have hx := B.exec
  have hb := B.bytes
  have hr := B.returns
  have hts := atoms_spec (ws := wsX10_greatestRetained) B.pre
  have hown : s.vm.findClass RX10 = some m.cls := findClass_of_methodNamed B.named
  have hlocks := B.notSynchronized
  clear B
  subst hsz
  have hD := hD0.self (sz := s.heap.size)
  generalize hAe : va_A (wC y a z) s.heap.size = A at hD hg ⊢
  have hA : ∀ q : Nat, s.heap.size ≤ q → A q := fun q h => by rw [← hAe]; exact Or.inr h
  clear hAe hD0
  have hl := lv_entry ([.ref (a 0), .int x1]) (n := 5) (Nat.le_of_ble_eq_true rfl)
  rw [lg_entry_eq]
  generalize (lg_sl ([.ref (a 0), .int x1]) ++ List.replicate (5 - (lg_sl ([.ref (a 0), .int x1])).length) Slot.unset).toArray = ls at hl ⊢
  replace hl : lv_has ls 5 [(0, .ref (a 0)), (1, .int x1)] := hl
  refine zz_go (w := wC y a) hP hD va_S.rf hl (fun G hG => ?_)
  clear hP hD hl ls
  have J5 : ∀ (n : Nat) (v1 : Int32) (v2 : Int64) (v4 : Int32), mX10_greatestRetained_b5 z n v1 v2 v4 = some r → G 5 [(0, .ref (a 0)), (1, .int v1), (2, .long v2), (4, .int v4)] [] z := by
    intro n
    induction n with
    | zero =>
      intro v1 v2 v4 hm
      exact zz_none hm
    | succ n ih =>
      intro v1 v2 v4 hm
      rw [mX10_greatestRetained_b5] at hm
      rw [hG]
      intro H locs ls hP hD hS hl
      refine lv_iload hx hb dX10_greatestRetained_5 (lv_at hl 3 rfl) ?_
      refine lv_bipush (v := (24 : Int32)) hx hb dX10_greatestRetained_7 (by decide) ?_
      refine lv_icmp_ge (tgt := 43) hx hb dX10_greatestRetained_9 (by decide) (fun c1 => ?_) (fun c1 => ?_)
      · replace hm := zz_pos c1 hm
        refine lv_lload_n hx hb dX10_greatestRetained_43 rfl (lv_at hl 2 rfl) ?_
        exact zz_lret hx hb hr hlocks ⟨zz_some1 hm, rfl⟩ hP hK hD hS dX10_greatestRetained_44
      · replace hm := zz_neg c1 hm
        refine lv_lload_n hx hb dX10_greatestRetained_12 rfl (lv_at hl 2 rfl) ?_
        refine lv_aload_n hx hb dX10_greatestRetained_13 rfl (lv_at hl 0 rfl) ?_
        refine va_get (D := D) (ci := 10) (v := .ref (a 8)) (C := RX10) (T := TX10) (N := 7) hx hb hts nX10_greatestRetained_X10 hown hK hP 0 (wC_0 y a z) rfl 2 (by decide) (hts (.fieldLink RX10 26 "WorksDesk" "book" "LWorksDesk$Book;") (List.mem_of_getElem? (i := 1) rfl)) (fun _ h9 => h9) rfl dX10_greatestRetained_14 ?_
        refine lv_iload_n hx hb dX10_greatestRetained_17 rfl (lv_at hl 1 rfl) ?_
        refine lv_aload_n hx hb dX10_greatestRetained_18 rfl (lv_at hl 0 rfl) ?_
        refine va_get (D := D) (ci := 10) (v := .ref (a 64)) (C := RX10) (T := TX10) (N := 7) hx hb hts nX10_greatestRetained_X10 hown hK hP 0 (wC_0 y a z) rfl 3 (by decide) (hts (.fieldLink RX10 33 "WorksDesk" "real" "LWorksDesk$Figures;") (List.mem_of_getElem? (i := 2) rfl)) (fun _ h9 => h9) rfl dX10_greatestRetained_19 ?_
        refine lv_iconst (v := (0 : Int32)) hx hb dX10_greatestRetained_22 (by decide) ?_
        refine lv_iload hx hb dX10_greatestRetained_23 (lv_at hl 3 rfl) ?_
        obtain ⟨r2, h3, hm⟩ := zz_b1_some hm
        refine zz_calll (zz_runV (w := wC y a) (As := [.int (0 : Int32), .int v4]) (rest := [.int v1, .ref (a 8), .long v2]) ⟨hx, hb, hml, hown, hts⟩ (zX4_of l D y a H.size 64 (0 : Int32) v4 (Or.inl rfl) z h3) (cwV 2 hts gX10_greatestRetained_X4_of rfl rfl rfl zdX4_of ⟨Nat.le_of_ble_eq_true rfl, Nat.le_of_ble_eq_true rfl⟩) hK hN hg hP hD hS hA 64 (wC_fig y a z 64 (Or.inl rfl)) rfl rfl hl.1 rfl (Nat.le_of_ble_eq_true rfl) dX10_greatestRetained_25 ⟨Nat.le_of_ble_eq_true rfl, Nat.le_of_ble_eq_true rfl⟩) hD hS hA (fun H locs hP hD hS => ?_)
        refine lv_iload hx hb dX10_greatestRetained_28 (lv_at hl 3 rfl) ?_
        obtain ⟨r4, h5, hm⟩ := zz_b1_some hm
        refine zz_calll (zz_runV (w := wC y a) (As := [.int v1, .long r2, .int v4]) (rest := [.long v2]) ⟨hx, hb, hml, hown, hts⟩ (zX2_retained l D y a H.size v1 r2 v4 z h5) (cwV 3 hts gX10_greatestRetained_X2_retained rfl rfl rfl zdX2_retained ⟨Nat.le_of_ble_eq_true rfl, Nat.le_of_ble_eq_true rfl⟩) hK hN hg hP hD hS hA 8 (wC_8 y a z) rfl rfl hl.1 rfl (Nat.le_of_ble_eq_true rfl) dX10_greatestRetained_30 ⟨Nat.le_of_ble_eq_true rfl, Nat.le_of_ble_eq_true rfl⟩) hD hS hA (fun H locs hP hD hS => ?_)
        refine va_mmax_long hx hb (hml.trans hl.1.symm) hown (hts (.methodLink RX10 323 Lib.MathLoose.max_long.x) (List.mem_of_getElem? (i := 3) rfl)) (hts (.static Lib.MathLoose.max_long.x) (List.mem_of_getElem? (i := 4) rfl)) (hts (.initialized "java/lang/Math") (List.mem_of_getElem? (i := 5) rfl)) (hts (.code Lib.MathLoose.max_long.x Lib.MathLoose.max_long.code 4 (some .long)) (List.mem_of_getElem? (i := 6) rfl)) (Nat.le_of_ble_eq_true rfl) (Nat.le_of_ble_eq_true rfl) (Nat.le_of_ble_eq_true rfl) (Nat.le_of_ble_eq_true rfl) dX10_greatestRetained_33 ?_
        refine lv_topl (fun n6 en6 => ?_)
        replace hm := zz_nm_some en6 hm
        refine lv_lstore_n (lv' := [(2, .long n6), (0, .ref (a 0)), (1, .int v1), (4, .int v4)]) hx hb dX10_greatestRetained_36 rfl hl (by decide) rfl (fun ls hl => ?_)
        obtain ⟨n7, en7⟩ : ∃ q : Int32, q = v4 + (1 : Int32) := ⟨_, rfl⟩
        replace hm := zz_nm_some en7 hm
        refine lv_iinc (v := n7) (lv' := [(4, .int n7), (2, .long n6), (0, .ref (a 0)), (1, .int v1)]) hx hb dX10_greatestRetained_37 hl (k := 3) rfl (by rw [en7]; rfl) (by decide) rfl (fun ls hl => ?_)
        refine lv_goto (tgt := 5) hx hb dX10_greatestRetained_40 (by decide) ?_
        have j := ih v1 n6 n7 hm
        rw [hG] at j
        exact j H locs ls hP hD hS (lv_sub hl [2, 3, 1, 0] rfl)
  rw [hG]
  intro H locs ls hP hD hS hl
  unfold mX10_greatestRetained at hm
  refine lv_lconst (v := (0 : Int64)) hx hb dX10_greatestRetained_0 (by decide) ?_
  refine lv_lstore_n (lv' := [(2, .long (0 : Int64)), (0, .ref (a 0)), (1, .int x1)]) hx hb dX10_greatestRetained_1 rfl hl (by decide) rfl (fun ls hl => ?_)
  refine lv_iconst (v := (0 : Int32)) hx hb dX10_greatestRetained_2 (by decide) ?_
  refine lv_istore (lv' := [(4, .int (0 : Int32)), (2, .long (0 : Int64)), (0, .ref (a 0)), (1, .int x1)]) hx hb dX10_greatestRetained_3 hl (by decide) rfl (fun ls hl => ?_)
  have j := J5 zz_N x1 (0 : Int64) (0 : Int32) hm
  rw [hG] at j
  exact j H locs ls hP hD hS (lv_sub hl [2, 3, 1, 0] rfl)
def mX10_handover (x1 : Int32) (z : zz_M) : Option (Int32 × zz_M) := zz_b1 (mX10_isMonth x1) (fun r1 => if r1 = (0 : Int32) then (some ((-1 : Int32), z)) else (if (z.2.2.1 520) = x1 then (some ((-2 : Int32), z)) else (if x1 ≤ (z.2.2.1 521) then (zz_nm (zz_sF z 520 x1) (fun z6 => some (z.2.2.1 520, z6))) else (some ((-3 : Int32), z)))))
theorem nX10_handover_X10 : ∀ w ∈ wsX100, w ∈ wsX10_handover := fun _ h => List.mem_cons_of_mem _ (List.mem_append_left _ (List.mem_append_right _ (h)))
theorem nX10_handover_X2 : ∀ w ∈ wsX20, w ∈ wsX10_handover := fun _ h => List.mem_cons_of_mem _ (List.mem_append_right _ (h))
theorem zdX10_handover : yX10_handover.cls = RX10 ∧ yX10_handover.cls ≠ "java/lang/invoke/MethodHandle" ∧ yX10_handover.cls ≠ "java/lang/invoke/VarHandle" ∧ (parseMethodDescriptor yX10_handover.desc).map (fun d => d.parameters.length) = some 1 := by decide +kernel
set_option maxHeartbeats 4000000 in
set_option maxRecDepth 100000 in
theorem zX10_handover (l : Launch) (D : va_G) (y : Nat → ClassId) (a : Nat → Nat) (sz : Nat) (x1 : Int32) (z : zz_M) {r : Int32} {zt : zz_M} (hm : mX10_handover x1 z = some (r, zt)) : Met l yX10_handover wsX10_handover { frames := 2, cells := 0, slots := 0, locals := 42 } (zz_Pc D y (wC y a z) sz [.ref (a 0), .int x1]) (zz_Qi D y (wC y a) (va_A (wC y a z) sz) r zt) 0 0 (va_A (wC y a z) sz) := by
  refine Met.ofW (cc := cX10_handover) (maxL := 3) (ret := (some .int)) (by decide) rfl ?_
  intro p e s m args below meth c s₁ B hml hv
  obtain ⟨rfl, hsz, hP, hK, hD0, hN, hg⟩ := hv
  have hx := B.exec
  have hb := B.bytes
  have hr := B.returns
  have hts := atoms_spec (ws := wsX10_handover) B.pre
  have hown : s.vm.findClass RX10 = some m.cls := findClass_of_methodNamed B.named
  have hlocks := B.notSynchronized
  clear B
  subst hsz
  have hD := hD0.self (sz := s.heap.size)
  generalize hAe : va_A (wC y a z) s.heap.size = A at hD hg ⊢
  have hA : ∀ q : Nat, s.heap.size ≤ q → A q := fun q h => by rw [← hAe]; exact Or.inr h
  clear hAe hD0
  have hl := lv_entry ([.ref (a 0), .int x1]) (n := 3) (Nat.le_of_ble_eq_true rfl)
  rw [lg_entry_eq]
  generalize (lg_sl ([.ref (a 0), .int x1]) ++ List.replicate (3 - (lg_sl ([.ref (a 0), .int x1])).length) Slot.unset).toArray = ls at hl ⊢
  replace hl : lv_has ls 3 [(0, .ref (a 0)), (1, .int x1)] := hl
  refine zz_go (w := wC y a) hP hD va_S.rf hl (fun G hG => ?_)
  clear hP hD hl ls
  rw [hG]
  intro H locs ls hP hD hS hl
  unfold mX10_handover at hm
  refine lv_iload_n hx hb dX10_handover_0 rfl (lv_at hl 1 rfl) ?_
  obtain ⟨r1, h2, hm⟩ := zz_b1_some hm
  refine zz_calli (zz_runS (w := wC y a) (As := [.int x1]) (rest := []) ⟨hx, hb, hml, hown, hts⟩ (zX10_isMonth l D y a H.size x1 z h2) (va_cwS 1 hts gX10_handover_X10_isMonth rfl rfl rfl zdX10_isMonth ⟨Nat.le_of_ble_eq_true rfl, Nat.le_of_ble_eq_true rfl⟩) hK hN hg hP hD hS hA rfl hl.1 rfl (Nat.le_of_ble_eq_true rfl) dX10_handover_1 ⟨Nat.le_of_ble_eq_true rfl, Nat.le_of_ble_eq_true rfl⟩) hD hS hA (fun H locs hP hD hS => ?_)
  refine lv_if_ne (tgt := 9) hx hb dX10_handover_4 (by decide) (fun c3 => ?_) (fun c3 => ?_)
  · replace hm := zz_neg c3 hm
    refine lv_aload_n hx hb dX10_handover_9 rfl (lv_at hl 0 rfl) ?_
    refine va_get (D := D) (ci := 10) (v := .ref (a 8)) (C := RX10) (T := TX10) (N := 7) hx hb hts nX10_handover_X10 hown hK hP 0 (wC_0 y a z) rfl 2 (by decide) (hts (.fieldLink RX10 26 "WorksDesk" "book" "LWorksDesk$Book;") (List.mem_of_getElem? (i := 1) rfl)) (fun _ h9 => h9) rfl dX10_handover_10 ?_
    refine va_get (D := D) (ci := 2) (v := .int (z.2.2.1 520)) (C := RX2) (T := TX2) (N := 12) hx hb hts nX10_handover_X2 hown hK hP 8 (wC_8 y a z) rfl 8 (by decide) (hts (.fieldLink RX10 198 "WorksDesk$Book" "handedOver" "I") (List.mem_of_getElem? (i := 2) rfl)) (fun _ h9 => h9) rfl dX10_handover_13 ?_
    refine lv_istore_n (lv' := [(2, .int (z.2.2.1 520)), (0, .ref (a 0)), (1, .int x1)]) hx hb dX10_handover_16 rfl hl (by decide) rfl (fun ls hl => ?_)
    refine lv_iload_n hx hb dX10_handover_17 rfl (lv_at hl 0 rfl) ?_
    refine lv_iload_n hx hb dX10_handover_18 rfl (lv_at hl 2 rfl) ?_
    refine lv_icmp_ne (tgt := 25) hx hb dX10_handover_19 (by decide) (fun c4 => ?_) (fun c4 => ?_)
    · replace hm := zz_neg c4 hm
      refine lv_aload_n hx hb dX10_handover_25 rfl (lv_at hl 1 rfl) ?_
      refine va_get (D := D) (ci := 10) (v := .ref (a 8)) (C := RX10) (T := TX10) (N := 7) hx hb hts nX10_handover_X10 hown hK hP 0 (wC_0 y a z) rfl 2 (by decide) (hts (.fieldLink RX10 26 "WorksDesk" "book" "LWorksDesk$Book;") (List.mem_of_getElem? (i := 1) rfl)) (fun _ h9 => h9) rfl dX10_handover_26 ?_
      refine va_get (D := D) (ci := 2) (v := .int (z.2.2.1 521)) (C := RX2) (T := TX2) (N := 12) hx hb hts nX10_handover_X2 hown hK hP 8 (wC_8 y a z) rfl 9 (by decide) (hts (.fieldLink RX10 201 "WorksDesk$Book" "closed" "I") (List.mem_of_getElem? (i := 3) rfl)) (fun _ h9 => h9) rfl dX10_handover_29 ?_
      refine lv_iload_n hx hb dX10_handover_32 rfl (lv_at hl 2 rfl) ?_
      refine lv_icmp_ge (tgt := 39) hx hb dX10_handover_33 (by decide) (fun c5 => ?_) (fun c5 => ?_)
      · replace hm := zz_pos c5 hm
        refine lv_aload_n hx hb dX10_handover_39 rfl (lv_at hl 1 rfl) ?_
        refine va_get (D := D) (ci := 10) (v := .ref (a 8)) (C := RX10) (T := TX10) (N := 7) hx hb hts nX10_handover_X10 hown hK hP 0 (wC_0 y a z) rfl 2 (by decide) (hts (.fieldLink RX10 26 "WorksDesk" "book" "LWorksDesk$Book;") (List.mem_of_getElem? (i := 1) rfl)) (fun _ h9 => h9) rfl dX10_handover_40 ?_
        refine lv_iload_n hx hb dX10_handover_43 rfl (lv_at hl 2 rfl) ?_
        refine va_put (D := D) (ci := 2) (v := .int x1) (ty := .int) (C := RX2) (T := TX2) (N := 12) hx hb hts nX10_handover_X2 tyX2 tyX2_ok nmX2 hown hK hP hD hS 8 (wC_8 y a z) rfl 8 (by decide) (hts (.fieldLink RX10 198 "WorksDesk$Book" "handedOver" "I") (List.mem_of_getElem? (i := 2) rfl)) (fun _ h9 => h9) rfl (tyX2_ok 8 (by decide)) rfl rfl (Nat.le_of_ble_eq_true rfl) dX10_handover_44 (fun H locs hP hD hS => ?_)
        obtain ⟨z6, hP, hD, hm⟩ := zz_up (w := wC y a) (wC_f8_8 y a z x1) hP hD hm
        refine lv_iload_n hx hb dX10_handover_47 rfl (lv_at hl 0 rfl) ?_
        exact zz_iret hx hb hr hlocks (zz_some2 hm) hP hK hD hS dX10_handover_48
      · replace hm := zz_neg c5 hm
        refine lv_bipush (v := (-3 : Int32)) hx hb dX10_handover_36 (by decide) ?_
        exact zz_iret hx hb hr hlocks (zz_some2 hm) hP hK hD hS dX10_handover_38
    · replace hm := zz_pos c4 hm
      refine lv_bipush (v := (-2 : Int32)) hx hb dX10_handover_22 (by decide) ?_
      exact zz_iret hx hb hr hlocks (zz_some2 hm) hP hK hD hS dX10_handover_24
  · replace hm := zz_pos c3 hm
    refine lv_iconst (v := (-1 : Int32)) hx hb dX10_handover_7 (by decide) ?_
    exact zz_iret hx hb hr hlocks (zz_some2 hm) hP hK hD hS dX10_handover_8
def mX10_held_b23 (z : zz_M) : Option (Int32 × zz_M) := some ((-1 : Int32), z)
def mX10_held (x1 : Int32) (x2 : Int32) (z : zz_M) : Option (Int32 × zz_M) := zz_b1 (mX7_has x1 z) (fun r1 => if r1 = (0 : Int32) then (mX10_held_b23 z) else (zz_b1 (mX10_isMonth x2) (fun r4 => if r4 = (0 : Int32) then (mX10_held_b23 z) else (zz_ck (zz_in x1 6) (zz_b2 (mX5_start ((z.1 58 x1.toNatClampNeg).toInt64) z) (fun r8 z10 => zz_ck (zz_in x1 6) (zz_b2 (mX5_then ((z10.1 59 x1.toNatClampNeg).toInt64) z10) (fun r12 z14 => zz_ck (zz_in x1 6) (zz_b1 (mX10_monthOrNone (z14.1 60 x1.toNatClampNeg)) (fun r16 => zz_b2 (mX5_then r16.toInt64 z14) (fun r18 z20 => zz_ck (zz_in x1 6) (zz_b1 (mX10_monthOrNone (z20.1 61 x1.toNatClampNeg)) (fun r22 => zz_b2 (mX5_then r22.toInt64 z20) (fun r24 z26 => zz_ck (zz_in x1 6) (zz_b2 (mX5_then ((z26.1 62 x1.toNatClampNeg).toInt64) z26) (fun r28 z30 => zz_b1 (mX7_heldIn x1 x2 z30) (fun r31 => some (r31, z30))))))))))))))))))
theorem nX10_held_X10 : ∀ w ∈ wsX100, w ∈ wsX10_held := fun _ h => List.mem_cons_of_mem _ (List.mem_append_left _ (List.mem_append_left _ (List.mem_append_left _ (List.mem_append_right _ (h)))))
theorem nX10_held_X2 : ∀ w ∈ wsX20, w ∈ wsX10_held := fun _ h => List.mem_cons_of_mem _ (List.mem_append_left _ (List.mem_append_left _ (List.mem_append_right _ (h))))
theorem nX10_held_X7 : ∀ w ∈ wsX70, w ∈ wsX10_held := fun _ h => List.mem_cons_of_mem _ (List.mem_append_left _ (List.mem_append_right _ (h)))
theorem zdX10_held : yX10_held.cls = RX10 ∧ yX10_held.cls ≠ "java/lang/invoke/MethodHandle" ∧ yX10_held.cls ≠ "java/lang/invoke/VarHandle" ∧ (parseMethodDescriptor yX10_held.desc).map (fun d => d.parameters.length) = some 2 := by decide +kernel
set_option maxHeartbeats 4000000 in
set_option maxRecDepth 100000 in
theorem zX10_held (l : Launch) (D : va_G) (y : Nat → ClassId) (a : Nat → Nat) (sz : Nat) (x1 : Int32) (x2 : Int32) (z : zz_M) {r : Int32} {zt : zz_M} (hm : mX10_held x1 x2 z = some (r, zt)) : Met l yX10_held wsX10_held { frames := 2, cells := 0, slots := 0, locals := 44 } (zz_Pc D y (wC y a z) sz [.ref (a 0), .int x1, .int x2]) (zz_Qi D y (wC y a) (va_A (wC y a z) sz) r zt) 0 0 (va_A (wC y a z) sz) := by
  refine Met.ofW (cc := cX10_held) (maxL := 4) (ret := (some .int)) (by decide) rfl ?_
  intro p e s m args below meth c s₁ B hml hv
  obtain ⟨rfl, hsz, hP, hK, hD0, hN, hg⟩ := hv
  have hx := B.exec
  have hb := B.bytes
  have hr := B.returns
  have hts := atoms_spec (ws := wsX10_held) B.pre
  have hown : s.vm.findClass RX10 = some m.cls := findClass_of_methodNamed B.named
  have hlocks := B.notSynchronized
  clear B
  subst hsz
  have hD := hD0.self (sz := s.heap.size)
  generalize hAe : va_A (wC y a z) s.heap.size = A at hD hg ⊢
  have hA : ∀ q : Nat, s.heap.size ≤ q → A q := fun q h => by rw [← hAe]; exact Or.inr h
  clear hAe hD0
  have hl := lv_entry ([.ref (a 0), .int x1, .int x2]) (n := 4) (Nat.le_of_ble_eq_true rfl)
  rw [lg_entry_eq]
  generalize (lg_sl ([.ref (a 0), .int x1, .int x2]) ++ List.replicate (4 - (lg_sl ([.ref (a 0), .int x1, .int x2])).length) Slot.unset).toArray = ls at hl ⊢
  replace hl : lv_has ls 4 [(0, .ref (a 0)), (1, .int x1), (2, .int x2)] := hl
  refine zz_go (w := wC y a) hP hD va_S.rf hl (fun G hG => ?_)
  clear hP hD hl ls
  have J23 : ∀ (z : zz_M), mX10_held_b23 z = some (r, zt) → G 23 [] [] z := by
    intro z hm
    rw [mX10_held_b23] at hm
    rw [hG]
    intro H locs ls hP hD hS hl
    refine lv_iconst (v := (-1 : Int32)) hx hb dX10_held_23 (by decide) ?_
    exact zz_iret hx hb hr hlocks (zz_some2 hm) hP hK hD hS dX10_held_24
  rw [hG]
  intro H locs ls hP hD hS hl
  unfold mX10_held at hm
  refine lv_aload_n hx hb dX10_held_0 rfl (lv_at hl 0 rfl) ?_
  refine va_get (D := D) (ci := 10) (v := .ref (a 8)) (C := RX10) (T := TX10) (N := 7) hx hb hts nX10_held_X10 hown hK hP 0 (wC_0 y a z) rfl 2 (by decide) (hts (.fieldLink RX10 26 "WorksDesk" "book" "LWorksDesk$Book;") (List.mem_of_getElem? (i := 1) rfl)) (fun _ h9 => h9) rfl dX10_held_1 ?_
  refine va_get (D := D) (ci := 2) (v := .ref (a 57)) (C := RX2) (T := TX2) (N := 12) hx hb hts nX10_held_X2 hown hK hP 8 (wC_8 y a z) rfl 6 (by decide) (hts (.fieldLink RX10 163 "WorksDesk$Book" "setOffs" "LWorksDesk$SetOffs;") (List.mem_of_getElem? (i := 2) rfl)) (fun _ h9 => h9) rfl dX10_held_4 ?_
  refine lv_astore_n (lv' := [(3, .ref (a 57)), (0, .ref (a 0)), (1, .int x1), (2, .int x2)]) hx hb dX10_held_7 rfl hl (by decide) rfl (fun ls hl => ?_)
  refine lv_aload_n hx hb dX10_held_8 rfl (lv_at hl 0 rfl) ?_
  refine lv_iload_n hx hb dX10_held_9 rfl (lv_at hl 2 rfl) ?_
  obtain ⟨r1, h2, hm⟩ := zz_b1_some hm
  refine zz_calli (zz_runV (w := wC y a) (As := [.int x1]) (rest := []) ⟨hx, hb, hml, hown, hts⟩ (zX7_has l D y a H.size x1 z h2) (cwV 1 hts gX10_held_X7_has rfl rfl rfl zdX7_has ⟨Nat.le_of_ble_eq_true rfl, Nat.le_of_ble_eq_true rfl⟩) hK hN hg hP hD hS hA 57 (wC_57 y a z) rfl rfl hl.1 rfl (Nat.le_of_ble_eq_true rfl) dX10_held_10 ⟨Nat.le_of_ble_eq_true rfl, Nat.le_of_ble_eq_true rfl⟩) hD hS hA (fun H locs hP hD hS => ?_)
  refine lv_if_eq (tgt := 23) hx hb dX10_held_13 (by decide) (fun c3 => ?_) (fun c3 => ?_)
  · replace hm := zz_pos c3 hm
    have j := J23 z hm
    rw [hG] at j
    exact j H locs ls hP hD hS (lv_sub hl [] rfl)
  · replace hm := zz_neg c3 hm
    refine lv_iload_n hx hb dX10_held_16 rfl (lv_at hl 3 rfl) ?_
    obtain ⟨r4, h5, hm⟩ := zz_b1_some hm
    refine zz_calli (zz_runS (w := wC y a) (As := [.int x2]) (rest := []) ⟨hx, hb, hml, hown, hts⟩ (zX10_isMonth l D y a H.size x2 z h5) (va_cwS 1 hts gX10_held_X10_isMonth rfl rfl rfl zdX10_isMonth ⟨Nat.le_of_ble_eq_true rfl, Nat.le_of_ble_eq_true rfl⟩) hK hN hg hP hD hS hA rfl hl.1 rfl (Nat.le_of_ble_eq_true rfl) dX10_held_17 ⟨Nat.le_of_ble_eq_true rfl, Nat.le_of_ble_eq_true rfl⟩) hD hS hA (fun H locs hP hD hS => ?_)
    refine lv_if_ne (tgt := 25) hx hb dX10_held_20 (by decide) (fun c6 => ?_) (fun c6 => ?_)
    · replace hm := zz_neg c6 hm
      refine lv_aload_n hx hb dX10_held_25 rfl (lv_at hl 1 rfl) ?_
      refine va_get (D := D) (ci := 10) (v := .ref (a 99)) (C := RX10) (T := TX10) (N := 7) hx hb hts nX10_held_X10 hown hK hP 0 (wC_0 y a z) rfl 6 (by decide) (hts (.fieldLink RX10 47 "WorksDesk" "lastRow" "LWorksDesk$Row;") (List.mem_of_getElem? (i := 3) rfl)) (fun _ h9 => h9) rfl dX10_held_26 ?_
      refine lv_aload_n hx hb dX10_held_29 rfl (lv_at hl 0 rfl) ?_
      refine va_get (D := D) (ci := 7) (v := .ref (a 58)) (C := RX7) (T := TX7) (N := 6) hx hb hts nX10_held_X7 hown hK hP 57 (wC_57 y a z) rfl 0 (by decide) (hts (.fieldLink RX10 270 "WorksDesk$SetOffs" "months" "[I") (List.mem_of_getElem? (i := 4) rfl)) (fun _ h9 => h9) rfl dX10_held_30 ?_
      refine lv_iload_n hx hb dX10_held_33 rfl (lv_at hl 2 rfl) ?_
      obtain ⟨c7, hm⟩ := zz_ck_some hm
      refine va_iald hx hb hK hP 58 0 (wC_58 y a z) rfl c7 dX10_held_34 ?_
      refine lv_i2l hx hb dX10_held_35 rfl ?_
      obtain ⟨r8, z10, h9, hm⟩ := zz_b2_some hm
      refine zz_callr (zz_runV (w := wC y a) (As := [.long ((z.1 58 x1.toNatClampNeg).toInt64)]) (rest := []) ⟨hx, hb, hml, hown, hts⟩ (zX5_start l D y a H.size ((z.1 58 x1.toNatClampNeg).toInt64) z h9) (cwV 1 hts gX10_held_X5_start rfl rfl rfl zdX5_start ⟨Nat.le_of_ble_eq_true rfl, Nat.le_of_ble_eq_true rfl⟩) hK hN hg hP hD hS hA 99 (wC_99 y a z) rfl rfl hl.1 rfl (Nat.le_of_ble_eq_true rfl) dX10_held_36 ⟨Nat.le_of_ble_eq_true rfl, Nat.le_of_ble_eq_true rfl⟩) hD hS hA (fun H locs hP hD hS => ?_)
      refine lv_aload_n hx hb dX10_held_39 rfl (lv_at hl 0 rfl) ?_
      refine va_get (D := D) (ci := 7) (v := .ref (a 59)) (C := RX7) (T := TX7) (N := 6) hx hb hts nX10_held_X7 hown hK hP 57 (wC_57 y a z10) rfl 1 (by decide) (hts (.fieldLink RX10 271 "WorksDesk$SetOffs" "amounts" "[I") (List.mem_of_getElem? (i := 5) rfl)) (fun _ h9 => h9) rfl dX10_held_40 ?_
      refine lv_iload_n hx hb dX10_held_43 rfl (lv_at hl 2 rfl) ?_
      obtain ⟨c11, hm⟩ := zz_ck_some hm
      refine va_iald hx hb hK hP 59 0 (wC_59 y a z10) rfl c11 dX10_held_44 ?_
      refine lv_i2l hx hb dX10_held_45 rfl ?_
      obtain ⟨r12, z14, h13, hm⟩ := zz_b2_some hm
      refine zz_callr (zz_runV (w := wC y a) (As := [.long ((z10.1 59 x1.toNatClampNeg).toInt64)]) (rest := []) ⟨hx, hb, hml, hown, hts⟩ (zX5_then l D y a H.size ((z10.1 59 x1.toNatClampNeg).toInt64) z10 h13) (cwV 1 hts gX10_held_X5_then rfl rfl rfl zdX5_then ⟨Nat.le_of_ble_eq_true rfl, Nat.le_of_ble_eq_true rfl⟩) hK hN hg hP hD hS hA 99 (wC_99 y a z10) rfl rfl hl.1 rfl (Nat.le_of_ble_eq_true rfl) dX10_held_46 ⟨Nat.le_of_ble_eq_true rfl, Nat.le_of_ble_eq_true rfl⟩) hD hS hA (fun H locs hP hD hS => ?_)
      refine lv_pop hx hb dX10_held_49 rfl ?_
      refine lv_aload_n hx hb dX10_held_50 rfl (lv_at hl 1 rfl) ?_
      refine va_get (D := D) (ci := 10) (v := .ref (a 99)) (C := RX10) (T := TX10) (N := 7) hx hb hts nX10_held_X10 hown hK hP 0 (wC_0 y a z14) rfl 6 (by decide) (hts (.fieldLink RX10 47 "WorksDesk" "lastRow" "LWorksDesk$Row;") (List.mem_of_getElem? (i := 3) rfl)) (fun _ h9 => h9) rfl dX10_held_51 ?_
      refine lv_aload_n hx hb dX10_held_54 rfl (lv_at hl 0 rfl) ?_
      refine va_get (D := D) (ci := 7) (v := .ref (a 60)) (C := RX7) (T := TX7) (N := 6) hx hb hts nX10_held_X7 hown hK hP 57 (wC_57 y a z14) rfl 2 (by decide) (hts (.fieldLink RX10 178 "WorksDesk$SetOffs" "disputed" "[I") (List.mem_of_getElem? (i := 6) rfl)) (fun _ h9 => h9) rfl dX10_held_55 ?_
      refine lv_iload_n hx hb dX10_held_58 rfl (lv_at hl 2 rfl) ?_
      obtain ⟨c15, hm⟩ := zz_ck_some hm
      refine va_iald hx hb hK hP 60 0 (wC_60 y a z14) rfl c15 dX10_held_59 ?_
      obtain ⟨r16, h17, hm⟩ := zz_b1_some hm
      refine zz_calli (zz_runS (w := wC y a) (As := [.int (z14.1 60 x1.toNatClampNeg)]) (rest := [.ref (a 99)]) ⟨hx, hb, hml, hown, hts⟩ (zX10_monthOrNone l D y a H.size (z14.1 60 x1.toNatClampNeg) z14 h17) (va_cwS 1 hts gX10_held_X10_monthOrNone rfl rfl rfl zdX10_monthOrNone ⟨Nat.le_of_ble_eq_true rfl, Nat.le_of_ble_eq_true rfl⟩) hK hN hg hP hD hS hA rfl hl.1 rfl (Nat.le_of_ble_eq_true rfl) dX10_held_60 ⟨Nat.le_of_ble_eq_true rfl, Nat.le_of_ble_eq_true rfl⟩) hD hS hA (fun H locs hP hD hS => ?_)
      refine lv_i2l hx hb dX10_held_63 rfl ?_
      obtain ⟨r18, z20, h19, hm⟩ := zz_b2_some hm
      refine zz_callr (zz_runV (w := wC y a) (As := [.long r16.toInt64]) (rest := []) ⟨hx, hb, hml, hown, hts⟩ (zX5_then l D y a H.size r16.toInt64 z14 h19) (cwV 1 hts gX10_held_X5_then rfl rfl rfl zdX5_then ⟨Nat.le_of_ble_eq_true rfl, Nat.le_of_ble_eq_true rfl⟩) hK hN hg hP hD hS hA 99 (wC_99 y a z14) rfl rfl hl.1 rfl (Nat.le_of_ble_eq_true rfl) dX10_held_64 ⟨Nat.le_of_ble_eq_true rfl, Nat.le_of_ble_eq_true rfl⟩) hD hS hA (fun H locs hP hD hS => ?_)
      refine lv_aload_n hx hb dX10_held_67 rfl (lv_at hl 0 rfl) ?_
      refine va_get (D := D) (ci := 7) (v := .ref (a 61)) (C := RX7) (T := TX7) (N := 6) hx hb hts nX10_held_X7 hown hK hP 57 (wC_57 y a z20) rfl 3 (by decide) (hts (.fieldLink RX10 189 "WorksDesk$SetOffs" "decided" "[I") (List.mem_of_getElem? (i := 7) rfl)) (fun _ h9 => h9) rfl dX10_held_68 ?_
      refine lv_iload_n hx hb dX10_held_71 rfl (lv_at hl 2 rfl) ?_
      obtain ⟨c21, hm⟩ := zz_ck_some hm
      refine va_iald hx hb hK hP 61 0 (wC_61 y a z20) rfl c21 dX10_held_72 ?_
      obtain ⟨r22, h23, hm⟩ := zz_b1_some hm
      refine zz_calli (zz_runS (w := wC y a) (As := [.int (z20.1 61 x1.toNatClampNeg)]) (rest := [.ref (a 99)]) ⟨hx, hb, hml, hown, hts⟩ (zX10_monthOrNone l D y a H.size (z20.1 61 x1.toNatClampNeg) z20 h23) (va_cwS 1 hts gX10_held_X10_monthOrNone rfl rfl rfl zdX10_monthOrNone ⟨Nat.le_of_ble_eq_true rfl, Nat.le_of_ble_eq_true rfl⟩) hK hN hg hP hD hS hA rfl hl.1 rfl (Nat.le_of_ble_eq_true rfl) dX10_held_73 ⟨Nat.le_of_ble_eq_true rfl, Nat.le_of_ble_eq_true rfl⟩) hD hS hA (fun H locs hP hD hS => ?_)
      refine lv_i2l hx hb dX10_held_76 rfl ?_
      obtain ⟨r24, z26, h25, hm⟩ := zz_b2_some hm
      refine zz_callr (zz_runV (w := wC y a) (As := [.long r22.toInt64]) (rest := []) ⟨hx, hb, hml, hown, hts⟩ (zX5_then l D y a H.size r22.toInt64 z20 h25) (cwV 1 hts gX10_held_X5_then rfl rfl rfl zdX5_then ⟨Nat.le_of_ble_eq_true rfl, Nat.le_of_ble_eq_true rfl⟩) hK hN hg hP hD hS hA 99 (wC_99 y a z20) rfl rfl hl.1 rfl (Nat.le_of_ble_eq_true rfl) dX10_held_77 ⟨Nat.le_of_ble_eq_true rfl, Nat.le_of_ble_eq_true rfl⟩) hD hS hA (fun H locs hP hD hS => ?_)
      refine lv_pop hx hb dX10_held_80 rfl ?_
      refine lv_aload_n hx hb dX10_held_81 rfl (lv_at hl 1 rfl) ?_
      refine va_get (D := D) (ci := 10) (v := .ref (a 99)) (C := RX10) (T := TX10) (N := 7) hx hb hts nX10_held_X10 hown hK hP 0 (wC_0 y a z26) rfl 6 (by decide) (hts (.fieldLink RX10 47 "WorksDesk" "lastRow" "LWorksDesk$Row;") (List.mem_of_getElem? (i := 3) rfl)) (fun _ h9 => h9) rfl dX10_held_82 ?_
      refine lv_aload_n hx hb dX10_held_85 rfl (lv_at hl 0 rfl) ?_
      refine va_get (D := D) (ci := 7) (v := .ref (a 62)) (C := RX7) (T := TX7) (N := 6) hx hb hts nX10_held_X7 hown hK hP 57 (wC_57 y a z26) rfl 4 (by decide) (hts (.fieldLink RX10 192 "WorksDesk$SetOffs" "upheld" "[I") (List.mem_of_getElem? (i := 8) rfl)) (fun _ h9 => h9) rfl dX10_held_86 ?_
      refine lv_iload_n hx hb dX10_held_89 rfl (lv_at hl 2 rfl) ?_
      obtain ⟨c27, hm⟩ := zz_ck_some hm
      refine va_iald hx hb hK hP 62 0 (wC_62 y a z26) rfl c27 dX10_held_90 ?_
      refine lv_i2l hx hb dX10_held_91 rfl ?_
      obtain ⟨r28, z30, h29, hm⟩ := zz_b2_some hm
      refine zz_callr (zz_runV (w := wC y a) (As := [.long ((z26.1 62 x1.toNatClampNeg).toInt64)]) (rest := []) ⟨hx, hb, hml, hown, hts⟩ (zX5_then l D y a H.size ((z26.1 62 x1.toNatClampNeg).toInt64) z26 h29) (cwV 1 hts gX10_held_X5_then rfl rfl rfl zdX5_then ⟨Nat.le_of_ble_eq_true rfl, Nat.le_of_ble_eq_true rfl⟩) hK hN hg hP hD hS hA 99 (wC_99 y a z26) rfl rfl hl.1 rfl (Nat.le_of_ble_eq_true rfl) dX10_held_92 ⟨Nat.le_of_ble_eq_true rfl, Nat.le_of_ble_eq_true rfl⟩) hD hS hA (fun H locs hP hD hS => ?_)
      refine lv_pop hx hb dX10_held_95 rfl ?_
      refine lv_aload_n hx hb dX10_held_96 rfl (lv_at hl 0 rfl) ?_
      refine lv_iload_n hx hb dX10_held_97 rfl (lv_at hl 2 rfl) ?_
      refine lv_iload_n hx hb dX10_held_98 rfl (lv_at hl 3 rfl) ?_
      obtain ⟨r31, h32, hm⟩ := zz_b1_some hm
      refine zz_calli (zz_runV (w := wC y a) (As := [.int x1, .int x2]) (rest := []) ⟨hx, hb, hml, hown, hts⟩ (zX7_heldIn l D y a H.size x1 x2 z30 h32) (cwV 2 hts gX10_held_X7_heldIn rfl rfl rfl zdX7_heldIn ⟨Nat.le_of_ble_eq_true rfl, Nat.le_of_ble_eq_true rfl⟩) hK hN hg hP hD hS hA 57 (wC_57 y a z30) rfl rfl hl.1 rfl (Nat.le_of_ble_eq_true rfl) dX10_held_99 ⟨Nat.le_of_ble_eq_true rfl, Nat.le_of_ble_eq_true rfl⟩) hD hS hA (fun H locs hP hD hS => ?_)
      exact zz_iret hx hb hr hlocks (zz_some2 hm) hP hK hD hS dX10_held_102
    · replace hm := zz_pos c6 hm
      have j := J23 z hm
      rw [hG] at j
      exact j H locs ls hP hD hS (lv_sub hl [] rfl)
def mX10_isIndex_b25 (t0 : Int32) : Option Int32 := zz_ck (zz_bool t0) (some t0)
def mX10_isIndex_b24 : Option Int32 := mX10_isIndex_b25 (0 : Int32)
def mX10_isIndex (x0 : Int32) (x1 : Int32) : Option Int32 := zz_b1 (mX10_isMonth x0) (fun r2 => if r2 = (0 : Int32) then (mX10_isIndex_b24) else (zz_b1 (mX10_isWithin x1 (500 : Int32) (2000 : Int32)) (fun r5 => if r5 = (0 : Int32) then (mX10_isIndex_b24) else (mX10_isIndex_b25 (1 : Int32)))))
theorem zdX10_isIndex : yX10_isIndex.cls ≠ "java/lang/invoke/MethodHandle" ∧ yX10_isIndex.cls ≠ "java/lang/invoke/VarHandle" ∧ (parseMethodDescriptor yX10_isIndex.desc).map (fun d => d.parameters.length) = some 2 := by decide +kernel
set_option maxHeartbeats 4000000 in
set_option maxRecDepth 100000 in
theorem zX10_isIndex (l : Launch) (D : va_G) (y : Nat → ClassId) (a : Nat → Nat) (sz : Nat) (x0 : Int32) (x1 : Int32) (z : zz_M) {r : Int32} (hm : mX10_isIndex x0 x1 = some r) : Met l yX10_isIndex wsX10_isIndex { frames := 2, cells := 0, slots := 0, locals := 42 } (zz_Pc D y (wC y a z) sz [.int x0, .int x1]) (zz_Qi D y (wC y a) (va_A (wC y a z) sz) r z) 0 0 (va_A (wC y a z) sz) := by
  refine Met.ofW (cc := cX10_isIndex) (maxL := 2) (ret := (some .boolean)) (by decide) rfl ?_
  intro p e s m args below meth c s₁ B hml hv
  obtain ⟨rfl, hsz, hP, hK, hD0, hN, hg⟩ := hv
  have hx := B.exec
  have hb := B.bytes
  have hr := B.returns
  have hts := atoms_spec (ws := wsX10_isIndex) B.pre
  have hown : s.vm.findClass RX10 = some m.cls := findClass_of_methodNamed B.named
  have hlocks := B.notSynchronized
  clear B
  subst hsz
  have hD := hD0.self (sz := s.heap.size)
  generalize hAe : va_A (wC y a z) s.heap.size = A at hD hg ⊢
  have hA : ∀ q : Nat, s.heap.size ≤ q → A q := fun q h => by rw [← hAe]; exact Or.inr h
  clear hAe hD0
  have hl := lv_entry ([.int x0, .int x1]) (n := 2) (Nat.le_of_ble_eq_true rfl)
  rw [lg_entry_eq]
  generalize (lg_sl ([.int x0, .int x1]) ++ List.replicate (2 - (lg_sl ([.int x0, .int x1])).length) Slot.unset).toArray = ls at hl ⊢
  replace hl : lv_has ls 2 [(0, .int x0), (1, .int x1)] := hl
  refine zz_go (w := wC y a) hP hD va_S.rf hl (fun G hG => ?_)
  clear hP hD hl ls
  have J25 : ∀ (t0 : Int32), mX10_isIndex_b25 t0 = some r → G 25 [] [.int t0] z := by
    intro t0 hm
    rw [mX10_isIndex_b25] at hm
    rw [hG]
    intro H locs ls hP hD hS hl
    obtain ⟨c1, hm⟩ := zz_ck_some hm
    exact zz_zret hx hb hr hlocks c1 ⟨zz_some1 hm, rfl⟩ hP hK hD hS dX10_isIndex_25
  have J24 : mX10_isIndex_b24 = some r → G 24 [] [] z := by
    intro hm
    rw [mX10_isIndex_b24] at hm
    rw [hG]
    intro H locs ls hP hD hS hl
    refine lv_iconst (v := (0 : Int32)) hx hb dX10_isIndex_24 (by decide) ?_
    have j := J25 (0 : Int32) hm
    rw [hG] at j
    exact j H locs ls hP hD hS (lv_sub hl [] rfl)
  rw [hG]
  intro H locs ls hP hD hS hl
  unfold mX10_isIndex at hm
  refine lv_iload_n hx hb dX10_isIndex_0 rfl (lv_at hl 0 rfl) ?_
  obtain ⟨r2, h3, hm⟩ := zz_b1_some hm
  refine zz_calli (zz_runS (w := wC y a) (As := [.int x0]) (rest := []) ⟨hx, hb, hml, hown, hts⟩ (zX10_isMonth l D y a H.size x0 z h3) (va_cwS 1 hts gX10_isIndex_X10_isMonth rfl rfl rfl zdX10_isMonth ⟨Nat.le_of_ble_eq_true rfl, Nat.le_of_ble_eq_true rfl⟩) hK hN hg hP hD hS hA rfl hl.1 rfl (Nat.le_of_ble_eq_true rfl) dX10_isIndex_1 ⟨Nat.le_of_ble_eq_true rfl, Nat.le_of_ble_eq_true rfl⟩) hD hS hA (fun H locs hP hD hS => ?_)
  refine lv_if_eq (tgt := 24) hx hb dX10_isIndex_4 (by decide) (fun c4 => ?_) (fun c4 => ?_)
  · replace hm := zz_pos c4 hm
    have j := J24 hm
    rw [hG] at j
    exact j H locs ls hP hD hS (lv_sub hl [] rfl)
  · replace hm := zz_neg c4 hm
    refine lv_iload_n hx hb dX10_isIndex_7 rfl (lv_at hl 1 rfl) ?_
    refine lv_sipush (v := (500 : Int32)) hx hb dX10_isIndex_8 (by decide) ?_
    refine lv_sipush (v := (2000 : Int32)) hx hb dX10_isIndex_11 (by decide) ?_
    obtain ⟨r5, h6, hm⟩ := zz_b1_some hm
    refine zz_calli (zz_runS (w := wC y a) (As := [.int x1, .int (500 : Int32), .int (2000 : Int32)]) (rest := []) ⟨hx, hb, hml, hown, hts⟩ (zX10_isWithin l D y a H.size x1 (500 : Int32) (2000 : Int32) z h6) (va_cwS 3 hts gX10_isIndex_X10_isWithin rfl rfl rfl zdX10_isWithin ⟨Nat.le_of_ble_eq_true rfl, Nat.le_of_ble_eq_true rfl⟩) hK hN hg hP hD hS hA rfl hl.1 rfl (Nat.le_of_ble_eq_true rfl) dX10_isIndex_14 ⟨Nat.le_of_ble_eq_true rfl, Nat.le_of_ble_eq_true rfl⟩) hD hS hA (fun H locs hP hD hS => ?_)
    refine lv_if_eq (tgt := 24) hx hb dX10_isIndex_17 (by decide) (fun c7 => ?_) (fun c7 => ?_)
    · replace hm := zz_pos c7 hm
      have j := J24 hm
      rw [hG] at j
      exact j H locs ls hP hD hS (lv_sub hl [] rfl)
    · replace hm := zz_neg c7 hm
      refine lv_iconst (v := (1 : Int32)) hx hb dX10_isIndex_20 (by decide) ?_
      refine lv_goto (tgt := 25) hx hb dX10_isIndex_21 (by decide) ?_
      have j := J25 (1 : Int32) hm
      rw [hG] at j
      exact j H locs ls hP hD hS (lv_sub hl [] rfl)
def mX6_tell_b54 (fk : Nat) (k30 : Int32 → Int32 → zz_M → Option (Unit × zz_M)) (v3 : Int32) (v4 : Int32) (z : zz_M) : Option (Unit × zz_M) := zz_ck (zz_in v4 24) (zz_nm (zz_wI z (16 + 3 * fk + 2) v4 v3) (fun z2 => zz_nm (v4 + (1 : Int32)) (fun n3 => k30 v3 n3 z2)))
def mX6_tell_b30 (fk : Nat) : Nat → Int32 → Int32 → zz_M → Option (Unit × zz_M)
  | 0, _, _, _ => none
  | n + 1, v3, v4, z => if (24 : Int32) ≤ v4 then (some ((), z)) else (zz_b1 (mX6_isTold fk v4 z) (fun r5 => if r5 = (0 : Int32) then (mX6_tell_b54 fk (mX6_tell_b30 fk n) v3 v4 z) else (zz_ck (zz_in v4 24) (zz_nm (z.1 (16 + 3 * fk + 1) v4.toNatClampNeg) (fun n9 => mX6_tell_b54 fk (mX6_tell_b30 fk n) n9 v4 z)))))
def mX6_tell_b26 (fk : Nat) (v1 : Int32) (t0 : Int32) (z : zz_M) : Option (Unit × zz_M) := mX6_tell_b30 fk zz_N t0 v1 z
def mX6_tell (fk : Nat) (x1 : Int32) (x2 : Int32) (z : zz_M) : Option (Unit × zz_M) := zz_ck (zz_in x1 24) (zz_nm (zz_wI z (16 + 3 * fk + 1) x1 x2) (fun z11 => if x1 ≤ (0 : Int32) then (mX6_tell_b26 fk x1 (z11.2.2.1 (64 * (16 + 3 * fk) + 2)) z11) else (zz_ck (zz_in (x1 - (1 : Int32)) 24) (mX6_tell_b26 fk x1 (z11.1 (16 + 3 * fk + 2) (x1 - (1 : Int32)).toNatClampNeg) z11))))
theorem nX6_tell_X6 : ∀ w ∈ wsX60, w ∈ wsX6_tell := fun _ h => List.mem_cons_of_mem _ (List.mem_append_right _ (h))
theorem zdX6_tell : yX6_tell.cls = RX6 ∧ yX6_tell.cls ≠ "java/lang/invoke/MethodHandle" ∧ yX6_tell.cls ≠ "java/lang/invoke/VarHandle" ∧ (parseMethodDescriptor yX6_tell.desc).map (fun d => d.parameters.length) = some 2 := by decide +kernel
set_option maxHeartbeats 4000000 in
set_option maxRecDepth 100000 in
theorem zX6_tell (l : Launch) (D : va_G) (y : Nat → ClassId) (a : Nat → Nat) (sz : Nat) (fk : Nat) (x1 : Int32) (x2 : Int32) (hfk : fk < 12) (z : zz_M) {r : Unit} {zt : zz_M} (hm : mX6_tell fk x1 x2 z = some (r, zt)) : Met l yX6_tell wsX6_tell { frames := 1, cells := 0, slots := 0, locals := 21 } (zz_Pc D y (wC y a z) sz [.ref (a (16 + 3 * fk)), .int x1, .int x2]) (zz_Qv D y (wC y a) (va_A (wC y a z) sz) zt) 0 0 (va_A (wC y a z) sz) := by
  refine Met.ofW (cc := cX6_tell) (maxL := 5) (ret := none) (by decide) rfl ?_
  intro p e s m args below meth c s₁ B hml hv
  obtain ⟨rfl, hsz, hP, hK, hD0, hN, hg⟩ := hv
  have hx := B.exec
  have hb := B.bytes
  have hr := B.returns
  have hts := atoms_spec (ws := wsX6_tell) B.pre
  have hown : s.vm.findClass RX6 = some m.cls := findClass_of_methodNamed B.named
  have hlocks := B.notSynchronized
  clear B
  subst hsz
  have hD := hD0.self (sz := s.heap.size)
  generalize hAe : va_A (wC y a z) s.heap.size = A at hD hg ⊢
  have hA : ∀ q : Nat, s.heap.size ≤ q → A q := fun q h => by rw [← hAe]; exact Or.inr h
  clear hAe hD0
  have hl := lv_entry ([.ref (a (16 + 3 * fk)), .int x1, .int x2]) (n := 5) (Nat.le_of_ble_eq_true rfl)
  rw [lg_entry_eq]
  generalize (lg_sl ([.ref (a (16 + 3 * fk)), .int x1, .int x2]) ++ List.replicate (5 - (lg_sl ([.ref (a (16 + 3 * fk)), .int x1, .int x2])).length) Slot.unset).toArray = ls at hl ⊢
  replace hl : lv_has ls 5 [(0, .ref (a (16 + 3 * fk))), (1, .int x1), (2, .int x2)] := hl
  refine zz_go (w := wC y a) hP hD va_S.rf hl (fun G hG => ?_)
  clear hP hD hl ls
  have J54 : ∀ (k30 : Int32 → Int32 → zz_M → Option (Unit × zz_M)) (K30 : ∀ (v3 : Int32) (v4 : Int32) (z : zz_M), k30 v3 v4 z = some (r, zt) → G 30 [(0, .ref (a (16 + 3 * fk))), (3, .int v3), (4, .int v4)] [] z) (v3 : Int32) (v4 : Int32) (z : zz_M), mX6_tell_b54 fk k30 v3 v4 z = some (r, zt) → G 54 [(0, .ref (a (16 + 3 * fk))), (3, .int v3), (4, .int v4)] [] z := by
    intro k30 K30 v3 v4 z hm
    rw [mX6_tell_b54] at hm
    rw [hG]
    intro H locs ls hP hD hS hl
    refine lv_aload_n hx hb dX6_tell_54 rfl (lv_at hl 0 rfl) ?_
    refine va_get (D := D) (ci := 6) (v := .ref (a (16 + 3 * fk + 2))) (C := RX6) (T := TX6) (N := 3) hx hb hts nX6_tell_X6 hown hK hP (16 + 3 * fk) (wC_ser y a z fk hfk) rfl 1 (by decide) (hts (.fieldLink RX6 15 "WorksDesk$Series" "standing" "[I") (List.mem_of_getElem? (i := 2) rfl)) (fun _ h9 => h9) rfl dX6_tell_55 ?_
    refine lv_iload hx hb dX6_tell_58 (lv_at hl 2 rfl) ?_
    refine lv_iload_n hx hb dX6_tell_60 rfl (lv_at hl 1 rfl) ?_
    obtain ⟨c1, hm⟩ := zz_ck_some hm
    refine va_iast hx hb hK hP hD hS (16 + 3 * fk + 2) 0 (wC_serA2 y a z fk hfk) rfl c1 dX6_tell_61 (fun H locs hP hD hS => ?_)
    obtain ⟨z2, hP, hD, hm⟩ := zz_up (w := wC y a) (wC_serW2 y a z v4 v3 fk hfk) hP hD hm
    obtain ⟨n3, en3⟩ : ∃ q : Int32, q = v4 + (1 : Int32) := ⟨_, rfl⟩
    replace hm := zz_nm_some en3 hm
    refine lv_iinc (v := n3) (lv' := [(4, .int n3), (0, .ref (a (16 + 3 * fk))), (3, .int v3)]) hx hb dX6_tell_62 hl (k := 2) rfl (by rw [en3]; rfl) (by decide) rfl (fun ls hl => ?_)
    refine lv_goto (tgt := 30) hx hb dX6_tell_65 (by decide) ?_
    have j := K30 v3 n3 z2 hm
    rw [hG] at j
    exact j H locs ls hP hD hS (lv_sub hl [1, 2, 0] rfl)
  have J30 : ∀ (n : Nat) (v3 : Int32) (v4 : Int32) (z : zz_M), mX6_tell_b30 fk n v3 v4 z = some (r, zt) → G 30 [(0, .ref (a (16 + 3 * fk))), (3, .int v3), (4, .int v4)] [] z := by
    intro n
    induction n with
    | zero =>
      intro v3 v4 z hm
      exact zz_none hm
    | succ n ih =>
      intro v3 v4 z hm
      rw [mX6_tell_b30] at hm
      rw [hG]
      intro H locs ls hP hD hS hl
      refine lv_iload hx hb dX6_tell_30 (lv_at hl 2 rfl) ?_
      refine lv_bipush (v := (24 : Int32)) hx hb dX6_tell_32 (by decide) ?_
      refine lv_icmp_ge (tgt := 68) hx hb dX6_tell_34 (by decide) (fun c4 => ?_) (fun c4 => ?_)
      · replace hm := zz_pos c4 hm
        exact zz_vret hx hb hr hlocks (zz_some2 hm).2 hP hK hD hS dX6_tell_68
      · replace hm := zz_neg c4 hm
        refine lv_aload_n hx hb dX6_tell_37 rfl (lv_at hl 0 rfl) ?_
        refine lv_iload hx hb dX6_tell_38 (lv_at hl 2 rfl) ?_
        obtain ⟨r5, h6, hm⟩ := zz_b1_some hm
        refine zz_calli (zz_runV (w := wC y a) (As := [.int v4]) (rest := []) ⟨hx, hb, hml, hown, hts⟩ (zX6_isTold l D y a H.size fk v4 hfk z h6) (cwV 1 hts gX6_tell_X6_isTold rfl rfl rfl zdX6_isTold ⟨Nat.le_of_ble_eq_true rfl, Nat.le_of_ble_eq_true rfl⟩) hK hN hg hP hD hS hA (16 + 3 * fk) (wC_ser y a z fk hfk) rfl rfl hl.1 rfl (Nat.le_of_ble_eq_true rfl) dX6_tell_40 ⟨Nat.le_of_ble_eq_true rfl, Nat.le_of_ble_eq_true rfl⟩) hD hS hA (fun H locs hP hD hS => ?_)
        refine lv_if_eq (tgt := 54) hx hb dX6_tell_43 (by decide) (fun c7 => ?_) (fun c7 => ?_)
        · replace hm := zz_pos c7 hm
          have j := J54 (mX6_tell_b30 fk n) ih v3 v4 z hm
          rw [hG] at j
          exact j H locs ls hP hD hS (lv_sub hl [0, 1, 2] rfl)
        · replace hm := zz_neg c7 hm
          refine lv_aload_n hx hb dX6_tell_46 rfl (lv_at hl 0 rfl) ?_
          refine va_get (D := D) (ci := 6) (v := .ref (a (16 + 3 * fk + 1))) (C := RX6) (T := TX6) (N := 3) hx hb hts nX6_tell_X6 hown hK hP (16 + 3 * fk) (wC_ser y a z fk hfk) rfl 0 (by decide) (hts (.fieldLink RX6 9 "WorksDesk$Series" "told" "[I") (List.mem_of_getElem? (i := 1) rfl)) (fun _ h9 => h9) rfl dX6_tell_47 ?_
          refine lv_iload hx hb dX6_tell_50 (lv_at hl 2 rfl) ?_
          obtain ⟨c8, hm⟩ := zz_ck_some hm
          refine va_iald hx hb hK hP (16 + 3 * fk + 1) 0 (wC_serA1 y a z fk hfk) rfl c8 dX6_tell_52 ?_
          refine lv_topi (fun n9 en9 => ?_)
          replace hm := zz_nm_some en9 hm
          refine lv_istore_n (lv' := [(3, .int n9), (0, .ref (a (16 + 3 * fk))), (4, .int v4)]) hx hb dX6_tell_53 rfl hl (by decide) rfl (fun ls hl => ?_)
          have j := J54 (mX6_tell_b30 fk n) ih n9 v4 z hm
          rw [hG] at j
          exact j H locs ls hP hD hS (lv_sub hl [1, 0, 2] rfl)
  have J26 : ∀ (v1 : Int32) (t0 : Int32) (z : zz_M), mX6_tell_b26 fk v1 t0 z = some (r, zt) → G 26 [(0, .ref (a (16 + 3 * fk))), (1, .int v1)] [.int t0] z := by
    intro v1 t0 z hm
    rw [mX6_tell_b26] at hm
    rw [hG]
    intro H locs ls hP hD hS hl
    refine lv_istore_n (lv' := [(3, .int t0), (0, .ref (a (16 + 3 * fk))), (1, .int v1)]) hx hb dX6_tell_26 rfl hl (by decide) rfl (fun ls hl => ?_)
    refine lv_iload_n hx hb dX6_tell_27 rfl (lv_at hl 2 rfl) ?_
    refine lv_istore (lv' := [(4, .int v1), (3, .int t0), (0, .ref (a (16 + 3 * fk))), (1, .int v1)]) hx hb dX6_tell_28 hl (by decide) rfl (fun ls hl => ?_)
    have j := J30 zz_N t0 v1 z hm
    rw [hG] at j
    exact j H locs ls hP hD hS (lv_sub hl [2, 1, 0] rfl)
  rw [hG]
  intro H locs ls hP hD hS hl
  unfold mX6_tell at hm
  refine lv_aload_n hx hb dX6_tell_0 rfl (lv_at hl 0 rfl) ?_
  refine va_get (D := D) (ci := 6) (v := .ref (a (16 + 3 * fk + 1))) (C := RX6) (T := TX6) (N := 3) hx hb hts nX6_tell_X6 hown hK hP (16 + 3 * fk) (wC_ser y a z fk hfk) rfl 0 (by decide) (hts (.fieldLink RX6 9 "WorksDesk$Series" "told" "[I") (List.mem_of_getElem? (i := 1) rfl)) (fun _ h9 => h9) rfl dX6_tell_1 ?_
  refine lv_iload_n hx hb dX6_tell_4 rfl (lv_at hl 1 rfl) ?_
  refine lv_iload_n hx hb dX6_tell_5 rfl (lv_at hl 2 rfl) ?_
  obtain ⟨c10, hm⟩ := zz_ck_some hm
  refine va_iast hx hb hK hP hD hS (16 + 3 * fk + 1) 0 (wC_serA1 y a z fk hfk) rfl c10 dX6_tell_6 (fun H locs hP hD hS => ?_)
  obtain ⟨z11, hP, hD, hm⟩ := zz_up (w := wC y a) (wC_serW1 y a z x1 x2 fk hfk) hP hD hm
  refine lv_iload_n hx hb dX6_tell_7 rfl (lv_at hl 1 rfl) ?_
  refine lv_if_le (tgt := 22) hx hb dX6_tell_8 (by decide) (fun c12 => ?_) (fun c12 => ?_)
  · replace hm := zz_pos c12 hm
    refine lv_aload_n hx hb dX6_tell_22 rfl (lv_at hl 0 rfl) ?_
    refine va_get (D := D) (ci := 6) (v := .int (z11.2.2.1 (64 * (16 + 3 * fk) + 2))) (C := RX6) (T := TX6) (N := 3) hx hb hts nX6_tell_X6 hown hK hP (16 + 3 * fk) (wC_ser y a z11 fk hfk) rfl 2 (by decide) (hts (.fieldLink RX6 18 "WorksDesk$Series" "without" "I") (List.mem_of_getElem? (i := 3) rfl)) (fun _ h9 => h9) rfl dX6_tell_23 ?_
    have j := J26 x1 (z11.2.2.1 (64 * (16 + 3 * fk) + 2)) z11 hm
    rw [hG] at j
    exact j H locs ls hP hD hS (lv_sub hl [0, 1] rfl)
  · replace hm := zz_neg c12 hm
    refine lv_aload_n hx hb dX6_tell_11 rfl (lv_at hl 0 rfl) ?_
    refine va_get (D := D) (ci := 6) (v := .ref (a (16 + 3 * fk + 2))) (C := RX6) (T := TX6) (N := 3) hx hb hts nX6_tell_X6 hown hK hP (16 + 3 * fk) (wC_ser y a z11 fk hfk) rfl 1 (by decide) (hts (.fieldLink RX6 15 "WorksDesk$Series" "standing" "[I") (List.mem_of_getElem? (i := 2) rfl)) (fun _ h9 => h9) rfl dX6_tell_12 ?_
    refine lv_iload_n hx hb dX6_tell_15 rfl (lv_at hl 1 rfl) ?_
    refine lv_iconst (v := (1 : Int32)) hx hb dX6_tell_16 (by decide) ?_
    refine lv_isub hx hb dX6_tell_17 ?_
    obtain ⟨c13, hm⟩ := zz_ck_some hm
    refine va_iald hx hb hK hP (16 + 3 * fk + 2) 0 (wC_serA2 y a z11 fk hfk) rfl c13 dX6_tell_18 ?_
    refine lv_goto (tgt := 26) hx hb dX6_tell_19 (by decide) ?_
    have j := J26 x1 (z11.1 (16 + 3 * fk + 2) (x1 - (1 : Int32)).toNatClampNeg) z11 hm
    rw [hG] at j
    exact j H locs ls hP hD hS (lv_sub hl [0, 1] rfl)
def mX10_tellAnew_b20 (gk : Nat) (v1 : Int32) (v2 : Int32) (z : zz_M) : Option (Int32 × zz_M) := zz_b1 (mX6_latest gk v1 z) (fun r1 => zz_b2 (mX6_tell gk v1 v2 z) (fun r3 z5 => some (r1, z5)))
def mX10_tellAnew (gk : Nat) (x1 : Int32) (x2 : Int32) (z : zz_M) : Option (Int32 × zz_M) := zz_b1 (mX6_isTold gk x1 z) (fun r6 => if r6 = (0 : Int32) then (mX10_tellAnew_b20 gk x1 x2 z) else (zz_b1 (mX6_latest gk x1 z) (fun r9 => if r9 = x2 then (some ((-2 : Int32), z)) else (mX10_tellAnew_b20 gk x1 x2 z))))
theorem zdX10_tellAnew : yX10_tellAnew.cls ≠ "java/lang/invoke/MethodHandle" ∧ yX10_tellAnew.cls ≠ "java/lang/invoke/VarHandle" ∧ (parseMethodDescriptor yX10_tellAnew.desc).map (fun d => d.parameters.length) = some 3 := by decide +kernel
set_option maxHeartbeats 4000000 in
set_option maxRecDepth 100000 in
theorem zX10_tellAnew (l : Launch) (D : va_G) (y : Nat → ClassId) (a : Nat → Nat) (sz : Nat) (gk : Nat) (x1 : Int32) (x2 : Int32) (hgk : gk < 12) (z : zz_M) {r : Int32} {zt : zz_M} (hm : mX10_tellAnew gk x1 x2 z = some (r, zt)) : Met l yX10_tellAnew wsX10_tellAnew { frames := 2, cells := 0, slots := 0, locals := 45 } (zz_Pc D y (wC y a z) sz [.ref (a (16 + 3 * gk)), .int x1, .int x2]) (zz_Qi D y (wC y a) (va_A (wC y a z) sz) r zt) 0 0 (va_A (wC y a z) sz) := by
  refine Met.ofW (cc := cX10_tellAnew) (maxL := 4) (ret := (some .int)) (by decide) rfl ?_
  intro p e s m args below meth c s₁ B hml hv
  obtain ⟨rfl, hsz, hP, hK, hD0, hN, hg⟩ := hv
  have hx := B.exec
  have hb := B.bytes
  have hr := B.returns
  have hts := atoms_spec (ws := wsX10_tellAnew) B.pre
  have hown : s.vm.findClass RX10 = some m.cls := findClass_of_methodNamed B.named
  have hlocks := B.notSynchronized
  clear B
  subst hsz
  have hD := hD0.self (sz := s.heap.size)
  generalize hAe : va_A (wC y a z) s.heap.size = A at hD hg ⊢
  have hA : ∀ q : Nat, s.heap.size ≤ q → A q := fun q h => by rw [← hAe]; exact Or.inr h
  clear hAe hD0
  have hl := lv_entry ([.ref (a (16 + 3 * gk)), .int x1, .int x2]) (n := 4) (Nat.le_of_ble_eq_true rfl)
  rw [lg_entry_eq]
  generalize (lg_sl ([.ref (a (16 + 3 * gk)), .int x1, .int x2]) ++ List.replicate (4 - (lg_sl ([.ref (a (16 + 3 * gk)), .int x1, .int x2])).length) Slot.unset).toArray = ls at hl ⊢
  replace hl : lv_has ls 4 [(0, .ref (a (16 + 3 * gk))), (1, .int x1), (2, .int x2)] := hl
  refine zz_go (w := wC y a) hP hD va_S.rf hl (fun G hG => ?_)
  clear hP hD hl ls
  have J20 : ∀ (v1 : Int32) (v2 : Int32) (z : zz_M), mX10_tellAnew_b20 gk v1 v2 z = some (r, zt) → G 20 [(0, .ref (a (16 + 3 * gk))), (1, .int v1), (2, .int v2)] [] z := by
    intro v1 v2 z hm
    rw [mX10_tellAnew_b20] at hm
    rw [hG]
    intro H locs ls hP hD hS hl
    refine lv_aload_n hx hb dX10_tellAnew_20 rfl (lv_at hl 0 rfl) ?_
    refine lv_iload_n hx hb dX10_tellAnew_21 rfl (lv_at hl 1 rfl) ?_
    obtain ⟨r1, h2, hm⟩ := zz_b1_some hm
    refine zz_calli (zz_runV (w := wC y a) (As := [.int v1]) (rest := []) ⟨hx, hb, hml, hown, hts⟩ (zX6_latest l D y a H.size gk v1 hgk z h2) (cwV 1 hts gX10_tellAnew_X6_latest rfl rfl rfl zdX6_latest ⟨Nat.le_of_ble_eq_true rfl, Nat.le_of_ble_eq_true rfl⟩) hK hN hg hP hD hS hA (16 + 3 * gk) (wC_ser y a z gk hgk) rfl rfl hl.1 rfl (Nat.le_of_ble_eq_true rfl) dX10_tellAnew_22 ⟨Nat.le_of_ble_eq_true rfl, Nat.le_of_ble_eq_true rfl⟩) hD hS hA (fun H locs hP hD hS => ?_)
    refine lv_istore_n (lv' := [(3, .int r1), (0, .ref (a (16 + 3 * gk))), (1, .int v1), (2, .int v2)]) hx hb dX10_tellAnew_25 rfl hl (by decide) rfl (fun ls hl => ?_)
    refine lv_aload_n hx hb dX10_tellAnew_26 rfl (lv_at hl 1 rfl) ?_
    refine lv_iload_n hx hb dX10_tellAnew_27 rfl (lv_at hl 2 rfl) ?_
    refine lv_iload_n hx hb dX10_tellAnew_28 rfl (lv_at hl 3 rfl) ?_
    obtain ⟨r3, z5, h4, hm⟩ := zz_b2_some hm
    refine zz_callv (zz_runV (w := wC y a) (As := [.int v1, .int v2]) (rest := []) ⟨hx, hb, hml, hown, hts⟩ (zX6_tell l D y a H.size gk v1 v2 hgk z h4) (cwV 2 hts gX10_tellAnew_X6_tell rfl rfl rfl zdX6_tell ⟨Nat.le_of_ble_eq_true rfl, Nat.le_of_ble_eq_true rfl⟩) hK hN hg hP hD hS hA (16 + 3 * gk) (wC_ser y a z gk hgk) rfl rfl hl.1 rfl (Nat.le_of_ble_eq_true rfl) dX10_tellAnew_29 ⟨Nat.le_of_ble_eq_true rfl, Nat.le_of_ble_eq_true rfl⟩) hD hS hA (fun H locs hP hD hS => ?_)
    refine lv_iload_n hx hb dX10_tellAnew_32 rfl (lv_at hl 0 rfl) ?_
    exact zz_iret hx hb hr hlocks (zz_some2 hm) hP hK hD hS dX10_tellAnew_33
  rw [hG]
  intro H locs ls hP hD hS hl
  unfold mX10_tellAnew at hm
  refine lv_aload_n hx hb dX10_tellAnew_0 rfl (lv_at hl 0 rfl) ?_
  refine lv_iload_n hx hb dX10_tellAnew_1 rfl (lv_at hl 1 rfl) ?_
  obtain ⟨r6, h7, hm⟩ := zz_b1_some hm
  refine zz_calli (zz_runV (w := wC y a) (As := [.int x1]) (rest := []) ⟨hx, hb, hml, hown, hts⟩ (zX6_isTold l D y a H.size gk x1 hgk z h7) (cwV 1 hts gX10_tellAnew_X6_isTold rfl rfl rfl zdX6_isTold ⟨Nat.le_of_ble_eq_true rfl, Nat.le_of_ble_eq_true rfl⟩) hK hN hg hP hD hS hA (16 + 3 * gk) (wC_ser y a z gk hgk) rfl rfl hl.1 rfl (Nat.le_of_ble_eq_true rfl) dX10_tellAnew_2 ⟨Nat.le_of_ble_eq_true rfl, Nat.le_of_ble_eq_true rfl⟩) hD hS hA (fun H locs hP hD hS => ?_)
  refine lv_if_eq (tgt := 20) hx hb dX10_tellAnew_5 (by decide) (fun c8 => ?_) (fun c8 => ?_)
  · replace hm := zz_pos c8 hm
    have j := J20 x1 x2 z hm
    rw [hG] at j
    exact j H locs ls hP hD hS (lv_sub hl [0, 1, 2] rfl)
  · replace hm := zz_neg c8 hm
    refine lv_aload_n hx hb dX10_tellAnew_8 rfl (lv_at hl 0 rfl) ?_
    refine lv_iload_n hx hb dX10_tellAnew_9 rfl (lv_at hl 1 rfl) ?_
    obtain ⟨r9, h10, hm⟩ := zz_b1_some hm
    refine zz_calli (zz_runV (w := wC y a) (As := [.int x1]) (rest := []) ⟨hx, hb, hml, hown, hts⟩ (zX6_latest l D y a H.size gk x1 hgk z h10) (cwV 1 hts gX10_tellAnew_X6_latest rfl rfl rfl zdX6_latest ⟨Nat.le_of_ble_eq_true rfl, Nat.le_of_ble_eq_true rfl⟩) hK hN hg hP hD hS hA (16 + 3 * gk) (wC_ser y a z gk hgk) rfl rfl hl.1 rfl (Nat.le_of_ble_eq_true rfl) dX10_tellAnew_10 ⟨Nat.le_of_ble_eq_true rfl, Nat.le_of_ble_eq_true rfl⟩) hD hS hA (fun H locs hP hD hS => ?_)
    refine lv_iload_n hx hb dX10_tellAnew_13 rfl (lv_at hl 2 rfl) ?_
    refine lv_icmp_ne (tgt := 20) hx hb dX10_tellAnew_14 (by decide) (fun c11 => ?_) (fun c11 => ?_)
    · replace hm := zz_neg c11 hm
      have j := J20 x1 x2 z hm
      rw [hG] at j
      exact j H locs ls hP hD hS (lv_sub hl [0, 1, 2] rfl)
    · replace hm := zz_pos c11 hm
      refine lv_bipush (v := (-2 : Int32)) hx hb dX10_tellAnew_17 (by decide) ?_
      exact zz_iret hx hb hr hlocks (zz_some2 hm) hP hK hD hS dX10_tellAnew_19
def mX10_indexes (x1 : Int32) (x2 : Int32) (z : zz_M) : Option (Int32 × zz_M) := zz_b1 (mX10_isIndex x1 x2) (fun r1 => if r1 = (0 : Int32) then (some ((-1 : Int32), z)) else (zz_b2 (mX10_tellAnew 11 x1 x2 z) (fun r4 z6 => some (r4, z6))))
theorem nX10_indexes_X10 : ∀ w ∈ wsX100, w ∈ wsX10_indexes := fun _ h => List.mem_cons_of_mem _ (List.mem_append_left _ (List.mem_append_left _ (List.mem_append_right _ (h))))
theorem nX10_indexes_X2 : ∀ w ∈ wsX20, w ∈ wsX10_indexes := fun _ h => List.mem_cons_of_mem _ (List.mem_append_left _ (List.mem_append_right _ (h)))
theorem zdX10_indexes : yX10_indexes.cls = RX10 ∧ yX10_indexes.cls ≠ "java/lang/invoke/MethodHandle" ∧ yX10_indexes.cls ≠ "java/lang/invoke/VarHandle" ∧ (parseMethodDescriptor yX10_indexes.desc).map (fun d => d.parameters.length) = some 2 := by decide +kernel
set_option maxHeartbeats 4000000 in
set_option maxRecDepth 100000 in
theorem zX10_indexes (l : Launch) (D : va_G) (y : Nat → ClassId) (a : Nat → Nat) (sz : Nat) (x1 : Int32) (x2 : Int32) (z : zz_M) {r : Int32} {zt : zz_M} (hm : mX10_indexes x1 x2 z = some (r, zt)) : Met l yX10_indexes wsX10_indexes { frames := 3, cells := 0, slots := 0, locals := 68 } (zz_Pc D y (wC y a z) sz [.ref (a 0), .int x1, .int x2]) (zz_Qi D y (wC y a) (va_A (wC y a z) sz) r zt) 0 0 (va_A (wC y a z) sz) := by
  refine Met.ofW (cc := cX10_indexes) (maxL := 3) (ret := (some .int)) (by decide) rfl ?_
  intro p e s m args below meth c s₁ B hml hv
  obtain ⟨rfl, hsz, hP, hK, hD0, hN, hg⟩ := hv
  have hx := B.exec
  have hb := B.bytes
  have hr := B.returns
  have hts := atoms_spec (ws := wsX10_indexes) B.pre
  have hown : s.vm.findClass RX10 = some m.cls := findClass_of_methodNamed B.named
  have hlocks := B.notSynchronized
  clear B
  subst hsz
  have hD := hD0.self (sz := s.heap.size)
  generalize hAe : va_A (wC y a z) s.heap.size = A at hD hg ⊢
  have hA : ∀ q : Nat, s.heap.size ≤ q → A q := fun q h => by rw [← hAe]; exact Or.inr h
  clear hAe hD0
  have hl := lv_entry ([.ref (a 0), .int x1, .int x2]) (n := 3) (Nat.le_of_ble_eq_true rfl)
  rw [lg_entry_eq]
  generalize (lg_sl ([.ref (a 0), .int x1, .int x2]) ++ List.replicate (3 - (lg_sl ([.ref (a 0), .int x1, .int x2])).length) Slot.unset).toArray = ls at hl ⊢
  replace hl : lv_has ls 3 [(0, .ref (a 0)), (1, .int x1), (2, .int x2)] := hl
  refine zz_go (w := wC y a) hP hD va_S.rf hl (fun G hG => ?_)
  clear hP hD hl ls
  rw [hG]
  intro H locs ls hP hD hS hl
  unfold mX10_indexes at hm
  refine lv_iload_n hx hb dX10_indexes_0 rfl (lv_at hl 1 rfl) ?_
  refine lv_iload_n hx hb dX10_indexes_1 rfl (lv_at hl 2 rfl) ?_
  obtain ⟨r1, h2, hm⟩ := zz_b1_some hm
  refine zz_calli (zz_runS (w := wC y a) (As := [.int x1, .int x2]) (rest := []) ⟨hx, hb, hml, hown, hts⟩ (zX10_isIndex l D y a H.size x1 x2 z h2) (va_cwS 2 hts gX10_indexes_X10_isIndex rfl rfl rfl zdX10_isIndex ⟨Nat.le_of_ble_eq_true rfl, Nat.le_of_ble_eq_true rfl⟩) hK hN hg hP hD hS hA rfl hl.1 rfl (Nat.le_of_ble_eq_true rfl) dX10_indexes_2 ⟨Nat.le_of_ble_eq_true rfl, Nat.le_of_ble_eq_true rfl⟩) hD hS hA (fun H locs hP hD hS => ?_)
  refine lv_if_ne (tgt := 10) hx hb dX10_indexes_5 (by decide) (fun c3 => ?_) (fun c3 => ?_)
  · replace hm := zz_neg c3 hm
    refine lv_aload_n hx hb dX10_indexes_10 rfl (lv_at hl 0 rfl) ?_
    refine va_get (D := D) (ci := 10) (v := .ref (a 8)) (C := RX10) (T := TX10) (N := 7) hx hb hts nX10_indexes_X10 hown hK hP 0 (wC_0 y a z) rfl 2 (by decide) (hts (.fieldLink RX10 26 "WorksDesk" "book" "LWorksDesk$Book;") (List.mem_of_getElem? (i := 1) rfl)) (fun _ h9 => h9) rfl dX10_indexes_11 ?_
    refine va_get (D := D) (ci := 2) (v := .ref (a 49)) (C := RX2) (T := TX2) (N := 12) hx hb hts nX10_indexes_X2 hown hK hP 8 (wC_8 y a z) rfl 4 (by decide) (hts (.fieldLink RX10 217 "WorksDesk$Book" "index" "LWorksDesk$Series;") (List.mem_of_getElem? (i := 2) rfl)) (fun _ h9 => h9) rfl dX10_indexes_14 ?_
    refine lv_iload_n hx hb dX10_indexes_17 rfl (lv_at hl 1 rfl) ?_
    refine lv_iload_n hx hb dX10_indexes_18 rfl (lv_at hl 2 rfl) ?_
    obtain ⟨r4, z6, h5, hm⟩ := zz_b2_some hm
    refine zz_calli (zz_runS (w := wC y a) (As := [.ref (a 49), .int x1, .int x2]) (rest := []) ⟨hx, hb, hml, hown, hts⟩ (zX10_tellAnew l D y a H.size 11 x1 x2 (by decide) z h5) (va_cwS 3 hts gX10_indexes_X10_tellAnew rfl rfl rfl zdX10_tellAnew ⟨Nat.le_of_ble_eq_true rfl, Nat.le_of_ble_eq_true rfl⟩) hK hN hg hP hD hS hA rfl hl.1 rfl (Nat.le_of_ble_eq_true rfl) dX10_indexes_19 ⟨Nat.le_of_ble_eq_true rfl, Nat.le_of_ble_eq_true rfl⟩) hD hS hA (fun H locs hP hD hS => ?_)
    exact zz_iret hx hb hr hlocks (zz_some2 hm) hP hK hD hS dX10_indexes_22
  · replace hm := zz_pos c3 hm
    refine lv_iconst (v := (-1 : Int32)) hx hb dX10_indexes_8 (by decide) ?_
    exact zz_iret hx hb hr hlocks (zz_some2 hm) hP hK hD hS dX10_indexes_9
def mX10_isMeasure_b37 (z : zz_M) (t0 : Int32) : Option Int32 := zz_ck (zz_bool t0) (some t0)
def mX10_isMeasure_b36 (z : zz_M) : Option Int32 := mX10_isMeasure_b37 z (0 : Int32)
def mX10_isMeasure (x1 : Int32) (x2 : Int32) (x3 : Int32) (z : zz_M) : Option Int32 := zz_b1 (mX10_isMonth x1) (fun r2 => if r2 = (0 : Int32) then (mX10_isMeasure_b36 z) else (zz_b1 (mX0_has 9 x2 z) (fun r5 => if r5 = (0 : Int32) then (mX10_isMeasure_b36 z) else (zz_b1 (mX10_isWithin x3 (0 : Int32) (1999 : Int32)) (fun r8 => if r8 = (0 : Int32) then (mX10_isMeasure_b36 z) else (mX10_isMeasure_b37 z (1 : Int32)))))))
theorem nX10_isMeasure_X10 : ∀ w ∈ wsX100, w ∈ wsX10_isMeasure := fun _ h => List.mem_cons_of_mem _ (List.mem_append_left _ (List.mem_append_left _ (List.mem_append_right _ (h))))
theorem nX10_isMeasure_X2 : ∀ w ∈ wsX20, w ∈ wsX10_isMeasure := fun _ h => List.mem_cons_of_mem _ (List.mem_append_left _ (List.mem_append_right _ (h)))
theorem zdX10_isMeasure : yX10_isMeasure.cls = RX10 ∧ yX10_isMeasure.cls ≠ "java/lang/invoke/MethodHandle" ∧ yX10_isMeasure.cls ≠ "java/lang/invoke/VarHandle" ∧ (parseMethodDescriptor yX10_isMeasure.desc).map (fun d => d.parameters.length) = some 3 := by decide +kernel
set_option maxHeartbeats 4000000 in
set_option maxRecDepth 100000 in
theorem zX10_isMeasure (l : Launch) (D : va_G) (y : Nat → ClassId) (a : Nat → Nat) (sz : Nat) (x1 : Int32) (x2 : Int32) (x3 : Int32) (z : zz_M) {r : Int32} (hm : mX10_isMeasure x1 x2 x3 z = some r) : Met l yX10_isMeasure wsX10_isMeasure { frames := 2, cells := 0, slots := 0, locals := 42 } (zz_Pc D y (wC y a z) sz [.ref (a 0), .int x1, .int x2, .int x3]) (zz_Qi D y (wC y a) (va_A (wC y a z) sz) r z) 0 0 (va_A (wC y a z) sz) := by
  refine Met.ofW (cc := cX10_isMeasure) (maxL := 4) (ret := (some .boolean)) (by decide) rfl ?_
  intro p e s m args below meth c s₁ B hml hv
  obtain ⟨rfl, hsz, hP, hK, hD0, hN, hg⟩ := hv
  have hx := B.exec
  have hb := B.bytes
  have hr := B.returns
  have hts := atoms_spec (ws := wsX10_isMeasure) B.pre
  have hown : s.vm.findClass RX10 = some m.cls := findClass_of_methodNamed B.named
  have hlocks := B.notSynchronized
  clear B
  subst hsz
  have hD := hD0.self (sz := s.heap.size)
  generalize hAe : va_A (wC y a z) s.heap.size = A at hD hg ⊢
  have hA : ∀ q : Nat, s.heap.size ≤ q → A q := fun q h => by rw [← hAe]; exact Or.inr h
  clear hAe hD0
  have hl := lv_entry ([.ref (a 0), .int x1, .int x2, .int x3]) (n := 4) (Nat.le_of_ble_eq_true rfl)
  rw [lg_entry_eq]
  generalize (lg_sl ([.ref (a 0), .int x1, .int x2, .int x3]) ++ List.replicate (4 - (lg_sl ([.ref (a 0), .int x1, .int x2, .int x3])).length) Slot.unset).toArray = ls at hl ⊢
  replace hl : lv_has ls 4 [(0, .ref (a 0)), (1, .int x1), (2, .int x2), (3, .int x3)] := hl
  refine zz_go (w := wC y a) hP hD va_S.rf hl (fun G hG => ?_)
  clear hP hD hl ls
  have J37 : ∀ (t0 : Int32), mX10_isMeasure_b37 z t0 = some r → G 37 [] [.int t0] z := by
    intro t0 hm
    rw [mX10_isMeasure_b37] at hm
    rw [hG]
    intro H locs ls hP hD hS hl
    obtain ⟨c1, hm⟩ := zz_ck_some hm
    exact zz_zret hx hb hr hlocks c1 ⟨zz_some1 hm, rfl⟩ hP hK hD hS dX10_isMeasure_37
  have J36 : mX10_isMeasure_b36 z = some r → G 36 [] [] z := by
    intro hm
    rw [mX10_isMeasure_b36] at hm
    rw [hG]
    intro H locs ls hP hD hS hl
    refine lv_iconst (v := (0 : Int32)) hx hb dX10_isMeasure_36 (by decide) ?_
    have j := J37 (0 : Int32) hm
    rw [hG] at j
    exact j H locs ls hP hD hS (lv_sub hl [] rfl)
  rw [hG]
  intro H locs ls hP hD hS hl
  unfold mX10_isMeasure at hm
  refine lv_iload_n hx hb dX10_isMeasure_0 rfl (lv_at hl 1 rfl) ?_
  obtain ⟨r2, h3, hm⟩ := zz_b1_some hm
  refine zz_calli (zz_runS (w := wC y a) (As := [.int x1]) (rest := []) ⟨hx, hb, hml, hown, hts⟩ (zX10_isMonth l D y a H.size x1 z h3) (va_cwS 1 hts gX10_isMeasure_X10_isMonth rfl rfl rfl zdX10_isMonth ⟨Nat.le_of_ble_eq_true rfl, Nat.le_of_ble_eq_true rfl⟩) hK hN hg hP hD hS hA rfl hl.1 rfl (Nat.le_of_ble_eq_true rfl) dX10_isMeasure_1 ⟨Nat.le_of_ble_eq_true rfl, Nat.le_of_ble_eq_true rfl⟩) hD hS hA (fun H locs hP hD hS => ?_)
  refine lv_if_eq (tgt := 36) hx hb dX10_isMeasure_4 (by decide) (fun c4 => ?_) (fun c4 => ?_)
  · replace hm := zz_pos c4 hm
    have j := J36 hm
    rw [hG] at j
    exact j H locs ls hP hD hS (lv_sub hl [] rfl)
  · replace hm := zz_neg c4 hm
    refine lv_aload_n hx hb dX10_isMeasure_7 rfl (lv_at hl 0 rfl) ?_
    refine va_get (D := D) (ci := 10) (v := .ref (a 8)) (C := RX10) (T := TX10) (N := 7) hx hb hts nX10_isMeasure_X10 hown hK hP 0 (wC_0 y a z) rfl 2 (by decide) (hts (.fieldLink RX10 26 "WorksDesk" "book" "LWorksDesk$Book;") (List.mem_of_getElem? (i := 1) rfl)) (fun _ h9 => h9) rfl dX10_isMeasure_8 ?_
    refine va_get (D := D) (ci := 2) (v := .ref (a 9)) (C := RX2) (T := TX2) (N := 12) hx hb hts nX10_isMeasure_X2 hown hK hP 8 (wC_8 y a z) rfl 0 (by decide) (hts (.fieldLink RX10 107 "WorksDesk$Book" "items" "LWorksDesk$Bill;") (List.mem_of_getElem? (i := 2) rfl)) (fun _ h9 => h9) rfl dX10_isMeasure_11 ?_
    refine lv_iload_n hx hb dX10_isMeasure_14 rfl (lv_at hl 2 rfl) ?_
    obtain ⟨r5, h6, hm⟩ := zz_b1_some hm
    refine zz_calli (zz_runV (w := wC y a) (As := [.int x2]) (rest := []) ⟨hx, hb, hml, hown, hts⟩ (zX0_has l D y a H.size 9 x2 (Or.inr rfl) z h6) (cwV 1 hts gX10_isMeasure_X0_has rfl rfl rfl zdX0_has ⟨Nat.le_of_ble_eq_true rfl, Nat.le_of_ble_eq_true rfl⟩) hK hN hg hP hD hS hA 9 (wC_bill y a z 9 (Or.inr rfl)) rfl rfl hl.1 rfl (Nat.le_of_ble_eq_true rfl) dX10_isMeasure_15 ⟨Nat.le_of_ble_eq_true rfl, Nat.le_of_ble_eq_true rfl⟩) hD hS hA (fun H locs hP hD hS => ?_)
    refine lv_if_eq (tgt := 36) hx hb dX10_isMeasure_18 (by decide) (fun c7 => ?_) (fun c7 => ?_)
    · replace hm := zz_pos c7 hm
      have j := J36 hm
      rw [hG] at j
      exact j H locs ls hP hD hS (lv_sub hl [] rfl)
    · replace hm := zz_neg c7 hm
      refine lv_iload_n hx hb dX10_isMeasure_21 rfl (lv_at hl 3 rfl) ?_
      refine lv_iconst (v := (0 : Int32)) hx hb dX10_isMeasure_22 (by decide) ?_
      refine lv_sipush (v := (1999 : Int32)) hx hb dX10_isMeasure_23 (by decide) ?_
      obtain ⟨r8, h9, hm⟩ := zz_b1_some hm
      refine zz_calli (zz_runS (w := wC y a) (As := [.int x3, .int (0 : Int32), .int (1999 : Int32)]) (rest := []) ⟨hx, hb, hml, hown, hts⟩ (zX10_isWithin l D y a H.size x3 (0 : Int32) (1999 : Int32) z h9) (va_cwS 3 hts gX10_isMeasure_X10_isWithin rfl rfl rfl zdX10_isWithin ⟨Nat.le_of_ble_eq_true rfl, Nat.le_of_ble_eq_true rfl⟩) hK hN hg hP hD hS hA rfl hl.1 rfl (Nat.le_of_ble_eq_true rfl) dX10_isMeasure_26 ⟨Nat.le_of_ble_eq_true rfl, Nat.le_of_ble_eq_true rfl⟩) hD hS hA (fun H locs hP hD hS => ?_)
      refine lv_if_eq (tgt := 36) hx hb dX10_isMeasure_29 (by decide) (fun c10 => ?_) (fun c10 => ?_)
      · replace hm := zz_pos c10 hm
        have j := J36 hm
        rw [hG] at j
        exact j H locs ls hP hD hS (lv_sub hl [] rfl)
      · replace hm := zz_neg c10 hm
        refine lv_iconst (v := (1 : Int32)) hx hb dX10_isMeasure_32 (by decide) ?_
        refine lv_goto (tgt := 37) hx hb dX10_isMeasure_33 (by decide) ?_
        have j := J37 (1 : Int32) hm
        rw [hG] at j
        exact j H locs ls hP hD hS (lv_sub hl [] rfl)
def mX2_partMore_b22 (z : zz_M) (t0 : Int64) (t1 : Int64) : Option Int64 := some (t1 - t0)
def mX2_partMore (x1 : Int32) (x2 : Int32) (z : zz_M) : Option Int64 := zz_b1 (mX2_part x1 x2 z) (fun r1 => if x2 ≤ (0 : Int32) then (mX2_partMore_b22 z (0 : Int64) r1) else (zz_b1 (mX2_part x1 (x2 - (1 : Int32)) z) (fun r4 => mX2_partMore_b22 z r4 r1)))
theorem zdX2_partMore : yX2_partMore.cls = RX2 ∧ yX2_partMore.cls ≠ "java/lang/invoke/MethodHandle" ∧ yX2_partMore.cls ≠ "java/lang/invoke/VarHandle" ∧ (parseMethodDescriptor yX2_partMore.desc).map (fun d => d.parameters.length) = some 2 := by decide +kernel
set_option maxHeartbeats 4000000 in
set_option maxRecDepth 100000 in
theorem zX2_partMore (l : Launch) (D : va_G) (y : Nat → ClassId) (a : Nat → Nat) (sz : Nat) (x1 : Int32) (x2 : Int32) (z : zz_M) {r : Int64} (hm : mX2_partMore x1 x2 z = some r) : Met l yX2_partMore wsX2_partMore { frames := 3, cells := 0, slots := 0, locals := 72 } (zz_Pc D y (wC y a z) sz [.ref (a 8), .int x1, .int x2]) (zz_Ql D y (wC y a) (va_A (wC y a z) sz) r z) 0 0 (va_A (wC y a z) sz) := by
  refine Met.ofW (cc := cX2_partMore) (maxL := 3) (ret := (some .long)) (by decide) rfl ?_
  intro p e s m args below meth c s₁ B hml hv
  obtain ⟨rfl, hsz, hP, hK, hD0, hN, hg⟩ := hv
  have hx := B.exec
  have hb := B.bytes
  have hr := B.returns
  have hts := atoms_spec (ws := wsX2_partMore) B.pre
  have hown : s.vm.findClass RX2 = some m.cls := findClass_of_methodNamed B.named
  have hlocks := B.notSynchronized
  clear B
  subst hsz
  have hD := hD0.self (sz := s.heap.size)
  generalize hAe : va_A (wC y a z) s.heap.size = A at hD hg ⊢
  have hA : ∀ q : Nat, s.heap.size ≤ q → A q := fun q h => by rw [← hAe]; exact Or.inr h
  clear hAe hD0
  have hl := lv_entry ([.ref (a 8), .int x1, .int x2]) (n := 3) (Nat.le_of_ble_eq_true rfl)
  rw [lg_entry_eq]
  generalize (lg_sl ([.ref (a 8), .int x1, .int x2]) ++ List.replicate (3 - (lg_sl ([.ref (a 8), .int x1, .int x2])).length) Slot.unset).toArray = ls at hl ⊢
  replace hl : lv_has ls 3 [(0, .ref (a 8)), (1, .int x1), (2, .int x2)] := hl
  refine zz_go (w := wC y a) hP hD va_S.rf hl (fun G hG => ?_)
  clear hP hD hl ls
  have J22 : ∀ (t0 : Int64) (t1 : Int64), mX2_partMore_b22 z t0 t1 = some r → G 22 [] [.long t0, .long t1] z := by
    intro t0 t1 hm
    rw [mX2_partMore_b22] at hm
    rw [hG]
    intro H locs ls hP hD hS hl
    refine lv_lsub hx hb dX2_partMore_22 ?_
    exact zz_lret hx hb hr hlocks ⟨zz_some1 hm, rfl⟩ hP hK hD hS dX2_partMore_23
  rw [hG]
  intro H locs ls hP hD hS hl
  unfold mX2_partMore at hm
  refine lv_aload_n hx hb dX2_partMore_0 rfl (lv_at hl 0 rfl) ?_
  refine lv_iload_n hx hb dX2_partMore_1 rfl (lv_at hl 1 rfl) ?_
  refine lv_iload_n hx hb dX2_partMore_2 rfl (lv_at hl 2 rfl) ?_
  obtain ⟨r1, h2, hm⟩ := zz_b1_some hm
  refine zz_calll (zz_runV (w := wC y a) (As := [.int x1, .int x2]) (rest := []) ⟨hx, hb, hml, hown, hts⟩ (zX2_part l D y a H.size x1 x2 z h2) (cwV 2 hts gX2_partMore_X2_part rfl rfl rfl zdX2_part ⟨Nat.le_of_ble_eq_true rfl, Nat.le_of_ble_eq_true rfl⟩) hK hN hg hP hD hS hA 8 (wC_8 y a z) rfl rfl hl.1 rfl (Nat.le_of_ble_eq_true rfl) dX2_partMore_3 ⟨Nat.le_of_ble_eq_true rfl, Nat.le_of_ble_eq_true rfl⟩) hD hS hA (fun H locs hP hD hS => ?_)
  refine lv_iload_n hx hb dX2_partMore_6 rfl (lv_at hl 2 rfl) ?_
  refine lv_if_le (tgt := 21) hx hb dX2_partMore_7 (by decide) (fun c3 => ?_) (fun c3 => ?_)
  · replace hm := zz_pos c3 hm
    refine lv_lconst (v := (0 : Int64)) hx hb dX2_partMore_21 (by decide) ?_
    have j := J22 (0 : Int64) r1 hm
    rw [hG] at j
    exact j H locs ls hP hD hS (lv_sub hl [] rfl)
  · replace hm := zz_neg c3 hm
    refine lv_aload_n hx hb dX2_partMore_10 rfl (lv_at hl 0 rfl) ?_
    refine lv_iload_n hx hb dX2_partMore_11 rfl (lv_at hl 1 rfl) ?_
    refine lv_iload_n hx hb dX2_partMore_12 rfl (lv_at hl 2 rfl) ?_
    refine lv_iconst (v := (1 : Int32)) hx hb dX2_partMore_13 (by decide) ?_
    refine lv_isub hx hb dX2_partMore_14 ?_
    obtain ⟨r4, h5, hm⟩ := zz_b1_some hm
    refine zz_calll (zz_runV (w := wC y a) (As := [.int x1, .int (x2 - (1 : Int32))]) (rest := [.long r1]) ⟨hx, hb, hml, hown, hts⟩ (zX2_part l D y a H.size x1 (x2 - (1 : Int32)) z h5) (cwV 2 hts gX2_partMore_X2_part rfl rfl rfl zdX2_part ⟨Nat.le_of_ble_eq_true rfl, Nat.le_of_ble_eq_true rfl⟩) hK hN hg hP hD hS hA 8 (wC_8 y a z) rfl rfl hl.1 rfl (Nat.le_of_ble_eq_true rfl) dX2_partMore_15 ⟨Nat.le_of_ble_eq_true rfl, Nat.le_of_ble_eq_true rfl⟩) hD hS hA (fun H locs hP hD hS => ?_)
    refine lv_goto (tgt := 22) hx hb dX2_partMore_18 (by decide) ?_
    have j := J22 r4 r1 hm
    rw [hG] at j
    exact j H locs ls hP hD hS (lv_sub hl [] rfl)
def mX10_item_b73 (v1 : Int32) (v2 : Int32) (t0 : Int64) (z : zz_M) : Option (Int32 × zz_M) := zz_b2 (mX5_then t0 z) (fun r1 z3 => zz_b1 (mX2_done v2 v1 z3) (fun r4 => some (r4, z3)))
def mX10_item_b21 (z : zz_M) : Option (Int32 × zz_M) := some ((-1 : Int32), z)
def mX10_item (x1 : Int32) (x2 : Int32) (z : zz_M) : Option (Int32 × zz_M) := zz_b1 (mX10_isMonth x1) (fun r6 => if r6 = (0 : Int32) then (mX10_item_b21 z) else (zz_b1 (mX0_has 9 x2 z) (fun r9 => if r9 = (0 : Int32) then (mX10_item_b21 z) else (zz_b1 (mX2_part x2 x1 z) (fun r12 => zz_b2 (mX5_start r12 z) (fun r14 z16 => zz_b1 (mX2_partMore x2 x1 z16) (fun r17 => zz_b2 (mX5_then r17 z16) (fun r19 z21 => zz_b1 (mX2_isAboveCap x2 x1 z21) (fun r22 => if r22 = (0 : Int32) then (mX10_item_b73 x1 x2 (0 : Int64) z21) else (mX10_item_b73 x1 x2 (1 : Int64) z21))))))))))
theorem nX10_item_X10 : ∀ w ∈ wsX100, w ∈ wsX10_item := fun _ h => List.mem_cons_of_mem _ (List.mem_append_left _ (List.mem_append_left _ (List.mem_append_left _ (List.mem_append_left _ (List.mem_append_left _ (List.mem_append_right _ (h)))))))
theorem nX10_item_X2 : ∀ w ∈ wsX20, w ∈ wsX10_item := fun _ h => List.mem_cons_of_mem _ (List.mem_append_left _ (List.mem_append_left _ (List.mem_append_left _ (List.mem_append_left _ (List.mem_append_right _ (h))))))
theorem zdX10_item : yX10_item.cls = RX10 ∧ yX10_item.cls ≠ "java/lang/invoke/MethodHandle" ∧ yX10_item.cls ≠ "java/lang/invoke/VarHandle" ∧ (parseMethodDescriptor yX10_item.desc).map (fun d => d.parameters.length) = some 2 := by decide +kernel
set_option maxHeartbeats 4000000 in
set_option maxRecDepth 100000 in
theorem zX10_item (l : Launch) (D : va_G) (y : Nat → ClassId) (a : Nat → Nat) (sz : Nat) (x1 : Int32) (x2 : Int32) (z : zz_M) {r : Int32} {zt : zz_M} (hm : mX10_item x1 x2 z = some (r, zt)) : Met l yX10_item wsX10_item { frames := 4, cells := 0, slots := 0, locals := 94 } (zz_Pc D y (wC y a z) sz [.ref (a 0), .int x1, .int x2]) (zz_Qi D y (wC y a) (va_A (wC y a z) sz) r zt) 0 0 (va_A (wC y a z) sz) := by
  refine Met.ofW (cc := cX10_item) (maxL := 3) (ret := (some .int)) (by decide) rfl ?_
  intro p e s m args below meth c s₁ B hml hv
  obtain ⟨rfl, hsz, hP, hK, hD0, hN, hg⟩ := hv
  have hx := B.exec
  have hb := B.bytes
  have hr := B.returns
  have hts := atoms_spec (ws := wsX10_item) B.pre
  have hown : s.vm.findClass RX10 = some m.cls := findClass_of_methodNamed B.named
  have hlocks := B.notSynchronized
  clear B
  subst hsz
  have hD := hD0.self (sz := s.heap.size)
  generalize hAe : va_A (wC y a z) s.heap.size = A at hD hg ⊢
  have hA : ∀ q : Nat, s.heap.size ≤ q → A q := fun q h => by rw [← hAe]; exact Or.inr h
  clear hAe hD0
  have hl := lv_entry ([.ref (a 0), .int x1, .int x2]) (n := 3) (Nat.le_of_ble_eq_true rfl)
  rw [lg_entry_eq]
  generalize (lg_sl ([.ref (a 0), .int x1, .int x2]) ++ List.replicate (3 - (lg_sl ([.ref (a 0), .int x1, .int x2])).length) Slot.unset).toArray = ls at hl ⊢
  replace hl : lv_has ls 3 [(0, .ref (a 0)), (1, .int x1), (2, .int x2)] := hl
  refine zz_go (w := wC y a) hP hD va_S.rf hl (fun G hG => ?_)
  clear hP hD hl ls
  have J73 : ∀ (v1 : Int32) (v2 : Int32) (t0 : Int64) (z : zz_M), mX10_item_b73 v1 v2 t0 z = some (r, zt) → G 73 [(0, .ref (a 0)), (1, .int v1), (2, .int v2)] [.long t0, .ref (a 99)] z := by
    intro v1 v2 t0 z hm
    rw [mX10_item_b73] at hm
    rw [hG]
    intro H locs ls hP hD hS hl
    obtain ⟨r1, z3, h2, hm⟩ := zz_b2_some hm
    refine zz_callr (zz_runV (w := wC y a) (As := [.long t0]) (rest := []) ⟨hx, hb, hml, hown, hts⟩ (zX5_then l D y a H.size t0 z h2) (cwV 1 hts gX10_item_X5_then rfl rfl rfl zdX5_then ⟨Nat.le_of_ble_eq_true rfl, Nat.le_of_ble_eq_true rfl⟩) hK hN hg hP hD hS hA 99 (wC_99 y a z) rfl rfl hl.1 rfl (Nat.le_of_ble_eq_true rfl) dX10_item_73 ⟨Nat.le_of_ble_eq_true rfl, Nat.le_of_ble_eq_true rfl⟩) hD hS hA (fun H locs hP hD hS => ?_)
    refine lv_pop hx hb dX10_item_76 rfl ?_
    refine lv_aload_n hx hb dX10_item_77 rfl (lv_at hl 0 rfl) ?_
    refine va_get (D := D) (ci := 10) (v := .ref (a 8)) (C := RX10) (T := TX10) (N := 7) hx hb hts nX10_item_X10 hown hK hP 0 (wC_0 y a z3) rfl 2 (by decide) (hts (.fieldLink RX10 26 "WorksDesk" "book" "LWorksDesk$Book;") (List.mem_of_getElem? (i := 1) rfl)) (fun _ h9 => h9) rfl dX10_item_78 ?_
    refine lv_iload_n hx hb dX10_item_81 rfl (lv_at hl 2 rfl) ?_
    refine lv_iload_n hx hb dX10_item_82 rfl (lv_at hl 1 rfl) ?_
    obtain ⟨r4, h5, hm⟩ := zz_b1_some hm
    refine zz_calli (zz_runV (w := wC y a) (As := [.int v2, .int v1]) (rest := []) ⟨hx, hb, hml, hown, hts⟩ (zX2_done l D y a H.size v2 v1 z3 h5) (cwV 2 hts gX10_item_X2_done rfl rfl rfl zdX2_done ⟨Nat.le_of_ble_eq_true rfl, Nat.le_of_ble_eq_true rfl⟩) hK hN hg hP hD hS hA 8 (wC_8 y a z3) rfl rfl hl.1 rfl (Nat.le_of_ble_eq_true rfl) dX10_item_83 ⟨Nat.le_of_ble_eq_true rfl, Nat.le_of_ble_eq_true rfl⟩) hD hS hA (fun H locs hP hD hS => ?_)
    exact zz_iret hx hb hr hlocks (zz_some2 hm) hP hK hD hS dX10_item_86
  have J21 : ∀ (z : zz_M), mX10_item_b21 z = some (r, zt) → G 21 [] [] z := by
    intro z hm
    rw [mX10_item_b21] at hm
    rw [hG]
    intro H locs ls hP hD hS hl
    refine lv_iconst (v := (-1 : Int32)) hx hb dX10_item_21 (by decide) ?_
    exact zz_iret hx hb hr hlocks (zz_some2 hm) hP hK hD hS dX10_item_22
  rw [hG]
  intro H locs ls hP hD hS hl
  unfold mX10_item at hm
  refine lv_iload_n hx hb dX10_item_0 rfl (lv_at hl 1 rfl) ?_
  obtain ⟨r6, h7, hm⟩ := zz_b1_some hm
  refine zz_calli (zz_runS (w := wC y a) (As := [.int x1]) (rest := []) ⟨hx, hb, hml, hown, hts⟩ (zX10_isMonth l D y a H.size x1 z h7) (va_cwS 1 hts gX10_item_X10_isMonth rfl rfl rfl zdX10_isMonth ⟨Nat.le_of_ble_eq_true rfl, Nat.le_of_ble_eq_true rfl⟩) hK hN hg hP hD hS hA rfl hl.1 rfl (Nat.le_of_ble_eq_true rfl) dX10_item_1 ⟨Nat.le_of_ble_eq_true rfl, Nat.le_of_ble_eq_true rfl⟩) hD hS hA (fun H locs hP hD hS => ?_)
  refine lv_if_eq (tgt := 21) hx hb dX10_item_4 (by decide) (fun c8 => ?_) (fun c8 => ?_)
  · replace hm := zz_pos c8 hm
    have j := J21 z hm
    rw [hG] at j
    exact j H locs ls hP hD hS (lv_sub hl [] rfl)
  · replace hm := zz_neg c8 hm
    refine lv_aload_n hx hb dX10_item_7 rfl (lv_at hl 0 rfl) ?_
    refine va_get (D := D) (ci := 10) (v := .ref (a 8)) (C := RX10) (T := TX10) (N := 7) hx hb hts nX10_item_X10 hown hK hP 0 (wC_0 y a z) rfl 2 (by decide) (hts (.fieldLink RX10 26 "WorksDesk" "book" "LWorksDesk$Book;") (List.mem_of_getElem? (i := 1) rfl)) (fun _ h9 => h9) rfl dX10_item_8 ?_
    refine va_get (D := D) (ci := 2) (v := .ref (a 9)) (C := RX2) (T := TX2) (N := 12) hx hb hts nX10_item_X2 hown hK hP 8 (wC_8 y a z) rfl 0 (by decide) (hts (.fieldLink RX10 107 "WorksDesk$Book" "items" "LWorksDesk$Bill;") (List.mem_of_getElem? (i := 2) rfl)) (fun _ h9 => h9) rfl dX10_item_11 ?_
    refine lv_iload_n hx hb dX10_item_14 rfl (lv_at hl 2 rfl) ?_
    obtain ⟨r9, h10, hm⟩ := zz_b1_some hm
    refine zz_calli (zz_runV (w := wC y a) (As := [.int x2]) (rest := []) ⟨hx, hb, hml, hown, hts⟩ (zX0_has l D y a H.size 9 x2 (Or.inr rfl) z h10) (cwV 1 hts gX10_item_X0_has rfl rfl rfl zdX0_has ⟨Nat.le_of_ble_eq_true rfl, Nat.le_of_ble_eq_true rfl⟩) hK hN hg hP hD hS hA 9 (wC_bill y a z 9 (Or.inr rfl)) rfl rfl hl.1 rfl (Nat.le_of_ble_eq_true rfl) dX10_item_15 ⟨Nat.le_of_ble_eq_true rfl, Nat.le_of_ble_eq_true rfl⟩) hD hS hA (fun H locs hP hD hS => ?_)
    refine lv_if_ne (tgt := 23) hx hb dX10_item_18 (by decide) (fun c11 => ?_) (fun c11 => ?_)
    · replace hm := zz_neg c11 hm
      refine lv_aload_n hx hb dX10_item_23 rfl (lv_at hl 0 rfl) ?_
      refine va_get (D := D) (ci := 10) (v := .ref (a 99)) (C := RX10) (T := TX10) (N := 7) hx hb hts nX10_item_X10 hown hK hP 0 (wC_0 y a z) rfl 6 (by decide) (hts (.fieldLink RX10 47 "WorksDesk" "lastRow" "LWorksDesk$Row;") (List.mem_of_getElem? (i := 3) rfl)) (fun _ h9 => h9) rfl dX10_item_24 ?_
      refine lv_aload_n hx hb dX10_item_27 rfl (lv_at hl 0 rfl) ?_
      refine va_get (D := D) (ci := 10) (v := .ref (a 8)) (C := RX10) (T := TX10) (N := 7) hx hb hts nX10_item_X10 hown hK hP 0 (wC_0 y a z) rfl 2 (by decide) (hts (.fieldLink RX10 26 "WorksDesk" "book" "LWorksDesk$Book;") (List.mem_of_getElem? (i := 1) rfl)) (fun _ h9 => h9) rfl dX10_item_28 ?_
      refine lv_iload_n hx hb dX10_item_31 rfl (lv_at hl 2 rfl) ?_
      refine lv_iload_n hx hb dX10_item_32 rfl (lv_at hl 1 rfl) ?_
      obtain ⟨r12, h13, hm⟩ := zz_b1_some hm
      refine zz_calll (zz_runV (w := wC y a) (As := [.int x2, .int x1]) (rest := [.ref (a 99)]) ⟨hx, hb, hml, hown, hts⟩ (zX2_part l D y a H.size x2 x1 z h13) (cwV 2 hts gX10_item_X2_part rfl rfl rfl zdX2_part ⟨Nat.le_of_ble_eq_true rfl, Nat.le_of_ble_eq_true rfl⟩) hK hN hg hP hD hS hA 8 (wC_8 y a z) rfl rfl hl.1 rfl (Nat.le_of_ble_eq_true rfl) dX10_item_33 ⟨Nat.le_of_ble_eq_true rfl, Nat.le_of_ble_eq_true rfl⟩) hD hS hA (fun H locs hP hD hS => ?_)
      obtain ⟨r14, z16, h15, hm⟩ := zz_b2_some hm
      refine zz_callr (zz_runV (w := wC y a) (As := [.long r12]) (rest := []) ⟨hx, hb, hml, hown, hts⟩ (zX5_start l D y a H.size r12 z h15) (cwV 1 hts gX10_item_X5_start rfl rfl rfl zdX5_start ⟨Nat.le_of_ble_eq_true rfl, Nat.le_of_ble_eq_true rfl⟩) hK hN hg hP hD hS hA 99 (wC_99 y a z) rfl rfl hl.1 rfl (Nat.le_of_ble_eq_true rfl) dX10_item_36 ⟨Nat.le_of_ble_eq_true rfl, Nat.le_of_ble_eq_true rfl⟩) hD hS hA (fun H locs hP hD hS => ?_)
      refine lv_aload_n hx hb dX10_item_39 rfl (lv_at hl 0 rfl) ?_
      refine va_get (D := D) (ci := 10) (v := .ref (a 8)) (C := RX10) (T := TX10) (N := 7) hx hb hts nX10_item_X10 hown hK hP 0 (wC_0 y a z16) rfl 2 (by decide) (hts (.fieldLink RX10 26 "WorksDesk" "book" "LWorksDesk$Book;") (List.mem_of_getElem? (i := 1) rfl)) (fun _ h9 => h9) rfl dX10_item_40 ?_
      refine lv_iload_n hx hb dX10_item_43 rfl (lv_at hl 2 rfl) ?_
      refine lv_iload_n hx hb dX10_item_44 rfl (lv_at hl 1 rfl) ?_
      obtain ⟨r17, h18, hm⟩ := zz_b1_some hm
      refine zz_calll (zz_runV (w := wC y a) (As := [.int x2, .int x1]) (rest := [.ref (a 99)]) ⟨hx, hb, hml, hown, hts⟩ (zX2_partMore l D y a H.size x2 x1 z16 h18) (cwV 2 hts gX10_item_X2_partMore rfl rfl rfl zdX2_partMore ⟨Nat.le_of_ble_eq_true rfl, Nat.le_of_ble_eq_true rfl⟩) hK hN hg hP hD hS hA 8 (wC_8 y a z16) rfl rfl hl.1 rfl (Nat.le_of_ble_eq_true rfl) dX10_item_45 ⟨Nat.le_of_ble_eq_true rfl, Nat.le_of_ble_eq_true rfl⟩) hD hS hA (fun H locs hP hD hS => ?_)
      obtain ⟨r19, z21, h20, hm⟩ := zz_b2_some hm
      refine zz_callr (zz_runV (w := wC y a) (As := [.long r17]) (rest := []) ⟨hx, hb, hml, hown, hts⟩ (zX5_then l D y a H.size r17 z16 h20) (cwV 1 hts gX10_item_X5_then rfl rfl rfl zdX5_then ⟨Nat.le_of_ble_eq_true rfl, Nat.le_of_ble_eq_true rfl⟩) hK hN hg hP hD hS hA 99 (wC_99 y a z16) rfl rfl hl.1 rfl (Nat.le_of_ble_eq_true rfl) dX10_item_48 ⟨Nat.le_of_ble_eq_true rfl, Nat.le_of_ble_eq_true rfl⟩) hD hS hA (fun H locs hP hD hS => ?_)
      refine lv_pop hx hb dX10_item_51 rfl ?_
      refine lv_aload_n hx hb dX10_item_52 rfl (lv_at hl 0 rfl) ?_
      refine va_get (D := D) (ci := 10) (v := .ref (a 99)) (C := RX10) (T := TX10) (N := 7) hx hb hts nX10_item_X10 hown hK hP 0 (wC_0 y a z21) rfl 6 (by decide) (hts (.fieldLink RX10 47 "WorksDesk" "lastRow" "LWorksDesk$Row;") (List.mem_of_getElem? (i := 3) rfl)) (fun _ h9 => h9) rfl dX10_item_53 ?_
      refine lv_aload_n hx hb dX10_item_56 rfl (lv_at hl 0 rfl) ?_
      refine va_get (D := D) (ci := 10) (v := .ref (a 8)) (C := RX10) (T := TX10) (N := 7) hx hb hts nX10_item_X10 hown hK hP 0 (wC_0 y a z21) rfl 2 (by decide) (hts (.fieldLink RX10 26 "WorksDesk" "book" "LWorksDesk$Book;") (List.mem_of_getElem? (i := 1) rfl)) (fun _ h9 => h9) rfl dX10_item_57 ?_
      refine lv_iload_n hx hb dX10_item_60 rfl (lv_at hl 2 rfl) ?_
      refine lv_iload_n hx hb dX10_item_61 rfl (lv_at hl 1 rfl) ?_
      obtain ⟨r22, h23, hm⟩ := zz_b1_some hm
      refine zz_calli (zz_runV (w := wC y a) (As := [.int x2, .int x1]) (rest := [.ref (a 99)]) ⟨hx, hb, hml, hown, hts⟩ (zX2_isAboveCap l D y a H.size x2 x1 z21 h23) (cwV 2 hts gX10_item_X2_isAboveCap rfl rfl rfl zdX2_isAboveCap ⟨Nat.le_of_ble_eq_true rfl, Nat.le_of_ble_eq_true rfl⟩) hK hN hg hP hD hS hA 8 (wC_8 y a z21) rfl rfl hl.1 rfl (Nat.le_of_ble_eq_true rfl) dX10_item_62 ⟨Nat.le_of_ble_eq_true rfl, Nat.le_of_ble_eq_true rfl⟩) hD hS hA (fun H locs hP hD hS => ?_)
      refine lv_if_eq (tgt := 72) hx hb dX10_item_65 (by decide) (fun c24 => ?_) (fun c24 => ?_)
      · replace hm := zz_pos c24 hm
        refine lv_lconst (v := (0 : Int64)) hx hb dX10_item_72 (by decide) ?_
        have j := J73 x1 x2 (0 : Int64) z21 hm
        rw [hG] at j
        exact j H locs ls hP hD hS (lv_sub hl [0, 1, 2] rfl)
      · replace hm := zz_neg c24 hm
        refine lv_lconst (v := (1 : Int64)) hx hb dX10_item_68 (by decide) ?_
        refine lv_goto (tgt := 73) hx hb dX10_item_69 (by decide) ?_
        have j := J73 x1 x2 (1 : Int64) z21 hm
        rw [hG] at j
        exact j H locs ls hP hD hS (lv_sub hl [0, 1, 2] rfl)
    · replace hm := zz_pos c11 hm
      have j := J21 z hm
      rw [hG] at j
      exact j H locs ls hP hD hS (lv_sub hl [] rfl)
def mX10_keeps_b20 : Nat → Int32 → Int32 → zz_M → Option (Int32 × zz_M)
  | 0, _, _, _ => none
  | n + 1, v1, v2, z => if (200 : Int32) < v2 then (some ((-2 : Int32), z)) else (zz_b1 (mX10_greatestRetained v2 z) (fun r2 => if (lg_cmp r2 v1.toInt64) < (0 : Int32) then (zz_nm (v2 + (1 : Int32)) (fun n5 => (mX10_keeps_b20 n) v1 n5 z)) else (zz_b2 (mX5_start r2 z) (fun r6 z8 => some (v2, z8)))))
def mX10_keeps (x1 : Int32) (z : zz_M) : Option (Int32 × zz_M) := if (1 : Int32) ≤ x1 then (zz_b2 (mX4_reckon 64 z) (fun r10 z12 => mX10_keeps_b20 zz_N x1 (0 : Int32) z12)) else (some ((-1 : Int32), z))
theorem nX10_keeps_X10 : ∀ w ∈ wsX100, w ∈ wsX10_keeps := fun _ h => List.mem_cons_of_mem _ (List.mem_append_left _ (List.mem_append_left _ (List.mem_append_left _ (List.mem_append_left _ (List.mem_append_left _ (List.mem_append_left _ (List.mem_append_left _ (List.mem_append_left _ (List.mem_append_right _ (h))))))))))
theorem zdX10_keeps : yX10_keeps.cls = RX10 ∧ yX10_keeps.cls ≠ "java/lang/invoke/MethodHandle" ∧ yX10_keeps.cls ≠ "java/lang/invoke/VarHandle" ∧ (parseMethodDescriptor yX10_keeps.desc).map (fun d => d.parameters.length) = some 1 := by decide +kernel
set_option maxHeartbeats 4000000 in
set_option maxRecDepth 100000 in
theorem zX10_keeps (l : Launch) (D : va_G) (y : Nat → ClassId) (a : Nat → Nat) (sz : Nat) (x1 : Int32) (z : zz_M) {r : Int32} {zt : zz_M} (hm : mX10_keeps x1 z = some (r, zt)) : Met l yX10_keeps wsX10_keeps { frames := 5, cells := 0, slots := 0, locals := 129 } (zz_Pc D y (wC y a z) sz [.ref (a 0), .int x1]) (zz_Qi D y (wC y a) (va_A (wC y a z) sz) r zt) 0 0 (va_A (wC y a z) sz) := by
  refine Met.ofW (cc := cX10_keeps) (maxL := 5) (ret := (some .int)) (by decide) rfl ?_
  intro p e s m args below meth c s₁ B hml hv
  obtain ⟨rfl, hsz, hP, hK, hD0, hN, hg⟩ := hv
  have hx := B.exec
  have hb := B.bytes
  have hr := B.returns
  have hts := atoms_spec (ws := wsX10_keeps) B.pre
  have hown : s.vm.findClass RX10 = some m.cls := findClass_of_methodNamed B.named
  have hlocks := B.notSynchronized
  clear B
  subst hsz
  have hD := hD0.self (sz := s.heap.size)
  generalize hAe : va_A (wC y a z) s.heap.size = A at hD hg ⊢
  have hA : ∀ q : Nat, s.heap.size ≤ q → A q := fun q h => by rw [← hAe]; exact Or.inr h
  clear hAe hD0
  have hl := lv_entry ([.ref (a 0), .int x1]) (n := 5) (Nat.le_of_ble_eq_true rfl)
  rw [lg_entry_eq]
  generalize (lg_sl ([.ref (a 0), .int x1]) ++ List.replicate (5 - (lg_sl ([.ref (a 0), .int x1])).length) Slot.unset).toArray = ls at hl ⊢
  replace hl : lv_has ls 5 [(0, .ref (a 0)), (1, .int x1)] := hl
  refine zz_go (w := wC y a) hP hD va_S.rf hl (fun G hG => ?_)
  clear hP hD hl ls
  have J20 : ∀ (n : Nat) (v1 : Int32) (v2 : Int32) (z : zz_M), mX10_keeps_b20 n v1 v2 z = some (r, zt) → G 20 [(0, .ref (a 0)), (1, .int v1), (2, .int v2)] [] z := by
    intro n
    induction n with
    | zero =>
      intro v1 v2 z hm
      exact zz_none hm
    | succ n ih =>
      intro v1 v2 z hm
      rw [mX10_keeps_b20] at hm
      rw [hG]
      intro H locs ls hP hD hS hl
      refine lv_iload_n hx hb dX10_keeps_20 rfl (lv_at hl 2 rfl) ?_
      refine lv_sipush (v := (200 : Int32)) hx hb dX10_keeps_21 (by decide) ?_
      refine lv_icmp_gt (tgt := 57) hx hb dX10_keeps_24 (by decide) (fun c1 => ?_) (fun c1 => ?_)
      · replace hm := zz_pos c1 hm
        refine lv_bipush (v := (-2 : Int32)) hx hb dX10_keeps_57 (by decide) ?_
        exact zz_iret hx hb hr hlocks (zz_some2 hm) hP hK hD hS dX10_keeps_59
      · replace hm := zz_neg c1 hm
        refine lv_aload_n hx hb dX10_keeps_27 rfl (lv_at hl 0 rfl) ?_
        refine lv_iload_n hx hb dX10_keeps_28 rfl (lv_at hl 2 rfl) ?_
        obtain ⟨r2, h3, hm⟩ := zz_b1_some hm
        refine zz_calll (zz_runV (w := wC y a) (As := [.int v2]) (rest := []) ⟨hx, hb, hml, hown, hts⟩ (zX10_greatestRetained l D y a H.size v2 z h3) (cwV 1 hts gX10_keeps_X10_greatestRetained rfl rfl rfl zdX10_greatestRetained ⟨Nat.le_of_ble_eq_true rfl, Nat.le_of_ble_eq_true rfl⟩) hK hN hg hP hD hS hA 0 (wC_0 y a z) rfl rfl hl.1 rfl (Nat.le_of_ble_eq_true rfl) dX10_keeps_29 ⟨Nat.le_of_ble_eq_true rfl, Nat.le_of_ble_eq_true rfl⟩) hD hS hA (fun H locs hP hD hS => ?_)
        refine lv_lstore_n (lv' := [(3, .long r2), (0, .ref (a 0)), (1, .int v1), (2, .int v2)]) hx hb dX10_keeps_32 rfl hl (by decide) rfl (fun ls hl => ?_)
        refine lv_lload_n hx hb dX10_keeps_33 rfl (lv_at hl 0 rfl) ?_
        refine lv_iload_n hx hb dX10_keeps_34 rfl (lv_at hl 2 rfl) ?_
        refine lv_i2l hx hb dX10_keeps_35 rfl ?_
        refine W.lcmp hx hb dX10_keeps_36 ?_
        refine lv_if_lt (tgt := 51) hx hb dX10_keeps_37 (by decide) (fun c4 => ?_) (fun c4 => ?_)
        · replace hm := zz_pos c4 hm
          obtain ⟨n5, en5⟩ : ∃ q : Int32, q = v2 + (1 : Int32) := ⟨_, rfl⟩
          replace hm := zz_nm_some en5 hm
          refine lv_iinc (v := n5) (lv' := [(2, .int n5), (3, .long r2), (0, .ref (a 0)), (1, .int v1)]) hx hb dX10_keeps_51 hl (k := 3) rfl (by rw [en5]; rfl) (by decide) rfl (fun ls hl => ?_)
          refine lv_goto (tgt := 20) hx hb dX10_keeps_54 (by decide) ?_
          have j := ih v1 n5 z hm
          rw [hG] at j
          exact j H locs ls hP hD hS (lv_sub hl [2, 3, 0] rfl)
        · replace hm := zz_neg c4 hm
          refine lv_aload_n hx hb dX10_keeps_40 rfl (lv_at hl 1 rfl) ?_
          refine va_get (D := D) (ci := 10) (v := .ref (a 99)) (C := RX10) (T := TX10) (N := 7) hx hb hts nX10_keeps_X10 hown hK hP 0 (wC_0 y a z) rfl 6 (by decide) (hts (.fieldLink RX10 47 "WorksDesk" "lastRow" "LWorksDesk$Row;") (List.mem_of_getElem? (i := 3) rfl)) (fun _ h9 => h9) rfl dX10_keeps_41 ?_
          refine lv_lload_n hx hb dX10_keeps_44 rfl (lv_at hl 0 rfl) ?_
          obtain ⟨r6, z8, h7, hm⟩ := zz_b2_some hm
          refine zz_callr (zz_runV (w := wC y a) (As := [.long r2]) (rest := []) ⟨hx, hb, hml, hown, hts⟩ (zX5_start l D y a H.size r2 z h7) (cwV 1 hts gX10_keeps_X5_start rfl rfl rfl zdX5_start ⟨Nat.le_of_ble_eq_true rfl, Nat.le_of_ble_eq_true rfl⟩) hK hN hg hP hD hS hA 99 (wC_99 y a z) rfl rfl hl.1 rfl (Nat.le_of_ble_eq_true rfl) dX10_keeps_45 ⟨Nat.le_of_ble_eq_true rfl, Nat.le_of_ble_eq_true rfl⟩) hD hS hA (fun H locs hP hD hS => ?_)
          refine lv_pop hx hb dX10_keeps_48 rfl ?_
          refine lv_iload_n hx hb dX10_keeps_49 rfl (lv_at hl 3 rfl) ?_
          exact zz_iret hx hb hr hlocks (zz_some2 hm) hP hK hD hS dX10_keeps_50
  rw [hG]
  intro H locs ls hP hD hS hl
  unfold mX10_keeps at hm
  refine lv_iload_n hx hb dX10_keeps_0 rfl (lv_at hl 1 rfl) ?_
  refine lv_iconst (v := (1 : Int32)) hx hb dX10_keeps_1 (by decide) ?_
  refine lv_icmp_ge (tgt := 7) hx hb dX10_keeps_2 (by decide) (fun c9 => ?_) (fun c9 => ?_)
  · replace hm := zz_pos c9 hm
    refine lv_aload_n hx hb dX10_keeps_7 rfl (lv_at hl 0 rfl) ?_
    refine va_get (D := D) (ci := 10) (v := .ref (a 64)) (C := RX10) (T := TX10) (N := 7) hx hb hts nX10_keeps_X10 hown hK hP 0 (wC_0 y a z) rfl 3 (by decide) (hts (.fieldLink RX10 33 "WorksDesk" "real" "LWorksDesk$Figures;") (List.mem_of_getElem? (i := 1) rfl)) (fun _ h9 => h9) rfl dX10_keeps_8 ?_
    refine lv_aload_n hx hb dX10_keeps_11 rfl (lv_at hl 0 rfl) ?_
    refine va_get (D := D) (ci := 10) (v := .ref (a 8)) (C := RX10) (T := TX10) (N := 7) hx hb hts nX10_keeps_X10 hown hK hP 0 (wC_0 y a z) rfl 2 (by decide) (hts (.fieldLink RX10 26 "WorksDesk" "book" "LWorksDesk$Book;") (List.mem_of_getElem? (i := 2) rfl)) (fun _ h9 => h9) rfl dX10_keeps_12 ?_
    obtain ⟨r10, z12, h11, hm⟩ := zz_b2_some hm
    refine zz_callv (zz_runV (w := wC y a) (As := [.ref (a 8)]) (rest := []) ⟨hx, hb, hml, hown, hts⟩ (zX4_reckon l D y a H.size 64 (Or.inl rfl) z h11) (cwV 1 hts gX10_keeps_X4_reckon rfl rfl rfl zdX4_reckon ⟨Nat.le_of_ble_eq_true rfl, Nat.le_of_ble_eq_true rfl⟩) hK hN hg hP hD hS hA 64 (wC_fig y a z 64 (Or.inl rfl)) rfl rfl hl.1 rfl (Nat.le_of_ble_eq_true rfl) dX10_keeps_15 ⟨Nat.le_of_ble_eq_true rfl, Nat.le_of_ble_eq_true rfl⟩) hD hS hA (fun H locs hP hD hS => ?_)
    refine lv_iconst (v := (0 : Int32)) hx hb dX10_keeps_18 (by decide) ?_
    refine lv_istore_n (lv' := [(2, .int (0 : Int32)), (0, .ref (a 0)), (1, .int x1)]) hx hb dX10_keeps_19 rfl hl (by decide) rfl (fun ls hl => ?_)
    have j := J20 zz_N x1 (0 : Int32) z12 hm
    rw [hG] at j
    exact j H locs ls hP hD hS (lv_sub hl [1, 2, 0] rfl)
  · replace hm := zz_neg c9 hm
    refine lv_iconst (v := (-1 : Int32)) hx hb dX10_keeps_5 (by decide) ?_
    exact zz_iret hx hb hr hlocks (zz_some2 hm) hP hK hD hS dX10_keeps_6
def mX10_leads_b67 (k29 : Int32 → Int32 → Int32 → zz_M → Option (Int32 × zz_M)) (v1 : Int32) (v2 : Int32) (v3 : Int32) (z : zz_M) : Option (Int32 × zz_M) := zz_nm (v3 + (1 : Int32)) (fun n1 => k29 v1 v2 n1 z)
def mX10_leads_b29 : Nat → Int32 → Int32 → Int32 → zz_M → Option (Int32 × zz_M)
  | 0, _, _, _, _ => none
  | n + 1, v1, v2, v3, z => if (z.2.2.1 579) ≤ v3 then (zz_b1 (mX2_partMore v2 v1 z) (fun r3 => zz_b2 (mX5_start r3 z) (fun r5 z7 => some (v2, z7)))) else (zz_b1 (mX2_partMore v3 v1 z) (fun r8 => zz_b1 (mX2_partMore v2 v1 z) (fun r10 => if (lg_cmp r8 r10) ≤ (0 : Int32) then (mX10_leads_b67 (mX10_leads_b29 n) v1 v2 v3 z) else (mX10_leads_b67 (mX10_leads_b29 n) v1 v3 v3 z))))
def mX10_leads (x1 : Int32) (z : zz_M) : Option (Int32 × zz_M) := zz_b1 (mX10_isMonth x1) (fun r13 => if r13 = (0 : Int32) then (some ((-1 : Int32), z)) else (if (z.2.2.1 579) = (0 : Int32) then (some ((-2 : Int32), z)) else (mX10_leads_b29 zz_N x1 (0 : Int32) (1 : Int32) z)))
theorem nX10_leads_X0 : ∀ w ∈ wsX00, w ∈ wsX10_leads := fun _ h => List.mem_cons_of_mem _ (List.mem_append_left _ (List.mem_append_left _ (List.mem_append_left _ (List.mem_append_right _ (h)))))
theorem nX10_leads_X10 : ∀ w ∈ wsX100, w ∈ wsX10_leads := fun _ h => List.mem_cons_of_mem _ (List.mem_append_left _ (List.mem_append_left _ (List.mem_append_left _ (List.mem_append_left _ (List.mem_append_left _ (List.mem_append_right _ (h)))))))
theorem nX10_leads_X2 : ∀ w ∈ wsX20, w ∈ wsX10_leads := fun _ h => List.mem_cons_of_mem _ (List.mem_append_left _ (List.mem_append_left _ (List.mem_append_left _ (List.mem_append_left _ (List.mem_append_right _ (h))))))
theorem zdX10_leads : yX10_leads.cls = RX10 ∧ yX10_leads.cls ≠ "java/lang/invoke/MethodHandle" ∧ yX10_leads.cls ≠ "java/lang/invoke/VarHandle" ∧ (parseMethodDescriptor yX10_leads.desc).map (fun d => d.parameters.length) = some 1 := by decide +kernel
set_option maxHeartbeats 4000000 in
set_option maxRecDepth 100000 in
theorem zX10_leads (l : Launch) (D : va_G) (y : Nat → ClassId) (a : Nat → Nat) (sz : Nat) (x1 : Int32) (z : zz_M) {r : Int32} {zt : zz_M} (hm : mX10_leads x1 z = some (r, zt)) : Met l yX10_leads wsX10_leads { frames := 4, cells := 0, slots := 0, locals := 94 } (zz_Pc D y (wC y a z) sz [.ref (a 0), .int x1]) (zz_Qi D y (wC y a) (va_A (wC y a z) sz) r zt) 0 0 (va_A (wC y a z) sz) := by
  refine Met.ofW (cc := cX10_leads) (maxL := 4) (ret := (some .int)) (by decide) rfl ?_
  intro p e s m args below meth c s₁ B hml hv
  obtain ⟨rfl, hsz, hP, hK, hD0, hN, hg⟩ := hv
  have hx := B.exec
  have hb := B.bytes
  have hr := B.returns
  have hts := atoms_spec (ws := wsX10_leads) B.pre
  have hown : s.vm.findClass RX10 = some m.cls := findClass_of_methodNamed B.named
  have hlocks := B.notSynchronized
  clear B
  subst hsz
  have hD := hD0.self (sz := s.heap.size)
  generalize hAe : va_A (wC y a z) s.heap.size = A at hD hg ⊢
  have hA : ∀ q : Nat, s.heap.size ≤ q → A q := fun q h => by rw [← hAe]; exact Or.inr h
  clear hAe hD0
  have hl := lv_entry ([.ref (a 0), .int x1]) (n := 4) (Nat.le_of_ble_eq_true rfl)
  rw [lg_entry_eq]
  generalize (lg_sl ([.ref (a 0), .int x1]) ++ List.replicate (4 - (lg_sl ([.ref (a 0), .int x1])).length) Slot.unset).toArray = ls at hl ⊢
  replace hl : lv_has ls 4 [(0, .ref (a 0)), (1, .int x1)] := hl
  refine zz_go (w := wC y a) hP hD va_S.rf hl (fun G hG => ?_)
  clear hP hD hl ls
  have J67 : ∀ (k29 : Int32 → Int32 → Int32 → zz_M → Option (Int32 × zz_M)) (K29 : ∀ (v1 : Int32) (v2 : Int32) (v3 : Int32) (z : zz_M), k29 v1 v2 v3 z = some (r, zt) → G 29 [(0, .ref (a 0)), (1, .int v1), (2, .int v2), (3, .int v3)] [] z) (v1 : Int32) (v2 : Int32) (v3 : Int32) (z : zz_M), mX10_leads_b67 k29 v1 v2 v3 z = some (r, zt) → G 67 [(0, .ref (a 0)), (1, .int v1), (2, .int v2), (3, .int v3)] [] z := by
    intro k29 K29 v1 v2 v3 z hm
    rw [mX10_leads_b67] at hm
    rw [hG]
    intro H locs ls hP hD hS hl
    obtain ⟨n1, en1⟩ : ∃ q : Int32, q = v3 + (1 : Int32) := ⟨_, rfl⟩
    replace hm := zz_nm_some en1 hm
    refine lv_iinc (v := n1) (lv' := [(3, .int n1), (0, .ref (a 0)), (1, .int v1), (2, .int v2)]) hx hb dX10_leads_67 hl (k := 3) rfl (by rw [en1]; rfl) (by decide) rfl (fun ls hl => ?_)
    refine lv_goto (tgt := 29) hx hb dX10_leads_70 (by decide) ?_
    have j := K29 v1 v2 n1 z hm
    rw [hG] at j
    exact j H locs ls hP hD hS (lv_sub hl [1, 2, 3, 0] rfl)
  have J29 : ∀ (n : Nat) (v1 : Int32) (v2 : Int32) (v3 : Int32) (z : zz_M), mX10_leads_b29 n v1 v2 v3 z = some (r, zt) → G 29 [(0, .ref (a 0)), (1, .int v1), (2, .int v2), (3, .int v3)] [] z := by
    intro n
    induction n with
    | zero =>
      intro v1 v2 v3 z hm
      exact zz_none hm
    | succ n ih =>
      intro v1 v2 v3 z hm
      rw [mX10_leads_b29] at hm
      rw [hG]
      intro H locs ls hP hD hS hl
      refine lv_iload_n hx hb dX10_leads_29 rfl (lv_at hl 3 rfl) ?_
      refine lv_aload_n hx hb dX10_leads_30 rfl (lv_at hl 0 rfl) ?_
      refine va_get (D := D) (ci := 10) (v := .ref (a 8)) (C := RX10) (T := TX10) (N := 7) hx hb hts nX10_leads_X10 hown hK hP 0 (wC_0 y a z) rfl 2 (by decide) (hts (.fieldLink RX10 26 "WorksDesk" "book" "LWorksDesk$Book;") (List.mem_of_getElem? (i := 1) rfl)) (fun _ h9 => h9) rfl dX10_leads_31 ?_
      refine va_get (D := D) (ci := 2) (v := .ref (a 9)) (C := RX2) (T := TX2) (N := 12) hx hb hts nX10_leads_X2 hown hK hP 8 (wC_8 y a z) rfl 0 (by decide) (hts (.fieldLink RX10 107 "WorksDesk$Book" "items" "LWorksDesk$Bill;") (List.mem_of_getElem? (i := 2) rfl)) (fun _ h9 => h9) rfl dX10_leads_34 ?_
      refine va_get (D := D) (ci := 0) (v := .int (z.2.2.1 579)) (C := RX0) (T := TX0) (N := 5) hx hb hts nX10_leads_X0 hown hK hP 9 (wC_bill y a z 9 (Or.inr rfl)) rfl 3 (by decide) (hts (.fieldLink RX10 284 "WorksDesk$Bill" "size" "I") (List.mem_of_getElem? (i := 3) rfl)) (fun _ h9 => h9) rfl dX10_leads_37 ?_
      refine lv_icmp_ge (tgt := 73) hx hb dX10_leads_40 (by decide) (fun c2 => ?_) (fun c2 => ?_)
      · replace hm := zz_pos c2 hm
        refine lv_aload_n hx hb dX10_leads_73 rfl (lv_at hl 0 rfl) ?_
        refine va_get (D := D) (ci := 10) (v := .ref (a 99)) (C := RX10) (T := TX10) (N := 7) hx hb hts nX10_leads_X10 hown hK hP 0 (wC_0 y a z) rfl 6 (by decide) (hts (.fieldLink RX10 47 "WorksDesk" "lastRow" "LWorksDesk$Row;") (List.mem_of_getElem? (i := 4) rfl)) (fun _ h9 => h9) rfl dX10_leads_74 ?_
        refine lv_aload_n hx hb dX10_leads_77 rfl (lv_at hl 0 rfl) ?_
        refine va_get (D := D) (ci := 10) (v := .ref (a 8)) (C := RX10) (T := TX10) (N := 7) hx hb hts nX10_leads_X10 hown hK hP 0 (wC_0 y a z) rfl 2 (by decide) (hts (.fieldLink RX10 26 "WorksDesk" "book" "LWorksDesk$Book;") (List.mem_of_getElem? (i := 1) rfl)) (fun _ h9 => h9) rfl dX10_leads_78 ?_
        refine lv_iload_n hx hb dX10_leads_81 rfl (lv_at hl 2 rfl) ?_
        refine lv_iload_n hx hb dX10_leads_82 rfl (lv_at hl 1 rfl) ?_
        obtain ⟨r3, h4, hm⟩ := zz_b1_some hm
        refine zz_calll (zz_runV (w := wC y a) (As := [.int v2, .int v1]) (rest := [.ref (a 99)]) ⟨hx, hb, hml, hown, hts⟩ (zX2_partMore l D y a H.size v2 v1 z h4) (cwV 2 hts gX10_leads_X2_partMore rfl rfl rfl zdX2_partMore ⟨Nat.le_of_ble_eq_true rfl, Nat.le_of_ble_eq_true rfl⟩) hK hN hg hP hD hS hA 8 (wC_8 y a z) rfl rfl hl.1 rfl (Nat.le_of_ble_eq_true rfl) dX10_leads_83 ⟨Nat.le_of_ble_eq_true rfl, Nat.le_of_ble_eq_true rfl⟩) hD hS hA (fun H locs hP hD hS => ?_)
        obtain ⟨r5, z7, h6, hm⟩ := zz_b2_some hm
        refine zz_callr (zz_runV (w := wC y a) (As := [.long r3]) (rest := []) ⟨hx, hb, hml, hown, hts⟩ (zX5_start l D y a H.size r3 z h6) (cwV 1 hts gX10_leads_X5_start rfl rfl rfl zdX5_start ⟨Nat.le_of_ble_eq_true rfl, Nat.le_of_ble_eq_true rfl⟩) hK hN hg hP hD hS hA 99 (wC_99 y a z) rfl rfl hl.1 rfl (Nat.le_of_ble_eq_true rfl) dX10_leads_86 ⟨Nat.le_of_ble_eq_true rfl, Nat.le_of_ble_eq_true rfl⟩) hD hS hA (fun H locs hP hD hS => ?_)
        refine lv_pop hx hb dX10_leads_89 rfl ?_
        refine lv_iload_n hx hb dX10_leads_90 rfl (lv_at hl 2 rfl) ?_
        exact zz_iret hx hb hr hlocks (zz_some2 hm) hP hK hD hS dX10_leads_91
      · replace hm := zz_neg c2 hm
        refine lv_aload_n hx hb dX10_leads_43 rfl (lv_at hl 0 rfl) ?_
        refine va_get (D := D) (ci := 10) (v := .ref (a 8)) (C := RX10) (T := TX10) (N := 7) hx hb hts nX10_leads_X10 hown hK hP 0 (wC_0 y a z) rfl 2 (by decide) (hts (.fieldLink RX10 26 "WorksDesk" "book" "LWorksDesk$Book;") (List.mem_of_getElem? (i := 1) rfl)) (fun _ h9 => h9) rfl dX10_leads_44 ?_
        refine lv_iload_n hx hb dX10_leads_47 rfl (lv_at hl 3 rfl) ?_
        refine lv_iload_n hx hb dX10_leads_48 rfl (lv_at hl 1 rfl) ?_
        obtain ⟨r8, h9, hm⟩ := zz_b1_some hm
        refine zz_calll (zz_runV (w := wC y a) (As := [.int v3, .int v1]) (rest := []) ⟨hx, hb, hml, hown, hts⟩ (zX2_partMore l D y a H.size v3 v1 z h9) (cwV 2 hts gX10_leads_X2_partMore rfl rfl rfl zdX2_partMore ⟨Nat.le_of_ble_eq_true rfl, Nat.le_of_ble_eq_true rfl⟩) hK hN hg hP hD hS hA 8 (wC_8 y a z) rfl rfl hl.1 rfl (Nat.le_of_ble_eq_true rfl) dX10_leads_49 ⟨Nat.le_of_ble_eq_true rfl, Nat.le_of_ble_eq_true rfl⟩) hD hS hA (fun H locs hP hD hS => ?_)
        refine lv_aload_n hx hb dX10_leads_52 rfl (lv_at hl 0 rfl) ?_
        refine va_get (D := D) (ci := 10) (v := .ref (a 8)) (C := RX10) (T := TX10) (N := 7) hx hb hts nX10_leads_X10 hown hK hP 0 (wC_0 y a z) rfl 2 (by decide) (hts (.fieldLink RX10 26 "WorksDesk" "book" "LWorksDesk$Book;") (List.mem_of_getElem? (i := 1) rfl)) (fun _ h9 => h9) rfl dX10_leads_53 ?_
        refine lv_iload_n hx hb dX10_leads_56 rfl (lv_at hl 2 rfl) ?_
        refine lv_iload_n hx hb dX10_leads_57 rfl (lv_at hl 1 rfl) ?_
        obtain ⟨r10, h11, hm⟩ := zz_b1_some hm
        refine zz_calll (zz_runV (w := wC y a) (As := [.int v2, .int v1]) (rest := [.long r8]) ⟨hx, hb, hml, hown, hts⟩ (zX2_partMore l D y a H.size v2 v1 z h11) (cwV 2 hts gX10_leads_X2_partMore rfl rfl rfl zdX2_partMore ⟨Nat.le_of_ble_eq_true rfl, Nat.le_of_ble_eq_true rfl⟩) hK hN hg hP hD hS hA 8 (wC_8 y a z) rfl rfl hl.1 rfl (Nat.le_of_ble_eq_true rfl) dX10_leads_58 ⟨Nat.le_of_ble_eq_true rfl, Nat.le_of_ble_eq_true rfl⟩) hD hS hA (fun H locs hP hD hS => ?_)
        refine W.lcmp hx hb dX10_leads_61 ?_
        refine lv_if_le (tgt := 67) hx hb dX10_leads_62 (by decide) (fun c12 => ?_) (fun c12 => ?_)
        · replace hm := zz_pos c12 hm
          have j := J67 (mX10_leads_b29 n) ih v1 v2 v3 z hm
          rw [hG] at j
          exact j H locs ls hP hD hS (lv_sub hl [0, 1, 2, 3] rfl)
        · replace hm := zz_neg c12 hm
          refine lv_iload_n hx hb dX10_leads_65 rfl (lv_at hl 3 rfl) ?_
          refine lv_istore_n (lv' := [(2, .int v3), (0, .ref (a 0)), (1, .int v1), (3, .int v3)]) hx hb dX10_leads_66 rfl hl (by decide) rfl (fun ls hl => ?_)
          have j := J67 (mX10_leads_b29 n) ih v1 v3 v3 z hm
          rw [hG] at j
          exact j H locs ls hP hD hS (lv_sub hl [1, 2, 0, 3] rfl)
  rw [hG]
  intro H locs ls hP hD hS hl
  unfold mX10_leads at hm
  refine lv_iload_n hx hb dX10_leads_0 rfl (lv_at hl 1 rfl) ?_
  obtain ⟨r13, h14, hm⟩ := zz_b1_some hm
  refine zz_calli (zz_runS (w := wC y a) (As := [.int x1]) (rest := []) ⟨hx, hb, hml, hown, hts⟩ (zX10_isMonth l D y a H.size x1 z h14) (va_cwS 1 hts gX10_leads_X10_isMonth rfl rfl rfl zdX10_isMonth ⟨Nat.le_of_ble_eq_true rfl, Nat.le_of_ble_eq_true rfl⟩) hK hN hg hP hD hS hA rfl hl.1 rfl (Nat.le_of_ble_eq_true rfl) dX10_leads_1 ⟨Nat.le_of_ble_eq_true rfl, Nat.le_of_ble_eq_true rfl⟩) hD hS hA (fun H locs hP hD hS => ?_)
  refine lv_if_ne (tgt := 9) hx hb dX10_leads_4 (by decide) (fun c15 => ?_) (fun c15 => ?_)
  · replace hm := zz_neg c15 hm
    refine lv_aload_n hx hb dX10_leads_9 rfl (lv_at hl 0 rfl) ?_
    refine va_get (D := D) (ci := 10) (v := .ref (a 8)) (C := RX10) (T := TX10) (N := 7) hx hb hts nX10_leads_X10 hown hK hP 0 (wC_0 y a z) rfl 2 (by decide) (hts (.fieldLink RX10 26 "WorksDesk" "book" "LWorksDesk$Book;") (List.mem_of_getElem? (i := 1) rfl)) (fun _ h9 => h9) rfl dX10_leads_10 ?_
    refine va_get (D := D) (ci := 2) (v := .ref (a 9)) (C := RX2) (T := TX2) (N := 12) hx hb hts nX10_leads_X2 hown hK hP 8 (wC_8 y a z) rfl 0 (by decide) (hts (.fieldLink RX10 107 "WorksDesk$Book" "items" "LWorksDesk$Bill;") (List.mem_of_getElem? (i := 2) rfl)) (fun _ h9 => h9) rfl dX10_leads_13 ?_
    refine va_get (D := D) (ci := 0) (v := .int (z.2.2.1 579)) (C := RX0) (T := TX0) (N := 5) hx hb hts nX10_leads_X0 hown hK hP 9 (wC_bill y a z 9 (Or.inr rfl)) rfl 3 (by decide) (hts (.fieldLink RX10 284 "WorksDesk$Bill" "size" "I") (List.mem_of_getElem? (i := 3) rfl)) (fun _ h9 => h9) rfl dX10_leads_16 ?_
    refine lv_if_ne (tgt := 25) hx hb dX10_leads_19 (by decide) (fun c16 => ?_) (fun c16 => ?_)
    · replace hm := zz_neg c16 hm
      refine lv_iconst (v := (0 : Int32)) hx hb dX10_leads_25 (by decide) ?_
      refine lv_istore_n (lv' := [(2, .int (0 : Int32)), (0, .ref (a 0)), (1, .int x1)]) hx hb dX10_leads_26 rfl hl (by decide) rfl (fun ls hl => ?_)
      refine lv_iconst (v := (1 : Int32)) hx hb dX10_leads_27 (by decide) ?_
      refine lv_istore_n (lv' := [(3, .int (1 : Int32)), (2, .int (0 : Int32)), (0, .ref (a 0)), (1, .int x1)]) hx hb dX10_leads_28 rfl hl (by decide) rfl (fun ls hl => ?_)
      have j := J29 zz_N x1 (0 : Int32) (1 : Int32) z hm
      rw [hG] at j
      exact j H locs ls hP hD hS (lv_sub hl [2, 3, 1, 0] rfl)
    · replace hm := zz_pos c16 hm
      refine lv_bipush (v := (-2 : Int32)) hx hb dX10_leads_22 (by decide) ?_
      exact zz_iret hx hb hr hlocks (zz_some2 hm) hP hK hD hS dX10_leads_24
  · replace hm := zz_pos c15 hm
    refine lv_iconst (v := (-1 : Int32)) hx hb dX10_leads_7 (by decide) ?_
    exact zz_iret hx hb hr hlocks (zz_some2 hm) hP hK hD hS dX10_leads_8
def mX10_like_b14 (z : zz_M) : Option (Int32 × zz_M) := some ((-1 : Int32), z)
def mX10_like (x1 : Int32) (x2 : Int32) (z : zz_M) : Option (Int32 × zz_M) := zz_b1 (mX10_isKind x1) (fun r1 => if r1 = (0 : Int32) then (mX10_like_b14 z) else (zz_b1 (mX10_isRate x2) (fun r4 => if r4 = (0 : Int32) then (mX10_like_b14 z) else (zz_b1 (mX0_likeBits 9 x1 z) (fun r7 => zz_b2 (mX5_start r7.toInt64 z) (fun r9 z11 => zz_b1 (mX0_leastRate 9 x1 z11) (fun r12 => zz_b2 (mX5_then r12.toInt64 z11) (fun r14 z16 => zz_b1 (mX0_greatestRate 9 x1 z16) (fun r17 => zz_b2 (mX5_then r17.toInt64 z16) (fun r19 z21 => zz_b1 (mX0_price 9 x1 x2 z21) (fun r22 => some (r22, z21))))))))))))
theorem nX10_like_X10 : ∀ w ∈ wsX100, w ∈ wsX10_like := fun _ h => List.mem_cons_of_mem _ (List.mem_append_left _ (List.mem_append_left _ (List.mem_append_left _ (List.mem_append_right _ (h)))))
theorem nX10_like_X2 : ∀ w ∈ wsX20, w ∈ wsX10_like := fun _ h => List.mem_cons_of_mem _ (List.mem_append_left _ (List.mem_append_left _ (List.mem_append_right _ (h))))
theorem zdX10_like : yX10_like.cls = RX10 ∧ yX10_like.cls ≠ "java/lang/invoke/MethodHandle" ∧ yX10_like.cls ≠ "java/lang/invoke/VarHandle" ∧ (parseMethodDescriptor yX10_like.desc).map (fun d => d.parameters.length) = some 2 := by decide +kernel
set_option maxHeartbeats 4000000 in
set_option maxRecDepth 100000 in
theorem zX10_like (l : Launch) (D : va_G) (y : Nat → ClassId) (a : Nat → Nat) (sz : Nat) (x1 : Int32) (x2 : Int32) (z : zz_M) {r : Int32} {zt : zz_M} (hm : mX10_like x1 x2 z = some (r, zt)) : Met l yX10_like wsX10_like { frames := 2, cells := 0, slots := 0, locals := 47 } (zz_Pc D y (wC y a z) sz [.ref (a 0), .int x1, .int x2]) (zz_Qi D y (wC y a) (va_A (wC y a z) sz) r zt) 0 0 (va_A (wC y a z) sz) := by
  refine Met.ofW (cc := cX10_like) (maxL := 4) (ret := (some .int)) (by decide) rfl ?_
  intro p e s m args below meth c s₁ B hml hv
  obtain ⟨rfl, hsz, hP, hK, hD0, hN, hg⟩ := hv
  have hx := B.exec
  have hb := B.bytes
  have hr := B.returns
  have hts := atoms_spec (ws := wsX10_like) B.pre
  have hown : s.vm.findClass RX10 = some m.cls := findClass_of_methodNamed B.named
  have hlocks := B.notSynchronized
  clear B
  subst hsz
  have hD := hD0.self (sz := s.heap.size)
  generalize hAe : va_A (wC y a z) s.heap.size = A at hD hg ⊢
  have hA : ∀ q : Nat, s.heap.size ≤ q → A q := fun q h => by rw [← hAe]; exact Or.inr h
  clear hAe hD0
  have hl := lv_entry ([.ref (a 0), .int x1, .int x2]) (n := 4) (Nat.le_of_ble_eq_true rfl)
  rw [lg_entry_eq]
  generalize (lg_sl ([.ref (a 0), .int x1, .int x2]) ++ List.replicate (4 - (lg_sl ([.ref (a 0), .int x1, .int x2])).length) Slot.unset).toArray = ls at hl ⊢
  replace hl : lv_has ls 4 [(0, .ref (a 0)), (1, .int x1), (2, .int x2)] := hl
  refine zz_go (w := wC y a) hP hD va_S.rf hl (fun G hG => ?_)
  clear hP hD hl ls
  have J14 : ∀ (z : zz_M), mX10_like_b14 z = some (r, zt) → G 14 [] [] z := by
    intro z hm
    rw [mX10_like_b14] at hm
    rw [hG]
    intro H locs ls hP hD hS hl
    refine lv_iconst (v := (-1 : Int32)) hx hb dX10_like_14 (by decide) ?_
    exact zz_iret hx hb hr hlocks (zz_some2 hm) hP hK hD hS dX10_like_15
  rw [hG]
  intro H locs ls hP hD hS hl
  unfold mX10_like at hm
  refine lv_iload_n hx hb dX10_like_0 rfl (lv_at hl 1 rfl) ?_
  obtain ⟨r1, h2, hm⟩ := zz_b1_some hm
  refine zz_calli (zz_runS (w := wC y a) (As := [.int x1]) (rest := []) ⟨hx, hb, hml, hown, hts⟩ (zX10_isKind l D y a H.size x1 z h2) (va_cwS 1 hts gX10_like_X10_isKind rfl rfl rfl zdX10_isKind ⟨Nat.le_of_ble_eq_true rfl, Nat.le_of_ble_eq_true rfl⟩) hK hN hg hP hD hS hA rfl hl.1 rfl (Nat.le_of_ble_eq_true rfl) dX10_like_1 ⟨Nat.le_of_ble_eq_true rfl, Nat.le_of_ble_eq_true rfl⟩) hD hS hA (fun H locs hP hD hS => ?_)
  refine lv_if_eq (tgt := 14) hx hb dX10_like_4 (by decide) (fun c3 => ?_) (fun c3 => ?_)
  · replace hm := zz_pos c3 hm
    have j := J14 z hm
    rw [hG] at j
    exact j H locs ls hP hD hS (lv_sub hl [] rfl)
  · replace hm := zz_neg c3 hm
    refine lv_iload_n hx hb dX10_like_7 rfl (lv_at hl 2 rfl) ?_
    obtain ⟨r4, h5, hm⟩ := zz_b1_some hm
    refine zz_calli (zz_runS (w := wC y a) (As := [.int x2]) (rest := []) ⟨hx, hb, hml, hown, hts⟩ (zX10_isRate l D y a H.size x2 z h5) (va_cwS 1 hts gX10_like_X10_isRate rfl rfl rfl zdX10_isRate ⟨Nat.le_of_ble_eq_true rfl, Nat.le_of_ble_eq_true rfl⟩) hK hN hg hP hD hS hA rfl hl.1 rfl (Nat.le_of_ble_eq_true rfl) dX10_like_8 ⟨Nat.le_of_ble_eq_true rfl, Nat.le_of_ble_eq_true rfl⟩) hD hS hA (fun H locs hP hD hS => ?_)
    refine lv_if_ne (tgt := 16) hx hb dX10_like_11 (by decide) (fun c6 => ?_) (fun c6 => ?_)
    · replace hm := zz_neg c6 hm
      refine lv_aload_n hx hb dX10_like_16 rfl (lv_at hl 0 rfl) ?_
      refine va_get (D := D) (ci := 10) (v := .ref (a 8)) (C := RX10) (T := TX10) (N := 7) hx hb hts nX10_like_X10 hown hK hP 0 (wC_0 y a z) rfl 2 (by decide) (hts (.fieldLink RX10 26 "WorksDesk" "book" "LWorksDesk$Book;") (List.mem_of_getElem? (i := 1) rfl)) (fun _ h9 => h9) rfl dX10_like_17 ?_
      refine va_get (D := D) (ci := 2) (v := .ref (a 9)) (C := RX2) (T := TX2) (N := 12) hx hb hts nX10_like_X2 hown hK hP 8 (wC_8 y a z) rfl 0 (by decide) (hts (.fieldLink RX10 107 "WorksDesk$Book" "items" "LWorksDesk$Bill;") (List.mem_of_getElem? (i := 2) rfl)) (fun _ h9 => h9) rfl dX10_like_20 ?_
      refine lv_astore_n (lv' := [(3, .ref (a 9)), (0, .ref (a 0)), (1, .int x1), (2, .int x2)]) hx hb dX10_like_23 rfl hl (by decide) rfl (fun ls hl => ?_)
      refine lv_aload_n hx hb dX10_like_24 rfl (lv_at hl 1 rfl) ?_
      refine va_get (D := D) (ci := 10) (v := .ref (a 99)) (C := RX10) (T := TX10) (N := 7) hx hb hts nX10_like_X10 hown hK hP 0 (wC_0 y a z) rfl 6 (by decide) (hts (.fieldLink RX10 47 "WorksDesk" "lastRow" "LWorksDesk$Row;") (List.mem_of_getElem? (i := 3) rfl)) (fun _ h9 => h9) rfl dX10_like_25 ?_
      refine lv_aload_n hx hb dX10_like_28 rfl (lv_at hl 0 rfl) ?_
      refine lv_iload_n hx hb dX10_like_29 rfl (lv_at hl 2 rfl) ?_
      obtain ⟨r7, h8, hm⟩ := zz_b1_some hm
      refine zz_calli (zz_runV (w := wC y a) (As := [.int x1]) (rest := [.ref (a 99)]) ⟨hx, hb, hml, hown, hts⟩ (zX0_likeBits l D y a H.size 9 x1 (Or.inr rfl) z h8) (cwV 1 hts gX10_like_X0_likeBits rfl rfl rfl zdX0_likeBits ⟨Nat.le_of_ble_eq_true rfl, Nat.le_of_ble_eq_true rfl⟩) hK hN hg hP hD hS hA 9 (wC_bill y a z 9 (Or.inr rfl)) rfl rfl hl.1 rfl (Nat.le_of_ble_eq_true rfl) dX10_like_30 ⟨Nat.le_of_ble_eq_true rfl, Nat.le_of_ble_eq_true rfl⟩) hD hS hA (fun H locs hP hD hS => ?_)
      refine lv_i2l hx hb dX10_like_33 rfl ?_
      obtain ⟨r9, z11, h10, hm⟩ := zz_b2_some hm
      refine zz_callr (zz_runV (w := wC y a) (As := [.long r7.toInt64]) (rest := []) ⟨hx, hb, hml, hown, hts⟩ (zX5_start l D y a H.size r7.toInt64 z h10) (cwV 1 hts gX10_like_X5_start rfl rfl rfl zdX5_start ⟨Nat.le_of_ble_eq_true rfl, Nat.le_of_ble_eq_true rfl⟩) hK hN hg hP hD hS hA 99 (wC_99 y a z) rfl rfl hl.1 rfl (Nat.le_of_ble_eq_true rfl) dX10_like_34 ⟨Nat.le_of_ble_eq_true rfl, Nat.le_of_ble_eq_true rfl⟩) hD hS hA (fun H locs hP hD hS => ?_)
      refine lv_aload_n hx hb dX10_like_37 rfl (lv_at hl 0 rfl) ?_
      refine lv_iload_n hx hb dX10_like_38 rfl (lv_at hl 2 rfl) ?_
      obtain ⟨r12, h13, hm⟩ := zz_b1_some hm
      refine zz_calli (zz_runV (w := wC y a) (As := [.int x1]) (rest := [.ref (a 99)]) ⟨hx, hb, hml, hown, hts⟩ (zX0_leastRate l D y a H.size 9 x1 (Or.inr rfl) z11 h13) (cwV 1 hts gX10_like_X0_leastRate rfl rfl rfl zdX0_leastRate ⟨Nat.le_of_ble_eq_true rfl, Nat.le_of_ble_eq_true rfl⟩) hK hN hg hP hD hS hA 9 (wC_bill y a z11 9 (Or.inr rfl)) rfl rfl hl.1 rfl (Nat.le_of_ble_eq_true rfl) dX10_like_39 ⟨Nat.le_of_ble_eq_true rfl, Nat.le_of_ble_eq_true rfl⟩) hD hS hA (fun H locs hP hD hS => ?_)
      refine lv_i2l hx hb dX10_like_42 rfl ?_
      obtain ⟨r14, z16, h15, hm⟩ := zz_b2_some hm
      refine zz_callr (zz_runV (w := wC y a) (As := [.long r12.toInt64]) (rest := []) ⟨hx, hb, hml, hown, hts⟩ (zX5_then l D y a H.size r12.toInt64 z11 h15) (cwV 1 hts gX10_like_X5_then rfl rfl rfl zdX5_then ⟨Nat.le_of_ble_eq_true rfl, Nat.le_of_ble_eq_true rfl⟩) hK hN hg hP hD hS hA 99 (wC_99 y a z11) rfl rfl hl.1 rfl (Nat.le_of_ble_eq_true rfl) dX10_like_43 ⟨Nat.le_of_ble_eq_true rfl, Nat.le_of_ble_eq_true rfl⟩) hD hS hA (fun H locs hP hD hS => ?_)
      refine lv_aload_n hx hb dX10_like_46 rfl (lv_at hl 0 rfl) ?_
      refine lv_iload_n hx hb dX10_like_47 rfl (lv_at hl 2 rfl) ?_
      obtain ⟨r17, h18, hm⟩ := zz_b1_some hm
      refine zz_calli (zz_runV (w := wC y a) (As := [.int x1]) (rest := [.ref (a 99)]) ⟨hx, hb, hml, hown, hts⟩ (zX0_greatestRate l D y a H.size 9 x1 (Or.inr rfl) z16 h18) (cwV 1 hts gX10_like_X0_greatestRate rfl rfl rfl zdX0_greatestRate ⟨Nat.le_of_ble_eq_true rfl, Nat.le_of_ble_eq_true rfl⟩) hK hN hg hP hD hS hA 9 (wC_bill y a z16 9 (Or.inr rfl)) rfl rfl hl.1 rfl (Nat.le_of_ble_eq_true rfl) dX10_like_48 ⟨Nat.le_of_ble_eq_true rfl, Nat.le_of_ble_eq_true rfl⟩) hD hS hA (fun H locs hP hD hS => ?_)
      refine lv_i2l hx hb dX10_like_51 rfl ?_
      obtain ⟨r19, z21, h20, hm⟩ := zz_b2_some hm
      refine zz_callr (zz_runV (w := wC y a) (As := [.long r17.toInt64]) (rest := []) ⟨hx, hb, hml, hown, hts⟩ (zX5_then l D y a H.size r17.toInt64 z16 h20) (cwV 1 hts gX10_like_X5_then rfl rfl rfl zdX5_then ⟨Nat.le_of_ble_eq_true rfl, Nat.le_of_ble_eq_true rfl⟩) hK hN hg hP hD hS hA 99 (wC_99 y a z16) rfl rfl hl.1 rfl (Nat.le_of_ble_eq_true rfl) dX10_like_52 ⟨Nat.le_of_ble_eq_true rfl, Nat.le_of_ble_eq_true rfl⟩) hD hS hA (fun H locs hP hD hS => ?_)
      refine lv_pop hx hb dX10_like_55 rfl ?_
      refine lv_aload_n hx hb dX10_like_56 rfl (lv_at hl 0 rfl) ?_
      refine lv_iload_n hx hb dX10_like_57 rfl (lv_at hl 2 rfl) ?_
      refine lv_iload_n hx hb dX10_like_58 rfl (lv_at hl 3 rfl) ?_
      obtain ⟨r22, h23, hm⟩ := zz_b1_some hm
      refine zz_calli (zz_runV (w := wC y a) (As := [.int x1, .int x2]) (rest := []) ⟨hx, hb, hml, hown, hts⟩ (zX0_price l D y a H.size 9 x1 x2 (Or.inr rfl) z21 h23) (cwV 2 hts gX10_like_X0_price rfl rfl rfl zdX0_price ⟨Nat.le_of_ble_eq_true rfl, Nat.le_of_ble_eq_true rfl⟩) hK hN hg hP hD hS hA 9 (wC_bill y a z21 9 (Or.inr rfl)) rfl rfl hl.1 rfl (Nat.le_of_ble_eq_true rfl) dX10_like_59 ⟨Nat.le_of_ble_eq_true rfl, Nat.le_of_ble_eq_true rfl⟩) hD hS hA (fun H locs hP hD hS => ?_)
      exact zz_iret hx hb hr hlocks (zz_some2 hm) hP hK hD hS dX10_like_62
    · replace hm := zz_pos c6 hm
      have j := J14 z hm
      rw [hG] at j
      exact j H locs ls hP hD hS (lv_sub hl [] rfl)
def mX10_orNotThere_b11 (t0 : Int32) : Option Int32 := some t0
def mX10_orNotThere (x0 : Int32) : Option Int32 := if x0 = (-1 : Int32) then (mX10_orNotThere_b11 (-2 : Int32)) else (mX10_orNotThere_b11 x0)
theorem zdX10_orNotThere : yX10_orNotThere.cls ≠ "java/lang/invoke/MethodHandle" ∧ yX10_orNotThere.cls ≠ "java/lang/invoke/VarHandle" ∧ (parseMethodDescriptor yX10_orNotThere.desc).map (fun d => d.parameters.length) = some 1 := by decide +kernel
set_option maxHeartbeats 4000000 in
set_option maxRecDepth 100000 in
theorem zX10_orNotThere (l : Launch) (D : va_G) (y : Nat → ClassId) (a : Nat → Nat) (sz : Nat) (x0 : Int32) (z : zz_M) {r : Int32} (hm : mX10_orNotThere x0 = some r) : Met l yX10_orNotThere wsX10_orNotThere { frames := 0, cells := 0, slots := 0, locals := 0 } (zz_Pc D y (wC y a z) sz [.int x0]) (zz_Qi D y (wC y a) (va_A (wC y a z) sz) r z) 0 0 (va_A (wC y a z) sz) := by
  refine Met.ofW (cc := cX10_orNotThere) (maxL := 1) (ret := (some .int)) (by decide) rfl ?_
  intro p e s m args below meth c s₁ B hml hv
  obtain ⟨rfl, hsz, hP, hK, hD0, hN, hg⟩ := hv
  have hx := B.exec
  have hb := B.bytes
  have hr := B.returns
  have hts := atoms_spec (ws := wsX10_orNotThere) B.pre
  have hown : s.vm.findClass RX10 = some m.cls := findClass_of_methodNamed B.named
  have hlocks := B.notSynchronized
  clear B
  subst hsz
  have hD := hD0.self (sz := s.heap.size)
  generalize hAe : va_A (wC y a z) s.heap.size = A at hD hg ⊢
  have hA : ∀ q : Nat, s.heap.size ≤ q → A q := fun q h => by rw [← hAe]; exact Or.inr h
  clear hAe hD0
  have hl := lv_entry ([.int x0]) (n := 1) (Nat.le_of_ble_eq_true rfl)
  rw [lg_entry_eq]
  generalize (lg_sl ([.int x0]) ++ List.replicate (1 - (lg_sl ([.int x0])).length) Slot.unset).toArray = ls at hl ⊢
  replace hl : lv_has ls 1 [(0, .int x0)] := hl
  refine zz_go (w := wC y a) hP hD va_S.rf hl (fun G hG => ?_)
  clear hP hD hl ls
  have J11 : ∀ (t0 : Int32), mX10_orNotThere_b11 t0 = some r → G 11 [] [.int t0] z := by
    intro t0 hm
    rw [mX10_orNotThere_b11] at hm
    rw [hG]
    intro H locs ls hP hD hS hl
    exact zz_iret hx hb hr hlocks ⟨zz_some1 hm, rfl⟩ hP hK hD hS dX10_orNotThere_11
  rw [hG]
  intro H locs ls hP hD hS hl
  unfold mX10_orNotThere at hm
  refine lv_iload_n hx hb dX10_orNotThere_0 rfl (lv_at hl 0 rfl) ?_
  refine lv_iconst (v := (-1 : Int32)) hx hb dX10_orNotThere_1 (by decide) ?_
  refine lv_icmp_ne (tgt := 10) hx hb dX10_orNotThere_2 (by decide) (fun c1 => ?_) (fun c1 => ?_)
  · replace hm := zz_neg c1 hm
    refine lv_iload_n hx hb dX10_orNotThere_10 rfl (lv_at hl 0 rfl) ?_
    have j := J11 x0 hm
    rw [hG] at j
    exact j H locs ls hP hD hS (lv_sub hl [] rfl)
  · replace hm := zz_pos c1 hm
    refine lv_bipush (v := (-2 : Int32)) hx hb dX10_orNotThere_5 (by decide) ?_
    refine lv_goto (tgt := 11) hx hb dX10_orNotThere_7 (by decide) ?_
    have j := J11 (-2 : Int32) hm
    rw [hG] at j
    exact j H locs ls hP hD hS (lv_sub hl [] rfl)
def mX4_firstOf_b38 (ff : Nat) (z : zz_M) : Option Int32 := some (-1 : Int32)
def mX4_firstOf_b3 (ff : Nat) (z : zz_M) : Nat → Int32 → Int64 → Int32 → Int32 → Option Int32
  | 0, _, _, _, _ => none
  | n + 1, v1, v2, v4, v5 => if (24 : Int32) ≤ v5 then (mX4_firstOf_b38 ff z) else (if v4 ≤ v5 then (mX4_firstOf_b38 ff z) else (zz_b1 (mX4_of ff v1 v5 z) (fun r3 => if (lg_cmp r3 v2) = (0 : Int32) then (some v5) else (zz_nm (v5 + (1 : Int32)) (fun n6 => (mX4_firstOf_b3 ff z n) v1 v2 v4 n6)))))
def mX4_firstOf (ff : Nat) (x1 : Int32) (x2 : Int64) (x4 : Int32) (z : zz_M) : Option Int32 := mX4_firstOf_b3 ff z zz_N x1 x2 x4 (0 : Int32)
theorem zdX4_firstOf : yX4_firstOf.cls = RX4 ∧ yX4_firstOf.cls ≠ "java/lang/invoke/MethodHandle" ∧ yX4_firstOf.cls ≠ "java/lang/invoke/VarHandle" ∧ (parseMethodDescriptor yX4_firstOf.desc).map (fun d => d.parameters.length) = some 3 := by decide +kernel
set_option maxHeartbeats 4000000 in
set_option maxRecDepth 100000 in
theorem zX4_firstOf (l : Launch) (D : va_G) (y : Nat → ClassId) (a : Nat → Nat) (sz : Nat) (ff : Nat) (x1 : Int32) (x2 : Int64) (x4 : Int32) (hff : ff = 64 ∨ ff = 81) (z : zz_M) {r : Int32} (hm : mX4_firstOf ff x1 x2 x4 z = some r) : Met l yX4_firstOf wsX4_firstOf { frames := 1, cells := 0, slots := 0, locals := 22 } (zz_Pc D y (wC y a z) sz [.ref (a ff), .int x1, .long x2, .int x4]) (zz_Qi D y (wC y a) (va_A (wC y a z) sz) r z) 0 0 (va_A (wC y a z) sz) := by
  refine Met.ofW (cc := cX4_firstOf) (maxL := 6) (ret := (some .int)) (by decide) rfl ?_
  intro p e s m args below meth c s₁ B hml hv
  obtain ⟨rfl, hsz, hP, hK, hD0, hN, hg⟩ := hv
  have hx := B.exec
  have hb := B.bytes
  have hr := B.returns
  have hts := atoms_spec (ws := wsX4_firstOf) B.pre
  have hown : s.vm.findClass RX4 = some m.cls := findClass_of_methodNamed B.named
  have hlocks := B.notSynchronized
  clear B
  subst hsz
  have hD := hD0.self (sz := s.heap.size)
  generalize hAe : va_A (wC y a z) s.heap.size = A at hD hg ⊢
  have hA : ∀ q : Nat, s.heap.size ≤ q → A q := fun q h => by rw [← hAe]; exact Or.inr h
  clear hAe hD0
  have hl := lv_entry ([.ref (a ff), .int x1, .long x2, .int x4]) (n := 6) (Nat.le_of_ble_eq_true rfl)
  rw [lg_entry_eq]
  generalize (lg_sl ([.ref (a ff), .int x1, .long x2, .int x4]) ++ List.replicate (6 - (lg_sl ([.ref (a ff), .int x1, .long x2, .int x4])).length) Slot.unset).toArray = ls at hl ⊢
  replace hl : lv_has ls 6 [(0, .ref (a ff)), (1, .int x1), (2, .long x2), (4, .int x4)] := hl
  refine zz_go (w := wC y a) hP hD va_S.rf hl (fun G hG => ?_)
  clear hP hD hl ls
  have J38 : mX4_firstOf_b38 ff z = some r → G 38 [] [] z := by
    intro hm
    rw [mX4_firstOf_b38] at hm
    rw [hG]
    intro H locs ls hP hD hS hl
    refine lv_iconst (v := (-1 : Int32)) hx hb dX4_firstOf_38 (by decide) ?_
    exact zz_iret hx hb hr hlocks ⟨zz_some1 hm, rfl⟩ hP hK hD hS dX4_firstOf_39
  have J3 : ∀ (n : Nat) (v1 : Int32) (v2 : Int64) (v4 : Int32) (v5 : Int32), mX4_firstOf_b3 ff z n v1 v2 v4 v5 = some r → G 3 [(0, .ref (a ff)), (1, .int v1), (2, .long v2), (4, .int v4), (5, .int v5)] [] z := by
    intro n
    induction n with
    | zero =>
      intro v1 v2 v4 v5 hm
      exact zz_none hm
    | succ n ih =>
      intro v1 v2 v4 v5 hm
      rw [mX4_firstOf_b3] at hm
      rw [hG]
      intro H locs ls hP hD hS hl
      refine lv_iload hx hb dX4_firstOf_3 (lv_at hl 4 rfl) ?_
      refine lv_bipush (v := (24 : Int32)) hx hb dX4_firstOf_5 (by decide) ?_
      refine lv_icmp_ge (tgt := 38) hx hb dX4_firstOf_7 (by decide) (fun c1 => ?_) (fun c1 => ?_)
      · replace hm := zz_pos c1 hm
        have j := J38 hm
        rw [hG] at j
        exact j H locs ls hP hD hS (lv_sub hl [] rfl)
      · replace hm := zz_neg c1 hm
        refine lv_iload hx hb dX4_firstOf_10 (lv_at hl 4 rfl) ?_
        refine lv_iload hx hb dX4_firstOf_12 (lv_at hl 3 rfl) ?_
        refine lv_icmp_ge (tgt := 38) hx hb dX4_firstOf_14 (by decide) (fun c2 => ?_) (fun c2 => ?_)
        · replace hm := zz_pos c2 hm
          have j := J38 hm
          rw [hG] at j
          exact j H locs ls hP hD hS (lv_sub hl [] rfl)
        · replace hm := zz_neg c2 hm
          refine lv_aload_n hx hb dX4_firstOf_17 rfl (lv_at hl 0 rfl) ?_
          refine lv_iload_n hx hb dX4_firstOf_18 rfl (lv_at hl 1 rfl) ?_
          refine lv_iload hx hb dX4_firstOf_19 (lv_at hl 4 rfl) ?_
          obtain ⟨r3, h4, hm⟩ := zz_b1_some hm
          refine zz_calll (zz_runV (w := wC y a) (As := [.int v1, .int v5]) (rest := []) ⟨hx, hb, hml, hown, hts⟩ (zX4_of l D y a H.size ff v1 v5 hff z h4) (cwV 2 hts gX4_firstOf_X4_of rfl rfl rfl zdX4_of ⟨Nat.le_of_ble_eq_true rfl, Nat.le_of_ble_eq_true rfl⟩) hK hN hg hP hD hS hA ff (wC_fig y a z ff hff) rfl rfl hl.1 rfl (Nat.le_of_ble_eq_true rfl) dX4_firstOf_21 ⟨Nat.le_of_ble_eq_true rfl, Nat.le_of_ble_eq_true rfl⟩) hD hS hA (fun H locs hP hD hS => ?_)
          refine lv_lload_n hx hb dX4_firstOf_24 rfl (lv_at hl 2 rfl) ?_
          refine W.lcmp hx hb dX4_firstOf_25 ?_
          refine lv_if_ne (tgt := 32) hx hb dX4_firstOf_26 (by decide) (fun c5 => ?_) (fun c5 => ?_)
          · replace hm := zz_neg c5 hm
            obtain ⟨n6, en6⟩ : ∃ q : Int32, q = v5 + (1 : Int32) := ⟨_, rfl⟩
            replace hm := zz_nm_some en6 hm
            refine lv_iinc (v := n6) (lv' := [(5, .int n6), (0, .ref (a ff)), (1, .int v1), (2, .long v2), (4, .int v4)]) hx hb dX4_firstOf_32 hl (k := 4) rfl (by rw [en6]; rfl) (by decide) rfl (fun ls hl => ?_)
            refine lv_goto (tgt := 3) hx hb dX4_firstOf_35 (by decide) ?_
            have j := ih v1 v2 v4 n6 hm
            rw [hG] at j
            exact j H locs ls hP hD hS (lv_sub hl [1, 2, 3, 4, 0] rfl)
          · replace hm := zz_pos c5 hm
            refine lv_iload hx hb dX4_firstOf_29 (lv_at hl 4 rfl) ?_
            exact zz_iret hx hb hr hlocks ⟨zz_some1 hm, rfl⟩ hP hK hD hS dX4_firstOf_31
  rw [hG]
  intro H locs ls hP hD hS hl
  unfold mX4_firstOf at hm
  refine lv_iconst (v := (0 : Int32)) hx hb dX4_firstOf_0 (by decide) ?_
  refine lv_istore (lv' := [(5, .int (0 : Int32)), (0, .ref (a ff)), (1, .int x1), (2, .long x2), (4, .int x4)]) hx hb dX4_firstOf_1 hl (by decide) rfl (fun ls hl => ?_)
  have j := J3 zz_N x1 x2 x4 (0 : Int32) hm
  rw [hG] at j
  exact j H locs ls hP hD hS (lv_sub hl [1, 2, 3, 4, 0] rfl)
def mX10_limited (z : zz_M) : Option (Int32 × zz_M) := zz_b1 (mX2_limit z) (fun r1 => if (0 : Int32) < (lg_cmp r1 (0 : Int64)) then (zz_b2 (mX4_reckon 64 z) (fun r4 z6 => zz_b1 (mX4_firstOf 64 (3 : Int32) r1 (z6.2.2.1 520) z6) (fun r7 => zz_b1 (mX10_orNotThere r7) (fun r9 => some (r9, z6))))) else (some ((-2 : Int32), z)))
theorem nX10_limited_X10 : ∀ w ∈ wsX100, w ∈ wsX10_limited := fun _ h => List.mem_cons_of_mem _ (List.mem_append_left _ (List.mem_append_left _ (List.mem_append_left _ (List.mem_append_left _ (List.mem_append_left _ (List.mem_append_left _ (List.mem_append_left _ (List.mem_append_right _ (h)))))))))
theorem nX10_limited_X2 : ∀ w ∈ wsX20, w ∈ wsX10_limited := fun _ h => List.mem_cons_of_mem _ (List.mem_append_left _ (List.mem_append_left _ (List.mem_append_left _ (List.mem_append_left _ (List.mem_append_left _ (List.mem_append_left _ (List.mem_append_right _ (h))))))))
theorem zdX10_limited : yX10_limited.cls = RX10 ∧ yX10_limited.cls ≠ "java/lang/invoke/MethodHandle" ∧ yX10_limited.cls ≠ "java/lang/invoke/VarHandle" ∧ (parseMethodDescriptor yX10_limited.desc).map (fun d => d.parameters.length) = some 0 := by decide +kernel
set_option maxHeartbeats 4000000 in
set_option maxRecDepth 100000 in
theorem zX10_limited (l : Launch) (D : va_G) (y : Nat → ClassId) (a : Nat → Nat) (sz : Nat) (z : zz_M) {r : Int32} {zt : zz_M} (hm : mX10_limited z = some (r, zt)) : Met l yX10_limited wsX10_limited { frames := 5, cells := 0, slots := 0, locals := 129 } (zz_Pc D y (wC y a z) sz [.ref (a 0)]) (zz_Qi D y (wC y a) (va_A (wC y a z) sz) r zt) 0 0 (va_A (wC y a z) sz) := by
  refine Met.ofW (cc := cX10_limited) (maxL := 3) (ret := (some .int)) (by decide) rfl ?_
  intro p e s m args below meth c s₁ B hml hv
  obtain ⟨rfl, hsz, hP, hK, hD0, hN, hg⟩ := hv
  have hx := B.exec
  have hb := B.bytes
  have hr := B.returns
  have hts := atoms_spec (ws := wsX10_limited) B.pre
  have hown : s.vm.findClass RX10 = some m.cls := findClass_of_methodNamed B.named
  have hlocks := B.notSynchronized
  clear B
  subst hsz
  have hD := hD0.self (sz := s.heap.size)
  generalize hAe : va_A (wC y a z) s.heap.size = A at hD hg ⊢
  have hA : ∀ q : Nat, s.heap.size ≤ q → A q := fun q h => by rw [← hAe]; exact Or.inr h
  clear hAe hD0
  have hl := lv_entry ([.ref (a 0)]) (n := 3) (Nat.le_of_ble_eq_true rfl)
  rw [lg_entry_eq]
  generalize (lg_sl ([.ref (a 0)]) ++ List.replicate (3 - (lg_sl ([.ref (a 0)])).length) Slot.unset).toArray = ls at hl ⊢
  replace hl : lv_has ls 3 [(0, .ref (a 0))] := hl
  refine zz_go (w := wC y a) hP hD va_S.rf hl (fun G hG => ?_)
  clear hP hD hl ls
  rw [hG]
  intro H locs ls hP hD hS hl
  unfold mX10_limited at hm
  refine lv_aload_n hx hb dX10_limited_0 rfl (lv_at hl 0 rfl) ?_
  refine va_get (D := D) (ci := 10) (v := .ref (a 8)) (C := RX10) (T := TX10) (N := 7) hx hb hts nX10_limited_X10 hown hK hP 0 (wC_0 y a z) rfl 2 (by decide) (hts (.fieldLink RX10 26 "WorksDesk" "book" "LWorksDesk$Book;") (List.mem_of_getElem? (i := 1) rfl)) (fun _ h9 => h9) rfl dX10_limited_1 ?_
  obtain ⟨r1, h2, hm⟩ := zz_b1_some hm
  refine zz_calll (zz_runV (w := wC y a) (As := []) (rest := []) ⟨hx, hb, hml, hown, hts⟩ (zX2_limit l D y a H.size z h2) (cwV 0 hts gX10_limited_X2_limit rfl rfl rfl zdX2_limit ⟨Nat.le_of_ble_eq_true rfl, Nat.le_of_ble_eq_true rfl⟩) hK hN hg hP hD hS hA 8 (wC_8 y a z) rfl rfl hl.1 rfl (Nat.le_of_ble_eq_true rfl) dX10_limited_4 ⟨Nat.le_of_ble_eq_true rfl, Nat.le_of_ble_eq_true rfl⟩) hD hS hA (fun H locs hP hD hS => ?_)
  refine lv_lstore_n (lv' := [(1, .long r1), (0, .ref (a 0))]) hx hb dX10_limited_7 rfl hl (by decide) rfl (fun ls hl => ?_)
  refine lv_lload_n hx hb dX10_limited_8 rfl (lv_at hl 0 rfl) ?_
  refine lv_lconst (v := (0 : Int64)) hx hb dX10_limited_9 (by decide) ?_
  refine W.lcmp hx hb dX10_limited_10 ?_
  refine lv_if_gt (tgt := 17) hx hb dX10_limited_11 (by decide) (fun c3 => ?_) (fun c3 => ?_)
  · replace hm := zz_pos c3 hm
    refine lv_aload_n hx hb dX10_limited_17 rfl (lv_at hl 1 rfl) ?_
    refine va_get (D := D) (ci := 10) (v := .ref (a 64)) (C := RX10) (T := TX10) (N := 7) hx hb hts nX10_limited_X10 hown hK hP 0 (wC_0 y a z) rfl 3 (by decide) (hts (.fieldLink RX10 33 "WorksDesk" "real" "LWorksDesk$Figures;") (List.mem_of_getElem? (i := 2) rfl)) (fun _ h9 => h9) rfl dX10_limited_18 ?_
    refine lv_aload_n hx hb dX10_limited_21 rfl (lv_at hl 1 rfl) ?_
    refine va_get (D := D) (ci := 10) (v := .ref (a 8)) (C := RX10) (T := TX10) (N := 7) hx hb hts nX10_limited_X10 hown hK hP 0 (wC_0 y a z) rfl 2 (by decide) (hts (.fieldLink RX10 26 "WorksDesk" "book" "LWorksDesk$Book;") (List.mem_of_getElem? (i := 1) rfl)) (fun _ h9 => h9) rfl dX10_limited_22 ?_
    obtain ⟨r4, z6, h5, hm⟩ := zz_b2_some hm
    refine zz_callv (zz_runV (w := wC y a) (As := [.ref (a 8)]) (rest := []) ⟨hx, hb, hml, hown, hts⟩ (zX4_reckon l D y a H.size 64 (Or.inl rfl) z h5) (cwV 1 hts gX10_limited_X4_reckon rfl rfl rfl zdX4_reckon ⟨Nat.le_of_ble_eq_true rfl, Nat.le_of_ble_eq_true rfl⟩) hK hN hg hP hD hS hA 64 (wC_fig y a z 64 (Or.inl rfl)) rfl rfl hl.1 rfl (Nat.le_of_ble_eq_true rfl) dX10_limited_25 ⟨Nat.le_of_ble_eq_true rfl, Nat.le_of_ble_eq_true rfl⟩) hD hS hA (fun H locs hP hD hS => ?_)
    refine lv_aload_n hx hb dX10_limited_28 rfl (lv_at hl 1 rfl) ?_
    refine va_get (D := D) (ci := 10) (v := .ref (a 64)) (C := RX10) (T := TX10) (N := 7) hx hb hts nX10_limited_X10 hown hK hP 0 (wC_0 y a z6) rfl 3 (by decide) (hts (.fieldLink RX10 33 "WorksDesk" "real" "LWorksDesk$Figures;") (List.mem_of_getElem? (i := 2) rfl)) (fun _ h9 => h9) rfl dX10_limited_29 ?_
    refine lv_iconst (v := (3 : Int32)) hx hb dX10_limited_32 (by decide) ?_
    refine lv_lload_n hx hb dX10_limited_33 rfl (lv_at hl 0 rfl) ?_
    refine lv_aload_n hx hb dX10_limited_34 rfl (lv_at hl 1 rfl) ?_
    refine va_get (D := D) (ci := 10) (v := .ref (a 8)) (C := RX10) (T := TX10) (N := 7) hx hb hts nX10_limited_X10 hown hK hP 0 (wC_0 y a z6) rfl 2 (by decide) (hts (.fieldLink RX10 26 "WorksDesk" "book" "LWorksDesk$Book;") (List.mem_of_getElem? (i := 1) rfl)) (fun _ h9 => h9) rfl dX10_limited_35 ?_
    refine va_get (D := D) (ci := 2) (v := .int (z6.2.2.1 520)) (C := RX2) (T := TX2) (N := 12) hx hb hts nX10_limited_X2 hown hK hP 8 (wC_8 y a z6) rfl 8 (by decide) (hts (.fieldLink RX10 198 "WorksDesk$Book" "handedOver" "I") (List.mem_of_getElem? (i := 3) rfl)) (fun _ h9 => h9) rfl dX10_limited_38 ?_
    obtain ⟨r7, h8, hm⟩ := zz_b1_some hm
    refine zz_calli (zz_runV (w := wC y a) (As := [.int (3 : Int32), .long r1, .int (z6.2.2.1 520)]) (rest := []) ⟨hx, hb, hml, hown, hts⟩ (zX4_firstOf l D y a H.size 64 (3 : Int32) r1 (z6.2.2.1 520) (Or.inl rfl) z6 h8) (cwV 3 hts gX10_limited_X4_firstOf rfl rfl rfl zdX4_firstOf ⟨Nat.le_of_ble_eq_true rfl, Nat.le_of_ble_eq_true rfl⟩) hK hN hg hP hD hS hA 64 (wC_fig y a z6 64 (Or.inl rfl)) rfl rfl hl.1 rfl (Nat.le_of_ble_eq_true rfl) dX10_limited_41 ⟨Nat.le_of_ble_eq_true rfl, Nat.le_of_ble_eq_true rfl⟩) hD hS hA (fun H locs hP hD hS => ?_)
    obtain ⟨r9, h10, hm⟩ := zz_b1_some hm
    refine zz_calli (zz_runS (w := wC y a) (As := [.int r7]) (rest := []) ⟨hx, hb, hml, hown, hts⟩ (zX10_orNotThere l D y a H.size r7 z6 h10) (va_cwS 1 hts gX10_limited_X10_orNotThere rfl rfl rfl zdX10_orNotThere ⟨Nat.le_of_ble_eq_true rfl, Nat.le_of_ble_eq_true rfl⟩) hK hN hg hP hD hS hA rfl hl.1 rfl (Nat.le_of_ble_eq_true rfl) dX10_limited_44 ⟨Nat.le_of_ble_eq_true rfl, Nat.le_of_ble_eq_true rfl⟩) hD hS hA (fun H locs hP hD hS => ?_)
    exact zz_iret hx hb hr hlocks (zz_some2 hm) hP hK hD hS dX10_limited_47
  · replace hm := zz_neg c3 hm
    refine lv_bipush (v := (-2 : Int32)) hx hb dX10_limited_14 (by decide) ?_
    exact zz_iret hx hb hr hlocks (zz_some2 hm) hP hK hD hS dX10_limited_16
def mX10_lines (x1 : Int32) (z : zz_M) : Option (Int32 × zz_M) := zz_b1 (mX10_isMonth x1) (fun r1 => if r1 = (0 : Int32) then (some ((-1 : Int32), z)) else (zz_b2 (mX4_reckon 64 z) (fun r4 z6 => zz_b1 (mX4_fresh 64 (0 : Int32) x1 z6) (fun r7 => zz_b2 (mX5_start r7 z6) (fun r9 z11 => zz_b1 (mX4_fresh 64 (2 : Int32) x1 z11) (fun r12 => zz_b2 (mX5_then r12 z11) (fun r14 z16 => zz_b1 (mX4_fresh 64 (3 : Int32) x1 z16) (fun r17 => zz_b2 (mX5_then r17 z16) (fun r19 z21 => zz_b1 (mX4_fresh 64 (4 : Int32) x1 z21) (fun r22 => zz_b2 (mX5_then r22 z21) (fun r24 z26 => zz_b1 (mX4_fresh 64 (5 : Int32) x1 z26) (fun r27 => zz_b2 (mX5_then r27 z26) (fun r29 z31 => some ((0 : Int32), z31))))))))))))))
theorem nX10_lines_X10 : ∀ w ∈ wsX100, w ∈ wsX10_lines := fun _ h => List.mem_cons_of_mem _ (List.mem_append_left _ (List.mem_append_left _ (List.mem_append_left _ (List.mem_append_left _ (List.mem_append_left _ (List.mem_append_left _ (List.mem_append_left _ (List.mem_append_left _ (List.mem_append_right _ (h))))))))))
theorem zdX10_lines : yX10_lines.cls = RX10 ∧ yX10_lines.cls ≠ "java/lang/invoke/MethodHandle" ∧ yX10_lines.cls ≠ "java/lang/invoke/VarHandle" ∧ (parseMethodDescriptor yX10_lines.desc).map (fun d => d.parameters.length) = some 1 := by decide +kernel
set_option maxHeartbeats 4000000 in
set_option maxRecDepth 100000 in
theorem zX10_lines (l : Launch) (D : va_G) (y : Nat → ClassId) (a : Nat → Nat) (sz : Nat) (x1 : Int32) (z : zz_M) {r : Int32} {zt : zz_M} (hm : mX10_lines x1 z = some (r, zt)) : Met l yX10_lines wsX10_lines { frames := 5, cells := 0, slots := 0, locals := 129 } (zz_Pc D y (wC y a z) sz [.ref (a 0), .int x1]) (zz_Qi D y (wC y a) (va_A (wC y a z) sz) r zt) 0 0 (va_A (wC y a z) sz) := by
  refine Met.ofW (cc := cX10_lines) (maxL := 2) (ret := (some .int)) (by decide) rfl ?_
  intro p e s m args below meth c s₁ B hml hv
  obtain ⟨rfl, hsz, hP, hK, hD0, hN, hg⟩ := hv
  have hx := B.exec
  have hb := B.bytes
  have hr := B.returns
  have hts := atoms_spec (ws := wsX10_lines) B.pre
  have hown : s.vm.findClass RX10 = some m.cls := findClass_of_methodNamed B.named
  have hlocks := B.notSynchronized
  clear B
  subst hsz
  have hD := hD0.self (sz := s.heap.size)
  generalize hAe : va_A (wC y a z) s.heap.size = A at hD hg ⊢
  have hA : ∀ q : Nat, s.heap.size ≤ q → A q := fun q h => by rw [← hAe]; exact Or.inr h
  clear hAe hD0
  have hl := lv_entry ([.ref (a 0), .int x1]) (n := 2) (Nat.le_of_ble_eq_true rfl)
  rw [lg_entry_eq]
  generalize (lg_sl ([.ref (a 0), .int x1]) ++ List.replicate (2 - (lg_sl ([.ref (a 0), .int x1])).length) Slot.unset).toArray = ls at hl ⊢
  replace hl : lv_has ls 2 [(0, .ref (a 0)), (1, .int x1)] := hl
  refine zz_go (w := wC y a) hP hD va_S.rf hl (fun G hG => ?_)
  clear hP hD hl ls
  rw [hG]
  intro H locs ls hP hD hS hl
  unfold mX10_lines at hm
  refine lv_iload_n hx hb dX10_lines_0 rfl (lv_at hl 1 rfl) ?_
  obtain ⟨r1, h2, hm⟩ := zz_b1_some hm
  refine zz_calli (zz_runS (w := wC y a) (As := [.int x1]) (rest := []) ⟨hx, hb, hml, hown, hts⟩ (zX10_isMonth l D y a H.size x1 z h2) (va_cwS 1 hts gX10_lines_X10_isMonth rfl rfl rfl zdX10_isMonth ⟨Nat.le_of_ble_eq_true rfl, Nat.le_of_ble_eq_true rfl⟩) hK hN hg hP hD hS hA rfl hl.1 rfl (Nat.le_of_ble_eq_true rfl) dX10_lines_1 ⟨Nat.le_of_ble_eq_true rfl, Nat.le_of_ble_eq_true rfl⟩) hD hS hA (fun H locs hP hD hS => ?_)
  refine lv_if_ne (tgt := 9) hx hb dX10_lines_4 (by decide) (fun c3 => ?_) (fun c3 => ?_)
  · replace hm := zz_neg c3 hm
    refine lv_aload_n hx hb dX10_lines_9 rfl (lv_at hl 0 rfl) ?_
    refine va_get (D := D) (ci := 10) (v := .ref (a 64)) (C := RX10) (T := TX10) (N := 7) hx hb hts nX10_lines_X10 hown hK hP 0 (wC_0 y a z) rfl 3 (by decide) (hts (.fieldLink RX10 33 "WorksDesk" "real" "LWorksDesk$Figures;") (List.mem_of_getElem? (i := 1) rfl)) (fun _ h9 => h9) rfl dX10_lines_10 ?_
    refine lv_aload_n hx hb dX10_lines_13 rfl (lv_at hl 0 rfl) ?_
    refine va_get (D := D) (ci := 10) (v := .ref (a 8)) (C := RX10) (T := TX10) (N := 7) hx hb hts nX10_lines_X10 hown hK hP 0 (wC_0 y a z) rfl 2 (by decide) (hts (.fieldLink RX10 26 "WorksDesk" "book" "LWorksDesk$Book;") (List.mem_of_getElem? (i := 2) rfl)) (fun _ h9 => h9) rfl dX10_lines_14 ?_
    obtain ⟨r4, z6, h5, hm⟩ := zz_b2_some hm
    refine zz_callv (zz_runV (w := wC y a) (As := [.ref (a 8)]) (rest := []) ⟨hx, hb, hml, hown, hts⟩ (zX4_reckon l D y a H.size 64 (Or.inl rfl) z h5) (cwV 1 hts gX10_lines_X4_reckon rfl rfl rfl zdX4_reckon ⟨Nat.le_of_ble_eq_true rfl, Nat.le_of_ble_eq_true rfl⟩) hK hN hg hP hD hS hA 64 (wC_fig y a z 64 (Or.inl rfl)) rfl rfl hl.1 rfl (Nat.le_of_ble_eq_true rfl) dX10_lines_17 ⟨Nat.le_of_ble_eq_true rfl, Nat.le_of_ble_eq_true rfl⟩) hD hS hA (fun H locs hP hD hS => ?_)
    refine lv_aload_n hx hb dX10_lines_20 rfl (lv_at hl 0 rfl) ?_
    refine va_get (D := D) (ci := 10) (v := .ref (a 99)) (C := RX10) (T := TX10) (N := 7) hx hb hts nX10_lines_X10 hown hK hP 0 (wC_0 y a z6) rfl 6 (by decide) (hts (.fieldLink RX10 47 "WorksDesk" "lastRow" "LWorksDesk$Row;") (List.mem_of_getElem? (i := 3) rfl)) (fun _ h9 => h9) rfl dX10_lines_21 ?_
    refine lv_aload_n hx hb dX10_lines_24 rfl (lv_at hl 0 rfl) ?_
    refine va_get (D := D) (ci := 10) (v := .ref (a 64)) (C := RX10) (T := TX10) (N := 7) hx hb hts nX10_lines_X10 hown hK hP 0 (wC_0 y a z6) rfl 3 (by decide) (hts (.fieldLink RX10 33 "WorksDesk" "real" "LWorksDesk$Figures;") (List.mem_of_getElem? (i := 1) rfl)) (fun _ h9 => h9) rfl dX10_lines_25 ?_
    refine lv_iconst (v := (0 : Int32)) hx hb dX10_lines_28 (by decide) ?_
    refine lv_iload_n hx hb dX10_lines_29 rfl (lv_at hl 1 rfl) ?_
    obtain ⟨r7, h8, hm⟩ := zz_b1_some hm
    refine zz_calll (zz_runV (w := wC y a) (As := [.int (0 : Int32), .int x1]) (rest := [.ref (a 99)]) ⟨hx, hb, hml, hown, hts⟩ (zX4_fresh l D y a H.size 64 (0 : Int32) x1 (Or.inl rfl) z6 h8) (cwV 2 hts gX10_lines_X4_fresh rfl rfl rfl zdX4_fresh ⟨Nat.le_of_ble_eq_true rfl, Nat.le_of_ble_eq_true rfl⟩) hK hN hg hP hD hS hA 64 (wC_fig y a z6 64 (Or.inl rfl)) rfl rfl hl.1 rfl (Nat.le_of_ble_eq_true rfl) dX10_lines_30 ⟨Nat.le_of_ble_eq_true rfl, Nat.le_of_ble_eq_true rfl⟩) hD hS hA (fun H locs hP hD hS => ?_)
    obtain ⟨r9, z11, h10, hm⟩ := zz_b2_some hm
    refine zz_callr (zz_runV (w := wC y a) (As := [.long r7]) (rest := []) ⟨hx, hb, hml, hown, hts⟩ (zX5_start l D y a H.size r7 z6 h10) (cwV 1 hts gX10_lines_X5_start rfl rfl rfl zdX5_start ⟨Nat.le_of_ble_eq_true rfl, Nat.le_of_ble_eq_true rfl⟩) hK hN hg hP hD hS hA 99 (wC_99 y a z6) rfl rfl hl.1 rfl (Nat.le_of_ble_eq_true rfl) dX10_lines_33 ⟨Nat.le_of_ble_eq_true rfl, Nat.le_of_ble_eq_true rfl⟩) hD hS hA (fun H locs hP hD hS => ?_)
    refine lv_aload_n hx hb dX10_lines_36 rfl (lv_at hl 0 rfl) ?_
    refine va_get (D := D) (ci := 10) (v := .ref (a 64)) (C := RX10) (T := TX10) (N := 7) hx hb hts nX10_lines_X10 hown hK hP 0 (wC_0 y a z11) rfl 3 (by decide) (hts (.fieldLink RX10 33 "WorksDesk" "real" "LWorksDesk$Figures;") (List.mem_of_getElem? (i := 1) rfl)) (fun _ h9 => h9) rfl dX10_lines_37 ?_
    refine lv_iconst (v := (2 : Int32)) hx hb dX10_lines_40 (by decide) ?_
    refine lv_iload_n hx hb dX10_lines_41 rfl (lv_at hl 1 rfl) ?_
    obtain ⟨r12, h13, hm⟩ := zz_b1_some hm
    refine zz_calll (zz_runV (w := wC y a) (As := [.int (2 : Int32), .int x1]) (rest := [.ref (a 99)]) ⟨hx, hb, hml, hown, hts⟩ (zX4_fresh l D y a H.size 64 (2 : Int32) x1 (Or.inl rfl) z11 h13) (cwV 2 hts gX10_lines_X4_fresh rfl rfl rfl zdX4_fresh ⟨Nat.le_of_ble_eq_true rfl, Nat.le_of_ble_eq_true rfl⟩) hK hN hg hP hD hS hA 64 (wC_fig y a z11 64 (Or.inl rfl)) rfl rfl hl.1 rfl (Nat.le_of_ble_eq_true rfl) dX10_lines_42 ⟨Nat.le_of_ble_eq_true rfl, Nat.le_of_ble_eq_true rfl⟩) hD hS hA (fun H locs hP hD hS => ?_)
    obtain ⟨r14, z16, h15, hm⟩ := zz_b2_some hm
    refine zz_callr (zz_runV (w := wC y a) (As := [.long r12]) (rest := []) ⟨hx, hb, hml, hown, hts⟩ (zX5_then l D y a H.size r12 z11 h15) (cwV 1 hts gX10_lines_X5_then rfl rfl rfl zdX5_then ⟨Nat.le_of_ble_eq_true rfl, Nat.le_of_ble_eq_true rfl⟩) hK hN hg hP hD hS hA 99 (wC_99 y a z11) rfl rfl hl.1 rfl (Nat.le_of_ble_eq_true rfl) dX10_lines_45 ⟨Nat.le_of_ble_eq_true rfl, Nat.le_of_ble_eq_true rfl⟩) hD hS hA (fun H locs hP hD hS => ?_)
    refine lv_pop hx hb dX10_lines_48 rfl ?_
    refine lv_aload_n hx hb dX10_lines_49 rfl (lv_at hl 0 rfl) ?_
    refine va_get (D := D) (ci := 10) (v := .ref (a 99)) (C := RX10) (T := TX10) (N := 7) hx hb hts nX10_lines_X10 hown hK hP 0 (wC_0 y a z16) rfl 6 (by decide) (hts (.fieldLink RX10 47 "WorksDesk" "lastRow" "LWorksDesk$Row;") (List.mem_of_getElem? (i := 3) rfl)) (fun _ h9 => h9) rfl dX10_lines_50 ?_
    refine lv_aload_n hx hb dX10_lines_53 rfl (lv_at hl 0 rfl) ?_
    refine va_get (D := D) (ci := 10) (v := .ref (a 64)) (C := RX10) (T := TX10) (N := 7) hx hb hts nX10_lines_X10 hown hK hP 0 (wC_0 y a z16) rfl 3 (by decide) (hts (.fieldLink RX10 33 "WorksDesk" "real" "LWorksDesk$Figures;") (List.mem_of_getElem? (i := 1) rfl)) (fun _ h9 => h9) rfl dX10_lines_54 ?_
    refine lv_iconst (v := (3 : Int32)) hx hb dX10_lines_57 (by decide) ?_
    refine lv_iload_n hx hb dX10_lines_58 rfl (lv_at hl 1 rfl) ?_
    obtain ⟨r17, h18, hm⟩ := zz_b1_some hm
    refine zz_calll (zz_runV (w := wC y a) (As := [.int (3 : Int32), .int x1]) (rest := [.ref (a 99)]) ⟨hx, hb, hml, hown, hts⟩ (zX4_fresh l D y a H.size 64 (3 : Int32) x1 (Or.inl rfl) z16 h18) (cwV 2 hts gX10_lines_X4_fresh rfl rfl rfl zdX4_fresh ⟨Nat.le_of_ble_eq_true rfl, Nat.le_of_ble_eq_true rfl⟩) hK hN hg hP hD hS hA 64 (wC_fig y a z16 64 (Or.inl rfl)) rfl rfl hl.1 rfl (Nat.le_of_ble_eq_true rfl) dX10_lines_59 ⟨Nat.le_of_ble_eq_true rfl, Nat.le_of_ble_eq_true rfl⟩) hD hS hA (fun H locs hP hD hS => ?_)
    obtain ⟨r19, z21, h20, hm⟩ := zz_b2_some hm
    refine zz_callr (zz_runV (w := wC y a) (As := [.long r17]) (rest := []) ⟨hx, hb, hml, hown, hts⟩ (zX5_then l D y a H.size r17 z16 h20) (cwV 1 hts gX10_lines_X5_then rfl rfl rfl zdX5_then ⟨Nat.le_of_ble_eq_true rfl, Nat.le_of_ble_eq_true rfl⟩) hK hN hg hP hD hS hA 99 (wC_99 y a z16) rfl rfl hl.1 rfl (Nat.le_of_ble_eq_true rfl) dX10_lines_62 ⟨Nat.le_of_ble_eq_true rfl, Nat.le_of_ble_eq_true rfl⟩) hD hS hA (fun H locs hP hD hS => ?_)
    refine lv_aload_n hx hb dX10_lines_65 rfl (lv_at hl 0 rfl) ?_
    refine va_get (D := D) (ci := 10) (v := .ref (a 64)) (C := RX10) (T := TX10) (N := 7) hx hb hts nX10_lines_X10 hown hK hP 0 (wC_0 y a z21) rfl 3 (by decide) (hts (.fieldLink RX10 33 "WorksDesk" "real" "LWorksDesk$Figures;") (List.mem_of_getElem? (i := 1) rfl)) (fun _ h9 => h9) rfl dX10_lines_66 ?_
    refine lv_iconst (v := (4 : Int32)) hx hb dX10_lines_69 (by decide) ?_
    refine lv_iload_n hx hb dX10_lines_70 rfl (lv_at hl 1 rfl) ?_
    obtain ⟨r22, h23, hm⟩ := zz_b1_some hm
    refine zz_calll (zz_runV (w := wC y a) (As := [.int (4 : Int32), .int x1]) (rest := [.ref (a 99)]) ⟨hx, hb, hml, hown, hts⟩ (zX4_fresh l D y a H.size 64 (4 : Int32) x1 (Or.inl rfl) z21 h23) (cwV 2 hts gX10_lines_X4_fresh rfl rfl rfl zdX4_fresh ⟨Nat.le_of_ble_eq_true rfl, Nat.le_of_ble_eq_true rfl⟩) hK hN hg hP hD hS hA 64 (wC_fig y a z21 64 (Or.inl rfl)) rfl rfl hl.1 rfl (Nat.le_of_ble_eq_true rfl) dX10_lines_71 ⟨Nat.le_of_ble_eq_true rfl, Nat.le_of_ble_eq_true rfl⟩) hD hS hA (fun H locs hP hD hS => ?_)
    obtain ⟨r24, z26, h25, hm⟩ := zz_b2_some hm
    refine zz_callr (zz_runV (w := wC y a) (As := [.long r22]) (rest := []) ⟨hx, hb, hml, hown, hts⟩ (zX5_then l D y a H.size r22 z21 h25) (cwV 1 hts gX10_lines_X5_then rfl rfl rfl zdX5_then ⟨Nat.le_of_ble_eq_true rfl, Nat.le_of_ble_eq_true rfl⟩) hK hN hg hP hD hS hA 99 (wC_99 y a z21) rfl rfl hl.1 rfl (Nat.le_of_ble_eq_true rfl) dX10_lines_74 ⟨Nat.le_of_ble_eq_true rfl, Nat.le_of_ble_eq_true rfl⟩) hD hS hA (fun H locs hP hD hS => ?_)
    refine lv_pop hx hb dX10_lines_77 rfl ?_
    refine lv_aload_n hx hb dX10_lines_78 rfl (lv_at hl 0 rfl) ?_
    refine va_get (D := D) (ci := 10) (v := .ref (a 99)) (C := RX10) (T := TX10) (N := 7) hx hb hts nX10_lines_X10 hown hK hP 0 (wC_0 y a z26) rfl 6 (by decide) (hts (.fieldLink RX10 47 "WorksDesk" "lastRow" "LWorksDesk$Row;") (List.mem_of_getElem? (i := 3) rfl)) (fun _ h9 => h9) rfl dX10_lines_79 ?_
    refine lv_aload_n hx hb dX10_lines_82 rfl (lv_at hl 0 rfl) ?_
    refine va_get (D := D) (ci := 10) (v := .ref (a 64)) (C := RX10) (T := TX10) (N := 7) hx hb hts nX10_lines_X10 hown hK hP 0 (wC_0 y a z26) rfl 3 (by decide) (hts (.fieldLink RX10 33 "WorksDesk" "real" "LWorksDesk$Figures;") (List.mem_of_getElem? (i := 1) rfl)) (fun _ h9 => h9) rfl dX10_lines_83 ?_
    refine lv_iconst (v := (5 : Int32)) hx hb dX10_lines_86 (by decide) ?_
    refine lv_iload_n hx hb dX10_lines_87 rfl (lv_at hl 1 rfl) ?_
    obtain ⟨r27, h28, hm⟩ := zz_b1_some hm
    refine zz_calll (zz_runV (w := wC y a) (As := [.int (5 : Int32), .int x1]) (rest := [.ref (a 99)]) ⟨hx, hb, hml, hown, hts⟩ (zX4_fresh l D y a H.size 64 (5 : Int32) x1 (Or.inl rfl) z26 h28) (cwV 2 hts gX10_lines_X4_fresh rfl rfl rfl zdX4_fresh ⟨Nat.le_of_ble_eq_true rfl, Nat.le_of_ble_eq_true rfl⟩) hK hN hg hP hD hS hA 64 (wC_fig y a z26 64 (Or.inl rfl)) rfl rfl hl.1 rfl (Nat.le_of_ble_eq_true rfl) dX10_lines_88 ⟨Nat.le_of_ble_eq_true rfl, Nat.le_of_ble_eq_true rfl⟩) hD hS hA (fun H locs hP hD hS => ?_)
    obtain ⟨r29, z31, h30, hm⟩ := zz_b2_some hm
    refine zz_callr (zz_runV (w := wC y a) (As := [.long r27]) (rest := []) ⟨hx, hb, hml, hown, hts⟩ (zX5_then l D y a H.size r27 z26 h30) (cwV 1 hts gX10_lines_X5_then rfl rfl rfl zdX5_then ⟨Nat.le_of_ble_eq_true rfl, Nat.le_of_ble_eq_true rfl⟩) hK hN hg hP hD hS hA 99 (wC_99 y a z26) rfl rfl hl.1 rfl (Nat.le_of_ble_eq_true rfl) dX10_lines_91 ⟨Nat.le_of_ble_eq_true rfl, Nat.le_of_ble_eq_true rfl⟩) hD hS hA (fun H locs hP hD hS => ?_)
    refine lv_pop hx hb dX10_lines_94 rfl ?_
    refine lv_iconst (v := (0 : Int32)) hx hb dX10_lines_95 (by decide) ?_
    exact zz_iret hx hb hr hlocks (zz_some2 hm) hP hK hD hS dX10_lines_96
  · replace hm := zz_pos c3 hm
    refine lv_iconst (v := (-1 : Int32)) hx hb dX10_lines_7 (by decide) ?_
    exact zz_iret hx hb hr hlocks (zz_some2 hm) hP hK hD hS dX10_lines_8
