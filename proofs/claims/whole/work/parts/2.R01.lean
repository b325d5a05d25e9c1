def mX11_quantity (x1 : Int32) (z : zz_M) : Option Int32 := zz_ck (zz_in (((3 : Int32) * x1) + (1 : Int32)) 30) (some (z.1 2 (((3 : Int32) * x1) + (1 : Int32)).toNatClampNeg))
theorem nX11_quantity_X11 : ∀ w ∈ wsX110, w ∈ wsX11_quantity := fun _ h => List.mem_cons_of_mem _ (List.mem_append_right _ (h))
theorem zdX11_quantity : yX11_quantity.cls = RX11 ∧ yX11_quantity.cls ≠ "java/lang/invoke/MethodHandle" ∧ yX11_quantity.cls ≠ "java/lang/invoke/VarHandle" ∧ (parseMethodDescriptor yX11_quantity.desc).map (fun d => d.parameters.length) = some 1 := by decide +kernel
set_option maxHeartbeats 4000000 in
set_option maxRecDepth 100000 in
theorem zX11_quantity (l : Launch) (D : va_G) (y : Nat → ClassId) (a : Nat → Nat) (sz : Nat) (x1 : Int32) (z : zz_M) {r : Int32} (hm : mX11_quantity x1 z = some r) : Met l yX11_quantity wsX11_quantity { frames := 0, cells := 0, slots := 0, locals := 0 } (zz_Pc D y (wR y a z) sz [.ref (a 0), .int x1]) (zz_Qi D y (wR y a) (va_A (wR y a z) sz) r z) 0 0 (va_A (wR y a z) sz) := by
  refine Met.ofW (cc := cX11_quantity) (maxL := 2) (ret := (some .int)) (by decide) rfl ?_
  intro p e s m args below meth c s₁ B hml hv
  obtain ⟨rfl, hsz, hP, hK, hD0, hN, hg⟩ := hv
  have hx := B.exec
  have hb := B.bytes
  have hr := B.returns
  have hts := atoms_spec (ws := wsX11_quantity) B.pre
  have hown : s.vm.findClass RX11 = some m.cls := findClass_of_methodNamed B.named
  have hlocks := B.notSynchronized
  clear B
  subst hsz
  have hD := hD0.self (sz := s.heap.size)
  generalize hAe : va_A (wR y a z) s.heap.size = A at hD hg ⊢
  have hA : ∀ q : Nat, s.heap.size ≤ q → A q := fun q h => by rw [← hAe]; exact Or.inr h
  clear hAe hD0
  have hl := lv_entry ([.ref (a 0), .int x1]) (n := 2) (Nat.le_of_ble_eq_true rfl)
  rw [lg_entry_eq]
  generalize (lg_sl ([.ref (a 0), .int x1]) ++ List.replicate (2 - (lg_sl ([.ref (a 0), .int x1])).length) Slot.unset).toArray = ls at hl ⊢
  replace hl : lv_has ls 2 [(0, .ref (a 0)), (1, .int x1)] := hl
  refine zz_go (w := wR y a) hP hD va_S.rf hl (fun G hG => ?_)
  clear hP hD hl ls
  rw [hG]
  intro H locs ls hP hD hS hl
  unfold mX11_quantity at hm
  refine lv_aload_n hx hb dX11_quantity_0 rfl (lv_at hl 0 rfl) ?_
  refine va_get (D := D) (ci := 11) (v := .ref (a 2)) (C := RX11) (T := TX11) (N := 35) hx hb hts nX11_quantity_X11 hown hK hP 0 (wR_0 y a z) rfl 1 (by decide) (hts (.fieldLink RX11 13 "WorksDeskModel" "items" "[I") (List.mem_of_getElem? (i := 1) rfl)) (fun _ h9 => h9) rfl dX11_quantity_1 ?_
  refine lv_iconst (v := (3 : Int32)) hx hb dX11_quantity_4 (by decide) ?_
  refine lv_iload_n hx hb dX11_quantity_5 rfl (lv_at hl 1 rfl) ?_
  refine lv_imul hx hb dX11_quantity_6 ?_
  refine lv_iconst (v := (1 : Int32)) hx hb dX11_quantity_7 (by decide) ?_
  refine lv_iadd hx hb dX11_quantity_8 ?_
  obtain ⟨c1, hm⟩ := zz_ck_some hm
  refine va_iald hx hb hK hP 2 0 (wR_2 y a z) rfl c1 dX11_quantity_9 ?_
  exact zz_iret hx hb hr hlocks ⟨zz_some1 hm, rfl⟩ hP hK hD hS dX11_quantity_10
def mX11_thousandths (x0 : Int64) (x2 : Int32) : Option Int64 := zz_ck (¬ (1000 : Int64) = (0 : Int64)) (some ((x0 * x2.toInt64) / (1000 : Int64)))
theorem zdX11_thousandths : yX11_thousandths.cls ≠ "java/lang/invoke/MethodHandle" ∧ yX11_thousandths.cls ≠ "java/lang/invoke/VarHandle" ∧ (parseMethodDescriptor yX11_thousandths.desc).map (fun d => d.parameters.length) = some 2 := by decide +kernel
set_option maxHeartbeats 4000000 in
set_option maxRecDepth 100000 in
theorem zX11_thousandths (l : Launch) (D : va_G) (y : Nat → ClassId) (a : Nat → Nat) (sz : Nat) (x0 : Int64) (x2 : Int32) (z : zz_M) {r : Int64} (hm : mX11_thousandths x0 x2 = some r) : Met l yX11_thousandths wsX11_thousandths { frames := 0, cells := 0, slots := 0, locals := 0 } (zz_Pc D y (wR y a z) sz [.long x0, .int x2]) (zz_Ql D y (wR y a) (va_A (wR y a z) sz) r z) 0 0 (va_A (wR y a z) sz) := by
  refine Met.ofW (cc := cX11_thousandths) (maxL := 3) (ret := (some .long)) (by decide) rfl ?_
  intro p e s m args below meth c s₁ B hml hv
  obtain ⟨rfl, hsz, hP, hK, hD0, hN, hg⟩ := hv
  have hx := B.exec
  have hb := B.bytes
  have hr := B.returns
  have hts := atoms_spec (ws := wsX11_thousandths) B.pre
  have hown : s.vm.findClass RX11 = some m.cls := findClass_of_methodNamed B.named
  have hlocks := B.notSynchronized
  clear B
  subst hsz
  have hD := hD0.self (sz := s.heap.size)
  generalize hAe : va_A (wR y a z) s.heap.size = A at hD hg ⊢
  have hA : ∀ q : Nat, s.heap.size ≤ q → A q := fun q h => by rw [← hAe]; exact Or.inr h
  clear hAe hD0
  have hl := lv_entry ([.long x0, .int x2]) (n := 3) (Nat.le_of_ble_eq_true rfl)
  rw [lg_entry_eq]
  generalize (lg_sl ([.long x0, .int x2]) ++ List.replicate (3 - (lg_sl ([.long x0, .int x2])).length) Slot.unset).toArray = ls at hl ⊢
  replace hl : lv_has ls 3 [(0, .long x0), (2, .int x2)] := hl
  refine zz_go (w := wR y a) hP hD va_S.rf hl (fun G hG => ?_)
  clear hP hD hl ls
  rw [hG]
  intro H locs ls hP hD hS hl
  unfold mX11_thousandths at hm
  refine lv_lload_n hx hb dX11_thousandths_0 rfl (lv_at hl 0 rfl) ?_
  refine lv_iload_n hx hb dX11_thousandths_1 rfl (lv_at hl 1 rfl) ?_
  refine lv_i2l hx hb dX11_thousandths_2 rfl ?_
  refine lv_lmul hx hb dX11_thousandths_3 ?_
  refine lv_ldc2 (v := (1000 : Int64)) hx hb hown (hts (.constantLong RX11 195 (1000)) (List.mem_of_getElem? (i := 1) rfl)) dX11_thousandths_4 ?_
  obtain ⟨c1, hm⟩ := zz_ck_some hm
  refine lv_ldiv hx hb dX11_thousandths_7 c1 ?_
  exact zz_lret hx hb hr hlocks ⟨zz_some1 hm, rfl⟩ hP hK hD hS dX11_thousandths_8
def mX11_cap (x1 : Int32) (z : zz_M) : Option Int32 := zz_b1 (mX11_quantity x1 z) (fun r1 => zz_b1 (mX11_quantity x1 z) (fun r3 => zz_ck (zz_in (9 : Int32) 14) (zz_b1 (mX11_thousandths r3.toInt64 (z.1 1 (9 : Int32).toNatClampNeg)) (fun r6 => some (r1 + r6.toInt32)))))
theorem nX11_cap_X11 : ∀ w ∈ wsX110, w ∈ wsX11_cap := fun _ h => List.mem_cons_of_mem _ (List.mem_append_right _ (h))
theorem zdX11_cap : yX11_cap.cls = RX11 ∧ yX11_cap.cls ≠ "java/lang/invoke/MethodHandle" ∧ yX11_cap.cls ≠ "java/lang/invoke/VarHandle" ∧ (parseMethodDescriptor yX11_cap.desc).map (fun d => d.parameters.length) = some 1 := by decide +kernel
set_option maxHeartbeats 4000000 in
set_option maxRecDepth 100000 in
theorem zX11_cap (l : Launch) (D : va_G) (y : Nat → ClassId) (a : Nat → Nat) (sz : Nat) (x1 : Int32) (z : zz_M) {r : Int32} (hm : mX11_cap x1 z = some r) : Met l yX11_cap wsX11_cap { frames := 1, cells := 0, slots := 0, locals := 22 } (zz_Pc D y (wR y a z) sz [.ref (a 0), .int x1]) (zz_Qi D y (wR y a) (va_A (wR y a z) sz) r z) 0 0 (va_A (wR y a z) sz) := by
  refine Met.ofW (cc := cX11_cap) (maxL := 2) (ret := (some .int)) (by decide) rfl ?_
  intro p e s m args below meth c s₁ B hml hv
  obtain ⟨rfl, hsz, hP, hK, hD0, hN, hg⟩ := hv
  have hx := B.exec
  have hb := B.bytes
  have hr := B.returns
  have hts := atoms_spec (ws := wsX11_cap) B.pre
  have hown : s.vm.findClass RX11 = some m.cls := findClass_of_methodNamed B.named
  have hlocks := B.notSynchronized
  clear B
  subst hsz
  have hD := hD0.self (sz := s.heap.size)
  generalize hAe : va_A (wR y a z) s.heap.size = A at hD hg ⊢
  have hA : ∀ q : Nat, s.heap.size ≤ q → A q := fun q h => by rw [← hAe]; exact Or.inr h
  clear hAe hD0
  have hl := lv_entry ([.ref (a 0), .int x1]) (n := 2) (Nat.le_of_ble_eq_true rfl)
  rw [lg_entry_eq]
  generalize (lg_sl ([.ref (a 0), .int x1]) ++ List.replicate (2 - (lg_sl ([.ref (a 0), .int x1])).length) Slot.unset).toArray = ls at hl ⊢
  replace hl : lv_has ls 2 [(0, .ref (a 0)), (1, .int x1)] := hl
  refine zz_go (w := wR y a) hP hD va_S.rf hl (fun G hG => ?_)
  clear hP hD hl ls
  rw [hG]
  intro H locs ls hP hD hS hl
  unfold mX11_cap at hm
  refine lv_aload_n hx hb dX11_cap_0 rfl (lv_at hl 0 rfl) ?_
  refine lv_iload_n hx hb dX11_cap_1 rfl (lv_at hl 1 rfl) ?_
  obtain ⟨r1, h2, hm⟩ := zz_b1_some hm
  refine zz_calli (zz_runV (w := wR y a) (As := [.int x1]) (rest := []) ⟨hx, hb, hml, hown, hts⟩ (zX11_quantity l D y a H.size x1 z h2) (cwV 1 hts gX11_cap_X11_quantity rfl rfl rfl zdX11_quantity ⟨Nat.le_of_ble_eq_true rfl, Nat.le_of_ble_eq_true rfl⟩) hK hN hg hP hD hS hA 0 (wR_0 y a z) rfl rfl hl.1 rfl (Nat.le_of_ble_eq_true rfl) dX11_cap_2 ⟨Nat.le_of_ble_eq_true rfl, Nat.le_of_ble_eq_true rfl⟩) hD hS hA (fun H locs hP hD hS => ?_)
  refine lv_aload_n hx hb dX11_cap_5 rfl (lv_at hl 0 rfl) ?_
  refine lv_iload_n hx hb dX11_cap_6 rfl (lv_at hl 1 rfl) ?_
  obtain ⟨r3, h4, hm⟩ := zz_b1_some hm
  refine zz_calli (zz_runV (w := wR y a) (As := [.int x1]) (rest := [.int r1]) ⟨hx, hb, hml, hown, hts⟩ (zX11_quantity l D y a H.size x1 z h4) (cwV 1 hts gX11_cap_X11_quantity rfl rfl rfl zdX11_quantity ⟨Nat.le_of_ble_eq_true rfl, Nat.le_of_ble_eq_true rfl⟩) hK hN hg hP hD hS hA 0 (wR_0 y a z) rfl rfl hl.1 rfl (Nat.le_of_ble_eq_true rfl) dX11_cap_7 ⟨Nat.le_of_ble_eq_true rfl, Nat.le_of_ble_eq_true rfl⟩) hD hS hA (fun H locs hP hD hS => ?_)
  refine lv_i2l hx hb dX11_cap_10 rfl ?_
  refine lv_aload_n hx hb dX11_cap_11 rfl (lv_at hl 0 rfl) ?_
  refine va_get (D := D) (ci := 11) (v := .ref (a 1)) (C := RX11) (T := TX11) (N := 35) hx hb hts nX11_cap_X11 hown hK hP 0 (wR_0 y a z) rfl 0 (by decide) (hts (.fieldLink RX11 7 "WorksDeskModel" "terms" "[I") (List.mem_of_getElem? (i := 1) rfl)) (fun _ h9 => h9) rfl dX11_cap_12 ?_
  refine lv_bipush (v := (9 : Int32)) hx hb dX11_cap_15 (by decide) ?_
  obtain ⟨c5, hm⟩ := zz_ck_some hm
  refine va_iald hx hb hK hP 1 0 (wR_1 y a z) rfl c5 dX11_cap_17 ?_
  obtain ⟨r6, h7, hm⟩ := zz_b1_some hm
  refine zz_calll (zz_runS (w := wR y a) (As := [.long r3.toInt64, .int (z.1 1 (9 : Int32).toNatClampNeg)]) (rest := [.int r1]) ⟨hx, hb, hml, hown, hts⟩ (zX11_thousandths l D y a H.size r3.toInt64 (z.1 1 (9 : Int32).toNatClampNeg) z h7) (va_cwS 2 hts gX11_cap_X11_thousandths rfl rfl rfl zdX11_thousandths ⟨Nat.le_of_ble_eq_true rfl, Nat.le_of_ble_eq_true rfl⟩) hK hN hg hP hD hS hA rfl hl.1 rfl (Nat.le_of_ble_eq_true rfl) dX11_cap_18 ⟨Nat.le_of_ble_eq_true rfl, Nat.le_of_ble_eq_true rfl⟩) hD hS hA (fun H locs hP hD hS => ?_)
  refine lv_l2i hx hb dX11_cap_21 rfl ?_
  refine lv_iadd hx hb dX11_cap_22 ?_
  exact zz_iret hx hb hr hlocks ⟨zz_some1 hm, rfl⟩ hP hK hD hS dX11_cap_23
def mX11_doneOf_b2 (z : zz_M) : Nat → Int32 → Int32 → Option Int32
  | 0, _, _ => none
  | n + 1, v2, v3 => if v3 < (0 : Int32) then (some (0 : Int32)) else (zz_ck (zz_in (((10 : Int32) * v3) + v2) 240) (if (z.1 3 (((10 : Int32) * v3) + v2).toNatClampNeg) = (-9999 : Int32) then (zz_nm (v3 + (-1 : Int32)) (fun n4 => (mX11_doneOf_b2 z n) v2 n4)) else (zz_ck (zz_in (((10 : Int32) * v3) + v2) 240) (some (z.1 3 (((10 : Int32) * v3) + v2).toNatClampNeg)))))
def mX11_doneOf (x1 : Int32) (x2 : Int32) (z : zz_M) : Option Int32 := mX11_doneOf_b2 z zz_N x2 x1
theorem nX11_doneOf_X11 : ∀ w ∈ wsX110, w ∈ wsX11_doneOf := fun _ h => List.mem_cons_of_mem _ (List.mem_append_right _ (h))
theorem zdX11_doneOf : yX11_doneOf.cls = RX11 ∧ yX11_doneOf.cls ≠ "java/lang/invoke/MethodHandle" ∧ yX11_doneOf.cls ≠ "java/lang/invoke/VarHandle" ∧ (parseMethodDescriptor yX11_doneOf.desc).map (fun d => d.parameters.length) = some 2 := by decide +kernel
set_option maxHeartbeats 4000000 in
set_option maxRecDepth 100000 in
theorem zX11_doneOf (l : Launch) (D : va_G) (y : Nat → ClassId) (a : Nat → Nat) (sz : Nat) (x1 : Int32) (x2 : Int32) (z : zz_M) {r : Int32} (hm : mX11_doneOf x1 x2 z = some r) : Met l yX11_doneOf wsX11_doneOf { frames := 0, cells := 0, slots := 0, locals := 0 } (zz_Pc D y (wR y a z) sz [.ref (a 0), .int x1, .int x2]) (zz_Qi D y (wR y a) (va_A (wR y a z) sz) r z) 0 0 (va_A (wR y a z) sz) := by
  refine Met.ofW (cc := cX11_doneOf) (maxL := 4) (ret := (some .int)) (by decide) rfl ?_
  intro p e s m args below meth c s₁ B hml hv
  obtain ⟨rfl, hsz, hP, hK, hD0, hN, hg⟩ := hv
  have hx := B.exec
  have hb := B.bytes
  have hr := B.returns
  have hts := atoms_spec (ws := wsX11_doneOf) B.pre
  have hown : s.vm.findClass RX11 = some m.cls := findClass_of_methodNamed B.named
  have hlocks := B.notSynchronized
  clear B
  subst hsz
  have hD := hD0.self (sz := s.heap.size)
  generalize hAe : va_A (wR y a z) s.heap.size = A at hD hg ⊢
  have hA : ∀ q : Nat, s.heap.size ≤ q → A q := fun q h => by rw [← hAe]; exact Or.inr h
  clear hAe hD0
  have hl := lv_entry ([.ref (a 0), .int x1, .int x2]) (n := 4) (Nat.le_of_ble_eq_true rfl)
  rw [lg_entry_eq]
  generalize (lg_sl ([.ref (a 0), .int x1, .int x2]) ++ List.replicate (4 - (lg_sl ([.ref (a 0), .int x1, .int x2])).length) Slot.unset).toArray = ls at hl ⊢
  replace hl : lv_has ls 4 [(0, .ref (a 0)), (1, .int x1), (2, .int x2)] := hl
  refine zz_go (w := wR y a) hP hD va_S.rf hl (fun G hG => ?_)
  clear hP hD hl ls
  have J2 : ∀ (n : Nat) (v2 : Int32) (v3 : Int32), mX11_doneOf_b2 z n v2 v3 = some r → G 2 [(0, .ref (a 0)), (2, .int v2), (3, .int v3)] [] z := by
    intro n
    induction n with
    | zero =>
      intro v2 v3 hm
      exact zz_none hm
    | succ n ih =>
      intro v2 v3 hm
      rw [mX11_doneOf_b2] at hm
      rw [hG]
      intro H locs ls hP hD hS hl
      refine lv_iload_n hx hb dX11_doneOf_2 rfl (lv_at hl 2 rfl) ?_
      refine lv_if_lt (tgt := 41) hx hb dX11_doneOf_3 (by decide) (fun c1 => ?_) (fun c1 => ?_)
      · replace hm := zz_pos c1 hm
        refine lv_iconst (v := (0 : Int32)) hx hb dX11_doneOf_41 (by decide) ?_
        exact zz_iret hx hb hr hlocks ⟨zz_some1 hm, rfl⟩ hP hK hD hS dX11_doneOf_42
      · replace hm := zz_neg c1 hm
        refine lv_aload_n hx hb dX11_doneOf_6 rfl (lv_at hl 0 rfl) ?_
        refine va_get (D := D) (ci := 11) (v := .ref (a 3)) (C := RX11) (T := TX11) (N := 35) hx hb hts nX11_doneOf_X11 hown hK hP 0 (wR_0 y a z) rfl 3 (by decide) (hts (.fieldLink RX11 16 "WorksDeskModel" "measured" "[I") (List.mem_of_getElem? (i := 1) rfl)) (fun _ h9 => h9) rfl dX11_doneOf_7 ?_
        refine lv_bipush (v := (10 : Int32)) hx hb dX11_doneOf_10 (by decide) ?_
        refine lv_iload_n hx hb dX11_doneOf_12 rfl (lv_at hl 2 rfl) ?_
        refine lv_imul hx hb dX11_doneOf_13 ?_
        refine lv_iload_n hx hb dX11_doneOf_14 rfl (lv_at hl 1 rfl) ?_
        refine lv_iadd hx hb dX11_doneOf_15 ?_
        obtain ⟨c2, hm⟩ := zz_ck_some hm
        refine va_iald hx hb hK hP 3 0 (wR_3 y a z) rfl c2 dX11_doneOf_16 ?_
        refine lv_sipush (v := (-9999 : Int32)) hx hb dX11_doneOf_17 (by decide) ?_
        refine lv_icmp_eq (tgt := 35) hx hb dX11_doneOf_20 (by decide) (fun c3 => ?_) (fun c3 => ?_)
        · replace hm := zz_pos c3 hm
          obtain ⟨n4, en4⟩ : ∃ q : Int32, q = v3 + (-1 : Int32) := ⟨_, rfl⟩
          replace hm := zz_nm_some en4 hm
          refine lv_iinc (v := n4) (lv' := [(3, .int n4), (0, .ref (a 0)), (2, .int v2)]) hx hb dX11_doneOf_35 hl (k := 2) rfl (by rw [en4]; rfl) (by decide) rfl (fun ls hl => ?_)
          refine lv_goto (tgt := 2) hx hb dX11_doneOf_38 (by decide) ?_
          have j := ih v2 n4 hm
          rw [hG] at j
          exact j H locs ls hP hD hS (lv_sub hl [1, 2, 0] rfl)
        · replace hm := zz_neg c3 hm
          refine lv_aload_n hx hb dX11_doneOf_23 rfl (lv_at hl 0 rfl) ?_
          refine va_get (D := D) (ci := 11) (v := .ref (a 3)) (C := RX11) (T := TX11) (N := 35) hx hb hts nX11_doneOf_X11 hown hK hP 0 (wR_0 y a z) rfl 3 (by decide) (hts (.fieldLink RX11 16 "WorksDeskModel" "measured" "[I") (List.mem_of_getElem? (i := 1) rfl)) (fun _ h9 => h9) rfl dX11_doneOf_24 ?_
          refine lv_bipush (v := (10 : Int32)) hx hb dX11_doneOf_27 (by decide) ?_
          refine lv_iload_n hx hb dX11_doneOf_29 rfl (lv_at hl 2 rfl) ?_
          refine lv_imul hx hb dX11_doneOf_30 ?_
          refine lv_iload_n hx hb dX11_doneOf_31 rfl (lv_at hl 1 rfl) ?_
          refine lv_iadd hx hb dX11_doneOf_32 ?_
          obtain ⟨c5, hm⟩ := zz_ck_some hm
          refine va_iald hx hb hK hP 3 0 (wR_3 y a z) rfl c5 dX11_doneOf_33 ?_
          exact zz_iret hx hb hr hlocks ⟨zz_some1 hm, rfl⟩ hP hK hD hS dX11_doneOf_34
  rw [hG]
  intro H locs ls hP hD hS hl
  unfold mX11_doneOf at hm
  refine lv_iload_n hx hb dX11_doneOf_0 rfl (lv_at hl 1 rfl) ?_
  refine lv_istore_n (lv' := [(3, .int x1), (0, .ref (a 0)), (1, .int x1), (2, .int x2)]) hx hb dX11_doneOf_1 rfl hl (by decide) rfl (fun ls hl => ?_)
  have j := J2 zz_N x2 x1 hm
  rw [hG] at j
  exact j H locs ls hP hD hS (lv_sub hl [1, 3, 0] rfl)
def mX11_in_b18 (t0 : Int32) : Option Int32 := zz_ck (zz_bool t0) (some t0)
def mX11_in_b17 : Option Int32 := mX11_in_b18 (0 : Int32)
def mX11_in (x0 : Int64) (x2 : Int64) (x4 : Int64) : Option Int32 := if (lg_cmp x0 x2) < (0 : Int32) then (mX11_in_b17) else (if (0 : Int32) < (lg_cmp x0 x4) then (mX11_in_b17) else (mX11_in_b18 (1 : Int32)))
theorem zdX11_in : yX11_in.cls ≠ "java/lang/invoke/MethodHandle" ∧ yX11_in.cls ≠ "java/lang/invoke/VarHandle" ∧ (parseMethodDescriptor yX11_in.desc).map (fun d => d.parameters.length) = some 3 := by decide +kernel
set_option maxHeartbeats 4000000 in
set_option maxRecDepth 100000 in
theorem zX11_in (l : Launch) (D : va_G) (y : Nat → ClassId) (a : Nat → Nat) (sz : Nat) (x0 : Int64) (x2 : Int64) (x4 : Int64) (z : zz_M) {r : Int32} (hm : mX11_in x0 x2 x4 = some r) : Met l yX11_in wsX11_in { frames := 0, cells := 0, slots := 0, locals := 0 } (zz_Pc D y (wR y a z) sz [.long x0, .long x2, .long x4]) (zz_Qi D y (wR y a) (va_A (wR y a z) sz) r z) 0 0 (va_A (wR y a z) sz) := by
  refine Met.ofW (cc := cX11_in) (maxL := 6) (ret := (some .boolean)) (by decide) rfl ?_
  intro p e s m args below meth c s₁ B hml hv
  obtain ⟨rfl, hsz, hP, hK, hD0, hN, hg⟩ := hv
  have hx := B.exec
  have hb := B.bytes
  have hr := B.returns
  have hts := atoms_spec (ws := wsX11_in) B.pre
  have hown : s.vm.findClass RX11 = some m.cls := findClass_of_methodNamed B.named
  have hlocks := B.notSynchronized
  clear B
  subst hsz
  have hD := hD0.self (sz := s.heap.size)
  generalize hAe : va_A (wR y a z) s.heap.size = A at hD hg ⊢
  have hA : ∀ q : Nat, s.heap.size ≤ q → A q := fun q h => by rw [← hAe]; exact Or.inr h
  clear hAe hD0
  have hl := lv_entry ([.long x0, .long x2, .long x4]) (n := 6) (Nat.le_of_ble_eq_true rfl)
  rw [lg_entry_eq]
  generalize (lg_sl ([.long x0, .long x2, .long x4]) ++ List.replicate (6 - (lg_sl ([.long x0, .long x2, .long x4])).length) Slot.unset).toArray = ls at hl ⊢
  replace hl : lv_has ls 6 [(0, .long x0), (2, .long x2), (4, .long x4)] := hl
  refine zz_go (w := wR y a) hP hD va_S.rf hl (fun G hG => ?_)
  clear hP hD hl ls
  have J18 : ∀ (t0 : Int32), mX11_in_b18 t0 = some r → G 18 [] [.int t0] z := by
    intro t0 hm
    rw [mX11_in_b18] at hm
    rw [hG]
    intro H locs ls hP hD hS hl
    obtain ⟨c1, hm⟩ := zz_ck_some hm
    exact zz_zret hx hb hr hlocks c1 ⟨zz_some1 hm, rfl⟩ hP hK hD hS dX11_in_18
  have J17 : mX11_in_b17 = some r → G 17 [] [] z := by
    intro hm
    rw [mX11_in_b17] at hm
    rw [hG]
    intro H locs ls hP hD hS hl
    refine lv_iconst (v := (0 : Int32)) hx hb dX11_in_17 (by decide) ?_
    have j := J18 (0 : Int32) hm
    rw [hG] at j
    exact j H locs ls hP hD hS (lv_sub hl [] rfl)
  rw [hG]
  intro H locs ls hP hD hS hl
  unfold mX11_in at hm
  refine lv_lload_n hx hb dX11_in_0 rfl (lv_at hl 0 rfl) ?_
  refine lv_lload_n hx hb dX11_in_1 rfl (lv_at hl 1 rfl) ?_
  refine W.lcmp hx hb dX11_in_2 ?_
  refine lv_if_lt (tgt := 17) hx hb dX11_in_3 (by decide) (fun c2 => ?_) (fun c2 => ?_)
  · replace hm := zz_pos c2 hm
    have j := J17 hm
    rw [hG] at j
    exact j H locs ls hP hD hS (lv_sub hl [] rfl)
  · replace hm := zz_neg c2 hm
    refine lv_lload_n hx hb dX11_in_6 rfl (lv_at hl 0 rfl) ?_
    refine lv_lload hx hb dX11_in_7 (lv_at hl 2 rfl) ?_
    refine W.lcmp hx hb dX11_in_9 ?_
    refine lv_if_gt (tgt := 17) hx hb dX11_in_10 (by decide) (fun c3 => ?_) (fun c3 => ?_)
    · replace hm := zz_pos c3 hm
      have j := J17 hm
      rw [hG] at j
      exact j H locs ls hP hD hS (lv_sub hl [] rfl)
    · replace hm := zz_neg c3 hm
      refine lv_iconst (v := (1 : Int32)) hx hb dX11_in_13 (by decide) ?_
      refine lv_goto (tgt := 18) hx hb dX11_in_14 (by decide) ?_
      have j := J18 (1 : Int32) hm
      rw [hG] at j
      exact j H locs ls hP hD hS (lv_sub hl [] rfl)
def mX11_isMonth (x0 : Int32) : Option Int32 := zz_b1 (mX11_in x0.toInt64 (0 : Int64) (23 : Int64)) (fun r1 => zz_ck (zz_bool r1) (some r1))
theorem zdX11_isMonth : yX11_isMonth.cls ≠ "java/lang/invoke/MethodHandle" ∧ yX11_isMonth.cls ≠ "java/lang/invoke/VarHandle" ∧ (parseMethodDescriptor yX11_isMonth.desc).map (fun d => d.parameters.length) = some 1 := by decide +kernel
set_option maxHeartbeats 4000000 in
set_option maxRecDepth 100000 in
theorem zX11_isMonth (l : Launch) (D : va_G) (y : Nat → ClassId) (a : Nat → Nat) (sz : Nat) (x0 : Int32) (z : zz_M) {r : Int32} (hm : mX11_isMonth x0 = some r) : Met l yX11_isMonth wsX11_isMonth { frames := 1, cells := 0, slots := 0, locals := 25 } (zz_Pc D y (wR y a z) sz [.int x0]) (zz_Qi D y (wR y a) (va_A (wR y a z) sz) r z) 0 0 (va_A (wR y a z) sz) := by
  refine Met.ofW (cc := cX11_isMonth) (maxL := 1) (ret := (some .boolean)) (by decide) rfl ?_
  intro p e s m args below meth c s₁ B hml hv
  obtain ⟨rfl, hsz, hP, hK, hD0, hN, hg⟩ := hv
  have hx := B.exec
  have hb := B.bytes
  have hr := B.returns
  have hts := atoms_spec (ws := wsX11_isMonth) B.pre
  have hown : s.vm.findClass RX11 = some m.cls := findClass_of_methodNamed B.named
  have hlocks := B.notSynchronized
  clear B
  subst hsz
  have hD := hD0.self (sz := s.heap.size)
  generalize hAe : va_A (wR y a z) s.heap.size = A at hD hg ⊢
  have hA : ∀ q : Nat, s.heap.size ≤ q → A q := fun q h => by rw [← hAe]; exact Or.inr h
  clear hAe hD0
  have hl := lv_entry ([.int x0]) (n := 1) (Nat.le_of_ble_eq_true rfl)
  rw [lg_entry_eq]
  generalize (lg_sl ([.int x0]) ++ List.replicate (1 - (lg_sl ([.int x0])).length) Slot.unset).toArray = ls at hl ⊢
  replace hl : lv_has ls 1 [(0, .int x0)] := hl
  refine zz_go (w := wR y a) hP hD va_S.rf hl (fun G hG => ?_)
  clear hP hD hl ls
  rw [hG]
  intro H locs ls hP hD hS hl
  unfold mX11_isMonth at hm
  refine lv_iload_n hx hb dX11_isMonth_0 rfl (lv_at hl 0 rfl) ?_
  refine lv_i2l hx hb dX11_isMonth_1 rfl ?_
  refine lv_lconst (v := (0 : Int64)) hx hb dX11_isMonth_2 (by decide) ?_
  refine lv_ldc2 (v := (23 : Int64)) hx hb hown (hts (.constantLong RX11 103 (23)) (List.mem_of_getElem? (i := 1) rfl)) dX11_isMonth_3 ?_
  obtain ⟨r1, h2, hm⟩ := zz_b1_some hm
  refine zz_calli (zz_runS (w := wR y a) (As := [.long x0.toInt64, .long (0 : Int64), .long (23 : Int64)]) (rest := []) ⟨hx, hb, hml, hown, hts⟩ (zX11_in l D y a H.size x0.toInt64 (0 : Int64) (23 : Int64) z h2) (va_cwS 3 hts gX11_isMonth_X11_in rfl rfl rfl zdX11_in ⟨Nat.le_of_ble_eq_true rfl, Nat.le_of_ble_eq_true rfl⟩) hK hN hg hP hD hS hA rfl hl.1 rfl (Nat.le_of_ble_eq_true rfl) dX11_isMonth_6 ⟨Nat.le_of_ble_eq_true rfl, Nat.le_of_ble_eq_true rfl⟩) hD hS hA (fun H locs hP hD hS => ?_)
  obtain ⟨c3, hm⟩ := zz_ck_some hm
  exact zz_zret hx hb hr hlocks c3 ⟨zz_some1 hm, rfl⟩ hP hK hD hS dX11_isMonth_9
def mX11_tell (x1 : Int64) (z : zz_M) : Option (Unit × zz_M) := zz_ck (zz_in (z.2.2.1 18) 32) (zz_nm (zz_wJ z 10 (z.2.2.1 18) x1) (fun z2 => zz_nm (zz_sF z2 18 ((z2.2.2.1 18) + (1 : Int32))) (fun z3 => some ((), z3))))
theorem nX11_tell_X11 : ∀ w ∈ wsX110, w ∈ wsX11_tell := fun _ h => List.mem_cons_of_mem _ (List.mem_append_right _ (h))
theorem zdX11_tell : yX11_tell.cls = RX11 ∧ yX11_tell.cls ≠ "java/lang/invoke/MethodHandle" ∧ yX11_tell.cls ≠ "java/lang/invoke/VarHandle" ∧ (parseMethodDescriptor yX11_tell.desc).map (fun d => d.parameters.length) = some 1 := by decide +kernel
set_option maxHeartbeats 4000000 in
set_option maxRecDepth 100000 in
theorem zX11_tell (l : Launch) (D : va_G) (y : Nat → ClassId) (a : Nat → Nat) (sz : Nat) (x1 : Int64) (z : zz_M) {r : Unit} {zt : zz_M} (hm : mX11_tell x1 z = some (r, zt)) : Met l yX11_tell wsX11_tell { frames := 0, cells := 0, slots := 0, locals := 0 } (zz_Pc D y (wR y a z) sz [.ref (a 0), .long x1]) (zz_Qv D y (wR y a) (va_A (wR y a z) sz) zt) 0 0 (va_A (wR y a z) sz) := by
  refine Met.ofW (cc := cX11_tell) (maxL := 3) (ret := none) (by decide) rfl ?_
  intro p e s m args below meth c s₁ B hml hv
  obtain ⟨rfl, hsz, hP, hK, hD0, hN, hg⟩ := hv
  have hx := B.exec
  have hb := B.bytes
  have hr := B.returns
  have hts := atoms_spec (ws := wsX11_tell) B.pre
  have hown : s.vm.findClass RX11 = some m.cls := findClass_of_methodNamed B.named
  have hlocks := B.notSynchronized
  clear B
  subst hsz
  have hD := hD0.self (sz := s.heap.size)
  generalize hAe : va_A (wR y a z) s.heap.size = A at hD hg ⊢
  have hA : ∀ q : Nat, s.heap.size ≤ q → A q := fun q h => by rw [← hAe]; exact Or.inr h
  clear hAe hD0
  have hl := lv_entry ([.ref (a 0), .long x1]) (n := 3) (Nat.le_of_ble_eq_true rfl)
  rw [lg_entry_eq]
  generalize (lg_sl ([.ref (a 0), .long x1]) ++ List.replicate (3 - (lg_sl ([.ref (a 0), .long x1])).length) Slot.unset).toArray = ls at hl ⊢
  replace hl : lv_has ls 3 [(0, .ref (a 0)), (1, .long x1)] := hl
  refine zz_go (w := wR y a) hP hD va_S.rf hl (fun G hG => ?_)
  clear hP hD hl ls
  rw [hG]
  intro H locs ls hP hD hS hl
  unfold mX11_tell at hm
  refine lv_aload_n hx hb dX11_tell_0 rfl (lv_at hl 0 rfl) ?_
  refine va_get (D := D) (ci := 11) (v := .ref (a 10)) (C := RX11) (T := TX11) (N := 35) hx hb hts nX11_tell_X11 hown hK hP 0 (wR_0 y a z) rfl 17 (by decide) (hts (.fieldLink RX11 38 "WorksDeskModel" "row" "[J") (List.mem_of_getElem? (i := 1) rfl)) (fun _ h9 => h9) rfl dX11_tell_1 ?_
  refine lv_aload_n hx hb dX11_tell_4 rfl (lv_at hl 0 rfl) ?_
  refine va_get (D := D) (ci := 11) (v := .int (z.2.2.1 18)) (C := RX11) (T := TX11) (N := 35) hx hb hts nX11_tell_X11 hown hK hP 0 (wR_0 y a z) rfl 18 (by decide) (hts (.fieldLink RX11 100 "WorksDeskModel" "rowMany" "I") (List.mem_of_getElem? (i := 2) rfl)) (fun _ h9 => h9) rfl dX11_tell_5 ?_
  refine lv_lload_n hx hb dX11_tell_8 rfl (lv_at hl 1 rfl) ?_
  obtain ⟨c1, hm⟩ := zz_ck_some hm
  refine va_last hx hb hK hP hD hS 10 1 (wR_10 y a z) rfl c1 dX11_tell_9 (fun H locs hP hD hS => ?_)
  obtain ⟨z2, hP, hD, hm⟩ := zz_up (w := wR y a) (wR_w10 y a z (z.2.2.1 18) x1) hP hD hm
  refine lv_aload_n hx hb dX11_tell_10 rfl (lv_at hl 0 rfl) ?_
  refine lv_dup hx hb dX11_tell_11 rfl ?_
  refine va_get (D := D) (ci := 11) (v := .int (z2.2.2.1 18)) (C := RX11) (T := TX11) (N := 35) hx hb hts nX11_tell_X11 hown hK hP 0 (wR_0 y a z2) rfl 18 (by decide) (hts (.fieldLink RX11 100 "WorksDeskModel" "rowMany" "I") (List.mem_of_getElem? (i := 2) rfl)) (fun _ h9 => h9) rfl dX11_tell_12 ?_
  refine lv_iconst (v := (1 : Int32)) hx hb dX11_tell_15 (by decide) ?_
  refine lv_iadd hx hb dX11_tell_16 ?_
  refine va_put (D := D) (ci := 11) (v := .int ((z2.2.2.1 18) + (1 : Int32))) (ty := .int) (C := RX11) (T := TX11) (N := 35) hx hb hts nX11_tell_X11 tyX11 tyX11_ok nmX11 hown hK hP hD hS 0 (wR_0 y a z2) rfl 18 (by decide) (hts (.fieldLink RX11 100 "WorksDeskModel" "rowMany" "I") (List.mem_of_getElem? (i := 2) rfl)) (fun _ h9 => h9) rfl (tyX11_ok 18 (by decide)) rfl rfl (Nat.le_of_ble_eq_true rfl) dX11_tell_17 (fun H locs hP hD hS => ?_)
  obtain ⟨z3, hP, hD, hm⟩ := zz_up (w := wR y a) (wR_f18 y a z2 ((z2.2.2.1 18) + (1 : Int32))) hP hD hm
  exact zz_vret hx hb hr hlocks (zz_some2 hm).2 hP hK hD hS dX11_tell_20
def mX11_above_b114 (k24 : Int32 → Int32 → Int32 → Int32 → Int32 → zz_M → Option (Int32 × zz_M)) (v1 : Int32) (v2 : Int32) (v3 : Int32) (v5 : Int32) (t0 : Int32) (t1 : Int32) (z : zz_M) : Option (Int32 × zz_M) := zz_nm (t1 ||| t0) (fun n1 => zz_nm (v5 + (1 : Int32)) (fun n2 => k24 v1 v2 v3 n1 n2 z))
def mX11_above_b113 (k24 : Int32 → Int32 → Int32 → Int32 → Int32 → zz_M → Option (Int32 × zz_M)) (v1 : Int32) (v2 : Int32) (v3 : Int32) (v5 : Int32) (t0 : Int32) (z : zz_M) : Option (Int32 × zz_M) := mX11_above_b114 k24 v1 v2 v3 v5 (0 : Int32) t0 z
def mX11_above_b84 (k24 : Int32 → Int32 → Int32 → Int32 → Int32 → zz_M → Option (Int32 × zz_M)) (v1 : Int32) (v2 : Int32) (v4 : Int32) (v5 : Int32) (v6 : Int32) (t0 : Int32) (t1 : Int32) (z : zz_M) : Option (Int32 × zz_M) := zz_nm (t1 ||| t0) (fun n3 => if v1 ≤ (0 : Int32) then (mX11_above_b113 k24 v1 v2 n3 v5 v4 z) else (zz_b1 (mX11_doneOf (v1 - (1 : Int32)) v5 z) (fun r5 => if r5 ≤ v6 then (mX11_above_b113 k24 v1 v2 n3 v5 v4 z) else (mX11_above_b114 k24 v1 v2 n3 v5 ((1 : Int32) <<< (v5 &&& 31)) v4 z))))
def mX11_above_b62 (k24 : Int32 → Int32 → Int32 → Int32 → Int32 → zz_M → Option (Int32 × zz_M)) (v1 : Int32) (v3 : Int32) (v4 : Int32) (v5 : Int32) (v6 : Int32) (t0 : Int32) (t1 : Int32) (z : zz_M) : Option (Int32 × zz_M) := zz_nm (t1 ||| t0) (fun n8 => zz_b1 (mX11_cap v5 z) (fun r9 => if v6 ≤ r9 then (mX11_above_b84 k24 v1 n8 v4 v5 v6 (0 : Int32) v3 z) else (mX11_above_b84 k24 v1 n8 v4 v5 v6 ((1 : Int32) <<< (v5 &&& 31)) v3 z)))
def mX11_above_b24 : Nat → Int32 → Int32 → Int32 → Int32 → Int32 → zz_M → Option (Int32 × zz_M)
  | 0, _, _, _, _, _, _ => none
  | n + 1, v1, v2, v3, v4, v5, z => if (z.2.2.1 2) ≤ v5 then (zz_nm (zz_sF z 18 (0 : Int32)) (fun z13 => zz_b2 (mX11_tell v3.toInt64 z13) (fun r14 z16 => zz_b2 (mX11_tell v4.toInt64 z16) (fun r17 z19 => some (v2, z19))))) else (zz_b1 (mX11_doneOf v1 v5 z) (fun r20 => zz_b1 (mX11_quantity v5 z) (fun r22 => if r20 ≤ r22 then (mX11_above_b62 (mX11_above_b24 n) v1 v3 v4 v5 r20 (0 : Int32) v2 z) else (mX11_above_b62 (mX11_above_b24 n) v1 v3 v4 v5 r20 ((1 : Int32) <<< (v5 &&& 31)) v2 z))))
def mX11_above (x1 : Int32) (z : zz_M) : Option (Int32 × zz_M) := zz_nm (zz_sF z 19 (0 : Int32)) (fun z25 => zz_b1 (mX11_isMonth x1) (fun r26 => if r26 = (0 : Int32) then (some ((-1 : Int32), z25)) else (mX11_above_b24 zz_N x1 (0 : Int32) (0 : Int32) (0 : Int32) (0 : Int32) z25)))
theorem nX11_above_X11 : ∀ w ∈ wsX110, w ∈ wsX11_above := fun _ h => List.mem_cons_of_mem _ (List.mem_append_right _ (h))
theorem zdX11_above : yX11_above.cls = RX11 ∧ yX11_above.cls ≠ "java/lang/invoke/MethodHandle" ∧ yX11_above.cls ≠ "java/lang/invoke/VarHandle" ∧ (parseMethodDescriptor yX11_above.desc).map (fun d => d.parameters.length) = some 1 := by decide +kernel
set_option maxHeartbeats 4000000 in
set_option maxRecDepth 100000 in
theorem zX11_above (l : Launch) (D : va_G) (y : Nat → ClassId) (a : Nat → Nat) (sz : Nat) (x1 : Int32) (z : zz_M) {r : Int32} {zt : zz_M} (hm : mX11_above x1 z = some (r, zt)) : Met l yX11_above wsX11_above { frames := 2, cells := 0, slots := 0, locals := 45 } (zz_Pc D y (wR y a z) sz [.ref (a 0), .int x1]) (zz_Qi D y (wR y a) (va_A (wR y a z) sz) r zt) 0 0 (va_A (wR y a z) sz) := by
  refine Met.ofW (cc := cX11_above) (maxL := 7) (ret := (some .int)) (by decide) rfl ?_
  intro p e s m args below meth c s₁ B hml hv
  obtain ⟨rfl, hsz, hP, hK, hD0, hN, hg⟩ := hv
  have hx := B.exec
  have hb := B.bytes
  have hr := B.returns
  have hts := atoms_spec (ws := wsX11_above) B.pre
  have hown : s.vm.findClass RX11 = some m.cls := findClass_of_methodNamed B.named
  have hlocks := B.notSynchronized
  clear B
  subst hsz
  have hD := hD0.self (sz := s.heap.size)
  generalize hAe : va_A (wR y a z) s.heap.size = A at hD hg ⊢
  have hA : ∀ q : Nat, s.heap.size ≤ q → A q := fun q h => by rw [← hAe]; exact Or.inr h
  clear hAe hD0
  have hl := lv_entry ([.ref (a 0), .int x1]) (n := 7) (Nat.le_of_ble_eq_true rfl)
  rw [lg_entry_eq]
  generalize (lg_sl ([.ref (a 0), .int x1]) ++ List.replicate (7 - (lg_sl ([.ref (a 0), .int x1])).length) Slot.unset).toArray = ls at hl ⊢
  replace hl : lv_has ls 7 [(0, .ref (a 0)), (1, .int x1)] := hl
  refine zz_go (w := wR y a) hP hD va_S.rf hl (fun G hG => ?_)
  clear hP hD hl ls
  have J114 : ∀ (k24 : Int32 → Int32 → Int32 → Int32 → Int32 → zz_M → Option (Int32 × zz_M)) (K24 : ∀ (v1 : Int32) (v2 : Int32) (v3 : Int32) (v4 : Int32) (v5 : Int32) (z : zz_M), k24 v1 v2 v3 v4 v5 z = some (r, zt) → G 24 [(0, .ref (a 0)), (1, .int v1), (2, .int v2), (3, .int v3), (4, .int v4), (5, .int v5)] [] z) (v1 : Int32) (v2 : Int32) (v3 : Int32) (v5 : Int32) (t0 : Int32) (t1 : Int32) (z : zz_M), mX11_above_b114 k24 v1 v2 v3 v5 t0 t1 z = some (r, zt) → G 114 [(0, .ref (a 0)), (1, .int v1), (2, .int v2), (3, .int v3), (5, .int v5)] [.int t0, .int t1] z := by
    intro k24 K24 v1 v2 v3 v5 t0 t1 z hm
    rw [mX11_above_b114] at hm
    rw [hG]
    intro H locs ls hP hD hS hl
    refine lv_ior hx hb dX11_above_114 ?_
    refine lv_topi (fun n1 en1 => ?_)
    replace hm := zz_nm_some en1 hm
    refine lv_istore (lv' := [(4, .int n1), (0, .ref (a 0)), (1, .int v1), (2, .int v2), (3, .int v3), (5, .int v5)]) hx hb dX11_above_115 hl (by decide) rfl (fun ls hl => ?_)
    obtain ⟨n2, en2⟩ : ∃ q : Int32, q = v5 + (1 : Int32) := ⟨_, rfl⟩
    replace hm := zz_nm_some en2 hm
    refine lv_iinc (v := n2) (lv' := [(5, .int n2), (4, .int n1), (0, .ref (a 0)), (1, .int v1), (2, .int v2), (3, .int v3)]) hx hb dX11_above_117 hl (k := 5) rfl (by rw [en2]; rfl) (by decide) rfl (fun ls hl => ?_)
    refine lv_goto (tgt := 24) hx hb dX11_above_120 (by decide) ?_
    have j := K24 v1 v2 v3 n1 n2 z hm
    rw [hG] at j
    exact j H locs ls hP hD hS (lv_sub hl [2, 3, 4, 5, 1, 0] rfl)
  have J113 : ∀ (k24 : Int32 → Int32 → Int32 → Int32 → Int32 → zz_M → Option (Int32 × zz_M)) (K24 : ∀ (v1 : Int32) (v2 : Int32) (v3 : Int32) (v4 : Int32) (v5 : Int32) (z : zz_M), k24 v1 v2 v3 v4 v5 z = some (r, zt) → G 24 [(0, .ref (a 0)), (1, .int v1), (2, .int v2), (3, .int v3), (4, .int v4), (5, .int v5)] [] z) (v1 : Int32) (v2 : Int32) (v3 : Int32) (v5 : Int32) (t0 : Int32) (z : zz_M), mX11_above_b113 k24 v1 v2 v3 v5 t0 z = some (r, zt) → G 113 [(0, .ref (a 0)), (1, .int v1), (2, .int v2), (3, .int v3), (5, .int v5)] [.int t0] z := by
    intro k24 K24 v1 v2 v3 v5 t0 z hm
    rw [mX11_above_b113] at hm
    rw [hG]
    intro H locs ls hP hD hS hl
    refine lv_iconst (v := (0 : Int32)) hx hb dX11_above_113 (by decide) ?_
    have j := J114 k24 K24 v1 v2 v3 v5 (0 : Int32) t0 z hm
    rw [hG] at j
    exact j H locs ls hP hD hS (lv_sub hl [0, 1, 2, 3, 4] rfl)
  have J84 : ∀ (k24 : Int32 → Int32 → Int32 → Int32 → Int32 → zz_M → Option (Int32 × zz_M)) (K24 : ∀ (v1 : Int32) (v2 : Int32) (v3 : Int32) (v4 : Int32) (v5 : Int32) (z : zz_M), k24 v1 v2 v3 v4 v5 z = some (r, zt) → G 24 [(0, .ref (a 0)), (1, .int v1), (2, .int v2), (3, .int v3), (4, .int v4), (5, .int v5)] [] z) (v1 : Int32) (v2 : Int32) (v4 : Int32) (v5 : Int32) (v6 : Int32) (t0 : Int32) (t1 : Int32) (z : zz_M), mX11_above_b84 k24 v1 v2 v4 v5 v6 t0 t1 z = some (r, zt) → G 84 [(0, .ref (a 0)), (1, .int v1), (2, .int v2), (4, .int v4), (5, .int v5), (6, .int v6)] [.int t0, .int t1] z := by
    intro k24 K24 v1 v2 v4 v5 v6 t0 t1 z hm
    rw [mX11_above_b84] at hm
    rw [hG]
    intro H locs ls hP hD hS hl
    refine lv_ior hx hb dX11_above_84 ?_
    refine lv_topi (fun n3 en3 => ?_)
    replace hm := zz_nm_some en3 hm
    refine lv_istore_n (lv' := [(3, .int n3), (0, .ref (a 0)), (1, .int v1), (2, .int v2), (4, .int v4), (5, .int v5), (6, .int v6)]) hx hb dX11_above_85 rfl hl (by decide) rfl (fun ls hl => ?_)
    refine lv_iload hx hb dX11_above_86 (lv_at hl 4 rfl) ?_
    refine lv_iload_n hx hb dX11_above_88 rfl (lv_at hl 2 rfl) ?_
    refine lv_if_le (tgt := 113) hx hb dX11_above_89 (by decide) (fun c4 => ?_) (fun c4 => ?_)
    · replace hm := zz_pos c4 hm
      have j := J113 k24 K24 v1 v2 n3 v5 v4 z hm
      rw [hG] at j
      exact j H locs ls hP hD hS (lv_sub hl [1, 2, 3, 0, 5] rfl)
    · replace hm := zz_neg c4 hm
      refine lv_iload hx hb dX11_above_92 (lv_at hl 6 rfl) ?_
      refine lv_aload_n hx hb dX11_above_94 rfl (lv_at hl 1 rfl) ?_
      refine lv_iload_n hx hb dX11_above_95 rfl (lv_at hl 2 rfl) ?_
      refine lv_iconst (v := (1 : Int32)) hx hb dX11_above_96 (by decide) ?_
      refine lv_isub hx hb dX11_above_97 ?_
      refine lv_iload hx hb dX11_above_98 (lv_at hl 5 rfl) ?_
      obtain ⟨r5, h6, hm⟩ := zz_b1_some hm
      refine zz_calli (zz_runV (w := wR y a) (As := [.int (v1 - (1 : Int32)), .int v5]) (rest := [.int v6, .int v4]) ⟨hx, hb, hml, hown, hts⟩ (zX11_doneOf l D y a H.size (v1 - (1 : Int32)) v5 z h6) (cwV 2 hts gX11_above_X11_doneOf rfl rfl rfl zdX11_doneOf ⟨Nat.le_of_ble_eq_true rfl, Nat.le_of_ble_eq_true rfl⟩) hK hN hg hP hD hS hA 0 (wR_0 y a z) rfl rfl hl.1 rfl (Nat.le_of_ble_eq_true rfl) dX11_above_100 ⟨Nat.le_of_ble_eq_true rfl, Nat.le_of_ble_eq_true rfl⟩) hD hS hA (fun H locs hP hD hS => ?_)
      refine lv_icmp_ge (tgt := 113) hx hb dX11_above_103 (by decide) (fun c7 => ?_) (fun c7 => ?_)
      · replace hm := zz_pos c7 hm
        have j := J113 k24 K24 v1 v2 n3 v5 v4 z hm
        rw [hG] at j
        exact j H locs ls hP hD hS (lv_sub hl [1, 2, 3, 0, 5] rfl)
      · replace hm := zz_neg c7 hm
        refine lv_iconst (v := (1 : Int32)) hx hb dX11_above_106 (by decide) ?_
        refine lv_iload hx hb dX11_above_107 (lv_at hl 5 rfl) ?_
        refine lv_ishl hx hb dX11_above_109 ?_
        refine lv_goto (tgt := 114) hx hb dX11_above_110 (by decide) ?_
        have j := J114 k24 K24 v1 v2 n3 v5 ((1 : Int32) <<< (v5 &&& 31)) v4 z hm
        rw [hG] at j
        exact j H locs ls hP hD hS (lv_sub hl [1, 2, 3, 0, 5] rfl)
  have J62 : ∀ (k24 : Int32 → Int32 → Int32 → Int32 → Int32 → zz_M → Option (Int32 × zz_M)) (K24 : ∀ (v1 : Int32) (v2 : Int32) (v3 : Int32) (v4 : Int32) (v5 : Int32) (z : zz_M), k24 v1 v2 v3 v4 v5 z = some (r, zt) → G 24 [(0, .ref (a 0)), (1, .int v1), (2, .int v2), (3, .int v3), (4, .int v4), (5, .int v5)] [] z) (v1 : Int32) (v3 : Int32) (v4 : Int32) (v5 : Int32) (v6 : Int32) (t0 : Int32) (t1 : Int32) (z : zz_M), mX11_above_b62 k24 v1 v3 v4 v5 v6 t0 t1 z = some (r, zt) → G 62 [(0, .ref (a 0)), (1, .int v1), (3, .int v3), (4, .int v4), (5, .int v5), (6, .int v6)] [.int t0, .int t1] z := by
    intro k24 K24 v1 v3 v4 v5 v6 t0 t1 z hm
    rw [mX11_above_b62] at hm
    rw [hG]
    intro H locs ls hP hD hS hl
    refine lv_ior hx hb dX11_above_62 ?_
    refine lv_topi (fun n8 en8 => ?_)
    replace hm := zz_nm_some en8 hm
    refine lv_istore_n (lv' := [(2, .int n8), (0, .ref (a 0)), (1, .int v1), (3, .int v3), (4, .int v4), (5, .int v5), (6, .int v6)]) hx hb dX11_above_63 rfl hl (by decide) rfl (fun ls hl => ?_)
    refine lv_iload_n hx hb dX11_above_64 rfl (lv_at hl 3 rfl) ?_
    refine lv_iload hx hb dX11_above_65 (lv_at hl 6 rfl) ?_
    refine lv_aload_n hx hb dX11_above_67 rfl (lv_at hl 1 rfl) ?_
    refine lv_iload hx hb dX11_above_68 (lv_at hl 5 rfl) ?_
    obtain ⟨r9, h10, hm⟩ := zz_b1_some hm
    refine zz_calli (zz_runV (w := wR y a) (As := [.int v5]) (rest := [.int v6, .int v3]) ⟨hx, hb, hml, hown, hts⟩ (zX11_cap l D y a H.size v5 z h10) (cwV 1 hts gX11_above_X11_cap rfl rfl rfl zdX11_cap ⟨Nat.le_of_ble_eq_true rfl, Nat.le_of_ble_eq_true rfl⟩) hK hN hg hP hD hS hA 0 (wR_0 y a z) rfl rfl hl.1 rfl (Nat.le_of_ble_eq_true rfl) dX11_above_70 ⟨Nat.le_of_ble_eq_true rfl, Nat.le_of_ble_eq_true rfl⟩) hD hS hA (fun H locs hP hD hS => ?_)
    refine lv_icmp_le (tgt := 83) hx hb dX11_above_73 (by decide) (fun c11 => ?_) (fun c11 => ?_)
    · replace hm := zz_pos c11 hm
      refine lv_iconst (v := (0 : Int32)) hx hb dX11_above_83 (by decide) ?_
      have j := J84 k24 K24 v1 n8 v4 v5 v6 (0 : Int32) v3 z hm
      rw [hG] at j
      exact j H locs ls hP hD hS (lv_sub hl [1, 2, 0, 4, 5, 6] rfl)
    · replace hm := zz_neg c11 hm
      refine lv_iconst (v := (1 : Int32)) hx hb dX11_above_76 (by decide) ?_
      refine lv_iload hx hb dX11_above_77 (lv_at hl 5 rfl) ?_
      refine lv_ishl hx hb dX11_above_79 ?_
      refine lv_goto (tgt := 84) hx hb dX11_above_80 (by decide) ?_
      have j := J84 k24 K24 v1 n8 v4 v5 v6 ((1 : Int32) <<< (v5 &&& 31)) v3 z hm
      rw [hG] at j
      exact j H locs ls hP hD hS (lv_sub hl [1, 2, 0, 4, 5, 6] rfl)
  have J24 : ∀ (n : Nat) (v1 : Int32) (v2 : Int32) (v3 : Int32) (v4 : Int32) (v5 : Int32) (z : zz_M), mX11_above_b24 n v1 v2 v3 v4 v5 z = some (r, zt) → G 24 [(0, .ref (a 0)), (1, .int v1), (2, .int v2), (3, .int v3), (4, .int v4), (5, .int v5)] [] z := by
    intro n
    induction n with
    | zero =>
      intro v1 v2 v3 v4 v5 z hm
      exact zz_none hm
    | succ n ih =>
      intro v1 v2 v3 v4 v5 z hm
      rw [mX11_above_b24] at hm
      rw [hG]
      intro H locs ls hP hD hS hl
      refine lv_iload hx hb dX11_above_24 (lv_at hl 5 rfl) ?_
      refine lv_aload_n hx hb dX11_above_26 rfl (lv_at hl 0 rfl) ?_
      refine va_get (D := D) (ci := 11) (v := .int (z.2.2.1 2)) (C := RX11) (T := TX11) (N := 35) hx hb hts nX11_above_X11 hown hK hP 0 (wR_0 y a z) rfl 2 (by decide) (hts (.fieldLink RX11 75 "WorksDeskModel" "itemMany" "I") (List.mem_of_getElem? (i := 2) rfl)) (fun _ h9 => h9) rfl dX11_above_27 ?_
      refine lv_icmp_ge (tgt := 123) hx hb dX11_above_30 (by decide) (fun c12 => ?_) (fun c12 => ?_)
      · replace hm := zz_pos c12 hm
        refine lv_aload_n hx hb dX11_above_123 rfl (lv_at hl 0 rfl) ?_
        refine lv_iconst (v := (0 : Int32)) hx hb dX11_above_124 (by decide) ?_
        refine va_put (D := D) (ci := 11) (v := .int (0 : Int32)) (ty := .int) (C := RX11) (T := TX11) (N := 35) hx hb hts nX11_above_X11 tyX11 tyX11_ok nmX11 hown hK hP hD hS 0 (wR_0 y a z) rfl 18 (by decide) (hts (.fieldLink RX11 100 "WorksDeskModel" "rowMany" "I") (List.mem_of_getElem? (i := 3) rfl)) (fun _ h9 => h9) rfl (tyX11_ok 18 (by decide)) rfl rfl (Nat.le_of_ble_eq_true rfl) dX11_above_125 (fun H locs hP hD hS => ?_)
        obtain ⟨z13, hP, hD, hm⟩ := zz_up (w := wR y a) (wR_f18 y a z (0 : Int32)) hP hD hm
        refine lv_aload_n hx hb dX11_above_128 rfl (lv_at hl 0 rfl) ?_
        refine lv_iload_n hx hb dX11_above_129 rfl (lv_at hl 3 rfl) ?_
        refine lv_i2l hx hb dX11_above_130 rfl ?_
        obtain ⟨r14, z16, h15, hm⟩ := zz_b2_some hm
        refine zz_callv (zz_runV (w := wR y a) (As := [.long v3.toInt64]) (rest := []) ⟨hx, hb, hml, hown, hts⟩ (zX11_tell l D y a H.size v3.toInt64 z13 h15) (cwV 1 hts gX11_above_X11_tell rfl rfl rfl zdX11_tell ⟨Nat.le_of_ble_eq_true rfl, Nat.le_of_ble_eq_true rfl⟩) hK hN hg hP hD hS hA 0 (wR_0 y a z13) rfl rfl hl.1 rfl (Nat.le_of_ble_eq_true rfl) dX11_above_131 ⟨Nat.le_of_ble_eq_true rfl, Nat.le_of_ble_eq_true rfl⟩) hD hS hA (fun H locs hP hD hS => ?_)
        refine lv_aload_n hx hb dX11_above_134 rfl (lv_at hl 0 rfl) ?_
        refine lv_iload hx hb dX11_above_135 (lv_at hl 4 rfl) ?_
        refine lv_i2l hx hb dX11_above_137 rfl ?_
        obtain ⟨r17, z19, h18, hm⟩ := zz_b2_some hm
        refine zz_callv (zz_runV (w := wR y a) (As := [.long v4.toInt64]) (rest := []) ⟨hx, hb, hml, hown, hts⟩ (zX11_tell l D y a H.size v4.toInt64 z16 h18) (cwV 1 hts gX11_above_X11_tell rfl rfl rfl zdX11_tell ⟨Nat.le_of_ble_eq_true rfl, Nat.le_of_ble_eq_true rfl⟩) hK hN hg hP hD hS hA 0 (wR_0 y a z16) rfl rfl hl.1 rfl (Nat.le_of_ble_eq_true rfl) dX11_above_138 ⟨Nat.le_of_ble_eq_true rfl, Nat.le_of_ble_eq_true rfl⟩) hD hS hA (fun H locs hP hD hS => ?_)
        refine lv_iload_n hx hb dX11_above_141 rfl (lv_at hl 2 rfl) ?_
        exact zz_iret hx hb hr hlocks (zz_some2 hm) hP hK hD hS dX11_above_142
      · replace hm := zz_neg c12 hm
        refine lv_aload_n hx hb dX11_above_33 rfl (lv_at hl 0 rfl) ?_
        refine lv_iload_n hx hb dX11_above_34 rfl (lv_at hl 1 rfl) ?_
        refine lv_iload hx hb dX11_above_35 (lv_at hl 5 rfl) ?_
        obtain ⟨r20, h21, hm⟩ := zz_b1_some hm
        refine zz_calli (zz_runV (w := wR y a) (As := [.int v1, .int v5]) (rest := []) ⟨hx, hb, hml, hown, hts⟩ (zX11_doneOf l D y a H.size v1 v5 z h21) (cwV 2 hts gX11_above_X11_doneOf rfl rfl rfl zdX11_doneOf ⟨Nat.le_of_ble_eq_true rfl, Nat.le_of_ble_eq_true rfl⟩) hK hN hg hP hD hS hA 0 (wR_0 y a z) rfl rfl hl.1 rfl (Nat.le_of_ble_eq_true rfl) dX11_above_37 ⟨Nat.le_of_ble_eq_true rfl, Nat.le_of_ble_eq_true rfl⟩) hD hS hA (fun H locs hP hD hS => ?_)
        refine lv_istore (lv' := [(6, .int r20), (0, .ref (a 0)), (1, .int v1), (2, .int v2), (3, .int v3), (4, .int v4), (5, .int v5)]) hx hb dX11_above_40 hl (by decide) rfl (fun ls hl => ?_)
        refine lv_iload_n hx hb dX11_above_42 rfl (lv_at hl 3 rfl) ?_
        refine lv_iload hx hb dX11_above_43 (lv_at hl 0 rfl) ?_
        refine lv_aload_n hx hb dX11_above_45 rfl (lv_at hl 1 rfl) ?_
        refine lv_iload hx hb dX11_above_46 (lv_at hl 6 rfl) ?_
        obtain ⟨r22, h23, hm⟩ := zz_b1_some hm
        refine zz_calli (zz_runV (w := wR y a) (As := [.int v5]) (rest := [.int r20, .int v2]) ⟨hx, hb, hml, hown, hts⟩ (zX11_quantity l D y a H.size v5 z h23) (cwV 1 hts gX11_above_X11_quantity rfl rfl rfl zdX11_quantity ⟨Nat.le_of_ble_eq_true rfl, Nat.le_of_ble_eq_true rfl⟩) hK hN hg hP hD hS hA 0 (wR_0 y a z) rfl rfl hl.1 rfl (Nat.le_of_ble_eq_true rfl) dX11_above_48 ⟨Nat.le_of_ble_eq_true rfl, Nat.le_of_ble_eq_true rfl⟩) hD hS hA (fun H locs hP hD hS => ?_)
        refine lv_icmp_le (tgt := 61) hx hb dX11_above_51 (by decide) (fun c24 => ?_) (fun c24 => ?_)
        · replace hm := zz_pos c24 hm
          refine lv_iconst (v := (0 : Int32)) hx hb dX11_above_61 (by decide) ?_
          have j := J62 (mX11_above_b24 n) ih v1 v3 v4 v5 r20 (0 : Int32) v2 z hm
          rw [hG] at j
          exact j H locs ls hP hD hS (lv_sub hl [1, 2, 4, 5, 6, 0] rfl)
        · replace hm := zz_neg c24 hm
          refine lv_iconst (v := (1 : Int32)) hx hb dX11_above_54 (by decide) ?_
          refine lv_iload hx hb dX11_above_55 (lv_at hl 6 rfl) ?_
          refine lv_ishl hx hb dX11_above_57 ?_
          refine lv_goto (tgt := 62) hx hb dX11_above_58 (by decide) ?_
          have j := J62 (mX11_above_b24 n) ih v1 v3 v4 v5 r20 ((1 : Int32) <<< (v5 &&& 31)) v2 z hm
          rw [hG] at j
          exact j H locs ls hP hD hS (lv_sub hl [1, 2, 4, 5, 6, 0] rfl)
  rw [hG]
  intro H locs ls hP hD hS hl
  unfold mX11_above at hm
  refine lv_aload_n hx hb dX11_above_0 rfl (lv_at hl 0 rfl) ?_
  refine lv_iconst (v := (0 : Int32)) hx hb dX11_above_1 (by decide) ?_
  refine va_put (D := D) (ci := 11) (v := .int (0 : Int32)) (ty := .int) (C := RX11) (T := TX11) (N := 35) hx hb hts nX11_above_X11 tyX11 tyX11_ok nmX11 hown hK hP hD hS 0 (wR_0 y a z) rfl 19 (by decide) (hts (.fieldLink RX11 97 "WorksDeskModel" "thrown" "I") (List.mem_of_getElem? (i := 1) rfl)) (fun _ h9 => h9) rfl (tyX11_ok 19 (by decide)) rfl rfl (Nat.le_of_ble_eq_true rfl) dX11_above_2 (fun H locs hP hD hS => ?_)
  obtain ⟨z25, hP, hD, hm⟩ := zz_up (w := wR y a) (wR_f19 y a z (0 : Int32)) hP hD hm
  refine lv_iload_n hx hb dX11_above_5 rfl (lv_at hl 1 rfl) ?_
  obtain ⟨r26, h27, hm⟩ := zz_b1_some hm
  refine zz_calli (zz_runS (w := wR y a) (As := [.int x1]) (rest := []) ⟨hx, hb, hml, hown, hts⟩ (zX11_isMonth l D y a H.size x1 z25 h27) (va_cwS 1 hts gX11_above_X11_isMonth rfl rfl rfl zdX11_isMonth ⟨Nat.le_of_ble_eq_true rfl, Nat.le_of_ble_eq_true rfl⟩) hK hN hg hP hD hS hA rfl hl.1 rfl (Nat.le_of_ble_eq_true rfl) dX11_above_6 ⟨Nat.le_of_ble_eq_true rfl, Nat.le_of_ble_eq_true rfl⟩) hD hS hA (fun H locs hP hD hS => ?_)
  refine lv_if_ne (tgt := 14) hx hb dX11_above_9 (by decide) (fun c28 => ?_) (fun c28 => ?_)
  · replace hm := zz_neg c28 hm
    refine lv_iconst (v := (0 : Int32)) hx hb dX11_above_14 (by decide) ?_
    refine lv_istore_n (lv' := [(2, .int (0 : Int32)), (0, .ref (a 0)), (1, .int x1)]) hx hb dX11_above_15 rfl hl (by decide) rfl (fun ls hl => ?_)
    refine lv_iconst (v := (0 : Int32)) hx hb dX11_above_16 (by decide) ?_
    refine lv_istore_n (lv' := [(3, .int (0 : Int32)), (2, .int (0 : Int32)), (0, .ref (a 0)), (1, .int x1)]) hx hb dX11_above_17 rfl hl (by decide) rfl (fun ls hl => ?_)
    refine lv_iconst (v := (0 : Int32)) hx hb dX11_above_18 (by decide) ?_
    refine lv_istore (lv' := [(4, .int (0 : Int32)), (3, .int (0 : Int32)), (2, .int (0 : Int32)), (0, .ref (a 0)), (1, .int x1)]) hx hb dX11_above_19 hl (by decide) rfl (fun ls hl => ?_)
    refine lv_iconst (v := (0 : Int32)) hx hb dX11_above_21 (by decide) ?_
    refine lv_istore (lv' := [(5, .int (0 : Int32)), (4, .int (0 : Int32)), (3, .int (0 : Int32)), (2, .int (0 : Int32)), (0, .ref (a 0)), (1, .int x1)]) hx hb dX11_above_22 hl (by decide) rfl (fun ls hl => ?_)
    have j := J24 zz_N x1 (0 : Int32) (0 : Int32) (0 : Int32) (0 : Int32) z25 hm
    rw [hG] at j
    exact j H locs ls hP hD hS (lv_sub hl [4, 5, 3, 2, 1, 0] rfl)
  · replace hm := zz_pos c28 hm
    refine lv_iconst (v := (-1 : Int32)) hx hb dX11_above_12 (by decide) ?_
    exact zz_iret hx hb hr hlocks (zz_some2 hm) hP hK hD hS dX11_above_13
def mX11_interestTill_b5 (z : zz_M) : Nat → Int32 → Int64 → Int32 → Option Int64
  | 0, _, _, _ => none
  | n + 1, v1, v2, v4 => if v1 < v4 then (some v2) else (zz_ck (zz_in v4 24) (zz_nm (v2 + (z.2.1 18 v4.toNatClampNeg)) (fun n3 => zz_nm (v4 + (1 : Int32)) (fun n4 => (mX11_interestTill_b5 z n) v1 n3 n4))))
def mX11_interestTill (x1 : Int32) (z : zz_M) : Option Int64 := mX11_interestTill_b5 z zz_N x1 (0 : Int64) (0 : Int32)
theorem nX11_interestTill_X11 : ∀ w ∈ wsX110, w ∈ wsX11_interestTill := fun _ h => List.mem_cons_of_mem _ (List.mem_append_right _ (h))
theorem zdX11_interestTill : yX11_interestTill.cls = RX11 ∧ yX11_interestTill.cls ≠ "java/lang/invoke/MethodHandle" ∧ yX11_interestTill.cls ≠ "java/lang/invoke/VarHandle" ∧ (parseMethodDescriptor yX11_interestTill.desc).map (fun d => d.parameters.length) = some 1 := by decide +kernel
set_option maxHeartbeats 4000000 in
set_option maxRecDepth 100000 in
theorem zX11_interestTill (l : Launch) (D : va_G) (y : Nat → ClassId) (a : Nat → Nat) (sz : Nat) (x1 : Int32) (z : zz_M) {r : Int64} (hm : mX11_interestTill x1 z = some r) : Met l yX11_interestTill wsX11_interestTill { frames := 0, cells := 0, slots := 0, locals := 0 } (zz_Pc D y (wR y a z) sz [.ref (a 0), .int x1]) (zz_Ql D y (wR y a) (va_A (wR y a z) sz) r z) 0 0 (va_A (wR y a z) sz) := by
  refine Met.ofW (cc := cX11_interestTill) (maxL := 5) (ret := (some .long)) (by decide) rfl ?_
  intro p e s m args below meth c s₁ B hml hv
  obtain ⟨rfl, hsz, hP, hK, hD0, hN, hg⟩ := hv
  have hx := B.exec
  have hb := B.bytes
  have hr := B.returns
  have hts := atoms_spec (ws := wsX11_interestTill) B.pre
  have hown : s.vm.findClass RX11 = some m.cls := findClass_of_methodNamed B.named
  have hlocks := B.notSynchronized
  clear B
  subst hsz
  have hD := hD0.self (sz := s.heap.size)
  generalize hAe : va_A (wR y a z) s.heap.size = A at hD hg ⊢
  have hA : ∀ q : Nat, s.heap.size ≤ q → A q := fun q h => by rw [← hAe]; exact Or.inr h
  clear hAe hD0
  have hl := lv_entry ([.ref (a 0), .int x1]) (n := 5) (Nat.le_of_ble_eq_true rfl)
  rw [lg_entry_eq]
  generalize (lg_sl ([.ref (a 0), .int x1]) ++ List.replicate (5 - (lg_sl ([.ref (a 0), .int x1])).length) Slot.unset).toArray = ls at hl ⊢
  replace hl : lv_has ls 5 [(0, .ref (a 0)), (1, .int x1)] := hl
  refine zz_go (w := wR y a) hP hD va_S.rf hl (fun G hG => ?_)
  clear hP hD hl ls
  have J5 : ∀ (n : Nat) (v1 : Int32) (v2 : Int64) (v4 : Int32), mX11_interestTill_b5 z n v1 v2 v4 = some r → G 5 [(0, .ref (a 0)), (1, .int v1), (2, .long v2), (4, .int v4)] [] z := by
    intro n
    induction n with
    | zero =>
      intro v1 v2 v4 hm
      exact zz_none hm
    | succ n ih =>
      intro v1 v2 v4 hm
      rw [mX11_interestTill_b5] at hm
      rw [hG]
      intro H locs ls hP hD hS hl
      refine lv_iload hx hb dX11_interestTill_5 (lv_at hl 3 rfl) ?_
      refine lv_iload_n hx hb dX11_interestTill_7 rfl (lv_at hl 1 rfl) ?_
      refine lv_icmp_gt (tgt := 27) hx hb dX11_interestTill_8 (by decide) (fun c1 => ?_) (fun c1 => ?_)
      · replace hm := zz_pos c1 hm
        refine lv_lload_n hx hb dX11_interestTill_27 rfl (lv_at hl 2 rfl) ?_
        exact zz_lret hx hb hr hlocks ⟨zz_some1 hm, rfl⟩ hP hK hD hS dX11_interestTill_28
      · replace hm := zz_neg c1 hm
        refine lv_lload_n hx hb dX11_interestTill_11 rfl (lv_at hl 2 rfl) ?_
        refine lv_aload_n hx hb dX11_interestTill_12 rfl (lv_at hl 0 rfl) ?_
        refine va_get (D := D) (ci := 11) (v := .ref (a 18)) (C := RX11) (T := TX11) (N := 35) hx hb hts nX11_interestTill_X11 hown hK hP 0 (wR_0 y a z) rfl 30 (by decide) (hts (.fieldLink RX11 63 "WorksDeskModel" "interest" "[J") (List.mem_of_getElem? (i := 1) rfl)) (fun _ h9 => h9) rfl dX11_interestTill_13 ?_
        refine lv_iload hx hb dX11_interestTill_16 (lv_at hl 3 rfl) ?_
        obtain ⟨c2, hm⟩ := zz_ck_some hm
        refine va_lald hx hb hK hP 18 1 (wR_18 y a z) rfl c2 dX11_interestTill_18 ?_
        refine lv_ladd hx hb dX11_interestTill_19 ?_
        refine lv_topl (fun n3 en3 => ?_)
        replace hm := zz_nm_some en3 hm
        refine lv_lstore_n (lv' := [(2, .long n3), (0, .ref (a 0)), (1, .int v1), (4, .int v4)]) hx hb dX11_interestTill_20 rfl hl (by decide) rfl (fun ls hl => ?_)
        obtain ⟨n4, en4⟩ : ∃ q : Int32, q = v4 + (1 : Int32) := ⟨_, rfl⟩
        replace hm := zz_nm_some en4 hm
        refine lv_iinc (v := n4) (lv' := [(4, .int n4), (2, .long n3), (0, .ref (a 0)), (1, .int v1)]) hx hb dX11_interestTill_21 hl (k := 3) rfl (by rw [en4]; rfl) (by decide) rfl (fun ls hl => ?_)
        refine lv_goto (tgt := 5) hx hb dX11_interestTill_24 (by decide) ?_
        have j := ih v1 n3 n4 hm
        rw [hG] at j
        exact j H locs ls hP hD hS (lv_sub hl [2, 3, 1, 0] rfl)
  rw [hG]
  intro H locs ls hP hD hS hl
  unfold mX11_interestTill at hm
  refine lv_lconst (v := (0 : Int64)) hx hb dX11_interestTill_0 (by decide) ?_
  refine lv_lstore_n (lv' := [(2, .long (0 : Int64)), (0, .ref (a 0)), (1, .int x1)]) hx hb dX11_interestTill_1 rfl hl (by decide) rfl (fun ls hl => ?_)
  refine lv_iconst (v := (0 : Int32)) hx hb dX11_interestTill_2 (by decide) ?_
  refine lv_istore (lv' := [(4, .int (0 : Int32)), (2, .long (0 : Int64)), (0, .ref (a 0)), (1, .int x1)]) hx hb dX11_interestTill_3 hl (by decide) rfl (fun ls hl => ?_)
  have j := J5 zz_N x1 (0 : Int64) (0 : Int32) hm
  rw [hG] at j
  exact j H locs ls hP hD hS (lv_sub hl [2, 3, 1, 0] rfl)
def mX11_rate (x1 : Int32) (z : zz_M) : Option Int32 := zz_ck (zz_in (((3 : Int32) * x1) + (2 : Int32)) 30) (some (z.1 2 (((3 : Int32) * x1) + (2 : Int32)).toNatClampNeg))
theorem nX11_rate_X11 : ∀ w ∈ wsX110, w ∈ wsX11_rate := fun _ h => List.mem_cons_of_mem _ (List.mem_append_right _ (h))
theorem zdX11_rate : yX11_rate.cls = RX11 ∧ yX11_rate.cls ≠ "java/lang/invoke/MethodHandle" ∧ yX11_rate.cls ≠ "java/lang/invoke/VarHandle" ∧ (parseMethodDescriptor yX11_rate.desc).map (fun d => d.parameters.length) = some 1 := by decide +kernel
set_option maxHeartbeats 4000000 in
set_option maxRecDepth 100000 in
theorem zX11_rate (l : Launch) (D : va_G) (y : Nat → ClassId) (a : Nat → Nat) (sz : Nat) (x1 : Int32) (z : zz_M) {r : Int32} (hm : mX11_rate x1 z = some r) : Met l yX11_rate wsX11_rate { frames := 0, cells := 0, slots := 0, locals := 0 } (zz_Pc D y (wR y a z) sz [.ref (a 0), .int x1]) (zz_Qi D y (wR y a) (va_A (wR y a z) sz) r z) 0 0 (va_A (wR y a z) sz) := by
  refine Met.ofW (cc := cX11_rate) (maxL := 2) (ret := (some .int)) (by decide) rfl ?_
  intro p e s m args below meth c s₁ B hml hv
  obtain ⟨rfl, hsz, hP, hK, hD0, hN, hg⟩ := hv
  have hx := B.exec
  have hb := B.bytes
  have hr := B.returns
  have hts := atoms_spec (ws := wsX11_rate) B.pre
  have hown : s.vm.findClass RX11 = some m.cls := findClass_of_methodNamed B.named
  have hlocks := B.notSynchronized
  clear B
  subst hsz
  have hD := hD0.self (sz := s.heap.size)
  generalize hAe : va_A (wR y a z) s.heap.size = A at hD hg ⊢
  have hA : ∀ q : Nat, s.heap.size ≤ q → A q := fun q h => by rw [← hAe]; exact Or.inr h
  clear hAe hD0
  have hl := lv_entry ([.ref (a 0), .int x1]) (n := 2) (Nat.le_of_ble_eq_true rfl)
  rw [lg_entry_eq]
  generalize (lg_sl ([.ref (a 0), .int x1]) ++ List.replicate (2 - (lg_sl ([.ref (a 0), .int x1])).length) Slot.unset).toArray = ls at hl ⊢
  replace hl : lv_has ls 2 [(0, .ref (a 0)), (1, .int x1)] := hl
  refine zz_go (w := wR y a) hP hD va_S.rf hl (fun G hG => ?_)
  clear hP hD hl ls
  rw [hG]
  intro H locs ls hP hD hS hl
  unfold mX11_rate at hm
  refine lv_aload_n hx hb dX11_rate_0 rfl (lv_at hl 0 rfl) ?_
  refine va_get (D := D) (ci := 11) (v := .ref (a 2)) (C := RX11) (T := TX11) (N := 35) hx hb hts nX11_rate_X11 hown hK hP 0 (wR_0 y a z) rfl 1 (by decide) (hts (.fieldLink RX11 13 "WorksDeskModel" "items" "[I") (List.mem_of_getElem? (i := 1) rfl)) (fun _ h9 => h9) rfl dX11_rate_1 ?_
  refine lv_iconst (v := (3 : Int32)) hx hb dX11_rate_4 (by decide) ?_
  refine lv_iload_n hx hb dX11_rate_5 rfl (lv_at hl 1 rfl) ?_
  refine lv_imul hx hb dX11_rate_6 ?_
  refine lv_iconst (v := (2 : Int32)) hx hb dX11_rate_7 (by decide) ?_
  refine lv_iadd hx hb dX11_rate_8 ?_
  obtain ⟨c1, hm⟩ := zz_ck_some hm
  refine va_iald hx hb hK hP 2 0 (wR_2 y a z) rfl c1 dX11_rate_9 ?_
  exact zz_iret hx hb hr hlocks ⟨zz_some1 hm, rfl⟩ hP hK hD hS dX11_rate_10
def mX11_sumNow_b4 (z : zz_M) : Nat → Int64 → Int32 → Option Int64
  | 0, _, _ => none
  | n + 1, v1, v3 => if (z.2.2.1 2) ≤ v3 then (some v1) else (zz_b1 (mX11_quantity v3 z) (fun r2 => zz_b1 (mX11_rate v3 z) (fun r4 => zz_nm (v1 + (r2.toInt64 * r4.toInt64)) (fun n6 => zz_nm (v3 + (1 : Int32)) (fun n7 => (mX11_sumNow_b4 z n) n6 n7)))))
def mX11_sumNow (z : zz_M) : Option Int64 := mX11_sumNow_b4 z zz_N (0 : Int64) (0 : Int32)
theorem nX11_sumNow_X11 : ∀ w ∈ wsX110, w ∈ wsX11_sumNow := fun _ h => List.mem_cons_of_mem _ (List.mem_append_right _ (h))
theorem zdX11_sumNow : yX11_sumNow.cls = RX11 ∧ yX11_sumNow.cls ≠ "java/lang/invoke/MethodHandle" ∧ yX11_sumNow.cls ≠ "java/lang/invoke/VarHandle" ∧ (parseMethodDescriptor yX11_sumNow.desc).map (fun d => d.parameters.length) = some 0 := by decide +kernel
set_option maxHeartbeats 4000000 in
set_option maxRecDepth 100000 in
theorem zX11_sumNow (l : Launch) (D : va_G) (y : Nat → ClassId) (a : Nat → Nat) (sz : Nat) (z : zz_M) {r : Int64} (hm : mX11_sumNow z = some r) : Met l yX11_sumNow wsX11_sumNow { frames := 1, cells := 0, slots := 0, locals := 21 } (zz_Pc D y (wR y a z) sz [.ref (a 0)]) (zz_Ql D y (wR y a) (va_A (wR y a z) sz) r z) 0 0 (va_A (wR y a z) sz) := by
  refine Met.ofW (cc := cX11_sumNow) (maxL := 4) (ret := (some .long)) (by decide) rfl ?_
  intro p e s m args below meth c s₁ B hml hv
  obtain ⟨rfl, hsz, hP, hK, hD0, hN, hg⟩ := hv
  have hx := B.exec
  have hb := B.bytes
  have hr := B.returns
  have hts := atoms_spec (ws := wsX11_sumNow) B.pre
  have hown : s.vm.findClass RX11 = some m.cls := findClass_of_methodNamed B.named
  have hlocks := B.notSynchronized
  clear B
  subst hsz
  have hD := hD0.self (sz := s.heap.size)
  generalize hAe : va_A (wR y a z) s.heap.size = A at hD hg ⊢
  have hA : ∀ q : Nat, s.heap.size ≤ q → A q := fun q h => by rw [← hAe]; exact Or.inr h
  clear hAe hD0
  have hl := lv_entry ([.ref (a 0)]) (n := 4) (Nat.le_of_ble_eq_true rfl)
  rw [lg_entry_eq]
  generalize (lg_sl ([.ref (a 0)]) ++ List.replicate (4 - (lg_sl ([.ref (a 0)])).length) Slot.unset).toArray = ls at hl ⊢
  replace hl : lv_has ls 4 [(0, .ref (a 0))] := hl
  refine zz_go (w := wR y a) hP hD va_S.rf hl (fun G hG => ?_)
  clear hP hD hl ls
  have J4 : ∀ (n : Nat) (v1 : Int64) (v3 : Int32), mX11_sumNow_b4 z n v1 v3 = some r → G 4 [(0, .ref (a 0)), (1, .long v1), (3, .int v3)] [] z := by
    intro n
    induction n with
    | zero =>
      intro v1 v3 hm
      exact zz_none hm
    | succ n ih =>
      intro v1 v3 hm
      rw [mX11_sumNow_b4] at hm
      rw [hG]
      intro H locs ls hP hD hS hl
      refine lv_iload_n hx hb dX11_sumNow_4 rfl (lv_at hl 2 rfl) ?_
      refine lv_aload_n hx hb dX11_sumNow_5 rfl (lv_at hl 0 rfl) ?_
      refine va_get (D := D) (ci := 11) (v := .int (z.2.2.1 2)) (C := RX11) (T := TX11) (N := 35) hx hb hts nX11_sumNow_X11 hown hK hP 0 (wR_0 y a z) rfl 2 (by decide) (hts (.fieldLink RX11 75 "WorksDeskModel" "itemMany" "I") (List.mem_of_getElem? (i := 1) rfl)) (fun _ h9 => h9) rfl dX11_sumNow_6 ?_
      refine lv_icmp_ge (tgt := 34) hx hb dX11_sumNow_9 (by decide) (fun c1 => ?_) (fun c1 => ?_)
      · replace hm := zz_pos c1 hm
        refine lv_lload_n hx hb dX11_sumNow_34 rfl (lv_at hl 1 rfl) ?_
        exact zz_lret hx hb hr hlocks ⟨zz_some1 hm, rfl⟩ hP hK hD hS dX11_sumNow_35
      · replace hm := zz_neg c1 hm
        refine lv_lload_n hx hb dX11_sumNow_12 rfl (lv_at hl 1 rfl) ?_
        refine lv_aload_n hx hb dX11_sumNow_13 rfl (lv_at hl 0 rfl) ?_
        refine lv_iload_n hx hb dX11_sumNow_14 rfl (lv_at hl 2 rfl) ?_
        obtain ⟨r2, h3, hm⟩ := zz_b1_some hm
        refine zz_calli (zz_runV (w := wR y a) (As := [.int v3]) (rest := [.long v1]) ⟨hx, hb, hml, hown, hts⟩ (zX11_quantity l D y a H.size v3 z h3) (cwV 1 hts gX11_sumNow_X11_quantity rfl rfl rfl zdX11_quantity ⟨Nat.le_of_ble_eq_true rfl, Nat.le_of_ble_eq_true rfl⟩) hK hN hg hP hD hS hA 0 (wR_0 y a z) rfl rfl hl.1 rfl (Nat.le_of_ble_eq_true rfl) dX11_sumNow_15 ⟨Nat.le_of_ble_eq_true rfl, Nat.le_of_ble_eq_true rfl⟩) hD hS hA (fun H locs hP hD hS => ?_)
        refine lv_i2l hx hb dX11_sumNow_18 rfl ?_
        refine lv_aload_n hx hb dX11_sumNow_19 rfl (lv_at hl 0 rfl) ?_
        refine lv_iload_n hx hb dX11_sumNow_20 rfl (lv_at hl 2 rfl) ?_
        obtain ⟨r4, h5, hm⟩ := zz_b1_some hm
        refine zz_calli (zz_runV (w := wR y a) (As := [.int v3]) (rest := [.long r2.toInt64, .long v1]) ⟨hx, hb, hml, hown, hts⟩ (zX11_rate l D y a H.size v3 z h5) (cwV 1 hts gX11_sumNow_X11_rate rfl rfl rfl zdX11_rate ⟨Nat.le_of_ble_eq_true rfl, Nat.le_of_ble_eq_true rfl⟩) hK hN hg hP hD hS hA 0 (wR_0 y a z) rfl rfl hl.1 rfl (Nat.le_of_ble_eq_true rfl) dX11_sumNow_21 ⟨Nat.le_of_ble_eq_true rfl, Nat.le_of_ble_eq_true rfl⟩) hD hS hA (fun H locs hP hD hS => ?_)
        refine lv_i2l hx hb dX11_sumNow_24 rfl ?_
        refine lv_lmul hx hb dX11_sumNow_25 ?_
        refine lv_ladd hx hb dX11_sumNow_26 ?_
        refine lv_topl (fun n6 en6 => ?_)
        replace hm := zz_nm_some en6 hm
        refine lv_lstore_n (lv' := [(1, .long n6), (0, .ref (a 0)), (3, .int v3)]) hx hb dX11_sumNow_27 rfl hl (by decide) rfl (fun ls hl => ?_)
        obtain ⟨n7, en7⟩ : ∃ q : Int32, q = v3 + (1 : Int32) := ⟨_, rfl⟩
        replace hm := zz_nm_some en7 hm
        refine lv_iinc (v := n7) (lv' := [(3, .int n7), (1, .long n6), (0, .ref (a 0))]) hx hb dX11_sumNow_28 hl (k := 2) rfl (by rw [en7]; rfl) (by decide) rfl (fun ls hl => ?_)
        refine lv_goto (tgt := 4) hx hb dX11_sumNow_31 (by decide) ?_
        have j := ih n6 n7 hm
        rw [hG] at j
        exact j H locs ls hP hD hS (lv_sub hl [2, 1, 0] rfl)
  rw [hG]
  intro H locs ls hP hD hS hl
  unfold mX11_sumNow at hm
  refine lv_lconst (v := (0 : Int64)) hx hb dX11_sumNow_0 (by decide) ?_
  refine lv_lstore_n (lv' := [(1, .long (0 : Int64)), (0, .ref (a 0))]) hx hb dX11_sumNow_1 rfl hl (by decide) rfl (fun ls hl => ?_)
  refine lv_iconst (v := (0 : Int32)) hx hb dX11_sumNow_2 (by decide) ?_
  refine lv_istore_n (lv' := [(3, .int (0 : Int32)), (1, .long (0 : Int64)), (0, .ref (a 0))]) hx hb dX11_sumNow_3 rfl hl (by decide) rfl (fun ls hl => ?_)
  have j := J4 zz_N (0 : Int64) (0 : Int32) hm
  rw [hG] at j
  exact j H locs ls hP hD hS (lv_sub hl [2, 1, 0] rfl)
def mX11_advancedNow (z : zz_M) : Option Int64 := zz_b1 (mX11_sumNow z) (fun r1 => zz_ck (zz_in (3 : Int32) 14) (zz_b1 (mX11_thousandths r1 (z.1 1 (3 : Int32).toNatClampNeg)) (fun r4 => some r4)))
theorem nX11_advancedNow_X11 : ∀ w ∈ wsX110, w ∈ wsX11_advancedNow := fun _ h => List.mem_cons_of_mem _ (List.mem_append_right _ (h))
theorem zdX11_advancedNow : yX11_advancedNow.cls = RX11 ∧ yX11_advancedNow.cls ≠ "java/lang/invoke/MethodHandle" ∧ yX11_advancedNow.cls ≠ "java/lang/invoke/VarHandle" ∧ (parseMethodDescriptor yX11_advancedNow.desc).map (fun d => d.parameters.length) = some 0 := by decide +kernel
set_option maxHeartbeats 4000000 in
set_option maxRecDepth 100000 in
theorem zX11_advancedNow (l : Launch) (D : va_G) (y : Nat → ClassId) (a : Nat → Nat) (sz : Nat) (z : zz_M) {r : Int64} (hm : mX11_advancedNow z = some r) : Met l yX11_advancedNow wsX11_advancedNow { frames := 2, cells := 0, slots := 0, locals := 44 } (zz_Pc D y (wR y a z) sz [.ref (a 0)]) (zz_Ql D y (wR y a) (va_A (wR y a z) sz) r z) 0 0 (va_A (wR y a z) sz) := by
  refine Met.ofW (cc := cX11_advancedNow) (maxL := 1) (ret := (some .long)) (by decide) rfl ?_
  intro p e s m args below meth c s₁ B hml hv
  obtain ⟨rfl, hsz, hP, hK, hD0, hN, hg⟩ := hv
  have hx := B.exec
  have hb := B.bytes
  have hr := B.returns
  have hts := atoms_spec (ws := wsX11_advancedNow) B.pre
  have hown : s.vm.findClass RX11 = some m.cls := findClass_of_methodNamed B.named
  have hlocks := B.notSynchronized
  clear B
  subst hsz
  have hD := hD0.self (sz := s.heap.size)
  generalize hAe : va_A (wR y a z) s.heap.size = A at hD hg ⊢
  have hA : ∀ q : Nat, s.heap.size ≤ q → A q := fun q h => by rw [← hAe]; exact Or.inr h
  clear hAe hD0
  have hl := lv_entry ([.ref (a 0)]) (n := 1) (Nat.le_of_ble_eq_true rfl)
  rw [lg_entry_eq]
  generalize (lg_sl ([.ref (a 0)]) ++ List.replicate (1 - (lg_sl ([.ref (a 0)])).length) Slot.unset).toArray = ls at hl ⊢
  replace hl : lv_has ls 1 [(0, .ref (a 0))] := hl
  refine zz_go (w := wR y a) hP hD va_S.rf hl (fun G hG => ?_)
  clear hP hD hl ls
  rw [hG]
  intro H locs ls hP hD hS hl
  unfold mX11_advancedNow at hm
  refine lv_aload_n hx hb dX11_advancedNow_0 rfl (lv_at hl 0 rfl) ?_
  obtain ⟨r1, h2, hm⟩ := zz_b1_some hm
  refine zz_calll (zz_runV (w := wR y a) (As := []) (rest := []) ⟨hx, hb, hml, hown, hts⟩ (zX11_sumNow l D y a H.size z h2) (cwV 0 hts gX11_advancedNow_X11_sumNow rfl rfl rfl zdX11_sumNow ⟨Nat.le_of_ble_eq_true rfl, Nat.le_of_ble_eq_true rfl⟩) hK hN hg hP hD hS hA 0 (wR_0 y a z) rfl rfl hl.1 rfl (Nat.le_of_ble_eq_true rfl) dX11_advancedNow_1 ⟨Nat.le_of_ble_eq_true rfl, Nat.le_of_ble_eq_true rfl⟩) hD hS hA (fun H locs hP hD hS => ?_)
  refine lv_aload_n hx hb dX11_advancedNow_4 rfl (lv_at hl 0 rfl) ?_
  refine va_get (D := D) (ci := 11) (v := .ref (a 1)) (C := RX11) (T := TX11) (N := 35) hx hb hts nX11_advancedNow_X11 hown hK hP 0 (wR_0 y a z) rfl 0 (by decide) (hts (.fieldLink RX11 7 "WorksDeskModel" "terms" "[I") (List.mem_of_getElem? (i := 1) rfl)) (fun _ h9 => h9) rfl dX11_advancedNow_5 ?_
  refine lv_iconst (v := (3 : Int32)) hx hb dX11_advancedNow_8 (by decide) ?_
  obtain ⟨c3, hm⟩ := zz_ck_some hm
  refine va_iald hx hb hK hP 1 0 (wR_1 y a z) rfl c3 dX11_advancedNow_9 ?_
  obtain ⟨r4, h5, hm⟩ := zz_b1_some hm
  refine zz_calll (zz_runS (w := wR y a) (As := [.long r1, .int (z.1 1 (3 : Int32).toNatClampNeg)]) (rest := []) ⟨hx, hb, hml, hown, hts⟩ (zX11_thousandths l D y a H.size r1 (z.1 1 (3 : Int32).toNatClampNeg) z h5) (va_cwS 2 hts gX11_advancedNow_X11_thousandths rfl rfl rfl zdX11_thousandths ⟨Nat.le_of_ble_eq_true rfl, Nat.le_of_ble_eq_true rfl⟩) hK hN hg hP hD hS hA rfl hl.1 rfl (Nat.le_of_ble_eq_true rfl) dX11_advancedNow_10 ⟨Nat.le_of_ble_eq_true rfl, Nat.le_of_ble_eq_true rfl⟩) hD hS hA (fun H locs hP hD hS => ?_)
  exact zz_lret hx hb hr hlocks ⟨zz_some1 hm, rfl⟩ hP hK hD hS dX11_advancedNow_13
def mX11_mostDamages (z : zz_M) : Option Int64 := zz_b1 (mX11_sumNow z) (fun r1 => zz_ck (zz_in (12 : Int32) 14) (zz_b1 (mX11_thousandths r1 (z.1 1 (12 : Int32).toNatClampNeg)) (fun r4 => some r4)))
theorem nX11_mostDamages_X11 : ∀ w ∈ wsX110, w ∈ wsX11_mostDamages := fun _ h => List.mem_cons_of_mem _ (List.mem_append_right _ (h))
theorem zdX11_mostDamages : yX11_mostDamages.cls = RX11 ∧ yX11_mostDamages.cls ≠ "java/lang/invoke/MethodHandle" ∧ yX11_mostDamages.cls ≠ "java/lang/invoke/VarHandle" ∧ (parseMethodDescriptor yX11_mostDamages.desc).map (fun d => d.parameters.length) = some 0 := by decide +kernel
set_option maxHeartbeats 4000000 in
set_option maxRecDepth 100000 in
theorem zX11_mostDamages (l : Launch) (D : va_G) (y : Nat → ClassId) (a : Nat → Nat) (sz : Nat) (z : zz_M) {r : Int64} (hm : mX11_mostDamages z = some r) : Met l yX11_mostDamages wsX11_mostDamages { frames := 2, cells := 0, slots := 0, locals := 44 } (zz_Pc D y (wR y a z) sz [.ref (a 0)]) (zz_Ql D y (wR y a) (va_A (wR y a z) sz) r z) 0 0 (va_A (wR y a z) sz) := by
  refine Met.ofW (cc := cX11_mostDamages) (maxL := 1) (ret := (some .long)) (by decide) rfl ?_
  intro p e s m args below meth c s₁ B hml hv
  obtain ⟨rfl, hsz, hP, hK, hD0, hN, hg⟩ := hv
  have hx := B.exec
  have hb := B.bytes
  have hr := B.returns
  have hts := atoms_spec (ws := wsX11_mostDamages) B.pre
  have hown : s.vm.findClass RX11 = some m.cls := findClass_of_methodNamed B.named
  have hlocks := B.notSynchronized
  clear B
  subst hsz
  have hD := hD0.self (sz := s.heap.size)
  generalize hAe : va_A (wR y a z) s.heap.size = A at hD hg ⊢
  have hA : ∀ q : Nat, s.heap.size ≤ q → A q := fun q h => by rw [← hAe]; exact Or.inr h
  clear hAe hD0
  have hl := lv_entry ([.ref (a 0)]) (n := 1) (Nat.le_of_ble_eq_true rfl)
  rw [lg_entry_eq]
  generalize (lg_sl ([.ref (a 0)]) ++ List.replicate (1 - (lg_sl ([.ref (a 0)])).length) Slot.unset).toArray = ls at hl ⊢
  replace hl : lv_has ls 1 [(0, .ref (a 0))] := hl
  refine zz_go (w := wR y a) hP hD va_S.rf hl (fun G hG => ?_)
  clear hP hD hl ls
  rw [hG]
  intro H locs ls hP hD hS hl
  unfold mX11_mostDamages at hm
  refine lv_aload_n hx hb dX11_mostDamages_0 rfl (lv_at hl 0 rfl) ?_
  obtain ⟨r1, h2, hm⟩ := zz_b1_some hm
  refine zz_calll (zz_runV (w := wR y a) (As := []) (rest := []) ⟨hx, hb, hml, hown, hts⟩ (zX11_sumNow l D y a H.size z h2) (cwV 0 hts gX11_mostDamages_X11_sumNow rfl rfl rfl zdX11_sumNow ⟨Nat.le_of_ble_eq_true rfl, Nat.le_of_ble_eq_true rfl⟩) hK hN hg hP hD hS hA 0 (wR_0 y a z) rfl rfl hl.1 rfl (Nat.le_of_ble_eq_true rfl) dX11_mostDamages_1 ⟨Nat.le_of_ble_eq_true rfl, Nat.le_of_ble_eq_true rfl⟩) hD hS hA (fun H locs hP hD hS => ?_)
  refine lv_aload_n hx hb dX11_mostDamages_4 rfl (lv_at hl 0 rfl) ?_
  refine va_get (D := D) (ci := 11) (v := .ref (a 1)) (C := RX11) (T := TX11) (N := 35) hx hb hts nX11_mostDamages_X11 hown hK hP 0 (wR_0 y a z) rfl 0 (by decide) (hts (.fieldLink RX11 7 "WorksDeskModel" "terms" "[I") (List.mem_of_getElem? (i := 1) rfl)) (fun _ h9 => h9) rfl dX11_mostDamages_5 ?_
  refine lv_bipush (v := (12 : Int32)) hx hb dX11_mostDamages_8 (by decide) ?_
  obtain ⟨c3, hm⟩ := zz_ck_some hm
  refine va_iald hx hb hK hP 1 0 (wR_1 y a z) rfl c3 dX11_mostDamages_10 ?_
  obtain ⟨r4, h5, hm⟩ := zz_b1_some hm
  refine zz_calll (zz_runS (w := wR y a) (As := [.long r1, .int (z.1 1 (12 : Int32).toNatClampNeg)]) (rest := []) ⟨hx, hb, hml, hown, hts⟩ (zX11_thousandths l D y a H.size r1 (z.1 1 (12 : Int32).toNatClampNeg) z h5) (va_cwS 2 hts gX11_mostDamages_X11_thousandths rfl rfl rfl zdX11_thousandths ⟨Nat.le_of_ble_eq_true rfl, Nat.le_of_ble_eq_true rfl⟩) hK hN hg hP hD hS hA rfl hl.1 rfl (Nat.le_of_ble_eq_true rfl) dX11_mostDamages_11 ⟨Nat.le_of_ble_eq_true rfl, Nat.le_of_ble_eq_true rfl⟩) hD hS hA (fun H locs hP hD hS => ?_)
  exact zz_lret hx hb hr hlocks ⟨zz_some1 hm, rfl⟩ hP hK hD hS dX11_mostDamages_14
def mX11_damagesBy (x1 : Int32) (x2 : Int32) (z : zz_M) : Option Int64 := if (z.2.2.1 11) = (24 : Int32) then (some (0 : Int64)) else (zz_nm (if (0 : Int32) < ((if (z.2.2.1 9) < x2 then (z.2.2.1 9) else x2) - x1) then ((if (z.2.2.1 9) < x2 then (z.2.2.1 9) else x2) - x1) else (0 : Int32)) (fun n2 => zz_b1 (mX11_mostDamages z) (fun r3 => zz_b1 (mX11_sumNow z) (fun r5 => zz_ck (zz_in (11 : Int32) 14) (zz_b1 (mX11_thousandths r5 (z.1 1 (11 : Int32).toNatClampNeg)) (fun r8 => some (if (n2.toInt64 * r8) < r3 then (n2.toInt64 * r8) else r3)))))))
theorem nX11_damagesBy_X11 : ∀ w ∈ wsX110, w ∈ wsX11_damagesBy := fun _ h => List.mem_cons_of_mem _ (List.mem_append_right _ (h))
theorem zdX11_damagesBy : yX11_damagesBy.cls = RX11 ∧ yX11_damagesBy.cls ≠ "java/lang/invoke/MethodHandle" ∧ yX11_damagesBy.cls ≠ "java/lang/invoke/VarHandle" ∧ (parseMethodDescriptor yX11_damagesBy.desc).map (fun d => d.parameters.length) = some 2 := by decide +kernel
set_option maxHeartbeats 4000000 in
set_option maxRecDepth 100000 in
theorem zX11_damagesBy (l : Launch) (D : va_G) (y : Nat → ClassId) (a : Nat → Nat) (sz : Nat) (x1 : Int32) (x2 : Int32) (z : zz_M) {r : Int64} (hm : mX11_damagesBy x1 x2 z = some r) : Met l yX11_damagesBy wsX11_damagesBy { frames := 3, cells := 0, slots := 0, locals := 64 } (zz_Pc D y (wR y a z) sz [.ref (a 0), .int x1, .int x2]) (zz_Ql D y (wR y a) (va_A (wR y a z) sz) r z) 0 0 (va_A (wR y a z) sz) := by
  refine Met.ofW (cc := cX11_damagesBy) (maxL := 4) (ret := (some .long)) (by decide) rfl ?_
  intro p e s m args below meth c s₁ B hml hv
  obtain ⟨rfl, hsz, hP, hK, hD0, hN, hg⟩ := hv
  have hx := B.exec
  have hb := B.bytes
  have hr := B.returns
  have hts := atoms_spec (ws := wsX11_damagesBy) B.pre
  have hown : s.vm.findClass RX11 = some m.cls := findClass_of_methodNamed B.named
  have hlocks := B.notSynchronized
  clear B
  subst hsz
  have hD := hD0.self (sz := s.heap.size)
  generalize hAe : va_A (wR y a z) s.heap.size = A at hD hg ⊢
  have hA : ∀ q : Nat, s.heap.size ≤ q → A q := fun q h => by rw [← hAe]; exact Or.inr h
  clear hAe hD0
  have hl := lv_entry ([.ref (a 0), .int x1, .int x2]) (n := 4) (Nat.le_of_ble_eq_true rfl)
  rw [lg_entry_eq]
  generalize (lg_sl ([.ref (a 0), .int x1, .int x2]) ++ List.replicate (4 - (lg_sl ([.ref (a 0), .int x1, .int x2])).length) Slot.unset).toArray = ls at hl ⊢
  replace hl : lv_has ls 4 [(0, .ref (a 0)), (1, .int x1), (2, .int x2)] := hl
  refine zz_go (w := wR y a) hP hD va_S.rf hl (fun G hG => ?_)
  clear hP hD hl ls
  rw [hG]
  intro H locs ls hP hD hS hl
  unfold mX11_damagesBy at hm
  refine lv_aload_n hx hb dX11_damagesBy_0 rfl (lv_at hl 0 rfl) ?_
  refine va_get (D := D) (ci := 11) (v := .int (z.2.2.1 11)) (C := RX11) (T := TX11) (N := 35) hx hb hts nX11_damagesBy_X11 hown hK hP 0 (wR_0 y a z) rfl 11 (by decide) (hts (.fieldLink RX11 91 "WorksDeskModel" "due" "I") (List.mem_of_getElem? (i := 1) rfl)) (fun _ h9 => h9) rfl dX11_damagesBy_1 ?_
  refine lv_bipush (v := (24 : Int32)) hx hb dX11_damagesBy_4 (by decide) ?_
  refine lv_icmp_ne (tgt := 11) hx hb dX11_damagesBy_6 (by decide) (fun c1 => ?_) (fun c1 => ?_)
  · replace hm := zz_neg c1 hm
    refine lv_iconst (v := (0 : Int32)) hx hb dX11_damagesBy_11 (by decide) ?_
    refine lv_iload_n hx hb dX11_damagesBy_12 rfl (lv_at hl 2 rfl) ?_
    refine lv_aload_n hx hb dX11_damagesBy_13 rfl (lv_at hl 0 rfl) ?_
    refine va_get (D := D) (ci := 11) (v := .int (z.2.2.1 9)) (C := RX11) (T := TX11) (N := 35) hx hb hts nX11_damagesBy_X11 hown hK hP 0 (wR_0 y a z) rfl 9 (by decide) (hts (.fieldLink RX11 85 "WorksDeskModel" "handover" "I") (List.mem_of_getElem? (i := 2) rfl)) (fun _ h9 => h9) rfl dX11_damagesBy_14 ?_
    refine va_mmin hx hb (hml.trans hl.1.symm) hown (hts (.methodLink RX11 265 Lib.Math.min.name) (List.mem_of_getElem? (i := 3) rfl)) (hts (.static Lib.Math.min.name) (List.mem_of_getElem? (i := 4) rfl)) (hts (.initialized "java/lang/Math") (List.mem_of_getElem? (i := 5) rfl)) (hts (.code Lib.Math.min.name Lib.Math.min.code 2 (some .int)) (List.mem_of_getElem? (i := 6) rfl)) (Nat.le_of_ble_eq_true rfl) (Nat.le_of_ble_eq_true rfl) (Nat.le_of_ble_eq_true rfl) (Nat.le_of_ble_eq_true rfl) dX11_damagesBy_17 ?_
    refine lv_iload_n hx hb dX11_damagesBy_20 rfl (lv_at hl 1 rfl) ?_
    refine lv_isub hx hb dX11_damagesBy_21 ?_
    refine va_mmax hx hb (hml.trans hl.1.symm) hown (hts (.methodLink RX11 227 Lib.Math.max.name) (List.mem_of_getElem? (i := 7) rfl)) (hts (.static Lib.Math.max.name) (List.mem_of_getElem? (i := 8) rfl)) (hts (.initialized "java/lang/Math") (List.mem_of_getElem? (i := 5) rfl)) (hts (.code Lib.Math.max.name Lib.Math.max.code 2 (some .int)) (List.mem_of_getElem? (i := 9) rfl)) (Nat.le_of_ble_eq_true rfl) (Nat.le_of_ble_eq_true rfl) (Nat.le_of_ble_eq_true rfl) (Nat.le_of_ble_eq_true rfl) dX11_damagesBy_22 ?_
    refine lv_topi (fun n2 en2 => ?_)
    replace hm := zz_nm_some en2 hm
    refine lv_istore_n (lv' := [(3, .int n2), (0, .ref (a 0)), (1, .int x1), (2, .int x2)]) hx hb dX11_damagesBy_25 rfl hl (by decide) rfl (fun ls hl => ?_)
    refine lv_aload_n hx hb dX11_damagesBy_26 rfl (lv_at hl 1 rfl) ?_
    obtain ⟨r3, h4, hm⟩ := zz_b1_some hm
    refine zz_calll (zz_runV (w := wR y a) (As := []) (rest := []) ⟨hx, hb, hml, hown, hts⟩ (zX11_mostDamages l D y a H.size z h4) (cwV 0 hts gX11_damagesBy_X11_mostDamages rfl rfl rfl zdX11_mostDamages ⟨Nat.le_of_ble_eq_true rfl, Nat.le_of_ble_eq_true rfl⟩) hK hN hg hP hD hS hA 0 (wR_0 y a z) rfl rfl hl.1 rfl (Nat.le_of_ble_eq_true rfl) dX11_damagesBy_27 ⟨Nat.le_of_ble_eq_true rfl, Nat.le_of_ble_eq_true rfl⟩) hD hS hA (fun H locs hP hD hS => ?_)
    refine lv_iload_n hx hb dX11_damagesBy_30 rfl (lv_at hl 0 rfl) ?_
    refine lv_i2l hx hb dX11_damagesBy_31 rfl ?_
    refine lv_aload_n hx hb dX11_damagesBy_32 rfl (lv_at hl 1 rfl) ?_
    obtain ⟨r5, h6, hm⟩ := zz_b1_some hm
    refine zz_calll (zz_runV (w := wR y a) (As := []) (rest := [.long n2.toInt64, .long r3]) ⟨hx, hb, hml, hown, hts⟩ (zX11_sumNow l D y a H.size z h6) (cwV 0 hts gX11_damagesBy_X11_sumNow rfl rfl rfl zdX11_sumNow ⟨Nat.le_of_ble_eq_true rfl, Nat.le_of_ble_eq_true rfl⟩) hK hN hg hP hD hS hA 0 (wR_0 y a z) rfl rfl hl.1 rfl (Nat.le_of_ble_eq_true rfl) dX11_damagesBy_33 ⟨Nat.le_of_ble_eq_true rfl, Nat.le_of_ble_eq_true rfl⟩) hD hS hA (fun H locs hP hD hS => ?_)
    refine lv_aload_n hx hb dX11_damagesBy_36 rfl (lv_at hl 1 rfl) ?_
    refine va_get (D := D) (ci := 11) (v := .ref (a 1)) (C := RX11) (T := TX11) (N := 35) hx hb hts nX11_damagesBy_X11 hown hK hP 0 (wR_0 y a z) rfl 0 (by decide) (hts (.fieldLink RX11 7 "WorksDeskModel" "terms" "[I") (List.mem_of_getElem? (i := 10) rfl)) (fun _ h9 => h9) rfl dX11_damagesBy_37 ?_
    refine lv_bipush (v := (11 : Int32)) hx hb dX11_damagesBy_40 (by decide) ?_
    obtain ⟨c7, hm⟩ := zz_ck_some hm
    refine va_iald hx hb hK hP 1 0 (wR_1 y a z) rfl c7 dX11_damagesBy_42 ?_
    obtain ⟨r8, h9, hm⟩ := zz_b1_some hm
    refine zz_calll (zz_runS (w := wR y a) (As := [.long r5, .int (z.1 1 (11 : Int32).toNatClampNeg)]) (rest := [.long n2.toInt64, .long r3]) ⟨hx, hb, hml, hown, hts⟩ (zX11_thousandths l D y a H.size r5 (z.1 1 (11 : Int32).toNatClampNeg) z h9) (va_cwS 2 hts gX11_damagesBy_X11_thousandths rfl rfl rfl zdX11_thousandths ⟨Nat.le_of_ble_eq_true rfl, Nat.le_of_ble_eq_true rfl⟩) hK hN hg hP hD hS hA rfl hl.1 rfl (Nat.le_of_ble_eq_true rfl) dX11_damagesBy_43 ⟨Nat.le_of_ble_eq_true rfl, Nat.le_of_ble_eq_true rfl⟩) hD hS hA (fun H locs hP hD hS => ?_)
    refine lv_lmul hx hb dX11_damagesBy_46 ?_
    refine va_mmin_long hx hb (hml.trans hl.1.symm) hown (hts (.methodLink RX11 262 Lib.MathLoose.min_long.x) (List.mem_of_getElem? (i := 11) rfl)) (hts (.static Lib.MathLoose.min_long.x) (List.mem_of_getElem? (i := 12) rfl)) (hts (.initialized "java/lang/Math") (List.mem_of_getElem? (i := 5) rfl)) (hts (.code Lib.MathLoose.min_long.x Lib.MathLoose.min_long.code 4 (some .long)) (List.mem_of_getElem? (i := 13) rfl)) (Nat.le_of_ble_eq_true rfl) (Nat.le_of_ble_eq_true rfl) (Nat.le_of_ble_eq_true rfl) (Nat.le_of_ble_eq_true rfl) dX11_damagesBy_47 ?_
    exact zz_lret hx hb hr hlocks ⟨zz_some1 hm, rfl⟩ hP hK hD hS dX11_damagesBy_50
  · replace hm := zz_pos c1 hm
    refine lv_lconst (v := (0 : Int64)) hx hb dX11_damagesBy_9 (by decide) ?_
    exact zz_lret hx hb hr hlocks ⟨zz_some1 hm, rfl⟩ hP hK hD hS dX11_damagesBy_10
def mX11_damagesIn (x1 : Int32) (z : zz_M) : Option Int64 := zz_b1 (mX11_damagesBy ((z.2.2.1 11) + (z.2.2.1 12)) x1 z) (fun r1 => some r1)
theorem nX11_damagesIn_X11 : ∀ w ∈ wsX110, w ∈ wsX11_damagesIn := fun _ h => List.mem_cons_of_mem _ (List.mem_append_right _ (h))
theorem zdX11_damagesIn : yX11_damagesIn.cls = RX11 ∧ yX11_damagesIn.cls ≠ "java/lang/invoke/MethodHandle" ∧ yX11_damagesIn.cls ≠ "java/lang/invoke/VarHandle" ∧ (parseMethodDescriptor yX11_damagesIn.desc).map (fun d => d.parameters.length) = some 1 := by decide +kernel
set_option maxHeartbeats 4000000 in
set_option maxRecDepth 100000 in
theorem zX11_damagesIn (l : Launch) (D : va_G) (y : Nat → ClassId) (a : Nat → Nat) (sz : Nat) (x1 : Int32) (z : zz_M) {r : Int64} (hm : mX11_damagesIn x1 z = some r) : Met l yX11_damagesIn wsX11_damagesIn { frames := 4, cells := 0, slots := 0, locals := 87 } (zz_Pc D y (wR y a z) sz [.ref (a 0), .int x1]) (zz_Ql D y (wR y a) (va_A (wR y a z) sz) r z) 0 0 (va_A (wR y a z) sz) := by
  refine Met.ofW (cc := cX11_damagesIn) (maxL := 2) (ret := (some .long)) (by decide) rfl ?_
  intro p e s m args below meth c s₁ B hml hv
  obtain ⟨rfl, hsz, hP, hK, hD0, hN, hg⟩ := hv
  have hx := B.exec
  have hb := B.bytes
  have hr := B.returns
  have hts := atoms_spec (ws := wsX11_damagesIn) B.pre
  have hown : s.vm.findClass RX11 = some m.cls := findClass_of_methodNamed B.named
  have hlocks := B.notSynchronized
  clear B
  subst hsz
  have hD := hD0.self (sz := s.heap.size)
  generalize hAe : va_A (wR y a z) s.heap.size = A at hD hg ⊢
  have hA : ∀ q : Nat, s.heap.size ≤ q → A q := fun q h => by rw [← hAe]; exact Or.inr h
  clear hAe hD0
  have hl := lv_entry ([.ref (a 0), .int x1]) (n := 2) (Nat.le_of_ble_eq_true rfl)
  rw [lg_entry_eq]
  generalize (lg_sl ([.ref (a 0), .int x1]) ++ List.replicate (2 - (lg_sl ([.ref (a 0), .int x1])).length) Slot.unset).toArray = ls at hl ⊢
  replace hl : lv_has ls 2 [(0, .ref (a 0)), (1, .int x1)] := hl
  refine zz_go (w := wR y a) hP hD va_S.rf hl (fun G hG => ?_)
  clear hP hD hl ls
  rw [hG]
  intro H locs ls hP hD hS hl
  unfold mX11_damagesIn at hm
  refine lv_aload_n hx hb dX11_damagesIn_0 rfl (lv_at hl 0 rfl) ?_
  refine lv_aload_n hx hb dX11_damagesIn_1 rfl (lv_at hl 0 rfl) ?_
  refine va_get (D := D) (ci := 11) (v := .int (z.2.2.1 11)) (C := RX11) (T := TX11) (N := 35) hx hb hts nX11_damagesIn_X11 hown hK hP 0 (wR_0 y a z) rfl 11 (by decide) (hts (.fieldLink RX11 91 "WorksDeskModel" "due" "I") (List.mem_of_getElem? (i := 1) rfl)) (fun _ h9 => h9) rfl dX11_damagesIn_2 ?_
  refine lv_aload_n hx hb dX11_damagesIn_5 rfl (lv_at hl 0 rfl) ?_
  refine va_get (D := D) (ci := 11) (v := .int (z.2.2.1 12)) (C := RX11) (T := TX11) (N := 35) hx hb hts nX11_damagesIn_X11 hown hK hP 0 (wR_0 y a z) rfl 12 (by decide) (hts (.fieldLink RX11 94 "WorksDeskModel" "granted" "I") (List.mem_of_getElem? (i := 2) rfl)) (fun _ h9 => h9) rfl dX11_damagesIn_6 ?_
  refine lv_iadd hx hb dX11_damagesIn_9 ?_
  refine lv_iload_n hx hb dX11_damagesIn_10 rfl (lv_at hl 1 rfl) ?_
  obtain ⟨r1, h2, hm⟩ := zz_b1_some hm
  refine zz_calll (zz_runV (w := wR y a) (As := [.int ((z.2.2.1 11) + (z.2.2.1 12)), .int x1]) (rest := []) ⟨hx, hb, hml, hown, hts⟩ (zX11_damagesBy l D y a H.size ((z.2.2.1 11) + (z.2.2.1 12)) x1 z h2) (cwV 2 hts gX11_damagesIn_X11_damagesBy rfl rfl rfl zdX11_damagesBy ⟨Nat.le_of_ble_eq_true rfl, Nat.le_of_ble_eq_true rfl⟩) hK hN hg hP hD hS hA 0 (wR_0 y a z) rfl rfl hl.1 rfl (Nat.le_of_ble_eq_true rfl) dX11_damagesIn_11 ⟨Nat.le_of_ble_eq_true rfl, Nat.le_of_ble_eq_true rfl⟩) hD hS hA (fun H locs hP hD hS => ?_)
  exact zz_lret hx hb hr hlocks ⟨zz_some1 hm, rfl⟩ hP hK hD hS dX11_damagesIn_14
def mX11_indexIn_b2 (z : zz_M) : Nat → Int32 → Option Int32
  | 0, _ => none
  | n + 1, v2 => if v2 < (0 : Int32) then (some (1000 : Int32)) else (zz_ck (zz_in v2 24) (if (z.1 7 v2.toNatClampNeg) = (-9999 : Int32) then (zz_nm (v2 + (-1 : Int32)) (fun n4 => (mX11_indexIn_b2 z n) n4)) else (zz_ck (zz_in v2 24) (some (z.1 7 v2.toNatClampNeg)))))
def mX11_indexIn (x1 : Int32) (z : zz_M) : Option Int32 := mX11_indexIn_b2 z zz_N x1
theorem nX11_indexIn_X11 : ∀ w ∈ wsX110, w ∈ wsX11_indexIn := fun _ h => List.mem_cons_of_mem _ (List.mem_append_right _ (h))
theorem zdX11_indexIn : yX11_indexIn.cls = RX11 ∧ yX11_indexIn.cls ≠ "java/lang/invoke/MethodHandle" ∧ yX11_indexIn.cls ≠ "java/lang/invoke/VarHandle" ∧ (parseMethodDescriptor yX11_indexIn.desc).map (fun d => d.parameters.length) = some 1 := by decide +kernel
set_option maxHeartbeats 4000000 in
set_option maxRecDepth 100000 in
theorem zX11_indexIn (l : Launch) (D : va_G) (y : Nat → ClassId) (a : Nat → Nat) (sz : Nat) (x1 : Int32) (z : zz_M) {r : Int32} (hm : mX11_indexIn x1 z = some r) : Met l yX11_indexIn wsX11_indexIn { frames := 0, cells := 0, slots := 0, locals := 0 } (zz_Pc D y (wR y a z) sz [.ref (a 0), .int x1]) (zz_Qi D y (wR y a) (va_A (wR y a z) sz) r z) 0 0 (va_A (wR y a z) sz) := by
  refine Met.ofW (cc := cX11_indexIn) (maxL := 3) (ret := (some .int)) (by decide) rfl ?_
  intro p e s m args below meth c s₁ B hml hv
  obtain ⟨rfl, hsz, hP, hK, hD0, hN, hg⟩ := hv
  have hx := B.exec
  have hb := B.bytes
  have hr := B.returns
  have hts := atoms_spec (ws := wsX11_indexIn) B.pre
  have hown : s.vm.findClass RX11 = some m.cls := findClass_of_methodNamed B.named
  have hlocks := B.notSynchronized
  clear B
  subst hsz
  have hD := hD0.self (sz := s.heap.size)
  generalize hAe : va_A (wR y a z) s.heap.size = A at hD hg ⊢
  have hA : ∀ q : Nat, s.heap.size ≤ q → A q := fun q h => by rw [← hAe]; exact Or.inr h
  clear hAe hD0
  have hl := lv_entry ([.ref (a 0), .int x1]) (n := 3) (Nat.le_of_ble_eq_true rfl)
  rw [lg_entry_eq]
  generalize (lg_sl ([.ref (a 0), .int x1]) ++ List.replicate (3 - (lg_sl ([.ref (a 0), .int x1])).length) Slot.unset).toArray = ls at hl ⊢
  replace hl : lv_has ls 3 [(0, .ref (a 0)), (1, .int x1)] := hl
  refine zz_go (w := wR y a) hP hD va_S.rf hl (fun G hG => ?_)
  clear hP hD hl ls
  have J2 : ∀ (n : Nat) (v2 : Int32), mX11_indexIn_b2 z n v2 = some r → G 2 [(0, .ref (a 0)), (2, .int v2)] [] z := by
    intro n
    induction n with
    | zero =>
      intro v2 hm
      exact zz_none hm
    | succ n ih =>
      intro v2 hm
      rw [mX11_indexIn_b2] at hm
      rw [hG]
      intro H locs ls hP hD hS hl
      refine lv_iload_n hx hb dX11_indexIn_2 rfl (lv_at hl 1 rfl) ?_
      refine lv_if_lt (tgt := 31) hx hb dX11_indexIn_3 (by decide) (fun c1 => ?_) (fun c1 => ?_)
      · replace hm := zz_pos c1 hm
        refine lv_sipush (v := (1000 : Int32)) hx hb dX11_indexIn_31 (by decide) ?_
        exact zz_iret hx hb hr hlocks ⟨zz_some1 hm, rfl⟩ hP hK hD hS dX11_indexIn_34
      · replace hm := zz_neg c1 hm
        refine lv_aload_n hx hb dX11_indexIn_6 rfl (lv_at hl 0 rfl) ?_
        refine va_get (D := D) (ci := 11) (v := .ref (a 7)) (C := RX11) (T := TX11) (N := 35) hx hb hts nX11_indexIn_X11 hown hK hP 0 (wR_0 y a z) rfl 13 (by decide) (hts (.fieldLink RX11 28 "WorksDeskModel" "index" "[I") (List.mem_of_getElem? (i := 1) rfl)) (fun _ h9 => h9) rfl dX11_indexIn_7 ?_
        refine lv_iload_n hx hb dX11_indexIn_10 rfl (lv_at hl 1 rfl) ?_
        obtain ⟨c2, hm⟩ := zz_ck_some hm
        refine va_iald hx hb hK hP 7 0 (wR_7 y a z) rfl c2 dX11_indexIn_11 ?_
        refine lv_sipush (v := (-9999 : Int32)) hx hb dX11_indexIn_12 (by decide) ?_
        refine lv_icmp_eq (tgt := 25) hx hb dX11_indexIn_15 (by decide) (fun c3 => ?_) (fun c3 => ?_)
        · replace hm := zz_pos c3 hm
          obtain ⟨n4, en4⟩ : ∃ q : Int32, q = v2 + (-1 : Int32) := ⟨_, rfl⟩
          replace hm := zz_nm_some en4 hm
          refine lv_iinc (v := n4) (lv' := [(2, .int n4), (0, .ref (a 0))]) hx hb dX11_indexIn_25 hl (k := 1) rfl (by rw [en4]; rfl) (by decide) rfl (fun ls hl => ?_)
          refine lv_goto (tgt := 2) hx hb dX11_indexIn_28 (by decide) ?_
          have j := ih n4 hm
          rw [hG] at j
          exact j H locs ls hP hD hS (lv_sub hl [1, 0] rfl)
        · replace hm := zz_neg c3 hm
          refine lv_aload_n hx hb dX11_indexIn_18 rfl (lv_at hl 0 rfl) ?_
          refine va_get (D := D) (ci := 11) (v := .ref (a 7)) (C := RX11) (T := TX11) (N := 35) hx hb hts nX11_indexIn_X11 hown hK hP 0 (wR_0 y a z) rfl 13 (by decide) (hts (.fieldLink RX11 28 "WorksDeskModel" "index" "[I") (List.mem_of_getElem? (i := 1) rfl)) (fun _ h9 => h9) rfl dX11_indexIn_19 ?_
          refine lv_iload_n hx hb dX11_indexIn_22 rfl (lv_at hl 1 rfl) ?_
          obtain ⟨c5, hm⟩ := zz_ck_some hm
          refine va_iald hx hb hK hP 7 0 (wR_7 y a z) rfl c5 dX11_indexIn_23 ?_
          exact zz_iret hx hb hr hlocks ⟨zz_some1 hm, rfl⟩ hP hK hD hS dX11_indexIn_24
  rw [hG]
  intro H locs ls hP hD hS hl
  unfold mX11_indexIn at hm
  refine lv_iload_n hx hb dX11_indexIn_0 rfl (lv_at hl 1 rfl) ?_
  refine lv_istore_n (lv' := [(2, .int x1), (0, .ref (a 0)), (1, .int x1)]) hx hb dX11_indexIn_1 rfl hl (by decide) rfl (fun ls hl => ?_)
  have j := J2 zz_N x1 hm
  rw [hG] at j
  exact j H locs ls hP hD hS (lv_sub hl [1, 0] rfl)
def mX11_paidTill_b5 (z : zz_M) : Nat → Int32 → Int64 → Int32 → Option Int64
  | 0, _, _, _ => none
  | n + 1, v1, v2, v4 => if v1 < v4 then (some v2) else (zz_ck (zz_in v4 24) (zz_nm (v2 + ((z.1 8 v4.toNatClampNeg).toInt64)) (fun n3 => zz_nm (v4 + (1 : Int32)) (fun n4 => (mX11_paidTill_b5 z n) v1 n3 n4))))
def mX11_paidTill (x1 : Int32) (z : zz_M) : Option Int64 := mX11_paidTill_b5 z zz_N x1 (0 : Int64) (0 : Int32)
theorem nX11_paidTill_X11 : ∀ w ∈ wsX110, w ∈ wsX11_paidTill := fun _ h => List.mem_cons_of_mem _ (List.mem_append_right _ (h))
theorem zdX11_paidTill : yX11_paidTill.cls = RX11 ∧ yX11_paidTill.cls ≠ "java/lang/invoke/MethodHandle" ∧ yX11_paidTill.cls ≠ "java/lang/invoke/VarHandle" ∧ (parseMethodDescriptor yX11_paidTill.desc).map (fun d => d.parameters.length) = some 1 := by decide +kernel
set_option maxHeartbeats 4000000 in
set_option maxRecDepth 100000 in
theorem zX11_paidTill (l : Launch) (D : va_G) (y : Nat → ClassId) (a : Nat → Nat) (sz : Nat) (x1 : Int32) (z : zz_M) {r : Int64} (hm : mX11_paidTill x1 z = some r) : Met l yX11_paidTill wsX11_paidTill { frames := 0, cells := 0, slots := 0, locals := 0 } (zz_Pc D y (wR y a z) sz [.ref (a 0), .int x1]) (zz_Ql D y (wR y a) (va_A (wR y a z) sz) r z) 0 0 (va_A (wR y a z) sz) := by
  refine Met.ofW (cc := cX11_paidTill) (maxL := 5) (ret := (some .long)) (by decide) rfl ?_
  intro p e s m args below meth c s₁ B hml hv
  obtain ⟨rfl, hsz, hP, hK, hD0, hN, hg⟩ := hv
  have hx := B.exec
  have hb := B.bytes
  have hr := B.returns
  have hts := atoms_spec (ws := wsX11_paidTill) B.pre
  have hown : s.vm.findClass RX11 = some m.cls := findClass_of_methodNamed B.named
  have hlocks := B.notSynchronized
  clear B
  subst hsz
  have hD := hD0.self (sz := s.heap.size)
  generalize hAe : va_A (wR y a z) s.heap.size = A at hD hg ⊢
  have hA : ∀ q : Nat, s.heap.size ≤ q → A q := fun q h => by rw [← hAe]; exact Or.inr h
  clear hAe hD0
  have hl := lv_entry ([.ref (a 0), .int x1]) (n := 5) (Nat.le_of_ble_eq_true rfl)
  rw [lg_entry_eq]
  generalize (lg_sl ([.ref (a 0), .int x1]) ++ List.replicate (5 - (lg_sl ([.ref (a 0), .int x1])).length) Slot.unset).toArray = ls at hl ⊢
  replace hl : lv_has ls 5 [(0, .ref (a 0)), (1, .int x1)] := hl
  refine zz_go (w := wR y a) hP hD va_S.rf hl (fun G hG => ?_)
  clear hP hD hl ls
  have J5 : ∀ (n : Nat) (v1 : Int32) (v2 : Int64) (v4 : Int32), mX11_paidTill_b5 z n v1 v2 v4 = some r → G 5 [(0, .ref (a 0)), (1, .int v1), (2, .long v2), (4, .int v4)] [] z := by
    intro n
    induction n with
    | zero =>
      intro v1 v2 v4 hm
      exact zz_none hm
    | succ n ih =>
      intro v1 v2 v4 hm
      rw [mX11_paidTill_b5] at hm
      rw [hG]
      intro H locs ls hP hD hS hl
      refine lv_iload hx hb dX11_paidTill_5 (lv_at hl 3 rfl) ?_
      refine lv_iload_n hx hb dX11_paidTill_7 rfl (lv_at hl 1 rfl) ?_
      refine lv_icmp_gt (tgt := 28) hx hb dX11_paidTill_8 (by decide) (fun c1 => ?_) (fun c1 => ?_)
      · replace hm := zz_pos c1 hm
        refine lv_lload_n hx hb dX11_paidTill_28 rfl (lv_at hl 2 rfl) ?_
        exact zz_lret hx hb hr hlocks ⟨zz_some1 hm, rfl⟩ hP hK hD hS dX11_paidTill_29
      · replace hm := zz_neg c1 hm
        refine lv_lload_n hx hb dX11_paidTill_11 rfl (lv_at hl 2 rfl) ?_
        refine lv_aload_n hx hb dX11_paidTill_12 rfl (lv_at hl 0 rfl) ?_
        refine va_get (D := D) (ci := 11) (v := .ref (a 8)) (C := RX11) (T := TX11) (N := 35) hx hb hts nX11_paidTill_X11 hown hK hP 0 (wR_0 y a z) rfl 14 (by decide) (hts (.fieldLink RX11 31 "WorksDeskModel" "paid" "[I") (List.mem_of_getElem? (i := 1) rfl)) (fun _ h9 => h9) rfl dX11_paidTill_13 ?_
        refine lv_iload hx hb dX11_paidTill_16 (lv_at hl 3 rfl) ?_
        obtain ⟨c2, hm⟩ := zz_ck_some hm
        refine va_iald hx hb hK hP 8 0 (wR_8 y a z) rfl c2 dX11_paidTill_18 ?_
        refine lv_i2l hx hb dX11_paidTill_19 rfl ?_
        refine lv_ladd hx hb dX11_paidTill_20 ?_
        refine lv_topl (fun n3 en3 => ?_)
        replace hm := zz_nm_some en3 hm
        refine lv_lstore_n (lv' := [(2, .long n3), (0, .ref (a 0)), (1, .int v1), (4, .int v4)]) hx hb dX11_paidTill_21 rfl hl (by decide) rfl (fun ls hl => ?_)
        obtain ⟨n4, en4⟩ : ∃ q : Int32, q = v4 + (1 : Int32) := ⟨_, rfl⟩
        replace hm := zz_nm_some en4 hm
        refine lv_iinc (v := n4) (lv' := [(4, .int n4), (2, .long n3), (0, .ref (a 0)), (1, .int v1)]) hx hb dX11_paidTill_22 hl (k := 3) rfl (by rw [en4]; rfl) (by decide) rfl (fun ls hl => ?_)
        refine lv_goto (tgt := 5) hx hb dX11_paidTill_25 (by decide) ?_
        have j := ih v1 n3 n4 hm
        rw [hG] at j
        exact j H locs ls hP hD hS (lv_sub hl [2, 3, 1, 0] rfl)
  rw [hG]
  intro H locs ls hP hD hS hl
  unfold mX11_paidTill at hm
  refine lv_lconst (v := (0 : Int64)) hx hb dX11_paidTill_0 (by decide) ?_
  refine lv_lstore_n (lv' := [(2, .long (0 : Int64)), (0, .ref (a 0)), (1, .int x1)]) hx hb dX11_paidTill_1 rfl hl (by decide) rfl (fun ls hl => ?_)
  refine lv_iconst (v := (0 : Int32)) hx hb dX11_paidTill_2 (by decide) ?_
  refine lv_istore (lv' := [(4, .int (0 : Int32)), (2, .long (0 : Int64)), (0, .ref (a 0)), (1, .int x1)]) hx hb dX11_paidTill_3 hl (by decide) rfl (fun ls hl => ?_)
  have j := J5 zz_N x1 (0 : Int64) (0 : Int32) hm
  rw [hG] at j
  exact j H locs ls hP hD hS (lv_sub hl [2, 3, 1, 0] rfl)
def mX11_layOwed_b37 (k2 : Int32 → zz_M → Option (Unit × zz_M)) (v1 : Int32) (t0 : Int64) (z : zz_M) : Option (Unit × zz_M) := zz_b1 (mX11_paidTill v1 z) (fun r1 => zz_ck (zz_in v1 24) (zz_nm (zz_wJ z 17 v1 (if (t0 - r1) < (0 : Int64) then (0 : Int64) else (t0 - r1))) (fun z4 => zz_ck (zz_in v1 24) (zz_ck (zz_in (7 : Int32) 14) (zz_b1 (mX11_thousandths (z4.2.1 17 v1.toNatClampNeg) (z4.1 1 (7 : Int32).toNatClampNeg)) (fun r7 => zz_ck (zz_in v1 24) (zz_nm (zz_wJ z4 18 v1 r7) (fun z10 => zz_nm (v1 + (1 : Int32)) (fun n11 => k2 n11 z10)))))))))
def mX11_layOwed_b2 : Nat → Int32 → zz_M → Option (Unit × zz_M)
  | 0, _, _ => none
  | n + 1, v1, z => if (24 : Int32) ≤ v1 then (some ((), z)) else (zz_ck (zz_in (8 : Int32) 14) (if v1 < (z.1 1 (8 : Int32).toNatClampNeg) then (mX11_layOwed_b37 (mX11_layOwed_b2 n) v1 (0 : Int64) z) else (zz_ck (zz_in (8 : Int32) 14) (zz_ck (zz_in (v1 - (z.1 1 (8 : Int32).toNatClampNeg)) 24) (mX11_layOwed_b37 (mX11_layOwed_b2 n) v1 (z.2.1 16 (v1 - (z.1 1 (8 : Int32).toNatClampNeg)).toNatClampNeg) z)))))
def mX11_layOwed (z : zz_M) : Option (Unit × zz_M) := mX11_layOwed_b2 zz_N (0 : Int32) z
theorem nX11_layOwed_X11 : ∀ w ∈ wsX110, w ∈ wsX11_layOwed := fun _ h => List.mem_cons_of_mem _ (List.mem_append_right _ (h))
theorem zdX11_layOwed : yX11_layOwed.cls = RX11 ∧ yX11_layOwed.cls ≠ "java/lang/invoke/MethodHandle" ∧ yX11_layOwed.cls ≠ "java/lang/invoke/VarHandle" ∧ (parseMethodDescriptor yX11_layOwed.desc).map (fun d => d.parameters.length) = some 0 := by decide +kernel
set_option maxHeartbeats 4000000 in
set_option maxRecDepth 100000 in
theorem zX11_layOwed (l : Launch) (D : va_G) (y : Nat → ClassId) (a : Nat → Nat) (sz : Nat) (z : zz_M) {r : Unit} {zt : zz_M} (hm : mX11_layOwed z = some (r, zt)) : Met l yX11_layOwed wsX11_layOwed { frames := 1, cells := 0, slots := 0, locals := 24 } (zz_Pc D y (wR y a z) sz [.ref (a 0)]) (zz_Qv D y (wR y a) (va_A (wR y a z) sz) zt) 0 0 (va_A (wR y a z) sz) := by
  refine Met.ofW (cc := cX11_layOwed) (maxL := 4) (ret := none) (by decide) rfl ?_
  intro p e s m args below meth c s₁ B hml hv
  obtain ⟨rfl, hsz, hP, hK, hD0, hN, hg⟩ := hv
  have hx := B.exec
  have hb := B.bytes
  have hr := B.returns
  have hts := atoms_spec (ws := wsX11_layOwed) B.pre
  have hown : s.vm.findClass RX11 = some m.cls := findClass_of_methodNamed B.named
  have hlocks := B.notSynchronized
  clear B
  subst hsz
  have hD := hD0.self (sz := s.heap.size)
  generalize hAe : va_A (wR y a z) s.heap.size = A at hD hg ⊢
  have hA : ∀ q : Nat, s.heap.size ≤ q → A q := fun q h => by rw [← hAe]; exact Or.inr h
  clear hAe hD0
  have hl := lv_entry ([.ref (a 0)]) (n := 4) (Nat.le_of_ble_eq_true rfl)
  rw [lg_entry_eq]
  generalize (lg_sl ([.ref (a 0)]) ++ List.replicate (4 - (lg_sl ([.ref (a 0)])).length) Slot.unset).toArray = ls at hl ⊢
  replace hl : lv_has ls 4 [(0, .ref (a 0))] := hl
  refine zz_go (w := wR y a) hP hD va_S.rf hl (fun G hG => ?_)
  clear hP hD hl ls
  have J37 : ∀ (k2 : Int32 → zz_M → Option (Unit × zz_M)) (K2 : ∀ (v1 : Int32) (z : zz_M), k2 v1 z = some (r, zt) → G 2 [(0, .ref (a 0)), (1, .int v1)] [] z) (v1 : Int32) (t0 : Int64) (z : zz_M), mX11_layOwed_b37 k2 v1 t0 z = some (r, zt) → G 37 [(0, .ref (a 0)), (1, .int v1)] [.long t0] z := by
    intro k2 K2 v1 t0 z hm
    rw [mX11_layOwed_b37] at hm
    rw [hG]
    intro H locs ls hP hD hS hl
    refine lv_lstore_n (lv' := [(2, .long t0), (0, .ref (a 0)), (1, .int v1)]) hx hb dX11_layOwed_37 rfl hl (by decide) rfl (fun ls hl => ?_)
    refine lv_aload_n hx hb dX11_layOwed_38 rfl (lv_at hl 1 rfl) ?_
    refine va_get (D := D) (ci := 11) (v := .ref (a 17)) (C := RX11) (T := TX11) (N := 35) hx hb hts nX11_layOwed_X11 hown hK hP 0 (wR_0 y a z) rfl 29 (by decide) (hts (.fieldLink RX11 60 "WorksDeskModel" "owed" "[J") (List.mem_of_getElem? (i := 3) rfl)) (fun _ h9 => h9) rfl dX11_layOwed_39 ?_
    refine lv_iload_n hx hb dX11_layOwed_42 rfl (lv_at hl 2 rfl) ?_
    refine lv_lconst (v := (0 : Int64)) hx hb dX11_layOwed_43 (by decide) ?_
    refine lv_lload_n hx hb dX11_layOwed_44 rfl (lv_at hl 0 rfl) ?_
    refine lv_aload_n hx hb dX11_layOwed_45 rfl (lv_at hl 1 rfl) ?_
    refine lv_iload_n hx hb dX11_layOwed_46 rfl (lv_at hl 2 rfl) ?_
    obtain ⟨r1, h2, hm⟩ := zz_b1_some hm
    refine zz_calll (zz_runV (w := wR y a) (As := [.int v1]) (rest := [.long t0, .long (0 : Int64), .int v1, .ref (a 17)]) ⟨hx, hb, hml, hown, hts⟩ (zX11_paidTill l D y a H.size v1 z h2) (cwV 1 hts gX11_layOwed_X11_paidTill rfl rfl rfl zdX11_paidTill ⟨Nat.le_of_ble_eq_true rfl, Nat.le_of_ble_eq_true rfl⟩) hK hN hg hP hD hS hA 0 (wR_0 y a z) rfl rfl hl.1 rfl (Nat.le_of_ble_eq_true rfl) dX11_layOwed_47 ⟨Nat.le_of_ble_eq_true rfl, Nat.le_of_ble_eq_true rfl⟩) hD hS hA (fun H locs hP hD hS => ?_)
    refine lv_lsub hx hb dX11_layOwed_50 ?_
    refine va_mmax_long hx hb (hml.trans hl.1.symm) hown (hts (.methodLink RX11 259 Lib.MathLoose.max_long.x) (List.mem_of_getElem? (i := 4) rfl)) (hts (.static Lib.MathLoose.max_long.x) (List.mem_of_getElem? (i := 5) rfl)) (hts (.initialized "java/lang/Math") (List.mem_of_getElem? (i := 6) rfl)) (hts (.code Lib.MathLoose.max_long.x Lib.MathLoose.max_long.code 4 (some .long)) (List.mem_of_getElem? (i := 7) rfl)) (Nat.le_of_ble_eq_true rfl) (Nat.le_of_ble_eq_true rfl) (Nat.le_of_ble_eq_true rfl) (Nat.le_of_ble_eq_true rfl) dX11_layOwed_51 ?_
    obtain ⟨c3, hm⟩ := zz_ck_some hm
    refine va_last hx hb hK hP hD hS 17 1 (wR_17 y a z) rfl c3 dX11_layOwed_54 (fun H locs hP hD hS => ?_)
    obtain ⟨z4, hP, hD, hm⟩ := zz_up (w := wR y a) (wR_w17 y a z v1 (if (t0 - r1) < (0 : Int64) then (0 : Int64) else (t0 - r1))) hP hD hm
    refine lv_aload_n hx hb dX11_layOwed_55 rfl (lv_at hl 1 rfl) ?_
    refine va_get (D := D) (ci := 11) (v := .ref (a 18)) (C := RX11) (T := TX11) (N := 35) hx hb hts nX11_layOwed_X11 hown hK hP 0 (wR_0 y a z4) rfl 30 (by decide) (hts (.fieldLink RX11 63 "WorksDeskModel" "interest" "[J") (List.mem_of_getElem? (i := 8) rfl)) (fun _ h9 => h9) rfl dX11_layOwed_56 ?_
    refine lv_iload_n hx hb dX11_layOwed_59 rfl (lv_at hl 2 rfl) ?_
    refine lv_aload_n hx hb dX11_layOwed_60 rfl (lv_at hl 1 rfl) ?_
    refine va_get (D := D) (ci := 11) (v := .ref (a 17)) (C := RX11) (T := TX11) (N := 35) hx hb hts nX11_layOwed_X11 hown hK hP 0 (wR_0 y a z4) rfl 29 (by decide) (hts (.fieldLink RX11 60 "WorksDeskModel" "owed" "[J") (List.mem_of_getElem? (i := 3) rfl)) (fun _ h9 => h9) rfl dX11_layOwed_61 ?_
    refine lv_iload_n hx hb dX11_layOwed_64 rfl (lv_at hl 2 rfl) ?_
    obtain ⟨c5, hm⟩ := zz_ck_some hm
    refine va_lald hx hb hK hP 17 1 (wR_17 y a z4) rfl c5 dX11_layOwed_65 ?_
    refine lv_aload_n hx hb dX11_layOwed_66 rfl (lv_at hl 1 rfl) ?_
    refine va_get (D := D) (ci := 11) (v := .ref (a 1)) (C := RX11) (T := TX11) (N := 35) hx hb hts nX11_layOwed_X11 hown hK hP 0 (wR_0 y a z4) rfl 0 (by decide) (hts (.fieldLink RX11 7 "WorksDeskModel" "terms" "[I") (List.mem_of_getElem? (i := 1) rfl)) (fun _ h9 => h9) rfl dX11_layOwed_67 ?_
    refine lv_bipush (v := (7 : Int32)) hx hb dX11_layOwed_70 (by decide) ?_
    obtain ⟨c6, hm⟩ := zz_ck_some hm
    refine va_iald hx hb hK hP 1 0 (wR_1 y a z4) rfl c6 dX11_layOwed_72 ?_
    obtain ⟨r7, h8, hm⟩ := zz_b1_some hm
    refine zz_calll (zz_runS (w := wR y a) (As := [.long (z4.2.1 17 v1.toNatClampNeg), .int (z4.1 1 (7 : Int32).toNatClampNeg)]) (rest := [.int v1, .ref (a 18)]) ⟨hx, hb, hml, hown, hts⟩ (zX11_thousandths l D y a H.size (z4.2.1 17 v1.toNatClampNeg) (z4.1 1 (7 : Int32).toNatClampNeg) z4 h8) (va_cwS 2 hts gX11_layOwed_X11_thousandths rfl rfl rfl zdX11_thousandths ⟨Nat.le_of_ble_eq_true rfl, Nat.le_of_ble_eq_true rfl⟩) hK hN hg hP hD hS hA rfl hl.1 rfl (Nat.le_of_ble_eq_true rfl) dX11_layOwed_73 ⟨Nat.le_of_ble_eq_true rfl, Nat.le_of_ble_eq_true rfl⟩) hD hS hA (fun H locs hP hD hS => ?_)
    obtain ⟨c9, hm⟩ := zz_ck_some hm
    refine va_last hx hb hK hP hD hS 18 1 (wR_18 y a z4) rfl c9 dX11_layOwed_76 (fun H locs hP hD hS => ?_)
    obtain ⟨z10, hP, hD, hm⟩ := zz_up (w := wR y a) (wR_w18 y a z4 v1 r7) hP hD hm
    obtain ⟨n11, en11⟩ : ∃ q : Int32, q = v1 + (1 : Int32) := ⟨_, rfl⟩
    replace hm := zz_nm_some en11 hm
    refine lv_iinc (v := n11) (lv' := [(1, .int n11), (2, .long t0), (0, .ref (a 0))]) hx hb dX11_layOwed_77 hl (k := 2) rfl (by rw [en11]; rfl) (by decide) rfl (fun ls hl => ?_)
    refine lv_goto (tgt := 2) hx hb dX11_layOwed_80 (by decide) ?_
    have j := K2 n11 z10 hm
    rw [hG] at j
    exact j H locs ls hP hD hS (lv_sub hl [2, 0] rfl)
  have J2 : ∀ (n : Nat) (v1 : Int32) (z : zz_M), mX11_layOwed_b2 n v1 z = some (r, zt) → G 2 [(0, .ref (a 0)), (1, .int v1)] [] z := by
    intro n
    induction n with
    | zero =>
      intro v1 z hm
      exact zz_none hm
    | succ n ih =>
      intro v1 z hm
      rw [mX11_layOwed_b2] at hm
      rw [hG]
      intro H locs ls hP hD hS hl
      refine lv_iload_n hx hb dX11_layOwed_2 rfl (lv_at hl 1 rfl) ?_
      refine lv_bipush (v := (24 : Int32)) hx hb dX11_layOwed_3 (by decide) ?_
      refine lv_icmp_ge (tgt := 83) hx hb dX11_layOwed_5 (by decide) (fun c12 => ?_) (fun c12 => ?_)
      · replace hm := zz_pos c12 hm
        exact zz_vret hx hb hr hlocks (zz_some2 hm).2 hP hK hD hS dX11_layOwed_83
      · replace hm := zz_neg c12 hm
        refine lv_iload_n hx hb dX11_layOwed_8 rfl (lv_at hl 1 rfl) ?_
        refine lv_aload_n hx hb dX11_layOwed_9 rfl (lv_at hl 0 rfl) ?_
        refine va_get (D := D) (ci := 11) (v := .ref (a 1)) (C := RX11) (T := TX11) (N := 35) hx hb hts nX11_layOwed_X11 hown hK hP 0 (wR_0 y a z) rfl 0 (by decide) (hts (.fieldLink RX11 7 "WorksDeskModel" "terms" "[I") (List.mem_of_getElem? (i := 1) rfl)) (fun _ h9 => h9) rfl dX11_layOwed_10 ?_
        refine lv_bipush (v := (8 : Int32)) hx hb dX11_layOwed_13 (by decide) ?_
        obtain ⟨c13, hm⟩ := zz_ck_some hm
        refine va_iald hx hb hK hP 1 0 (wR_1 y a z) rfl c13 dX11_layOwed_15 ?_
        refine lv_icmp_lt (tgt := 36) hx hb dX11_layOwed_16 (by decide) (fun c14 => ?_) (fun c14 => ?_)
        · replace hm := zz_pos c14 hm
          refine lv_lconst (v := (0 : Int64)) hx hb dX11_layOwed_36 (by decide) ?_
          have j := J37 (mX11_layOwed_b2 n) ih v1 (0 : Int64) z hm
          rw [hG] at j
          exact j H locs ls hP hD hS (lv_sub hl [0, 1] rfl)
        · replace hm := zz_neg c14 hm
          refine lv_aload_n hx hb dX11_layOwed_19 rfl (lv_at hl 0 rfl) ?_
          refine va_get (D := D) (ci := 11) (v := .ref (a 16)) (C := RX11) (T := TX11) (N := 35) hx hb hts nX11_layOwed_X11 hown hK hP 0 (wR_0 y a z) rfl 28 (by decide) (hts (.fieldLink RX11 57 "WorksDeskModel" "total" "[J") (List.mem_of_getElem? (i := 2) rfl)) (fun _ h9 => h9) rfl dX11_layOwed_20 ?_
          refine lv_iload_n hx hb dX11_layOwed_23 rfl (lv_at hl 1 rfl) ?_
          refine lv_aload_n hx hb dX11_layOwed_24 rfl (lv_at hl 0 rfl) ?_
          refine va_get (D := D) (ci := 11) (v := .ref (a 1)) (C := RX11) (T := TX11) (N := 35) hx hb hts nX11_layOwed_X11 hown hK hP 0 (wR_0 y a z) rfl 0 (by decide) (hts (.fieldLink RX11 7 "WorksDeskModel" "terms" "[I") (List.mem_of_getElem? (i := 1) rfl)) (fun _ h9 => h9) rfl dX11_layOwed_25 ?_
          refine lv_bipush (v := (8 : Int32)) hx hb dX11_layOwed_28 (by decide) ?_
          obtain ⟨c15, hm⟩ := zz_ck_some hm
          refine va_iald hx hb hK hP 1 0 (wR_1 y a z) rfl c15 dX11_layOwed_30 ?_
          refine lv_isub hx hb dX11_layOwed_31 ?_
          obtain ⟨c16, hm⟩ := zz_ck_some hm
          refine va_lald hx hb hK hP 16 1 (wR_16 y a z) rfl c16 dX11_layOwed_32 ?_
          refine lv_goto (tgt := 37) hx hb dX11_layOwed_33 (by decide) ?_
          have j := J37 (mX11_layOwed_b2 n) ih v1 (z.2.1 16 (v1 - (z.1 1 (8 : Int32).toNatClampNeg)).toNatClampNeg) z hm
          rw [hG] at j
          exact j H locs ls hP hD hS (lv_sub hl [0, 1] rfl)
  rw [hG]
  intro H locs ls hP hD hS hl
  unfold mX11_layOwed at hm
  refine lv_iconst (v := (0 : Int32)) hx hb dX11_layOwed_0 (by decide) ?_
  refine lv_istore_n (lv' := [(1, .int (0 : Int32)), (0, .ref (a 0))]) hx hb dX11_layOwed_1 rfl hl (by decide) rfl (fun ls hl => ?_)
  have j := J2 zz_N (0 : Int32) z hm
  rw [hG] at j
  exact j H locs ls hP hD hS (lv_sub hl [1, 0] rfl)
def mX11_storedIn_b2 (z : zz_M) : Nat → Int32 → Option Int32
  | 0, _ => none
  | n + 1, v2 => if v2 < (0 : Int32) then (some (0 : Int32)) else (zz_ck (zz_in v2 24) (if (z.1 4 v2.toNatClampNeg) = (-9999 : Int32) then (zz_nm (v2 + (-1 : Int32)) (fun n4 => (mX11_storedIn_b2 z n) n4)) else (zz_ck (zz_in v2 24) (some (z.1 4 v2.toNatClampNeg)))))
def mX11_storedIn (x1 : Int32) (z : zz_M) : Option Int32 := mX11_storedIn_b2 z zz_N x1
theorem nX11_storedIn_X11 : ∀ w ∈ wsX110, w ∈ wsX11_storedIn := fun _ h => List.mem_cons_of_mem _ (List.mem_append_right _ (h))
theorem zdX11_storedIn : yX11_storedIn.cls = RX11 ∧ yX11_storedIn.cls ≠ "java/lang/invoke/MethodHandle" ∧ yX11_storedIn.cls ≠ "java/lang/invoke/VarHandle" ∧ (parseMethodDescriptor yX11_storedIn.desc).map (fun d => d.parameters.length) = some 1 := by decide +kernel
set_option maxHeartbeats 4000000 in
set_option maxRecDepth 100000 in
theorem zX11_storedIn (l : Launch) (D : va_G) (y : Nat → ClassId) (a : Nat → Nat) (sz : Nat) (x1 : Int32) (z : zz_M) {r : Int32} (hm : mX11_storedIn x1 z = some r) : Met l yX11_storedIn wsX11_storedIn { frames := 0, cells := 0, slots := 0, locals := 0 } (zz_Pc D y (wR y a z) sz [.ref (a 0), .int x1]) (zz_Qi D y (wR y a) (va_A (wR y a z) sz) r z) 0 0 (va_A (wR y a z) sz) := by
  refine Met.ofW (cc := cX11_storedIn) (maxL := 3) (ret := (some .int)) (by decide) rfl ?_
  intro p e s m args below meth c s₁ B hml hv
  obtain ⟨rfl, hsz, hP, hK, hD0, hN, hg⟩ := hv
  have hx := B.exec
  have hb := B.bytes
  have hr := B.returns
  have hts := atoms_spec (ws := wsX11_storedIn) B.pre
  have hown : s.vm.findClass RX11 = some m.cls := findClass_of_methodNamed B.named
  have hlocks := B.notSynchronized
  clear B
  subst hsz
  have hD := hD0.self (sz := s.heap.size)
  generalize hAe : va_A (wR y a z) s.heap.size = A at hD hg ⊢
  have hA : ∀ q : Nat, s.heap.size ≤ q → A q := fun q h => by rw [← hAe]; exact Or.inr h
  clear hAe hD0
  have hl := lv_entry ([.ref (a 0), .int x1]) (n := 3) (Nat.le_of_ble_eq_true rfl)
  rw [lg_entry_eq]
  generalize (lg_sl ([.ref (a 0), .int x1]) ++ List.replicate (3 - (lg_sl ([.ref (a 0), .int x1])).length) Slot.unset).toArray = ls at hl ⊢
  replace hl : lv_has ls 3 [(0, .ref (a 0)), (1, .int x1)] := hl
  refine zz_go (w := wR y a) hP hD va_S.rf hl (fun G hG => ?_)
  clear hP hD hl ls
  have J2 : ∀ (n : Nat) (v2 : Int32), mX11_storedIn_b2 z n v2 = some r → G 2 [(0, .ref (a 0)), (2, .int v2)] [] z := by
    intro n
    induction n with
    | zero =>
      intro v2 hm
      exact zz_none hm
    | succ n ih =>
      intro v2 hm
      rw [mX11_storedIn_b2] at hm
      rw [hG]
      intro H locs ls hP hD hS hl
      refine lv_iload_n hx hb dX11_storedIn_2 rfl (lv_at hl 1 rfl) ?_
      refine lv_if_lt (tgt := 31) hx hb dX11_storedIn_3 (by decide) (fun c1 => ?_) (fun c1 => ?_)
      · replace hm := zz_pos c1 hm
        refine lv_iconst (v := (0 : Int32)) hx hb dX11_storedIn_31 (by decide) ?_
        exact zz_iret hx hb hr hlocks ⟨zz_some1 hm, rfl⟩ hP hK hD hS dX11_storedIn_32
      · replace hm := zz_neg c1 hm
        refine lv_aload_n hx hb dX11_storedIn_6 rfl (lv_at hl 0 rfl) ?_
        refine va_get (D := D) (ci := 11) (v := .ref (a 4)) (C := RX11) (T := TX11) (N := 35) hx hb hts nX11_storedIn_X11 hown hK hP 0 (wR_0 y a z) rfl 4 (by decide) (hts (.fieldLink RX11 19 "WorksDeskModel" "stored" "[I") (List.mem_of_getElem? (i := 1) rfl)) (fun _ h9 => h9) rfl dX11_storedIn_7 ?_
        refine lv_iload_n hx hb dX11_storedIn_10 rfl (lv_at hl 1 rfl) ?_
        obtain ⟨c2, hm⟩ := zz_ck_some hm
        refine va_iald hx hb hK hP 4 0 (wR_4 y a z) rfl c2 dX11_storedIn_11 ?_
        refine lv_sipush (v := (-9999 : Int32)) hx hb dX11_storedIn_12 (by decide) ?_
        refine lv_icmp_eq (tgt := 25) hx hb dX11_storedIn_15 (by decide) (fun c3 => ?_) (fun c3 => ?_)
        · replace hm := zz_pos c3 hm
          obtain ⟨n4, en4⟩ : ∃ q : Int32, q = v2 + (-1 : Int32) := ⟨_, rfl⟩
          replace hm := zz_nm_some en4 hm
          refine lv_iinc (v := n4) (lv' := [(2, .int n4), (0, .ref (a 0))]) hx hb dX11_storedIn_25 hl (k := 1) rfl (by rw [en4]; rfl) (by decide) rfl (fun ls hl => ?_)
          refine lv_goto (tgt := 2) hx hb dX11_storedIn_28 (by decide) ?_
          have j := ih n4 hm
          rw [hG] at j
          exact j H locs ls hP hD hS (lv_sub hl [1, 0] rfl)
        · replace hm := zz_neg c3 hm
          refine lv_aload_n hx hb dX11_storedIn_18 rfl (lv_at hl 0 rfl) ?_
          refine va_get (D := D) (ci := 11) (v := .ref (a 4)) (C := RX11) (T := TX11) (N := 35) hx hb hts nX11_storedIn_X11 hown hK hP 0 (wR_0 y a z) rfl 4 (by decide) (hts (.fieldLink RX11 19 "WorksDeskModel" "stored" "[I") (List.mem_of_getElem? (i := 1) rfl)) (fun _ h9 => h9) rfl dX11_storedIn_19 ?_
          refine lv_iload_n hx hb dX11_storedIn_22 rfl (lv_at hl 1 rfl) ?_
          obtain ⟨c5, hm⟩ := zz_ck_some hm
          refine va_iald hx hb hK hP 4 0 (wR_4 y a z) rfl c5 dX11_storedIn_23 ?_
          exact zz_iret hx hb hr hlocks ⟨zz_some1 hm, rfl⟩ hP hK hD hS dX11_storedIn_24
  rw [hG]
  intro H locs ls hP hD hS hl
  unfold mX11_storedIn at hm
  refine lv_iload_n hx hb dX11_storedIn_0 rfl (lv_at hl 1 rfl) ?_
  refine lv_istore_n (lv' := [(2, .int x1), (0, .ref (a 0)), (1, .int x1)]) hx hb dX11_storedIn_1 rfl hl (by decide) rfl (fun ls hl => ?_)
  have j := J2 zz_N x1 hm
  rw [hG] at j
  exact j H locs ls hP hD hS (lv_sub hl [1, 0] rfl)
def mX11_materialsIn_b28 (z : zz_M) (t0 : Int64) : Option Int64 := some t0
def mX11_materialsIn (x1 : Int32) (z : zz_M) : Option Int64 := if x1 < (z.2.2.1 9) then (zz_b1 (mX11_storedIn x1 z) (fun r2 => zz_ck (zz_in (6 : Int32) 14) (zz_b1 (mX11_thousandths r2.toInt64 (z.1 1 (6 : Int32).toNatClampNeg)) (fun r5 => mX11_materialsIn_b28 z r5)))) else (mX11_materialsIn_b28 z (0 : Int64))
theorem nX11_materialsIn_X11 : ∀ w ∈ wsX110, w ∈ wsX11_materialsIn := fun _ h => List.mem_cons_of_mem _ (List.mem_append_right _ (h))
theorem zdX11_materialsIn : yX11_materialsIn.cls = RX11 ∧ yX11_materialsIn.cls ≠ "java/lang/invoke/MethodHandle" ∧ yX11_materialsIn.cls ≠ "java/lang/invoke/VarHandle" ∧ (parseMethodDescriptor yX11_materialsIn.desc).map (fun d => d.parameters.length) = some 1 := by decide +kernel
set_option maxHeartbeats 4000000 in
set_option maxRecDepth 100000 in
theorem zX11_materialsIn (l : Launch) (D : va_G) (y : Nat → ClassId) (a : Nat → Nat) (sz : Nat) (x1 : Int32) (z : zz_M) {r : Int64} (hm : mX11_materialsIn x1 z = some r) : Met l yX11_materialsIn wsX11_materialsIn { frames := 1, cells := 0, slots := 0, locals := 22 } (zz_Pc D y (wR y a z) sz [.ref (a 0), .int x1]) (zz_Ql D y (wR y a) (va_A (wR y a z) sz) r z) 0 0 (va_A (wR y a z) sz) := by
  refine Met.ofW (cc := cX11_materialsIn) (maxL := 2) (ret := (some .long)) (by decide) rfl ?_
  intro p e s m args below meth c s₁ B hml hv
  obtain ⟨rfl, hsz, hP, hK, hD0, hN, hg⟩ := hv
  have hx := B.exec
  have hb := B.bytes
  have hr := B.returns
  have hts := atoms_spec (ws := wsX11_materialsIn) B.pre
  have hown : s.vm.findClass RX11 = some m.cls := findClass_of_methodNamed B.named
  have hlocks := B.notSynchronized
  clear B
  subst hsz
  have hD := hD0.self (sz := s.heap.size)
  generalize hAe : va_A (wR y a z) s.heap.size = A at hD hg ⊢
  have hA : ∀ q : Nat, s.heap.size ≤ q → A q := fun q h => by rw [← hAe]; exact Or.inr h
  clear hAe hD0
  have hl := lv_entry ([.ref (a 0), .int x1]) (n := 2) (Nat.le_of_ble_eq_true rfl)
  rw [lg_entry_eq]
  generalize (lg_sl ([.ref (a 0), .int x1]) ++ List.replicate (2 - (lg_sl ([.ref (a 0), .int x1])).length) Slot.unset).toArray = ls at hl ⊢
  replace hl : lv_has ls 2 [(0, .ref (a 0)), (1, .int x1)] := hl
  refine zz_go (w := wR y a) hP hD va_S.rf hl (fun G hG => ?_)
  clear hP hD hl ls
  have J28 : ∀ (t0 : Int64), mX11_materialsIn_b28 z t0 = some r → G 28 [] [.long t0] z := by
    intro t0 hm
    rw [mX11_materialsIn_b28] at hm
    rw [hG]
    intro H locs ls hP hD hS hl
    exact zz_lret hx hb hr hlocks ⟨zz_some1 hm, rfl⟩ hP hK hD hS dX11_materialsIn_28
  rw [hG]
  intro H locs ls hP hD hS hl
  unfold mX11_materialsIn at hm
  refine lv_iload_n hx hb dX11_materialsIn_0 rfl (lv_at hl 1 rfl) ?_
  refine lv_aload_n hx hb dX11_materialsIn_1 rfl (lv_at hl 0 rfl) ?_
  refine va_get (D := D) (ci := 11) (v := .int (z.2.2.1 9)) (C := RX11) (T := TX11) (N := 35) hx hb hts nX11_materialsIn_X11 hown hK hP 0 (wR_0 y a z) rfl 9 (by decide) (hts (.fieldLink RX11 85 "WorksDeskModel" "handover" "I") (List.mem_of_getElem? (i := 1) rfl)) (fun _ h9 => h9) rfl dX11_materialsIn_2 ?_
  refine lv_icmp_lt (tgt := 12) hx hb dX11_materialsIn_5 (by decide) (fun c1 => ?_) (fun c1 => ?_)
  · replace hm := zz_pos c1 hm
    refine lv_aload_n hx hb dX11_materialsIn_12 rfl (lv_at hl 0 rfl) ?_
    refine lv_iload_n hx hb dX11_materialsIn_13 rfl (lv_at hl 1 rfl) ?_
    obtain ⟨r2, h3, hm⟩ := zz_b1_some hm
    refine zz_calli (zz_runV (w := wR y a) (As := [.int x1]) (rest := []) ⟨hx, hb, hml, hown, hts⟩ (zX11_storedIn l D y a H.size x1 z h3) (cwV 1 hts gX11_materialsIn_X11_storedIn rfl rfl rfl zdX11_storedIn ⟨Nat.le_of_ble_eq_true rfl, Nat.le_of_ble_eq_true rfl⟩) hK hN hg hP hD hS hA 0 (wR_0 y a z) rfl rfl hl.1 rfl (Nat.le_of_ble_eq_true rfl) dX11_materialsIn_14 ⟨Nat.le_of_ble_eq_true rfl, Nat.le_of_ble_eq_true rfl⟩) hD hS hA (fun H locs hP hD hS => ?_)
    refine lv_i2l hx hb dX11_materialsIn_17 rfl ?_
    refine lv_aload_n hx hb dX11_materialsIn_18 rfl (lv_at hl 0 rfl) ?_
    refine va_get (D := D) (ci := 11) (v := .ref (a 1)) (C := RX11) (T := TX11) (N := 35) hx hb hts nX11_materialsIn_X11 hown hK hP 0 (wR_0 y a z) rfl 0 (by decide) (hts (.fieldLink RX11 7 "WorksDeskModel" "terms" "[I") (List.mem_of_getElem? (i := 2) rfl)) (fun _ h9 => h9) rfl dX11_materialsIn_19 ?_
    refine lv_bipush (v := (6 : Int32)) hx hb dX11_materialsIn_22 (by decide) ?_
    obtain ⟨c4, hm⟩ := zz_ck_some hm
    refine va_iald hx hb hK hP 1 0 (wR_1 y a z) rfl c4 dX11_materialsIn_24 ?_
    obtain ⟨r5, h6, hm⟩ := zz_b1_some hm
    refine zz_calll (zz_runS (w := wR y a) (As := [.long r2.toInt64, .int (z.1 1 (6 : Int32).toNatClampNeg)]) (rest := []) ⟨hx, hb, hml, hown, hts⟩ (zX11_thousandths l D y a H.size r2.toInt64 (z.1 1 (6 : Int32).toNatClampNeg) z h6) (va_cwS 2 hts gX11_materialsIn_X11_thousandths rfl rfl rfl zdX11_thousandths ⟨Nat.le_of_ble_eq_true rfl, Nat.le_of_ble_eq_true rfl⟩) hK hN hg hP hD hS hA rfl hl.1 rfl (Nat.le_of_ble_eq_true rfl) dX11_materialsIn_25 ⟨Nat.le_of_ble_eq_true rfl, Nat.le_of_ble_eq_true rfl⟩) hD hS hA (fun H locs hP hD hS => ?_)
    have j := J28 r5 hm
    rw [hG] at j
    exact j H locs ls hP hD hS (lv_sub hl [] rfl)
  · replace hm := zz_neg c1 hm
    refine lv_lconst (v := (0 : Int64)) hx hb dX11_materialsIn_8 (by decide) ?_
    refine lv_goto (tgt := 28) hx hb dX11_materialsIn_9 (by decide) ?_
    have j := J28 (0 : Int64) hm
    rw [hG] at j
    exact j H locs ls hP hD hS (lv_sub hl [] rfl)
def mX11_limitNow (z : zz_M) : Option Int64 := zz_b1 (mX11_sumNow z) (fun r1 => zz_ck (zz_in (1 : Int32) 14) (zz_b1 (mX11_thousandths r1 (z.1 1 (1 : Int32).toNatClampNeg)) (fun r4 => some r4)))
theorem nX11_limitNow_X11 : ∀ w ∈ wsX110, w ∈ wsX11_limitNow := fun _ h => List.mem_cons_of_mem _ (List.mem_append_right _ (h))
theorem zdX11_limitNow : yX11_limitNow.cls = RX11 ∧ yX11_limitNow.cls ≠ "java/lang/invoke/MethodHandle" ∧ yX11_limitNow.cls ≠ "java/lang/invoke/VarHandle" ∧ (parseMethodDescriptor yX11_limitNow.desc).map (fun d => d.parameters.length) = some 0 := by decide +kernel
set_option maxHeartbeats 4000000 in
set_option maxRecDepth 100000 in
theorem zX11_limitNow (l : Launch) (D : va_G) (y : Nat → ClassId) (a : Nat → Nat) (sz : Nat) (z : zz_M) {r : Int64} (hm : mX11_limitNow z = some r) : Met l yX11_limitNow wsX11_limitNow { frames := 2, cells := 0, slots := 0, locals := 44 } (zz_Pc D y (wR y a z) sz [.ref (a 0)]) (zz_Ql D y (wR y a) (va_A (wR y a z) sz) r z) 0 0 (va_A (wR y a z) sz) := by
  refine Met.ofW (cc := cX11_limitNow) (maxL := 1) (ret := (some .long)) (by decide) rfl ?_
  intro p e s m args below meth c s₁ B hml hv
  obtain ⟨rfl, hsz, hP, hK, hD0, hN, hg⟩ := hv
  have hx := B.exec
  have hb := B.bytes
  have hr := B.returns
  have hts := atoms_spec (ws := wsX11_limitNow) B.pre
  have hown : s.vm.findClass RX11 = some m.cls := findClass_of_methodNamed B.named
  have hlocks := B.notSynchronized
  clear B
  subst hsz
  have hD := hD0.self (sz := s.heap.size)
  generalize hAe : va_A (wR y a z) s.heap.size = A at hD hg ⊢
  have hA : ∀ q : Nat, s.heap.size ≤ q → A q := fun q h => by rw [← hAe]; exact Or.inr h
  clear hAe hD0
  have hl := lv_entry ([.ref (a 0)]) (n := 1) (Nat.le_of_ble_eq_true rfl)
  rw [lg_entry_eq]
  generalize (lg_sl ([.ref (a 0)]) ++ List.replicate (1 - (lg_sl ([.ref (a 0)])).length) Slot.unset).toArray = ls at hl ⊢
  replace hl : lv_has ls 1 [(0, .ref (a 0))] := hl
  refine zz_go (w := wR y a) hP hD va_S.rf hl (fun G hG => ?_)
  clear hP hD hl ls
  rw [hG]
  intro H locs ls hP hD hS hl
  unfold mX11_limitNow at hm
  refine lv_aload_n hx hb dX11_limitNow_0 rfl (lv_at hl 0 rfl) ?_
  obtain ⟨r1, h2, hm⟩ := zz_b1_some hm
  refine zz_calll (zz_runV (w := wR y a) (As := []) (rest := []) ⟨hx, hb, hml, hown, hts⟩ (zX11_sumNow l D y a H.size z h2) (cwV 0 hts gX11_limitNow_X11_sumNow rfl rfl rfl zdX11_sumNow ⟨Nat.le_of_ble_eq_true rfl, Nat.le_of_ble_eq_true rfl⟩) hK hN hg hP hD hS hA 0 (wR_0 y a z) rfl rfl hl.1 rfl (Nat.le_of_ble_eq_true rfl) dX11_limitNow_1 ⟨Nat.le_of_ble_eq_true rfl, Nat.le_of_ble_eq_true rfl⟩) hD hS hA (fun H locs hP hD hS => ?_)
  refine lv_aload_n hx hb dX11_limitNow_4 rfl (lv_at hl 0 rfl) ?_
  refine va_get (D := D) (ci := 11) (v := .ref (a 1)) (C := RX11) (T := TX11) (N := 35) hx hb hts nX11_limitNow_X11 hown hK hP 0 (wR_0 y a z) rfl 0 (by decide) (hts (.fieldLink RX11 7 "WorksDeskModel" "terms" "[I") (List.mem_of_getElem? (i := 1) rfl)) (fun _ h9 => h9) rfl dX11_limitNow_5 ?_
  refine lv_iconst (v := (1 : Int32)) hx hb dX11_limitNow_8 (by decide) ?_
  obtain ⟨c3, hm⟩ := zz_ck_some hm
  refine va_iald hx hb hK hP 1 0 (wR_1 y a z) rfl c3 dX11_limitNow_9 ?_
  obtain ⟨r4, h5, hm⟩ := zz_b1_some hm
  refine zz_calll (zz_runS (w := wR y a) (As := [.long r1, .int (z.1 1 (1 : Int32).toNatClampNeg)]) (rest := []) ⟨hx, hb, hml, hown, hts⟩ (zX11_thousandths l D y a H.size r1 (z.1 1 (1 : Int32).toNatClampNeg) z h5) (va_cwS 2 hts gX11_limitNow_X11_thousandths rfl rfl rfl zdX11_thousandths ⟨Nat.le_of_ble_eq_true rfl, Nat.le_of_ble_eq_true rfl⟩) hK hN hg hP hD hS hA rfl hl.1 rfl (Nat.le_of_ble_eq_true rfl) dX11_limitNow_10 ⟨Nat.le_of_ble_eq_true rfl, Nat.le_of_ble_eq_true rfl⟩) hD hS hA (fun H locs hP hD hS => ?_)
  exact zz_lret hx hb hr hlocks ⟨zz_some1 hm, rfl⟩ hP hK hD hS dX11_limitNow_13
def mX11_partOf (x1 : Int32) (x2 : Int32) (z : zz_M) : Option Int64 := zz_b1 (mX11_doneOf x1 x2 z) (fun r1 => zz_b1 (mX11_cap x2 z) (fun r3 => zz_nm (if (0 : Int32) < (r1 - r3) then (r1 - r3) else (0 : Int32)) (fun n5 => zz_b1 (mX11_rate x2 z) (fun r6 => zz_b1 (mX11_rate x2 z) (fun r8 => zz_ck (zz_in (10 : Int32) 14) (zz_b1 (mX11_thousandths r8.toInt64 (z.1 1 (10 : Int32).toNatClampNeg)) (fun r11 => some ((((r1 - n5).toInt64) * r6.toInt64) + (n5.toInt64 * r11)))))))))
theorem nX11_partOf_X11 : ∀ w ∈ wsX110, w ∈ wsX11_partOf := fun _ h => List.mem_cons_of_mem _ (List.mem_append_right _ (h))
theorem zdX11_partOf : yX11_partOf.cls = RX11 ∧ yX11_partOf.cls ≠ "java/lang/invoke/MethodHandle" ∧ yX11_partOf.cls ≠ "java/lang/invoke/VarHandle" ∧ (parseMethodDescriptor yX11_partOf.desc).map (fun d => d.parameters.length) = some 2 := by decide +kernel
set_option maxHeartbeats 4000000 in
set_option maxRecDepth 100000 in
theorem zX11_partOf (l : Launch) (D : va_G) (y : Nat → ClassId) (a : Nat → Nat) (sz : Nat) (x1 : Int32) (x2 : Int32) (z : zz_M) {r : Int64} (hm : mX11_partOf x1 x2 z = some r) : Met l yX11_partOf wsX11_partOf { frames := 2, cells := 0, slots := 0, locals := 43 } (zz_Pc D y (wR y a z) sz [.ref (a 0), .int x1, .int x2]) (zz_Ql D y (wR y a) (va_A (wR y a z) sz) r z) 0 0 (va_A (wR y a z) sz) := by
  refine Met.ofW (cc := cX11_partOf) (maxL := 5) (ret := (some .long)) (by decide) rfl ?_
  intro p e s m args below meth c s₁ B hml hv
  obtain ⟨rfl, hsz, hP, hK, hD0, hN, hg⟩ := hv
  have hx := B.exec
  have hb := B.bytes
  have hr := B.returns
  have hts := atoms_spec (ws := wsX11_partOf) B.pre
  have hown : s.vm.findClass RX11 = some m.cls := findClass_of_methodNamed B.named
  have hlocks := B.notSynchronized
  clear B
  subst hsz
  have hD := hD0.self (sz := s.heap.size)
  generalize hAe : va_A (wR y a z) s.heap.size = A at hD hg ⊢
  have hA : ∀ q : Nat, s.heap.size ≤ q → A q := fun q h => by rw [← hAe]; exact Or.inr h
  clear hAe hD0
  have hl := lv_entry ([.ref (a 0), .int x1, .int x2]) (n := 5) (Nat.le_of_ble_eq_true rfl)
  rw [lg_entry_eq]
  generalize (lg_sl ([.ref (a 0), .int x1, .int x2]) ++ List.replicate (5 - (lg_sl ([.ref (a 0), .int x1, .int x2])).length) Slot.unset).toArray = ls at hl ⊢
  replace hl : lv_has ls 5 [(0, .ref (a 0)), (1, .int x1), (2, .int x2)] := hl
  refine zz_go (w := wR y a) hP hD va_S.rf hl (fun G hG => ?_)
  clear hP hD hl ls
  rw [hG]
  intro H locs ls hP hD hS hl
  unfold mX11_partOf at hm
  refine lv_aload_n hx hb dX11_partOf_0 rfl (lv_at hl 0 rfl) ?_
  refine lv_iload_n hx hb dX11_partOf_1 rfl (lv_at hl 1 rfl) ?_
  refine lv_iload_n hx hb dX11_partOf_2 rfl (lv_at hl 2 rfl) ?_
  obtain ⟨r1, h2, hm⟩ := zz_b1_some hm
  refine zz_calli (zz_runV (w := wR y a) (As := [.int x1, .int x2]) (rest := []) ⟨hx, hb, hml, hown, hts⟩ (zX11_doneOf l D y a H.size x1 x2 z h2) (cwV 2 hts gX11_partOf_X11_doneOf rfl rfl rfl zdX11_doneOf ⟨Nat.le_of_ble_eq_true rfl, Nat.le_of_ble_eq_true rfl⟩) hK hN hg hP hD hS hA 0 (wR_0 y a z) rfl rfl hl.1 rfl (Nat.le_of_ble_eq_true rfl) dX11_partOf_3 ⟨Nat.le_of_ble_eq_true rfl, Nat.le_of_ble_eq_true rfl⟩) hD hS hA (fun H locs hP hD hS => ?_)
  refine lv_istore_n (lv' := [(3, .int r1), (0, .ref (a 0)), (1, .int x1), (2, .int x2)]) hx hb dX11_partOf_6 rfl hl (by decide) rfl (fun ls hl => ?_)
  refine lv_iconst (v := (0 : Int32)) hx hb dX11_partOf_7 (by decide) ?_
  refine lv_iload_n hx hb dX11_partOf_8 rfl (lv_at hl 0 rfl) ?_
  refine lv_aload_n hx hb dX11_partOf_9 rfl (lv_at hl 1 rfl) ?_
  refine lv_iload_n hx hb dX11_partOf_10 rfl (lv_at hl 3 rfl) ?_
  obtain ⟨r3, h4, hm⟩ := zz_b1_some hm
  refine zz_calli (zz_runV (w := wR y a) (As := [.int x2]) (rest := [.int r1, .int (0 : Int32)]) ⟨hx, hb, hml, hown, hts⟩ (zX11_cap l D y a H.size x2 z h4) (cwV 1 hts gX11_partOf_X11_cap rfl rfl rfl zdX11_cap ⟨Nat.le_of_ble_eq_true rfl, Nat.le_of_ble_eq_true rfl⟩) hK hN hg hP hD hS hA 0 (wR_0 y a z) rfl rfl hl.1 rfl (Nat.le_of_ble_eq_true rfl) dX11_partOf_11 ⟨Nat.le_of_ble_eq_true rfl, Nat.le_of_ble_eq_true rfl⟩) hD hS hA (fun H locs hP hD hS => ?_)
  refine lv_isub hx hb dX11_partOf_14 ?_
  refine va_mmax hx hb (hml.trans hl.1.symm) hown (hts (.methodLink RX11 227 Lib.Math.max.name) (List.mem_of_getElem? (i := 1) rfl)) (hts (.static Lib.Math.max.name) (List.mem_of_getElem? (i := 2) rfl)) (hts (.initialized "java/lang/Math") (List.mem_of_getElem? (i := 3) rfl)) (hts (.code Lib.Math.max.name Lib.Math.max.code 2 (some .int)) (List.mem_of_getElem? (i := 4) rfl)) (Nat.le_of_ble_eq_true rfl) (Nat.le_of_ble_eq_true rfl) (Nat.le_of_ble_eq_true rfl) (Nat.le_of_ble_eq_true rfl) dX11_partOf_15 ?_
  refine lv_topi (fun n5 en5 => ?_)
  replace hm := zz_nm_some en5 hm
  refine lv_istore (lv' := [(4, .int n5), (3, .int r1), (0, .ref (a 0)), (1, .int x1), (2, .int x2)]) hx hb dX11_partOf_18 hl (by decide) rfl (fun ls hl => ?_)
  refine lv_iload_n hx hb dX11_partOf_20 rfl (lv_at hl 1 rfl) ?_
  refine lv_iload hx hb dX11_partOf_21 (lv_at hl 0 rfl) ?_
  refine lv_isub hx hb dX11_partOf_23 ?_
  refine lv_i2l hx hb dX11_partOf_24 rfl ?_
  refine lv_aload_n hx hb dX11_partOf_25 rfl (lv_at hl 2 rfl) ?_
  refine lv_iload_n hx hb dX11_partOf_26 rfl (lv_at hl 4 rfl) ?_
  obtain ⟨r6, h7, hm⟩ := zz_b1_some hm
  refine zz_calli (zz_runV (w := wR y a) (As := [.int x2]) (rest := [.long ((r1 - n5).toInt64)]) ⟨hx, hb, hml, hown, hts⟩ (zX11_rate l D y a H.size x2 z h7) (cwV 1 hts gX11_partOf_X11_rate rfl rfl rfl zdX11_rate ⟨Nat.le_of_ble_eq_true rfl, Nat.le_of_ble_eq_true rfl⟩) hK hN hg hP hD hS hA 0 (wR_0 y a z) rfl rfl hl.1 rfl (Nat.le_of_ble_eq_true rfl) dX11_partOf_27 ⟨Nat.le_of_ble_eq_true rfl, Nat.le_of_ble_eq_true rfl⟩) hD hS hA (fun H locs hP hD hS => ?_)
  refine lv_i2l hx hb dX11_partOf_30 rfl ?_
  refine lv_lmul hx hb dX11_partOf_31 ?_
  refine lv_iload hx hb dX11_partOf_32 (lv_at hl 0 rfl) ?_
  refine lv_i2l hx hb dX11_partOf_34 rfl ?_
  refine lv_aload_n hx hb dX11_partOf_35 rfl (lv_at hl 2 rfl) ?_
  refine lv_iload_n hx hb dX11_partOf_36 rfl (lv_at hl 4 rfl) ?_
  obtain ⟨r8, h9, hm⟩ := zz_b1_some hm
  refine zz_calli (zz_runV (w := wR y a) (As := [.int x2]) (rest := [.long n5.toInt64, .long (((r1 - n5).toInt64) * r6.toInt64)]) ⟨hx, hb, hml, hown, hts⟩ (zX11_rate l D y a H.size x2 z h9) (cwV 1 hts gX11_partOf_X11_rate rfl rfl rfl zdX11_rate ⟨Nat.le_of_ble_eq_true rfl, Nat.le_of_ble_eq_true rfl⟩) hK hN hg hP hD hS hA 0 (wR_0 y a z) rfl rfl hl.1 rfl (Nat.le_of_ble_eq_true rfl) dX11_partOf_37 ⟨Nat.le_of_ble_eq_true rfl, Nat.le_of_ble_eq_true rfl⟩) hD hS hA (fun H locs hP hD hS => ?_)
  refine lv_i2l hx hb dX11_partOf_40 rfl ?_
  refine lv_aload_n hx hb dX11_partOf_41 rfl (lv_at hl 2 rfl) ?_
  refine va_get (D := D) (ci := 11) (v := .ref (a 1)) (C := RX11) (T := TX11) (N := 35) hx hb hts nX11_partOf_X11 hown hK hP 0 (wR_0 y a z) rfl 0 (by decide) (hts (.fieldLink RX11 7 "WorksDeskModel" "terms" "[I") (List.mem_of_getElem? (i := 5) rfl)) (fun _ h9 => h9) rfl dX11_partOf_42 ?_
  refine lv_bipush (v := (10 : Int32)) hx hb dX11_partOf_45 (by decide) ?_
  obtain ⟨c10, hm⟩ := zz_ck_some hm
  refine va_iald hx hb hK hP 1 0 (wR_1 y a z) rfl c10 dX11_partOf_47 ?_
  obtain ⟨r11, h12, hm⟩ := zz_b1_some hm
  refine zz_calll (zz_runS (w := wR y a) (As := [.long r8.toInt64, .int (z.1 1 (10 : Int32).toNatClampNeg)]) (rest := [.long n5.toInt64, .long (((r1 - n5).toInt64) * r6.toInt64)]) ⟨hx, hb, hml, hown, hts⟩ (zX11_thousandths l D y a H.size r8.toInt64 (z.1 1 (10 : Int32).toNatClampNeg) z h12) (va_cwS 2 hts gX11_partOf_X11_thousandths rfl rfl rfl zdX11_thousandths ⟨Nat.le_of_ble_eq_true rfl, Nat.le_of_ble_eq_true rfl⟩) hK hN hg hP hD hS hA rfl hl.1 rfl (Nat.le_of_ble_eq_true rfl) dX11_partOf_48 ⟨Nat.le_of_ble_eq_true rfl, Nat.le_of_ble_eq_true rfl⟩) hD hS hA (fun H locs hP hD hS => ?_)
  refine lv_lmul hx hb dX11_partOf_51 ?_
  refine lv_ladd hx hb dX11_partOf_52 ?_
  exact zz_lret hx hb hr hlocks ⟨zz_some1 hm, rfl⟩ hP hK hD hS dX11_partOf_53
def mX11_kind (x1 : Int32) (z : zz_M) : Option Int32 := zz_ck (zz_in ((3 : Int32) * x1) 30) (some (z.1 2 ((3 : Int32) * x1).toNatClampNeg))
theorem nX11_kind_X11 : ∀ w ∈ wsX110, w ∈ wsX11_kind := fun _ h => List.mem_cons_of_mem _ (List.mem_append_right _ (h))
theorem zdX11_kind : yX11_kind.cls = RX11 ∧ yX11_kind.cls ≠ "java/lang/invoke/MethodHandle" ∧ yX11_kind.cls ≠ "java/lang/invoke/VarHandle" ∧ (parseMethodDescriptor yX11_kind.desc).map (fun d => d.parameters.length) = some 1 := by decide +kernel
set_option maxHeartbeats 4000000 in
set_option maxRecDepth 100000 in
theorem zX11_kind (l : Launch) (D : va_G) (y : Nat → ClassId) (a : Nat → Nat) (sz : Nat) (x1 : Int32) (z : zz_M) {r : Int32} (hm : mX11_kind x1 z = some r) : Met l yX11_kind wsX11_kind { frames := 0, cells := 0, slots := 0, locals := 0 } (zz_Pc D y (wR y a z) sz [.ref (a 0), .int x1]) (zz_Qi D y (wR y a) (va_A (wR y a z) sz) r z) 0 0 (va_A (wR y a z) sz) := by
  refine Met.ofW (cc := cX11_kind) (maxL := 2) (ret := (some .int)) (by decide) rfl ?_
  intro p e s m args below meth c s₁ B hml hv
  obtain ⟨rfl, hsz, hP, hK, hD0, hN, hg⟩ := hv
  have hx := B.exec
  have hb := B.bytes
  have hr := B.returns
  have hts := atoms_spec (ws := wsX11_kind) B.pre
  have hown : s.vm.findClass RX11 = some m.cls := findClass_of_methodNamed B.named
  have hlocks := B.notSynchronized
  clear B
  subst hsz
  have hD := hD0.self (sz := s.heap.size)
  generalize hAe : va_A (wR y a z) s.heap.size = A at hD hg ⊢
  have hA : ∀ q : Nat, s.heap.size ≤ q → A q := fun q h => by rw [← hAe]; exact Or.inr h
  clear hAe hD0
  have hl := lv_entry ([.ref (a 0), .int x1]) (n := 2) (Nat.le_of_ble_eq_true rfl)
  rw [lg_entry_eq]
  generalize (lg_sl ([.ref (a 0), .int x1]) ++ List.replicate (2 - (lg_sl ([.ref (a 0), .int x1])).length) Slot.unset).toArray = ls at hl ⊢
  replace hl : lv_has ls 2 [(0, .ref (a 0)), (1, .int x1)] := hl
  refine zz_go (w := wR y a) hP hD va_S.rf hl (fun G hG => ?_)
  clear hP hD hl ls
  rw [hG]
  intro H locs ls hP hD hS hl
  unfold mX11_kind at hm
  refine lv_aload_n hx hb dX11_kind_0 rfl (lv_at hl 0 rfl) ?_
  refine va_get (D := D) (ci := 11) (v := .ref (a 2)) (C := RX11) (T := TX11) (N := 35) hx hb hts nX11_kind_X11 hown hK hP 0 (wR_0 y a z) rfl 1 (by decide) (hts (.fieldLink RX11 13 "WorksDeskModel" "items" "[I") (List.mem_of_getElem? (i := 1) rfl)) (fun _ h9 => h9) rfl dX11_kind_1 ?_
  refine lv_iconst (v := (3 : Int32)) hx hb dX11_kind_4 (by decide) ?_
  refine lv_iload_n hx hb dX11_kind_5 rfl (lv_at hl 1 rfl) ?_
  refine lv_imul hx hb dX11_kind_6 ?_
  obtain ⟨c1, hm⟩ := zz_ck_some hm
  refine va_iald hx hb hK hP 2 0 (wR_2 y a z) rfl c1 dX11_kind_7 ?_
  exact zz_iret hx hb hr hlocks ⟨zz_some1 hm, rfl⟩ hP hK hD hS dX11_kind_8
def mX11_priceOf_b75 (z : zz_M) (t0 : Int32) : Option Int32 := some t0
def mX11_priceOf_b57 (z : zz_M) (k8 : Int32 → Int32 → Int32 → Int32 → Int32 → Option Int32) (v1 : Int32) (v2 : Int32) (v3 : Int32) (v4 : Int32) (v5 : Int32) : Option Int32 := zz_nm (v5 + (1 : Int32)) (fun n1 => k8 v1 v2 v3 v4 n1)
def mX11_priceOf_b8 (z : zz_M) : Nat → Int32 → Int32 → Int32 → Int32 → Int32 → Option Int32
  | 0, _, _, _, _, _ => none
  | n + 1, v1, v2, v3, v4, v5 => if (z.2.2.1 2) ≤ v5 then (if v3 = (0 : Int32) then (mX11_priceOf_b75 z v2) else (zz_ck (¬ v3 = (0 : Int32)) (mX11_priceOf_b75 z (v4 / v3)))) else (zz_b1 (mX11_kind v5 z) (fun r5 => if r5 = v1 then (zz_b1 (mX11_quantity v5 z) (fun r8 => zz_nm (v3 + r8) (fun n10 => zz_b1 (mX11_quantity v5 z) (fun r11 => zz_b1 (mX11_rate v5 z) (fun r13 => zz_nm (v4 + (r11 * r13)) (fun n15 => mX11_priceOf_b57 z (mX11_priceOf_b8 z n) v1 v2 n10 n15 v5)))))) else (mX11_priceOf_b57 z (mX11_priceOf_b8 z n) v1 v2 v3 v4 v5)))
def mX11_priceOf (x1 : Int32) (x2 : Int32) (z : zz_M) : Option Int32 := mX11_priceOf_b8 z zz_N x1 x2 (0 : Int32) (0 : Int32) (0 : Int32)
theorem nX11_priceOf_X11 : ∀ w ∈ wsX110, w ∈ wsX11_priceOf := fun _ h => List.mem_cons_of_mem _ (List.mem_append_right _ (h))
theorem zdX11_priceOf : yX11_priceOf.cls = RX11 ∧ yX11_priceOf.cls ≠ "java/lang/invoke/MethodHandle" ∧ yX11_priceOf.cls ≠ "java/lang/invoke/VarHandle" ∧ (parseMethodDescriptor yX11_priceOf.desc).map (fun d => d.parameters.length) = some 2 := by decide +kernel
set_option maxHeartbeats 4000000 in
set_option maxRecDepth 100000 in
theorem zX11_priceOf (l : Launch) (D : va_G) (y : Nat → ClassId) (a : Nat → Nat) (sz : Nat) (x1 : Int32) (x2 : Int32) (z : zz_M) {r : Int32} (hm : mX11_priceOf x1 x2 z = some r) : Met l yX11_priceOf wsX11_priceOf { frames := 1, cells := 0, slots := 0, locals := 21 } (zz_Pc D y (wR y a z) sz [.ref (a 0), .int x1, .int x2]) (zz_Qi D y (wR y a) (va_A (wR y a z) sz) r z) 0 0 (va_A (wR y a z) sz) := by
  refine Met.ofW (cc := cX11_priceOf) (maxL := 6) (ret := (some .int)) (by decide) rfl ?_
  intro p e s m args below meth c s₁ B hml hv
  obtain ⟨rfl, hsz, hP, hK, hD0, hN, hg⟩ := hv
  have hx := B.exec
  have hb := B.bytes
  have hr := B.returns
  have hts := atoms_spec (ws := wsX11_priceOf) B.pre
  have hown : s.vm.findClass RX11 = some m.cls := findClass_of_methodNamed B.named
  have hlocks := B.notSynchronized
  clear B
  subst hsz
  have hD := hD0.self (sz := s.heap.size)
  generalize hAe : va_A (wR y a z) s.heap.size = A at hD hg ⊢
  have hA : ∀ q : Nat, s.heap.size ≤ q → A q := fun q h => by rw [← hAe]; exact Or.inr h
  clear hAe hD0
  have hl := lv_entry ([.ref (a 0), .int x1, .int x2]) (n := 6) (Nat.le_of_ble_eq_true rfl)
  rw [lg_entry_eq]
  generalize (lg_sl ([.ref (a 0), .int x1, .int x2]) ++ List.replicate (6 - (lg_sl ([.ref (a 0), .int x1, .int x2])).length) Slot.unset).toArray = ls at hl ⊢
  replace hl : lv_has ls 6 [(0, .ref (a 0)), (1, .int x1), (2, .int x2)] := hl
  refine zz_go (w := wR y a) hP hD va_S.rf hl (fun G hG => ?_)
  clear hP hD hl ls
  have J75 : ∀ (t0 : Int32), mX11_priceOf_b75 z t0 = some r → G 75 [] [.int t0] z := by
    intro t0 hm
    rw [mX11_priceOf_b75] at hm
    rw [hG]
    intro H locs ls hP hD hS hl
    exact zz_iret hx hb hr hlocks ⟨zz_some1 hm, rfl⟩ hP hK hD hS dX11_priceOf_75
  have J57 : ∀ (k8 : Int32 → Int32 → Int32 → Int32 → Int32 → Option Int32) (K8 : ∀ (v1 : Int32) (v2 : Int32) (v3 : Int32) (v4 : Int32) (v5 : Int32), k8 v1 v2 v3 v4 v5 = some r → G 8 [(0, .ref (a 0)), (1, .int v1), (2, .int v2), (3, .int v3), (4, .int v4), (5, .int v5)] [] z) (v1 : Int32) (v2 : Int32) (v3 : Int32) (v4 : Int32) (v5 : Int32), mX11_priceOf_b57 z k8 v1 v2 v3 v4 v5 = some r → G 57 [(0, .ref (a 0)), (1, .int v1), (2, .int v2), (3, .int v3), (4, .int v4), (5, .int v5)] [] z := by
    intro k8 K8 v1 v2 v3 v4 v5 hm
    rw [mX11_priceOf_b57] at hm
    rw [hG]
    intro H locs ls hP hD hS hl
    obtain ⟨n1, en1⟩ : ∃ q : Int32, q = v5 + (1 : Int32) := ⟨_, rfl⟩
    replace hm := zz_nm_some en1 hm
    refine lv_iinc (v := n1) (lv' := [(5, .int n1), (0, .ref (a 0)), (1, .int v1), (2, .int v2), (3, .int v3), (4, .int v4)]) hx hb dX11_priceOf_57 hl (k := 5) rfl (by rw [en1]; rfl) (by decide) rfl (fun ls hl => ?_)
    refine lv_goto (tgt := 8) hx hb dX11_priceOf_60 (by decide) ?_
    have j := K8 v1 v2 v3 v4 n1 hm
    rw [hG] at j
    exact j H locs ls hP hD hS (lv_sub hl [1, 2, 3, 4, 5, 0] rfl)
  have J8 : ∀ (n : Nat) (v1 : Int32) (v2 : Int32) (v3 : Int32) (v4 : Int32) (v5 : Int32), mX11_priceOf_b8 z n v1 v2 v3 v4 v5 = some r → G 8 [(0, .ref (a 0)), (1, .int v1), (2, .int v2), (3, .int v3), (4, .int v4), (5, .int v5)] [] z := by
    intro n
    induction n with
    | zero =>
      intro v1 v2 v3 v4 v5 hm
      exact zz_none hm
    | succ n ih =>
      intro v1 v2 v3 v4 v5 hm
      rw [mX11_priceOf_b8] at hm
      rw [hG]
      intro H locs ls hP hD hS hl
      refine lv_iload hx hb dX11_priceOf_8 (lv_at hl 5 rfl) ?_
      refine lv_aload_n hx hb dX11_priceOf_10 rfl (lv_at hl 0 rfl) ?_
      refine va_get (D := D) (ci := 11) (v := .int (z.2.2.1 2)) (C := RX11) (T := TX11) (N := 35) hx hb hts nX11_priceOf_X11 hown hK hP 0 (wR_0 y a z) rfl 2 (by decide) (hts (.fieldLink RX11 75 "WorksDeskModel" "itemMany" "I") (List.mem_of_getElem? (i := 1) rfl)) (fun _ h9 => h9) rfl dX11_priceOf_11 ?_
      refine lv_icmp_ge (tgt := 63) hx hb dX11_priceOf_14 (by decide) (fun c2 => ?_) (fun c2 => ?_)
      · replace hm := zz_pos c2 hm
        refine lv_iload_n hx hb dX11_priceOf_63 rfl (lv_at hl 3 rfl) ?_
        refine lv_if_ne (tgt := 71) hx hb dX11_priceOf_64 (by decide) (fun c3 => ?_) (fun c3 => ?_)
        · replace hm := zz_neg c3 hm
          refine lv_iload hx hb dX11_priceOf_71 (lv_at hl 4 rfl) ?_
          refine lv_iload_n hx hb dX11_priceOf_73 rfl (lv_at hl 3 rfl) ?_
          obtain ⟨c4, hm⟩ := zz_ck_some hm
          refine lv_idiv hx hb dX11_priceOf_74 c4 ?_
          have j := J75 (v4 / v3) hm
          rw [hG] at j
          exact j H locs ls hP hD hS (lv_sub hl [] rfl)
        · replace hm := zz_pos c3 hm
          refine lv_iload_n hx hb dX11_priceOf_67 rfl (lv_at hl 2 rfl) ?_
          refine lv_goto (tgt := 75) hx hb dX11_priceOf_68 (by decide) ?_
          have j := J75 v2 hm
          rw [hG] at j
          exact j H locs ls hP hD hS (lv_sub hl [] rfl)
      · replace hm := zz_neg c2 hm
        refine lv_aload_n hx hb dX11_priceOf_17 rfl (lv_at hl 0 rfl) ?_
        refine lv_iload hx hb dX11_priceOf_18 (lv_at hl 5 rfl) ?_
        obtain ⟨r5, h6, hm⟩ := zz_b1_some hm
        refine zz_calli (zz_runV (w := wR y a) (As := [.int v5]) (rest := []) ⟨hx, hb, hml, hown, hts⟩ (zX11_kind l D y a H.size v5 z h6) (cwV 1 hts gX11_priceOf_X11_kind rfl rfl rfl zdX11_kind ⟨Nat.le_of_ble_eq_true rfl, Nat.le_of_ble_eq_true rfl⟩) hK hN hg hP hD hS hA 0 (wR_0 y a z) rfl rfl hl.1 rfl (Nat.le_of_ble_eq_true rfl) dX11_priceOf_20 ⟨Nat.le_of_ble_eq_true rfl, Nat.le_of_ble_eq_true rfl⟩) hD hS hA (fun H locs hP hD hS => ?_)
        refine lv_iload_n hx hb dX11_priceOf_23 rfl (lv_at hl 1 rfl) ?_
        refine lv_icmp_eq (tgt := 30) hx hb dX11_priceOf_24 (by decide) (fun c7 => ?_) (fun c7 => ?_)
        · replace hm := zz_pos c7 hm
          refine lv_iload_n hx hb dX11_priceOf_30 rfl (lv_at hl 3 rfl) ?_
          refine lv_aload_n hx hb dX11_priceOf_31 rfl (lv_at hl 0 rfl) ?_
          refine lv_iload hx hb dX11_priceOf_32 (lv_at hl 5 rfl) ?_
          obtain ⟨r8, h9, hm⟩ := zz_b1_some hm
          refine zz_calli (zz_runV (w := wR y a) (As := [.int v5]) (rest := [.int v3]) ⟨hx, hb, hml, hown, hts⟩ (zX11_quantity l D y a H.size v5 z h9) (cwV 1 hts gX11_priceOf_X11_quantity rfl rfl rfl zdX11_quantity ⟨Nat.le_of_ble_eq_true rfl, Nat.le_of_ble_eq_true rfl⟩) hK hN hg hP hD hS hA 0 (wR_0 y a z) rfl rfl hl.1 rfl (Nat.le_of_ble_eq_true rfl) dX11_priceOf_34 ⟨Nat.le_of_ble_eq_true rfl, Nat.le_of_ble_eq_true rfl⟩) hD hS hA (fun H locs hP hD hS => ?_)
          refine lv_iadd hx hb dX11_priceOf_37 ?_
          refine lv_topi (fun n10 en10 => ?_)
          replace hm := zz_nm_some en10 hm
          refine lv_istore_n (lv' := [(3, .int n10), (0, .ref (a 0)), (1, .int v1), (2, .int v2), (4, .int v4), (5, .int v5)]) hx hb dX11_priceOf_38 rfl hl (by decide) rfl (fun ls hl => ?_)
          refine lv_iload hx hb dX11_priceOf_39 (lv_at hl 4 rfl) ?_
          refine lv_aload_n hx hb dX11_priceOf_41 rfl (lv_at hl 1 rfl) ?_
          refine lv_iload hx hb dX11_priceOf_42 (lv_at hl 5 rfl) ?_
          obtain ⟨r11, h12, hm⟩ := zz_b1_some hm
          refine zz_calli (zz_runV (w := wR y a) (As := [.int v5]) (rest := [.int v4]) ⟨hx, hb, hml, hown, hts⟩ (zX11_quantity l D y a H.size v5 z h12) (cwV 1 hts gX11_priceOf_X11_quantity rfl rfl rfl zdX11_quantity ⟨Nat.le_of_ble_eq_true rfl, Nat.le_of_ble_eq_true rfl⟩) hK hN hg hP hD hS hA 0 (wR_0 y a z) rfl rfl hl.1 rfl (Nat.le_of_ble_eq_true rfl) dX11_priceOf_44 ⟨Nat.le_of_ble_eq_true rfl, Nat.le_of_ble_eq_true rfl⟩) hD hS hA (fun H locs hP hD hS => ?_)
          refine lv_aload_n hx hb dX11_priceOf_47 rfl (lv_at hl 1 rfl) ?_
          refine lv_iload hx hb dX11_priceOf_48 (lv_at hl 5 rfl) ?_
          obtain ⟨r13, h14, hm⟩ := zz_b1_some hm
          refine zz_calli (zz_runV (w := wR y a) (As := [.int v5]) (rest := [.int r11, .int v4]) ⟨hx, hb, hml, hown, hts⟩ (zX11_rate l D y a H.size v5 z h14) (cwV 1 hts gX11_priceOf_X11_rate rfl rfl rfl zdX11_rate ⟨Nat.le_of_ble_eq_true rfl, Nat.le_of_ble_eq_true rfl⟩) hK hN hg hP hD hS hA 0 (wR_0 y a z) rfl rfl hl.1 rfl (Nat.le_of_ble_eq_true rfl) dX11_priceOf_50 ⟨Nat.le_of_ble_eq_true rfl, Nat.le_of_ble_eq_true rfl⟩) hD hS hA (fun H locs hP hD hS => ?_)
          refine lv_imul hx hb dX11_priceOf_53 ?_
          refine lv_iadd hx hb dX11_priceOf_54 ?_
          refine lv_topi (fun n15 en15 => ?_)
          replace hm := zz_nm_some en15 hm
          refine lv_istore (lv' := [(4, .int n15), (3, .int n10), (0, .ref (a 0)), (1, .int v1), (2, .int v2), (5, .int v5)]) hx hb dX11_priceOf_55 hl (by decide) rfl (fun ls hl => ?_)
          have j := J57 (mX11_priceOf_b8 z n) ih v1 v2 n10 n15 v5 hm
          rw [hG] at j
          exact j H locs ls hP hD hS (lv_sub hl [2, 3, 4, 1, 0, 5] rfl)
        · replace hm := zz_neg c7 hm
          refine lv_goto (tgt := 57) hx hb dX11_priceOf_27 (by decide) ?_
          have j := J57 (mX11_priceOf_b8 z n) ih v1 v2 v3 v4 v5 hm
          rw [hG] at j
          exact j H locs ls hP hD hS (lv_sub hl [0, 1, 2, 3, 4, 5] rfl)
  rw [hG]
  intro H locs ls hP hD hS hl
  unfold mX11_priceOf at hm
  refine lv_iconst (v := (0 : Int32)) hx hb dX11_priceOf_0 (by decide) ?_
  refine lv_istore_n (lv' := [(3, .int (0 : Int32)), (0, .ref (a 0)), (1, .int x1), (2, .int x2)]) hx hb dX11_priceOf_1 rfl hl (by decide) rfl (fun ls hl => ?_)
  refine lv_iconst (v := (0 : Int32)) hx hb dX11_priceOf_2 (by decide) ?_
  refine lv_istore (lv' := [(4, .int (0 : Int32)), (3, .int (0 : Int32)), (0, .ref (a 0)), (1, .int x1), (2, .int x2)]) hx hb dX11_priceOf_3 hl (by decide) rfl (fun ls hl => ?_)
  refine lv_iconst (v := (0 : Int32)) hx hb dX11_priceOf_5 (by decide) ?_
  refine lv_istore (lv' := [(5, .int (0 : Int32)), (4, .int (0 : Int32)), (3, .int (0 : Int32)), (0, .ref (a 0)), (1, .int x1), (2, .int x2)]) hx hb dX11_priceOf_6 hl (by decide) rfl (fun ls hl => ?_)
  have j := J8 zz_N x1 x2 (0 : Int32) (0 : Int32) (0 : Int32) hm
  rw [hG] at j
  exact j H locs ls hP hD hS (lv_sub hl [3, 4, 5, 2, 1, 0] rfl)
def mX11_worth (x1 : Int32) (z : zz_M) : Option Int64 := zz_ck (zz_in (((4 : Int32) * x1) + (2 : Int32)) 32) (zz_ck (zz_in (((4 : Int32) * x1) + (1 : Int32)) 32) (zz_ck (zz_in (((4 : Int32) * x1) + (3 : Int32)) 32) (zz_b1 (mX11_priceOf (z.1 5 (((4 : Int32) * x1) + (1 : Int32)).toNatClampNeg) (z.1 5 (((4 : Int32) * x1) + (3 : Int32)).toNatClampNeg) z) (fun r4 => some (((z.1 5 (((4 : Int32) * x1) + (2 : Int32)).toNatClampNeg).toInt64) * r4.toInt64)))))
theorem nX11_worth_X11 : ∀ w ∈ wsX110, w ∈ wsX11_worth := fun _ h => List.mem_cons_of_mem _ (List.mem_append_right _ (h))
theorem zdX11_worth : yX11_worth.cls = RX11 ∧ yX11_worth.cls ≠ "java/lang/invoke/MethodHandle" ∧ yX11_worth.cls ≠ "java/lang/invoke/VarHandle" ∧ (parseMethodDescriptor yX11_worth.desc).map (fun d => d.parameters.length) = some 1 := by decide +kernel
set_option maxHeartbeats 4000000 in
set_option maxRecDepth 100000 in
theorem zX11_worth (l : Launch) (D : va_G) (y : Nat → ClassId) (a : Nat → Nat) (sz : Nat) (x1 : Int32) (z : zz_M) {r : Int64} (hm : mX11_worth x1 z = some r) : Met l yX11_worth wsX11_worth { frames := 2, cells := 0, slots := 0, locals := 46 } (zz_Pc D y (wR y a z) sz [.ref (a 0), .int x1]) (zz_Ql D y (wR y a) (va_A (wR y a z) sz) r z) 0 0 (va_A (wR y a z) sz) := by
  refine Met.ofW (cc := cX11_worth) (maxL := 2) (ret := (some .long)) (by decide) rfl ?_
  intro p e s m args below meth c s₁ B hml hv
  obtain ⟨rfl, hsz, hP, hK, hD0, hN, hg⟩ := hv
  have hx := B.exec
  have hb := B.bytes
  have hr := B.returns
  have hts := atoms_spec (ws := wsX11_worth) B.pre
  have hown : s.vm.findClass RX11 = some m.cls := findClass_of_methodNamed B.named
  have hlocks := B.notSynchronized
  clear B
  subst hsz
  have hD := hD0.self (sz := s.heap.size)
  generalize hAe : va_A (wR y a z) s.heap.size = A at hD hg ⊢
  have hA : ∀ q : Nat, s.heap.size ≤ q → A q := fun q h => by rw [← hAe]; exact Or.inr h
  clear hAe hD0
  have hl := lv_entry ([.ref (a 0), .int x1]) (n := 2) (Nat.le_of_ble_eq_true rfl)
  rw [lg_entry_eq]
  generalize (lg_sl ([.ref (a 0), .int x1]) ++ List.replicate (2 - (lg_sl ([.ref (a 0), .int x1])).length) Slot.unset).toArray = ls at hl ⊢
  replace hl : lv_has ls 2 [(0, .ref (a 0)), (1, .int x1)] := hl
  refine zz_go (w := wR y a) hP hD va_S.rf hl (fun G hG => ?_)
  clear hP hD hl ls
  rw [hG]
  intro H locs ls hP hD hS hl
  unfold mX11_worth at hm
  refine lv_aload_n hx hb dX11_worth_0 rfl (lv_at hl 0 rfl) ?_
  refine va_get (D := D) (ci := 11) (v := .ref (a 5)) (C := RX11) (T := TX11) (N := 35) hx hb hts nX11_worth_X11 hown hK hP 0 (wR_0 y a z) rfl 5 (by decide) (hts (.fieldLink RX11 22 "WorksDeskModel" "changes" "[I") (List.mem_of_getElem? (i := 1) rfl)) (fun _ h9 => h9) rfl dX11_worth_1 ?_
  refine lv_iconst (v := (4 : Int32)) hx hb dX11_worth_4 (by decide) ?_
  refine lv_iload_n hx hb dX11_worth_5 rfl (lv_at hl 1 rfl) ?_
  refine lv_imul hx hb dX11_worth_6 ?_
  refine lv_iconst (v := (2 : Int32)) hx hb dX11_worth_7 (by decide) ?_
  refine lv_iadd hx hb dX11_worth_8 ?_
  obtain ⟨c1, hm⟩ := zz_ck_some hm
  refine va_iald hx hb hK hP 5 0 (wR_5 y a z) rfl c1 dX11_worth_9 ?_
  refine lv_i2l hx hb dX11_worth_10 rfl ?_
  refine lv_aload_n hx hb dX11_worth_11 rfl (lv_at hl 0 rfl) ?_
  refine lv_aload_n hx hb dX11_worth_12 rfl (lv_at hl 0 rfl) ?_
  refine va_get (D := D) (ci := 11) (v := .ref (a 5)) (C := RX11) (T := TX11) (N := 35) hx hb hts nX11_worth_X11 hown hK hP 0 (wR_0 y a z) rfl 5 (by decide) (hts (.fieldLink RX11 22 "WorksDeskModel" "changes" "[I") (List.mem_of_getElem? (i := 1) rfl)) (fun _ h9 => h9) rfl dX11_worth_13 ?_
  refine lv_iconst (v := (4 : Int32)) hx hb dX11_worth_16 (by decide) ?_
  refine lv_iload_n hx hb dX11_worth_17 rfl (lv_at hl 1 rfl) ?_
  refine lv_imul hx hb dX11_worth_18 ?_
  refine lv_iconst (v := (1 : Int32)) hx hb dX11_worth_19 (by decide) ?_
  refine lv_iadd hx hb dX11_worth_20 ?_
  obtain ⟨c2, hm⟩ := zz_ck_some hm
  refine va_iald hx hb hK hP 5 0 (wR_5 y a z) rfl c2 dX11_worth_21 ?_
  refine lv_aload_n hx hb dX11_worth_22 rfl (lv_at hl 0 rfl) ?_
  refine va_get (D := D) (ci := 11) (v := .ref (a 5)) (C := RX11) (T := TX11) (N := 35) hx hb hts nX11_worth_X11 hown hK hP 0 (wR_0 y a z) rfl 5 (by decide) (hts (.fieldLink RX11 22 "WorksDeskModel" "changes" "[I") (List.mem_of_getElem? (i := 1) rfl)) (fun _ h9 => h9) rfl dX11_worth_23 ?_
  refine lv_iconst (v := (4 : Int32)) hx hb dX11_worth_26 (by decide) ?_
  refine lv_iload_n hx hb dX11_worth_27 rfl (lv_at hl 1 rfl) ?_
  refine lv_imul hx hb dX11_worth_28 ?_
  refine lv_iconst (v := (3 : Int32)) hx hb dX11_worth_29 (by decide) ?_
  refine lv_iadd hx hb dX11_worth_30 ?_
  obtain ⟨c3, hm⟩ := zz_ck_some hm
  refine va_iald hx hb hK hP 5 0 (wR_5 y a z) rfl c3 dX11_worth_31 ?_
  obtain ⟨r4, h5, hm⟩ := zz_b1_some hm
  refine zz_calli (zz_runV (w := wR y a) (As := [.int (z.1 5 (((4 : Int32) * x1) + (1 : Int32)).toNatClampNeg), .int (z.1 5 (((4 : Int32) * x1) + (3 : Int32)).toNatClampNeg)]) (rest := [.long ((z.1 5 (((4 : Int32) * x1) + (2 : Int32)).toNatClampNeg).toInt64)]) ⟨hx, hb, hml, hown, hts⟩ (zX11_priceOf l D y a H.size (z.1 5 (((4 : Int32) * x1) + (1 : Int32)).toNatClampNeg) (z.1 5 (((4 : Int32) * x1) + (3 : Int32)).toNatClampNeg) z h5) (cwV 2 hts gX11_worth_X11_priceOf rfl rfl rfl zdX11_priceOf ⟨Nat.le_of_ble_eq_true rfl, Nat.le_of_ble_eq_true rfl⟩) hK hN hg hP hD hS hA 0 (wR_0 y a z) rfl rfl hl.1 rfl (Nat.le_of_ble_eq_true rfl) dX11_worth_32 ⟨Nat.le_of_ble_eq_true rfl, Nat.le_of_ble_eq_true rfl⟩) hD hS hA (fun H locs hP hD hS => ?_)
  refine lv_i2l hx hb dX11_worth_35 rfl ?_
  refine lv_lmul hx hb dX11_worth_36 ?_
  exact zz_lret hx hb hr hlocks ⟨zz_some1 hm, rfl⟩ hP hK hD hS dX11_worth_37
def mX11_variedIn_b38 (z : zz_M) (k5 : Int32 → Int64 → Int32 → Option Int64) (v1 : Int32) (v4 : Int32) (t0 : Int64) (t1 : Int64) : Option Int64 := zz_nm (t1 + t0) (fun n1 => zz_nm (v4 + (1 : Int32)) (fun n2 => k5 v1 n1 n2))
def mX11_variedIn_b5 (z : zz_M) : Nat → Int32 → Int64 → Int32 → Option Int64
  | 0, _, _, _ => none
  | n + 1, v1, v2, v4 => if (z.2.2.1 6) ≤ v4 then (some v2) else (zz_ck (zz_in ((4 : Int32) * v4) 32) (if v1 < (z.1 5 ((4 : Int32) * v4).toNatClampNeg) then (mX11_variedIn_b38 z (mX11_variedIn_b5 z n) v1 v4 (0 : Int64) v2) else (zz_b1 (mX11_worth v4 z) (fun r6 => mX11_variedIn_b38 z (mX11_variedIn_b5 z n) v1 v4 r6 v2))))
def mX11_variedIn (x1 : Int32) (z : zz_M) : Option Int64 := mX11_variedIn_b5 z zz_N x1 (0 : Int64) (0 : Int32)
theorem nX11_variedIn_X11 : ∀ w ∈ wsX110, w ∈ wsX11_variedIn := fun _ h => List.mem_cons_of_mem _ (List.mem_append_right _ (h))
theorem zdX11_variedIn : yX11_variedIn.cls = RX11 ∧ yX11_variedIn.cls ≠ "java/lang/invoke/MethodHandle" ∧ yX11_variedIn.cls ≠ "java/lang/invoke/VarHandle" ∧ (parseMethodDescriptor yX11_variedIn.desc).map (fun d => d.parameters.length) = some 1 := by decide +kernel
set_option maxHeartbeats 4000000 in
set_option maxRecDepth 100000 in
theorem zX11_variedIn (l : Launch) (D : va_G) (y : Nat → ClassId) (a : Nat → Nat) (sz : Nat) (x1 : Int32) (z : zz_M) {r : Int64} (hm : mX11_variedIn x1 z = some r) : Met l yX11_variedIn wsX11_variedIn { frames := 3, cells := 0, slots := 0, locals := 67 } (zz_Pc D y (wR y a z) sz [.ref (a 0), .int x1]) (zz_Ql D y (wR y a) (va_A (wR y a z) sz) r z) 0 0 (va_A (wR y a z) sz) := by
  refine Met.ofW (cc := cX11_variedIn) (maxL := 5) (ret := (some .long)) (by decide) rfl ?_
  intro p e s m args below meth c s₁ B hml hv
  obtain ⟨rfl, hsz, hP, hK, hD0, hN, hg⟩ := hv
  have hx := B.exec
  have hb := B.bytes
  have hr := B.returns
  have hts := atoms_spec (ws := wsX11_variedIn) B.pre
  have hown : s.vm.findClass RX11 = some m.cls := findClass_of_methodNamed B.named
  have hlocks := B.notSynchronized
  clear B
  subst hsz
  have hD := hD0.self (sz := s.heap.size)
  generalize hAe : va_A (wR y a z) s.heap.size = A at hD hg ⊢
  have hA : ∀ q : Nat, s.heap.size ≤ q → A q := fun q h => by rw [← hAe]; exact Or.inr h
  clear hAe hD0
  have hl := lv_entry ([.ref (a 0), .int x1]) (n := 5) (Nat.le_of_ble_eq_true rfl)
  rw [lg_entry_eq]
  generalize (lg_sl ([.ref (a 0), .int x1]) ++ List.replicate (5 - (lg_sl ([.ref (a 0), .int x1])).length) Slot.unset).toArray = ls at hl ⊢
  replace hl : lv_has ls 5 [(0, .ref (a 0)), (1, .int x1)] := hl
  refine zz_go (w := wR y a) hP hD va_S.rf hl (fun G hG => ?_)
  clear hP hD hl ls
  have J38 : ∀ (k5 : Int32 → Int64 → Int32 → Option Int64) (K5 : ∀ (v1 : Int32) (v2 : Int64) (v4 : Int32), k5 v1 v2 v4 = some r → G 5 [(0, .ref (a 0)), (1, .int v1), (2, .long v2), (4, .int v4)] [] z) (v1 : Int32) (v4 : Int32) (t0 : Int64) (t1 : Int64), mX11_variedIn_b38 z k5 v1 v4 t0 t1 = some r → G 38 [(0, .ref (a 0)), (1, .int v1), (4, .int v4)] [.long t0, .long t1] z := by
    intro k5 K5 v1 v4 t0 t1 hm
    rw [mX11_variedIn_b38] at hm
    rw [hG]
    intro H locs ls hP hD hS hl
    refine lv_ladd hx hb dX11_variedIn_38 ?_
    refine lv_topl (fun n1 en1 => ?_)
    replace hm := zz_nm_some en1 hm
    refine lv_lstore_n (lv' := [(2, .long n1), (0, .ref (a 0)), (1, .int v1), (4, .int v4)]) hx hb dX11_variedIn_39 rfl hl (by decide) rfl (fun ls hl => ?_)
    obtain ⟨n2, en2⟩ : ∃ q : Int32, q = v4 + (1 : Int32) := ⟨_, rfl⟩
    replace hm := zz_nm_some en2 hm
    refine lv_iinc (v := n2) (lv' := [(4, .int n2), (2, .long n1), (0, .ref (a 0)), (1, .int v1)]) hx hb dX11_variedIn_40 hl (k := 3) rfl (by rw [en2]; rfl) (by decide) rfl (fun ls hl => ?_)
    refine lv_goto (tgt := 5) hx hb dX11_variedIn_43 (by decide) ?_
    have j := K5 v1 n1 n2 hm
    rw [hG] at j
    exact j H locs ls hP hD hS (lv_sub hl [2, 3, 1, 0] rfl)
  have J5 : ∀ (n : Nat) (v1 : Int32) (v2 : Int64) (v4 : Int32), mX11_variedIn_b5 z n v1 v2 v4 = some r → G 5 [(0, .ref (a 0)), (1, .int v1), (2, .long v2), (4, .int v4)] [] z := by
    intro n
    induction n with
    | zero =>
      intro v1 v2 v4 hm
      exact zz_none hm
    | succ n ih =>
      intro v1 v2 v4 hm
      rw [mX11_variedIn_b5] at hm
      rw [hG]
      intro H locs ls hP hD hS hl
      refine lv_iload hx hb dX11_variedIn_5 (lv_at hl 3 rfl) ?_
      refine lv_aload_n hx hb dX11_variedIn_7 rfl (lv_at hl 0 rfl) ?_
      refine va_get (D := D) (ci := 11) (v := .int (z.2.2.1 6)) (C := RX11) (T := TX11) (N := 35) hx hb hts nX11_variedIn_X11 hown hK hP 0 (wR_0 y a z) rfl 6 (by decide) (hts (.fieldLink RX11 79 "WorksDeskModel" "changeMany" "I") (List.mem_of_getElem? (i := 1) rfl)) (fun _ h9 => h9) rfl dX11_variedIn_8 ?_
      refine lv_icmp_ge (tgt := 46) hx hb dX11_variedIn_11 (by decide) (fun c3 => ?_) (fun c3 => ?_)
      · replace hm := zz_pos c3 hm
        refine lv_lload_n hx hb dX11_variedIn_46 rfl (lv_at hl 2 rfl) ?_
        exact zz_lret hx hb hr hlocks ⟨zz_some1 hm, rfl⟩ hP hK hD hS dX11_variedIn_47
      · replace hm := zz_neg c3 hm
        refine lv_lload_n hx hb dX11_variedIn_14 rfl (lv_at hl 2 rfl) ?_
        refine lv_aload_n hx hb dX11_variedIn_15 rfl (lv_at hl 0 rfl) ?_
        refine va_get (D := D) (ci := 11) (v := .ref (a 5)) (C := RX11) (T := TX11) (N := 35) hx hb hts nX11_variedIn_X11 hown hK hP 0 (wR_0 y a z) rfl 5 (by decide) (hts (.fieldLink RX11 22 "WorksDeskModel" "changes" "[I") (List.mem_of_getElem? (i := 2) rfl)) (fun _ h9 => h9) rfl dX11_variedIn_16 ?_
        refine lv_iconst (v := (4 : Int32)) hx hb dX11_variedIn_19 (by decide) ?_
        refine lv_iload hx hb dX11_variedIn_20 (lv_at hl 3 rfl) ?_
        refine lv_imul hx hb dX11_variedIn_22 ?_
        obtain ⟨c4, hm⟩ := zz_ck_some hm
        refine va_iald hx hb hK hP 5 0 (wR_5 y a z) rfl c4 dX11_variedIn_23 ?_
        refine lv_iload_n hx hb dX11_variedIn_24 rfl (lv_at hl 1 rfl) ?_
        refine lv_icmp_gt (tgt := 37) hx hb dX11_variedIn_25 (by decide) (fun c5 => ?_) (fun c5 => ?_)
        · replace hm := zz_pos c5 hm
          refine lv_lconst (v := (0 : Int64)) hx hb dX11_variedIn_37 (by decide) ?_
          have j := J38 (mX11_variedIn_b5 z n) ih v1 v4 (0 : Int64) v2 hm
          rw [hG] at j
          exact j H locs ls hP hD hS (lv_sub hl [0, 1, 3] rfl)
        · replace hm := zz_neg c5 hm
          refine lv_aload_n hx hb dX11_variedIn_28 rfl (lv_at hl 0 rfl) ?_
          refine lv_iload hx hb dX11_variedIn_29 (lv_at hl 3 rfl) ?_
          obtain ⟨r6, h7, hm⟩ := zz_b1_some hm
          refine zz_calll (zz_runV (w := wR y a) (As := [.int v4]) (rest := [.long v2]) ⟨hx, hb, hml, hown, hts⟩ (zX11_worth l D y a H.size v4 z h7) (cwV 1 hts gX11_variedIn_X11_worth rfl rfl rfl zdX11_worth ⟨Nat.le_of_ble_eq_true rfl, Nat.le_of_ble_eq_true rfl⟩) hK hN hg hP hD hS hA 0 (wR_0 y a z) rfl rfl hl.1 rfl (Nat.le_of_ble_eq_true rfl) dX11_variedIn_31 ⟨Nat.le_of_ble_eq_true rfl, Nat.le_of_ble_eq_true rfl⟩) hD hS hA (fun H locs hP hD hS => ?_)
          refine lv_goto (tgt := 38) hx hb dX11_variedIn_34 (by decide) ?_
          have j := J38 (mX11_variedIn_b5 z n) ih v1 v4 r6 v2 hm
          rw [hG] at j
          exact j H locs ls hP hD hS (lv_sub hl [0, 1, 3] rfl)
  rw [hG]
  intro H locs ls hP hD hS hl
  unfold mX11_variedIn at hm
  refine lv_lconst (v := (0 : Int64)) hx hb dX11_variedIn_0 (by decide) ?_
  refine lv_lstore_n (lv' := [(2, .long (0 : Int64)), (0, .ref (a 0)), (1, .int x1)]) hx hb dX11_variedIn_1 rfl hl (by decide) rfl (fun ls hl => ?_)
  refine lv_iconst (v := (0 : Int32)) hx hb dX11_variedIn_2 (by decide) ?_
  refine lv_istore (lv' := [(4, .int (0 : Int32)), (2, .long (0 : Int64)), (0, .ref (a 0)), (1, .int x1)]) hx hb dX11_variedIn_3 hl (by decide) rfl (fun ls hl => ?_)
  have j := J5 zz_N x1 (0 : Int64) (0 : Int32) hm
  rw [hG] at j
  exact j H locs ls hP hD hS (lv_sub hl [2, 3, 1, 0] rfl)
def mX11_workIn_b9 (z : zz_M) : Nat → Int32 → Int64 → Int32 → Option Int64
  | 0, _, _, _ => none
  | n + 1, v1, v2, v4 => if (z.2.2.1 2) ≤ v4 then (some v2) else (zz_b1 (mX11_partOf v1 v4 z) (fun r2 => zz_nm (v2 + r2) (fun n4 => zz_nm (v4 + (1 : Int32)) (fun n5 => (mX11_workIn_b9 z n) v1 n4 n5))))
def mX11_workIn (x1 : Int32) (z : zz_M) : Option Int64 := zz_b1 (mX11_variedIn x1 z) (fun r6 => mX11_workIn_b9 z zz_N x1 r6 (0 : Int32))
theorem nX11_workIn_X11 : ∀ w ∈ wsX110, w ∈ wsX11_workIn := fun _ h => List.mem_cons_of_mem _ (List.mem_append_right _ (h))
theorem zdX11_workIn : yX11_workIn.cls = RX11 ∧ yX11_workIn.cls ≠ "java/lang/invoke/MethodHandle" ∧ yX11_workIn.cls ≠ "java/lang/invoke/VarHandle" ∧ (parseMethodDescriptor yX11_workIn.desc).map (fun d => d.parameters.length) = some 1 := by decide +kernel
set_option maxHeartbeats 4000000 in
set_option maxRecDepth 100000 in
theorem zX11_workIn (l : Launch) (D : va_G) (y : Nat → ClassId) (a : Nat → Nat) (sz : Nat) (x1 : Int32) (z : zz_M) {r : Int64} (hm : mX11_workIn x1 z = some r) : Met l yX11_workIn wsX11_workIn { frames := 4, cells := 0, slots := 0, locals := 91 } (zz_Pc D y (wR y a z) sz [.ref (a 0), .int x1]) (zz_Ql D y (wR y a) (va_A (wR y a z) sz) r z) 0 0 (va_A (wR y a z) sz) := by
  refine Met.ofW (cc := cX11_workIn) (maxL := 5) (ret := (some .long)) (by decide) rfl ?_
  intro p e s m args below meth c s₁ B hml hv
  obtain ⟨rfl, hsz, hP, hK, hD0, hN, hg⟩ := hv
  have hx := B.exec
  have hb := B.bytes
  have hr := B.returns
  have hts := atoms_spec (ws := wsX11_workIn) B.pre
  have hown : s.vm.findClass RX11 = some m.cls := findClass_of_methodNamed B.named
  have hlocks := B.notSynchronized
  clear B
  subst hsz
  have hD := hD0.self (sz := s.heap.size)
  generalize hAe : va_A (wR y a z) s.heap.size = A at hD hg ⊢
  have hA : ∀ q : Nat, s.heap.size ≤ q → A q := fun q h => by rw [← hAe]; exact Or.inr h
  clear hAe hD0
  have hl := lv_entry ([.ref (a 0), .int x1]) (n := 5) (Nat.le_of_ble_eq_true rfl)
  rw [lg_entry_eq]
  generalize (lg_sl ([.ref (a 0), .int x1]) ++ List.replicate (5 - (lg_sl ([.ref (a 0), .int x1])).length) Slot.unset).toArray = ls at hl ⊢
  replace hl : lv_has ls 5 [(0, .ref (a 0)), (1, .int x1)] := hl
  refine zz_go (w := wR y a) hP hD va_S.rf hl (fun G hG => ?_)
  clear hP hD hl ls
  have J9 : ∀ (n : Nat) (v1 : Int32) (v2 : Int64) (v4 : Int32), mX11_workIn_b9 z n v1 v2 v4 = some r → G 9 [(0, .ref (a 0)), (1, .int v1), (2, .long v2), (4, .int v4)] [] z := by
    intro n
    induction n with
    | zero =>
      intro v1 v2 v4 hm
      exact zz_none hm
    | succ n ih =>
      intro v1 v2 v4 hm
      rw [mX11_workIn_b9] at hm
      rw [hG]
      intro H locs ls hP hD hS hl
      refine lv_iload hx hb dX11_workIn_9 (lv_at hl 3 rfl) ?_
      refine lv_aload_n hx hb dX11_workIn_11 rfl (lv_at hl 0 rfl) ?_
      refine va_get (D := D) (ci := 11) (v := .int (z.2.2.1 2)) (C := RX11) (T := TX11) (N := 35) hx hb hts nX11_workIn_X11 hown hK hP 0 (wR_0 y a z) rfl 2 (by decide) (hts (.fieldLink RX11 75 "WorksDeskModel" "itemMany" "I") (List.mem_of_getElem? (i := 1) rfl)) (fun _ h9 => h9) rfl dX11_workIn_12 ?_
      refine lv_icmp_ge (tgt := 34) hx hb dX11_workIn_15 (by decide) (fun c1 => ?_) (fun c1 => ?_)
      · replace hm := zz_pos c1 hm
        refine lv_lload_n hx hb dX11_workIn_34 rfl (lv_at hl 2 rfl) ?_
        exact zz_lret hx hb hr hlocks ⟨zz_some1 hm, rfl⟩ hP hK hD hS dX11_workIn_35
      · replace hm := zz_neg c1 hm
        refine lv_lload_n hx hb dX11_workIn_18 rfl (lv_at hl 2 rfl) ?_
        refine lv_aload_n hx hb dX11_workIn_19 rfl (lv_at hl 0 rfl) ?_
        refine lv_iload_n hx hb dX11_workIn_20 rfl (lv_at hl 1 rfl) ?_
        refine lv_iload hx hb dX11_workIn_21 (lv_at hl 3 rfl) ?_
        obtain ⟨r2, h3, hm⟩ := zz_b1_some hm
        refine zz_calll (zz_runV (w := wR y a) (As := [.int v1, .int v4]) (rest := [.long v2]) ⟨hx, hb, hml, hown, hts⟩ (zX11_partOf l D y a H.size v1 v4 z h3) (cwV 2 hts gX11_workIn_X11_partOf rfl rfl rfl zdX11_partOf ⟨Nat.le_of_ble_eq_true rfl, Nat.le_of_ble_eq_true rfl⟩) hK hN hg hP hD hS hA 0 (wR_0 y a z) rfl rfl hl.1 rfl (Nat.le_of_ble_eq_true rfl) dX11_workIn_23 ⟨Nat.le_of_ble_eq_true rfl, Nat.le_of_ble_eq_true rfl⟩) hD hS hA (fun H locs hP hD hS => ?_)
        refine lv_ladd hx hb dX11_workIn_26 ?_
        refine lv_topl (fun n4 en4 => ?_)
        replace hm := zz_nm_some en4 hm
        refine lv_lstore_n (lv' := [(2, .long n4), (0, .ref (a 0)), (1, .int v1), (4, .int v4)]) hx hb dX11_workIn_27 rfl hl (by decide) rfl (fun ls hl => ?_)
        obtain ⟨n5, en5⟩ : ∃ q : Int32, q = v4 + (1 : Int32) := ⟨_, rfl⟩
        replace hm := zz_nm_some en5 hm
        refine lv_iinc (v := n5) (lv' := [(4, .int n5), (2, .long n4), (0, .ref (a 0)), (1, .int v1)]) hx hb dX11_workIn_28 hl (k := 3) rfl (by rw [en5]; rfl) (by decide) rfl (fun ls hl => ?_)
        refine lv_goto (tgt := 9) hx hb dX11_workIn_31 (by decide) ?_
        have j := ih v1 n4 n5 hm
        rw [hG] at j
        exact j H locs ls hP hD hS (lv_sub hl [2, 3, 1, 0] rfl)
  rw [hG]
  intro H locs ls hP hD hS hl
  unfold mX11_workIn at hm
  refine lv_aload_n hx hb dX11_workIn_0 rfl (lv_at hl 0 rfl) ?_
  refine lv_iload_n hx hb dX11_workIn_1 rfl (lv_at hl 1 rfl) ?_
  obtain ⟨r6, h7, hm⟩ := zz_b1_some hm
  refine zz_calll (zz_runV (w := wR y a) (As := [.int x1]) (rest := []) ⟨hx, hb, hml, hown, hts⟩ (zX11_variedIn l D y a H.size x1 z h7) (cwV 1 hts gX11_workIn_X11_variedIn rfl rfl rfl zdX11_variedIn ⟨Nat.le_of_ble_eq_true rfl, Nat.le_of_ble_eq_true rfl⟩) hK hN hg hP hD hS hA 0 (wR_0 y a z) rfl rfl hl.1 rfl (Nat.le_of_ble_eq_true rfl) dX11_workIn_2 ⟨Nat.le_of_ble_eq_true rfl, Nat.le_of_ble_eq_true rfl⟩) hD hS hA (fun H locs hP hD hS => ?_)
  refine lv_lstore_n (lv' := [(2, .long r6), (0, .ref (a 0)), (1, .int x1)]) hx hb dX11_workIn_5 rfl hl (by decide) rfl (fun ls hl => ?_)
  refine lv_iconst (v := (0 : Int32)) hx hb dX11_workIn_6 (by decide) ?_
  refine lv_istore (lv' := [(4, .int (0 : Int32)), (2, .long r6), (0, .ref (a 0)), (1, .int x1)]) hx hb dX11_workIn_7 hl (by decide) rfl (fun ls hl => ?_)
  have j := J9 zz_N x1 r6 (0 : Int32) hm
  rw [hG] at j
  exact j H locs ls hP hD hS (lv_sub hl [2, 3, 1, 0] rfl)
def mX11_retainedIn_b60 (z : zz_M) (t0 : Int64) : Option Int64 := some t0
def mX11_retainedIn (x1 : Int32) (z : zz_M) : Option Int64 := if x1 < (z.2.2.1 10) then (zz_b1 (mX11_limitNow z) (fun r2 => zz_b1 (mX11_workIn x1 z) (fun r4 => zz_ck (zz_in (0 : Int32) 14) (zz_b1 (mX11_thousandths (if r4 < (0 : Int64) then (0 : Int64) else r4) (z.1 1 (0 : Int32).toNatClampNeg)) (fun r7 => zz_nm (if r7 < r2 then r7 else r2) (fun n9 => if x1 < (z.2.2.1 9) then (mX11_retainedIn_b60 z n9) else (zz_ck (zz_in (2 : Int32) 14) (zz_b1 (mX11_thousandths n9 (z.1 1 (2 : Int32).toNatClampNeg)) (fun r12 => mX11_retainedIn_b60 z (n9 - r12)))))))))) else (some (0 : Int64))
theorem nX11_retainedIn_X11 : ∀ w ∈ wsX110, w ∈ wsX11_retainedIn := fun _ h => List.mem_cons_of_mem _ (List.mem_append_right _ (h))
theorem zdX11_retainedIn : yX11_retainedIn.cls = RX11 ∧ yX11_retainedIn.cls ≠ "java/lang/invoke/MethodHandle" ∧ yX11_retainedIn.cls ≠ "java/lang/invoke/VarHandle" ∧ (parseMethodDescriptor yX11_retainedIn.desc).map (fun d => d.parameters.length) = some 1 := by decide +kernel
set_option maxHeartbeats 4000000 in
set_option maxRecDepth 100000 in
theorem zX11_retainedIn (l : Launch) (D : va_G) (y : Nat → ClassId) (a : Nat → Nat) (sz : Nat) (x1 : Int32) (z : zz_M) {r : Int64} (hm : mX11_retainedIn x1 z = some r) : Met l yX11_retainedIn wsX11_retainedIn { frames := 5, cells := 0, slots := 0, locals := 115 } (zz_Pc D y (wR y a z) sz [.ref (a 0), .int x1]) (zz_Ql D y (wR y a) (va_A (wR y a z) sz) r z) 0 0 (va_A (wR y a z) sz) := by
  refine Met.ofW (cc := cX11_retainedIn) (maxL := 4) (ret := (some .long)) (by decide) rfl ?_
  intro p e s m args below meth c s₁ B hml hv
  obtain ⟨rfl, hsz, hP, hK, hD0, hN, hg⟩ := hv
  have hx := B.exec
  have hb := B.bytes
  have hr := B.returns
  have hts := atoms_spec (ws := wsX11_retainedIn) B.pre
  have hown : s.vm.findClass RX11 = some m.cls := findClass_of_methodNamed B.named
  have hlocks := B.notSynchronized
  clear B
  subst hsz
  have hD := hD0.self (sz := s.heap.size)
  generalize hAe : va_A (wR y a z) s.heap.size = A at hD hg ⊢
  have hA : ∀ q : Nat, s.heap.size ≤ q → A q := fun q h => by rw [← hAe]; exact Or.inr h
  clear hAe hD0
  have hl := lv_entry ([.ref (a 0), .int x1]) (n := 4) (Nat.le_of_ble_eq_true rfl)
  rw [lg_entry_eq]
  generalize (lg_sl ([.ref (a 0), .int x1]) ++ List.replicate (4 - (lg_sl ([.ref (a 0), .int x1])).length) Slot.unset).toArray = ls at hl ⊢
  replace hl : lv_has ls 4 [(0, .ref (a 0)), (1, .int x1)] := hl
  refine zz_go (w := wR y a) hP hD va_S.rf hl (fun G hG => ?_)
  clear hP hD hl ls
  have J60 : ∀ (t0 : Int64), mX11_retainedIn_b60 z t0 = some r → G 60 [] [.long t0] z := by
    intro t0 hm
    rw [mX11_retainedIn_b60] at hm
    rw [hG]
    intro H locs ls hP hD hS hl
    exact zz_lret hx hb hr hlocks ⟨zz_some1 hm, rfl⟩ hP hK hD hS dX11_retainedIn_60
  rw [hG]
  intro H locs ls hP hD hS hl
  unfold mX11_retainedIn at hm
  refine lv_iload_n hx hb dX11_retainedIn_0 rfl (lv_at hl 1 rfl) ?_
  refine lv_aload_n hx hb dX11_retainedIn_1 rfl (lv_at hl 0 rfl) ?_
  refine va_get (D := D) (ci := 11) (v := .int (z.2.2.1 10)) (C := RX11) (T := TX11) (N := 35) hx hb hts nX11_retainedIn_X11 hown hK hP 0 (wR_0 y a z) rfl 10 (by decide) (hts (.fieldLink RX11 88 "WorksDeskModel" "last" "I") (List.mem_of_getElem? (i := 1) rfl)) (fun _ h9 => h9) rfl dX11_retainedIn_2 ?_
  refine lv_icmp_lt (tgt := 10) hx hb dX11_retainedIn_5 (by decide) (fun c1 => ?_) (fun c1 => ?_)
  · replace hm := zz_pos c1 hm
    refine lv_aload_n hx hb dX11_retainedIn_10 rfl (lv_at hl 0 rfl) ?_
    obtain ⟨r2, h3, hm⟩ := zz_b1_some hm
    refine zz_calll (zz_runV (w := wR y a) (As := []) (rest := []) ⟨hx, hb, hml, hown, hts⟩ (zX11_limitNow l D y a H.size z h3) (cwV 0 hts gX11_retainedIn_X11_limitNow rfl rfl rfl zdX11_limitNow ⟨Nat.le_of_ble_eq_true rfl, Nat.le_of_ble_eq_true rfl⟩) hK hN hg hP hD hS hA 0 (wR_0 y a z) rfl rfl hl.1 rfl (Nat.le_of_ble_eq_true rfl) dX11_retainedIn_11 ⟨Nat.le_of_ble_eq_true rfl, Nat.le_of_ble_eq_true rfl⟩) hD hS hA (fun H locs hP hD hS => ?_)
    refine lv_lconst (v := (0 : Int64)) hx hb dX11_retainedIn_14 (by decide) ?_
    refine lv_aload_n hx hb dX11_retainedIn_15 rfl (lv_at hl 0 rfl) ?_
    refine lv_iload_n hx hb dX11_retainedIn_16 rfl (lv_at hl 1 rfl) ?_
    obtain ⟨r4, h5, hm⟩ := zz_b1_some hm
    refine zz_calll (zz_runV (w := wR y a) (As := [.int x1]) (rest := [.long (0 : Int64), .long r2]) ⟨hx, hb, hml, hown, hts⟩ (zX11_workIn l D y a H.size x1 z h5) (cwV 1 hts gX11_retainedIn_X11_workIn rfl rfl rfl zdX11_workIn ⟨Nat.le_of_ble_eq_true rfl, Nat.le_of_ble_eq_true rfl⟩) hK hN hg hP hD hS hA 0 (wR_0 y a z) rfl rfl hl.1 rfl (Nat.le_of_ble_eq_true rfl) dX11_retainedIn_17 ⟨Nat.le_of_ble_eq_true rfl, Nat.le_of_ble_eq_true rfl⟩) hD hS hA (fun H locs hP hD hS => ?_)
    refine va_mmax_long hx hb (hml.trans hl.1.symm) hown (hts (.methodLink RX11 259 Lib.MathLoose.max_long.x) (List.mem_of_getElem? (i := 2) rfl)) (hts (.static Lib.MathLoose.max_long.x) (List.mem_of_getElem? (i := 3) rfl)) (hts (.initialized "java/lang/Math") (List.mem_of_getElem? (i := 4) rfl)) (hts (.code Lib.MathLoose.max_long.x Lib.MathLoose.max_long.code 4 (some .long)) (List.mem_of_getElem? (i := 5) rfl)) (Nat.le_of_ble_eq_true rfl) (Nat.le_of_ble_eq_true rfl) (Nat.le_of_ble_eq_true rfl) (Nat.le_of_ble_eq_true rfl) dX11_retainedIn_20 ?_
    refine lv_aload_n hx hb dX11_retainedIn_23 rfl (lv_at hl 0 rfl) ?_
    refine va_get (D := D) (ci := 11) (v := .ref (a 1)) (C := RX11) (T := TX11) (N := 35) hx hb hts nX11_retainedIn_X11 hown hK hP 0 (wR_0 y a z) rfl 0 (by decide) (hts (.fieldLink RX11 7 "WorksDeskModel" "terms" "[I") (List.mem_of_getElem? (i := 6) rfl)) (fun _ h9 => h9) rfl dX11_retainedIn_24 ?_
    refine lv_iconst (v := (0 : Int32)) hx hb dX11_retainedIn_27 (by decide) ?_
    obtain ⟨c6, hm⟩ := zz_ck_some hm
    refine va_iald hx hb hK hP 1 0 (wR_1 y a z) rfl c6 dX11_retainedIn_28 ?_
    obtain ⟨r7, h8, hm⟩ := zz_b1_some hm
    refine zz_calll (zz_runS (w := wR y a) (As := [.long (if r4 < (0 : Int64) then (0 : Int64) else r4), .int (z.1 1 (0 : Int32).toNatClampNeg)]) (rest := [.long r2]) ⟨hx, hb, hml, hown, hts⟩ (zX11_thousandths l D y a H.size (if r4 < (0 : Int64) then (0 : Int64) else r4) (z.1 1 (0 : Int32).toNatClampNeg) z h8) (va_cwS 2 hts gX11_retainedIn_X11_thousandths rfl rfl rfl zdX11_thousandths ⟨Nat.le_of_ble_eq_true rfl, Nat.le_of_ble_eq_true rfl⟩) hK hN hg hP hD hS hA rfl hl.1 rfl (Nat.le_of_ble_eq_true rfl) dX11_retainedIn_29 ⟨Nat.le_of_ble_eq_true rfl, Nat.le_of_ble_eq_true rfl⟩) hD hS hA (fun H locs hP hD hS => ?_)
    refine va_mmin_long hx hb (hml.trans hl.1.symm) hown (hts (.methodLink RX11 262 Lib.MathLoose.min_long.x) (List.mem_of_getElem? (i := 7) rfl)) (hts (.static Lib.MathLoose.min_long.x) (List.mem_of_getElem? (i := 8) rfl)) (hts (.initialized "java/lang/Math") (List.mem_of_getElem? (i := 4) rfl)) (hts (.code Lib.MathLoose.min_long.x Lib.MathLoose.min_long.code 4 (some .long)) (List.mem_of_getElem? (i := 9) rfl)) (Nat.le_of_ble_eq_true rfl) (Nat.le_of_ble_eq_true rfl) (Nat.le_of_ble_eq_true rfl) (Nat.le_of_ble_eq_true rfl) dX11_retainedIn_32 ?_
    refine lv_topl (fun n9 en9 => ?_)
    replace hm := zz_nm_some en9 hm
    refine lv_lstore_n (lv' := [(2, .long n9), (0, .ref (a 0)), (1, .int x1)]) hx hb dX11_retainedIn_35 rfl hl (by decide) rfl (fun ls hl => ?_)
    refine lv_iload_n hx hb dX11_retainedIn_36 rfl (lv_at hl 2 rfl) ?_
    refine lv_aload_n hx hb dX11_retainedIn_37 rfl (lv_at hl 1 rfl) ?_
    refine va_get (D := D) (ci := 11) (v := .int (z.2.2.1 9)) (C := RX11) (T := TX11) (N := 35) hx hb hts nX11_retainedIn_X11 hown hK hP 0 (wR_0 y a z) rfl 9 (by decide) (hts (.fieldLink RX11 85 "WorksDeskModel" "handover" "I") (List.mem_of_getElem? (i := 10) rfl)) (fun _ h9 => h9) rfl dX11_retainedIn_38 ?_
    refine lv_icmp_lt (tgt := 59) hx hb dX11_retainedIn_41 (by decide) (fun c10 => ?_) (fun c10 => ?_)
    · replace hm := zz_pos c10 hm
      refine lv_lload_n hx hb dX11_retainedIn_59 rfl (lv_at hl 0 rfl) ?_
      have j := J60 n9 hm
      rw [hG] at j
      exact j H locs ls hP hD hS (lv_sub hl [] rfl)
    · replace hm := zz_neg c10 hm
      refine lv_lload_n hx hb dX11_retainedIn_44 rfl (lv_at hl 0 rfl) ?_
      refine lv_lload_n hx hb dX11_retainedIn_45 rfl (lv_at hl 0 rfl) ?_
      refine lv_aload_n hx hb dX11_retainedIn_46 rfl (lv_at hl 1 rfl) ?_
      refine va_get (D := D) (ci := 11) (v := .ref (a 1)) (C := RX11) (T := TX11) (N := 35) hx hb hts nX11_retainedIn_X11 hown hK hP 0 (wR_0 y a z) rfl 0 (by decide) (hts (.fieldLink RX11 7 "WorksDeskModel" "terms" "[I") (List.mem_of_getElem? (i := 6) rfl)) (fun _ h9 => h9) rfl dX11_retainedIn_47 ?_
      refine lv_iconst (v := (2 : Int32)) hx hb dX11_retainedIn_50 (by decide) ?_
      obtain ⟨c11, hm⟩ := zz_ck_some hm
      refine va_iald hx hb hK hP 1 0 (wR_1 y a z) rfl c11 dX11_retainedIn_51 ?_
      obtain ⟨r12, h13, hm⟩ := zz_b1_some hm
      refine zz_calll (zz_runS (w := wR y a) (As := [.long n9, .int (z.1 1 (2 : Int32).toNatClampNeg)]) (rest := [.long n9]) ⟨hx, hb, hml, hown, hts⟩ (zX11_thousandths l D y a H.size n9 (z.1 1 (2 : Int32).toNatClampNeg) z h13) (va_cwS 2 hts gX11_retainedIn_X11_thousandths rfl rfl rfl zdX11_thousandths ⟨Nat.le_of_ble_eq_true rfl, Nat.le_of_ble_eq_true rfl⟩) hK hN hg hP hD hS hA rfl hl.1 rfl (Nat.le_of_ble_eq_true rfl) dX11_retainedIn_52 ⟨Nat.le_of_ble_eq_true rfl, Nat.le_of_ble_eq_true rfl⟩) hD hS hA (fun H locs hP hD hS => ?_)
      refine lv_lsub hx hb dX11_retainedIn_55 ?_
      refine lv_goto (tgt := 60) hx hb dX11_retainedIn_56 (by decide) ?_
      have j := J60 (n9 - r12) hm
      rw [hG] at j
      exact j H locs ls hP hD hS (lv_sub hl [] rfl)
  · replace hm := zz_neg c1 hm
    refine lv_lconst (v := (0 : Int64)) hx hb dX11_retainedIn_8 (by decide) ?_
    exact zz_lret hx hb hr hlocks ⟨zz_some1 hm, rfl⟩ hP hK hD hS dX11_retainedIn_9
def mX11_heldOf_b74 (z : zz_M) (t0 : Int32) : Option Int32 := some t0
def mX11_heldOf (x1 : Int32) (x2 : Int32) (z : zz_M) : Option Int32 := zz_nm ((5 : Int32) * x1) (fun n1 => zz_ck (zz_in n1 30) (if (z.1 6 n1.toNatClampNeg) ≤ x2 then (zz_ck (zz_in (n1 + (3 : Int32)) 30) (if x2 < (z.1 6 (n1 + (3 : Int32)).toNatClampNeg) then (zz_ck (zz_in (n1 + (2 : Int32)) 30) (if x2 < (z.1 6 (n1 + (2 : Int32)).toNatClampNeg) then (zz_ck (zz_in (n1 + (1 : Int32)) 30) (mX11_heldOf_b74 z (z.1 6 (n1 + (1 : Int32)).toNatClampNeg))) else (mX11_heldOf_b74 z (0 : Int32)))) else (zz_ck (zz_in (n1 + (1 : Int32)) 30) (zz_ck (zz_in (n1 + (4 : Int32)) 30) (zz_b1 (mX11_thousandths ((z.1 6 (n1 + (1 : Int32)).toNatClampNeg).toInt64) (z.1 6 (n1 + (4 : Int32)).toNatClampNeg)) (fun r11 => some r11.toInt32)))))) else (some (0 : Int32))))
theorem nX11_heldOf_X11 : ∀ w ∈ wsX110, w ∈ wsX11_heldOf := fun _ h => List.mem_cons_of_mem _ (List.mem_append_right _ (h))
theorem zdX11_heldOf : yX11_heldOf.cls = RX11 ∧ yX11_heldOf.cls ≠ "java/lang/invoke/MethodHandle" ∧ yX11_heldOf.cls ≠ "java/lang/invoke/VarHandle" ∧ (parseMethodDescriptor yX11_heldOf.desc).map (fun d => d.parameters.length) = some 2 := by decide +kernel
set_option maxHeartbeats 4000000 in
set_option maxRecDepth 100000 in
theorem zX11_heldOf (l : Launch) (D : va_G) (y : Nat → ClassId) (a : Nat → Nat) (sz : Nat) (x1 : Int32) (x2 : Int32) (z : zz_M) {r : Int32} (hm : mX11_heldOf x1 x2 z = some r) : Met l yX11_heldOf wsX11_heldOf { frames := 1, cells := 0, slots := 0, locals := 22 } (zz_Pc D y (wR y a z) sz [.ref (a 0), .int x1, .int x2]) (zz_Qi D y (wR y a) (va_A (wR y a z) sz) r z) 0 0 (va_A (wR y a z) sz) := by
  refine Met.ofW (cc := cX11_heldOf) (maxL := 4) (ret := (some .int)) (by decide) rfl ?_
  intro p e s m args below meth c s₁ B hml hv
  obtain ⟨rfl, hsz, hP, hK, hD0, hN, hg⟩ := hv
  have hx := B.exec
  have hb := B.bytes
  have hr := B.returns
  have hts := atoms_spec (ws := wsX11_heldOf) B.pre
  have hown : s.vm.findClass RX11 = some m.cls := findClass_of_methodNamed B.named
  have hlocks := B.notSynchronized
  clear B
  subst hsz
  have hD := hD0.self (sz := s.heap.size)
  generalize hAe : va_A (wR y a z) s.heap.size = A at hD hg ⊢
  have hA : ∀ q : Nat, s.heap.size ≤ q → A q := fun q h => by rw [← hAe]; exact Or.inr h
  clear hAe hD0
  have hl := lv_entry ([.ref (a 0), .int x1, .int x2]) (n := 4) (Nat.le_of_ble_eq_true rfl)
  rw [lg_entry_eq]
  generalize (lg_sl ([.ref (a 0), .int x1, .int x2]) ++ List.replicate (4 - (lg_sl ([.ref (a 0), .int x1, .int x2])).length) Slot.unset).toArray = ls at hl ⊢
  replace hl : lv_has ls 4 [(0, .ref (a 0)), (1, .int x1), (2, .int x2)] := hl
  refine zz_go (w := wR y a) hP hD va_S.rf hl (fun G hG => ?_)
  clear hP hD hl ls
  have J74 : ∀ (t0 : Int32), mX11_heldOf_b74 z t0 = some r → G 74 [] [.int t0] z := by
    intro t0 hm
    rw [mX11_heldOf_b74] at hm
    rw [hG]
    intro H locs ls hP hD hS hl
    exact zz_iret hx hb hr hlocks ⟨zz_some1 hm, rfl⟩ hP hK hD hS dX11_heldOf_74
  rw [hG]
  intro H locs ls hP hD hS hl
  unfold mX11_heldOf at hm
  refine lv_iconst (v := (5 : Int32)) hx hb dX11_heldOf_0 (by decide) ?_
  refine lv_iload_n hx hb dX11_heldOf_1 rfl (lv_at hl 1 rfl) ?_
  refine lv_imul hx hb dX11_heldOf_2 ?_
  refine lv_topi (fun n1 en1 => ?_)
  replace hm := zz_nm_some en1 hm
  refine lv_istore_n (lv' := [(3, .int n1), (0, .ref (a 0)), (1, .int x1), (2, .int x2)]) hx hb dX11_heldOf_3 rfl hl (by decide) rfl (fun ls hl => ?_)
  refine lv_iload_n hx hb dX11_heldOf_4 rfl (lv_at hl 3 rfl) ?_
  refine lv_aload_n hx hb dX11_heldOf_5 rfl (lv_at hl 1 rfl) ?_
  refine va_get (D := D) (ci := 11) (v := .ref (a 6)) (C := RX11) (T := TX11) (N := 35) hx hb hts nX11_heldOf_X11 hown hK hP 0 (wR_0 y a z) rfl 7 (by decide) (hts (.fieldLink RX11 25 "WorksDeskModel" "sets" "[I") (List.mem_of_getElem? (i := 1) rfl)) (fun _ h9 => h9) rfl dX11_heldOf_6 ?_
  refine lv_iload_n hx hb dX11_heldOf_9 rfl (lv_at hl 0 rfl) ?_
  obtain ⟨c2, hm⟩ := zz_ck_some hm
  refine va_iald hx hb hK hP 6 0 (wR_6 y a z) rfl c2 dX11_heldOf_10 ?_
  refine lv_icmp_ge (tgt := 16) hx hb dX11_heldOf_11 (by decide) (fun c3 => ?_) (fun c3 => ?_)
  · replace hm := zz_pos c3 hm
    refine lv_iload_n hx hb dX11_heldOf_16 rfl (lv_at hl 3 rfl) ?_
    refine lv_aload_n hx hb dX11_heldOf_17 rfl (lv_at hl 1 rfl) ?_
    refine va_get (D := D) (ci := 11) (v := .ref (a 6)) (C := RX11) (T := TX11) (N := 35) hx hb hts nX11_heldOf_X11 hown hK hP 0 (wR_0 y a z) rfl 7 (by decide) (hts (.fieldLink RX11 25 "WorksDeskModel" "sets" "[I") (List.mem_of_getElem? (i := 1) rfl)) (fun _ h9 => h9) rfl dX11_heldOf_18 ?_
    refine lv_iload_n hx hb dX11_heldOf_21 rfl (lv_at hl 0 rfl) ?_
    refine lv_iconst (v := (3 : Int32)) hx hb dX11_heldOf_22 (by decide) ?_
    refine lv_iadd hx hb dX11_heldOf_23 ?_
    obtain ⟨c4, hm⟩ := zz_ck_some hm
    refine va_iald hx hb hK hP 6 0 (wR_6 y a z) rfl c4 dX11_heldOf_24 ?_
    refine lv_icmp_lt (tgt := 50) hx hb dX11_heldOf_25 (by decide) (fun c5 => ?_) (fun c5 => ?_)
    · replace hm := zz_pos c5 hm
      refine lv_iload_n hx hb dX11_heldOf_50 rfl (lv_at hl 3 rfl) ?_
      refine lv_aload_n hx hb dX11_heldOf_51 rfl (lv_at hl 1 rfl) ?_
      refine va_get (D := D) (ci := 11) (v := .ref (a 6)) (C := RX11) (T := TX11) (N := 35) hx hb hts nX11_heldOf_X11 hown hK hP 0 (wR_0 y a z) rfl 7 (by decide) (hts (.fieldLink RX11 25 "WorksDeskModel" "sets" "[I") (List.mem_of_getElem? (i := 1) rfl)) (fun _ h9 => h9) rfl dX11_heldOf_52 ?_
      refine lv_iload_n hx hb dX11_heldOf_55 rfl (lv_at hl 0 rfl) ?_
      refine lv_iconst (v := (2 : Int32)) hx hb dX11_heldOf_56 (by decide) ?_
      refine lv_iadd hx hb dX11_heldOf_57 ?_
      obtain ⟨c6, hm⟩ := zz_ck_some hm
      refine va_iald hx hb hK hP 6 0 (wR_6 y a z) rfl c6 dX11_heldOf_58 ?_
      refine lv_icmp_lt (tgt := 66) hx hb dX11_heldOf_59 (by decide) (fun c7 => ?_) (fun c7 => ?_)
      · replace hm := zz_pos c7 hm
        refine lv_aload_n hx hb dX11_heldOf_66 rfl (lv_at hl 1 rfl) ?_
        refine va_get (D := D) (ci := 11) (v := .ref (a 6)) (C := RX11) (T := TX11) (N := 35) hx hb hts nX11_heldOf_X11 hown hK hP 0 (wR_0 y a z) rfl 7 (by decide) (hts (.fieldLink RX11 25 "WorksDeskModel" "sets" "[I") (List.mem_of_getElem? (i := 1) rfl)) (fun _ h9 => h9) rfl dX11_heldOf_67 ?_
        refine lv_iload_n hx hb dX11_heldOf_70 rfl (lv_at hl 0 rfl) ?_
        refine lv_iconst (v := (1 : Int32)) hx hb dX11_heldOf_71 (by decide) ?_
        refine lv_iadd hx hb dX11_heldOf_72 ?_
        obtain ⟨c8, hm⟩ := zz_ck_some hm
        refine va_iald hx hb hK hP 6 0 (wR_6 y a z) rfl c8 dX11_heldOf_73 ?_
        have j := J74 (z.1 6 (n1 + (1 : Int32)).toNatClampNeg) hm
        rw [hG] at j
        exact j H locs ls hP hD hS (lv_sub hl [] rfl)
      · replace hm := zz_neg c7 hm
        refine lv_iconst (v := (0 : Int32)) hx hb dX11_heldOf_62 (by decide) ?_
        refine lv_goto (tgt := 74) hx hb dX11_heldOf_63 (by decide) ?_
        have j := J74 (0 : Int32) hm
        rw [hG] at j
        exact j H locs ls hP hD hS (lv_sub hl [] rfl)
    · replace hm := zz_neg c5 hm
      refine lv_aload_n hx hb dX11_heldOf_28 rfl (lv_at hl 1 rfl) ?_
      refine va_get (D := D) (ci := 11) (v := .ref (a 6)) (C := RX11) (T := TX11) (N := 35) hx hb hts nX11_heldOf_X11 hown hK hP 0 (wR_0 y a z) rfl 7 (by decide) (hts (.fieldLink RX11 25 "WorksDeskModel" "sets" "[I") (List.mem_of_getElem? (i := 1) rfl)) (fun _ h9 => h9) rfl dX11_heldOf_29 ?_
      refine lv_iload_n hx hb dX11_heldOf_32 rfl (lv_at hl 0 rfl) ?_
      refine lv_iconst (v := (1 : Int32)) hx hb dX11_heldOf_33 (by decide) ?_
      refine lv_iadd hx hb dX11_heldOf_34 ?_
      obtain ⟨c9, hm⟩ := zz_ck_some hm
      refine va_iald hx hb hK hP 6 0 (wR_6 y a z) rfl c9 dX11_heldOf_35 ?_
      refine lv_i2l hx hb dX11_heldOf_36 rfl ?_
      refine lv_aload_n hx hb dX11_heldOf_37 rfl (lv_at hl 1 rfl) ?_
      refine va_get (D := D) (ci := 11) (v := .ref (a 6)) (C := RX11) (T := TX11) (N := 35) hx hb hts nX11_heldOf_X11 hown hK hP 0 (wR_0 y a z) rfl 7 (by decide) (hts (.fieldLink RX11 25 "WorksDeskModel" "sets" "[I") (List.mem_of_getElem? (i := 1) rfl)) (fun _ h9 => h9) rfl dX11_heldOf_38 ?_
      refine lv_iload_n hx hb dX11_heldOf_41 rfl (lv_at hl 0 rfl) ?_
      refine lv_iconst (v := (4 : Int32)) hx hb dX11_heldOf_42 (by decide) ?_
      refine lv_iadd hx hb dX11_heldOf_43 ?_
      obtain ⟨c10, hm⟩ := zz_ck_some hm
      refine va_iald hx hb hK hP 6 0 (wR_6 y a z) rfl c10 dX11_heldOf_44 ?_
      obtain ⟨r11, h12, hm⟩ := zz_b1_some hm
      refine zz_calll (zz_runS (w := wR y a) (As := [.long ((z.1 6 (n1 + (1 : Int32)).toNatClampNeg).toInt64), .int (z.1 6 (n1 + (4 : Int32)).toNatClampNeg)]) (rest := []) ⟨hx, hb, hml, hown, hts⟩ (zX11_thousandths l D y a H.size ((z.1 6 (n1 + (1 : Int32)).toNatClampNeg).toInt64) (z.1 6 (n1 + (4 : Int32)).toNatClampNeg) z h12) (va_cwS 2 hts gX11_heldOf_X11_thousandths rfl rfl rfl zdX11_thousandths ⟨Nat.le_of_ble_eq_true rfl, Nat.le_of_ble_eq_true rfl⟩) hK hN hg hP hD hS hA rfl hl.1 rfl (Nat.le_of_ble_eq_true rfl) dX11_heldOf_45 ⟨Nat.le_of_ble_eq_true rfl, Nat.le_of_ble_eq_true rfl⟩) hD hS hA (fun H locs hP hD hS => ?_)
      refine lv_l2i hx hb dX11_heldOf_48 rfl ?_
      exact zz_iret hx hb hr hlocks ⟨zz_some1 hm, rfl⟩ hP hK hD hS dX11_heldOf_49
  · replace hm := zz_neg c3 hm
    refine lv_iconst (v := (0 : Int32)) hx hb dX11_heldOf_14 (by decide) ?_
    exact zz_iret hx hb hr hlocks ⟨zz_some1 hm, rfl⟩ hP hK hD hS dX11_heldOf_15
def mX11_setIn_b5 (z : zz_M) : Nat → Int32 → Int64 → Int32 → Option Int64
  | 0, _, _, _ => none
  | n + 1, v1, v2, v4 => if (z.2.2.1 8) ≤ v4 then (some v2) else (zz_b1 (mX11_heldOf v4 v1 z) (fun r2 => zz_nm (v2 + r2.toInt64) (fun n4 => zz_nm (v4 + (1 : Int32)) (fun n5 => (mX11_setIn_b5 z n) v1 n4 n5))))
def mX11_setIn (x1 : Int32) (z : zz_M) : Option Int64 := mX11_setIn_b5 z zz_N x1 (0 : Int64) (0 : Int32)
theorem nX11_setIn_X11 : ∀ w ∈ wsX110, w ∈ wsX11_setIn := fun _ h => List.mem_cons_of_mem _ (List.mem_append_right _ (h))
theorem zdX11_setIn : yX11_setIn.cls = RX11 ∧ yX11_setIn.cls ≠ "java/lang/invoke/MethodHandle" ∧ yX11_setIn.cls ≠ "java/lang/invoke/VarHandle" ∧ (parseMethodDescriptor yX11_setIn.desc).map (fun d => d.parameters.length) = some 1 := by decide +kernel
set_option maxHeartbeats 4000000 in
set_option maxRecDepth 100000 in
theorem zX11_setIn (l : Launch) (D : va_G) (y : Nat → ClassId) (a : Nat → Nat) (sz : Nat) (x1 : Int32) (z : zz_M) {r : Int64} (hm : mX11_setIn x1 z = some r) : Met l yX11_setIn wsX11_setIn { frames := 2, cells := 0, slots := 0, locals := 45 } (zz_Pc D y (wR y a z) sz [.ref (a 0), .int x1]) (zz_Ql D y (wR y a) (va_A (wR y a z) sz) r z) 0 0 (va_A (wR y a z) sz) := by
  refine Met.ofW (cc := cX11_setIn) (maxL := 5) (ret := (some .long)) (by decide) rfl ?_
  intro p e s m args below meth c s₁ B hml hv
  obtain ⟨rfl, hsz, hP, hK, hD0, hN, hg⟩ := hv
  have hx := B.exec
  have hb := B.bytes
  have hr := B.returns
  have hts := atoms_spec (ws := wsX11_setIn) B.pre
  have hown : s.vm.findClass RX11 = some m.cls := findClass_of_methodNamed B.named
  have hlocks := B.notSynchronized
  clear B
  subst hsz
  have hD := hD0.self (sz := s.heap.size)
  generalize hAe : va_A (wR y a z) s.heap.size = A at hD hg ⊢
  have hA : ∀ q : Nat, s.heap.size ≤ q → A q := fun q h => by rw [← hAe]; exact Or.inr h
  clear hAe hD0
  have hl := lv_entry ([.ref (a 0), .int x1]) (n := 5) (Nat.le_of_ble_eq_true rfl)
  rw [lg_entry_eq]
  generalize (lg_sl ([.ref (a 0), .int x1]) ++ List.replicate (5 - (lg_sl ([.ref (a 0), .int x1])).length) Slot.unset).toArray = ls at hl ⊢
  replace hl : lv_has ls 5 [(0, .ref (a 0)), (1, .int x1)] := hl
  refine zz_go (w := wR y a) hP hD va_S.rf hl (fun G hG => ?_)
  clear hP hD hl ls
  have J5 : ∀ (n : Nat) (v1 : Int32) (v2 : Int64) (v4 : Int32), mX11_setIn_b5 z n v1 v2 v4 = some r → G 5 [(0, .ref (a 0)), (1, .int v1), (2, .long v2), (4, .int v4)] [] z := by
    intro n
    induction n with
    | zero =>
      intro v1 v2 v4 hm
      exact zz_none hm
    | succ n ih =>
      intro v1 v2 v4 hm
      rw [mX11_setIn_b5] at hm
      rw [hG]
      intro H locs ls hP hD hS hl
      refine lv_iload hx hb dX11_setIn_5 (lv_at hl 3 rfl) ?_
      refine lv_aload_n hx hb dX11_setIn_7 rfl (lv_at hl 0 rfl) ?_
      refine va_get (D := D) (ci := 11) (v := .int (z.2.2.1 8)) (C := RX11) (T := TX11) (N := 35) hx hb hts nX11_setIn_X11 hown hK hP 0 (wR_0 y a z) rfl 8 (by decide) (hts (.fieldLink RX11 82 "WorksDeskModel" "setMany" "I") (List.mem_of_getElem? (i := 1) rfl)) (fun _ h9 => h9) rfl dX11_setIn_8 ?_
      refine lv_icmp_ge (tgt := 31) hx hb dX11_setIn_11 (by decide) (fun c1 => ?_) (fun c1 => ?_)
      · replace hm := zz_pos c1 hm
        refine lv_lload_n hx hb dX11_setIn_31 rfl (lv_at hl 2 rfl) ?_
        exact zz_lret hx hb hr hlocks ⟨zz_some1 hm, rfl⟩ hP hK hD hS dX11_setIn_32
      · replace hm := zz_neg c1 hm
        refine lv_lload_n hx hb dX11_setIn_14 rfl (lv_at hl 2 rfl) ?_
        refine lv_aload_n hx hb dX11_setIn_15 rfl (lv_at hl 0 rfl) ?_
        refine lv_iload hx hb dX11_setIn_16 (lv_at hl 3 rfl) ?_
        refine lv_iload_n hx hb dX11_setIn_18 rfl (lv_at hl 1 rfl) ?_
        obtain ⟨r2, h3, hm⟩ := zz_b1_some hm
        refine zz_calli (zz_runV (w := wR y a) (As := [.int v4, .int v1]) (rest := [.long v2]) ⟨hx, hb, hml, hown, hts⟩ (zX11_heldOf l D y a H.size v4 v1 z h3) (cwV 2 hts gX11_setIn_X11_heldOf rfl rfl rfl zdX11_heldOf ⟨Nat.le_of_ble_eq_true rfl, Nat.le_of_ble_eq_true rfl⟩) hK hN hg hP hD hS hA 0 (wR_0 y a z) rfl rfl hl.1 rfl (Nat.le_of_ble_eq_true rfl) dX11_setIn_19 ⟨Nat.le_of_ble_eq_true rfl, Nat.le_of_ble_eq_true rfl⟩) hD hS hA (fun H locs hP hD hS => ?_)
        refine lv_i2l hx hb dX11_setIn_22 rfl ?_
        refine lv_ladd hx hb dX11_setIn_23 ?_
        refine lv_topl (fun n4 en4 => ?_)
        replace hm := zz_nm_some en4 hm
        refine lv_lstore_n (lv' := [(2, .long n4), (0, .ref (a 0)), (1, .int v1), (4, .int v4)]) hx hb dX11_setIn_24 rfl hl (by decide) rfl (fun ls hl => ?_)
        obtain ⟨n5, en5⟩ : ∃ q : Int32, q = v4 + (1 : Int32) := ⟨_, rfl⟩
        replace hm := zz_nm_some en5 hm
        refine lv_iinc (v := n5) (lv' := [(4, .int n5), (2, .long n4), (0, .ref (a 0)), (1, .int v1)]) hx hb dX11_setIn_25 hl (k := 3) rfl (by rw [en5]; rfl) (by decide) rfl (fun ls hl => ?_)
        refine lv_goto (tgt := 5) hx hb dX11_setIn_28 (by decide) ?_
        have j := ih v1 n4 n5 hm
        rw [hG] at j
        exact j H locs ls hP hD hS (lv_sub hl [2, 3, 1, 0] rfl)
  rw [hG]
  intro H locs ls hP hD hS hl
  unfold mX11_setIn at hm
  refine lv_lconst (v := (0 : Int64)) hx hb dX11_setIn_0 (by decide) ?_
  refine lv_lstore_n (lv' := [(2, .long (0 : Int64)), (0, .ref (a 0)), (1, .int x1)]) hx hb dX11_setIn_1 rfl hl (by decide) rfl (fun ls hl => ?_)
  refine lv_iconst (v := (0 : Int32)) hx hb dX11_setIn_2 (by decide) ?_
  refine lv_istore (lv' := [(4, .int (0 : Int32)), (2, .long (0 : Int64)), (0, .ref (a 0)), (1, .int x1)]) hx hb dX11_setIn_3 hl (by decide) rfl (fun ls hl => ?_)
  have j := J5 zz_N x1 (0 : Int64) (0 : Int32) hm
  rw [hG] at j
  exact j H locs ls hP hD hS (lv_sub hl [2, 3, 1, 0] rfl)
