def mX11_leads_b54 (k28 : Int32 → Int32 → Int32 → zz_M → Option (Int32 × zz_M)) (v1 : Int32) (v2 : Int32) (v3 : Int32) (z : zz_M) : Option (Int32 × zz_M) := zz_nm (v3 + (1 : Int32)) (fun n1 => k28 v1 v2 n1 z)
def mX11_leads_b28 : Nat → Int32 → Int32 → Int32 → zz_M → Option (Int32 × zz_M)
  | 0, _, _, _, _ => none
  | n + 1, v1, v2, v3, z => if (z.2.2.1 2) ≤ v3 then (zz_nm (zz_sF z 18 (0 : Int32)) (fun z3 => zz_b1 (mX11_grown v1 v2 z3) (fun r4 => zz_b2 (mX11_tell r4 z3) (fun r6 z8 => some (v2, z8))))) else (zz_b1 (mX11_grown v1 v3 z) (fun r9 => zz_b1 (mX11_grown v1 v2 z) (fun r11 => if (lg_cmp r9 r11) ≤ (0 : Int32) then (mX11_leads_b54 (mX11_leads_b28 n) v1 v2 v3 z) else (mX11_leads_b54 (mX11_leads_b28 n) v1 v3 v3 z))))
def mX11_leads (x1 : Int32) (z : zz_M) : Option (Int32 × zz_M) := zz_nm (zz_sF z 19 (0 : Int32)) (fun z14 => zz_b1 (mX11_isMonth x1) (fun r15 => if r15 = (0 : Int32) then (some ((-1 : Int32), z14)) else (if (z14.2.2.1 2) = (0 : Int32) then (some ((-2 : Int32), z14)) else (mX11_leads_b28 zz_N x1 (0 : Int32) (1 : Int32) z14))))
theorem nX11_leads_X11 : ∀ w ∈ wsX110, w ∈ wsX11_leads := fun _ h => List.mem_cons_of_mem _ (List.mem_append_right _ (h))
theorem zdX11_leads : yX11_leads.cls = RX11 ∧ yX11_leads.cls ≠ "java/lang/invoke/MethodHandle" ∧ yX11_leads.cls ≠ "java/lang/invoke/VarHandle" ∧ (parseMethodDescriptor yX11_leads.desc).map (fun d => d.parameters.length) = some 1 := by decide +kernel
set_option maxHeartbeats 4000000 in
set_option maxRecDepth 100000 in
theorem zX11_leads (l : Launch) (D : va_G) (y : Nat → ClassId) (a : Nat → Nat) (sz : Nat) (x1 : Int32) (z : zz_M) {r : Int32} {zt : zz_M} (hm : mX11_leads x1 z = some (r, zt)) : Met l yX11_leads wsX11_leads { frames := 4, cells := 0, slots := 0, locals := 89 } (zz_Pc D y (wR y a z) sz [.ref (a 0), .int x1]) (zz_Qi D y (wR y a) (va_A (wR y a z) sz) r zt) 0 0 (va_A (wR y a z) sz) := by
  refine Met.ofW (cc := cX11_leads) (maxL := 4) (ret := (some .int)) (by decide) rfl ?_
  intro p e s m args below meth c s₁ B hml hv
  obtain ⟨rfl, hsz, hP, hK, hD0, hN, hg⟩ := hv
  have hx := B.exec
  have hb := B.bytes
  have hr := B.returns
  have hts := atoms_spec (ws := wsX11_leads) B.pre
  have hown : s.vm.findClass RX11 = some m.cls := findClass_of_methodNamed B.named
  have hlocks := B.notSynchronized
  clear B
  subst hsz
  have hD := hD0.self (sz := s.heap.size)
  generalize hAe : va_A (wR y a z) s.heap.size = A at hD hg ⊢
  have hA : ∀ q : Nat, s.heap.size ≤ q → A q := fun q h => by rw [← hAe]; exact Or.inr h
  clear hAe hD0
  have hl := lv_entry ([.ref (a 0), .int x1]) (n := 4) (Nat.le_of_ble_eq_true rfl)
  rw [lg_entry_eq]
  generalize (lg_sl ([.ref (a 0), .int x1]) ++ List.replicate (4 - (lg_sl ([.ref (a 0), .int x1])).length) Slot.unset).toArray = ls at hl ⊢
  replace hl : lv_has ls 4 [(0, .ref (a 0)), (1, .int x1)] := hl
  refine zz_go (w := wR y a) hP hD va_S.rf hl (fun G hG => ?_)
  clear hP hD hl ls
  have J54 : ∀ (k28 : Int32 → Int32 → Int32 → zz_M → Option (Int32 × zz_M)) (K28 : ∀ (v1 : Int32) (v2 : Int32) (v3 : Int32) (z : zz_M), k28 v1 v2 v3 z = some (r, zt) → G 28 [(0, .ref (a 0)), (1, .int v1), (2, .int v2), (3, .int v3)] [] z) (v1 : Int32) (v2 : Int32) (v3 : Int32) (z : zz_M), mX11_leads_b54 k28 v1 v2 v3 z = some (r, zt) → G 54 [(0, .ref (a 0)), (1, .int v1), (2, .int v2), (3, .int v3)] [] z := by
    intro k28 K28 v1 v2 v3 z hm
    rw [mX11_leads_b54] at hm
    rw [hG]
    intro H locs ls hP hD hS hl
    obtain ⟨n1, en1⟩ : ∃ q : Int32, q = v3 + (1 : Int32) := ⟨_, rfl⟩
    replace hm := zz_nm_some en1 hm
    refine lv_iinc (v := n1) (lv' := [(3, .int n1), (0, .ref (a 0)), (1, .int v1), (2, .int v2)]) hx hb dX11_leads_54 hl (k := 3) rfl (by rw [en1]; rfl) (by decide) rfl (fun ls hl => ?_)
    refine lv_goto (tgt := 28) hx hb dX11_leads_57 (by decide) ?_
    have j := K28 v1 v2 n1 z hm
    rw [hG] at j
    exact j H locs ls hP hD hS (lv_sub hl [1, 2, 3, 0] rfl)
  have J28 : ∀ (n : Nat) (v1 : Int32) (v2 : Int32) (v3 : Int32) (z : zz_M), mX11_leads_b28 n v1 v2 v3 z = some (r, zt) → G 28 [(0, .ref (a 0)), (1, .int v1), (2, .int v2), (3, .int v3)] [] z := by
    intro n
    induction n with
    | zero =>
      intro v1 v2 v3 z hm
      exact zz_none hm
    | succ n ih =>
      intro v1 v2 v3 z hm
      rw [mX11_leads_b28] at hm
      rw [hG]
      intro H locs ls hP hD hS hl
      refine lv_iload_n hx hb dX11_leads_28 rfl (lv_at hl 3 rfl) ?_
      refine lv_aload_n hx hb dX11_leads_29 rfl (lv_at hl 0 rfl) ?_
      refine va_get (D := D) (ci := 11) (v := .int (z.2.2.1 2)) (C := RX11) (T := TX11) (N := 35) hx hb hts nX11_leads_X11 hown hK hP 0 (wR_0 y a z) rfl 2 (by decide) (hts (.fieldLink RX11 75 "WorksDeskModel" "itemMany" "I") (List.mem_of_getElem? (i := 2) rfl)) (fun _ h9 => h9) rfl dX11_leads_30 ?_
      refine lv_icmp_ge (tgt := 60) hx hb dX11_leads_33 (by decide) (fun c2 => ?_) (fun c2 => ?_)
      · replace hm := zz_pos c2 hm
        refine lv_aload_n hx hb dX11_leads_60 rfl (lv_at hl 0 rfl) ?_
        refine lv_iconst (v := (0 : Int32)) hx hb dX11_leads_61 (by decide) ?_
        refine va_put (D := D) (ci := 11) (v := .int (0 : Int32)) (ty := .int) (C := RX11) (T := TX11) (N := 35) hx hb hts nX11_leads_X11 tyX11 tyX11_ok nmX11 hown hK hP hD hS 0 (wR_0 y a z) rfl 18 (by decide) (hts (.fieldLink RX11 100 "WorksDeskModel" "rowMany" "I") (List.mem_of_getElem? (i := 3) rfl)) (fun _ h9 => h9) rfl (tyX11_ok 18 (by decide)) rfl rfl (Nat.le_of_ble_eq_true rfl) dX11_leads_62 (fun H locs hP hD hS => ?_)
        obtain ⟨z3, hP, hD, hm⟩ := zz_up (w := wR y a) (wR_f18 y a z (0 : Int32)) hP hD hm
        refine lv_aload_n hx hb dX11_leads_65 rfl (lv_at hl 0 rfl) ?_
        refine lv_aload_n hx hb dX11_leads_66 rfl (lv_at hl 0 rfl) ?_
        refine lv_iload_n hx hb dX11_leads_67 rfl (lv_at hl 1 rfl) ?_
        refine lv_iload_n hx hb dX11_leads_68 rfl (lv_at hl 2 rfl) ?_
        obtain ⟨r4, h5, hm⟩ := zz_b1_some hm
        refine zz_calll (zz_runV (w := wR y a) (As := [.int v1, .int v2]) (rest := [.ref (a 0)]) ⟨hx, hb, hml, hown, hts⟩ (zX11_grown l D y a H.size v1 v2 z3 h5) (cwV 2 hts gX11_leads_X11_grown rfl rfl rfl zdX11_grown ⟨Nat.le_of_ble_eq_true rfl, Nat.le_of_ble_eq_true rfl⟩) hK hN hg hP hD hS hA 0 (wR_0 y a z3) rfl rfl hl.1 rfl (Nat.le_of_ble_eq_true rfl) dX11_leads_69 ⟨Nat.le_of_ble_eq_true rfl, Nat.le_of_ble_eq_true rfl⟩) hD hS hA (fun H locs hP hD hS => ?_)
        obtain ⟨r6, z8, h7, hm⟩ := zz_b2_some hm
        refine zz_callv (zz_runV (w := wR y a) (As := [.long r4]) (rest := []) ⟨hx, hb, hml, hown, hts⟩ (zX11_tell l D y a H.size r4 z3 h7) (cwV 1 hts gX11_leads_X11_tell rfl rfl rfl zdX11_tell ⟨Nat.le_of_ble_eq_true rfl, Nat.le_of_ble_eq_true rfl⟩) hK hN hg hP hD hS hA 0 (wR_0 y a z3) rfl rfl hl.1 rfl (Nat.le_of_ble_eq_true rfl) dX11_leads_72 ⟨Nat.le_of_ble_eq_true rfl, Nat.le_of_ble_eq_true rfl⟩) hD hS hA (fun H locs hP hD hS => ?_)
        refine lv_iload_n hx hb dX11_leads_75 rfl (lv_at hl 2 rfl) ?_
        exact zz_iret hx hb hr hlocks (zz_some2 hm) hP hK hD hS dX11_leads_76
      · replace hm := zz_neg c2 hm
        refine lv_aload_n hx hb dX11_leads_36 rfl (lv_at hl 0 rfl) ?_
        refine lv_iload_n hx hb dX11_leads_37 rfl (lv_at hl 1 rfl) ?_
        refine lv_iload_n hx hb dX11_leads_38 rfl (lv_at hl 3 rfl) ?_
        obtain ⟨r9, h10, hm⟩ := zz_b1_some hm
        refine zz_calll (zz_runV (w := wR y a) (As := [.int v1, .int v3]) (rest := []) ⟨hx, hb, hml, hown, hts⟩ (zX11_grown l D y a H.size v1 v3 z h10) (cwV 2 hts gX11_leads_X11_grown rfl rfl rfl zdX11_grown ⟨Nat.le_of_ble_eq_true rfl, Nat.le_of_ble_eq_true rfl⟩) hK hN hg hP hD hS hA 0 (wR_0 y a z) rfl rfl hl.1 rfl (Nat.le_of_ble_eq_true rfl) dX11_leads_39 ⟨Nat.le_of_ble_eq_true rfl, Nat.le_of_ble_eq_true rfl⟩) hD hS hA (fun H locs hP hD hS => ?_)
        refine lv_aload_n hx hb dX11_leads_42 rfl (lv_at hl 0 rfl) ?_
        refine lv_iload_n hx hb dX11_leads_43 rfl (lv_at hl 1 rfl) ?_
        refine lv_iload_n hx hb dX11_leads_44 rfl (lv_at hl 2 rfl) ?_
        obtain ⟨r11, h12, hm⟩ := zz_b1_some hm
        refine zz_calll (zz_runV (w := wR y a) (As := [.int v1, .int v2]) (rest := [.long r9]) ⟨hx, hb, hml, hown, hts⟩ (zX11_grown l D y a H.size v1 v2 z h12) (cwV 2 hts gX11_leads_X11_grown rfl rfl rfl zdX11_grown ⟨Nat.le_of_ble_eq_true rfl, Nat.le_of_ble_eq_true rfl⟩) hK hN hg hP hD hS hA 0 (wR_0 y a z) rfl rfl hl.1 rfl (Nat.le_of_ble_eq_true rfl) dX11_leads_45 ⟨Nat.le_of_ble_eq_true rfl, Nat.le_of_ble_eq_true rfl⟩) hD hS hA (fun H locs hP hD hS => ?_)
        refine W.lcmp hx hb dX11_leads_48 ?_
        refine lv_if_le (tgt := 54) hx hb dX11_leads_49 (by decide) (fun c13 => ?_) (fun c13 => ?_)
        · replace hm := zz_pos c13 hm
          have j := J54 (mX11_leads_b28 n) ih v1 v2 v3 z hm
          rw [hG] at j
          exact j H locs ls hP hD hS (lv_sub hl [0, 1, 2, 3] rfl)
        · replace hm := zz_neg c13 hm
          refine lv_iload_n hx hb dX11_leads_52 rfl (lv_at hl 3 rfl) ?_
          refine lv_istore_n (lv' := [(2, .int v3), (0, .ref (a 0)), (1, .int v1), (3, .int v3)]) hx hb dX11_leads_53 rfl hl (by decide) rfl (fun ls hl => ?_)
          have j := J54 (mX11_leads_b28 n) ih v1 v3 v3 z hm
          rw [hG] at j
          exact j H locs ls hP hD hS (lv_sub hl [1, 2, 0, 3] rfl)
  rw [hG]
  intro H locs ls hP hD hS hl
  unfold mX11_leads at hm
  refine lv_aload_n hx hb dX11_leads_0 rfl (lv_at hl 0 rfl) ?_
  refine lv_iconst (v := (0 : Int32)) hx hb dX11_leads_1 (by decide) ?_
  refine va_put (D := D) (ci := 11) (v := .int (0 : Int32)) (ty := .int) (C := RX11) (T := TX11) (N := 35) hx hb hts nX11_leads_X11 tyX11 tyX11_ok nmX11 hown hK hP hD hS 0 (wR_0 y a z) rfl 19 (by decide) (hts (.fieldLink RX11 97 "WorksDeskModel" "thrown" "I") (List.mem_of_getElem? (i := 1) rfl)) (fun _ h9 => h9) rfl (tyX11_ok 19 (by decide)) rfl rfl (Nat.le_of_ble_eq_true rfl) dX11_leads_2 (fun H locs hP hD hS => ?_)
  obtain ⟨z14, hP, hD, hm⟩ := zz_up (w := wR y a) (wR_f19 y a z (0 : Int32)) hP hD hm
  refine lv_iload_n hx hb dX11_leads_5 rfl (lv_at hl 1 rfl) ?_
  obtain ⟨r15, h16, hm⟩ := zz_b1_some hm
  refine zz_calli (zz_runS (w := wR y a) (As := [.int x1]) (rest := []) ⟨hx, hb, hml, hown, hts⟩ (zX11_isMonth l D y a H.size x1 z14 h16) (va_cwS 1 hts gX11_leads_X11_isMonth rfl rfl rfl zdX11_isMonth ⟨Nat.le_of_ble_eq_true rfl, Nat.le_of_ble_eq_true rfl⟩) hK hN hg hP hD hS hA rfl hl.1 rfl (Nat.le_of_ble_eq_true rfl) dX11_leads_6 ⟨Nat.le_of_ble_eq_true rfl, Nat.le_of_ble_eq_true rfl⟩) hD hS hA (fun H locs hP hD hS => ?_)
  refine lv_if_ne (tgt := 14) hx hb dX11_leads_9 (by decide) (fun c17 => ?_) (fun c17 => ?_)
  · replace hm := zz_neg c17 hm
    refine lv_aload_n hx hb dX11_leads_14 rfl (lv_at hl 0 rfl) ?_
    refine va_get (D := D) (ci := 11) (v := .int (z14.2.2.1 2)) (C := RX11) (T := TX11) (N := 35) hx hb hts nX11_leads_X11 hown hK hP 0 (wR_0 y a z14) rfl 2 (by decide) (hts (.fieldLink RX11 75 "WorksDeskModel" "itemMany" "I") (List.mem_of_getElem? (i := 2) rfl)) (fun _ h9 => h9) rfl dX11_leads_15 ?_
    refine lv_if_ne (tgt := 24) hx hb dX11_leads_18 (by decide) (fun c18 => ?_) (fun c18 => ?_)
    · replace hm := zz_neg c18 hm
      refine lv_iconst (v := (0 : Int32)) hx hb dX11_leads_24 (by decide) ?_
      refine lv_istore_n (lv' := [(2, .int (0 : Int32)), (0, .ref (a 0)), (1, .int x1)]) hx hb dX11_leads_25 rfl hl (by decide) rfl (fun ls hl => ?_)
      refine lv_iconst (v := (1 : Int32)) hx hb dX11_leads_26 (by decide) ?_
      refine lv_istore_n (lv' := [(3, .int (1 : Int32)), (2, .int (0 : Int32)), (0, .ref (a 0)), (1, .int x1)]) hx hb dX11_leads_27 rfl hl (by decide) rfl (fun ls hl => ?_)
      have j := J28 zz_N x1 (0 : Int32) (1 : Int32) z14 hm
      rw [hG] at j
      exact j H locs ls hP hD hS (lv_sub hl [2, 3, 1, 0] rfl)
    · replace hm := zz_pos c18 hm
      refine lv_bipush (v := (-2 : Int32)) hx hb dX11_leads_21 (by decide) ?_
      exact zz_iret hx hb hr hlocks (zz_some2 hm) hP hK hD hS dX11_leads_23
  · replace hm := zz_pos c17 hm
    refine lv_iconst (v := (-1 : Int32)) hx hb dX11_leads_12 (by decide) ?_
    exact zz_iret hx hb hr hlocks (zz_some2 hm) hP hK hD hS dX11_leads_13
def mX11_likeBits_b29 (z : zz_M) (k4 : Int32 → Int32 → Int32 → Option Int32) (v1 : Int32) (v3 : Int32) (t0 : Int32) (t1 : Int32) : Option Int32 := zz_nm (t1 ||| t0) (fun n1 => zz_nm (v3 + (1 : Int32)) (fun n2 => k4 v1 n1 n2))
def mX11_likeBits_b4 (z : zz_M) : Nat → Int32 → Int32 → Int32 → Option Int32
  | 0, _, _, _ => none
  | n + 1, v1, v2, v3 => if (z.2.2.1 2) ≤ v3 then (some v2) else (zz_b1 (mX11_kind v3 z) (fun r4 => if r4 = v1 then (mX11_likeBits_b29 z (mX11_likeBits_b4 z n) v1 v3 ((1 : Int32) <<< (v3 &&& 31)) v2) else (mX11_likeBits_b29 z (mX11_likeBits_b4 z n) v1 v3 (0 : Int32) v2)))
def mX11_likeBits (x1 : Int32) (z : zz_M) : Option Int32 := mX11_likeBits_b4 z zz_N x1 (0 : Int32) (0 : Int32)
theorem nX11_likeBits_X11 : ∀ w ∈ wsX110, w ∈ wsX11_likeBits := fun _ h => List.mem_cons_of_mem _ (List.mem_append_right _ (h))
theorem zdX11_likeBits : yX11_likeBits.cls = RX11 ∧ yX11_likeBits.cls ≠ "java/lang/invoke/MethodHandle" ∧ yX11_likeBits.cls ≠ "java/lang/invoke/VarHandle" ∧ (parseMethodDescriptor yX11_likeBits.desc).map (fun d => d.parameters.length) = some 1 := by decide +kernel
set_option maxHeartbeats 4000000 in
set_option maxRecDepth 100000 in
theorem zX11_likeBits (l : Launch) (D : va_G) (y : Nat → ClassId) (a : Nat → Nat) (sz : Nat) (x1 : Int32) (z : zz_M) {r : Int32} (hm : mX11_likeBits x1 z = some r) : Met l yX11_likeBits wsX11_likeBits { frames := 1, cells := 0, slots := 0, locals := 21 } (zz_Pc D y (wR y a z) sz [.ref (a 0), .int x1]) (zz_Qi D y (wR y a) (va_A (wR y a z) sz) r z) 0 0 (va_A (wR y a z) sz) := by
  refine Met.ofW (cc := cX11_likeBits) (maxL := 4) (ret := (some .int)) (by decide) rfl ?_
  intro p e s m args below meth c s₁ B hml hv
  obtain ⟨rfl, hsz, hP, hK, hD0, hN, hg⟩ := hv
  have hx := B.exec
  have hb := B.bytes
  have hr := B.returns
  have hts := atoms_spec (ws := wsX11_likeBits) B.pre
  have hown : s.vm.findClass RX11 = some m.cls := findClass_of_methodNamed B.named
  have hlocks := B.notSynchronized
  clear B
  subst hsz
  have hD := hD0.self (sz := s.heap.size)
  generalize hAe : va_A (wR y a z) s.heap.size = A at hD hg ⊢
  have hA : ∀ q : Nat, s.heap.size ≤ q → A q := fun q h => by rw [← hAe]; exact Or.inr h
  clear hAe hD0
  have hl := lv_entry ([.ref (a 0), .int x1]) (n := 4) (Nat.le_of_ble_eq_true rfl)
  rw [lg_entry_eq]
  generalize (lg_sl ([.ref (a 0), .int x1]) ++ List.replicate (4 - (lg_sl ([.ref (a 0), .int x1])).length) Slot.unset).toArray = ls at hl ⊢
  replace hl : lv_has ls 4 [(0, .ref (a 0)), (1, .int x1)] := hl
  refine zz_go (w := wR y a) hP hD va_S.rf hl (fun G hG => ?_)
  clear hP hD hl ls
  have J29 : ∀ (k4 : Int32 → Int32 → Int32 → Option Int32) (K4 : ∀ (v1 : Int32) (v2 : Int32) (v3 : Int32), k4 v1 v2 v3 = some r → G 4 [(0, .ref (a 0)), (1, .int v1), (2, .int v2), (3, .int v3)] [] z) (v1 : Int32) (v3 : Int32) (t0 : Int32) (t1 : Int32), mX11_likeBits_b29 z k4 v1 v3 t0 t1 = some r → G 29 [(0, .ref (a 0)), (1, .int v1), (3, .int v3)] [.int t0, .int t1] z := by
    intro k4 K4 v1 v3 t0 t1 hm
    rw [mX11_likeBits_b29] at hm
    rw [hG]
    intro H locs ls hP hD hS hl
    refine lv_ior hx hb dX11_likeBits_29 ?_
    refine lv_topi (fun n1 en1 => ?_)
    replace hm := zz_nm_some en1 hm
    refine lv_istore_n (lv' := [(2, .int n1), (0, .ref (a 0)), (1, .int v1), (3, .int v3)]) hx hb dX11_likeBits_30 rfl hl (by decide) rfl (fun ls hl => ?_)
    obtain ⟨n2, en2⟩ : ∃ q : Int32, q = v3 + (1 : Int32) := ⟨_, rfl⟩
    replace hm := zz_nm_some en2 hm
    refine lv_iinc (v := n2) (lv' := [(3, .int n2), (2, .int n1), (0, .ref (a 0)), (1, .int v1)]) hx hb dX11_likeBits_31 hl (k := 3) rfl (by rw [en2]; rfl) (by decide) rfl (fun ls hl => ?_)
    refine lv_goto (tgt := 4) hx hb dX11_likeBits_34 (by decide) ?_
    have j := K4 v1 n1 n2 hm
    rw [hG] at j
    exact j H locs ls hP hD hS (lv_sub hl [2, 3, 1, 0] rfl)
  have J4 : ∀ (n : Nat) (v1 : Int32) (v2 : Int32) (v3 : Int32), mX11_likeBits_b4 z n v1 v2 v3 = some r → G 4 [(0, .ref (a 0)), (1, .int v1), (2, .int v2), (3, .int v3)] [] z := by
    intro n
    induction n with
    | zero =>
      intro v1 v2 v3 hm
      exact zz_none hm
    | succ n ih =>
      intro v1 v2 v3 hm
      rw [mX11_likeBits_b4] at hm
      rw [hG]
      intro H locs ls hP hD hS hl
      refine lv_iload_n hx hb dX11_likeBits_4 rfl (lv_at hl 3 rfl) ?_
      refine lv_aload_n hx hb dX11_likeBits_5 rfl (lv_at hl 0 rfl) ?_
      refine va_get (D := D) (ci := 11) (v := .int (z.2.2.1 2)) (C := RX11) (T := TX11) (N := 35) hx hb hts nX11_likeBits_X11 hown hK hP 0 (wR_0 y a z) rfl 2 (by decide) (hts (.fieldLink RX11 75 "WorksDeskModel" "itemMany" "I") (List.mem_of_getElem? (i := 1) rfl)) (fun _ h9 => h9) rfl dX11_likeBits_6 ?_
      refine lv_icmp_ge (tgt := 37) hx hb dX11_likeBits_9 (by decide) (fun c3 => ?_) (fun c3 => ?_)
      · replace hm := zz_pos c3 hm
        refine lv_iload_n hx hb dX11_likeBits_37 rfl (lv_at hl 2 rfl) ?_
        exact zz_iret hx hb hr hlocks ⟨zz_some1 hm, rfl⟩ hP hK hD hS dX11_likeBits_38
      · replace hm := zz_neg c3 hm
        refine lv_iload_n hx hb dX11_likeBits_12 rfl (lv_at hl 2 rfl) ?_
        refine lv_aload_n hx hb dX11_likeBits_13 rfl (lv_at hl 0 rfl) ?_
        refine lv_iload_n hx hb dX11_likeBits_14 rfl (lv_at hl 3 rfl) ?_
        obtain ⟨r4, h5, hm⟩ := zz_b1_some hm
        refine zz_calli (zz_runV (w := wR y a) (As := [.int v3]) (rest := [.int v2]) ⟨hx, hb, hml, hown, hts⟩ (zX11_kind l D y a H.size v3 z h5) (cwV 1 hts gX11_likeBits_X11_kind rfl rfl rfl zdX11_kind ⟨Nat.le_of_ble_eq_true rfl, Nat.le_of_ble_eq_true rfl⟩) hK hN hg hP hD hS hA 0 (wR_0 y a z) rfl rfl hl.1 rfl (Nat.le_of_ble_eq_true rfl) dX11_likeBits_15 ⟨Nat.le_of_ble_eq_true rfl, Nat.le_of_ble_eq_true rfl⟩) hD hS hA (fun H locs hP hD hS => ?_)
        refine lv_iload_n hx hb dX11_likeBits_18 rfl (lv_at hl 1 rfl) ?_
        refine lv_icmp_ne (tgt := 28) hx hb dX11_likeBits_19 (by decide) (fun c6 => ?_) (fun c6 => ?_)
        · replace hm := zz_neg c6 hm
          refine lv_iconst (v := (0 : Int32)) hx hb dX11_likeBits_28 (by decide) ?_
          have j := J29 (mX11_likeBits_b4 z n) ih v1 v3 (0 : Int32) v2 hm
          rw [hG] at j
          exact j H locs ls hP hD hS (lv_sub hl [0, 1, 3] rfl)
        · replace hm := zz_pos c6 hm
          refine lv_iconst (v := (1 : Int32)) hx hb dX11_likeBits_22 (by decide) ?_
          refine lv_iload_n hx hb dX11_likeBits_23 rfl (lv_at hl 3 rfl) ?_
          refine lv_ishl hx hb dX11_likeBits_24 ?_
          refine lv_goto (tgt := 29) hx hb dX11_likeBits_25 (by decide) ?_
          have j := J29 (mX11_likeBits_b4 z n) ih v1 v3 ((1 : Int32) <<< (v3 &&& 31)) v2 hm
          rw [hG] at j
          exact j H locs ls hP hD hS (lv_sub hl [0, 1, 3] rfl)
  rw [hG]
  intro H locs ls hP hD hS hl
  unfold mX11_likeBits at hm
  refine lv_iconst (v := (0 : Int32)) hx hb dX11_likeBits_0 (by decide) ?_
  refine lv_istore_n (lv' := [(2, .int (0 : Int32)), (0, .ref (a 0)), (1, .int x1)]) hx hb dX11_likeBits_1 rfl hl (by decide) rfl (fun ls hl => ?_)
  refine lv_iconst (v := (0 : Int32)) hx hb dX11_likeBits_2 (by decide) ?_
  refine lv_istore_n (lv' := [(3, .int (0 : Int32)), (2, .int (0 : Int32)), (0, .ref (a 0)), (1, .int x1)]) hx hb dX11_likeBits_3 rfl hl (by decide) rfl (fun ls hl => ?_)
  have j := J4 zz_N x1 (0 : Int32) (0 : Int32) hm
  rw [hG] at j
  exact j H locs ls hP hD hS (lv_sub hl [2, 3, 1, 0] rfl)
def mX11_like_b93 (k34 : Int32 → Int32 → Int32 → Int32 → Int32 → zz_M → Option (Int32 × zz_M)) (v1 : Int32) (v2 : Int32) (v3 : Int32) (v4 : Int32) (v5 : Int32) (z : zz_M) : Option (Int32 × zz_M) := zz_nm (v5 + (1 : Int32)) (fun n1 => k34 v1 v2 v3 v4 n1 z)
def mX11_like_b79 (k34 : Int32 → Int32 → Int32 → Int32 → Int32 → zz_M → Option (Int32 × zz_M)) (v1 : Int32) (v2 : Int32) (v4 : Int32) (v5 : Int32) (t0 : Int32) (z : zz_M) : Option (Int32 × zz_M) := zz_b1 (mX11_rate v5 z) (fun r2 => zz_nm (if v4 < r2 then r2 else v4) (fun n4 => mX11_like_b93 k34 v1 v2 t0 n4 v5 z))
def mX11_like_b34 : Nat → Int32 → Int32 → Int32 → Int32 → Int32 → zz_M → Option (Int32 × zz_M)
  | 0, _, _, _, _, _, _ => none
  | n + 1, v1, v2, v3, v4, v5, z => if (z.2.2.1 2) ≤ v5 then (zz_nm (zz_sF z 18 (0 : Int32)) (fun z6 => zz_b1 (mX11_likeBits v1 z6) (fun r7 => zz_b2 (mX11_tell r7.toInt64 z6) (fun r9 z11 => zz_b2 (mX11_tell v3.toInt64 z11) (fun r12 z14 => zz_b2 (mX11_tell v4.toInt64 z14) (fun r15 z17 => zz_b1 (mX11_priceOf v1 v2 z17) (fun r18 => some (r18, z17)))))))) else (zz_b1 (mX11_kind v5 z) (fun r20 => if r20 = v1 then (if v3 = (0 : Int32) then (zz_b1 (mX11_rate v5 z) (fun r26 => mX11_like_b79 (mX11_like_b34 n) v1 v2 v4 v5 r26 z)) else (zz_b1 (mX11_rate v5 z) (fun r24 => mX11_like_b79 (mX11_like_b34 n) v1 v2 v4 v5 (if r24 < v3 then r24 else v3) z))) else (mX11_like_b93 (mX11_like_b34 n) v1 v2 v3 v4 v5 z)))
def mX11_like_b24 (z : zz_M) : Option (Int32 × zz_M) := some ((-1 : Int32), z)
def mX11_like (x1 : Int32) (x2 : Int32) (z : zz_M) : Option (Int32 × zz_M) := zz_nm (zz_sF z 19 (0 : Int32)) (fun z28 => zz_b1 (mX11_isKind x1) (fun r29 => if r29 = (0 : Int32) then (mX11_like_b24 z28) else (zz_b1 (mX11_in x2.toInt64 (0 : Int64) (999 : Int64)) (fun r32 => if r32 = (0 : Int32) then (mX11_like_b24 z28) else (mX11_like_b34 zz_N x1 x2 (0 : Int32) (0 : Int32) (0 : Int32) z28)))))
theorem nX11_like_X11 : ∀ w ∈ wsX110, w ∈ wsX11_like := fun _ h => List.mem_cons_of_mem _ (List.mem_append_right _ (h))
theorem zdX11_like : yX11_like.cls = RX11 ∧ yX11_like.cls ≠ "java/lang/invoke/MethodHandle" ∧ yX11_like.cls ≠ "java/lang/invoke/VarHandle" ∧ (parseMethodDescriptor yX11_like.desc).map (fun d => d.parameters.length) = some 2 := by decide +kernel
set_option maxHeartbeats 4000000 in
set_option maxRecDepth 100000 in
theorem zX11_like (l : Launch) (D : va_G) (y : Nat → ClassId) (a : Nat → Nat) (sz : Nat) (x1 : Int32) (x2 : Int32) (z : zz_M) {r : Int32} {zt : zz_M} (hm : mX11_like x1 x2 z = some (r, zt)) : Met l yX11_like wsX11_like { frames := 2, cells := 0, slots := 0, locals := 46 } (zz_Pc D y (wR y a z) sz [.ref (a 0), .int x1, .int x2]) (zz_Qi D y (wR y a) (va_A (wR y a z) sz) r zt) 0 0 (va_A (wR y a z) sz) := by
  refine Met.ofW (cc := cX11_like) (maxL := 6) (ret := (some .int)) (by decide) rfl ?_
  intro p e s m args below meth c s₁ B hml hv
  obtain ⟨rfl, hsz, hP, hK, hD0, hN, hg⟩ := hv
  have hx := B.exec
  have hb := B.bytes
  have hr := B.returns
  have hts := atoms_spec (ws := wsX11_like) B.pre
  have hown : s.vm.findClass RX11 = some m.cls := findClass_of_methodNamed B.named
  have hlocks := B.notSynchronized
  clear B
  subst hsz
  have hD := hD0.self (sz := s.heap.size)
  generalize hAe : va_A (wR y a z) s.heap.size = A at hD hg ⊢
  have hA : ∀ q : Nat, s.heap.size ≤ q → A q := fun q h => by rw [← hAe]; exact Or.inr h
  clear hAe hD0
  have hl := lv_entry ([.ref (a 0), .int x1, .int x2]) (n := 6) (Nat.le_of_ble_eq_true rfl)
  rw [lg_entry_eq]
  generalize (lg_sl ([.ref (a 0), .int x1, .int x2]) ++ List.replicate (6 - (lg_sl ([.ref (a 0), .int x1, .int x2])).length) Slot.unset).toArray = ls at hl ⊢
  replace hl : lv_has ls 6 [(0, .ref (a 0)), (1, .int x1), (2, .int x2)] := hl
  refine zz_go (w := wR y a) hP hD va_S.rf hl (fun G hG => ?_)
  clear hP hD hl ls
  have J93 : ∀ (k34 : Int32 → Int32 → Int32 → Int32 → Int32 → zz_M → Option (Int32 × zz_M)) (K34 : ∀ (v1 : Int32) (v2 : Int32) (v3 : Int32) (v4 : Int32) (v5 : Int32) (z : zz_M), k34 v1 v2 v3 v4 v5 z = some (r, zt) → G 34 [(0, .ref (a 0)), (1, .int v1), (2, .int v2), (3, .int v3), (4, .int v4), (5, .int v5)] [] z) (v1 : Int32) (v2 : Int32) (v3 : Int32) (v4 : Int32) (v5 : Int32) (z : zz_M), mX11_like_b93 k34 v1 v2 v3 v4 v5 z = some (r, zt) → G 93 [(0, .ref (a 0)), (1, .int v1), (2, .int v2), (3, .int v3), (4, .int v4), (5, .int v5)] [] z := by
    intro k34 K34 v1 v2 v3 v4 v5 z hm
    rw [mX11_like_b93] at hm
    rw [hG]
    intro H locs ls hP hD hS hl
    obtain ⟨n1, en1⟩ : ∃ q : Int32, q = v5 + (1 : Int32) := ⟨_, rfl⟩
    replace hm := zz_nm_some en1 hm
    refine lv_iinc (v := n1) (lv' := [(5, .int n1), (0, .ref (a 0)), (1, .int v1), (2, .int v2), (3, .int v3), (4, .int v4)]) hx hb dX11_like_93 hl (k := 5) rfl (by rw [en1]; rfl) (by decide) rfl (fun ls hl => ?_)
    refine lv_goto (tgt := 34) hx hb dX11_like_96 (by decide) ?_
    have j := K34 v1 v2 v3 v4 n1 z hm
    rw [hG] at j
    exact j H locs ls hP hD hS (lv_sub hl [1, 2, 3, 4, 5, 0] rfl)
  have J79 : ∀ (k34 : Int32 → Int32 → Int32 → Int32 → Int32 → zz_M → Option (Int32 × zz_M)) (K34 : ∀ (v1 : Int32) (v2 : Int32) (v3 : Int32) (v4 : Int32) (v5 : Int32) (z : zz_M), k34 v1 v2 v3 v4 v5 z = some (r, zt) → G 34 [(0, .ref (a 0)), (1, .int v1), (2, .int v2), (3, .int v3), (4, .int v4), (5, .int v5)] [] z) (v1 : Int32) (v2 : Int32) (v4 : Int32) (v5 : Int32) (t0 : Int32) (z : zz_M), mX11_like_b79 k34 v1 v2 v4 v5 t0 z = some (r, zt) → G 79 [(0, .ref (a 0)), (1, .int v1), (2, .int v2), (4, .int v4), (5, .int v5)] [.int t0] z := by
    intro k34 K34 v1 v2 v4 v5 t0 z hm
    rw [mX11_like_b79] at hm
    rw [hG]
    intro H locs ls hP hD hS hl
    refine lv_istore_n (lv' := [(3, .int t0), (0, .ref (a 0)), (1, .int v1), (2, .int v2), (4, .int v4), (5, .int v5)]) hx hb dX11_like_79 rfl hl (by decide) rfl (fun ls hl => ?_)
    refine lv_iload hx hb dX11_like_80 (lv_at hl 4 rfl) ?_
    refine lv_aload_n hx hb dX11_like_82 rfl (lv_at hl 1 rfl) ?_
    refine lv_iload hx hb dX11_like_83 (lv_at hl 5 rfl) ?_
    obtain ⟨r2, h3, hm⟩ := zz_b1_some hm
    refine zz_calli (zz_runV (w := wR y a) (As := [.int v5]) (rest := [.int v4]) ⟨hx, hb, hml, hown, hts⟩ (zX11_rate l D y a H.size v5 z h3) (cwV 1 hts gX11_like_X11_rate rfl rfl rfl zdX11_rate ⟨Nat.le_of_ble_eq_true rfl, Nat.le_of_ble_eq_true rfl⟩) hK hN hg hP hD hS hA 0 (wR_0 y a z) rfl rfl hl.1 rfl (Nat.le_of_ble_eq_true rfl) dX11_like_85 ⟨Nat.le_of_ble_eq_true rfl, Nat.le_of_ble_eq_true rfl⟩) hD hS hA (fun H locs hP hD hS => ?_)
    refine va_mmax hx hb (hml.trans hl.1.symm) hown (hts (.methodLink RX11 227 Lib.Math.max.name) (List.mem_of_getElem? (i := 8) rfl)) (hts (.static Lib.Math.max.name) (List.mem_of_getElem? (i := 9) rfl)) (hts (.initialized "java/lang/Math") (List.mem_of_getElem? (i := 6) rfl)) (hts (.code Lib.Math.max.name Lib.Math.max.code 2 (some .int)) (List.mem_of_getElem? (i := 10) rfl)) (Nat.le_of_ble_eq_true rfl) (Nat.le_of_ble_eq_true rfl) (Nat.le_of_ble_eq_true rfl) (Nat.le_of_ble_eq_true rfl) dX11_like_88 ?_
    refine lv_topi (fun n4 en4 => ?_)
    replace hm := zz_nm_some en4 hm
    refine lv_istore (lv' := [(4, .int n4), (3, .int t0), (0, .ref (a 0)), (1, .int v1), (2, .int v2), (5, .int v5)]) hx hb dX11_like_91 hl (by decide) rfl (fun ls hl => ?_)
    have j := J93 k34 K34 v1 v2 t0 n4 v5 z hm
    rw [hG] at j
    exact j H locs ls hP hD hS (lv_sub hl [2, 3, 4, 1, 0, 5] rfl)
  have J34 : ∀ (n : Nat) (v1 : Int32) (v2 : Int32) (v3 : Int32) (v4 : Int32) (v5 : Int32) (z : zz_M), mX11_like_b34 n v1 v2 v3 v4 v5 z = some (r, zt) → G 34 [(0, .ref (a 0)), (1, .int v1), (2, .int v2), (3, .int v3), (4, .int v4), (5, .int v5)] [] z := by
    intro n
    induction n with
    | zero =>
      intro v1 v2 v3 v4 v5 z hm
      exact zz_none hm
    | succ n ih =>
      intro v1 v2 v3 v4 v5 z hm
      rw [mX11_like_b34] at hm
      rw [hG]
      intro H locs ls hP hD hS hl
      refine lv_iload hx hb dX11_like_34 (lv_at hl 5 rfl) ?_
      refine lv_aload_n hx hb dX11_like_36 rfl (lv_at hl 0 rfl) ?_
      refine va_get (D := D) (ci := 11) (v := .int (z.2.2.1 2)) (C := RX11) (T := TX11) (N := 35) hx hb hts nX11_like_X11 hown hK hP 0 (wR_0 y a z) rfl 2 (by decide) (hts (.fieldLink RX11 75 "WorksDeskModel" "itemMany" "I") (List.mem_of_getElem? (i := 3) rfl)) (fun _ h9 => h9) rfl dX11_like_37 ?_
      refine lv_icmp_ge (tgt := 99) hx hb dX11_like_40 (by decide) (fun c5 => ?_) (fun c5 => ?_)
      · replace hm := zz_pos c5 hm
        refine lv_aload_n hx hb dX11_like_99 rfl (lv_at hl 0 rfl) ?_
        refine lv_iconst (v := (0 : Int32)) hx hb dX11_like_100 (by decide) ?_
        refine va_put (D := D) (ci := 11) (v := .int (0 : Int32)) (ty := .int) (C := RX11) (T := TX11) (N := 35) hx hb hts nX11_like_X11 tyX11 tyX11_ok nmX11 hown hK hP hD hS 0 (wR_0 y a z) rfl 18 (by decide) (hts (.fieldLink RX11 100 "WorksDeskModel" "rowMany" "I") (List.mem_of_getElem? (i := 11) rfl)) (fun _ h9 => h9) rfl (tyX11_ok 18 (by decide)) rfl rfl (Nat.le_of_ble_eq_true rfl) dX11_like_101 (fun H locs hP hD hS => ?_)
        obtain ⟨z6, hP, hD, hm⟩ := zz_up (w := wR y a) (wR_f18 y a z (0 : Int32)) hP hD hm
        refine lv_aload_n hx hb dX11_like_104 rfl (lv_at hl 0 rfl) ?_
        refine lv_aload_n hx hb dX11_like_105 rfl (lv_at hl 0 rfl) ?_
        refine lv_iload_n hx hb dX11_like_106 rfl (lv_at hl 1 rfl) ?_
        obtain ⟨r7, h8, hm⟩ := zz_b1_some hm
        refine zz_calli (zz_runV (w := wR y a) (As := [.int v1]) (rest := [.ref (a 0)]) ⟨hx, hb, hml, hown, hts⟩ (zX11_likeBits l D y a H.size v1 z6 h8) (cwV 1 hts gX11_like_X11_likeBits rfl rfl rfl zdX11_likeBits ⟨Nat.le_of_ble_eq_true rfl, Nat.le_of_ble_eq_true rfl⟩) hK hN hg hP hD hS hA 0 (wR_0 y a z6) rfl rfl hl.1 rfl (Nat.le_of_ble_eq_true rfl) dX11_like_107 ⟨Nat.le_of_ble_eq_true rfl, Nat.le_of_ble_eq_true rfl⟩) hD hS hA (fun H locs hP hD hS => ?_)
        refine lv_i2l hx hb dX11_like_110 rfl ?_
        obtain ⟨r9, z11, h10, hm⟩ := zz_b2_some hm
        refine zz_callv (zz_runV (w := wR y a) (As := [.long r7.toInt64]) (rest := []) ⟨hx, hb, hml, hown, hts⟩ (zX11_tell l D y a H.size r7.toInt64 z6 h10) (cwV 1 hts gX11_like_X11_tell rfl rfl rfl zdX11_tell ⟨Nat.le_of_ble_eq_true rfl, Nat.le_of_ble_eq_true rfl⟩) hK hN hg hP hD hS hA 0 (wR_0 y a z6) rfl rfl hl.1 rfl (Nat.le_of_ble_eq_true rfl) dX11_like_111 ⟨Nat.le_of_ble_eq_true rfl, Nat.le_of_ble_eq_true rfl⟩) hD hS hA (fun H locs hP hD hS => ?_)
        refine lv_aload_n hx hb dX11_like_114 rfl (lv_at hl 0 rfl) ?_
        refine lv_iload_n hx hb dX11_like_115 rfl (lv_at hl 3 rfl) ?_
        refine lv_i2l hx hb dX11_like_116 rfl ?_
        obtain ⟨r12, z14, h13, hm⟩ := zz_b2_some hm
        refine zz_callv (zz_runV (w := wR y a) (As := [.long v3.toInt64]) (rest := []) ⟨hx, hb, hml, hown, hts⟩ (zX11_tell l D y a H.size v3.toInt64 z11 h13) (cwV 1 hts gX11_like_X11_tell rfl rfl rfl zdX11_tell ⟨Nat.le_of_ble_eq_true rfl, Nat.le_of_ble_eq_true rfl⟩) hK hN hg hP hD hS hA 0 (wR_0 y a z11) rfl rfl hl.1 rfl (Nat.le_of_ble_eq_true rfl) dX11_like_117 ⟨Nat.le_of_ble_eq_true rfl, Nat.le_of_ble_eq_true rfl⟩) hD hS hA (fun H locs hP hD hS => ?_)
        refine lv_aload_n hx hb dX11_like_120 rfl (lv_at hl 0 rfl) ?_
        refine lv_iload hx hb dX11_like_121 (lv_at hl 4 rfl) ?_
        refine lv_i2l hx hb dX11_like_123 rfl ?_
        obtain ⟨r15, z17, h16, hm⟩ := zz_b2_some hm
        refine zz_callv (zz_runV (w := wR y a) (As := [.long v4.toInt64]) (rest := []) ⟨hx, hb, hml, hown, hts⟩ (zX11_tell l D y a H.size v4.toInt64 z14 h16) (cwV 1 hts gX11_like_X11_tell rfl rfl rfl zdX11_tell ⟨Nat.le_of_ble_eq_true rfl, Nat.le_of_ble_eq_true rfl⟩) hK hN hg hP hD hS hA 0 (wR_0 y a z14) rfl rfl hl.1 rfl (Nat.le_of_ble_eq_true rfl) dX11_like_124 ⟨Nat.le_of_ble_eq_true rfl, Nat.le_of_ble_eq_true rfl⟩) hD hS hA (fun H locs hP hD hS => ?_)
        refine lv_aload_n hx hb dX11_like_127 rfl (lv_at hl 0 rfl) ?_
        refine lv_iload_n hx hb dX11_like_128 rfl (lv_at hl 1 rfl) ?_
        refine lv_iload_n hx hb dX11_like_129 rfl (lv_at hl 2 rfl) ?_
        obtain ⟨r18, h19, hm⟩ := zz_b1_some hm
        refine zz_calli (zz_runV (w := wR y a) (As := [.int v1, .int v2]) (rest := []) ⟨hx, hb, hml, hown, hts⟩ (zX11_priceOf l D y a H.size v1 v2 z17 h19) (cwV 2 hts gX11_like_X11_priceOf rfl rfl rfl zdX11_priceOf ⟨Nat.le_of_ble_eq_true rfl, Nat.le_of_ble_eq_true rfl⟩) hK hN hg hP hD hS hA 0 (wR_0 y a z17) rfl rfl hl.1 rfl (Nat.le_of_ble_eq_true rfl) dX11_like_130 ⟨Nat.le_of_ble_eq_true rfl, Nat.le_of_ble_eq_true rfl⟩) hD hS hA (fun H locs hP hD hS => ?_)
        exact zz_iret hx hb hr hlocks (zz_some2 hm) hP hK hD hS dX11_like_133
      · replace hm := zz_neg c5 hm
        refine lv_aload_n hx hb dX11_like_43 rfl (lv_at hl 0 rfl) ?_
        refine lv_iload hx hb dX11_like_44 (lv_at hl 5 rfl) ?_
        obtain ⟨r20, h21, hm⟩ := zz_b1_some hm
        refine zz_calli (zz_runV (w := wR y a) (As := [.int v5]) (rest := []) ⟨hx, hb, hml, hown, hts⟩ (zX11_kind l D y a H.size v5 z h21) (cwV 1 hts gX11_like_X11_kind rfl rfl rfl zdX11_kind ⟨Nat.le_of_ble_eq_true rfl, Nat.le_of_ble_eq_true rfl⟩) hK hN hg hP hD hS hA 0 (wR_0 y a z) rfl rfl hl.1 rfl (Nat.le_of_ble_eq_true rfl) dX11_like_46 ⟨Nat.le_of_ble_eq_true rfl, Nat.le_of_ble_eq_true rfl⟩) hD hS hA (fun H locs hP hD hS => ?_)
        refine lv_iload_n hx hb dX11_like_49 rfl (lv_at hl 1 rfl) ?_
        refine lv_icmp_eq (tgt := 56) hx hb dX11_like_50 (by decide) (fun c22 => ?_) (fun c22 => ?_)
        · replace hm := zz_pos c22 hm
          refine lv_iload_n hx hb dX11_like_56 rfl (lv_at hl 3 rfl) ?_
          refine lv_if_ne (tgt := 69) hx hb dX11_like_57 (by decide) (fun c23 => ?_) (fun c23 => ?_)
          · replace hm := zz_neg c23 hm
            refine lv_iload_n hx hb dX11_like_69 rfl (lv_at hl 3 rfl) ?_
            refine lv_aload_n hx hb dX11_like_70 rfl (lv_at hl 0 rfl) ?_
            refine lv_iload hx hb dX11_like_71 (lv_at hl 5 rfl) ?_
            obtain ⟨r24, h25, hm⟩ := zz_b1_some hm
            refine zz_calli (zz_runV (w := wR y a) (As := [.int v5]) (rest := [.int v3]) ⟨hx, hb, hml, hown, hts⟩ (zX11_rate l D y a H.size v5 z h25) (cwV 1 hts gX11_like_X11_rate rfl rfl rfl zdX11_rate ⟨Nat.le_of_ble_eq_true rfl, Nat.le_of_ble_eq_true rfl⟩) hK hN hg hP hD hS hA 0 (wR_0 y a z) rfl rfl hl.1 rfl (Nat.le_of_ble_eq_true rfl) dX11_like_73 ⟨Nat.le_of_ble_eq_true rfl, Nat.le_of_ble_eq_true rfl⟩) hD hS hA (fun H locs hP hD hS => ?_)
            refine va_mmin hx hb (hml.trans hl.1.symm) hown (hts (.methodLink RX11 265 Lib.Math.min.name) (List.mem_of_getElem? (i := 4) rfl)) (hts (.static Lib.Math.min.name) (List.mem_of_getElem? (i := 5) rfl)) (hts (.initialized "java/lang/Math") (List.mem_of_getElem? (i := 6) rfl)) (hts (.code Lib.Math.min.name Lib.Math.min.code 2 (some .int)) (List.mem_of_getElem? (i := 7) rfl)) (Nat.le_of_ble_eq_true rfl) (Nat.le_of_ble_eq_true rfl) (Nat.le_of_ble_eq_true rfl) (Nat.le_of_ble_eq_true rfl) dX11_like_76 ?_
            have j := J79 (mX11_like_b34 n) ih v1 v2 v4 v5 (if r24 < v3 then r24 else v3) z hm
            rw [hG] at j
            exact j H locs ls hP hD hS (lv_sub hl [0, 1, 2, 4, 5] rfl)
          · replace hm := zz_pos c23 hm
            refine lv_aload_n hx hb dX11_like_60 rfl (lv_at hl 0 rfl) ?_
            refine lv_iload hx hb dX11_like_61 (lv_at hl 5 rfl) ?_
            obtain ⟨r26, h27, hm⟩ := zz_b1_some hm
            refine zz_calli (zz_runV (w := wR y a) (As := [.int v5]) (rest := []) ⟨hx, hb, hml, hown, hts⟩ (zX11_rate l D y a H.size v5 z h27) (cwV 1 hts gX11_like_X11_rate rfl rfl rfl zdX11_rate ⟨Nat.le_of_ble_eq_true rfl, Nat.le_of_ble_eq_true rfl⟩) hK hN hg hP hD hS hA 0 (wR_0 y a z) rfl rfl hl.1 rfl (Nat.le_of_ble_eq_true rfl) dX11_like_63 ⟨Nat.le_of_ble_eq_true rfl, Nat.le_of_ble_eq_true rfl⟩) hD hS hA (fun H locs hP hD hS => ?_)
            refine lv_goto (tgt := 79) hx hb dX11_like_66 (by decide) ?_
            have j := J79 (mX11_like_b34 n) ih v1 v2 v4 v5 r26 z hm
            rw [hG] at j
            exact j H locs ls hP hD hS (lv_sub hl [0, 1, 2, 4, 5] rfl)
        · replace hm := zz_neg c22 hm
          refine lv_goto (tgt := 93) hx hb dX11_like_53 (by decide) ?_
          have j := J93 (mX11_like_b34 n) ih v1 v2 v3 v4 v5 z hm
          rw [hG] at j
          exact j H locs ls hP hD hS (lv_sub hl [0, 1, 2, 3, 4, 5] rfl)
  have J24 : ∀ (z : zz_M), mX11_like_b24 z = some (r, zt) → G 24 [] [] z := by
    intro z hm
    rw [mX11_like_b24] at hm
    rw [hG]
    intro H locs ls hP hD hS hl
    refine lv_iconst (v := (-1 : Int32)) hx hb dX11_like_24 (by decide) ?_
    exact zz_iret hx hb hr hlocks (zz_some2 hm) hP hK hD hS dX11_like_25
  rw [hG]
  intro H locs ls hP hD hS hl
  unfold mX11_like at hm
  refine lv_aload_n hx hb dX11_like_0 rfl (lv_at hl 0 rfl) ?_
  refine lv_iconst (v := (0 : Int32)) hx hb dX11_like_1 (by decide) ?_
  refine va_put (D := D) (ci := 11) (v := .int (0 : Int32)) (ty := .int) (C := RX11) (T := TX11) (N := 35) hx hb hts nX11_like_X11 tyX11 tyX11_ok nmX11 hown hK hP hD hS 0 (wR_0 y a z) rfl 19 (by decide) (hts (.fieldLink RX11 97 "WorksDeskModel" "thrown" "I") (List.mem_of_getElem? (i := 1) rfl)) (fun _ h9 => h9) rfl (tyX11_ok 19 (by decide)) rfl rfl (Nat.le_of_ble_eq_true rfl) dX11_like_2 (fun H locs hP hD hS => ?_)
  obtain ⟨z28, hP, hD, hm⟩ := zz_up (w := wR y a) (wR_f19 y a z (0 : Int32)) hP hD hm
  refine lv_iload_n hx hb dX11_like_5 rfl (lv_at hl 1 rfl) ?_
  obtain ⟨r29, h30, hm⟩ := zz_b1_some hm
  refine zz_calli (zz_runS (w := wR y a) (As := [.int x1]) (rest := []) ⟨hx, hb, hml, hown, hts⟩ (zX11_isKind l D y a H.size x1 z28 h30) (va_cwS 1 hts gX11_like_X11_isKind rfl rfl rfl zdX11_isKind ⟨Nat.le_of_ble_eq_true rfl, Nat.le_of_ble_eq_true rfl⟩) hK hN hg hP hD hS hA rfl hl.1 rfl (Nat.le_of_ble_eq_true rfl) dX11_like_6 ⟨Nat.le_of_ble_eq_true rfl, Nat.le_of_ble_eq_true rfl⟩) hD hS hA (fun H locs hP hD hS => ?_)
  refine lv_if_eq (tgt := 24) hx hb dX11_like_9 (by decide) (fun c31 => ?_) (fun c31 => ?_)
  · replace hm := zz_pos c31 hm
    have j := J24 z28 hm
    rw [hG] at j
    exact j H locs ls hP hD hS (lv_sub hl [] rfl)
  · replace hm := zz_neg c31 hm
    refine lv_iload_n hx hb dX11_like_12 rfl (lv_at hl 2 rfl) ?_
    refine lv_i2l hx hb dX11_like_13 rfl ?_
    refine lv_lconst (v := (0 : Int64)) hx hb dX11_like_14 (by decide) ?_
    refine lv_ldc2 (v := (999 : Int64)) hx hb hown (hts (.constantLong RX11 178 (999)) (List.mem_of_getElem? (i := 2) rfl)) dX11_like_15 ?_
    obtain ⟨r32, h33, hm⟩ := zz_b1_some hm
    refine zz_calli (zz_runS (w := wR y a) (As := [.long x2.toInt64, .long (0 : Int64), .long (999 : Int64)]) (rest := []) ⟨hx, hb, hml, hown, hts⟩ (zX11_in l D y a H.size x2.toInt64 (0 : Int64) (999 : Int64) z28 h33) (va_cwS 3 hts gX11_like_X11_in rfl rfl rfl zdX11_in ⟨Nat.le_of_ble_eq_true rfl, Nat.le_of_ble_eq_true rfl⟩) hK hN hg hP hD hS hA rfl hl.1 rfl (Nat.le_of_ble_eq_true rfl) dX11_like_18 ⟨Nat.le_of_ble_eq_true rfl, Nat.le_of_ble_eq_true rfl⟩) hD hS hA (fun H locs hP hD hS => ?_)
    refine lv_if_ne (tgt := 26) hx hb dX11_like_21 (by decide) (fun c34 => ?_) (fun c34 => ?_)
    · replace hm := zz_neg c34 hm
      refine lv_iconst (v := (0 : Int32)) hx hb dX11_like_26 (by decide) ?_
      refine lv_istore_n (lv' := [(3, .int (0 : Int32)), (0, .ref (a 0)), (1, .int x1), (2, .int x2)]) hx hb dX11_like_27 rfl hl (by decide) rfl (fun ls hl => ?_)
      refine lv_iconst (v := (0 : Int32)) hx hb dX11_like_28 (by decide) ?_
      refine lv_istore (lv' := [(4, .int (0 : Int32)), (3, .int (0 : Int32)), (0, .ref (a 0)), (1, .int x1), (2, .int x2)]) hx hb dX11_like_29 hl (by decide) rfl (fun ls hl => ?_)
      refine lv_iconst (v := (0 : Int32)) hx hb dX11_like_31 (by decide) ?_
      refine lv_istore (lv' := [(5, .int (0 : Int32)), (4, .int (0 : Int32)), (3, .int (0 : Int32)), (0, .ref (a 0)), (1, .int x1), (2, .int x2)]) hx hb dX11_like_32 hl (by decide) rfl (fun ls hl => ?_)
      have j := J34 zz_N x1 x2 (0 : Int32) (0 : Int32) (0 : Int32) z28 hm
      rw [hG] at j
      exact j H locs ls hP hD hS (lv_sub hl [3, 4, 5, 2, 1, 0] rfl)
    · replace hm := zz_pos c34 hm
      have j := J24 z28 hm
      rw [hG] at j
      exact j H locs ls hP hD hS (lv_sub hl [] rfl)
def mX11_limited_b44 (z : zz_M) : Option (Int32 × zz_M) := some ((-2 : Int32), z)
def mX11_limited_b12 : Nat → Int64 → Int32 → zz_M → Option (Int32 × zz_M)
  | 0, _, _, _ => none
  | n + 1, v1, v3, z => if (z.2.2.1 9) ≤ v3 then (mX11_limited_b44 z) else (if (lg_cmp v1 (0 : Int64)) ≤ (0 : Int32) then (mX11_limited_b44 z) else (zz_b1 (mX11_retainedIn v3 z) (fun r3 => if (lg_cmp r3 v1) = (0 : Int32) then (some (v3, z)) else (zz_nm (v3 + (1 : Int32)) (fun n6 => (mX11_limited_b12 n) v1 n6 z)))))
def mX11_limited (z : zz_M) : Option (Int32 × zz_M) := zz_nm (zz_sF z 19 (0 : Int32)) (fun z7 => zz_b1 (mX11_limitNow z7) (fun r8 => mX11_limited_b12 zz_N r8 (0 : Int32) z7))
theorem nX11_limited_X11 : ∀ w ∈ wsX110, w ∈ wsX11_limited := fun _ h => List.mem_cons_of_mem _ (List.mem_append_right _ (h))
theorem zdX11_limited : yX11_limited.cls = RX11 ∧ yX11_limited.cls ≠ "java/lang/invoke/MethodHandle" ∧ yX11_limited.cls ≠ "java/lang/invoke/VarHandle" ∧ (parseMethodDescriptor yX11_limited.desc).map (fun d => d.parameters.length) = some 0 := by decide +kernel
set_option maxHeartbeats 4000000 in
set_option maxRecDepth 100000 in
theorem zX11_limited (l : Launch) (D : va_G) (y : Nat → ClassId) (a : Nat → Nat) (sz : Nat) (z : zz_M) {r : Int32} {zt : zz_M} (hm : mX11_limited z = some (r, zt)) : Met l yX11_limited wsX11_limited { frames := 6, cells := 0, slots := 0, locals := 138 } (zz_Pc D y (wR y a z) sz [.ref (a 0)]) (zz_Qi D y (wR y a) (va_A (wR y a z) sz) r zt) 0 0 (va_A (wR y a z) sz) := by
  refine Met.ofW (cc := cX11_limited) (maxL := 4) (ret := (some .int)) (by decide) rfl ?_
  intro p e s m args below meth c s₁ B hml hv
  obtain ⟨rfl, hsz, hP, hK, hD0, hN, hg⟩ := hv
  have hx := B.exec
  have hb := B.bytes
  have hr := B.returns
  have hts := atoms_spec (ws := wsX11_limited) B.pre
  have hown : s.vm.findClass RX11 = some m.cls := findClass_of_methodNamed B.named
  have hlocks := B.notSynchronized
  clear B
  subst hsz
  have hD := hD0.self (sz := s.heap.size)
  generalize hAe : va_A (wR y a z) s.heap.size = A at hD hg ⊢
  have hA : ∀ q : Nat, s.heap.size ≤ q → A q := fun q h => by rw [← hAe]; exact Or.inr h
  clear hAe hD0
  have hl := lv_entry ([.ref (a 0)]) (n := 4) (Nat.le_of_ble_eq_true rfl)
  rw [lg_entry_eq]
  generalize (lg_sl ([.ref (a 0)]) ++ List.replicate (4 - (lg_sl ([.ref (a 0)])).length) Slot.unset).toArray = ls at hl ⊢
  replace hl : lv_has ls 4 [(0, .ref (a 0))] := hl
  refine zz_go (w := wR y a) hP hD va_S.rf hl (fun G hG => ?_)
  clear hP hD hl ls
  have J44 : ∀ (z : zz_M), mX11_limited_b44 z = some (r, zt) → G 44 [] [] z := by
    intro z hm
    rw [mX11_limited_b44] at hm
    rw [hG]
    intro H locs ls hP hD hS hl
    refine lv_bipush (v := (-2 : Int32)) hx hb dX11_limited_44 (by decide) ?_
    exact zz_iret hx hb hr hlocks (zz_some2 hm) hP hK hD hS dX11_limited_46
  have J12 : ∀ (n : Nat) (v1 : Int64) (v3 : Int32) (z : zz_M), mX11_limited_b12 n v1 v3 z = some (r, zt) → G 12 [(0, .ref (a 0)), (1, .long v1), (3, .int v3)] [] z := by
    intro n
    induction n with
    | zero =>
      intro v1 v3 z hm
      exact zz_none hm
    | succ n ih =>
      intro v1 v3 z hm
      rw [mX11_limited_b12] at hm
      rw [hG]
      intro H locs ls hP hD hS hl
      refine lv_iload_n hx hb dX11_limited_12 rfl (lv_at hl 2 rfl) ?_
      refine lv_aload_n hx hb dX11_limited_13 rfl (lv_at hl 0 rfl) ?_
      refine va_get (D := D) (ci := 11) (v := .int (z.2.2.1 9)) (C := RX11) (T := TX11) (N := 35) hx hb hts nX11_limited_X11 hown hK hP 0 (wR_0 y a z) rfl 9 (by decide) (hts (.fieldLink RX11 85 "WorksDeskModel" "handover" "I") (List.mem_of_getElem? (i := 2) rfl)) (fun _ h9 => h9) rfl dX11_limited_14 ?_
      refine lv_icmp_ge (tgt := 44) hx hb dX11_limited_17 (by decide) (fun c1 => ?_) (fun c1 => ?_)
      · replace hm := zz_pos c1 hm
        have j := J44 z hm
        rw [hG] at j
        exact j H locs ls hP hD hS (lv_sub hl [] rfl)
      · replace hm := zz_neg c1 hm
        refine lv_lload_n hx hb dX11_limited_20 rfl (lv_at hl 1 rfl) ?_
        refine lv_lconst (v := (0 : Int64)) hx hb dX11_limited_21 (by decide) ?_
        refine W.lcmp hx hb dX11_limited_22 ?_
        refine lv_if_le (tgt := 44) hx hb dX11_limited_23 (by decide) (fun c2 => ?_) (fun c2 => ?_)
        · replace hm := zz_pos c2 hm
          have j := J44 z hm
          rw [hG] at j
          exact j H locs ls hP hD hS (lv_sub hl [] rfl)
        · replace hm := zz_neg c2 hm
          refine lv_aload_n hx hb dX11_limited_26 rfl (lv_at hl 0 rfl) ?_
          refine lv_iload_n hx hb dX11_limited_27 rfl (lv_at hl 2 rfl) ?_
          obtain ⟨r3, h4, hm⟩ := zz_b1_some hm
          refine zz_calll (zz_runV (w := wR y a) (As := [.int v3]) (rest := []) ⟨hx, hb, hml, hown, hts⟩ (zX11_retainedIn l D y a H.size v3 z h4) (cwV 1 hts gX11_limited_X11_retainedIn rfl rfl rfl zdX11_retainedIn ⟨Nat.le_of_ble_eq_true rfl, Nat.le_of_ble_eq_true rfl⟩) hK hN hg hP hD hS hA 0 (wR_0 y a z) rfl rfl hl.1 rfl (Nat.le_of_ble_eq_true rfl) dX11_limited_28 ⟨Nat.le_of_ble_eq_true rfl, Nat.le_of_ble_eq_true rfl⟩) hD hS hA (fun H locs hP hD hS => ?_)
          refine lv_lload_n hx hb dX11_limited_31 rfl (lv_at hl 1 rfl) ?_
          refine W.lcmp hx hb dX11_limited_32 ?_
          refine lv_if_ne (tgt := 38) hx hb dX11_limited_33 (by decide) (fun c5 => ?_) (fun c5 => ?_)
          · replace hm := zz_neg c5 hm
            obtain ⟨n6, en6⟩ : ∃ q : Int32, q = v3 + (1 : Int32) := ⟨_, rfl⟩
            replace hm := zz_nm_some en6 hm
            refine lv_iinc (v := n6) (lv' := [(3, .int n6), (0, .ref (a 0)), (1, .long v1)]) hx hb dX11_limited_38 hl (k := 2) rfl (by rw [en6]; rfl) (by decide) rfl (fun ls hl => ?_)
            refine lv_goto (tgt := 12) hx hb dX11_limited_41 (by decide) ?_
            have j := ih v1 n6 z hm
            rw [hG] at j
            exact j H locs ls hP hD hS (lv_sub hl [1, 2, 0] rfl)
          · replace hm := zz_pos c5 hm
            refine lv_iload_n hx hb dX11_limited_36 rfl (lv_at hl 2 rfl) ?_
            exact zz_iret hx hb hr hlocks (zz_some2 hm) hP hK hD hS dX11_limited_37
  rw [hG]
  intro H locs ls hP hD hS hl
  unfold mX11_limited at hm
  refine lv_aload_n hx hb dX11_limited_0 rfl (lv_at hl 0 rfl) ?_
  refine lv_iconst (v := (0 : Int32)) hx hb dX11_limited_1 (by decide) ?_
  refine va_put (D := D) (ci := 11) (v := .int (0 : Int32)) (ty := .int) (C := RX11) (T := TX11) (N := 35) hx hb hts nX11_limited_X11 tyX11 tyX11_ok nmX11 hown hK hP hD hS 0 (wR_0 y a z) rfl 19 (by decide) (hts (.fieldLink RX11 97 "WorksDeskModel" "thrown" "I") (List.mem_of_getElem? (i := 1) rfl)) (fun _ h9 => h9) rfl (tyX11_ok 19 (by decide)) rfl rfl (Nat.le_of_ble_eq_true rfl) dX11_limited_2 (fun H locs hP hD hS => ?_)
  obtain ⟨z7, hP, hD, hm⟩ := zz_up (w := wR y a) (wR_f19 y a z (0 : Int32)) hP hD hm
  refine lv_aload_n hx hb dX11_limited_5 rfl (lv_at hl 0 rfl) ?_
  obtain ⟨r8, h9, hm⟩ := zz_b1_some hm
  refine zz_calll (zz_runV (w := wR y a) (As := []) (rest := []) ⟨hx, hb, hml, hown, hts⟩ (zX11_limitNow l D y a H.size z7 h9) (cwV 0 hts gX11_limited_X11_limitNow rfl rfl rfl zdX11_limitNow ⟨Nat.le_of_ble_eq_true rfl, Nat.le_of_ble_eq_true rfl⟩) hK hN hg hP hD hS hA 0 (wR_0 y a z7) rfl rfl hl.1 rfl (Nat.le_of_ble_eq_true rfl) dX11_limited_6 ⟨Nat.le_of_ble_eq_true rfl, Nat.le_of_ble_eq_true rfl⟩) hD hS hA (fun H locs hP hD hS => ?_)
  refine lv_lstore_n (lv' := [(1, .long r8), (0, .ref (a 0))]) hx hb dX11_limited_9 rfl hl (by decide) rfl (fun ls hl => ?_)
  refine lv_iconst (v := (0 : Int32)) hx hb dX11_limited_10 (by decide) ?_
  refine lv_istore_n (lv' := [(3, .int (0 : Int32)), (1, .long r8), (0, .ref (a 0))]) hx hb dX11_limited_11 rfl hl (by decide) rfl (fun ls hl => ?_)
  have j := J12 zz_N r8 (0 : Int32) z7 hm
  rw [hG] at j
  exact j H locs ls hP hD hS (lv_sub hl [2, 1, 0] rfl)
def mX11_lines_b156 (t0 : Int64) (t1 : Int64) (z : zz_M) : Option (Int32 × zz_M) := zz_b2 (mX11_tell (t1 - t0) z) (fun r1 z3 => some ((0 : Int32), z3))
def mX11_lines_b131 (v1 : Int32) (v2 : Int32) (t0 : Int64) (t1 : Int64) (z : zz_M) : Option (Int32 × zz_M) := zz_b2 (mX11_tell (t1 - t0) z) (fun r4 z6 => zz_b1 (mX11_setIn v1 z6) (fun r7 => if v2 = (0 : Int32) then (zz_b1 (mX11_setIn (v1 - (1 : Int32)) z6) (fun r10 => mX11_lines_b156 r10 r7 z6)) else (mX11_lines_b156 (0 : Int64) r7 z6)))
def mX11_lines_b104 (v1 : Int32) (v2 : Int32) (t0 : Int64) (t1 : Int64) (z : zz_M) : Option (Int32 × zz_M) := zz_b2 (mX11_tell (t1 - t0) z) (fun r12 z14 => zz_ck (zz_in v1 24) (if v2 = (0 : Int32) then (zz_ck (zz_in (v1 - (1 : Int32)) 24) (mX11_lines_b131 v1 v2 (z14.2.1 13 (v1 - (1 : Int32)).toNatClampNeg) (z14.2.1 13 v1.toNatClampNeg) z14)) else (mX11_lines_b131 v1 v2 (0 : Int64) (z14.2.1 13 v1.toNatClampNeg) z14)))
def mX11_lines_b79 (v1 : Int32) (v2 : Int32) (t0 : Int64) (t1 : Int64) (z : zz_M) : Option (Int32 × zz_M) := zz_b2 (mX11_tell (t1 - t0) z) (fun r18 z20 => zz_b1 (mX11_retainedIn v1 z20) (fun r21 => if v2 = (0 : Int32) then (zz_b1 (mX11_retainedIn (v1 - (1 : Int32)) z20) (fun r24 => mX11_lines_b104 v1 v2 r24 r21 z20)) else (mX11_lines_b104 v1 v2 (0 : Int64) r21 z20)))
def mX11_lines_b54 (v1 : Int32) (v2 : Int32) (t0 : Int64) (t1 : Int64) (z : zz_M) : Option (Int32 × zz_M) := zz_b2 (mX11_tell (t1 - t0) z) (fun r26 z28 => zz_b1 (mX11_materialsIn v1 z28) (fun r29 => if v2 = (0 : Int32) then (zz_b1 (mX11_materialsIn (v1 - (1 : Int32)) z28) (fun r32 => mX11_lines_b79 v1 v2 r32 r29 z28)) else (mX11_lines_b79 v1 v2 (0 : Int64) r29 z28)))
def mX11_lines_b27 (v1 : Int32) (t0 : Int32) (z : zz_M) : Option (Int32 × zz_M) := zz_nm (zz_sF z 18 (0 : Int32)) (fun z34 => zz_b1 (mX11_workIn v1 z34) (fun r35 => if t0 = (0 : Int32) then (zz_b1 (mX11_workIn (v1 - (1 : Int32)) z34) (fun r38 => mX11_lines_b54 v1 t0 r38 r35 z34)) else (mX11_lines_b54 v1 t0 (0 : Int64) r35 z34)))
def mX11_lines (x1 : Int32) (z : zz_M) : Option (Int32 × zz_M) := zz_nm (zz_sF z 19 (0 : Int32)) (fun z40 => zz_b1 (mX11_isMonth x1) (fun r41 => if r41 = (0 : Int32) then (some ((-1 : Int32), z40)) else (zz_b2 (mX11_layMonths z40) (fun r44 z46 => if x1 = (0 : Int32) then (mX11_lines_b27 x1 (1 : Int32) z46) else (mX11_lines_b27 x1 (0 : Int32) z46)))))
theorem nX11_lines_X11 : ∀ w ∈ wsX110, w ∈ wsX11_lines := fun _ h => List.mem_cons_of_mem _ (List.mem_append_right _ (h))
theorem zdX11_lines : yX11_lines.cls = RX11 ∧ yX11_lines.cls ≠ "java/lang/invoke/MethodHandle" ∧ yX11_lines.cls ≠ "java/lang/invoke/VarHandle" ∧ (parseMethodDescriptor yX11_lines.desc).map (fun d => d.parameters.length) = some 1 := by decide +kernel
set_option maxHeartbeats 4000000 in
set_option maxRecDepth 100000 in
theorem zX11_lines (l : Launch) (D : va_G) (y : Nat → ClassId) (a : Nat → Nat) (sz : Nat) (x1 : Int32) (z : zz_M) {r : Int32} {zt : zz_M} (hm : mX11_lines x1 z = some (r, zt)) : Met l yX11_lines wsX11_lines { frames := 7, cells := 0, slots := 0, locals := 175 } (zz_Pc D y (wR y a z) sz [.ref (a 0), .int x1]) (zz_Qi D y (wR y a) (va_A (wR y a z) sz) r zt) 0 0 (va_A (wR y a z) sz) := by
  refine Met.ofW (cc := cX11_lines) (maxL := 3) (ret := (some .int)) (by decide) rfl ?_
  intro p e s m args below meth c s₁ B hml hv
  obtain ⟨rfl, hsz, hP, hK, hD0, hN, hg⟩ := hv
  have hx := B.exec
  have hb := B.bytes
  have hr := B.returns
  have hts := atoms_spec (ws := wsX11_lines) B.pre
  have hown : s.vm.findClass RX11 = some m.cls := findClass_of_methodNamed B.named
  have hlocks := B.notSynchronized
  clear B
  subst hsz
  have hD := hD0.self (sz := s.heap.size)
  generalize hAe : va_A (wR y a z) s.heap.size = A at hD hg ⊢
  have hA : ∀ q : Nat, s.heap.size ≤ q → A q := fun q h => by rw [← hAe]; exact Or.inr h
  clear hAe hD0
  have hl := lv_entry ([.ref (a 0), .int x1]) (n := 3) (Nat.le_of_ble_eq_true rfl)
  rw [lg_entry_eq]
  generalize (lg_sl ([.ref (a 0), .int x1]) ++ List.replicate (3 - (lg_sl ([.ref (a 0), .int x1])).length) Slot.unset).toArray = ls at hl ⊢
  replace hl : lv_has ls 3 [(0, .ref (a 0)), (1, .int x1)] := hl
  refine zz_go (w := wR y a) hP hD va_S.rf hl (fun G hG => ?_)
  clear hP hD hl ls
  have J156 : ∀ (t0 : Int64) (t1 : Int64) (z : zz_M), mX11_lines_b156 t0 t1 z = some (r, zt) → G 156 [] [.long t0, .long t1, .ref (a 0)] z := by
    intro t0 t1 z hm
    rw [mX11_lines_b156] at hm
    rw [hG]
    intro H locs ls hP hD hS hl
    refine lv_lsub hx hb dX11_lines_156 ?_
    obtain ⟨r1, z3, h2, hm⟩ := zz_b2_some hm
    refine zz_callv (zz_runV (w := wR y a) (As := [.long (t1 - t0)]) (rest := []) ⟨hx, hb, hml, hown, hts⟩ (zX11_tell l D y a H.size (t1 - t0) z h2) (cwV 1 hts gX11_lines_X11_tell rfl rfl rfl zdX11_tell ⟨Nat.le_of_ble_eq_true rfl, Nat.le_of_ble_eq_true rfl⟩) hK hN hg hP hD hS hA 0 (wR_0 y a z) rfl rfl hl.1 rfl (Nat.le_of_ble_eq_true rfl) dX11_lines_157 ⟨Nat.le_of_ble_eq_true rfl, Nat.le_of_ble_eq_true rfl⟩) hD hS hA (fun H locs hP hD hS => ?_)
    refine lv_iconst (v := (0 : Int32)) hx hb dX11_lines_160 (by decide) ?_
    exact zz_iret hx hb hr hlocks (zz_some2 hm) hP hK hD hS dX11_lines_161
  have J131 : ∀ (v1 : Int32) (v2 : Int32) (t0 : Int64) (t1 : Int64) (z : zz_M), mX11_lines_b131 v1 v2 t0 t1 z = some (r, zt) → G 131 [(0, .ref (a 0)), (1, .int v1), (2, .int v2)] [.long t0, .long t1, .ref (a 0)] z := by
    intro v1 v2 t0 t1 z hm
    rw [mX11_lines_b131] at hm
    rw [hG]
    intro H locs ls hP hD hS hl
    refine lv_lsub hx hb dX11_lines_131 ?_
    obtain ⟨r4, z6, h5, hm⟩ := zz_b2_some hm
    refine zz_callv (zz_runV (w := wR y a) (As := [.long (t1 - t0)]) (rest := []) ⟨hx, hb, hml, hown, hts⟩ (zX11_tell l D y a H.size (t1 - t0) z h5) (cwV 1 hts gX11_lines_X11_tell rfl rfl rfl zdX11_tell ⟨Nat.le_of_ble_eq_true rfl, Nat.le_of_ble_eq_true rfl⟩) hK hN hg hP hD hS hA 0 (wR_0 y a z) rfl rfl hl.1 rfl (Nat.le_of_ble_eq_true rfl) dX11_lines_132 ⟨Nat.le_of_ble_eq_true rfl, Nat.le_of_ble_eq_true rfl⟩) hD hS hA (fun H locs hP hD hS => ?_)
    refine lv_aload_n hx hb dX11_lines_135 rfl (lv_at hl 0 rfl) ?_
    refine lv_aload_n hx hb dX11_lines_136 rfl (lv_at hl 0 rfl) ?_
    refine lv_iload_n hx hb dX11_lines_137 rfl (lv_at hl 1 rfl) ?_
    obtain ⟨r7, h8, hm⟩ := zz_b1_some hm
    refine zz_calll (zz_runV (w := wR y a) (As := [.int v1]) (rest := [.ref (a 0)]) ⟨hx, hb, hml, hown, hts⟩ (zX11_setIn l D y a H.size v1 z6 h8) (cwV 1 hts gX11_lines_X11_setIn rfl rfl rfl zdX11_setIn ⟨Nat.le_of_ble_eq_true rfl, Nat.le_of_ble_eq_true rfl⟩) hK hN hg hP hD hS hA 0 (wR_0 y a z6) rfl rfl hl.1 rfl (Nat.le_of_ble_eq_true rfl) dX11_lines_138 ⟨Nat.le_of_ble_eq_true rfl, Nat.le_of_ble_eq_true rfl⟩) hD hS hA (fun H locs hP hD hS => ?_)
    refine lv_iload_n hx hb dX11_lines_141 rfl (lv_at hl 2 rfl) ?_
    refine lv_if_eq (tgt := 149) hx hb dX11_lines_142 (by decide) (fun c9 => ?_) (fun c9 => ?_)
    · replace hm := zz_pos c9 hm
      refine lv_aload_n hx hb dX11_lines_149 rfl (lv_at hl 0 rfl) ?_
      refine lv_iload_n hx hb dX11_lines_150 rfl (lv_at hl 1 rfl) ?_
      refine lv_iconst (v := (1 : Int32)) hx hb dX11_lines_151 (by decide) ?_
      refine lv_isub hx hb dX11_lines_152 ?_
      obtain ⟨r10, h11, hm⟩ := zz_b1_some hm
      refine zz_calll (zz_runV (w := wR y a) (As := [.int (v1 - (1 : Int32))]) (rest := [.long r7, .ref (a 0)]) ⟨hx, hb, hml, hown, hts⟩ (zX11_setIn l D y a H.size (v1 - (1 : Int32)) z6 h11) (cwV 1 hts gX11_lines_X11_setIn rfl rfl rfl zdX11_setIn ⟨Nat.le_of_ble_eq_true rfl, Nat.le_of_ble_eq_true rfl⟩) hK hN hg hP hD hS hA 0 (wR_0 y a z6) rfl rfl hl.1 rfl (Nat.le_of_ble_eq_true rfl) dX11_lines_153 ⟨Nat.le_of_ble_eq_true rfl, Nat.le_of_ble_eq_true rfl⟩) hD hS hA (fun H locs hP hD hS => ?_)
      have j := J156 r10 r7 z6 hm
      rw [hG] at j
      exact j H locs ls hP hD hS (lv_sub hl [] rfl)
    · replace hm := zz_neg c9 hm
      refine lv_lconst (v := (0 : Int64)) hx hb dX11_lines_145 (by decide) ?_
      refine lv_goto (tgt := 156) hx hb dX11_lines_146 (by decide) ?_
      have j := J156 (0 : Int64) r7 z6 hm
      rw [hG] at j
      exact j H locs ls hP hD hS (lv_sub hl [] rfl)
  have J104 : ∀ (v1 : Int32) (v2 : Int32) (t0 : Int64) (t1 : Int64) (z : zz_M), mX11_lines_b104 v1 v2 t0 t1 z = some (r, zt) → G 104 [(0, .ref (a 0)), (1, .int v1), (2, .int v2)] [.long t0, .long t1, .ref (a 0)] z := by
    intro v1 v2 t0 t1 z hm
    rw [mX11_lines_b104] at hm
    rw [hG]
    intro H locs ls hP hD hS hl
    refine lv_lsub hx hb dX11_lines_104 ?_
    obtain ⟨r12, z14, h13, hm⟩ := zz_b2_some hm
    refine zz_callv (zz_runV (w := wR y a) (As := [.long (t1 - t0)]) (rest := []) ⟨hx, hb, hml, hown, hts⟩ (zX11_tell l D y a H.size (t1 - t0) z h13) (cwV 1 hts gX11_lines_X11_tell rfl rfl rfl zdX11_tell ⟨Nat.le_of_ble_eq_true rfl, Nat.le_of_ble_eq_true rfl⟩) hK hN hg hP hD hS hA 0 (wR_0 y a z) rfl rfl hl.1 rfl (Nat.le_of_ble_eq_true rfl) dX11_lines_105 ⟨Nat.le_of_ble_eq_true rfl, Nat.le_of_ble_eq_true rfl⟩) hD hS hA (fun H locs hP hD hS => ?_)
    refine lv_aload_n hx hb dX11_lines_108 rfl (lv_at hl 0 rfl) ?_
    refine lv_aload_n hx hb dX11_lines_109 rfl (lv_at hl 0 rfl) ?_
    refine va_get (D := D) (ci := 11) (v := .ref (a 13)) (C := RX11) (T := TX11) (N := 35) hx hb hts nX11_lines_X11 hown hK hP 0 (wR_0 y a z14) rfl 25 (by decide) (hts (.fieldLink RX11 48 "WorksDeskModel" "recovered" "[J") (List.mem_of_getElem? (i := 3) rfl)) (fun _ h9 => h9) rfl dX11_lines_110 ?_
    refine lv_iload_n hx hb dX11_lines_113 rfl (lv_at hl 1 rfl) ?_
    obtain ⟨c15, hm⟩ := zz_ck_some hm
    refine va_lald hx hb hK hP 13 1 (wR_13 y a z14) rfl c15 dX11_lines_114 ?_
    refine lv_iload_n hx hb dX11_lines_115 rfl (lv_at hl 2 rfl) ?_
    refine lv_if_eq (tgt := 123) hx hb dX11_lines_116 (by decide) (fun c16 => ?_) (fun c16 => ?_)
    · replace hm := zz_pos c16 hm
      refine lv_aload_n hx hb dX11_lines_123 rfl (lv_at hl 0 rfl) ?_
      refine va_get (D := D) (ci := 11) (v := .ref (a 13)) (C := RX11) (T := TX11) (N := 35) hx hb hts nX11_lines_X11 hown hK hP 0 (wR_0 y a z14) rfl 25 (by decide) (hts (.fieldLink RX11 48 "WorksDeskModel" "recovered" "[J") (List.mem_of_getElem? (i := 3) rfl)) (fun _ h9 => h9) rfl dX11_lines_124 ?_
      refine lv_iload_n hx hb dX11_lines_127 rfl (lv_at hl 1 rfl) ?_
      refine lv_iconst (v := (1 : Int32)) hx hb dX11_lines_128 (by decide) ?_
      refine lv_isub hx hb dX11_lines_129 ?_
      obtain ⟨c17, hm⟩ := zz_ck_some hm
      refine va_lald hx hb hK hP 13 1 (wR_13 y a z14) rfl c17 dX11_lines_130 ?_
      have j := J131 v1 v2 (z14.2.1 13 (v1 - (1 : Int32)).toNatClampNeg) (z14.2.1 13 v1.toNatClampNeg) z14 hm
      rw [hG] at j
      exact j H locs ls hP hD hS (lv_sub hl [0, 1, 2] rfl)
    · replace hm := zz_neg c16 hm
      refine lv_lconst (v := (0 : Int64)) hx hb dX11_lines_119 (by decide) ?_
      refine lv_goto (tgt := 131) hx hb dX11_lines_120 (by decide) ?_
      have j := J131 v1 v2 (0 : Int64) (z14.2.1 13 v1.toNatClampNeg) z14 hm
      rw [hG] at j
      exact j H locs ls hP hD hS (lv_sub hl [0, 1, 2] rfl)
  have J79 : ∀ (v1 : Int32) (v2 : Int32) (t0 : Int64) (t1 : Int64) (z : zz_M), mX11_lines_b79 v1 v2 t0 t1 z = some (r, zt) → G 79 [(0, .ref (a 0)), (1, .int v1), (2, .int v2)] [.long t0, .long t1, .ref (a 0)] z := by
    intro v1 v2 t0 t1 z hm
    rw [mX11_lines_b79] at hm
    rw [hG]
    intro H locs ls hP hD hS hl
    refine lv_lsub hx hb dX11_lines_79 ?_
    obtain ⟨r18, z20, h19, hm⟩ := zz_b2_some hm
    refine zz_callv (zz_runV (w := wR y a) (As := [.long (t1 - t0)]) (rest := []) ⟨hx, hb, hml, hown, hts⟩ (zX11_tell l D y a H.size (t1 - t0) z h19) (cwV 1 hts gX11_lines_X11_tell rfl rfl rfl zdX11_tell ⟨Nat.le_of_ble_eq_true rfl, Nat.le_of_ble_eq_true rfl⟩) hK hN hg hP hD hS hA 0 (wR_0 y a z) rfl rfl hl.1 rfl (Nat.le_of_ble_eq_true rfl) dX11_lines_80 ⟨Nat.le_of_ble_eq_true rfl, Nat.le_of_ble_eq_true rfl⟩) hD hS hA (fun H locs hP hD hS => ?_)
    refine lv_aload_n hx hb dX11_lines_83 rfl (lv_at hl 0 rfl) ?_
    refine lv_aload_n hx hb dX11_lines_84 rfl (lv_at hl 0 rfl) ?_
    refine lv_iload_n hx hb dX11_lines_85 rfl (lv_at hl 1 rfl) ?_
    obtain ⟨r21, h22, hm⟩ := zz_b1_some hm
    refine zz_calll (zz_runV (w := wR y a) (As := [.int v1]) (rest := [.ref (a 0)]) ⟨hx, hb, hml, hown, hts⟩ (zX11_retainedIn l D y a H.size v1 z20 h22) (cwV 1 hts gX11_lines_X11_retainedIn rfl rfl rfl zdX11_retainedIn ⟨Nat.le_of_ble_eq_true rfl, Nat.le_of_ble_eq_true rfl⟩) hK hN hg hP hD hS hA 0 (wR_0 y a z20) rfl rfl hl.1 rfl (Nat.le_of_ble_eq_true rfl) dX11_lines_86 ⟨Nat.le_of_ble_eq_true rfl, Nat.le_of_ble_eq_true rfl⟩) hD hS hA (fun H locs hP hD hS => ?_)
    refine lv_iload_n hx hb dX11_lines_89 rfl (lv_at hl 2 rfl) ?_
    refine lv_if_eq (tgt := 97) hx hb dX11_lines_90 (by decide) (fun c23 => ?_) (fun c23 => ?_)
    · replace hm := zz_pos c23 hm
      refine lv_aload_n hx hb dX11_lines_97 rfl (lv_at hl 0 rfl) ?_
      refine lv_iload_n hx hb dX11_lines_98 rfl (lv_at hl 1 rfl) ?_
      refine lv_iconst (v := (1 : Int32)) hx hb dX11_lines_99 (by decide) ?_
      refine lv_isub hx hb dX11_lines_100 ?_
      obtain ⟨r24, h25, hm⟩ := zz_b1_some hm
      refine zz_calll (zz_runV (w := wR y a) (As := [.int (v1 - (1 : Int32))]) (rest := [.long r21, .ref (a 0)]) ⟨hx, hb, hml, hown, hts⟩ (zX11_retainedIn l D y a H.size (v1 - (1 : Int32)) z20 h25) (cwV 1 hts gX11_lines_X11_retainedIn rfl rfl rfl zdX11_retainedIn ⟨Nat.le_of_ble_eq_true rfl, Nat.le_of_ble_eq_true rfl⟩) hK hN hg hP hD hS hA 0 (wR_0 y a z20) rfl rfl hl.1 rfl (Nat.le_of_ble_eq_true rfl) dX11_lines_101 ⟨Nat.le_of_ble_eq_true rfl, Nat.le_of_ble_eq_true rfl⟩) hD hS hA (fun H locs hP hD hS => ?_)
      have j := J104 v1 v2 r24 r21 z20 hm
      rw [hG] at j
      exact j H locs ls hP hD hS (lv_sub hl [0, 1, 2] rfl)
    · replace hm := zz_neg c23 hm
      refine lv_lconst (v := (0 : Int64)) hx hb dX11_lines_93 (by decide) ?_
      refine lv_goto (tgt := 104) hx hb dX11_lines_94 (by decide) ?_
      have j := J104 v1 v2 (0 : Int64) r21 z20 hm
      rw [hG] at j
      exact j H locs ls hP hD hS (lv_sub hl [0, 1, 2] rfl)
  have J54 : ∀ (v1 : Int32) (v2 : Int32) (t0 : Int64) (t1 : Int64) (z : zz_M), mX11_lines_b54 v1 v2 t0 t1 z = some (r, zt) → G 54 [(0, .ref (a 0)), (1, .int v1), (2, .int v2)] [.long t0, .long t1, .ref (a 0)] z := by
    intro v1 v2 t0 t1 z hm
    rw [mX11_lines_b54] at hm
    rw [hG]
    intro H locs ls hP hD hS hl
    refine lv_lsub hx hb dX11_lines_54 ?_
    obtain ⟨r26, z28, h27, hm⟩ := zz_b2_some hm
    refine zz_callv (zz_runV (w := wR y a) (As := [.long (t1 - t0)]) (rest := []) ⟨hx, hb, hml, hown, hts⟩ (zX11_tell l D y a H.size (t1 - t0) z h27) (cwV 1 hts gX11_lines_X11_tell rfl rfl rfl zdX11_tell ⟨Nat.le_of_ble_eq_true rfl, Nat.le_of_ble_eq_true rfl⟩) hK hN hg hP hD hS hA 0 (wR_0 y a z) rfl rfl hl.1 rfl (Nat.le_of_ble_eq_true rfl) dX11_lines_55 ⟨Nat.le_of_ble_eq_true rfl, Nat.le_of_ble_eq_true rfl⟩) hD hS hA (fun H locs hP hD hS => ?_)
    refine lv_aload_n hx hb dX11_lines_58 rfl (lv_at hl 0 rfl) ?_
    refine lv_aload_n hx hb dX11_lines_59 rfl (lv_at hl 0 rfl) ?_
    refine lv_iload_n hx hb dX11_lines_60 rfl (lv_at hl 1 rfl) ?_
    obtain ⟨r29, h30, hm⟩ := zz_b1_some hm
    refine zz_calll (zz_runV (w := wR y a) (As := [.int v1]) (rest := [.ref (a 0)]) ⟨hx, hb, hml, hown, hts⟩ (zX11_materialsIn l D y a H.size v1 z28 h30) (cwV 1 hts gX11_lines_X11_materialsIn rfl rfl rfl zdX11_materialsIn ⟨Nat.le_of_ble_eq_true rfl, Nat.le_of_ble_eq_true rfl⟩) hK hN hg hP hD hS hA 0 (wR_0 y a z28) rfl rfl hl.1 rfl (Nat.le_of_ble_eq_true rfl) dX11_lines_61 ⟨Nat.le_of_ble_eq_true rfl, Nat.le_of_ble_eq_true rfl⟩) hD hS hA (fun H locs hP hD hS => ?_)
    refine lv_iload_n hx hb dX11_lines_64 rfl (lv_at hl 2 rfl) ?_
    refine lv_if_eq (tgt := 72) hx hb dX11_lines_65 (by decide) (fun c31 => ?_) (fun c31 => ?_)
    · replace hm := zz_pos c31 hm
      refine lv_aload_n hx hb dX11_lines_72 rfl (lv_at hl 0 rfl) ?_
      refine lv_iload_n hx hb dX11_lines_73 rfl (lv_at hl 1 rfl) ?_
      refine lv_iconst (v := (1 : Int32)) hx hb dX11_lines_74 (by decide) ?_
      refine lv_isub hx hb dX11_lines_75 ?_
      obtain ⟨r32, h33, hm⟩ := zz_b1_some hm
      refine zz_calll (zz_runV (w := wR y a) (As := [.int (v1 - (1 : Int32))]) (rest := [.long r29, .ref (a 0)]) ⟨hx, hb, hml, hown, hts⟩ (zX11_materialsIn l D y a H.size (v1 - (1 : Int32)) z28 h33) (cwV 1 hts gX11_lines_X11_materialsIn rfl rfl rfl zdX11_materialsIn ⟨Nat.le_of_ble_eq_true rfl, Nat.le_of_ble_eq_true rfl⟩) hK hN hg hP hD hS hA 0 (wR_0 y a z28) rfl rfl hl.1 rfl (Nat.le_of_ble_eq_true rfl) dX11_lines_76 ⟨Nat.le_of_ble_eq_true rfl, Nat.le_of_ble_eq_true rfl⟩) hD hS hA (fun H locs hP hD hS => ?_)
      have j := J79 v1 v2 r32 r29 z28 hm
      rw [hG] at j
      exact j H locs ls hP hD hS (lv_sub hl [0, 1, 2] rfl)
    · replace hm := zz_neg c31 hm
      refine lv_lconst (v := (0 : Int64)) hx hb dX11_lines_68 (by decide) ?_
      refine lv_goto (tgt := 79) hx hb dX11_lines_69 (by decide) ?_
      have j := J79 v1 v2 (0 : Int64) r29 z28 hm
      rw [hG] at j
      exact j H locs ls hP hD hS (lv_sub hl [0, 1, 2] rfl)
  have J27 : ∀ (v1 : Int32) (t0 : Int32) (z : zz_M), mX11_lines_b27 v1 t0 z = some (r, zt) → G 27 [(0, .ref (a 0)), (1, .int v1)] [.int t0] z := by
    intro v1 t0 z hm
    rw [mX11_lines_b27] at hm
    rw [hG]
    intro H locs ls hP hD hS hl
    refine lv_istore_n (lv' := [(2, .int t0), (0, .ref (a 0)), (1, .int v1)]) hx hb dX11_lines_27 rfl hl (by decide) rfl (fun ls hl => ?_)
    refine lv_aload_n hx hb dX11_lines_28 rfl (lv_at hl 1 rfl) ?_
    refine lv_iconst (v := (0 : Int32)) hx hb dX11_lines_29 (by decide) ?_
    refine va_put (D := D) (ci := 11) (v := .int (0 : Int32)) (ty := .int) (C := RX11) (T := TX11) (N := 35) hx hb hts nX11_lines_X11 tyX11 tyX11_ok nmX11 hown hK hP hD hS 0 (wR_0 y a z) rfl 18 (by decide) (hts (.fieldLink RX11 100 "WorksDeskModel" "rowMany" "I") (List.mem_of_getElem? (i := 2) rfl)) (fun _ h9 => h9) rfl (tyX11_ok 18 (by decide)) rfl rfl (Nat.le_of_ble_eq_true rfl) dX11_lines_30 (fun H locs hP hD hS => ?_)
    obtain ⟨z34, hP, hD, hm⟩ := zz_up (w := wR y a) (wR_f18 y a z (0 : Int32)) hP hD hm
    refine lv_aload_n hx hb dX11_lines_33 rfl (lv_at hl 1 rfl) ?_
    refine lv_aload_n hx hb dX11_lines_34 rfl (lv_at hl 1 rfl) ?_
    refine lv_iload_n hx hb dX11_lines_35 rfl (lv_at hl 2 rfl) ?_
    obtain ⟨r35, h36, hm⟩ := zz_b1_some hm
    refine zz_calll (zz_runV (w := wR y a) (As := [.int v1]) (rest := [.ref (a 0)]) ⟨hx, hb, hml, hown, hts⟩ (zX11_workIn l D y a H.size v1 z34 h36) (cwV 1 hts gX11_lines_X11_workIn rfl rfl rfl zdX11_workIn ⟨Nat.le_of_ble_eq_true rfl, Nat.le_of_ble_eq_true rfl⟩) hK hN hg hP hD hS hA 0 (wR_0 y a z34) rfl rfl hl.1 rfl (Nat.le_of_ble_eq_true rfl) dX11_lines_36 ⟨Nat.le_of_ble_eq_true rfl, Nat.le_of_ble_eq_true rfl⟩) hD hS hA (fun H locs hP hD hS => ?_)
    refine lv_iload_n hx hb dX11_lines_39 rfl (lv_at hl 0 rfl) ?_
    refine lv_if_eq (tgt := 47) hx hb dX11_lines_40 (by decide) (fun c37 => ?_) (fun c37 => ?_)
    · replace hm := zz_pos c37 hm
      refine lv_aload_n hx hb dX11_lines_47 rfl (lv_at hl 1 rfl) ?_
      refine lv_iload_n hx hb dX11_lines_48 rfl (lv_at hl 2 rfl) ?_
      refine lv_iconst (v := (1 : Int32)) hx hb dX11_lines_49 (by decide) ?_
      refine lv_isub hx hb dX11_lines_50 ?_
      obtain ⟨r38, h39, hm⟩ := zz_b1_some hm
      refine zz_calll (zz_runV (w := wR y a) (As := [.int (v1 - (1 : Int32))]) (rest := [.long r35, .ref (a 0)]) ⟨hx, hb, hml, hown, hts⟩ (zX11_workIn l D y a H.size (v1 - (1 : Int32)) z34 h39) (cwV 1 hts gX11_lines_X11_workIn rfl rfl rfl zdX11_workIn ⟨Nat.le_of_ble_eq_true rfl, Nat.le_of_ble_eq_true rfl⟩) hK hN hg hP hD hS hA 0 (wR_0 y a z34) rfl rfl hl.1 rfl (Nat.le_of_ble_eq_true rfl) dX11_lines_51 ⟨Nat.le_of_ble_eq_true rfl, Nat.le_of_ble_eq_true rfl⟩) hD hS hA (fun H locs hP hD hS => ?_)
      have j := J54 v1 t0 r38 r35 z34 hm
      rw [hG] at j
      exact j H locs ls hP hD hS (lv_sub hl [1, 2, 0] rfl)
    · replace hm := zz_neg c37 hm
      refine lv_lconst (v := (0 : Int64)) hx hb dX11_lines_43 (by decide) ?_
      refine lv_goto (tgt := 54) hx hb dX11_lines_44 (by decide) ?_
      have j := J54 v1 t0 (0 : Int64) r35 z34 hm
      rw [hG] at j
      exact j H locs ls hP hD hS (lv_sub hl [1, 2, 0] rfl)
  rw [hG]
  intro H locs ls hP hD hS hl
  unfold mX11_lines at hm
  refine lv_aload_n hx hb dX11_lines_0 rfl (lv_at hl 0 rfl) ?_
  refine lv_iconst (v := (0 : Int32)) hx hb dX11_lines_1 (by decide) ?_
  refine va_put (D := D) (ci := 11) (v := .int (0 : Int32)) (ty := .int) (C := RX11) (T := TX11) (N := 35) hx hb hts nX11_lines_X11 tyX11 tyX11_ok nmX11 hown hK hP hD hS 0 (wR_0 y a z) rfl 19 (by decide) (hts (.fieldLink RX11 97 "WorksDeskModel" "thrown" "I") (List.mem_of_getElem? (i := 1) rfl)) (fun _ h9 => h9) rfl (tyX11_ok 19 (by decide)) rfl rfl (Nat.le_of_ble_eq_true rfl) dX11_lines_2 (fun H locs hP hD hS => ?_)
  obtain ⟨z40, hP, hD, hm⟩ := zz_up (w := wR y a) (wR_f19 y a z (0 : Int32)) hP hD hm
  refine lv_iload_n hx hb dX11_lines_5 rfl (lv_at hl 1 rfl) ?_
  obtain ⟨r41, h42, hm⟩ := zz_b1_some hm
  refine zz_calli (zz_runS (w := wR y a) (As := [.int x1]) (rest := []) ⟨hx, hb, hml, hown, hts⟩ (zX11_isMonth l D y a H.size x1 z40 h42) (va_cwS 1 hts gX11_lines_X11_isMonth rfl rfl rfl zdX11_isMonth ⟨Nat.le_of_ble_eq_true rfl, Nat.le_of_ble_eq_true rfl⟩) hK hN hg hP hD hS hA rfl hl.1 rfl (Nat.le_of_ble_eq_true rfl) dX11_lines_6 ⟨Nat.le_of_ble_eq_true rfl, Nat.le_of_ble_eq_true rfl⟩) hD hS hA (fun H locs hP hD hS => ?_)
  refine lv_if_ne (tgt := 14) hx hb dX11_lines_9 (by decide) (fun c43 => ?_) (fun c43 => ?_)
  · replace hm := zz_neg c43 hm
    refine lv_aload_n hx hb dX11_lines_14 rfl (lv_at hl 0 rfl) ?_
    obtain ⟨r44, z46, h45, hm⟩ := zz_b2_some hm
    refine zz_callv (zz_runV (w := wR y a) (As := []) (rest := []) ⟨hx, hb, hml, hown, hts⟩ (zX11_layMonths l D y a H.size z40 h45) (cwV 0 hts gX11_lines_X11_layMonths rfl rfl rfl zdX11_layMonths ⟨Nat.le_of_ble_eq_true rfl, Nat.le_of_ble_eq_true rfl⟩) hK hN hg hP hD hS hA 0 (wR_0 y a z40) rfl rfl hl.1 rfl (Nat.le_of_ble_eq_true rfl) dX11_lines_15 ⟨Nat.le_of_ble_eq_true rfl, Nat.le_of_ble_eq_true rfl⟩) hD hS hA (fun H locs hP hD hS => ?_)
    refine lv_iload_n hx hb dX11_lines_18 rfl (lv_at hl 1 rfl) ?_
    refine lv_if_ne (tgt := 26) hx hb dX11_lines_19 (by decide) (fun c47 => ?_) (fun c47 => ?_)
    · replace hm := zz_neg c47 hm
      refine lv_iconst (v := (0 : Int32)) hx hb dX11_lines_26 (by decide) ?_
      have j := J27 x1 (0 : Int32) z46 hm
      rw [hG] at j
      exact j H locs ls hP hD hS (lv_sub hl [0, 1] rfl)
    · replace hm := zz_pos c47 hm
      refine lv_iconst (v := (1 : Int32)) hx hb dX11_lines_22 (by decide) ?_
      refine lv_goto (tgt := 27) hx hb dX11_lines_23 (by decide) ?_
      have j := J27 x1 (1 : Int32) z46 hm
      rw [hG] at j
      exact j H locs ls hP hD hS (lv_sub hl [0, 1] rfl)
  · replace hm := zz_pos c43 hm
    refine lv_iconst (v := (-1 : Int32)) hx hb dX11_lines_12 (by decide) ?_
    exact zz_iret hx hb hr hlocks (zz_some2 hm) hP hK hD hS dX11_lines_13
def mX11_measures (x1 : Int32) (x2 : Int32) (x3 : Int32) (z : zz_M) : Option (Int32 × zz_M) := zz_nm (zz_sF z 19 (0 : Int32)) (fun z1 => zz_b1 (mX11_isMeasure x1 x2 x3 z1) (fun r2 => if r2 = (0 : Int32) then (some ((-1 : Int32), z1)) else (zz_ck (zz_in (((10 : Int32) * x1) + x2) 240) (if (z1.1 3 (((10 : Int32) * x1) + x2).toNatClampNeg) = x3 then (some ((-2 : Int32), z1)) else (zz_b1 (mX11_doneOf x1 x2 z1) (fun r7 => zz_ck (zz_in (((10 : Int32) * x1) + x2) 240) (zz_nm (zz_wI z1 3 (((10 : Int32) * x1) + x2) x3) (fun z10 => some (r7, z10)))))))))
theorem nX11_measures_X11 : ∀ w ∈ wsX110, w ∈ wsX11_measures := fun _ h => List.mem_cons_of_mem _ (List.mem_append_right _ (h))
theorem zdX11_measures : yX11_measures.cls = RX11 ∧ yX11_measures.cls ≠ "java/lang/invoke/MethodHandle" ∧ yX11_measures.cls ≠ "java/lang/invoke/VarHandle" ∧ (parseMethodDescriptor yX11_measures.desc).map (fun d => d.parameters.length) = some 3 := by decide +kernel
set_option maxHeartbeats 4000000 in
set_option maxRecDepth 100000 in
theorem zX11_measures (l : Launch) (D : va_G) (y : Nat → ClassId) (a : Nat → Nat) (sz : Nat) (x1 : Int32) (x2 : Int32) (x3 : Int32) (z : zz_M) {r : Int32} {zt : zz_M} (hm : mX11_measures x1 x2 x3 z = some (r, zt)) : Met l yX11_measures wsX11_measures { frames := 3, cells := 0, slots := 0, locals := 69 } (zz_Pc D y (wR y a z) sz [.ref (a 0), .int x1, .int x2, .int x3]) (zz_Qi D y (wR y a) (va_A (wR y a z) sz) r zt) 0 0 (va_A (wR y a z) sz) := by
  refine Met.ofW (cc := cX11_measures) (maxL := 5) (ret := (some .int)) (by decide) rfl ?_
  intro p e s m args below meth c s₁ B hml hv
  obtain ⟨rfl, hsz, hP, hK, hD0, hN, hg⟩ := hv
  have hx := B.exec
  have hb := B.bytes
  have hr := B.returns
  have hts := atoms_spec (ws := wsX11_measures) B.pre
  have hown : s.vm.findClass RX11 = some m.cls := findClass_of_methodNamed B.named
  have hlocks := B.notSynchronized
  clear B
  subst hsz
  have hD := hD0.self (sz := s.heap.size)
  generalize hAe : va_A (wR y a z) s.heap.size = A at hD hg ⊢
  have hA : ∀ q : Nat, s.heap.size ≤ q → A q := fun q h => by rw [← hAe]; exact Or.inr h
  clear hAe hD0
  have hl := lv_entry ([.ref (a 0), .int x1, .int x2, .int x3]) (n := 5) (Nat.le_of_ble_eq_true rfl)
  rw [lg_entry_eq]
  generalize (lg_sl ([.ref (a 0), .int x1, .int x2, .int x3]) ++ List.replicate (5 - (lg_sl ([.ref (a 0), .int x1, .int x2, .int x3])).length) Slot.unset).toArray = ls at hl ⊢
  replace hl : lv_has ls 5 [(0, .ref (a 0)), (1, .int x1), (2, .int x2), (3, .int x3)] := hl
  refine zz_go (w := wR y a) hP hD va_S.rf hl (fun G hG => ?_)
  clear hP hD hl ls
  rw [hG]
  intro H locs ls hP hD hS hl
  unfold mX11_measures at hm
  refine lv_aload_n hx hb dX11_measures_0 rfl (lv_at hl 0 rfl) ?_
  refine lv_iconst (v := (0 : Int32)) hx hb dX11_measures_1 (by decide) ?_
  refine va_put (D := D) (ci := 11) (v := .int (0 : Int32)) (ty := .int) (C := RX11) (T := TX11) (N := 35) hx hb hts nX11_measures_X11 tyX11 tyX11_ok nmX11 hown hK hP hD hS 0 (wR_0 y a z) rfl 19 (by decide) (hts (.fieldLink RX11 97 "WorksDeskModel" "thrown" "I") (List.mem_of_getElem? (i := 1) rfl)) (fun _ h9 => h9) rfl (tyX11_ok 19 (by decide)) rfl rfl (Nat.le_of_ble_eq_true rfl) dX11_measures_2 (fun H locs hP hD hS => ?_)
  obtain ⟨z1, hP, hD, hm⟩ := zz_up (w := wR y a) (wR_f19 y a z (0 : Int32)) hP hD hm
  refine lv_aload_n hx hb dX11_measures_5 rfl (lv_at hl 0 rfl) ?_
  refine lv_iload_n hx hb dX11_measures_6 rfl (lv_at hl 1 rfl) ?_
  refine lv_iload_n hx hb dX11_measures_7 rfl (lv_at hl 2 rfl) ?_
  refine lv_iload_n hx hb dX11_measures_8 rfl (lv_at hl 3 rfl) ?_
  obtain ⟨r2, h3, hm⟩ := zz_b1_some hm
  refine zz_calli (zz_runV (w := wR y a) (As := [.int x1, .int x2, .int x3]) (rest := []) ⟨hx, hb, hml, hown, hts⟩ (zX11_isMeasure l D y a H.size x1 x2 x3 z1 h3) (cwV 3 hts gX11_measures_X11_isMeasure rfl rfl rfl zdX11_isMeasure ⟨Nat.le_of_ble_eq_true rfl, Nat.le_of_ble_eq_true rfl⟩) hK hN hg hP hD hS hA 0 (wR_0 y a z1) rfl rfl hl.1 rfl (Nat.le_of_ble_eq_true rfl) dX11_measures_9 ⟨Nat.le_of_ble_eq_true rfl, Nat.le_of_ble_eq_true rfl⟩) hD hS hA (fun H locs hP hD hS => ?_)
  refine lv_if_ne (tgt := 17) hx hb dX11_measures_12 (by decide) (fun c4 => ?_) (fun c4 => ?_)
  · replace hm := zz_neg c4 hm
    refine lv_aload_n hx hb dX11_measures_17 rfl (lv_at hl 0 rfl) ?_
    refine va_get (D := D) (ci := 11) (v := .ref (a 3)) (C := RX11) (T := TX11) (N := 35) hx hb hts nX11_measures_X11 hown hK hP 0 (wR_0 y a z1) rfl 3 (by decide) (hts (.fieldLink RX11 16 "WorksDeskModel" "measured" "[I") (List.mem_of_getElem? (i := 2) rfl)) (fun _ h9 => h9) rfl dX11_measures_18 ?_
    refine lv_bipush (v := (10 : Int32)) hx hb dX11_measures_21 (by decide) ?_
    refine lv_iload_n hx hb dX11_measures_23 rfl (lv_at hl 1 rfl) ?_
    refine lv_imul hx hb dX11_measures_24 ?_
    refine lv_iload_n hx hb dX11_measures_25 rfl (lv_at hl 2 rfl) ?_
    refine lv_iadd hx hb dX11_measures_26 ?_
    obtain ⟨c5, hm⟩ := zz_ck_some hm
    refine va_iald hx hb hK hP 3 0 (wR_3 y a z1) rfl c5 dX11_measures_27 ?_
    refine lv_iload_n hx hb dX11_measures_28 rfl (lv_at hl 3 rfl) ?_
    refine lv_icmp_ne (tgt := 35) hx hb dX11_measures_29 (by decide) (fun c6 => ?_) (fun c6 => ?_)
    · replace hm := zz_neg c6 hm
      refine lv_aload_n hx hb dX11_measures_35 rfl (lv_at hl 0 rfl) ?_
      refine lv_iload_n hx hb dX11_measures_36 rfl (lv_at hl 1 rfl) ?_
      refine lv_iload_n hx hb dX11_measures_37 rfl (lv_at hl 2 rfl) ?_
      obtain ⟨r7, h8, hm⟩ := zz_b1_some hm
      refine zz_calli (zz_runV (w := wR y a) (As := [.int x1, .int x2]) (rest := []) ⟨hx, hb, hml, hown, hts⟩ (zX11_doneOf l D y a H.size x1 x2 z1 h8) (cwV 2 hts gX11_measures_X11_doneOf rfl rfl rfl zdX11_doneOf ⟨Nat.le_of_ble_eq_true rfl, Nat.le_of_ble_eq_true rfl⟩) hK hN hg hP hD hS hA 0 (wR_0 y a z1) rfl rfl hl.1 rfl (Nat.le_of_ble_eq_true rfl) dX11_measures_38 ⟨Nat.le_of_ble_eq_true rfl, Nat.le_of_ble_eq_true rfl⟩) hD hS hA (fun H locs hP hD hS => ?_)
      refine lv_istore (lv' := [(4, .int r7), (0, .ref (a 0)), (1, .int x1), (2, .int x2), (3, .int x3)]) hx hb dX11_measures_41 hl (by decide) rfl (fun ls hl => ?_)
      refine lv_aload_n hx hb dX11_measures_43 rfl (lv_at hl 1 rfl) ?_
      refine va_get (D := D) (ci := 11) (v := .ref (a 3)) (C := RX11) (T := TX11) (N := 35) hx hb hts nX11_measures_X11 hown hK hP 0 (wR_0 y a z1) rfl 3 (by decide) (hts (.fieldLink RX11 16 "WorksDeskModel" "measured" "[I") (List.mem_of_getElem? (i := 2) rfl)) (fun _ h9 => h9) rfl dX11_measures_44 ?_
      refine lv_bipush (v := (10 : Int32)) hx hb dX11_measures_47 (by decide) ?_
      refine lv_iload_n hx hb dX11_measures_49 rfl (lv_at hl 2 rfl) ?_
      refine lv_imul hx hb dX11_measures_50 ?_
      refine lv_iload_n hx hb dX11_measures_51 rfl (lv_at hl 3 rfl) ?_
      refine lv_iadd hx hb dX11_measures_52 ?_
      refine lv_iload_n hx hb dX11_measures_53 rfl (lv_at hl 4 rfl) ?_
      obtain ⟨c9, hm⟩ := zz_ck_some hm
      refine va_iast hx hb hK hP hD hS 3 0 (wR_3 y a z1) rfl c9 dX11_measures_54 (fun H locs hP hD hS => ?_)
      obtain ⟨z10, hP, hD, hm⟩ := zz_up (w := wR y a) (wR_w3 y a z1 (((10 : Int32) * x1) + x2) x3) hP hD hm
      refine lv_iload hx hb dX11_measures_55 (lv_at hl 0 rfl) ?_
      exact zz_iret hx hb hr hlocks (zz_some2 hm) hP hK hD hS dX11_measures_57
    · replace hm := zz_pos c6 hm
      refine lv_bipush (v := (-2 : Int32)) hx hb dX11_measures_32 (by decide) ?_
      exact zz_iret hx hb hr hlocks (zz_some2 hm) hP hK hD hS dX11_measures_34
  · replace hm := zz_pos c4 hm
    refine lv_iconst (v := (-1 : Int32)) hx hb dX11_measures_15 (by decide) ?_
    exact zz_iret hx hb hr hlocks (zz_some2 hm) hP hK hD hS dX11_measures_16
def mX11_needed_b85 (v1 : Int32) (v2 : Int32) (z : zz_M) : Option (Int32 × zz_M) := zz_b2 (mX11_layMonths z) (fun r1 z3 => zz_nm (zz_sF z3 11 v2) (fun z4 => zz_nm (zz_sF z4 18 (0 : Int32)) (fun z5 => zz_ck (zz_in (23 : Int32) 24) (zz_b2 (mX11_tell ((z5.2.1 16 (23 : Int32).toNatClampNeg) - (z5.2.2.2 33)) z5) (fun r7 z9 => some (v1, z9))))))
def mX11_needed_b19 : Nat → Int32 → zz_M → Option (Int32 × zz_M)
  | 0, _, _ => none
  | n + 1, v1, z => zz_b1 (mX11_damagesBy (((z.2.2.1 11) + (z.2.2.1 12)) + v1) (23 : Int32) z) (fun r10 => if (lg_cmp r10 (0 : Int64)) ≤ (0 : Int32) then (zz_b2 (mX11_layAside z) (fun r13 z15 => zz_nm (zz_sF z15 11 ((z15.2.2.1 11) + v1)) (fun z16 => if (z16.2.2.1 11) = (24 : Int32) then (zz_nm (zz_sF z16 11 ((z16.2.2.1 11) + (1 : Int32))) (fun z18 => mX11_needed_b85 v1 (z.2.2.1 11) z18)) else (mX11_needed_b85 v1 (z.2.2.1 11) z16)))) else (zz_nm (v1 + (1 : Int32)) (fun n19 => (mX11_needed_b19 n) n19 z)))
def mX11_needed (z : zz_M) : Option (Int32 × zz_M) := zz_nm (zz_sF z 19 (0 : Int32)) (fun z20 => if (z20.2.2.1 11) = (24 : Int32) then (some ((-2 : Int32), z20)) else (mX11_needed_b19 zz_N (0 : Int32) z20))
theorem nX11_needed_X11 : ∀ w ∈ wsX110, w ∈ wsX11_needed := fun _ h => List.mem_cons_of_mem _ (List.mem_append_right _ (h))
theorem zdX11_needed : yX11_needed.cls = RX11 ∧ yX11_needed.cls ≠ "java/lang/invoke/MethodHandle" ∧ yX11_needed.cls ≠ "java/lang/invoke/VarHandle" ∧ (parseMethodDescriptor yX11_needed.desc).map (fun d => d.parameters.length) = some 0 := by decide +kernel
set_option maxHeartbeats 4000000 in
set_option maxRecDepth 100000 in
theorem zX11_needed (l : Launch) (D : va_G) (y : Nat → ClassId) (a : Nat → Nat) (sz : Nat) (z : zz_M) {r : Int32} {zt : zz_M} (hm : mX11_needed z = some (r, zt)) : Met l yX11_needed wsX11_needed { frames := 8, cells := 0, slots := 0, locals := 196 } (zz_Pc D y (wR y a z) sz [.ref (a 0)]) (zz_Qi D y (wR y a) (va_A (wR y a z) sz) r zt) 0 0 (va_A (wR y a z) sz) := by
  refine Met.ofW (cc := cX11_needed) (maxL := 3) (ret := (some .int)) (by decide) rfl ?_
  intro p e s m args below meth c s₁ B hml hv
  obtain ⟨rfl, hsz, hP, hK, hD0, hN, hg⟩ := hv
  have hx := B.exec
  have hb := B.bytes
  have hr := B.returns
  have hts := atoms_spec (ws := wsX11_needed) B.pre
  have hown : s.vm.findClass RX11 = some m.cls := findClass_of_methodNamed B.named
  have hlocks := B.notSynchronized
  clear B
  subst hsz
  have hD := hD0.self (sz := s.heap.size)
  generalize hAe : va_A (wR y a z) s.heap.size = A at hD hg ⊢
  have hA : ∀ q : Nat, s.heap.size ≤ q → A q := fun q h => by rw [← hAe]; exact Or.inr h
  clear hAe hD0
  have hl := lv_entry ([.ref (a 0)]) (n := 3) (Nat.le_of_ble_eq_true rfl)
  rw [lg_entry_eq]
  generalize (lg_sl ([.ref (a 0)]) ++ List.replicate (3 - (lg_sl ([.ref (a 0)])).length) Slot.unset).toArray = ls at hl ⊢
  replace hl : lv_has ls 3 [(0, .ref (a 0))] := hl
  refine zz_go (w := wR y a) hP hD va_S.rf hl (fun G hG => ?_)
  clear hP hD hl ls
  have J85 : ∀ (v1 : Int32) (v2 : Int32) (z : zz_M), mX11_needed_b85 v1 v2 z = some (r, zt) → G 85 [(0, .ref (a 0)), (1, .int v1), (2, .int v2)] [] z := by
    intro v1 v2 z hm
    rw [mX11_needed_b85] at hm
    rw [hG]
    intro H locs ls hP hD hS hl
    refine lv_aload_n hx hb dX11_needed_85 rfl (lv_at hl 0 rfl) ?_
    obtain ⟨r1, z3, h2, hm⟩ := zz_b2_some hm
    refine zz_callv (zz_runV (w := wR y a) (As := []) (rest := []) ⟨hx, hb, hml, hown, hts⟩ (zX11_layMonths l D y a H.size z h2) (cwV 0 hts gX11_needed_X11_layMonths rfl rfl rfl zdX11_layMonths ⟨Nat.le_of_ble_eq_true rfl, Nat.le_of_ble_eq_true rfl⟩) hK hN hg hP hD hS hA 0 (wR_0 y a z) rfl rfl hl.1 rfl (Nat.le_of_ble_eq_true rfl) dX11_needed_86 ⟨Nat.le_of_ble_eq_true rfl, Nat.le_of_ble_eq_true rfl⟩) hD hS hA (fun H locs hP hD hS => ?_)
    refine lv_aload_n hx hb dX11_needed_89 rfl (lv_at hl 0 rfl) ?_
    refine lv_iload_n hx hb dX11_needed_90 rfl (lv_at hl 2 rfl) ?_
    refine va_put (D := D) (ci := 11) (v := .int v2) (ty := .int) (C := RX11) (T := TX11) (N := 35) hx hb hts nX11_needed_X11 tyX11 tyX11_ok nmX11 hown hK hP hD hS 0 (wR_0 y a z3) rfl 11 (by decide) (hts (.fieldLink RX11 91 "WorksDeskModel" "due" "I") (List.mem_of_getElem? (i := 2) rfl)) (fun _ h9 => h9) rfl (tyX11_ok 11 (by decide)) rfl rfl (Nat.le_of_ble_eq_true rfl) dX11_needed_91 (fun H locs hP hD hS => ?_)
    obtain ⟨z4, hP, hD, hm⟩ := zz_up (w := wR y a) (wR_f11 y a z3 v2) hP hD hm
    refine lv_aload_n hx hb dX11_needed_94 rfl (lv_at hl 0 rfl) ?_
    refine lv_iconst (v := (0 : Int32)) hx hb dX11_needed_95 (by decide) ?_
    refine va_put (D := D) (ci := 11) (v := .int (0 : Int32)) (ty := .int) (C := RX11) (T := TX11) (N := 35) hx hb hts nX11_needed_X11 tyX11 tyX11_ok nmX11 hown hK hP hD hS 0 (wR_0 y a z4) rfl 18 (by decide) (hts (.fieldLink RX11 100 "WorksDeskModel" "rowMany" "I") (List.mem_of_getElem? (i := 4) rfl)) (fun _ h9 => h9) rfl (tyX11_ok 18 (by decide)) rfl rfl (Nat.le_of_ble_eq_true rfl) dX11_needed_96 (fun H locs hP hD hS => ?_)
    obtain ⟨z5, hP, hD, hm⟩ := zz_up (w := wR y a) (wR_f18 y a z4 (0 : Int32)) hP hD hm
    refine lv_aload_n hx hb dX11_needed_99 rfl (lv_at hl 0 rfl) ?_
    refine lv_aload_n hx hb dX11_needed_100 rfl (lv_at hl 0 rfl) ?_
    refine va_get (D := D) (ci := 11) (v := .ref (a 16)) (C := RX11) (T := TX11) (N := 35) hx hb hts nX11_needed_X11 hown hK hP 0 (wR_0 y a z5) rfl 28 (by decide) (hts (.fieldLink RX11 57 "WorksDeskModel" "total" "[J") (List.mem_of_getElem? (i := 5) rfl)) (fun _ h9 => h9) rfl dX11_needed_101 ?_
    refine lv_bipush (v := (23 : Int32)) hx hb dX11_needed_104 (by decide) ?_
    obtain ⟨c6, hm⟩ := zz_ck_some hm
    refine va_lald hx hb hK hP 16 1 (wR_16 y a z5) rfl c6 dX11_needed_106 ?_
    refine lv_aload_n hx hb dX11_needed_107 rfl (lv_at hl 0 rfl) ?_
    refine va_get (D := D) (ci := 11) (v := .long (z5.2.2.2 33)) (C := RX11) (T := TX11) (N := 35) hx hb hts nX11_needed_X11 hown hK hP 0 (wR_0 y a z5) rfl 33 (by decide) (hts (.fieldLink RX11 342 "WorksDeskModel" "totalAside" "J") (List.mem_of_getElem? (i := 6) rfl)) (fun _ h9 => h9) rfl dX11_needed_108 ?_
    refine lv_lsub hx hb dX11_needed_111 ?_
    obtain ⟨r7, z9, h8, hm⟩ := zz_b2_some hm
    refine zz_callv (zz_runV (w := wR y a) (As := [.long ((z5.2.1 16 (23 : Int32).toNatClampNeg) - (z5.2.2.2 33))]) (rest := []) ⟨hx, hb, hml, hown, hts⟩ (zX11_tell l D y a H.size ((z5.2.1 16 (23 : Int32).toNatClampNeg) - (z5.2.2.2 33)) z5 h8) (cwV 1 hts gX11_needed_X11_tell rfl rfl rfl zdX11_tell ⟨Nat.le_of_ble_eq_true rfl, Nat.le_of_ble_eq_true rfl⟩) hK hN hg hP hD hS hA 0 (wR_0 y a z5) rfl rfl hl.1 rfl (Nat.le_of_ble_eq_true rfl) dX11_needed_112 ⟨Nat.le_of_ble_eq_true rfl, Nat.le_of_ble_eq_true rfl⟩) hD hS hA (fun H locs hP hD hS => ?_)
    refine lv_iload_n hx hb dX11_needed_115 rfl (lv_at hl 1 rfl) ?_
    exact zz_iret hx hb hr hlocks (zz_some2 hm) hP hK hD hS dX11_needed_116
  have J19 : ∀ (n : Nat) (v1 : Int32) (z : zz_M), mX11_needed_b19 n v1 z = some (r, zt) → G 19 [(0, .ref (a 0)), (1, .int v1)] [] z := by
    intro n
    induction n with
    | zero =>
      intro v1 z hm
      exact zz_none hm
    | succ n ih =>
      intro v1 z hm
      rw [mX11_needed_b19] at hm
      rw [hG]
      intro H locs ls hP hD hS hl
      refine lv_aload_n hx hb dX11_needed_19 rfl (lv_at hl 0 rfl) ?_
      refine lv_aload_n hx hb dX11_needed_20 rfl (lv_at hl 0 rfl) ?_
      refine va_get (D := D) (ci := 11) (v := .int (z.2.2.1 11)) (C := RX11) (T := TX11) (N := 35) hx hb hts nX11_needed_X11 hown hK hP 0 (wR_0 y a z) rfl 11 (by decide) (hts (.fieldLink RX11 91 "WorksDeskModel" "due" "I") (List.mem_of_getElem? (i := 2) rfl)) (fun _ h9 => h9) rfl dX11_needed_21 ?_
      refine lv_aload_n hx hb dX11_needed_24 rfl (lv_at hl 0 rfl) ?_
      refine va_get (D := D) (ci := 11) (v := .int (z.2.2.1 12)) (C := RX11) (T := TX11) (N := 35) hx hb hts nX11_needed_X11 hown hK hP 0 (wR_0 y a z) rfl 12 (by decide) (hts (.fieldLink RX11 94 "WorksDeskModel" "granted" "I") (List.mem_of_getElem? (i := 3) rfl)) (fun _ h9 => h9) rfl dX11_needed_25 ?_
      refine lv_iadd hx hb dX11_needed_28 ?_
      refine lv_iload_n hx hb dX11_needed_29 rfl (lv_at hl 1 rfl) ?_
      refine lv_iadd hx hb dX11_needed_30 ?_
      refine lv_bipush (v := (23 : Int32)) hx hb dX11_needed_31 (by decide) ?_
      obtain ⟨r10, h11, hm⟩ := zz_b1_some hm
      refine zz_calll (zz_runV (w := wR y a) (As := [.int (((z.2.2.1 11) + (z.2.2.1 12)) + v1), .int (23 : Int32)]) (rest := []) ⟨hx, hb, hml, hown, hts⟩ (zX11_damagesBy l D y a H.size (((z.2.2.1 11) + (z.2.2.1 12)) + v1) (23 : Int32) z h11) (cwV 2 hts gX11_needed_X11_damagesBy rfl rfl rfl zdX11_damagesBy ⟨Nat.le_of_ble_eq_true rfl, Nat.le_of_ble_eq_true rfl⟩) hK hN hg hP hD hS hA 0 (wR_0 y a z) rfl rfl hl.1 rfl (Nat.le_of_ble_eq_true rfl) dX11_needed_33 ⟨Nat.le_of_ble_eq_true rfl, Nat.le_of_ble_eq_true rfl⟩) hD hS hA (fun H locs hP hD hS => ?_)
      refine lv_lconst (v := (0 : Int64)) hx hb dX11_needed_36 (by decide) ?_
      refine W.lcmp hx hb dX11_needed_37 ?_
      refine lv_if_le (tgt := 47) hx hb dX11_needed_38 (by decide) (fun c12 => ?_) (fun c12 => ?_)
      · replace hm := zz_pos c12 hm
        refine lv_aload_n hx hb dX11_needed_47 rfl (lv_at hl 0 rfl) ?_
        refine va_get (D := D) (ci := 11) (v := .int (z.2.2.1 11)) (C := RX11) (T := TX11) (N := 35) hx hb hts nX11_needed_X11 hown hK hP 0 (wR_0 y a z) rfl 11 (by decide) (hts (.fieldLink RX11 91 "WorksDeskModel" "due" "I") (List.mem_of_getElem? (i := 2) rfl)) (fun _ h9 => h9) rfl dX11_needed_48 ?_
        refine lv_istore_n (lv' := [(2, .int (z.2.2.1 11)), (0, .ref (a 0)), (1, .int v1)]) hx hb dX11_needed_51 rfl hl (by decide) rfl (fun ls hl => ?_)
        refine lv_aload_n hx hb dX11_needed_52 rfl (lv_at hl 1 rfl) ?_
        obtain ⟨r13, z15, h14, hm⟩ := zz_b2_some hm
        refine zz_callv (zz_runV (w := wR y a) (As := []) (rest := []) ⟨hx, hb, hml, hown, hts⟩ (zX11_layAside l D y a H.size z h14) (cwV 0 hts gX11_needed_X11_layAside rfl rfl rfl zdX11_layAside ⟨Nat.le_of_ble_eq_true rfl, Nat.le_of_ble_eq_true rfl⟩) hK hN hg hP hD hS hA 0 (wR_0 y a z) rfl rfl hl.1 rfl (Nat.le_of_ble_eq_true rfl) dX11_needed_53 ⟨Nat.le_of_ble_eq_true rfl, Nat.le_of_ble_eq_true rfl⟩) hD hS hA (fun H locs hP hD hS => ?_)
        refine lv_aload_n hx hb dX11_needed_56 rfl (lv_at hl 1 rfl) ?_
        refine lv_dup hx hb dX11_needed_57 rfl ?_
        refine va_get (D := D) (ci := 11) (v := .int (z15.2.2.1 11)) (C := RX11) (T := TX11) (N := 35) hx hb hts nX11_needed_X11 hown hK hP 0 (wR_0 y a z15) rfl 11 (by decide) (hts (.fieldLink RX11 91 "WorksDeskModel" "due" "I") (List.mem_of_getElem? (i := 2) rfl)) (fun _ h9 => h9) rfl dX11_needed_58 ?_
        refine lv_iload_n hx hb dX11_needed_61 rfl (lv_at hl 2 rfl) ?_
        refine lv_iadd hx hb dX11_needed_62 ?_
        refine va_put (D := D) (ci := 11) (v := .int ((z15.2.2.1 11) + v1)) (ty := .int) (C := RX11) (T := TX11) (N := 35) hx hb hts nX11_needed_X11 tyX11 tyX11_ok nmX11 hown hK hP hD hS 0 (wR_0 y a z15) rfl 11 (by decide) (hts (.fieldLink RX11 91 "WorksDeskModel" "due" "I") (List.mem_of_getElem? (i := 2) rfl)) (fun _ h9 => h9) rfl (tyX11_ok 11 (by decide)) rfl rfl (Nat.le_of_ble_eq_true rfl) dX11_needed_63 (fun H locs hP hD hS => ?_)
        obtain ⟨z16, hP, hD, hm⟩ := zz_up (w := wR y a) (wR_f11 y a z15 ((z15.2.2.1 11) + v1)) hP hD hm
        refine lv_aload_n hx hb dX11_needed_66 rfl (lv_at hl 1 rfl) ?_
        refine va_get (D := D) (ci := 11) (v := .int (z16.2.2.1 11)) (C := RX11) (T := TX11) (N := 35) hx hb hts nX11_needed_X11 hown hK hP 0 (wR_0 y a z16) rfl 11 (by decide) (hts (.fieldLink RX11 91 "WorksDeskModel" "due" "I") (List.mem_of_getElem? (i := 2) rfl)) (fun _ h9 => h9) rfl dX11_needed_67 ?_
        refine lv_bipush (v := (24 : Int32)) hx hb dX11_needed_70 (by decide) ?_
        refine lv_icmp_ne (tgt := 85) hx hb dX11_needed_72 (by decide) (fun c17 => ?_) (fun c17 => ?_)
        · replace hm := zz_neg c17 hm
          have j := J85 v1 (z.2.2.1 11) z16 hm
          rw [hG] at j
          exact j H locs ls hP hD hS (lv_sub hl [1, 2, 0] rfl)
        · replace hm := zz_pos c17 hm
          refine lv_aload_n hx hb dX11_needed_75 rfl (lv_at hl 1 rfl) ?_
          refine lv_dup hx hb dX11_needed_76 rfl ?_
          refine va_get (D := D) (ci := 11) (v := .int (z16.2.2.1 11)) (C := RX11) (T := TX11) (N := 35) hx hb hts nX11_needed_X11 hown hK hP 0 (wR_0 y a z16) rfl 11 (by decide) (hts (.fieldLink RX11 91 "WorksDeskModel" "due" "I") (List.mem_of_getElem? (i := 2) rfl)) (fun _ h9 => h9) rfl dX11_needed_77 ?_
          refine lv_iconst (v := (1 : Int32)) hx hb dX11_needed_80 (by decide) ?_
          refine lv_iadd hx hb dX11_needed_81 ?_
          refine va_put (D := D) (ci := 11) (v := .int ((z16.2.2.1 11) + (1 : Int32))) (ty := .int) (C := RX11) (T := TX11) (N := 35) hx hb hts nX11_needed_X11 tyX11 tyX11_ok nmX11 hown hK hP hD hS 0 (wR_0 y a z16) rfl 11 (by decide) (hts (.fieldLink RX11 91 "WorksDeskModel" "due" "I") (List.mem_of_getElem? (i := 2) rfl)) (fun _ h9 => h9) rfl (tyX11_ok 11 (by decide)) rfl rfl (Nat.le_of_ble_eq_true rfl) dX11_needed_82 (fun H locs hP hD hS => ?_)
          obtain ⟨z18, hP, hD, hm⟩ := zz_up (w := wR y a) (wR_f11 y a z16 ((z16.2.2.1 11) + (1 : Int32))) hP hD hm
          have j := J85 v1 (z.2.2.1 11) z18 hm
          rw [hG] at j
          exact j H locs ls hP hD hS (lv_sub hl [1, 2, 0] rfl)
      · replace hm := zz_neg c12 hm
        obtain ⟨n19, en19⟩ : ∃ q : Int32, q = v1 + (1 : Int32) := ⟨_, rfl⟩
        replace hm := zz_nm_some en19 hm
        refine lv_iinc (v := n19) (lv' := [(1, .int n19), (0, .ref (a 0))]) hx hb dX11_needed_41 hl (k := 1) rfl (by rw [en19]; rfl) (by decide) rfl (fun ls hl => ?_)
        refine lv_goto (tgt := 19) hx hb dX11_needed_44 (by decide) ?_
        have j := ih n19 z hm
        rw [hG] at j
        exact j H locs ls hP hD hS (lv_sub hl [1, 0] rfl)
  rw [hG]
  intro H locs ls hP hD hS hl
  unfold mX11_needed at hm
  refine lv_aload_n hx hb dX11_needed_0 rfl (lv_at hl 0 rfl) ?_
  refine lv_iconst (v := (0 : Int32)) hx hb dX11_needed_1 (by decide) ?_
  refine va_put (D := D) (ci := 11) (v := .int (0 : Int32)) (ty := .int) (C := RX11) (T := TX11) (N := 35) hx hb hts nX11_needed_X11 tyX11 tyX11_ok nmX11 hown hK hP hD hS 0 (wR_0 y a z) rfl 19 (by decide) (hts (.fieldLink RX11 97 "WorksDeskModel" "thrown" "I") (List.mem_of_getElem? (i := 1) rfl)) (fun _ h9 => h9) rfl (tyX11_ok 19 (by decide)) rfl rfl (Nat.le_of_ble_eq_true rfl) dX11_needed_2 (fun H locs hP hD hS => ?_)
  obtain ⟨z20, hP, hD, hm⟩ := zz_up (w := wR y a) (wR_f19 y a z (0 : Int32)) hP hD hm
  refine lv_aload_n hx hb dX11_needed_5 rfl (lv_at hl 0 rfl) ?_
  refine va_get (D := D) (ci := 11) (v := .int (z20.2.2.1 11)) (C := RX11) (T := TX11) (N := 35) hx hb hts nX11_needed_X11 hown hK hP 0 (wR_0 y a z20) rfl 11 (by decide) (hts (.fieldLink RX11 91 "WorksDeskModel" "due" "I") (List.mem_of_getElem? (i := 2) rfl)) (fun _ h9 => h9) rfl dX11_needed_6 ?_
  refine lv_bipush (v := (24 : Int32)) hx hb dX11_needed_9 (by decide) ?_
  refine lv_icmp_ne (tgt := 17) hx hb dX11_needed_11 (by decide) (fun c21 => ?_) (fun c21 => ?_)
  · replace hm := zz_neg c21 hm
    refine lv_iconst (v := (0 : Int32)) hx hb dX11_needed_17 (by decide) ?_
    refine lv_istore_n (lv' := [(1, .int (0 : Int32)), (0, .ref (a 0))]) hx hb dX11_needed_18 rfl hl (by decide) rfl (fun ls hl => ?_)
    have j := J19 zz_N (0 : Int32) z20 hm
    rw [hG] at j
    exact j H locs ls hP hD hS (lv_sub hl [1, 0] rfl)
  · replace hm := zz_pos c21 hm
    refine lv_bipush (v := (-2 : Int32)) hx hb dX11_needed_14 (by decide) ?_
    exact zz_iret hx hb hr hlocks (zz_some2 hm) hP hK hD hS dX11_needed_16
def mX11_overdue_b82 (k24 : Int32 → Int32 → Int32 → zz_M → Option (Int32 × zz_M)) (v1 : Int32) (v2 : Int32) (v3 : Int32) (z : zz_M) : Option (Int32 × zz_M) := zz_nm (v3 + (-1 : Int32)) (fun n1 => k24 v1 v2 n1 z)
def mX11_overdue_b55 (k24 : Int32 → Int32 → Int32 → zz_M → Option (Int32 × zz_M)) (v2 : Int32) (v3 : Int32) (t0 : Int32) (t1 : Int32) (z : zz_M) : Option (Int32 × zz_M) := zz_nm (t1 + t0) (fun n2 => zz_b1 (mX11_damagesIn v3 z) (fun r3 => zz_b1 (mX11_mostDamages z) (fun r5 => if (lg_cmp r3 r5) = (0 : Int32) then (zz_b1 (mX11_damagesIn v3 z) (fun r8 => if (lg_cmp r8 (0 : Int64)) ≤ (0 : Int32) then (mX11_overdue_b82 k24 n2 v2 v3 z) else (mX11_overdue_b82 k24 n2 v3 v3 z))) else (mX11_overdue_b82 k24 n2 v2 v3 z))))
def mX11_overdue_b54 (k24 : Int32 → Int32 → Int32 → zz_M → Option (Int32 × zz_M)) (v2 : Int32) (v3 : Int32) (t0 : Int32) (z : zz_M) : Option (Int32 × zz_M) := mX11_overdue_b55 k24 v2 v3 (0 : Int32) t0 z
def mX11_overdue_b24 : Nat → Int32 → Int32 → Int32 → zz_M → Option (Int32 × zz_M)
  | 0, _, _, _, _ => none
  | n + 1, v1, v2, v3, z => if v3 < (0 : Int32) then (zz_nm (zz_sF z 18 (0 : Int32)) (fun z12 => zz_b1 (mX11_damagesIn (23 : Int32) z12) (fun r13 => zz_b2 (mX11_tell r13 z12) (fun r15 z17 => zz_b2 (mX11_tell v2.toInt64 z17) (fun r18 z20 => some (v1, z20)))))) else (if v3 ≤ ((z.2.2.1 11) + (z.2.2.1 12)) then (mX11_overdue_b54 (mX11_overdue_b24 n) v2 v3 v1 z) else (if (z.2.2.1 9) < v3 then (mX11_overdue_b54 (mX11_overdue_b24 n) v2 v3 v1 z) else (mX11_overdue_b55 (mX11_overdue_b24 n) v2 v3 (1 : Int32) v1 z)))
def mX11_overdue (z : zz_M) : Option (Int32 × zz_M) := zz_nm (zz_sF z 19 (0 : Int32)) (fun z23 => if (z23.2.2.1 11) = (24 : Int32) then (some ((-2 : Int32), z23)) else (mX11_overdue_b24 zz_N (0 : Int32) (-1 : Int32) (23 : Int32) z23))
theorem nX11_overdue_X11 : ∀ w ∈ wsX110, w ∈ wsX11_overdue := fun _ h => List.mem_cons_of_mem _ (List.mem_append_right _ (h))
theorem zdX11_overdue : yX11_overdue.cls = RX11 ∧ yX11_overdue.cls ≠ "java/lang/invoke/MethodHandle" ∧ yX11_overdue.cls ≠ "java/lang/invoke/VarHandle" ∧ (parseMethodDescriptor yX11_overdue.desc).map (fun d => d.parameters.length) = some 0 := by decide +kernel
set_option maxHeartbeats 4000000 in
set_option maxRecDepth 100000 in
theorem zX11_overdue (l : Launch) (D : va_G) (y : Nat → ClassId) (a : Nat → Nat) (sz : Nat) (z : zz_M) {r : Int32} {zt : zz_M} (hm : mX11_overdue z = some (r, zt)) : Met l yX11_overdue wsX11_overdue { frames := 5, cells := 0, slots := 0, locals := 108 } (zz_Pc D y (wR y a z) sz [.ref (a 0)]) (zz_Qi D y (wR y a) (va_A (wR y a z) sz) r zt) 0 0 (va_A (wR y a z) sz) := by
  refine Met.ofW (cc := cX11_overdue) (maxL := 4) (ret := (some .int)) (by decide) rfl ?_
  intro p e s m args below meth c s₁ B hml hv
  obtain ⟨rfl, hsz, hP, hK, hD0, hN, hg⟩ := hv
  have hx := B.exec
  have hb := B.bytes
  have hr := B.returns
  have hts := atoms_spec (ws := wsX11_overdue) B.pre
  have hown : s.vm.findClass RX11 = some m.cls := findClass_of_methodNamed B.named
  have hlocks := B.notSynchronized
  clear B
  subst hsz
  have hD := hD0.self (sz := s.heap.size)
  generalize hAe : va_A (wR y a z) s.heap.size = A at hD hg ⊢
  have hA : ∀ q : Nat, s.heap.size ≤ q → A q := fun q h => by rw [← hAe]; exact Or.inr h
  clear hAe hD0
  have hl := lv_entry ([.ref (a 0)]) (n := 4) (Nat.le_of_ble_eq_true rfl)
  rw [lg_entry_eq]
  generalize (lg_sl ([.ref (a 0)]) ++ List.replicate (4 - (lg_sl ([.ref (a 0)])).length) Slot.unset).toArray = ls at hl ⊢
  replace hl : lv_has ls 4 [(0, .ref (a 0))] := hl
  refine zz_go (w := wR y a) hP hD va_S.rf hl (fun G hG => ?_)
  clear hP hD hl ls
  have J82 : ∀ (k24 : Int32 → Int32 → Int32 → zz_M → Option (Int32 × zz_M)) (K24 : ∀ (v1 : Int32) (v2 : Int32) (v3 : Int32) (z : zz_M), k24 v1 v2 v3 z = some (r, zt) → G 24 [(0, .ref (a 0)), (1, .int v1), (2, .int v2), (3, .int v3)] [] z) (v1 : Int32) (v2 : Int32) (v3 : Int32) (z : zz_M), mX11_overdue_b82 k24 v1 v2 v3 z = some (r, zt) → G 82 [(0, .ref (a 0)), (1, .int v1), (2, .int v2), (3, .int v3)] [] z := by
    intro k24 K24 v1 v2 v3 z hm
    rw [mX11_overdue_b82] at hm
    rw [hG]
    intro H locs ls hP hD hS hl
    obtain ⟨n1, en1⟩ : ∃ q : Int32, q = v3 + (-1 : Int32) := ⟨_, rfl⟩
    replace hm := zz_nm_some en1 hm
    refine lv_iinc (v := n1) (lv' := [(3, .int n1), (0, .ref (a 0)), (1, .int v1), (2, .int v2)]) hx hb dX11_overdue_82 hl (k := 3) rfl (by rw [en1]; rfl) (by decide) rfl (fun ls hl => ?_)
    refine lv_goto (tgt := 24) hx hb dX11_overdue_85 (by decide) ?_
    have j := K24 v1 v2 n1 z hm
    rw [hG] at j
    exact j H locs ls hP hD hS (lv_sub hl [1, 2, 3, 0] rfl)
  have J55 : ∀ (k24 : Int32 → Int32 → Int32 → zz_M → Option (Int32 × zz_M)) (K24 : ∀ (v1 : Int32) (v2 : Int32) (v3 : Int32) (z : zz_M), k24 v1 v2 v3 z = some (r, zt) → G 24 [(0, .ref (a 0)), (1, .int v1), (2, .int v2), (3, .int v3)] [] z) (v2 : Int32) (v3 : Int32) (t0 : Int32) (t1 : Int32) (z : zz_M), mX11_overdue_b55 k24 v2 v3 t0 t1 z = some (r, zt) → G 55 [(0, .ref (a 0)), (2, .int v2), (3, .int v3)] [.int t0, .int t1] z := by
    intro k24 K24 v2 v3 t0 t1 z hm
    rw [mX11_overdue_b55] at hm
    rw [hG]
    intro H locs ls hP hD hS hl
    refine lv_iadd hx hb dX11_overdue_55 ?_
    refine lv_topi (fun n2 en2 => ?_)
    replace hm := zz_nm_some en2 hm
    refine lv_istore_n (lv' := [(1, .int n2), (0, .ref (a 0)), (2, .int v2), (3, .int v3)]) hx hb dX11_overdue_56 rfl hl (by decide) rfl (fun ls hl => ?_)
    refine lv_aload_n hx hb dX11_overdue_57 rfl (lv_at hl 1 rfl) ?_
    refine lv_iload_n hx hb dX11_overdue_58 rfl (lv_at hl 3 rfl) ?_
    obtain ⟨r3, h4, hm⟩ := zz_b1_some hm
    refine zz_calll (zz_runV (w := wR y a) (As := [.int v3]) (rest := []) ⟨hx, hb, hml, hown, hts⟩ (zX11_damagesIn l D y a H.size v3 z h4) (cwV 1 hts gX11_overdue_X11_damagesIn rfl rfl rfl zdX11_damagesIn ⟨Nat.le_of_ble_eq_true rfl, Nat.le_of_ble_eq_true rfl⟩) hK hN hg hP hD hS hA 0 (wR_0 y a z) rfl rfl hl.1 rfl (Nat.le_of_ble_eq_true rfl) dX11_overdue_59 ⟨Nat.le_of_ble_eq_true rfl, Nat.le_of_ble_eq_true rfl⟩) hD hS hA (fun H locs hP hD hS => ?_)
    refine lv_aload_n hx hb dX11_overdue_62 rfl (lv_at hl 1 rfl) ?_
    obtain ⟨r5, h6, hm⟩ := zz_b1_some hm
    refine zz_calll (zz_runV (w := wR y a) (As := []) (rest := [.long r3]) ⟨hx, hb, hml, hown, hts⟩ (zX11_mostDamages l D y a H.size z h6) (cwV 0 hts gX11_overdue_X11_mostDamages rfl rfl rfl zdX11_mostDamages ⟨Nat.le_of_ble_eq_true rfl, Nat.le_of_ble_eq_true rfl⟩) hK hN hg hP hD hS hA 0 (wR_0 y a z) rfl rfl hl.1 rfl (Nat.le_of_ble_eq_true rfl) dX11_overdue_63 ⟨Nat.le_of_ble_eq_true rfl, Nat.le_of_ble_eq_true rfl⟩) hD hS hA (fun H locs hP hD hS => ?_)
    refine W.lcmp hx hb dX11_overdue_66 ?_
    refine lv_if_ne (tgt := 82) hx hb dX11_overdue_67 (by decide) (fun c7 => ?_) (fun c7 => ?_)
    · replace hm := zz_neg c7 hm
      have j := J82 k24 K24 n2 v2 v3 z hm
      rw [hG] at j
      exact j H locs ls hP hD hS (lv_sub hl [1, 0, 2, 3] rfl)
    · replace hm := zz_pos c7 hm
      refine lv_aload_n hx hb dX11_overdue_70 rfl (lv_at hl 1 rfl) ?_
      refine lv_iload_n hx hb dX11_overdue_71 rfl (lv_at hl 3 rfl) ?_
      obtain ⟨r8, h9, hm⟩ := zz_b1_some hm
      refine zz_calll (zz_runV (w := wR y a) (As := [.int v3]) (rest := []) ⟨hx, hb, hml, hown, hts⟩ (zX11_damagesIn l D y a H.size v3 z h9) (cwV 1 hts gX11_overdue_X11_damagesIn rfl rfl rfl zdX11_damagesIn ⟨Nat.le_of_ble_eq_true rfl, Nat.le_of_ble_eq_true rfl⟩) hK hN hg hP hD hS hA 0 (wR_0 y a z) rfl rfl hl.1 rfl (Nat.le_of_ble_eq_true rfl) dX11_overdue_72 ⟨Nat.le_of_ble_eq_true rfl, Nat.le_of_ble_eq_true rfl⟩) hD hS hA (fun H locs hP hD hS => ?_)
      refine lv_lconst (v := (0 : Int64)) hx hb dX11_overdue_75 (by decide) ?_
      refine W.lcmp hx hb dX11_overdue_76 ?_
      refine lv_if_le (tgt := 82) hx hb dX11_overdue_77 (by decide) (fun c10 => ?_) (fun c10 => ?_)
      · replace hm := zz_pos c10 hm
        have j := J82 k24 K24 n2 v2 v3 z hm
        rw [hG] at j
        exact j H locs ls hP hD hS (lv_sub hl [1, 0, 2, 3] rfl)
      · replace hm := zz_neg c10 hm
        refine lv_iload_n hx hb dX11_overdue_80 rfl (lv_at hl 3 rfl) ?_
        refine lv_istore_n (lv' := [(2, .int v3), (1, .int n2), (0, .ref (a 0)), (3, .int v3)]) hx hb dX11_overdue_81 rfl hl (by decide) rfl (fun ls hl => ?_)
        have j := J82 k24 K24 n2 v3 v3 z hm
        rw [hG] at j
        exact j H locs ls hP hD hS (lv_sub hl [2, 1, 0, 3] rfl)
  have J54 : ∀ (k24 : Int32 → Int32 → Int32 → zz_M → Option (Int32 × zz_M)) (K24 : ∀ (v1 : Int32) (v2 : Int32) (v3 : Int32) (z : zz_M), k24 v1 v2 v3 z = some (r, zt) → G 24 [(0, .ref (a 0)), (1, .int v1), (2, .int v2), (3, .int v3)] [] z) (v2 : Int32) (v3 : Int32) (t0 : Int32) (z : zz_M), mX11_overdue_b54 k24 v2 v3 t0 z = some (r, zt) → G 54 [(0, .ref (a 0)), (2, .int v2), (3, .int v3)] [.int t0] z := by
    intro k24 K24 v2 v3 t0 z hm
    rw [mX11_overdue_b54] at hm
    rw [hG]
    intro H locs ls hP hD hS hl
    refine lv_iconst (v := (0 : Int32)) hx hb dX11_overdue_54 (by decide) ?_
    have j := J55 k24 K24 v2 v3 (0 : Int32) t0 z hm
    rw [hG] at j
    exact j H locs ls hP hD hS (lv_sub hl [0, 1, 2] rfl)
  have J24 : ∀ (n : Nat) (v1 : Int32) (v2 : Int32) (v3 : Int32) (z : zz_M), mX11_overdue_b24 n v1 v2 v3 z = some (r, zt) → G 24 [(0, .ref (a 0)), (1, .int v1), (2, .int v2), (3, .int v3)] [] z := by
    intro n
    induction n with
    | zero =>
      intro v1 v2 v3 z hm
      exact zz_none hm
    | succ n ih =>
      intro v1 v2 v3 z hm
      rw [mX11_overdue_b24] at hm
      rw [hG]
      intro H locs ls hP hD hS hl
      refine lv_iload_n hx hb dX11_overdue_24 rfl (lv_at hl 3 rfl) ?_
      refine lv_if_lt (tgt := 88) hx hb dX11_overdue_25 (by decide) (fun c11 => ?_) (fun c11 => ?_)
      · replace hm := zz_pos c11 hm
        refine lv_aload_n hx hb dX11_overdue_88 rfl (lv_at hl 0 rfl) ?_
        refine lv_iconst (v := (0 : Int32)) hx hb dX11_overdue_89 (by decide) ?_
        refine va_put (D := D) (ci := 11) (v := .int (0 : Int32)) (ty := .int) (C := RX11) (T := TX11) (N := 35) hx hb hts nX11_overdue_X11 tyX11 tyX11_ok nmX11 hown hK hP hD hS 0 (wR_0 y a z) rfl 18 (by decide) (hts (.fieldLink RX11 100 "WorksDeskModel" "rowMany" "I") (List.mem_of_getElem? (i := 5) rfl)) (fun _ h9 => h9) rfl (tyX11_ok 18 (by decide)) rfl rfl (Nat.le_of_ble_eq_true rfl) dX11_overdue_90 (fun H locs hP hD hS => ?_)
        obtain ⟨z12, hP, hD, hm⟩ := zz_up (w := wR y a) (wR_f18 y a z (0 : Int32)) hP hD hm
        refine lv_aload_n hx hb dX11_overdue_93 rfl (lv_at hl 0 rfl) ?_
        refine lv_aload_n hx hb dX11_overdue_94 rfl (lv_at hl 0 rfl) ?_
        refine lv_bipush (v := (23 : Int32)) hx hb dX11_overdue_95 (by decide) ?_
        obtain ⟨r13, h14, hm⟩ := zz_b1_some hm
        refine zz_calll (zz_runV (w := wR y a) (As := [.int (23 : Int32)]) (rest := [.ref (a 0)]) ⟨hx, hb, hml, hown, hts⟩ (zX11_damagesIn l D y a H.size (23 : Int32) z12 h14) (cwV 1 hts gX11_overdue_X11_damagesIn rfl rfl rfl zdX11_damagesIn ⟨Nat.le_of_ble_eq_true rfl, Nat.le_of_ble_eq_true rfl⟩) hK hN hg hP hD hS hA 0 (wR_0 y a z12) rfl rfl hl.1 rfl (Nat.le_of_ble_eq_true rfl) dX11_overdue_97 ⟨Nat.le_of_ble_eq_true rfl, Nat.le_of_ble_eq_true rfl⟩) hD hS hA (fun H locs hP hD hS => ?_)
        obtain ⟨r15, z17, h16, hm⟩ := zz_b2_some hm
        refine zz_callv (zz_runV (w := wR y a) (As := [.long r13]) (rest := []) ⟨hx, hb, hml, hown, hts⟩ (zX11_tell l D y a H.size r13 z12 h16) (cwV 1 hts gX11_overdue_X11_tell rfl rfl rfl zdX11_tell ⟨Nat.le_of_ble_eq_true rfl, Nat.le_of_ble_eq_true rfl⟩) hK hN hg hP hD hS hA 0 (wR_0 y a z12) rfl rfl hl.1 rfl (Nat.le_of_ble_eq_true rfl) dX11_overdue_100 ⟨Nat.le_of_ble_eq_true rfl, Nat.le_of_ble_eq_true rfl⟩) hD hS hA (fun H locs hP hD hS => ?_)
        refine lv_aload_n hx hb dX11_overdue_103 rfl (lv_at hl 0 rfl) ?_
        refine lv_iload_n hx hb dX11_overdue_104 rfl (lv_at hl 2 rfl) ?_
        refine lv_i2l hx hb dX11_overdue_105 rfl ?_
        obtain ⟨r18, z20, h19, hm⟩ := zz_b2_some hm
        refine zz_callv (zz_runV (w := wR y a) (As := [.long v2.toInt64]) (rest := []) ⟨hx, hb, hml, hown, hts⟩ (zX11_tell l D y a H.size v2.toInt64 z17 h19) (cwV 1 hts gX11_overdue_X11_tell rfl rfl rfl zdX11_tell ⟨Nat.le_of_ble_eq_true rfl, Nat.le_of_ble_eq_true rfl⟩) hK hN hg hP hD hS hA 0 (wR_0 y a z17) rfl rfl hl.1 rfl (Nat.le_of_ble_eq_true rfl) dX11_overdue_106 ⟨Nat.le_of_ble_eq_true rfl, Nat.le_of_ble_eq_true rfl⟩) hD hS hA (fun H locs hP hD hS => ?_)
        refine lv_iload_n hx hb dX11_overdue_109 rfl (lv_at hl 1 rfl) ?_
        exact zz_iret hx hb hr hlocks (zz_some2 hm) hP hK hD hS dX11_overdue_110
      · replace hm := zz_neg c11 hm
        refine lv_iload_n hx hb dX11_overdue_28 rfl (lv_at hl 1 rfl) ?_
        refine lv_iload_n hx hb dX11_overdue_29 rfl (lv_at hl 3 rfl) ?_
        refine lv_aload_n hx hb dX11_overdue_30 rfl (lv_at hl 0 rfl) ?_
        refine va_get (D := D) (ci := 11) (v := .int (z.2.2.1 11)) (C := RX11) (T := TX11) (N := 35) hx hb hts nX11_overdue_X11 hown hK hP 0 (wR_0 y a z) rfl 11 (by decide) (hts (.fieldLink RX11 91 "WorksDeskModel" "due" "I") (List.mem_of_getElem? (i := 2) rfl)) (fun _ h9 => h9) rfl dX11_overdue_31 ?_
        refine lv_aload_n hx hb dX11_overdue_34 rfl (lv_at hl 0 rfl) ?_
        refine va_get (D := D) (ci := 11) (v := .int (z.2.2.1 12)) (C := RX11) (T := TX11) (N := 35) hx hb hts nX11_overdue_X11 hown hK hP 0 (wR_0 y a z) rfl 12 (by decide) (hts (.fieldLink RX11 94 "WorksDeskModel" "granted" "I") (List.mem_of_getElem? (i := 3) rfl)) (fun _ h9 => h9) rfl dX11_overdue_35 ?_
        refine lv_iadd hx hb dX11_overdue_38 ?_
        refine lv_icmp_le (tgt := 54) hx hb dX11_overdue_39 (by decide) (fun c21 => ?_) (fun c21 => ?_)
        · replace hm := zz_pos c21 hm
          have j := J54 (mX11_overdue_b24 n) ih v2 v3 v1 z hm
          rw [hG] at j
          exact j H locs ls hP hD hS (lv_sub hl [0, 2, 3] rfl)
        · replace hm := zz_neg c21 hm
          refine lv_iload_n hx hb dX11_overdue_42 rfl (lv_at hl 3 rfl) ?_
          refine lv_aload_n hx hb dX11_overdue_43 rfl (lv_at hl 0 rfl) ?_
          refine va_get (D := D) (ci := 11) (v := .int (z.2.2.1 9)) (C := RX11) (T := TX11) (N := 35) hx hb hts nX11_overdue_X11 hown hK hP 0 (wR_0 y a z) rfl 9 (by decide) (hts (.fieldLink RX11 85 "WorksDeskModel" "handover" "I") (List.mem_of_getElem? (i := 4) rfl)) (fun _ h9 => h9) rfl dX11_overdue_44 ?_
          refine lv_icmp_gt (tgt := 54) hx hb dX11_overdue_47 (by decide) (fun c22 => ?_) (fun c22 => ?_)
          · replace hm := zz_pos c22 hm
            have j := J54 (mX11_overdue_b24 n) ih v2 v3 v1 z hm
            rw [hG] at j
            exact j H locs ls hP hD hS (lv_sub hl [0, 2, 3] rfl)
          · replace hm := zz_neg c22 hm
            refine lv_iconst (v := (1 : Int32)) hx hb dX11_overdue_50 (by decide) ?_
            refine lv_goto (tgt := 55) hx hb dX11_overdue_51 (by decide) ?_
            have j := J55 (mX11_overdue_b24 n) ih v2 v3 (1 : Int32) v1 z hm
            rw [hG] at j
            exact j H locs ls hP hD hS (lv_sub hl [0, 2, 3] rfl)
  rw [hG]
  intro H locs ls hP hD hS hl
  unfold mX11_overdue at hm
  refine lv_aload_n hx hb dX11_overdue_0 rfl (lv_at hl 0 rfl) ?_
  refine lv_iconst (v := (0 : Int32)) hx hb dX11_overdue_1 (by decide) ?_
  refine va_put (D := D) (ci := 11) (v := .int (0 : Int32)) (ty := .int) (C := RX11) (T := TX11) (N := 35) hx hb hts nX11_overdue_X11 tyX11 tyX11_ok nmX11 hown hK hP hD hS 0 (wR_0 y a z) rfl 19 (by decide) (hts (.fieldLink RX11 97 "WorksDeskModel" "thrown" "I") (List.mem_of_getElem? (i := 1) rfl)) (fun _ h9 => h9) rfl (tyX11_ok 19 (by decide)) rfl rfl (Nat.le_of_ble_eq_true rfl) dX11_overdue_2 (fun H locs hP hD hS => ?_)
  obtain ⟨z23, hP, hD, hm⟩ := zz_up (w := wR y a) (wR_f19 y a z (0 : Int32)) hP hD hm
  refine lv_aload_n hx hb dX11_overdue_5 rfl (lv_at hl 0 rfl) ?_
  refine va_get (D := D) (ci := 11) (v := .int (z23.2.2.1 11)) (C := RX11) (T := TX11) (N := 35) hx hb hts nX11_overdue_X11 hown hK hP 0 (wR_0 y a z23) rfl 11 (by decide) (hts (.fieldLink RX11 91 "WorksDeskModel" "due" "I") (List.mem_of_getElem? (i := 2) rfl)) (fun _ h9 => h9) rfl dX11_overdue_6 ?_
  refine lv_bipush (v := (24 : Int32)) hx hb dX11_overdue_9 (by decide) ?_
  refine lv_icmp_ne (tgt := 17) hx hb dX11_overdue_11 (by decide) (fun c24 => ?_) (fun c24 => ?_)
  · replace hm := zz_neg c24 hm
    refine lv_iconst (v := (0 : Int32)) hx hb dX11_overdue_17 (by decide) ?_
    refine lv_istore_n (lv' := [(1, .int (0 : Int32)), (0, .ref (a 0))]) hx hb dX11_overdue_18 rfl hl (by decide) rfl (fun ls hl => ?_)
    refine lv_iconst (v := (-1 : Int32)) hx hb dX11_overdue_19 (by decide) ?_
    refine lv_istore_n (lv' := [(2, .int (-1 : Int32)), (1, .int (0 : Int32)), (0, .ref (a 0))]) hx hb dX11_overdue_20 rfl hl (by decide) rfl (fun ls hl => ?_)
    refine lv_bipush (v := (23 : Int32)) hx hb dX11_overdue_21 (by decide) ?_
    refine lv_istore_n (lv' := [(3, .int (23 : Int32)), (2, .int (-1 : Int32)), (1, .int (0 : Int32)), (0, .ref (a 0))]) hx hb dX11_overdue_23 rfl hl (by decide) rfl (fun ls hl => ?_)
    have j := J24 zz_N (0 : Int32) (-1 : Int32) (23 : Int32) z23 hm
    rw [hG] at j
    exact j H locs ls hP hD hS (lv_sub hl [3, 2, 1, 0] rfl)
  · replace hm := zz_pos c24 hm
    refine lv_bipush (v := (-2 : Int32)) hx hb dX11_overdue_14 (by decide) ?_
    exact zz_iret hx hb hr hlocks (zz_some2 hm) hP hK hD hS dX11_overdue_16
def mX11_paces_b24 (z : zz_M) : Option (Int32 × zz_M) := some ((-1 : Int32), z)
def mX11_paces (x1 : Int32) (x2 : Int32) (z : zz_M) : Option (Int32 × zz_M) := zz_nm (zz_sF z 19 (0 : Int32)) (fun z1 => zz_b1 (mX11_isMonth x1) (fun r2 => if r2 = (0 : Int32) then (mX11_paces_b24 z1) else (zz_b1 (mX11_in x2.toInt64 (1 : Int64) (999999 : Int64)) (fun r5 => if r5 = (0 : Int32) then (mX11_paces_b24 z1) else (zz_b2 (mX11_layMonths z1) (fun r8 z10 => zz_b2 (mX11_paceOf x1 x2 z10) (fun r11 z13 => if r11 = (-1 : Int32) then (some ((-2 : Int32), z13)) else (zz_nm (zz_sF z13 18 (0 : Int32)) (fun z15 => zz_b1 (mX11_interestAll z15) (fun r16 => zz_b2 (mX11_tell r16 z15) (fun r18 z20 => some (r11, z20))))))))))))
theorem nX11_paces_X11 : ∀ w ∈ wsX110, w ∈ wsX11_paces := fun _ h => List.mem_cons_of_mem _ (List.mem_append_right _ (h))
theorem zdX11_paces : yX11_paces.cls = RX11 ∧ yX11_paces.cls ≠ "java/lang/invoke/MethodHandle" ∧ yX11_paces.cls ≠ "java/lang/invoke/VarHandle" ∧ (parseMethodDescriptor yX11_paces.desc).map (fun d => d.parameters.length) = some 2 := by decide +kernel
set_option maxHeartbeats 4000000 in
set_option maxRecDepth 100000 in
theorem zX11_paces (l : Launch) (D : va_G) (y : Nat → ClassId) (a : Nat → Nat) (sz : Nat) (x1 : Int32) (x2 : Int32) (z : zz_M) {r : Int32} {zt : zz_M} (hm : mX11_paces x1 x2 z = some (r, zt)) : Met l yX11_paces wsX11_paces { frames := 7, cells := 0, slots := 0, locals := 175 } (zz_Pc D y (wR y a z) sz [.ref (a 0), .int x1, .int x2]) (zz_Qi D y (wR y a) (va_A (wR y a z) sz) r zt) 0 0 (va_A (wR y a z) sz) := by
  refine Met.ofW (cc := cX11_paces) (maxL := 4) (ret := (some .int)) (by decide) rfl ?_
  intro p e s m args below meth c s₁ B hml hv
  obtain ⟨rfl, hsz, hP, hK, hD0, hN, hg⟩ := hv
  have hx := B.exec
  have hb := B.bytes
  have hr := B.returns
  have hts := atoms_spec (ws := wsX11_paces) B.pre
  have hown : s.vm.findClass RX11 = some m.cls := findClass_of_methodNamed B.named
  have hlocks := B.notSynchronized
  clear B
  subst hsz
  have hD := hD0.self (sz := s.heap.size)
  generalize hAe : va_A (wR y a z) s.heap.size = A at hD hg ⊢
  have hA : ∀ q : Nat, s.heap.size ≤ q → A q := fun q h => by rw [← hAe]; exact Or.inr h
  clear hAe hD0
  have hl := lv_entry ([.ref (a 0), .int x1, .int x2]) (n := 4) (Nat.le_of_ble_eq_true rfl)
  rw [lg_entry_eq]
  generalize (lg_sl ([.ref (a 0), .int x1, .int x2]) ++ List.replicate (4 - (lg_sl ([.ref (a 0), .int x1, .int x2])).length) Slot.unset).toArray = ls at hl ⊢
  replace hl : lv_has ls 4 [(0, .ref (a 0)), (1, .int x1), (2, .int x2)] := hl
  refine zz_go (w := wR y a) hP hD va_S.rf hl (fun G hG => ?_)
  clear hP hD hl ls
  have J24 : ∀ (z : zz_M), mX11_paces_b24 z = some (r, zt) → G 24 [] [] z := by
    intro z hm
    rw [mX11_paces_b24] at hm
    rw [hG]
    intro H locs ls hP hD hS hl
    refine lv_iconst (v := (-1 : Int32)) hx hb dX11_paces_24 (by decide) ?_
    exact zz_iret hx hb hr hlocks (zz_some2 hm) hP hK hD hS dX11_paces_25
  rw [hG]
  intro H locs ls hP hD hS hl
  unfold mX11_paces at hm
  refine lv_aload_n hx hb dX11_paces_0 rfl (lv_at hl 0 rfl) ?_
  refine lv_iconst (v := (0 : Int32)) hx hb dX11_paces_1 (by decide) ?_
  refine va_put (D := D) (ci := 11) (v := .int (0 : Int32)) (ty := .int) (C := RX11) (T := TX11) (N := 35) hx hb hts nX11_paces_X11 tyX11 tyX11_ok nmX11 hown hK hP hD hS 0 (wR_0 y a z) rfl 19 (by decide) (hts (.fieldLink RX11 97 "WorksDeskModel" "thrown" "I") (List.mem_of_getElem? (i := 1) rfl)) (fun _ h9 => h9) rfl (tyX11_ok 19 (by decide)) rfl rfl (Nat.le_of_ble_eq_true rfl) dX11_paces_2 (fun H locs hP hD hS => ?_)
  obtain ⟨z1, hP, hD, hm⟩ := zz_up (w := wR y a) (wR_f19 y a z (0 : Int32)) hP hD hm
  refine lv_iload_n hx hb dX11_paces_5 rfl (lv_at hl 1 rfl) ?_
  obtain ⟨r2, h3, hm⟩ := zz_b1_some hm
  refine zz_calli (zz_runS (w := wR y a) (As := [.int x1]) (rest := []) ⟨hx, hb, hml, hown, hts⟩ (zX11_isMonth l D y a H.size x1 z1 h3) (va_cwS 1 hts gX11_paces_X11_isMonth rfl rfl rfl zdX11_isMonth ⟨Nat.le_of_ble_eq_true rfl, Nat.le_of_ble_eq_true rfl⟩) hK hN hg hP hD hS hA rfl hl.1 rfl (Nat.le_of_ble_eq_true rfl) dX11_paces_6 ⟨Nat.le_of_ble_eq_true rfl, Nat.le_of_ble_eq_true rfl⟩) hD hS hA (fun H locs hP hD hS => ?_)
  refine lv_if_eq (tgt := 24) hx hb dX11_paces_9 (by decide) (fun c4 => ?_) (fun c4 => ?_)
  · replace hm := zz_pos c4 hm
    have j := J24 z1 hm
    rw [hG] at j
    exact j H locs ls hP hD hS (lv_sub hl [] rfl)
  · replace hm := zz_neg c4 hm
    refine lv_iload_n hx hb dX11_paces_12 rfl (lv_at hl 2 rfl) ?_
    refine lv_i2l hx hb dX11_paces_13 rfl ?_
    refine lv_lconst (v := (1 : Int64)) hx hb dX11_paces_14 (by decide) ?_
    refine lv_ldc2 (v := (999999 : Int64)) hx hb hown (hts (.constantLong RX11 200 (999999)) (List.mem_of_getElem? (i := 2) rfl)) dX11_paces_15 ?_
    obtain ⟨r5, h6, hm⟩ := zz_b1_some hm
    refine zz_calli (zz_runS (w := wR y a) (As := [.long x2.toInt64, .long (1 : Int64), .long (999999 : Int64)]) (rest := []) ⟨hx, hb, hml, hown, hts⟩ (zX11_in l D y a H.size x2.toInt64 (1 : Int64) (999999 : Int64) z1 h6) (va_cwS 3 hts gX11_paces_X11_in rfl rfl rfl zdX11_in ⟨Nat.le_of_ble_eq_true rfl, Nat.le_of_ble_eq_true rfl⟩) hK hN hg hP hD hS hA rfl hl.1 rfl (Nat.le_of_ble_eq_true rfl) dX11_paces_18 ⟨Nat.le_of_ble_eq_true rfl, Nat.le_of_ble_eq_true rfl⟩) hD hS hA (fun H locs hP hD hS => ?_)
    refine lv_if_ne (tgt := 26) hx hb dX11_paces_21 (by decide) (fun c7 => ?_) (fun c7 => ?_)
    · replace hm := zz_neg c7 hm
      refine lv_aload_n hx hb dX11_paces_26 rfl (lv_at hl 0 rfl) ?_
      obtain ⟨r8, z10, h9, hm⟩ := zz_b2_some hm
      refine zz_callv (zz_runV (w := wR y a) (As := []) (rest := []) ⟨hx, hb, hml, hown, hts⟩ (zX11_layMonths l D y a H.size z1 h9) (cwV 0 hts gX11_paces_X11_layMonths rfl rfl rfl zdX11_layMonths ⟨Nat.le_of_ble_eq_true rfl, Nat.le_of_ble_eq_true rfl⟩) hK hN hg hP hD hS hA 0 (wR_0 y a z1) rfl rfl hl.1 rfl (Nat.le_of_ble_eq_true rfl) dX11_paces_27 ⟨Nat.le_of_ble_eq_true rfl, Nat.le_of_ble_eq_true rfl⟩) hD hS hA (fun H locs hP hD hS => ?_)
      refine lv_aload_n hx hb dX11_paces_30 rfl (lv_at hl 0 rfl) ?_
      refine lv_iload_n hx hb dX11_paces_31 rfl (lv_at hl 1 rfl) ?_
      refine lv_iload_n hx hb dX11_paces_32 rfl (lv_at hl 2 rfl) ?_
      obtain ⟨r11, z13, h12, hm⟩ := zz_b2_some hm
      refine zz_calli (zz_runV (w := wR y a) (As := [.int x1, .int x2]) (rest := []) ⟨hx, hb, hml, hown, hts⟩ (zX11_paceOf l D y a H.size x1 x2 z10 h12) (cwV 2 hts gX11_paces_X11_paceOf rfl rfl rfl zdX11_paceOf ⟨Nat.le_of_ble_eq_true rfl, Nat.le_of_ble_eq_true rfl⟩) hK hN hg hP hD hS hA 0 (wR_0 y a z10) rfl rfl hl.1 rfl (Nat.le_of_ble_eq_true rfl) dX11_paces_33 ⟨Nat.le_of_ble_eq_true rfl, Nat.le_of_ble_eq_true rfl⟩) hD hS hA (fun H locs hP hD hS => ?_)
      refine lv_istore_n (lv' := [(3, .int r11), (0, .ref (a 0)), (1, .int x1), (2, .int x2)]) hx hb dX11_paces_36 rfl hl (by decide) rfl (fun ls hl => ?_)
      refine lv_iload_n hx hb dX11_paces_37 rfl (lv_at hl 0 rfl) ?_
      refine lv_iconst (v := (-1 : Int32)) hx hb dX11_paces_38 (by decide) ?_
      refine lv_icmp_ne (tgt := 45) hx hb dX11_paces_39 (by decide) (fun c14 => ?_) (fun c14 => ?_)
      · replace hm := zz_neg c14 hm
        refine lv_aload_n hx hb dX11_paces_45 rfl (lv_at hl 1 rfl) ?_
        refine lv_iconst (v := (0 : Int32)) hx hb dX11_paces_46 (by decide) ?_
        refine va_put (D := D) (ci := 11) (v := .int (0 : Int32)) (ty := .int) (C := RX11) (T := TX11) (N := 35) hx hb hts nX11_paces_X11 tyX11 tyX11_ok nmX11 hown hK hP hD hS 0 (wR_0 y a z13) rfl 18 (by decide) (hts (.fieldLink RX11 100 "WorksDeskModel" "rowMany" "I") (List.mem_of_getElem? (i := 3) rfl)) (fun _ h9 => h9) rfl (tyX11_ok 18 (by decide)) rfl rfl (Nat.le_of_ble_eq_true rfl) dX11_paces_47 (fun H locs hP hD hS => ?_)
        obtain ⟨z15, hP, hD, hm⟩ := zz_up (w := wR y a) (wR_f18 y a z13 (0 : Int32)) hP hD hm
        refine lv_aload_n hx hb dX11_paces_50 rfl (lv_at hl 1 rfl) ?_
        refine lv_aload_n hx hb dX11_paces_51 rfl (lv_at hl 1 rfl) ?_
        obtain ⟨r16, h17, hm⟩ := zz_b1_some hm
        refine zz_calll (zz_runV (w := wR y a) (As := []) (rest := [.ref (a 0)]) ⟨hx, hb, hml, hown, hts⟩ (zX11_interestAll l D y a H.size z15 h17) (cwV 0 hts gX11_paces_X11_interestAll rfl rfl rfl zdX11_interestAll ⟨Nat.le_of_ble_eq_true rfl, Nat.le_of_ble_eq_true rfl⟩) hK hN hg hP hD hS hA 0 (wR_0 y a z15) rfl rfl hl.1 rfl (Nat.le_of_ble_eq_true rfl) dX11_paces_52 ⟨Nat.le_of_ble_eq_true rfl, Nat.le_of_ble_eq_true rfl⟩) hD hS hA (fun H locs hP hD hS => ?_)
        obtain ⟨r18, z20, h19, hm⟩ := zz_b2_some hm
        refine zz_callv (zz_runV (w := wR y a) (As := [.long r16]) (rest := []) ⟨hx, hb, hml, hown, hts⟩ (zX11_tell l D y a H.size r16 z15 h19) (cwV 1 hts gX11_paces_X11_tell rfl rfl rfl zdX11_tell ⟨Nat.le_of_ble_eq_true rfl, Nat.le_of_ble_eq_true rfl⟩) hK hN hg hP hD hS hA 0 (wR_0 y a z15) rfl rfl hl.1 rfl (Nat.le_of_ble_eq_true rfl) dX11_paces_55 ⟨Nat.le_of_ble_eq_true rfl, Nat.le_of_ble_eq_true rfl⟩) hD hS hA (fun H locs hP hD hS => ?_)
        refine lv_iload_n hx hb dX11_paces_58 rfl (lv_at hl 0 rfl) ?_
        exact zz_iret hx hb hr hlocks (zz_some2 hm) hP hK hD hS dX11_paces_59
      · replace hm := zz_pos c14 hm
        refine lv_bipush (v := (-2 : Int32)) hx hb dX11_paces_42 (by decide) ?_
        exact zz_iret hx hb hr hlocks (zz_some2 hm) hP hK hD hS dX11_paces_44
    · replace hm := zz_pos c7 hm
      have j := J24 z1 hm
      rw [hG] at j
      exact j H locs ls hP hD hS (lv_sub hl [] rfl)
def mX11_pays_b24 (z : zz_M) : Option (Int32 × zz_M) := some ((-1 : Int32), z)
def mX11_pays (x1 : Int32) (x2 : Int32) (z : zz_M) : Option (Int32 × zz_M) := zz_nm (zz_sF z 19 (0 : Int32)) (fun z1 => zz_b1 (mX11_isMonth x1) (fun r2 => if r2 = (0 : Int32) then (mX11_pays_b24 z1) else (zz_b1 (mX11_in x2.toInt64 (0 : Int64) (999999 : Int64)) (fun r5 => if r5 = (0 : Int32) then (mX11_pays_b24 z1) else (zz_ck (zz_in x1 24) (if (z1.1 8 x1.toNatClampNeg) = x2 then (some ((-2 : Int32), z1)) else (zz_ck (zz_in x1 24) (zz_nm (z1.1 8 x1.toNatClampNeg) (fun n11 => zz_ck (zz_in x1 24) (zz_nm (zz_wI z1 8 x1 x2) (fun z13 => some (n11, z13))))))))))))
theorem nX11_pays_X11 : ∀ w ∈ wsX110, w ∈ wsX11_pays := fun _ h => List.mem_cons_of_mem _ (List.mem_append_right _ (h))
theorem zdX11_pays : yX11_pays.cls = RX11 ∧ yX11_pays.cls ≠ "java/lang/invoke/MethodHandle" ∧ yX11_pays.cls ≠ "java/lang/invoke/VarHandle" ∧ (parseMethodDescriptor yX11_pays.desc).map (fun d => d.parameters.length) = some 2 := by decide +kernel
set_option maxHeartbeats 4000000 in
set_option maxRecDepth 100000 in
theorem zX11_pays (l : Launch) (D : va_G) (y : Nat → ClassId) (a : Nat → Nat) (sz : Nat) (x1 : Int32) (x2 : Int32) (z : zz_M) {r : Int32} {zt : zz_M} (hm : mX11_pays x1 x2 z = some (r, zt)) : Met l yX11_pays wsX11_pays { frames := 2, cells := 0, slots := 0, locals := 45 } (zz_Pc D y (wR y a z) sz [.ref (a 0), .int x1, .int x2]) (zz_Qi D y (wR y a) (va_A (wR y a z) sz) r zt) 0 0 (va_A (wR y a z) sz) := by
  refine Met.ofW (cc := cX11_pays) (maxL := 4) (ret := (some .int)) (by decide) rfl ?_
  intro p e s m args below meth c s₁ B hml hv
  obtain ⟨rfl, hsz, hP, hK, hD0, hN, hg⟩ := hv
  have hx := B.exec
  have hb := B.bytes
  have hr := B.returns
  have hts := atoms_spec (ws := wsX11_pays) B.pre
  have hown : s.vm.findClass RX11 = some m.cls := findClass_of_methodNamed B.named
  have hlocks := B.notSynchronized
  clear B
  subst hsz
  have hD := hD0.self (sz := s.heap.size)
  generalize hAe : va_A (wR y a z) s.heap.size = A at hD hg ⊢
  have hA : ∀ q : Nat, s.heap.size ≤ q → A q := fun q h => by rw [← hAe]; exact Or.inr h
  clear hAe hD0
  have hl := lv_entry ([.ref (a 0), .int x1, .int x2]) (n := 4) (Nat.le_of_ble_eq_true rfl)
  rw [lg_entry_eq]
  generalize (lg_sl ([.ref (a 0), .int x1, .int x2]) ++ List.replicate (4 - (lg_sl ([.ref (a 0), .int x1, .int x2])).length) Slot.unset).toArray = ls at hl ⊢
  replace hl : lv_has ls 4 [(0, .ref (a 0)), (1, .int x1), (2, .int x2)] := hl
  refine zz_go (w := wR y a) hP hD va_S.rf hl (fun G hG => ?_)
  clear hP hD hl ls
  have J24 : ∀ (z : zz_M), mX11_pays_b24 z = some (r, zt) → G 24 [] [] z := by
    intro z hm
    rw [mX11_pays_b24] at hm
    rw [hG]
    intro H locs ls hP hD hS hl
    refine lv_iconst (v := (-1 : Int32)) hx hb dX11_pays_24 (by decide) ?_
    exact zz_iret hx hb hr hlocks (zz_some2 hm) hP hK hD hS dX11_pays_25
  rw [hG]
  intro H locs ls hP hD hS hl
  unfold mX11_pays at hm
  refine lv_aload_n hx hb dX11_pays_0 rfl (lv_at hl 0 rfl) ?_
  refine lv_iconst (v := (0 : Int32)) hx hb dX11_pays_1 (by decide) ?_
  refine va_put (D := D) (ci := 11) (v := .int (0 : Int32)) (ty := .int) (C := RX11) (T := TX11) (N := 35) hx hb hts nX11_pays_X11 tyX11 tyX11_ok nmX11 hown hK hP hD hS 0 (wR_0 y a z) rfl 19 (by decide) (hts (.fieldLink RX11 97 "WorksDeskModel" "thrown" "I") (List.mem_of_getElem? (i := 1) rfl)) (fun _ h9 => h9) rfl (tyX11_ok 19 (by decide)) rfl rfl (Nat.le_of_ble_eq_true rfl) dX11_pays_2 (fun H locs hP hD hS => ?_)
  obtain ⟨z1, hP, hD, hm⟩ := zz_up (w := wR y a) (wR_f19 y a z (0 : Int32)) hP hD hm
  refine lv_iload_n hx hb dX11_pays_5 rfl (lv_at hl 1 rfl) ?_
  obtain ⟨r2, h3, hm⟩ := zz_b1_some hm
  refine zz_calli (zz_runS (w := wR y a) (As := [.int x1]) (rest := []) ⟨hx, hb, hml, hown, hts⟩ (zX11_isMonth l D y a H.size x1 z1 h3) (va_cwS 1 hts gX11_pays_X11_isMonth rfl rfl rfl zdX11_isMonth ⟨Nat.le_of_ble_eq_true rfl, Nat.le_of_ble_eq_true rfl⟩) hK hN hg hP hD hS hA rfl hl.1 rfl (Nat.le_of_ble_eq_true rfl) dX11_pays_6 ⟨Nat.le_of_ble_eq_true rfl, Nat.le_of_ble_eq_true rfl⟩) hD hS hA (fun H locs hP hD hS => ?_)
  refine lv_if_eq (tgt := 24) hx hb dX11_pays_9 (by decide) (fun c4 => ?_) (fun c4 => ?_)
  · replace hm := zz_pos c4 hm
    have j := J24 z1 hm
    rw [hG] at j
    exact j H locs ls hP hD hS (lv_sub hl [] rfl)
  · replace hm := zz_neg c4 hm
    refine lv_iload_n hx hb dX11_pays_12 rfl (lv_at hl 2 rfl) ?_
    refine lv_i2l hx hb dX11_pays_13 rfl ?_
    refine lv_lconst (v := (0 : Int64)) hx hb dX11_pays_14 (by decide) ?_
    refine lv_ldc2 (v := (999999 : Int64)) hx hb hown (hts (.constantLong RX11 200 (999999)) (List.mem_of_getElem? (i := 2) rfl)) dX11_pays_15 ?_
    obtain ⟨r5, h6, hm⟩ := zz_b1_some hm
    refine zz_calli (zz_runS (w := wR y a) (As := [.long x2.toInt64, .long (0 : Int64), .long (999999 : Int64)]) (rest := []) ⟨hx, hb, hml, hown, hts⟩ (zX11_in l D y a H.size x2.toInt64 (0 : Int64) (999999 : Int64) z1 h6) (va_cwS 3 hts gX11_pays_X11_in rfl rfl rfl zdX11_in ⟨Nat.le_of_ble_eq_true rfl, Nat.le_of_ble_eq_true rfl⟩) hK hN hg hP hD hS hA rfl hl.1 rfl (Nat.le_of_ble_eq_true rfl) dX11_pays_18 ⟨Nat.le_of_ble_eq_true rfl, Nat.le_of_ble_eq_true rfl⟩) hD hS hA (fun H locs hP hD hS => ?_)
    refine lv_if_ne (tgt := 26) hx hb dX11_pays_21 (by decide) (fun c7 => ?_) (fun c7 => ?_)
    · replace hm := zz_neg c7 hm
      refine lv_aload_n hx hb dX11_pays_26 rfl (lv_at hl 0 rfl) ?_
      refine va_get (D := D) (ci := 11) (v := .ref (a 8)) (C := RX11) (T := TX11) (N := 35) hx hb hts nX11_pays_X11 hown hK hP 0 (wR_0 y a z1) rfl 14 (by decide) (hts (.fieldLink RX11 31 "WorksDeskModel" "paid" "[I") (List.mem_of_getElem? (i := 3) rfl)) (fun _ h9 => h9) rfl dX11_pays_27 ?_
      refine lv_iload_n hx hb dX11_pays_30 rfl (lv_at hl 1 rfl) ?_
      obtain ⟨c8, hm⟩ := zz_ck_some hm
      refine va_iald hx hb hK hP 8 0 (wR_8 y a z1) rfl c8 dX11_pays_31 ?_
      refine lv_iload_n hx hb dX11_pays_32 rfl (lv_at hl 2 rfl) ?_
      refine lv_icmp_ne (tgt := 39) hx hb dX11_pays_33 (by decide) (fun c9 => ?_) (fun c9 => ?_)
      · replace hm := zz_neg c9 hm
        refine lv_aload_n hx hb dX11_pays_39 rfl (lv_at hl 0 rfl) ?_
        refine va_get (D := D) (ci := 11) (v := .ref (a 8)) (C := RX11) (T := TX11) (N := 35) hx hb hts nX11_pays_X11 hown hK hP 0 (wR_0 y a z1) rfl 14 (by decide) (hts (.fieldLink RX11 31 "WorksDeskModel" "paid" "[I") (List.mem_of_getElem? (i := 3) rfl)) (fun _ h9 => h9) rfl dX11_pays_40 ?_
        refine lv_iload_n hx hb dX11_pays_43 rfl (lv_at hl 1 rfl) ?_
        obtain ⟨c10, hm⟩ := zz_ck_some hm
        refine va_iald hx hb hK hP 8 0 (wR_8 y a z1) rfl c10 dX11_pays_44 ?_
        refine lv_topi (fun n11 en11 => ?_)
        replace hm := zz_nm_some en11 hm
        refine lv_istore_n (lv' := [(3, .int n11), (0, .ref (a 0)), (1, .int x1), (2, .int x2)]) hx hb dX11_pays_45 rfl hl (by decide) rfl (fun ls hl => ?_)
        refine lv_aload_n hx hb dX11_pays_46 rfl (lv_at hl 1 rfl) ?_
        refine va_get (D := D) (ci := 11) (v := .ref (a 8)) (C := RX11) (T := TX11) (N := 35) hx hb hts nX11_pays_X11 hown hK hP 0 (wR_0 y a z1) rfl 14 (by decide) (hts (.fieldLink RX11 31 "WorksDeskModel" "paid" "[I") (List.mem_of_getElem? (i := 3) rfl)) (fun _ h9 => h9) rfl dX11_pays_47 ?_
        refine lv_iload_n hx hb dX11_pays_50 rfl (lv_at hl 2 rfl) ?_
        refine lv_iload_n hx hb dX11_pays_51 rfl (lv_at hl 3 rfl) ?_
        obtain ⟨c12, hm⟩ := zz_ck_some hm
        refine va_iast hx hb hK hP hD hS 8 0 (wR_8 y a z1) rfl c12 dX11_pays_52 (fun H locs hP hD hS => ?_)
        obtain ⟨z13, hP, hD, hm⟩ := zz_up (w := wR y a) (wR_w8 y a z1 x1 x2) hP hD hm
        refine lv_iload_n hx hb dX11_pays_53 rfl (lv_at hl 0 rfl) ?_
        exact zz_iret hx hb hr hlocks (zz_some2 hm) hP hK hD hS dX11_pays_54
      · replace hm := zz_pos c9 hm
        refine lv_bipush (v := (-2 : Int32)) hx hb dX11_pays_36 (by decide) ?_
        exact zz_iret hx hb hr hlocks (zz_some2 hm) hP hK hD hS dX11_pays_38
    · replace hm := zz_pos c7 hm
      have j := J24 z1 hm
      rw [hG] at j
      exact j H locs ls hP hD hS (lv_sub hl [] rfl)
def mX11_priced (x1 : Int32) (z : zz_M) : Option (Int32 × zz_M) := zz_nm (zz_sF z 19 (0 : Int32)) (fun z1 => zz_b1 (mX11_isChange x1 z1) (fun r2 => if r2 = (0 : Int32) then (some ((-1 : Int32), z1)) else (zz_nm ((4 : Int32) * x1) (fun n5 => zz_nm (zz_sF z1 18 (0 : Int32)) (fun z6 => zz_ck (zz_in n5 32) (zz_b2 (mX11_tell ((z6.1 5 n5.toNatClampNeg).toInt64) z6) (fun r8 z10 => zz_ck (zz_in (n5 + (1 : Int32)) 32) (zz_b2 (mX11_tell ((z10.1 5 (n5 + (1 : Int32)).toNatClampNeg).toInt64) z10) (fun r12 z14 => zz_ck (zz_in (n5 + (2 : Int32)) 32) (zz_b2 (mX11_tell ((z14.1 5 (n5 + (2 : Int32)).toNatClampNeg).toInt64) z14) (fun r16 z18 => zz_b1 (mX11_worth x1 z18) (fun r19 => zz_b2 (mX11_tell r19 z18) (fun r21 z23 => zz_ck (zz_in (n5 + (1 : Int32)) 32) (zz_b1 (mX11_likeBits (z23.1 5 (n5 + (1 : Int32)).toNatClampNeg) z23) (fun r25 => zz_b1 (mX11_countBits r25) (fun r27 => zz_b2 (mX11_tell r27.toInt64 z23) (fun r29 z31 => zz_ck (zz_in (n5 + (1 : Int32)) 32) (zz_ck (zz_in (n5 + (3 : Int32)) 32) (zz_b1 (mX11_priceOf (z31.1 5 (n5 + (1 : Int32)).toNatClampNeg) (z31.1 5 (n5 + (3 : Int32)).toNatClampNeg) z31) (fun r34 => some (r34, z31)))))))))))))))))))))
theorem nX11_priced_X11 : ∀ w ∈ wsX110, w ∈ wsX11_priced := fun _ h => List.mem_cons_of_mem _ (List.mem_append_right _ (h))
theorem zdX11_priced : yX11_priced.cls = RX11 ∧ yX11_priced.cls ≠ "java/lang/invoke/MethodHandle" ∧ yX11_priced.cls ≠ "java/lang/invoke/VarHandle" ∧ (parseMethodDescriptor yX11_priced.desc).map (fun d => d.parameters.length) = some 1 := by decide +kernel
set_option maxHeartbeats 4000000 in
set_option maxRecDepth 100000 in
theorem zX11_priced (l : Launch) (D : va_G) (y : Nat → ClassId) (a : Nat → Nat) (sz : Nat) (x1 : Int32) (z : zz_M) {r : Int32} {zt : zz_M} (hm : mX11_priced x1 z = some (r, zt)) : Met l yX11_priced wsX11_priced { frames := 3, cells := 0, slots := 0, locals := 67 } (zz_Pc D y (wR y a z) sz [.ref (a 0), .int x1]) (zz_Qi D y (wR y a) (va_A (wR y a z) sz) r zt) 0 0 (va_A (wR y a z) sz) := by
  refine Met.ofW (cc := cX11_priced) (maxL := 3) (ret := (some .int)) (by decide) rfl ?_
  intro p e s m args below meth c s₁ B hml hv
  obtain ⟨rfl, hsz, hP, hK, hD0, hN, hg⟩ := hv
  have hx := B.exec
  have hb := B.bytes
  have hr := B.returns
  have hts := atoms_spec (ws := wsX11_priced) B.pre
  have hown : s.vm.findClass RX11 = some m.cls := findClass_of_methodNamed B.named
  have hlocks := B.notSynchronized
  clear B
  subst hsz
  have hD := hD0.self (sz := s.heap.size)
  generalize hAe : va_A (wR y a z) s.heap.size = A at hD hg ⊢
  have hA : ∀ q : Nat, s.heap.size ≤ q → A q := fun q h => by rw [← hAe]; exact Or.inr h
  clear hAe hD0
  have hl := lv_entry ([.ref (a 0), .int x1]) (n := 3) (Nat.le_of_ble_eq_true rfl)
  rw [lg_entry_eq]
  generalize (lg_sl ([.ref (a 0), .int x1]) ++ List.replicate (3 - (lg_sl ([.ref (a 0), .int x1])).length) Slot.unset).toArray = ls at hl ⊢
  replace hl : lv_has ls 3 [(0, .ref (a 0)), (1, .int x1)] := hl
  refine zz_go (w := wR y a) hP hD va_S.rf hl (fun G hG => ?_)
  clear hP hD hl ls
  rw [hG]
  intro H locs ls hP hD hS hl
  unfold mX11_priced at hm
  refine lv_aload_n hx hb dX11_priced_0 rfl (lv_at hl 0 rfl) ?_
  refine lv_iconst (v := (0 : Int32)) hx hb dX11_priced_1 (by decide) ?_
  refine va_put (D := D) (ci := 11) (v := .int (0 : Int32)) (ty := .int) (C := RX11) (T := TX11) (N := 35) hx hb hts nX11_priced_X11 tyX11 tyX11_ok nmX11 hown hK hP hD hS 0 (wR_0 y a z) rfl 19 (by decide) (hts (.fieldLink RX11 97 "WorksDeskModel" "thrown" "I") (List.mem_of_getElem? (i := 1) rfl)) (fun _ h9 => h9) rfl (tyX11_ok 19 (by decide)) rfl rfl (Nat.le_of_ble_eq_true rfl) dX11_priced_2 (fun H locs hP hD hS => ?_)
  obtain ⟨z1, hP, hD, hm⟩ := zz_up (w := wR y a) (wR_f19 y a z (0 : Int32)) hP hD hm
  refine lv_aload_n hx hb dX11_priced_5 rfl (lv_at hl 0 rfl) ?_
  refine lv_iload_n hx hb dX11_priced_6 rfl (lv_at hl 1 rfl) ?_
  obtain ⟨r2, h3, hm⟩ := zz_b1_some hm
  refine zz_calli (zz_runV (w := wR y a) (As := [.int x1]) (rest := []) ⟨hx, hb, hml, hown, hts⟩ (zX11_isChange l D y a H.size x1 z1 h3) (cwV 1 hts gX11_priced_X11_isChange rfl rfl rfl zdX11_isChange ⟨Nat.le_of_ble_eq_true rfl, Nat.le_of_ble_eq_true rfl⟩) hK hN hg hP hD hS hA 0 (wR_0 y a z1) rfl rfl hl.1 rfl (Nat.le_of_ble_eq_true rfl) dX11_priced_7 ⟨Nat.le_of_ble_eq_true rfl, Nat.le_of_ble_eq_true rfl⟩) hD hS hA (fun H locs hP hD hS => ?_)
  refine lv_if_ne (tgt := 15) hx hb dX11_priced_10 (by decide) (fun c4 => ?_) (fun c4 => ?_)
  · replace hm := zz_neg c4 hm
    refine lv_iconst (v := (4 : Int32)) hx hb dX11_priced_15 (by decide) ?_
    refine lv_iload_n hx hb dX11_priced_16 rfl (lv_at hl 1 rfl) ?_
    refine lv_imul hx hb dX11_priced_17 ?_
    refine lv_topi (fun n5 en5 => ?_)
    replace hm := zz_nm_some en5 hm
    refine lv_istore_n (lv' := [(2, .int n5), (0, .ref (a 0)), (1, .int x1)]) hx hb dX11_priced_18 rfl hl (by decide) rfl (fun ls hl => ?_)
    refine lv_aload_n hx hb dX11_priced_19 rfl (lv_at hl 1 rfl) ?_
    refine lv_iconst (v := (0 : Int32)) hx hb dX11_priced_20 (by decide) ?_
    refine va_put (D := D) (ci := 11) (v := .int (0 : Int32)) (ty := .int) (C := RX11) (T := TX11) (N := 35) hx hb hts nX11_priced_X11 tyX11 tyX11_ok nmX11 hown hK hP hD hS 0 (wR_0 y a z1) rfl 18 (by decide) (hts (.fieldLink RX11 100 "WorksDeskModel" "rowMany" "I") (List.mem_of_getElem? (i := 2) rfl)) (fun _ h9 => h9) rfl (tyX11_ok 18 (by decide)) rfl rfl (Nat.le_of_ble_eq_true rfl) dX11_priced_21 (fun H locs hP hD hS => ?_)
    obtain ⟨z6, hP, hD, hm⟩ := zz_up (w := wR y a) (wR_f18 y a z1 (0 : Int32)) hP hD hm
    refine lv_aload_n hx hb dX11_priced_24 rfl (lv_at hl 1 rfl) ?_
    refine lv_aload_n hx hb dX11_priced_25 rfl (lv_at hl 1 rfl) ?_
    refine va_get (D := D) (ci := 11) (v := .ref (a 5)) (C := RX11) (T := TX11) (N := 35) hx hb hts nX11_priced_X11 hown hK hP 0 (wR_0 y a z6) rfl 5 (by decide) (hts (.fieldLink RX11 22 "WorksDeskModel" "changes" "[I") (List.mem_of_getElem? (i := 3) rfl)) (fun _ h9 => h9) rfl dX11_priced_26 ?_
    refine lv_iload_n hx hb dX11_priced_29 rfl (lv_at hl 0 rfl) ?_
    obtain ⟨c7, hm⟩ := zz_ck_some hm
    refine va_iald hx hb hK hP 5 0 (wR_5 y a z6) rfl c7 dX11_priced_30 ?_
    refine lv_i2l hx hb dX11_priced_31 rfl ?_
    obtain ⟨r8, z10, h9, hm⟩ := zz_b2_some hm
    refine zz_callv (zz_runV (w := wR y a) (As := [.long ((z6.1 5 n5.toNatClampNeg).toInt64)]) (rest := []) ⟨hx, hb, hml, hown, hts⟩ (zX11_tell l D y a H.size ((z6.1 5 n5.toNatClampNeg).toInt64) z6 h9) (cwV 1 hts gX11_priced_X11_tell rfl rfl rfl zdX11_tell ⟨Nat.le_of_ble_eq_true rfl, Nat.le_of_ble_eq_true rfl⟩) hK hN hg hP hD hS hA 0 (wR_0 y a z6) rfl rfl hl.1 rfl (Nat.le_of_ble_eq_true rfl) dX11_priced_32 ⟨Nat.le_of_ble_eq_true rfl, Nat.le_of_ble_eq_true rfl⟩) hD hS hA (fun H locs hP hD hS => ?_)
    refine lv_aload_n hx hb dX11_priced_35 rfl (lv_at hl 1 rfl) ?_
    refine lv_aload_n hx hb dX11_priced_36 rfl (lv_at hl 1 rfl) ?_
    refine va_get (D := D) (ci := 11) (v := .ref (a 5)) (C := RX11) (T := TX11) (N := 35) hx hb hts nX11_priced_X11 hown hK hP 0 (wR_0 y a z10) rfl 5 (by decide) (hts (.fieldLink RX11 22 "WorksDeskModel" "changes" "[I") (List.mem_of_getElem? (i := 3) rfl)) (fun _ h9 => h9) rfl dX11_priced_37 ?_
    refine lv_iload_n hx hb dX11_priced_40 rfl (lv_at hl 0 rfl) ?_
    refine lv_iconst (v := (1 : Int32)) hx hb dX11_priced_41 (by decide) ?_
    refine lv_iadd hx hb dX11_priced_42 ?_
    obtain ⟨c11, hm⟩ := zz_ck_some hm
    refine va_iald hx hb hK hP 5 0 (wR_5 y a z10) rfl c11 dX11_priced_43 ?_
    refine lv_i2l hx hb dX11_priced_44 rfl ?_
    obtain ⟨r12, z14, h13, hm⟩ := zz_b2_some hm
    refine zz_callv (zz_runV (w := wR y a) (As := [.long ((z10.1 5 (n5 + (1 : Int32)).toNatClampNeg).toInt64)]) (rest := []) ⟨hx, hb, hml, hown, hts⟩ (zX11_tell l D y a H.size ((z10.1 5 (n5 + (1 : Int32)).toNatClampNeg).toInt64) z10 h13) (cwV 1 hts gX11_priced_X11_tell rfl rfl rfl zdX11_tell ⟨Nat.le_of_ble_eq_true rfl, Nat.le_of_ble_eq_true rfl⟩) hK hN hg hP hD hS hA 0 (wR_0 y a z10) rfl rfl hl.1 rfl (Nat.le_of_ble_eq_true rfl) dX11_priced_45 ⟨Nat.le_of_ble_eq_true rfl, Nat.le_of_ble_eq_true rfl⟩) hD hS hA (fun H locs hP hD hS => ?_)
    refine lv_aload_n hx hb dX11_priced_48 rfl (lv_at hl 1 rfl) ?_
    refine lv_aload_n hx hb dX11_priced_49 rfl (lv_at hl 1 rfl) ?_
    refine va_get (D := D) (ci := 11) (v := .ref (a 5)) (C := RX11) (T := TX11) (N := 35) hx hb hts nX11_priced_X11 hown hK hP 0 (wR_0 y a z14) rfl 5 (by decide) (hts (.fieldLink RX11 22 "WorksDeskModel" "changes" "[I") (List.mem_of_getElem? (i := 3) rfl)) (fun _ h9 => h9) rfl dX11_priced_50 ?_
    refine lv_iload_n hx hb dX11_priced_53 rfl (lv_at hl 0 rfl) ?_
    refine lv_iconst (v := (2 : Int32)) hx hb dX11_priced_54 (by decide) ?_
    refine lv_iadd hx hb dX11_priced_55 ?_
    obtain ⟨c15, hm⟩ := zz_ck_some hm
    refine va_iald hx hb hK hP 5 0 (wR_5 y a z14) rfl c15 dX11_priced_56 ?_
    refine lv_i2l hx hb dX11_priced_57 rfl ?_
    obtain ⟨r16, z18, h17, hm⟩ := zz_b2_some hm
    refine zz_callv (zz_runV (w := wR y a) (As := [.long ((z14.1 5 (n5 + (2 : Int32)).toNatClampNeg).toInt64)]) (rest := []) ⟨hx, hb, hml, hown, hts⟩ (zX11_tell l D y a H.size ((z14.1 5 (n5 + (2 : Int32)).toNatClampNeg).toInt64) z14 h17) (cwV 1 hts gX11_priced_X11_tell rfl rfl rfl zdX11_tell ⟨Nat.le_of_ble_eq_true rfl, Nat.le_of_ble_eq_true rfl⟩) hK hN hg hP hD hS hA 0 (wR_0 y a z14) rfl rfl hl.1 rfl (Nat.le_of_ble_eq_true rfl) dX11_priced_58 ⟨Nat.le_of_ble_eq_true rfl, Nat.le_of_ble_eq_true rfl⟩) hD hS hA (fun H locs hP hD hS => ?_)
    refine lv_aload_n hx hb dX11_priced_61 rfl (lv_at hl 1 rfl) ?_
    refine lv_aload_n hx hb dX11_priced_62 rfl (lv_at hl 1 rfl) ?_
    refine lv_iload_n hx hb dX11_priced_63 rfl (lv_at hl 2 rfl) ?_
    obtain ⟨r19, h20, hm⟩ := zz_b1_some hm
    refine zz_calll (zz_runV (w := wR y a) (As := [.int x1]) (rest := [.ref (a 0)]) ⟨hx, hb, hml, hown, hts⟩ (zX11_worth l D y a H.size x1 z18 h20) (cwV 1 hts gX11_priced_X11_worth rfl rfl rfl zdX11_worth ⟨Nat.le_of_ble_eq_true rfl, Nat.le_of_ble_eq_true rfl⟩) hK hN hg hP hD hS hA 0 (wR_0 y a z18) rfl rfl hl.1 rfl (Nat.le_of_ble_eq_true rfl) dX11_priced_64 ⟨Nat.le_of_ble_eq_true rfl, Nat.le_of_ble_eq_true rfl⟩) hD hS hA (fun H locs hP hD hS => ?_)
    obtain ⟨r21, z23, h22, hm⟩ := zz_b2_some hm
    refine zz_callv (zz_runV (w := wR y a) (As := [.long r19]) (rest := []) ⟨hx, hb, hml, hown, hts⟩ (zX11_tell l D y a H.size r19 z18 h22) (cwV 1 hts gX11_priced_X11_tell rfl rfl rfl zdX11_tell ⟨Nat.le_of_ble_eq_true rfl, Nat.le_of_ble_eq_true rfl⟩) hK hN hg hP hD hS hA 0 (wR_0 y a z18) rfl rfl hl.1 rfl (Nat.le_of_ble_eq_true rfl) dX11_priced_67 ⟨Nat.le_of_ble_eq_true rfl, Nat.le_of_ble_eq_true rfl⟩) hD hS hA (fun H locs hP hD hS => ?_)
    refine lv_aload_n hx hb dX11_priced_70 rfl (lv_at hl 1 rfl) ?_
    refine lv_aload_n hx hb dX11_priced_71 rfl (lv_at hl 1 rfl) ?_
    refine lv_aload_n hx hb dX11_priced_72 rfl (lv_at hl 1 rfl) ?_
    refine va_get (D := D) (ci := 11) (v := .ref (a 5)) (C := RX11) (T := TX11) (N := 35) hx hb hts nX11_priced_X11 hown hK hP 0 (wR_0 y a z23) rfl 5 (by decide) (hts (.fieldLink RX11 22 "WorksDeskModel" "changes" "[I") (List.mem_of_getElem? (i := 3) rfl)) (fun _ h9 => h9) rfl dX11_priced_73 ?_
    refine lv_iload_n hx hb dX11_priced_76 rfl (lv_at hl 0 rfl) ?_
    refine lv_iconst (v := (1 : Int32)) hx hb dX11_priced_77 (by decide) ?_
    refine lv_iadd hx hb dX11_priced_78 ?_
    obtain ⟨c24, hm⟩ := zz_ck_some hm
    refine va_iald hx hb hK hP 5 0 (wR_5 y a z23) rfl c24 dX11_priced_79 ?_
    obtain ⟨r25, h26, hm⟩ := zz_b1_some hm
    refine zz_calli (zz_runV (w := wR y a) (As := [.int (z23.1 5 (n5 + (1 : Int32)).toNatClampNeg)]) (rest := [.ref (a 0)]) ⟨hx, hb, hml, hown, hts⟩ (zX11_likeBits l D y a H.size (z23.1 5 (n5 + (1 : Int32)).toNatClampNeg) z23 h26) (cwV 1 hts gX11_priced_X11_likeBits rfl rfl rfl zdX11_likeBits ⟨Nat.le_of_ble_eq_true rfl, Nat.le_of_ble_eq_true rfl⟩) hK hN hg hP hD hS hA 0 (wR_0 y a z23) rfl rfl hl.1 rfl (Nat.le_of_ble_eq_true rfl) dX11_priced_80 ⟨Nat.le_of_ble_eq_true rfl, Nat.le_of_ble_eq_true rfl⟩) hD hS hA (fun H locs hP hD hS => ?_)
    obtain ⟨r27, h28, hm⟩ := zz_b1_some hm
    refine zz_calli (zz_runS (w := wR y a) (As := [.int r25]) (rest := [.ref (a 0)]) ⟨hx, hb, hml, hown, hts⟩ (zX11_countBits l D y a H.size r25 z23 h28) (va_cwS 1 hts gX11_priced_X11_countBits rfl rfl rfl zdX11_countBits ⟨Nat.le_of_ble_eq_true rfl, Nat.le_of_ble_eq_true rfl⟩) hK hN hg hP hD hS hA rfl hl.1 rfl (Nat.le_of_ble_eq_true rfl) dX11_priced_83 ⟨Nat.le_of_ble_eq_true rfl, Nat.le_of_ble_eq_true rfl⟩) hD hS hA (fun H locs hP hD hS => ?_)
    refine lv_i2l hx hb dX11_priced_86 rfl ?_
    obtain ⟨r29, z31, h30, hm⟩ := zz_b2_some hm
    refine zz_callv (zz_runV (w := wR y a) (As := [.long r27.toInt64]) (rest := []) ⟨hx, hb, hml, hown, hts⟩ (zX11_tell l D y a H.size r27.toInt64 z23 h30) (cwV 1 hts gX11_priced_X11_tell rfl rfl rfl zdX11_tell ⟨Nat.le_of_ble_eq_true rfl, Nat.le_of_ble_eq_true rfl⟩) hK hN hg hP hD hS hA 0 (wR_0 y a z23) rfl rfl hl.1 rfl (Nat.le_of_ble_eq_true rfl) dX11_priced_87 ⟨Nat.le_of_ble_eq_true rfl, Nat.le_of_ble_eq_true rfl⟩) hD hS hA (fun H locs hP hD hS => ?_)
    refine lv_aload_n hx hb dX11_priced_90 rfl (lv_at hl 1 rfl) ?_
    refine lv_aload_n hx hb dX11_priced_91 rfl (lv_at hl 1 rfl) ?_
    refine va_get (D := D) (ci := 11) (v := .ref (a 5)) (C := RX11) (T := TX11) (N := 35) hx hb hts nX11_priced_X11 hown hK hP 0 (wR_0 y a z31) rfl 5 (by decide) (hts (.fieldLink RX11 22 "WorksDeskModel" "changes" "[I") (List.mem_of_getElem? (i := 3) rfl)) (fun _ h9 => h9) rfl dX11_priced_92 ?_
    refine lv_iload_n hx hb dX11_priced_95 rfl (lv_at hl 0 rfl) ?_
    refine lv_iconst (v := (1 : Int32)) hx hb dX11_priced_96 (by decide) ?_
    refine lv_iadd hx hb dX11_priced_97 ?_
    obtain ⟨c32, hm⟩ := zz_ck_some hm
    refine va_iald hx hb hK hP 5 0 (wR_5 y a z31) rfl c32 dX11_priced_98 ?_
    refine lv_aload_n hx hb dX11_priced_99 rfl (lv_at hl 1 rfl) ?_
    refine va_get (D := D) (ci := 11) (v := .ref (a 5)) (C := RX11) (T := TX11) (N := 35) hx hb hts nX11_priced_X11 hown hK hP 0 (wR_0 y a z31) rfl 5 (by decide) (hts (.fieldLink RX11 22 "WorksDeskModel" "changes" "[I") (List.mem_of_getElem? (i := 3) rfl)) (fun _ h9 => h9) rfl dX11_priced_100 ?_
    refine lv_iload_n hx hb dX11_priced_103 rfl (lv_at hl 0 rfl) ?_
    refine lv_iconst (v := (3 : Int32)) hx hb dX11_priced_104 (by decide) ?_
    refine lv_iadd hx hb dX11_priced_105 ?_
    obtain ⟨c33, hm⟩ := zz_ck_some hm
    refine va_iald hx hb hK hP 5 0 (wR_5 y a z31) rfl c33 dX11_priced_106 ?_
    obtain ⟨r34, h35, hm⟩ := zz_b1_some hm
    refine zz_calli (zz_runV (w := wR y a) (As := [.int (z31.1 5 (n5 + (1 : Int32)).toNatClampNeg), .int (z31.1 5 (n5 + (3 : Int32)).toNatClampNeg)]) (rest := []) ⟨hx, hb, hml, hown, hts⟩ (zX11_priceOf l D y a H.size (z31.1 5 (n5 + (1 : Int32)).toNatClampNeg) (z31.1 5 (n5 + (3 : Int32)).toNatClampNeg) z31 h35) (cwV 2 hts gX11_priced_X11_priceOf rfl rfl rfl zdX11_priceOf ⟨Nat.le_of_ble_eq_true rfl, Nat.le_of_ble_eq_true rfl⟩) hK hN hg hP hD hS hA 0 (wR_0 y a z31) rfl rfl hl.1 rfl (Nat.le_of_ble_eq_true rfl) dX11_priced_107 ⟨Nat.le_of_ble_eq_true rfl, Nat.le_of_ble_eq_true rfl⟩) hD hS hA (fun H locs hP hD hS => ?_)
    exact zz_iret hx hb hr hlocks (zz_some2 hm) hP hK hD hS dX11_priced_110
  · replace hm := zz_pos c4 hm
    refine lv_iconst (v := (-1 : Int32)) hx hb dX11_priced_13 (by decide) ?_
    exact zz_iret hx hb hr hlocks (zz_some2 hm) hP hK hD hS dX11_priced_14
def mX11_reaches_b19 : Nat → Int64 → Int32 → zz_M → Option (Int32 × zz_M)
  | 0, _, _, _ => none
  | n + 1, v1, v3, z => if (24 : Int32) ≤ v3 then (some ((-2 : Int32), z)) else (zz_ck (zz_in v3 24) (if (0 : Int32) ≤ (lg_cmp (z.2.1 16 v3.toNatClampNeg) v1) then (zz_nm (zz_sF z 18 (0 : Int32)) (fun z4 => zz_ck (zz_in v3 24) (zz_b2 (mX11_tell (z4.2.1 16 v3.toNatClampNeg) z4) (fun r6 z8 => some (v3, z8))))) else (zz_nm (v3 + (1 : Int32)) (fun n9 => (mX11_reaches_b19 n) v1 n9 z))))
def mX11_reaches (x1 : Int64) (z : zz_M) : Option (Int32 × zz_M) := zz_nm (zz_sF z 19 (0 : Int32)) (fun z10 => if (0 : Int32) ≤ (lg_cmp x1 (1 : Int64)) then (zz_b2 (mX11_layMonths z10) (fun r12 z14 => mX11_reaches_b19 zz_N x1 (0 : Int32) z14)) else (some ((-1 : Int32), z10)))
theorem nX11_reaches_X11 : ∀ w ∈ wsX110, w ∈ wsX11_reaches := fun _ h => List.mem_cons_of_mem _ (List.mem_append_right _ (h))
theorem zdX11_reaches : yX11_reaches.cls = RX11 ∧ yX11_reaches.cls ≠ "java/lang/invoke/MethodHandle" ∧ yX11_reaches.cls ≠ "java/lang/invoke/VarHandle" ∧ (parseMethodDescriptor yX11_reaches.desc).map (fun d => d.parameters.length) = some 1 := by decide +kernel
set_option maxHeartbeats 4000000 in
set_option maxRecDepth 100000 in
theorem zX11_reaches (l : Launch) (D : va_G) (y : Nat → ClassId) (a : Nat → Nat) (sz : Nat) (x1 : Int64) (z : zz_M) {r : Int32} {zt : zz_M} (hm : mX11_reaches x1 z = some (r, zt)) : Met l yX11_reaches wsX11_reaches { frames := 7, cells := 0, slots := 0, locals := 175 } (zz_Pc D y (wR y a z) sz [.ref (a 0), .long x1]) (zz_Qi D y (wR y a) (va_A (wR y a z) sz) r zt) 0 0 (va_A (wR y a z) sz) := by
  refine Met.ofW (cc := cX11_reaches) (maxL := 4) (ret := (some .int)) (by decide) rfl ?_
  intro p e s m args below meth c s₁ B hml hv
  obtain ⟨rfl, hsz, hP, hK, hD0, hN, hg⟩ := hv
  have hx := B.exec
  have hb := B.bytes
  have hr := B.returns
  have hts := atoms_spec (ws := wsX11_reaches) B.pre
  have hown : s.vm.findClass RX11 = some m.cls := findClass_of_methodNamed B.named
  have hlocks := B.notSynchronized
  clear B
  subst hsz
  have hD := hD0.self (sz := s.heap.size)
  generalize hAe : va_A (wR y a z) s.heap.size = A at hD hg ⊢
  have hA : ∀ q : Nat, s.heap.size ≤ q → A q := fun q h => by rw [← hAe]; exact Or.inr h
  clear hAe hD0
  have hl := lv_entry ([.ref (a 0), .long x1]) (n := 4) (Nat.le_of_ble_eq_true rfl)
  rw [lg_entry_eq]
  generalize (lg_sl ([.ref (a 0), .long x1]) ++ List.replicate (4 - (lg_sl ([.ref (a 0), .long x1])).length) Slot.unset).toArray = ls at hl ⊢
  replace hl : lv_has ls 4 [(0, .ref (a 0)), (1, .long x1)] := hl
  refine zz_go (w := wR y a) hP hD va_S.rf hl (fun G hG => ?_)
  clear hP hD hl ls
  have J19 : ∀ (n : Nat) (v1 : Int64) (v3 : Int32) (z : zz_M), mX11_reaches_b19 n v1 v3 z = some (r, zt) → G 19 [(0, .ref (a 0)), (1, .long v1), (3, .int v3)] [] z := by
    intro n
    induction n with
    | zero =>
      intro v1 v3 z hm
      exact zz_none hm
    | succ n ih =>
      intro v1 v3 z hm
      rw [mX11_reaches_b19] at hm
      rw [hG]
      intro H locs ls hP hD hS hl
      refine lv_iload_n hx hb dX11_reaches_19 rfl (lv_at hl 2 rfl) ?_
      refine lv_bipush (v := (24 : Int32)) hx hb dX11_reaches_20 (by decide) ?_
      refine lv_icmp_ge (tgt := 62) hx hb dX11_reaches_22 (by decide) (fun c1 => ?_) (fun c1 => ?_)
      · replace hm := zz_pos c1 hm
        refine lv_bipush (v := (-2 : Int32)) hx hb dX11_reaches_62 (by decide) ?_
        exact zz_iret hx hb hr hlocks (zz_some2 hm) hP hK hD hS dX11_reaches_64
      · replace hm := zz_neg c1 hm
        refine lv_aload_n hx hb dX11_reaches_25 rfl (lv_at hl 0 rfl) ?_
        refine va_get (D := D) (ci := 11) (v := .ref (a 16)) (C := RX11) (T := TX11) (N := 35) hx hb hts nX11_reaches_X11 hown hK hP 0 (wR_0 y a z) rfl 28 (by decide) (hts (.fieldLink RX11 57 "WorksDeskModel" "total" "[J") (List.mem_of_getElem? (i := 2) rfl)) (fun _ h9 => h9) rfl dX11_reaches_26 ?_
        refine lv_iload_n hx hb dX11_reaches_29 rfl (lv_at hl 2 rfl) ?_
        obtain ⟨c2, hm⟩ := zz_ck_some hm
        refine va_lald hx hb hK hP 16 1 (wR_16 y a z) rfl c2 dX11_reaches_30 ?_
        refine lv_lload_n hx hb dX11_reaches_31 rfl (lv_at hl 1 rfl) ?_
        refine W.lcmp hx hb dX11_reaches_32 ?_
        refine lv_if_ge (tgt := 39) hx hb dX11_reaches_33 (by decide) (fun c3 => ?_) (fun c3 => ?_)
        · replace hm := zz_pos c3 hm
          refine lv_aload_n hx hb dX11_reaches_39 rfl (lv_at hl 0 rfl) ?_
          refine lv_iconst (v := (0 : Int32)) hx hb dX11_reaches_40 (by decide) ?_
          refine va_put (D := D) (ci := 11) (v := .int (0 : Int32)) (ty := .int) (C := RX11) (T := TX11) (N := 35) hx hb hts nX11_reaches_X11 tyX11 tyX11_ok nmX11 hown hK hP hD hS 0 (wR_0 y a z) rfl 18 (by decide) (hts (.fieldLink RX11 100 "WorksDeskModel" "rowMany" "I") (List.mem_of_getElem? (i := 3) rfl)) (fun _ h9 => h9) rfl (tyX11_ok 18 (by decide)) rfl rfl (Nat.le_of_ble_eq_true rfl) dX11_reaches_41 (fun H locs hP hD hS => ?_)
          obtain ⟨z4, hP, hD, hm⟩ := zz_up (w := wR y a) (wR_f18 y a z (0 : Int32)) hP hD hm
          refine lv_aload_n hx hb dX11_reaches_44 rfl (lv_at hl 0 rfl) ?_
          refine lv_aload_n hx hb dX11_reaches_45 rfl (lv_at hl 0 rfl) ?_
          refine va_get (D := D) (ci := 11) (v := .ref (a 16)) (C := RX11) (T := TX11) (N := 35) hx hb hts nX11_reaches_X11 hown hK hP 0 (wR_0 y a z4) rfl 28 (by decide) (hts (.fieldLink RX11 57 "WorksDeskModel" "total" "[J") (List.mem_of_getElem? (i := 2) rfl)) (fun _ h9 => h9) rfl dX11_reaches_46 ?_
          refine lv_iload_n hx hb dX11_reaches_49 rfl (lv_at hl 2 rfl) ?_
          obtain ⟨c5, hm⟩ := zz_ck_some hm
          refine va_lald hx hb hK hP 16 1 (wR_16 y a z4) rfl c5 dX11_reaches_50 ?_
          obtain ⟨r6, z8, h7, hm⟩ := zz_b2_some hm
          refine zz_callv (zz_runV (w := wR y a) (As := [.long (z4.2.1 16 v3.toNatClampNeg)]) (rest := []) ⟨hx, hb, hml, hown, hts⟩ (zX11_tell l D y a H.size (z4.2.1 16 v3.toNatClampNeg) z4 h7) (cwV 1 hts gX11_reaches_X11_tell rfl rfl rfl zdX11_tell ⟨Nat.le_of_ble_eq_true rfl, Nat.le_of_ble_eq_true rfl⟩) hK hN hg hP hD hS hA 0 (wR_0 y a z4) rfl rfl hl.1 rfl (Nat.le_of_ble_eq_true rfl) dX11_reaches_51 ⟨Nat.le_of_ble_eq_true rfl, Nat.le_of_ble_eq_true rfl⟩) hD hS hA (fun H locs hP hD hS => ?_)
          refine lv_iload_n hx hb dX11_reaches_54 rfl (lv_at hl 2 rfl) ?_
          exact zz_iret hx hb hr hlocks (zz_some2 hm) hP hK hD hS dX11_reaches_55
        · replace hm := zz_neg c3 hm
          refine lv_goto (tgt := 56) hx hb dX11_reaches_36 (by decide) ?_
          obtain ⟨n9, en9⟩ : ∃ q : Int32, q = v3 + (1 : Int32) := ⟨_, rfl⟩
          replace hm := zz_nm_some en9 hm
          refine lv_iinc (v := n9) (lv' := [(3, .int n9), (0, .ref (a 0)), (1, .long v1)]) hx hb dX11_reaches_56 hl (k := 2) rfl (by rw [en9]; rfl) (by decide) rfl (fun ls hl => ?_)
          refine lv_goto (tgt := 19) hx hb dX11_reaches_59 (by decide) ?_
          have j := ih v1 n9 z hm
          rw [hG] at j
          exact j H locs ls hP hD hS (lv_sub hl [1, 2, 0] rfl)
  rw [hG]
  intro H locs ls hP hD hS hl
  unfold mX11_reaches at hm
  refine lv_aload_n hx hb dX11_reaches_0 rfl (lv_at hl 0 rfl) ?_
  refine lv_iconst (v := (0 : Int32)) hx hb dX11_reaches_1 (by decide) ?_
  refine va_put (D := D) (ci := 11) (v := .int (0 : Int32)) (ty := .int) (C := RX11) (T := TX11) (N := 35) hx hb hts nX11_reaches_X11 tyX11 tyX11_ok nmX11 hown hK hP hD hS 0 (wR_0 y a z) rfl 19 (by decide) (hts (.fieldLink RX11 97 "WorksDeskModel" "thrown" "I") (List.mem_of_getElem? (i := 1) rfl)) (fun _ h9 => h9) rfl (tyX11_ok 19 (by decide)) rfl rfl (Nat.le_of_ble_eq_true rfl) dX11_reaches_2 (fun H locs hP hD hS => ?_)
  obtain ⟨z10, hP, hD, hm⟩ := zz_up (w := wR y a) (wR_f19 y a z (0 : Int32)) hP hD hm
  refine lv_lload_n hx hb dX11_reaches_5 rfl (lv_at hl 1 rfl) ?_
  refine lv_lconst (v := (1 : Int64)) hx hb dX11_reaches_6 (by decide) ?_
  refine W.lcmp hx hb dX11_reaches_7 ?_
  refine lv_if_ge (tgt := 13) hx hb dX11_reaches_8 (by decide) (fun c11 => ?_) (fun c11 => ?_)
  · replace hm := zz_pos c11 hm
    refine lv_aload_n hx hb dX11_reaches_13 rfl (lv_at hl 0 rfl) ?_
    obtain ⟨r12, z14, h13, hm⟩ := zz_b2_some hm
    refine zz_callv (zz_runV (w := wR y a) (As := []) (rest := []) ⟨hx, hb, hml, hown, hts⟩ (zX11_layMonths l D y a H.size z10 h13) (cwV 0 hts gX11_reaches_X11_layMonths rfl rfl rfl zdX11_layMonths ⟨Nat.le_of_ble_eq_true rfl, Nat.le_of_ble_eq_true rfl⟩) hK hN hg hP hD hS hA 0 (wR_0 y a z10) rfl rfl hl.1 rfl (Nat.le_of_ble_eq_true rfl) dX11_reaches_14 ⟨Nat.le_of_ble_eq_true rfl, Nat.le_of_ble_eq_true rfl⟩) hD hS hA (fun H locs hP hD hS => ?_)
    refine lv_iconst (v := (0 : Int32)) hx hb dX11_reaches_17 (by decide) ?_
    refine lv_istore_n (lv' := [(3, .int (0 : Int32)), (0, .ref (a 0)), (1, .long x1)]) hx hb dX11_reaches_18 rfl hl (by decide) rfl (fun ls hl => ?_)
    have j := J19 zz_N x1 (0 : Int32) z14 hm
    rw [hG] at j
    exact j H locs ls hP hD hS (lv_sub hl [1, 2, 0] rfl)
  · replace hm := zz_neg c11 hm
    refine lv_iconst (v := (-1 : Int32)) hx hb dX11_reaches_11 (by decide) ?_
    exact zz_iret hx hb hr hlocks (zz_some2 hm) hP hK hD hS dX11_reaches_12
def mX11_recovered_b11 : Nat → Int32 → zz_M → Option (Int32 × zz_M)
  | 0, _, _ => none
  | n + 1, v1, z => if (24 : Int32) ≤ v1 then (some ((-2 : Int32), z)) else (zz_ck (zz_in v1 24) (zz_b1 (mX11_advancedNow z) (fun r3 => if (lg_cmp (z.2.1 13 v1.toNatClampNeg) r3) = (0 : Int32) then (some (v1, z)) else (zz_nm (v1 + (1 : Int32)) (fun n6 => (mX11_recovered_b11 n) n6 z)))))
def mX11_recovered (z : zz_M) : Option (Int32 × zz_M) := zz_nm (zz_sF z 19 (0 : Int32)) (fun z7 => zz_b2 (mX11_layMonths z7) (fun r8 z10 => mX11_recovered_b11 zz_N (0 : Int32) z10))
theorem nX11_recovered_X11 : ∀ w ∈ wsX110, w ∈ wsX11_recovered := fun _ h => List.mem_cons_of_mem _ (List.mem_append_right _ (h))
theorem zdX11_recovered : yX11_recovered.cls = RX11 ∧ yX11_recovered.cls ≠ "java/lang/invoke/MethodHandle" ∧ yX11_recovered.cls ≠ "java/lang/invoke/VarHandle" ∧ (parseMethodDescriptor yX11_recovered.desc).map (fun d => d.parameters.length) = some 0 := by decide +kernel
set_option maxHeartbeats 4000000 in
set_option maxRecDepth 100000 in
theorem zX11_recovered (l : Launch) (D : va_G) (y : Nat → ClassId) (a : Nat → Nat) (sz : Nat) (z : zz_M) {r : Int32} {zt : zz_M} (hm : mX11_recovered z = some (r, zt)) : Met l yX11_recovered wsX11_recovered { frames := 7, cells := 0, slots := 0, locals := 175 } (zz_Pc D y (wR y a z) sz [.ref (a 0)]) (zz_Qi D y (wR y a) (va_A (wR y a z) sz) r zt) 0 0 (va_A (wR y a z) sz) := by
  refine Met.ofW (cc := cX11_recovered) (maxL := 2) (ret := (some .int)) (by decide) rfl ?_
  intro p e s m args below meth c s₁ B hml hv
  obtain ⟨rfl, hsz, hP, hK, hD0, hN, hg⟩ := hv
  have hx := B.exec
  have hb := B.bytes
  have hr := B.returns
  have hts := atoms_spec (ws := wsX11_recovered) B.pre
  have hown : s.vm.findClass RX11 = some m.cls := findClass_of_methodNamed B.named
  have hlocks := B.notSynchronized
  clear B
  subst hsz
  have hD := hD0.self (sz := s.heap.size)
  generalize hAe : va_A (wR y a z) s.heap.size = A at hD hg ⊢
  have hA : ∀ q : Nat, s.heap.size ≤ q → A q := fun q h => by rw [← hAe]; exact Or.inr h
  clear hAe hD0
  have hl := lv_entry ([.ref (a 0)]) (n := 2) (Nat.le_of_ble_eq_true rfl)
  rw [lg_entry_eq]
  generalize (lg_sl ([.ref (a 0)]) ++ List.replicate (2 - (lg_sl ([.ref (a 0)])).length) Slot.unset).toArray = ls at hl ⊢
  replace hl : lv_has ls 2 [(0, .ref (a 0))] := hl
  refine zz_go (w := wR y a) hP hD va_S.rf hl (fun G hG => ?_)
  clear hP hD hl ls
  have J11 : ∀ (n : Nat) (v1 : Int32) (z : zz_M), mX11_recovered_b11 n v1 z = some (r, zt) → G 11 [(0, .ref (a 0)), (1, .int v1)] [] z := by
    intro n
    induction n with
    | zero =>
      intro v1 z hm
      exact zz_none hm
    | succ n ih =>
      intro v1 z hm
      rw [mX11_recovered_b11] at hm
      rw [hG]
      intro H locs ls hP hD hS hl
      refine lv_iload_n hx hb dX11_recovered_11 rfl (lv_at hl 1 rfl) ?_
      refine lv_bipush (v := (24 : Int32)) hx hb dX11_recovered_12 (by decide) ?_
      refine lv_icmp_ge (tgt := 39) hx hb dX11_recovered_14 (by decide) (fun c1 => ?_) (fun c1 => ?_)
      · replace hm := zz_pos c1 hm
        refine lv_bipush (v := (-2 : Int32)) hx hb dX11_recovered_39 (by decide) ?_
        exact zz_iret hx hb hr hlocks (zz_some2 hm) hP hK hD hS dX11_recovered_41
      · replace hm := zz_neg c1 hm
        refine lv_aload_n hx hb dX11_recovered_17 rfl (lv_at hl 0 rfl) ?_
        refine va_get (D := D) (ci := 11) (v := .ref (a 13)) (C := RX11) (T := TX11) (N := 35) hx hb hts nX11_recovered_X11 hown hK hP 0 (wR_0 y a z) rfl 25 (by decide) (hts (.fieldLink RX11 48 "WorksDeskModel" "recovered" "[J") (List.mem_of_getElem? (i := 2) rfl)) (fun _ h9 => h9) rfl dX11_recovered_18 ?_
        refine lv_iload_n hx hb dX11_recovered_21 rfl (lv_at hl 1 rfl) ?_
        obtain ⟨c2, hm⟩ := zz_ck_some hm
        refine va_lald hx hb hK hP 13 1 (wR_13 y a z) rfl c2 dX11_recovered_22 ?_
        refine lv_aload_n hx hb dX11_recovered_23 rfl (lv_at hl 0 rfl) ?_
        obtain ⟨r3, h4, hm⟩ := zz_b1_some hm
        refine zz_calll (zz_runV (w := wR y a) (As := []) (rest := [.long (z.2.1 13 v1.toNatClampNeg)]) ⟨hx, hb, hml, hown, hts⟩ (zX11_advancedNow l D y a H.size z h4) (cwV 0 hts gX11_recovered_X11_advancedNow rfl rfl rfl zdX11_advancedNow ⟨Nat.le_of_ble_eq_true rfl, Nat.le_of_ble_eq_true rfl⟩) hK hN hg hP hD hS hA 0 (wR_0 y a z) rfl rfl hl.1 rfl (Nat.le_of_ble_eq_true rfl) dX11_recovered_24 ⟨Nat.le_of_ble_eq_true rfl, Nat.le_of_ble_eq_true rfl⟩) hD hS hA (fun H locs hP hD hS => ?_)
        refine W.lcmp hx hb dX11_recovered_27 ?_
        refine lv_if_ne (tgt := 33) hx hb dX11_recovered_28 (by decide) (fun c5 => ?_) (fun c5 => ?_)
        · replace hm := zz_neg c5 hm
          obtain ⟨n6, en6⟩ : ∃ q : Int32, q = v1 + (1 : Int32) := ⟨_, rfl⟩
          replace hm := zz_nm_some en6 hm
          refine lv_iinc (v := n6) (lv' := [(1, .int n6), (0, .ref (a 0))]) hx hb dX11_recovered_33 hl (k := 1) rfl (by rw [en6]; rfl) (by decide) rfl (fun ls hl => ?_)
          refine lv_goto (tgt := 11) hx hb dX11_recovered_36 (by decide) ?_
          have j := ih n6 z hm
          rw [hG] at j
          exact j H locs ls hP hD hS (lv_sub hl [1, 0] rfl)
        · replace hm := zz_pos c5 hm
          refine lv_iload_n hx hb dX11_recovered_31 rfl (lv_at hl 1 rfl) ?_
          exact zz_iret hx hb hr hlocks (zz_some2 hm) hP hK hD hS dX11_recovered_32
  rw [hG]
  intro H locs ls hP hD hS hl
  unfold mX11_recovered at hm
  refine lv_aload_n hx hb dX11_recovered_0 rfl (lv_at hl 0 rfl) ?_
  refine lv_iconst (v := (0 : Int32)) hx hb dX11_recovered_1 (by decide) ?_
  refine va_put (D := D) (ci := 11) (v := .int (0 : Int32)) (ty := .int) (C := RX11) (T := TX11) (N := 35) hx hb hts nX11_recovered_X11 tyX11 tyX11_ok nmX11 hown hK hP hD hS 0 (wR_0 y a z) rfl 19 (by decide) (hts (.fieldLink RX11 97 "WorksDeskModel" "thrown" "I") (List.mem_of_getElem? (i := 1) rfl)) (fun _ h9 => h9) rfl (tyX11_ok 19 (by decide)) rfl rfl (Nat.le_of_ble_eq_true rfl) dX11_recovered_2 (fun H locs hP hD hS => ?_)
  obtain ⟨z7, hP, hD, hm⟩ := zz_up (w := wR y a) (wR_f19 y a z (0 : Int32)) hP hD hm
  refine lv_aload_n hx hb dX11_recovered_5 rfl (lv_at hl 0 rfl) ?_
  obtain ⟨r8, z10, h9, hm⟩ := zz_b2_some hm
  refine zz_callv (zz_runV (w := wR y a) (As := []) (rest := []) ⟨hx, hb, hml, hown, hts⟩ (zX11_layMonths l D y a H.size z7 h9) (cwV 0 hts gX11_recovered_X11_layMonths rfl rfl rfl zdX11_layMonths ⟨Nat.le_of_ble_eq_true rfl, Nat.le_of_ble_eq_true rfl⟩) hK hN hg hP hD hS hA 0 (wR_0 y a z7) rfl rfl hl.1 rfl (Nat.le_of_ble_eq_true rfl) dX11_recovered_6 ⟨Nat.le_of_ble_eq_true rfl, Nat.le_of_ble_eq_true rfl⟩) hD hS hA (fun H locs hP hD hS => ?_)
  refine lv_iconst (v := (0 : Int32)) hx hb dX11_recovered_9 (by decide) ?_
  refine lv_istore_n (lv' := [(1, .int (0 : Int32)), (0, .ref (a 0))]) hx hb dX11_recovered_10 rfl hl (by decide) rfl (fun ls hl => ?_)
  have j := J11 zz_N (0 : Int32) z10 hm
  rw [hG] at j
  exact j H locs ls hP hD hS (lv_sub hl [1, 0] rfl)
def mX11_rises (x1 : Int32) (x2 : Int32) (z : zz_M) : Option (Int32 × zz_M) := zz_nm (zz_sF z 19 (0 : Int32)) (fun z1 => zz_b1 (mX11_isIndex x1 x2) (fun r2 => if r2 = (0 : Int32) then (some ((-1 : Int32), z1)) else (zz_ck (zz_in x1 24) (zz_nm (z1.1 7 x1.toNatClampNeg) (fun n6 => zz_b2 (mX11_layAside z1) (fun r7 z9 => zz_ck (zz_in (23 : Int32) 24) (zz_nm (z9.2.1 12 (23 : Int32).toNatClampNeg) (fun n11 => zz_ck (zz_in x1 24) (zz_nm (zz_wI z9 7 x1 x2) (fun z13 => zz_b2 (mX11_layMonths z13) (fun r14 z16 => zz_ck (zz_in x1 24) (zz_nm (zz_wI z16 7 x1 n6) (fun z18 => zz_nm (zz_sF z18 18 (0 : Int32)) (fun z19 => zz_ck (zz_in (23 : Int32) 24) (zz_b2 (mX11_tell ((z19.2.1 16 (23 : Int32).toNatClampNeg) - (z19.2.2.2 33)) z19) (fun r21 z23 => zz_ck (zz_in (23 : Int32) 24) (zz_b2 (mX11_tell ((z23.2.1 12 (23 : Int32).toNatClampNeg) - n11) z23) (fun r25 z27 => some ((0 : Int32), z27)))))))))))))))))))
theorem nX11_rises_X11 : ∀ w ∈ wsX110, w ∈ wsX11_rises := fun _ h => List.mem_cons_of_mem _ (List.mem_append_right _ (h))
theorem zdX11_rises : yX11_rises.cls = RX11 ∧ yX11_rises.cls ≠ "java/lang/invoke/MethodHandle" ∧ yX11_rises.cls ≠ "java/lang/invoke/VarHandle" ∧ (parseMethodDescriptor yX11_rises.desc).map (fun d => d.parameters.length) = some 2 := by decide +kernel
set_option maxHeartbeats 4000000 in
set_option maxRecDepth 100000 in
theorem zX11_rises (l : Launch) (D : va_G) (y : Nat → ClassId) (a : Nat → Nat) (sz : Nat) (x1 : Int32) (x2 : Int32) (z : zz_M) {r : Int32} {zt : zz_M} (hm : mX11_rises x1 x2 z = some (r, zt)) : Met l yX11_rises wsX11_rises { frames := 8, cells := 0, slots := 0, locals := 196 } (zz_Pc D y (wR y a z) sz [.ref (a 0), .int x1, .int x2]) (zz_Qi D y (wR y a) (va_A (wR y a z) sz) r zt) 0 0 (va_A (wR y a z) sz) := by
  refine Met.ofW (cc := cX11_rises) (maxL := 6) (ret := (some .int)) (by decide) rfl ?_
  intro p e s m args below meth c s₁ B hml hv
  obtain ⟨rfl, hsz, hP, hK, hD0, hN, hg⟩ := hv
  have hx := B.exec
  have hb := B.bytes
  have hr := B.returns
  have hts := atoms_spec (ws := wsX11_rises) B.pre
  have hown : s.vm.findClass RX11 = some m.cls := findClass_of_methodNamed B.named
  have hlocks := B.notSynchronized
  clear B
  subst hsz
  have hD := hD0.self (sz := s.heap.size)
  generalize hAe : va_A (wR y a z) s.heap.size = A at hD hg ⊢
  have hA : ∀ q : Nat, s.heap.size ≤ q → A q := fun q h => by rw [← hAe]; exact Or.inr h
  clear hAe hD0
  have hl := lv_entry ([.ref (a 0), .int x1, .int x2]) (n := 6) (Nat.le_of_ble_eq_true rfl)
  rw [lg_entry_eq]
  generalize (lg_sl ([.ref (a 0), .int x1, .int x2]) ++ List.replicate (6 - (lg_sl ([.ref (a 0), .int x1, .int x2])).length) Slot.unset).toArray = ls at hl ⊢
  replace hl : lv_has ls 6 [(0, .ref (a 0)), (1, .int x1), (2, .int x2)] := hl
  refine zz_go (w := wR y a) hP hD va_S.rf hl (fun G hG => ?_)
  clear hP hD hl ls
  rw [hG]
  intro H locs ls hP hD hS hl
  unfold mX11_rises at hm
  refine lv_aload_n hx hb dX11_rises_0 rfl (lv_at hl 0 rfl) ?_
  refine lv_iconst (v := (0 : Int32)) hx hb dX11_rises_1 (by decide) ?_
  refine va_put (D := D) (ci := 11) (v := .int (0 : Int32)) (ty := .int) (C := RX11) (T := TX11) (N := 35) hx hb hts nX11_rises_X11 tyX11 tyX11_ok nmX11 hown hK hP hD hS 0 (wR_0 y a z) rfl 19 (by decide) (hts (.fieldLink RX11 97 "WorksDeskModel" "thrown" "I") (List.mem_of_getElem? (i := 1) rfl)) (fun _ h9 => h9) rfl (tyX11_ok 19 (by decide)) rfl rfl (Nat.le_of_ble_eq_true rfl) dX11_rises_2 (fun H locs hP hD hS => ?_)
  obtain ⟨z1, hP, hD, hm⟩ := zz_up (w := wR y a) (wR_f19 y a z (0 : Int32)) hP hD hm
  refine lv_iload_n hx hb dX11_rises_5 rfl (lv_at hl 1 rfl) ?_
  refine lv_iload_n hx hb dX11_rises_6 rfl (lv_at hl 2 rfl) ?_
  obtain ⟨r2, h3, hm⟩ := zz_b1_some hm
  refine zz_calli (zz_runS (w := wR y a) (As := [.int x1, .int x2]) (rest := []) ⟨hx, hb, hml, hown, hts⟩ (zX11_isIndex l D y a H.size x1 x2 z1 h3) (va_cwS 2 hts gX11_rises_X11_isIndex rfl rfl rfl zdX11_isIndex ⟨Nat.le_of_ble_eq_true rfl, Nat.le_of_ble_eq_true rfl⟩) hK hN hg hP hD hS hA rfl hl.1 rfl (Nat.le_of_ble_eq_true rfl) dX11_rises_7 ⟨Nat.le_of_ble_eq_true rfl, Nat.le_of_ble_eq_true rfl⟩) hD hS hA (fun H locs hP hD hS => ?_)
  refine lv_if_ne (tgt := 15) hx hb dX11_rises_10 (by decide) (fun c4 => ?_) (fun c4 => ?_)
  · replace hm := zz_neg c4 hm
    refine lv_aload_n hx hb dX11_rises_15 rfl (lv_at hl 0 rfl) ?_
    refine va_get (D := D) (ci := 11) (v := .ref (a 7)) (C := RX11) (T := TX11) (N := 35) hx hb hts nX11_rises_X11 hown hK hP 0 (wR_0 y a z1) rfl 13 (by decide) (hts (.fieldLink RX11 28 "WorksDeskModel" "index" "[I") (List.mem_of_getElem? (i := 2) rfl)) (fun _ h9 => h9) rfl dX11_rises_16 ?_
    refine lv_iload_n hx hb dX11_rises_19 rfl (lv_at hl 1 rfl) ?_
    obtain ⟨c5, hm⟩ := zz_ck_some hm
    refine va_iald hx hb hK hP 7 0 (wR_7 y a z1) rfl c5 dX11_rises_20 ?_
    refine lv_topi (fun n6 en6 => ?_)
    replace hm := zz_nm_some en6 hm
    refine lv_istore_n (lv' := [(3, .int n6), (0, .ref (a 0)), (1, .int x1), (2, .int x2)]) hx hb dX11_rises_21 rfl hl (by decide) rfl (fun ls hl => ?_)
    refine lv_aload_n hx hb dX11_rises_22 rfl (lv_at hl 1 rfl) ?_
    obtain ⟨r7, z9, h8, hm⟩ := zz_b2_some hm
    refine zz_callv (zz_runV (w := wR y a) (As := []) (rest := []) ⟨hx, hb, hml, hown, hts⟩ (zX11_layAside l D y a H.size z1 h8) (cwV 0 hts gX11_rises_X11_layAside rfl rfl rfl zdX11_layAside ⟨Nat.le_of_ble_eq_true rfl, Nat.le_of_ble_eq_true rfl⟩) hK hN hg hP hD hS hA 0 (wR_0 y a z1) rfl rfl hl.1 rfl (Nat.le_of_ble_eq_true rfl) dX11_rises_23 ⟨Nat.le_of_ble_eq_true rfl, Nat.le_of_ble_eq_true rfl⟩) hD hS hA (fun H locs hP hD hS => ?_)
    refine lv_aload_n hx hb dX11_rises_26 rfl (lv_at hl 1 rfl) ?_
    refine va_get (D := D) (ci := 11) (v := .ref (a 12)) (C := RX11) (T := TX11) (N := 35) hx hb hts nX11_rises_X11 hown hK hP 0 (wR_0 y a z9) rfl 24 (by decide) (hts (.fieldLink RX11 45 "WorksDeskModel" "adjusted" "[J") (List.mem_of_getElem? (i := 3) rfl)) (fun _ h9 => h9) rfl dX11_rises_27 ?_
    refine lv_bipush (v := (23 : Int32)) hx hb dX11_rises_30 (by decide) ?_
    obtain ⟨c10, hm⟩ := zz_ck_some hm
    refine va_lald hx hb hK hP 12 1 (wR_12 y a z9) rfl c10 dX11_rises_32 ?_
    refine lv_topl (fun n11 en11 => ?_)
    replace hm := zz_nm_some en11 hm
    refine lv_lstore (lv' := [(4, .long n11), (3, .int n6), (0, .ref (a 0)), (1, .int x1), (2, .int x2)]) hx hb dX11_rises_33 hl (by decide) rfl (fun ls hl => ?_)
    refine lv_aload_n hx hb dX11_rises_35 rfl (lv_at hl 2 rfl) ?_
    refine va_get (D := D) (ci := 11) (v := .ref (a 7)) (C := RX11) (T := TX11) (N := 35) hx hb hts nX11_rises_X11 hown hK hP 0 (wR_0 y a z9) rfl 13 (by decide) (hts (.fieldLink RX11 28 "WorksDeskModel" "index" "[I") (List.mem_of_getElem? (i := 2) rfl)) (fun _ h9 => h9) rfl dX11_rises_36 ?_
    refine lv_iload_n hx hb dX11_rises_39 rfl (lv_at hl 3 rfl) ?_
    refine lv_iload_n hx hb dX11_rises_40 rfl (lv_at hl 4 rfl) ?_
    obtain ⟨c12, hm⟩ := zz_ck_some hm
    refine va_iast hx hb hK hP hD hS 7 0 (wR_7 y a z9) rfl c12 dX11_rises_41 (fun H locs hP hD hS => ?_)
    obtain ⟨z13, hP, hD, hm⟩ := zz_up (w := wR y a) (wR_w7 y a z9 x1 x2) hP hD hm
    refine lv_aload_n hx hb dX11_rises_42 rfl (lv_at hl 2 rfl) ?_
    obtain ⟨r14, z16, h15, hm⟩ := zz_b2_some hm
    refine zz_callv (zz_runV (w := wR y a) (As := []) (rest := []) ⟨hx, hb, hml, hown, hts⟩ (zX11_layMonths l D y a H.size z13 h15) (cwV 0 hts gX11_rises_X11_layMonths rfl rfl rfl zdX11_layMonths ⟨Nat.le_of_ble_eq_true rfl, Nat.le_of_ble_eq_true rfl⟩) hK hN hg hP hD hS hA 0 (wR_0 y a z13) rfl rfl hl.1 rfl (Nat.le_of_ble_eq_true rfl) dX11_rises_43 ⟨Nat.le_of_ble_eq_true rfl, Nat.le_of_ble_eq_true rfl⟩) hD hS hA (fun H locs hP hD hS => ?_)
    refine lv_aload_n hx hb dX11_rises_46 rfl (lv_at hl 2 rfl) ?_
    refine va_get (D := D) (ci := 11) (v := .ref (a 7)) (C := RX11) (T := TX11) (N := 35) hx hb hts nX11_rises_X11 hown hK hP 0 (wR_0 y a z16) rfl 13 (by decide) (hts (.fieldLink RX11 28 "WorksDeskModel" "index" "[I") (List.mem_of_getElem? (i := 2) rfl)) (fun _ h9 => h9) rfl dX11_rises_47 ?_
    refine lv_iload_n hx hb dX11_rises_50 rfl (lv_at hl 3 rfl) ?_
    refine lv_iload_n hx hb dX11_rises_51 rfl (lv_at hl 1 rfl) ?_
    obtain ⟨c17, hm⟩ := zz_ck_some hm
    refine va_iast hx hb hK hP hD hS 7 0 (wR_7 y a z16) rfl c17 dX11_rises_52 (fun H locs hP hD hS => ?_)
    obtain ⟨z18, hP, hD, hm⟩ := zz_up (w := wR y a) (wR_w7 y a z16 x1 n6) hP hD hm
    refine lv_aload_n hx hb dX11_rises_53 rfl (lv_at hl 2 rfl) ?_
    refine lv_iconst (v := (0 : Int32)) hx hb dX11_rises_54 (by decide) ?_
    refine va_put (D := D) (ci := 11) (v := .int (0 : Int32)) (ty := .int) (C := RX11) (T := TX11) (N := 35) hx hb hts nX11_rises_X11 tyX11 tyX11_ok nmX11 hown hK hP hD hS 0 (wR_0 y a z18) rfl 18 (by decide) (hts (.fieldLink RX11 100 "WorksDeskModel" "rowMany" "I") (List.mem_of_getElem? (i := 4) rfl)) (fun _ h9 => h9) rfl (tyX11_ok 18 (by decide)) rfl rfl (Nat.le_of_ble_eq_true rfl) dX11_rises_55 (fun H locs hP hD hS => ?_)
    obtain ⟨z19, hP, hD, hm⟩ := zz_up (w := wR y a) (wR_f18 y a z18 (0 : Int32)) hP hD hm
    refine lv_aload_n hx hb dX11_rises_58 rfl (lv_at hl 2 rfl) ?_
    refine lv_aload_n hx hb dX11_rises_59 rfl (lv_at hl 2 rfl) ?_
    refine va_get (D := D) (ci := 11) (v := .ref (a 16)) (C := RX11) (T := TX11) (N := 35) hx hb hts nX11_rises_X11 hown hK hP 0 (wR_0 y a z19) rfl 28 (by decide) (hts (.fieldLink RX11 57 "WorksDeskModel" "total" "[J") (List.mem_of_getElem? (i := 5) rfl)) (fun _ h9 => h9) rfl dX11_rises_60 ?_
    refine lv_bipush (v := (23 : Int32)) hx hb dX11_rises_63 (by decide) ?_
    obtain ⟨c20, hm⟩ := zz_ck_some hm
    refine va_lald hx hb hK hP 16 1 (wR_16 y a z19) rfl c20 dX11_rises_65 ?_
    refine lv_aload_n hx hb dX11_rises_66 rfl (lv_at hl 2 rfl) ?_
    refine va_get (D := D) (ci := 11) (v := .long (z19.2.2.2 33)) (C := RX11) (T := TX11) (N := 35) hx hb hts nX11_rises_X11 hown hK hP 0 (wR_0 y a z19) rfl 33 (by decide) (hts (.fieldLink RX11 342 "WorksDeskModel" "totalAside" "J") (List.mem_of_getElem? (i := 6) rfl)) (fun _ h9 => h9) rfl dX11_rises_67 ?_
    refine lv_lsub hx hb dX11_rises_70 ?_
    obtain ⟨r21, z23, h22, hm⟩ := zz_b2_some hm
    refine zz_callv (zz_runV (w := wR y a) (As := [.long ((z19.2.1 16 (23 : Int32).toNatClampNeg) - (z19.2.2.2 33))]) (rest := []) ⟨hx, hb, hml, hown, hts⟩ (zX11_tell l D y a H.size ((z19.2.1 16 (23 : Int32).toNatClampNeg) - (z19.2.2.2 33)) z19 h22) (cwV 1 hts gX11_rises_X11_tell rfl rfl rfl zdX11_tell ⟨Nat.le_of_ble_eq_true rfl, Nat.le_of_ble_eq_true rfl⟩) hK hN hg hP hD hS hA 0 (wR_0 y a z19) rfl rfl hl.1 rfl (Nat.le_of_ble_eq_true rfl) dX11_rises_71 ⟨Nat.le_of_ble_eq_true rfl, Nat.le_of_ble_eq_true rfl⟩) hD hS hA (fun H locs hP hD hS => ?_)
    refine lv_aload_n hx hb dX11_rises_74 rfl (lv_at hl 2 rfl) ?_
    refine lv_aload_n hx hb dX11_rises_75 rfl (lv_at hl 2 rfl) ?_
    refine va_get (D := D) (ci := 11) (v := .ref (a 12)) (C := RX11) (T := TX11) (N := 35) hx hb hts nX11_rises_X11 hown hK hP 0 (wR_0 y a z23) rfl 24 (by decide) (hts (.fieldLink RX11 45 "WorksDeskModel" "adjusted" "[J") (List.mem_of_getElem? (i := 3) rfl)) (fun _ h9 => h9) rfl dX11_rises_76 ?_
    refine lv_bipush (v := (23 : Int32)) hx hb dX11_rises_79 (by decide) ?_
    obtain ⟨c24, hm⟩ := zz_ck_some hm
    refine va_lald hx hb hK hP 12 1 (wR_12 y a z23) rfl c24 dX11_rises_81 ?_
    refine lv_lload hx hb dX11_rises_82 (lv_at hl 0 rfl) ?_
    refine lv_lsub hx hb dX11_rises_84 ?_
    obtain ⟨r25, z27, h26, hm⟩ := zz_b2_some hm
    refine zz_callv (zz_runV (w := wR y a) (As := [.long ((z23.2.1 12 (23 : Int32).toNatClampNeg) - n11)]) (rest := []) ⟨hx, hb, hml, hown, hts⟩ (zX11_tell l D y a H.size ((z23.2.1 12 (23 : Int32).toNatClampNeg) - n11) z23 h26) (cwV 1 hts gX11_rises_X11_tell rfl rfl rfl zdX11_tell ⟨Nat.le_of_ble_eq_true rfl, Nat.le_of_ble_eq_true rfl⟩) hK hN hg hP hD hS hA 0 (wR_0 y a z23) rfl rfl hl.1 rfl (Nat.le_of_ble_eq_true rfl) dX11_rises_85 ⟨Nat.le_of_ble_eq_true rfl, Nat.le_of_ble_eq_true rfl⟩) hD hS hA (fun H locs hP hD hS => ?_)
    refine lv_iconst (v := (0 : Int32)) hx hb dX11_rises_88 (by decide) ?_
    exact zz_iret hx hb hr hlocks (zz_some2 hm) hP hK hD hS dX11_rises_89
  · replace hm := zz_pos c4 hm
    refine lv_iconst (v := (-1 : Int32)) hx hb dX11_rises_13 (by decide) ?_
    exact zz_iret hx hb hr hlocks (zz_some2 hm) hP hK hD hS dX11_rises_14
