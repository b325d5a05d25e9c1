def mX11_ends_b166 (v1 : Int32) (v2 : Int32) (v4 : Int32) (t0 : Int32) (z : zz_M) : Option (Int32 × zz_M) := if (0 : Int32) < t0 then (zz_nm (zz_sF z 18 (0 : Int32)) (fun z2 => zz_b2 (mX11_tell t0.toInt64 z2) (fun r3 z5 => zz_b1 (mX11_quantity v1 z5) (fun r6 => zz_ck (¬ t0 = (0 : Int32)) (some (v2 + ((((r6 - v4) + t0) - (1 : Int32)) / t0), z5)))))) else (some ((-3 : Int32), z))
def mX11_ends_b126 (v1 : Int32) (v2 : Int32) (v3 : Int32) (z : zz_M) : Option (Int32 × zz_M) := zz_ck (zz_in (((10 : Int32) * v2) + v1) 240) (zz_nm (z.1 3 (((10 : Int32) * v2) + v1).toNatClampNeg) (fun n10 => if (0 : Int32) ≤ v3 then (zz_ck (zz_in (((10 : Int32) * v3) + v1) 240) (zz_ck (¬ (v2 - v3) = (0 : Int32)) (mX11_ends_b166 v1 v2 n10 ((n10 - (z.1 3 (((10 : Int32) * v3) + v1).toNatClampNeg)) / (v2 - v3)) z))) else (mX11_ends_b166 v1 v2 n10 n10 z)))
def mX11_ends_b99 : Nat → Int32 → Int32 → Int32 → zz_M → Option (Int32 × zz_M)
  | 0, _, _, _, _ => none
  | n + 1, v1, v2, v3, z => if v3 < (0 : Int32) then (mX11_ends_b126 v1 v2 v3 z) else (zz_ck (zz_in (((10 : Int32) * v3) + v1) 240) (if (z.1 3 (((10 : Int32) * v3) + v1).toNatClampNeg) = (-9999 : Int32) then (zz_nm (v3 + (-1 : Int32)) (fun n17 => (mX11_ends_b99 n) v1 v2 n17 z)) else (mX11_ends_b126 v1 v2 v3 z)))
def mX11_ends_b88 (v1 : Int32) (v2 : Int32) (z : zz_M) : Option (Int32 × zz_M) := if (0 : Int32) ≤ v2 then (zz_nm (v2 - (1 : Int32)) (fun n19 => mX11_ends_b99 zz_N v1 v2 n19 z)) else (some ((-2 : Int32), z))
def mX11_ends_b61 : Nat → Int32 → Int32 → zz_M → Option (Int32 × zz_M)
  | 0, _, _, _ => none
  | n + 1, v1, v2, z => if v2 < (0 : Int32) then (mX11_ends_b88 v1 v2 z) else (zz_ck (zz_in (((10 : Int32) * v2) + v1) 240) (if (z.1 3 (((10 : Int32) * v2) + v1).toNatClampNeg) = (-9999 : Int32) then (zz_nm (v2 + (-1 : Int32)) (fun n23 => (mX11_ends_b61 n) v1 n23 z)) else (mX11_ends_b88 v1 v2 z)))
def mX11_ends_b17 : Nat → Int32 → Int32 → zz_M → Option (Int32 × zz_M)
  | 0, _, _, _ => none
  | n + 1, v1, v2, z => if (24 : Int32) ≤ v2 then (mX11_ends_b61 zz_N v1 (23 : Int32) z) else (zz_b1 (mX11_doneOf v2 v1 z) (fun r25 => zz_b1 (mX11_quantity v1 z) (fun r27 => if r27 ≤ r25 then (zz_nm (zz_sF z 18 (0 : Int32)) (fun z30 => zz_b2 (mX11_tell (0 : Int64) z30) (fun r31 z33 => some (v2, z33)))) else (zz_nm (v2 + (1 : Int32)) (fun n34 => (mX11_ends_b17 n) v1 n34 z)))))
def mX11_ends (x1 : Int32) (z : zz_M) : Option (Int32 × zz_M) := zz_nm (zz_sF z 19 (0 : Int32)) (fun z35 => zz_b1 (mX11_isItem x1 z35) (fun r36 => if r36 = (0 : Int32) then (some ((-1 : Int32), z35)) else (mX11_ends_b17 zz_N x1 (0 : Int32) z35)))
theorem nX11_ends_X11 : ∀ w ∈ wsX110, w ∈ wsX11_ends := fun _ h => List.mem_cons_of_mem _ (List.mem_append_right _ (h))
theorem zdX11_ends : yX11_ends.cls = RX11 ∧ yX11_ends.cls ≠ "java/lang/invoke/MethodHandle" ∧ yX11_ends.cls ≠ "java/lang/invoke/VarHandle" ∧ (parseMethodDescriptor yX11_ends.desc).map (fun d => d.parameters.length) = some 1 := by decide +kernel
set_option maxHeartbeats 4000000 in
set_option maxRecDepth 100000 in
theorem zX11_ends (l : Launch) (D : va_G) (y : Nat → ClassId) (a : Nat → Nat) (sz : Nat) (x1 : Int32) (z : zz_M) {r : Int32} {zt : zz_M} (hm : mX11_ends x1 z = some (r, zt)) : Met l yX11_ends wsX11_ends { frames := 2, cells := 0, slots := 0, locals := 46 } (zz_Pc D y (wR y a z) sz [.ref (a 0), .int x1]) (zz_Qi D y (wR y a) (va_A (wR y a z) sz) r zt) 0 0 (va_A (wR y a z) sz) := by
  refine Met.ofW (cc := cX11_ends) (maxL := 6) (ret := (some .int)) (by decide) rfl ?_
  intro p e s m args below meth c s₁ B hml hv
  obtain ⟨rfl, hsz, hP, hK, hD0, hN, hg⟩ := hv
  have hx := B.exec
  have hb := B.bytes
  have hr := B.returns
  have hts := atoms_spec (ws := wsX11_ends) B.pre
  have hown : s.vm.findClass RX11 = some m.cls := findClass_of_methodNamed B.named
  have hlocks := B.notSynchronized
  clear B
  subst hsz
  have hD := hD0.self (sz := s.heap.size)
  generalize hAe : va_A (wR y a z) s.heap.size = A at hD hg ⊢
  have hA : ∀ q : Nat, s.heap.size ≤ q → A q := fun q h => by rw [← hAe]; exact Or.inr h
  clear hAe hD0
  have hl := lv_entry ([.ref (a 0), .int x1]) (n := 6) (Nat.le_of_ble_eq_true rfl)
  rw [lg_entry_eq]
  generalize (lg_sl ([.ref (a 0), .int x1]) ++ List.replicate (6 - (lg_sl ([.ref (a 0), .int x1])).length) Slot.unset).toArray = ls at hl ⊢
  replace hl : lv_has ls 6 [(0, .ref (a 0)), (1, .int x1)] := hl
  refine zz_go (w := wR y a) hP hD va_S.rf hl (fun G hG => ?_)
  clear hP hD hl ls
  have J166 : ∀ (v1 : Int32) (v2 : Int32) (v4 : Int32) (t0 : Int32) (z : zz_M), mX11_ends_b166 v1 v2 v4 t0 z = some (r, zt) → G 166 [(0, .ref (a 0)), (1, .int v1), (2, .int v2), (4, .int v4)] [.int t0] z := by
    intro v1 v2 v4 t0 z hm
    rw [mX11_ends_b166] at hm
    rw [hG]
    intro H locs ls hP hD hS hl
    refine lv_istore (lv' := [(5, .int t0), (0, .ref (a 0)), (1, .int v1), (2, .int v2), (4, .int v4)]) hx hb dX11_ends_166 hl (by decide) rfl (fun ls hl => ?_)
    refine lv_iload hx hb dX11_ends_168 (lv_at hl 0 rfl) ?_
    refine lv_if_gt (tgt := 176) hx hb dX11_ends_170 (by decide) (fun c1 => ?_) (fun c1 => ?_)
    · replace hm := zz_pos c1 hm
      refine lv_aload_n hx hb dX11_ends_176 rfl (lv_at hl 1 rfl) ?_
      refine lv_iconst (v := (0 : Int32)) hx hb dX11_ends_177 (by decide) ?_
      refine va_put (D := D) (ci := 11) (v := .int (0 : Int32)) (ty := .int) (C := RX11) (T := TX11) (N := 35) hx hb hts nX11_ends_X11 tyX11 tyX11_ok nmX11 hown hK hP hD hS 0 (wR_0 y a z) rfl 18 (by decide) (hts (.fieldLink RX11 100 "WorksDeskModel" "rowMany" "I") (List.mem_of_getElem? (i := 2) rfl)) (fun _ h9 => h9) rfl (tyX11_ok 18 (by decide)) rfl rfl (Nat.le_of_ble_eq_true rfl) dX11_ends_178 (fun H locs hP hD hS => ?_)
      obtain ⟨z2, hP, hD, hm⟩ := zz_up (w := wR y a) (wR_f18 y a z (0 : Int32)) hP hD hm
      refine lv_aload_n hx hb dX11_ends_181 rfl (lv_at hl 1 rfl) ?_
      refine lv_iload hx hb dX11_ends_182 (lv_at hl 0 rfl) ?_
      refine lv_i2l hx hb dX11_ends_184 rfl ?_
      obtain ⟨r3, z5, h4, hm⟩ := zz_b2_some hm
      refine zz_callv (zz_runV (w := wR y a) (As := [.long t0.toInt64]) (rest := []) ⟨hx, hb, hml, hown, hts⟩ (zX11_tell l D y a H.size t0.toInt64 z2 h4) (cwV 1 hts gX11_ends_X11_tell rfl rfl rfl zdX11_tell ⟨Nat.le_of_ble_eq_true rfl, Nat.le_of_ble_eq_true rfl⟩) hK hN hg hP hD hS hA 0 (wR_0 y a z2) rfl rfl hl.1 rfl (Nat.le_of_ble_eq_true rfl) dX11_ends_185 ⟨Nat.le_of_ble_eq_true rfl, Nat.le_of_ble_eq_true rfl⟩) hD hS hA (fun H locs hP hD hS => ?_)
      refine lv_iload_n hx hb dX11_ends_188 rfl (lv_at hl 3 rfl) ?_
      refine lv_aload_n hx hb dX11_ends_189 rfl (lv_at hl 1 rfl) ?_
      refine lv_iload_n hx hb dX11_ends_190 rfl (lv_at hl 2 rfl) ?_
      obtain ⟨r6, h7, hm⟩ := zz_b1_some hm
      refine zz_calli (zz_runV (w := wR y a) (As := [.int v1]) (rest := [.int v2]) ⟨hx, hb, hml, hown, hts⟩ (zX11_quantity l D y a H.size v1 z5 h7) (cwV 1 hts gX11_ends_X11_quantity rfl rfl rfl zdX11_quantity ⟨Nat.le_of_ble_eq_true rfl, Nat.le_of_ble_eq_true rfl⟩) hK hN hg hP hD hS hA 0 (wR_0 y a z5) rfl rfl hl.1 rfl (Nat.le_of_ble_eq_true rfl) dX11_ends_191 ⟨Nat.le_of_ble_eq_true rfl, Nat.le_of_ble_eq_true rfl⟩) hD hS hA (fun H locs hP hD hS => ?_)
      refine lv_iload hx hb dX11_ends_194 (lv_at hl 4 rfl) ?_
      refine lv_isub hx hb dX11_ends_196 ?_
      refine lv_iload hx hb dX11_ends_197 (lv_at hl 0 rfl) ?_
      refine lv_iadd hx hb dX11_ends_199 ?_
      refine lv_iconst (v := (1 : Int32)) hx hb dX11_ends_200 (by decide) ?_
      refine lv_isub hx hb dX11_ends_201 ?_
      refine lv_iload hx hb dX11_ends_202 (lv_at hl 0 rfl) ?_
      obtain ⟨c8, hm⟩ := zz_ck_some hm
      refine lv_idiv hx hb dX11_ends_204 c8 ?_
      refine lv_iadd hx hb dX11_ends_205 ?_
      exact zz_iret hx hb hr hlocks (zz_some2 hm) hP hK hD hS dX11_ends_206
    · replace hm := zz_neg c1 hm
      refine lv_bipush (v := (-3 : Int32)) hx hb dX11_ends_173 (by decide) ?_
      exact zz_iret hx hb hr hlocks (zz_some2 hm) hP hK hD hS dX11_ends_175
  have J126 : ∀ (v1 : Int32) (v2 : Int32) (v3 : Int32) (z : zz_M), mX11_ends_b126 v1 v2 v3 z = some (r, zt) → G 126 [(0, .ref (a 0)), (1, .int v1), (2, .int v2), (3, .int v3)] [] z := by
    intro v1 v2 v3 z hm
    rw [mX11_ends_b126] at hm
    rw [hG]
    intro H locs ls hP hD hS hl
    refine lv_aload_n hx hb dX11_ends_126 rfl (lv_at hl 0 rfl) ?_
    refine va_get (D := D) (ci := 11) (v := .ref (a 3)) (C := RX11) (T := TX11) (N := 35) hx hb hts nX11_ends_X11 hown hK hP 0 (wR_0 y a z) rfl 3 (by decide) (hts (.fieldLink RX11 16 "WorksDeskModel" "measured" "[I") (List.mem_of_getElem? (i := 3) rfl)) (fun _ h9 => h9) rfl dX11_ends_127 ?_
    refine lv_bipush (v := (10 : Int32)) hx hb dX11_ends_130 (by decide) ?_
    refine lv_iload_n hx hb dX11_ends_132 rfl (lv_at hl 2 rfl) ?_
    refine lv_imul hx hb dX11_ends_133 ?_
    refine lv_iload_n hx hb dX11_ends_134 rfl (lv_at hl 1 rfl) ?_
    refine lv_iadd hx hb dX11_ends_135 ?_
    obtain ⟨c9, hm⟩ := zz_ck_some hm
    refine va_iald hx hb hK hP 3 0 (wR_3 y a z) rfl c9 dX11_ends_136 ?_
    refine lv_topi (fun n10 en10 => ?_)
    replace hm := zz_nm_some en10 hm
    refine lv_istore (lv' := [(4, .int n10), (0, .ref (a 0)), (1, .int v1), (2, .int v2), (3, .int v3)]) hx hb dX11_ends_137 hl (by decide) rfl (fun ls hl => ?_)
    refine lv_iload_n hx hb dX11_ends_139 rfl (lv_at hl 4 rfl) ?_
    refine lv_if_ge (tgt := 148) hx hb dX11_ends_140 (by decide) (fun c11 => ?_) (fun c11 => ?_)
    · replace hm := zz_pos c11 hm
      refine lv_iload hx hb dX11_ends_148 (lv_at hl 0 rfl) ?_
      refine lv_aload_n hx hb dX11_ends_150 rfl (lv_at hl 1 rfl) ?_
      refine va_get (D := D) (ci := 11) (v := .ref (a 3)) (C := RX11) (T := TX11) (N := 35) hx hb hts nX11_ends_X11 hown hK hP 0 (wR_0 y a z) rfl 3 (by decide) (hts (.fieldLink RX11 16 "WorksDeskModel" "measured" "[I") (List.mem_of_getElem? (i := 3) rfl)) (fun _ h9 => h9) rfl dX11_ends_151 ?_
      refine lv_bipush (v := (10 : Int32)) hx hb dX11_ends_154 (by decide) ?_
      refine lv_iload_n hx hb dX11_ends_156 rfl (lv_at hl 4 rfl) ?_
      refine lv_imul hx hb dX11_ends_157 ?_
      refine lv_iload_n hx hb dX11_ends_158 rfl (lv_at hl 2 rfl) ?_
      refine lv_iadd hx hb dX11_ends_159 ?_
      obtain ⟨c12, hm⟩ := zz_ck_some hm
      refine va_iald hx hb hK hP 3 0 (wR_3 y a z) rfl c12 dX11_ends_160 ?_
      refine lv_isub hx hb dX11_ends_161 ?_
      refine lv_iload_n hx hb dX11_ends_162 rfl (lv_at hl 3 rfl) ?_
      refine lv_iload_n hx hb dX11_ends_163 rfl (lv_at hl 4 rfl) ?_
      refine lv_isub hx hb dX11_ends_164 ?_
      obtain ⟨c13, hm⟩ := zz_ck_some hm
      refine lv_idiv hx hb dX11_ends_165 c13 ?_
      have j := J166 v1 v2 n10 ((n10 - (z.1 3 (((10 : Int32) * v3) + v1).toNatClampNeg)) / (v2 - v3)) z hm
      rw [hG] at j
      exact j H locs ls hP hD hS (lv_sub hl [1, 2, 3, 0] rfl)
    · replace hm := zz_neg c11 hm
      refine lv_iload hx hb dX11_ends_143 (lv_at hl 0 rfl) ?_
      refine lv_goto (tgt := 166) hx hb dX11_ends_145 (by decide) ?_
      have j := J166 v1 v2 n10 n10 z hm
      rw [hG] at j
      exact j H locs ls hP hD hS (lv_sub hl [1, 2, 3, 0] rfl)
  have J99 : ∀ (n : Nat) (v1 : Int32) (v2 : Int32) (v3 : Int32) (z : zz_M), mX11_ends_b99 n v1 v2 v3 z = some (r, zt) → G 99 [(0, .ref (a 0)), (1, .int v1), (2, .int v2), (3, .int v3)] [] z := by
    intro n
    induction n with
    | zero =>
      intro v1 v2 v3 z hm
      exact zz_none hm
    | succ n ih =>
      intro v1 v2 v3 z hm
      rw [mX11_ends_b99] at hm
      rw [hG]
      intro H locs ls hP hD hS hl
      refine lv_iload_n hx hb dX11_ends_99 rfl (lv_at hl 3 rfl) ?_
      refine lv_if_lt (tgt := 126) hx hb dX11_ends_100 (by decide) (fun c14 => ?_) (fun c14 => ?_)
      · replace hm := zz_pos c14 hm
        have j := J126 v1 v2 v3 z hm
        rw [hG] at j
        exact j H locs ls hP hD hS (lv_sub hl [0, 1, 2, 3] rfl)
      · replace hm := zz_neg c14 hm
        refine lv_aload_n hx hb dX11_ends_103 rfl (lv_at hl 0 rfl) ?_
        refine va_get (D := D) (ci := 11) (v := .ref (a 3)) (C := RX11) (T := TX11) (N := 35) hx hb hts nX11_ends_X11 hown hK hP 0 (wR_0 y a z) rfl 3 (by decide) (hts (.fieldLink RX11 16 "WorksDeskModel" "measured" "[I") (List.mem_of_getElem? (i := 3) rfl)) (fun _ h9 => h9) rfl dX11_ends_104 ?_
        refine lv_bipush (v := (10 : Int32)) hx hb dX11_ends_107 (by decide) ?_
        refine lv_iload_n hx hb dX11_ends_109 rfl (lv_at hl 3 rfl) ?_
        refine lv_imul hx hb dX11_ends_110 ?_
        refine lv_iload_n hx hb dX11_ends_111 rfl (lv_at hl 1 rfl) ?_
        refine lv_iadd hx hb dX11_ends_112 ?_
        obtain ⟨c15, hm⟩ := zz_ck_some hm
        refine va_iald hx hb hK hP 3 0 (wR_3 y a z) rfl c15 dX11_ends_113 ?_
        refine lv_sipush (v := (-9999 : Int32)) hx hb dX11_ends_114 (by decide) ?_
        refine lv_icmp_ne (tgt := 126) hx hb dX11_ends_117 (by decide) (fun c16 => ?_) (fun c16 => ?_)
        · replace hm := zz_neg c16 hm
          have j := J126 v1 v2 v3 z hm
          rw [hG] at j
          exact j H locs ls hP hD hS (lv_sub hl [0, 1, 2, 3] rfl)
        · replace hm := zz_pos c16 hm
          obtain ⟨n17, en17⟩ : ∃ q : Int32, q = v3 + (-1 : Int32) := ⟨_, rfl⟩
          replace hm := zz_nm_some en17 hm
          refine lv_iinc (v := n17) (lv' := [(3, .int n17), (0, .ref (a 0)), (1, .int v1), (2, .int v2)]) hx hb dX11_ends_120 hl (k := 3) rfl (by rw [en17]; rfl) (by decide) rfl (fun ls hl => ?_)
          refine lv_goto (tgt := 99) hx hb dX11_ends_123 (by decide) ?_
          have j := ih v1 v2 n17 z hm
          rw [hG] at j
          exact j H locs ls hP hD hS (lv_sub hl [1, 2, 3, 0] rfl)
  have J88 : ∀ (v1 : Int32) (v2 : Int32) (z : zz_M), mX11_ends_b88 v1 v2 z = some (r, zt) → G 88 [(0, .ref (a 0)), (1, .int v1), (2, .int v2)] [] z := by
    intro v1 v2 z hm
    rw [mX11_ends_b88] at hm
    rw [hG]
    intro H locs ls hP hD hS hl
    refine lv_iload_n hx hb dX11_ends_88 rfl (lv_at hl 2 rfl) ?_
    refine lv_if_ge (tgt := 95) hx hb dX11_ends_89 (by decide) (fun c18 => ?_) (fun c18 => ?_)
    · replace hm := zz_pos c18 hm
      refine lv_iload_n hx hb dX11_ends_95 rfl (lv_at hl 2 rfl) ?_
      refine lv_iconst (v := (1 : Int32)) hx hb dX11_ends_96 (by decide) ?_
      refine lv_isub hx hb dX11_ends_97 ?_
      refine lv_topi (fun n19 en19 => ?_)
      replace hm := zz_nm_some en19 hm
      refine lv_istore_n (lv' := [(3, .int n19), (0, .ref (a 0)), (1, .int v1), (2, .int v2)]) hx hb dX11_ends_98 rfl hl (by decide) rfl (fun ls hl => ?_)
      have j := J99 zz_N v1 v2 n19 z hm
      rw [hG] at j
      exact j H locs ls hP hD hS (lv_sub hl [1, 2, 3, 0] rfl)
    · replace hm := zz_neg c18 hm
      refine lv_bipush (v := (-2 : Int32)) hx hb dX11_ends_92 (by decide) ?_
      exact zz_iret hx hb hr hlocks (zz_some2 hm) hP hK hD hS dX11_ends_94
  have J61 : ∀ (n : Nat) (v1 : Int32) (v2 : Int32) (z : zz_M), mX11_ends_b61 n v1 v2 z = some (r, zt) → G 61 [(0, .ref (a 0)), (1, .int v1), (2, .int v2)] [] z := by
    intro n
    induction n with
    | zero =>
      intro v1 v2 z hm
      exact zz_none hm
    | succ n ih =>
      intro v1 v2 z hm
      rw [mX11_ends_b61] at hm
      rw [hG]
      intro H locs ls hP hD hS hl
      refine lv_iload_n hx hb dX11_ends_61 rfl (lv_at hl 2 rfl) ?_
      refine lv_if_lt (tgt := 88) hx hb dX11_ends_62 (by decide) (fun c20 => ?_) (fun c20 => ?_)
      · replace hm := zz_pos c20 hm
        have j := J88 v1 v2 z hm
        rw [hG] at j
        exact j H locs ls hP hD hS (lv_sub hl [0, 1, 2] rfl)
      · replace hm := zz_neg c20 hm
        refine lv_aload_n hx hb dX11_ends_65 rfl (lv_at hl 0 rfl) ?_
        refine va_get (D := D) (ci := 11) (v := .ref (a 3)) (C := RX11) (T := TX11) (N := 35) hx hb hts nX11_ends_X11 hown hK hP 0 (wR_0 y a z) rfl 3 (by decide) (hts (.fieldLink RX11 16 "WorksDeskModel" "measured" "[I") (List.mem_of_getElem? (i := 3) rfl)) (fun _ h9 => h9) rfl dX11_ends_66 ?_
        refine lv_bipush (v := (10 : Int32)) hx hb dX11_ends_69 (by decide) ?_
        refine lv_iload_n hx hb dX11_ends_71 rfl (lv_at hl 2 rfl) ?_
        refine lv_imul hx hb dX11_ends_72 ?_
        refine lv_iload_n hx hb dX11_ends_73 rfl (lv_at hl 1 rfl) ?_
        refine lv_iadd hx hb dX11_ends_74 ?_
        obtain ⟨c21, hm⟩ := zz_ck_some hm
        refine va_iald hx hb hK hP 3 0 (wR_3 y a z) rfl c21 dX11_ends_75 ?_
        refine lv_sipush (v := (-9999 : Int32)) hx hb dX11_ends_76 (by decide) ?_
        refine lv_icmp_ne (tgt := 88) hx hb dX11_ends_79 (by decide) (fun c22 => ?_) (fun c22 => ?_)
        · replace hm := zz_neg c22 hm
          have j := J88 v1 v2 z hm
          rw [hG] at j
          exact j H locs ls hP hD hS (lv_sub hl [0, 1, 2] rfl)
        · replace hm := zz_pos c22 hm
          obtain ⟨n23, en23⟩ : ∃ q : Int32, q = v2 + (-1 : Int32) := ⟨_, rfl⟩
          replace hm := zz_nm_some en23 hm
          refine lv_iinc (v := n23) (lv' := [(2, .int n23), (0, .ref (a 0)), (1, .int v1)]) hx hb dX11_ends_82 hl (k := 2) rfl (by rw [en23]; rfl) (by decide) rfl (fun ls hl => ?_)
          refine lv_goto (tgt := 61) hx hb dX11_ends_85 (by decide) ?_
          have j := ih v1 n23 z hm
          rw [hG] at j
          exact j H locs ls hP hD hS (lv_sub hl [1, 2, 0] rfl)
  have J17 : ∀ (n : Nat) (v1 : Int32) (v2 : Int32) (z : zz_M), mX11_ends_b17 n v1 v2 z = some (r, zt) → G 17 [(0, .ref (a 0)), (1, .int v1), (2, .int v2)] [] z := by
    intro n
    induction n with
    | zero =>
      intro v1 v2 z hm
      exact zz_none hm
    | succ n ih =>
      intro v1 v2 z hm
      rw [mX11_ends_b17] at hm
      rw [hG]
      intro H locs ls hP hD hS hl
      refine lv_iload_n hx hb dX11_ends_17 rfl (lv_at hl 2 rfl) ?_
      refine lv_bipush (v := (24 : Int32)) hx hb dX11_ends_18 (by decide) ?_
      refine lv_icmp_ge (tgt := 58) hx hb dX11_ends_20 (by decide) (fun c24 => ?_) (fun c24 => ?_)
      · replace hm := zz_pos c24 hm
        refine lv_bipush (v := (23 : Int32)) hx hb dX11_ends_58 (by decide) ?_
        refine lv_istore_n (lv' := [(2, .int (23 : Int32)), (0, .ref (a 0)), (1, .int v1)]) hx hb dX11_ends_60 rfl hl (by decide) rfl (fun ls hl => ?_)
        have j := J61 zz_N v1 (23 : Int32) z hm
        rw [hG] at j
        exact j H locs ls hP hD hS (lv_sub hl [1, 2, 0] rfl)
      · replace hm := zz_neg c24 hm
        refine lv_aload_n hx hb dX11_ends_23 rfl (lv_at hl 0 rfl) ?_
        refine lv_iload_n hx hb dX11_ends_24 rfl (lv_at hl 2 rfl) ?_
        refine lv_iload_n hx hb dX11_ends_25 rfl (lv_at hl 1 rfl) ?_
        obtain ⟨r25, h26, hm⟩ := zz_b1_some hm
        refine zz_calli (zz_runV (w := wR y a) (As := [.int v2, .int v1]) (rest := []) ⟨hx, hb, hml, hown, hts⟩ (zX11_doneOf l D y a H.size v2 v1 z h26) (cwV 2 hts gX11_ends_X11_doneOf rfl rfl rfl zdX11_doneOf ⟨Nat.le_of_ble_eq_true rfl, Nat.le_of_ble_eq_true rfl⟩) hK hN hg hP hD hS hA 0 (wR_0 y a z) rfl rfl hl.1 rfl (Nat.le_of_ble_eq_true rfl) dX11_ends_26 ⟨Nat.le_of_ble_eq_true rfl, Nat.le_of_ble_eq_true rfl⟩) hD hS hA (fun H locs hP hD hS => ?_)
        refine lv_aload_n hx hb dX11_ends_29 rfl (lv_at hl 0 rfl) ?_
        refine lv_iload_n hx hb dX11_ends_30 rfl (lv_at hl 1 rfl) ?_
        obtain ⟨r27, h28, hm⟩ := zz_b1_some hm
        refine zz_calli (zz_runV (w := wR y a) (As := [.int v1]) (rest := [.int r25]) ⟨hx, hb, hml, hown, hts⟩ (zX11_quantity l D y a H.size v1 z h28) (cwV 1 hts gX11_ends_X11_quantity rfl rfl rfl zdX11_quantity ⟨Nat.le_of_ble_eq_true rfl, Nat.le_of_ble_eq_true rfl⟩) hK hN hg hP hD hS hA 0 (wR_0 y a z) rfl rfl hl.1 rfl (Nat.le_of_ble_eq_true rfl) dX11_ends_31 ⟨Nat.le_of_ble_eq_true rfl, Nat.le_of_ble_eq_true rfl⟩) hD hS hA (fun H locs hP hD hS => ?_)
        refine lv_icmp_ge (tgt := 40) hx hb dX11_ends_34 (by decide) (fun c29 => ?_) (fun c29 => ?_)
        · replace hm := zz_pos c29 hm
          refine lv_aload_n hx hb dX11_ends_40 rfl (lv_at hl 0 rfl) ?_
          refine lv_iconst (v := (0 : Int32)) hx hb dX11_ends_41 (by decide) ?_
          refine va_put (D := D) (ci := 11) (v := .int (0 : Int32)) (ty := .int) (C := RX11) (T := TX11) (N := 35) hx hb hts nX11_ends_X11 tyX11 tyX11_ok nmX11 hown hK hP hD hS 0 (wR_0 y a z) rfl 18 (by decide) (hts (.fieldLink RX11 100 "WorksDeskModel" "rowMany" "I") (List.mem_of_getElem? (i := 2) rfl)) (fun _ h9 => h9) rfl (tyX11_ok 18 (by decide)) rfl rfl (Nat.le_of_ble_eq_true rfl) dX11_ends_42 (fun H locs hP hD hS => ?_)
          obtain ⟨z30, hP, hD, hm⟩ := zz_up (w := wR y a) (wR_f18 y a z (0 : Int32)) hP hD hm
          refine lv_aload_n hx hb dX11_ends_45 rfl (lv_at hl 0 rfl) ?_
          refine lv_lconst (v := (0 : Int64)) hx hb dX11_ends_46 (by decide) ?_
          obtain ⟨r31, z33, h32, hm⟩ := zz_b2_some hm
          refine zz_callv (zz_runV (w := wR y a) (As := [.long (0 : Int64)]) (rest := []) ⟨hx, hb, hml, hown, hts⟩ (zX11_tell l D y a H.size (0 : Int64) z30 h32) (cwV 1 hts gX11_ends_X11_tell rfl rfl rfl zdX11_tell ⟨Nat.le_of_ble_eq_true rfl, Nat.le_of_ble_eq_true rfl⟩) hK hN hg hP hD hS hA 0 (wR_0 y a z30) rfl rfl hl.1 rfl (Nat.le_of_ble_eq_true rfl) dX11_ends_47 ⟨Nat.le_of_ble_eq_true rfl, Nat.le_of_ble_eq_true rfl⟩) hD hS hA (fun H locs hP hD hS => ?_)
          refine lv_iload_n hx hb dX11_ends_50 rfl (lv_at hl 2 rfl) ?_
          exact zz_iret hx hb hr hlocks (zz_some2 hm) hP hK hD hS dX11_ends_51
        · replace hm := zz_neg c29 hm
          refine lv_goto (tgt := 52) hx hb dX11_ends_37 (by decide) ?_
          obtain ⟨n34, en34⟩ : ∃ q : Int32, q = v2 + (1 : Int32) := ⟨_, rfl⟩
          replace hm := zz_nm_some en34 hm
          refine lv_iinc (v := n34) (lv' := [(2, .int n34), (0, .ref (a 0)), (1, .int v1)]) hx hb dX11_ends_52 hl (k := 2) rfl (by rw [en34]; rfl) (by decide) rfl (fun ls hl => ?_)
          refine lv_goto (tgt := 17) hx hb dX11_ends_55 (by decide) ?_
          have j := ih v1 n34 z hm
          rw [hG] at j
          exact j H locs ls hP hD hS (lv_sub hl [1, 2, 0] rfl)
  rw [hG]
  intro H locs ls hP hD hS hl
  unfold mX11_ends at hm
  refine lv_aload_n hx hb dX11_ends_0 rfl (lv_at hl 0 rfl) ?_
  refine lv_iconst (v := (0 : Int32)) hx hb dX11_ends_1 (by decide) ?_
  refine va_put (D := D) (ci := 11) (v := .int (0 : Int32)) (ty := .int) (C := RX11) (T := TX11) (N := 35) hx hb hts nX11_ends_X11 tyX11 tyX11_ok nmX11 hown hK hP hD hS 0 (wR_0 y a z) rfl 19 (by decide) (hts (.fieldLink RX11 97 "WorksDeskModel" "thrown" "I") (List.mem_of_getElem? (i := 1) rfl)) (fun _ h9 => h9) rfl (tyX11_ok 19 (by decide)) rfl rfl (Nat.le_of_ble_eq_true rfl) dX11_ends_2 (fun H locs hP hD hS => ?_)
  obtain ⟨z35, hP, hD, hm⟩ := zz_up (w := wR y a) (wR_f19 y a z (0 : Int32)) hP hD hm
  refine lv_aload_n hx hb dX11_ends_5 rfl (lv_at hl 0 rfl) ?_
  refine lv_iload_n hx hb dX11_ends_6 rfl (lv_at hl 1 rfl) ?_
  obtain ⟨r36, h37, hm⟩ := zz_b1_some hm
  refine zz_calli (zz_runV (w := wR y a) (As := [.int x1]) (rest := []) ⟨hx, hb, hml, hown, hts⟩ (zX11_isItem l D y a H.size x1 z35 h37) (cwV 1 hts gX11_ends_X11_isItem rfl rfl rfl zdX11_isItem ⟨Nat.le_of_ble_eq_true rfl, Nat.le_of_ble_eq_true rfl⟩) hK hN hg hP hD hS hA 0 (wR_0 y a z35) rfl rfl hl.1 rfl (Nat.le_of_ble_eq_true rfl) dX11_ends_7 ⟨Nat.le_of_ble_eq_true rfl, Nat.le_of_ble_eq_true rfl⟩) hD hS hA (fun H locs hP hD hS => ?_)
  refine lv_if_ne (tgt := 15) hx hb dX11_ends_10 (by decide) (fun c38 => ?_) (fun c38 => ?_)
  · replace hm := zz_neg c38 hm
    refine lv_iconst (v := (0 : Int32)) hx hb dX11_ends_15 (by decide) ?_
    refine lv_istore_n (lv' := [(2, .int (0 : Int32)), (0, .ref (a 0)), (1, .int x1)]) hx hb dX11_ends_16 rfl hl (by decide) rfl (fun ls hl => ?_)
    have j := J17 zz_N x1 (0 : Int32) z35 hm
    rw [hG] at j
    exact j H locs ls hP hD hS (lv_sub hl [1, 2, 0] rfl)
  · replace hm := zz_pos c38 hm
    refine lv_iconst (v := (-1 : Int32)) hx hb dX11_ends_13 (by decide) ?_
    exact zz_iret hx hb hr hlocks (zz_some2 hm) hP hK hD hS dX11_ends_14
def mX11_layPaid_b2 : Nat → Int32 → zz_M → Option (Unit × zz_M)
  | 0, _, _ => none
  | n + 1, v1, z => if (24 : Int32) ≤ v1 then (some ((), z)) else (zz_ck (zz_in v1 24) (zz_ck (zz_in v1 24) (zz_nm (zz_wI z 19 v1 (z.1 8 v1.toNatClampNeg)) (fun z4 => zz_nm (v1 + (1 : Int32)) (fun n5 => (mX11_layPaid_b2 n) n5 z4)))))
def mX11_layPaid (z : zz_M) : Option (Unit × zz_M) := mX11_layPaid_b2 zz_N (0 : Int32) z
theorem nX11_layPaid_X11 : ∀ w ∈ wsX110, w ∈ wsX11_layPaid := fun _ h => List.mem_cons_of_mem _ (List.mem_append_right _ (h))
theorem zdX11_layPaid : yX11_layPaid.cls = RX11 ∧ yX11_layPaid.cls ≠ "java/lang/invoke/MethodHandle" ∧ yX11_layPaid.cls ≠ "java/lang/invoke/VarHandle" ∧ (parseMethodDescriptor yX11_layPaid.desc).map (fun d => d.parameters.length) = some 0 := by decide +kernel
set_option maxHeartbeats 4000000 in
set_option maxRecDepth 100000 in
theorem zX11_layPaid (l : Launch) (D : va_G) (y : Nat → ClassId) (a : Nat → Nat) (sz : Nat) (z : zz_M) {r : Unit} {zt : zz_M} (hm : mX11_layPaid z = some (r, zt)) : Met l yX11_layPaid wsX11_layPaid { frames := 0, cells := 0, slots := 0, locals := 0 } (zz_Pc D y (wR y a z) sz [.ref (a 0)]) (zz_Qv D y (wR y a) (va_A (wR y a z) sz) zt) 0 0 (va_A (wR y a z) sz) := by
  refine Met.ofW (cc := cX11_layPaid) (maxL := 2) (ret := none) (by decide) rfl ?_
  intro p e s m args below meth c s₁ B hml hv
  obtain ⟨rfl, hsz, hP, hK, hD0, hN, hg⟩ := hv
  have hx := B.exec
  have hb := B.bytes
  have hr := B.returns
  have hts := atoms_spec (ws := wsX11_layPaid) B.pre
  have hown : s.vm.findClass RX11 = some m.cls := findClass_of_methodNamed B.named
  have hlocks := B.notSynchronized
  clear B
  subst hsz
  have hD := hD0.self (sz := s.heap.size)
  generalize hAe : va_A (wR y a z) s.heap.size = A at hD hg ⊢
  have hA : ∀ q : Nat, s.heap.size ≤ q → A q := fun q h => by rw [← hAe]; exact Or.inr h
  clear hAe hD0
  have hl := lv_entry ([.ref (a 0)]) (n := 2) (Nat.le_of_ble_eq_true rfl)
  rw [lg_entry_eq]
  generalize (lg_sl ([.ref (a 0)]) ++ List.replicate (2 - (lg_sl ([.ref (a 0)])).length) Slot.unset).toArray = ls at hl ⊢
  replace hl : lv_has ls 2 [(0, .ref (a 0))] := hl
  refine zz_go (w := wR y a) hP hD va_S.rf hl (fun G hG => ?_)
  clear hP hD hl ls
  have J2 : ∀ (n : Nat) (v1 : Int32) (z : zz_M), mX11_layPaid_b2 n v1 z = some (r, zt) → G 2 [(0, .ref (a 0)), (1, .int v1)] [] z := by
    intro n
    induction n with
    | zero =>
      intro v1 z hm
      exact zz_none hm
    | succ n ih =>
      intro v1 z hm
      rw [mX11_layPaid_b2] at hm
      rw [hG]
      intro H locs ls hP hD hS hl
      refine lv_iload_n hx hb dX11_layPaid_2 rfl (lv_at hl 1 rfl) ?_
      refine lv_bipush (v := (24 : Int32)) hx hb dX11_layPaid_3 (by decide) ?_
      refine lv_icmp_ge (tgt := 26) hx hb dX11_layPaid_5 (by decide) (fun c1 => ?_) (fun c1 => ?_)
      · replace hm := zz_pos c1 hm
        exact zz_vret hx hb hr hlocks (zz_some2 hm).2 hP hK hD hS dX11_layPaid_26
      · replace hm := zz_neg c1 hm
        refine lv_aload_n hx hb dX11_layPaid_8 rfl (lv_at hl 0 rfl) ?_
        refine va_get (D := D) (ci := 11) (v := .ref (a 19)) (C := RX11) (T := TX11) (N := 35) hx hb hts nX11_layPaid_X11 hown hK hP 0 (wR_0 y a z) rfl 31 (by decide) (hts (.fieldLink RX11 66 "WorksDeskModel" "paidAside" "[I") (List.mem_of_getElem? (i := 1) rfl)) (fun _ h9 => h9) rfl dX11_layPaid_9 ?_
        refine lv_iload_n hx hb dX11_layPaid_12 rfl (lv_at hl 1 rfl) ?_
        refine lv_aload_n hx hb dX11_layPaid_13 rfl (lv_at hl 0 rfl) ?_
        refine va_get (D := D) (ci := 11) (v := .ref (a 8)) (C := RX11) (T := TX11) (N := 35) hx hb hts nX11_layPaid_X11 hown hK hP 0 (wR_0 y a z) rfl 14 (by decide) (hts (.fieldLink RX11 31 "WorksDeskModel" "paid" "[I") (List.mem_of_getElem? (i := 2) rfl)) (fun _ h9 => h9) rfl dX11_layPaid_14 ?_
        refine lv_iload_n hx hb dX11_layPaid_17 rfl (lv_at hl 1 rfl) ?_
        obtain ⟨c2, hm⟩ := zz_ck_some hm
        refine va_iald hx hb hK hP 8 0 (wR_8 y a z) rfl c2 dX11_layPaid_18 ?_
        obtain ⟨c3, hm⟩ := zz_ck_some hm
        refine va_iast hx hb hK hP hD hS 19 0 (wR_19 y a z) rfl c3 dX11_layPaid_19 (fun H locs hP hD hS => ?_)
        obtain ⟨z4, hP, hD, hm⟩ := zz_up (w := wR y a) (wR_w19 y a z v1 (z.1 8 v1.toNatClampNeg)) hP hD hm
        obtain ⟨n5, en5⟩ : ∃ q : Int32, q = v1 + (1 : Int32) := ⟨_, rfl⟩
        replace hm := zz_nm_some en5 hm
        refine lv_iinc (v := n5) (lv' := [(1, .int n5), (0, .ref (a 0))]) hx hb dX11_layPaid_20 hl (k := 1) rfl (by rw [en5]; rfl) (by decide) rfl (fun ls hl => ?_)
        refine lv_goto (tgt := 2) hx hb dX11_layPaid_23 (by decide) ?_
        have j := ih n5 z4 hm
        rw [hG] at j
        exact j H locs ls hP hD hS (lv_sub hl [1, 0] rfl)
  rw [hG]
  intro H locs ls hP hD hS hl
  unfold mX11_layPaid at hm
  refine lv_iconst (v := (0 : Int32)) hx hb dX11_layPaid_0 (by decide) ?_
  refine lv_istore_n (lv' := [(1, .int (0 : Int32)), (0, .ref (a 0))]) hx hb dX11_layPaid_1 rfl hl (by decide) rfl (fun ls hl => ?_)
  have j := J2 zz_N (0 : Int32) z hm
  rw [hG] at j
  exact j H locs ls hP hD hS (lv_sub hl [1, 0] rfl)
def mX11_paidAgain_b2 : Nat → Int32 → zz_M → Option (Unit × zz_M)
  | 0, _, _ => none
  | n + 1, v1, z => if (24 : Int32) ≤ v1 then (some ((), z)) else (zz_ck (zz_in v1 24) (zz_ck (zz_in v1 24) (zz_nm (zz_wI z 8 v1 (z.1 19 v1.toNatClampNeg)) (fun z4 => zz_nm (v1 + (1 : Int32)) (fun n5 => (mX11_paidAgain_b2 n) n5 z4)))))
def mX11_paidAgain (z : zz_M) : Option (Unit × zz_M) := mX11_paidAgain_b2 zz_N (0 : Int32) z
theorem nX11_paidAgain_X11 : ∀ w ∈ wsX110, w ∈ wsX11_paidAgain := fun _ h => List.mem_cons_of_mem _ (List.mem_append_right _ (h))
theorem zdX11_paidAgain : yX11_paidAgain.cls = RX11 ∧ yX11_paidAgain.cls ≠ "java/lang/invoke/MethodHandle" ∧ yX11_paidAgain.cls ≠ "java/lang/invoke/VarHandle" ∧ (parseMethodDescriptor yX11_paidAgain.desc).map (fun d => d.parameters.length) = some 0 := by decide +kernel
set_option maxHeartbeats 4000000 in
set_option maxRecDepth 100000 in
theorem zX11_paidAgain (l : Launch) (D : va_G) (y : Nat → ClassId) (a : Nat → Nat) (sz : Nat) (z : zz_M) {r : Unit} {zt : zz_M} (hm : mX11_paidAgain z = some (r, zt)) : Met l yX11_paidAgain wsX11_paidAgain { frames := 0, cells := 0, slots := 0, locals := 0 } (zz_Pc D y (wR y a z) sz [.ref (a 0)]) (zz_Qv D y (wR y a) (va_A (wR y a z) sz) zt) 0 0 (va_A (wR y a z) sz) := by
  refine Met.ofW (cc := cX11_paidAgain) (maxL := 2) (ret := none) (by decide) rfl ?_
  intro p e s m args below meth c s₁ B hml hv
  obtain ⟨rfl, hsz, hP, hK, hD0, hN, hg⟩ := hv
  have hx := B.exec
  have hb := B.bytes
  have hr := B.returns
  have hts := atoms_spec (ws := wsX11_paidAgain) B.pre
  have hown : s.vm.findClass RX11 = some m.cls := findClass_of_methodNamed B.named
  have hlocks := B.notSynchronized
  clear B
  subst hsz
  have hD := hD0.self (sz := s.heap.size)
  generalize hAe : va_A (wR y a z) s.heap.size = A at hD hg ⊢
  have hA : ∀ q : Nat, s.heap.size ≤ q → A q := fun q h => by rw [← hAe]; exact Or.inr h
  clear hAe hD0
  have hl := lv_entry ([.ref (a 0)]) (n := 2) (Nat.le_of_ble_eq_true rfl)
  rw [lg_entry_eq]
  generalize (lg_sl ([.ref (a 0)]) ++ List.replicate (2 - (lg_sl ([.ref (a 0)])).length) Slot.unset).toArray = ls at hl ⊢
  replace hl : lv_has ls 2 [(0, .ref (a 0))] := hl
  refine zz_go (w := wR y a) hP hD va_S.rf hl (fun G hG => ?_)
  clear hP hD hl ls
  have J2 : ∀ (n : Nat) (v1 : Int32) (z : zz_M), mX11_paidAgain_b2 n v1 z = some (r, zt) → G 2 [(0, .ref (a 0)), (1, .int v1)] [] z := by
    intro n
    induction n with
    | zero =>
      intro v1 z hm
      exact zz_none hm
    | succ n ih =>
      intro v1 z hm
      rw [mX11_paidAgain_b2] at hm
      rw [hG]
      intro H locs ls hP hD hS hl
      refine lv_iload_n hx hb dX11_paidAgain_2 rfl (lv_at hl 1 rfl) ?_
      refine lv_bipush (v := (24 : Int32)) hx hb dX11_paidAgain_3 (by decide) ?_
      refine lv_icmp_ge (tgt := 26) hx hb dX11_paidAgain_5 (by decide) (fun c1 => ?_) (fun c1 => ?_)
      · replace hm := zz_pos c1 hm
        exact zz_vret hx hb hr hlocks (zz_some2 hm).2 hP hK hD hS dX11_paidAgain_26
      · replace hm := zz_neg c1 hm
        refine lv_aload_n hx hb dX11_paidAgain_8 rfl (lv_at hl 0 rfl) ?_
        refine va_get (D := D) (ci := 11) (v := .ref (a 8)) (C := RX11) (T := TX11) (N := 35) hx hb hts nX11_paidAgain_X11 hown hK hP 0 (wR_0 y a z) rfl 14 (by decide) (hts (.fieldLink RX11 31 "WorksDeskModel" "paid" "[I") (List.mem_of_getElem? (i := 1) rfl)) (fun _ h9 => h9) rfl dX11_paidAgain_9 ?_
        refine lv_iload_n hx hb dX11_paidAgain_12 rfl (lv_at hl 1 rfl) ?_
        refine lv_aload_n hx hb dX11_paidAgain_13 rfl (lv_at hl 0 rfl) ?_
        refine va_get (D := D) (ci := 11) (v := .ref (a 19)) (C := RX11) (T := TX11) (N := 35) hx hb hts nX11_paidAgain_X11 hown hK hP 0 (wR_0 y a z) rfl 31 (by decide) (hts (.fieldLink RX11 66 "WorksDeskModel" "paidAside" "[I") (List.mem_of_getElem? (i := 2) rfl)) (fun _ h9 => h9) rfl dX11_paidAgain_14 ?_
        refine lv_iload_n hx hb dX11_paidAgain_17 rfl (lv_at hl 1 rfl) ?_
        obtain ⟨c2, hm⟩ := zz_ck_some hm
        refine va_iald hx hb hK hP 19 0 (wR_19 y a z) rfl c2 dX11_paidAgain_18 ?_
        obtain ⟨c3, hm⟩ := zz_ck_some hm
        refine va_iast hx hb hK hP hD hS 8 0 (wR_8 y a z) rfl c3 dX11_paidAgain_19 (fun H locs hP hD hS => ?_)
        obtain ⟨z4, hP, hD, hm⟩ := zz_up (w := wR y a) (wR_w8 y a z v1 (z.1 19 v1.toNatClampNeg)) hP hD hm
        obtain ⟨n5, en5⟩ : ∃ q : Int32, q = v1 + (1 : Int32) := ⟨_, rfl⟩
        replace hm := zz_nm_some en5 hm
        refine lv_iinc (v := n5) (lv' := [(1, .int n5), (0, .ref (a 0))]) hx hb dX11_paidAgain_20 hl (k := 1) rfl (by rw [en5]; rfl) (by decide) rfl (fun ls hl => ?_)
        refine lv_goto (tgt := 2) hx hb dX11_paidAgain_23 (by decide) ?_
        have j := ih n5 z4 hm
        rw [hG] at j
        exact j H locs ls hP hD hS (lv_sub hl [1, 0] rfl)
  rw [hG]
  intro H locs ls hP hD hS hl
  unfold mX11_paidAgain at hm
  refine lv_iconst (v := (0 : Int32)) hx hb dX11_paidAgain_0 (by decide) ?_
  refine lv_istore_n (lv' := [(1, .int (0 : Int32)), (0, .ref (a 0))]) hx hb dX11_paidAgain_1 rfl hl (by decide) rfl (fun ls hl => ?_)
  have j := J2 zz_N (0 : Int32) z hm
  rw [hG] at j
  exact j H locs ls hP hD hS (lv_sub hl [1, 0] rfl)
def mX11_paceOf_b35 : Nat → Int32 → zz_M → Option (Int32 × zz_M)
  | 0, _, _ => none
  | n + 1, v3, z => if (24 : Int32) ≤ v3 then (some ((-1 : Int32), z)) else (zz_ck (zz_in v3 24) (if (lg_cmp (z.2.1 17 v3.toNatClampNeg) (0 : Int64)) = (0 : Int32) then (some (v3, z)) else (zz_nm (v3 + (1 : Int32)) (fun n4 => (mX11_paceOf_b35 n) n4 z))))
def mX11_paceOf_b6 : Nat → Int32 → Int32 → Int32 → zz_M → Option (Int32 × zz_M)
  | 0, _, _, _, _ => none
  | n + 1, v1, v2, v3, z => if (24 : Int32) ≤ v3 then (zz_b2 (mX11_layOwed z) (fun r6 z8 => zz_b2 (mX11_paidAgain z8) (fun r9 z11 => mX11_paceOf_b35 zz_N v1 z11))) else (zz_ck (zz_in v3 24) (zz_nm (zz_wI z 8 v3 v2) (fun z13 => zz_nm (v3 + (1 : Int32)) (fun n14 => (mX11_paceOf_b6 n) v1 v2 n14 z13))))
def mX11_paceOf (x1 : Int32) (x2 : Int32) (z : zz_M) : Option (Int32 × zz_M) := zz_b2 (mX11_layPaid z) (fun r15 z17 => mX11_paceOf_b6 zz_N x1 x2 x1 z17)
theorem nX11_paceOf_X11 : ∀ w ∈ wsX110, w ∈ wsX11_paceOf := fun _ h => List.mem_cons_of_mem _ (List.mem_append_right _ (h))
theorem zdX11_paceOf : yX11_paceOf.cls = RX11 ∧ yX11_paceOf.cls ≠ "java/lang/invoke/MethodHandle" ∧ yX11_paceOf.cls ≠ "java/lang/invoke/VarHandle" ∧ (parseMethodDescriptor yX11_paceOf.desc).map (fun d => d.parameters.length) = some 2 := by decide +kernel
set_option maxHeartbeats 4000000 in
set_option maxRecDepth 100000 in
theorem zX11_paceOf (l : Launch) (D : va_G) (y : Nat → ClassId) (a : Nat → Nat) (sz : Nat) (x1 : Int32) (x2 : Int32) (z : zz_M) {r : Int32} {zt : zz_M} (hm : mX11_paceOf x1 x2 z = some (r, zt)) : Met l yX11_paceOf wsX11_paceOf { frames := 2, cells := 0, slots := 0, locals := 47 } (zz_Pc D y (wR y a z) sz [.ref (a 0), .int x1, .int x2]) (zz_Qi D y (wR y a) (va_A (wR y a z) sz) r zt) 0 0 (va_A (wR y a z) sz) := by
  refine Met.ofW (cc := cX11_paceOf) (maxL := 4) (ret := (some .int)) (by decide) rfl ?_
  intro p e s m args below meth c s₁ B hml hv
  obtain ⟨rfl, hsz, hP, hK, hD0, hN, hg⟩ := hv
  have hx := B.exec
  have hb := B.bytes
  have hr := B.returns
  have hts := atoms_spec (ws := wsX11_paceOf) B.pre
  have hown : s.vm.findClass RX11 = some m.cls := findClass_of_methodNamed B.named
  have hlocks := B.notSynchronized
  clear B
  subst hsz
  have hD := hD0.self (sz := s.heap.size)
  generalize hAe : va_A (wR y a z) s.heap.size = A at hD hg ⊢
  have hA : ∀ q : Nat, s.heap.size ≤ q → A q := fun q h => by rw [← hAe]; exact Or.inr h
  clear hAe hD0
  have hl := lv_entry ([.ref (a 0), .int x1, .int x2]) (n := 4) (Nat.le_of_ble_eq_true rfl)
  rw [lg_entry_eq]
  generalize (lg_sl ([.ref (a 0), .int x1, .int x2]) ++ List.replicate (4 - (lg_sl ([.ref (a 0), .int x1, .int x2])).length) Slot.unset).toArray = ls at hl ⊢
  replace hl : lv_has ls 4 [(0, .ref (a 0)), (1, .int x1), (2, .int x2)] := hl
  refine zz_go (w := wR y a) hP hD va_S.rf hl (fun G hG => ?_)
  clear hP hD hl ls
  have J35 : ∀ (n : Nat) (v3 : Int32) (z : zz_M), mX11_paceOf_b35 n v3 z = some (r, zt) → G 35 [(0, .ref (a 0)), (3, .int v3)] [] z := by
    intro n
    induction n with
    | zero =>
      intro v3 z hm
      exact zz_none hm
    | succ n ih =>
      intro v3 z hm
      rw [mX11_paceOf_b35] at hm
      rw [hG]
      intro H locs ls hP hD hS hl
      refine lv_iload_n hx hb dX11_paceOf_35 rfl (lv_at hl 1 rfl) ?_
      refine lv_bipush (v := (24 : Int32)) hx hb dX11_paceOf_36 (by decide) ?_
      refine lv_icmp_ge (tgt := 60) hx hb dX11_paceOf_38 (by decide) (fun c1 => ?_) (fun c1 => ?_)
      · replace hm := zz_pos c1 hm
        refine lv_iconst (v := (-1 : Int32)) hx hb dX11_paceOf_60 (by decide) ?_
        exact zz_iret hx hb hr hlocks (zz_some2 hm) hP hK hD hS dX11_paceOf_61
      · replace hm := zz_neg c1 hm
        refine lv_aload_n hx hb dX11_paceOf_41 rfl (lv_at hl 0 rfl) ?_
        refine va_get (D := D) (ci := 11) (v := .ref (a 17)) (C := RX11) (T := TX11) (N := 35) hx hb hts nX11_paceOf_X11 hown hK hP 0 (wR_0 y a z) rfl 29 (by decide) (hts (.fieldLink RX11 60 "WorksDeskModel" "owed" "[J") (List.mem_of_getElem? (i := 2) rfl)) (fun _ h9 => h9) rfl dX11_paceOf_42 ?_
        refine lv_iload_n hx hb dX11_paceOf_45 rfl (lv_at hl 1 rfl) ?_
        obtain ⟨c2, hm⟩ := zz_ck_some hm
        refine va_lald hx hb hK hP 17 1 (wR_17 y a z) rfl c2 dX11_paceOf_46 ?_
        refine lv_lconst (v := (0 : Int64)) hx hb dX11_paceOf_47 (by decide) ?_
        refine W.lcmp hx hb dX11_paceOf_48 ?_
        refine lv_if_ne (tgt := 54) hx hb dX11_paceOf_49 (by decide) (fun c3 => ?_) (fun c3 => ?_)
        · replace hm := zz_neg c3 hm
          obtain ⟨n4, en4⟩ : ∃ q : Int32, q = v3 + (1 : Int32) := ⟨_, rfl⟩
          replace hm := zz_nm_some en4 hm
          refine lv_iinc (v := n4) (lv' := [(3, .int n4), (0, .ref (a 0))]) hx hb dX11_paceOf_54 hl (k := 1) rfl (by rw [en4]; rfl) (by decide) rfl (fun ls hl => ?_)
          refine lv_goto (tgt := 35) hx hb dX11_paceOf_57 (by decide) ?_
          have j := ih n4 z hm
          rw [hG] at j
          exact j H locs ls hP hD hS (lv_sub hl [1, 0] rfl)
        · replace hm := zz_pos c3 hm
          refine lv_iload_n hx hb dX11_paceOf_52 rfl (lv_at hl 1 rfl) ?_
          exact zz_iret hx hb hr hlocks (zz_some2 hm) hP hK hD hS dX11_paceOf_53
  have J6 : ∀ (n : Nat) (v1 : Int32) (v2 : Int32) (v3 : Int32) (z : zz_M), mX11_paceOf_b6 n v1 v2 v3 z = some (r, zt) → G 6 [(0, .ref (a 0)), (1, .int v1), (2, .int v2), (3, .int v3)] [] z := by
    intro n
    induction n with
    | zero =>
      intro v1 v2 v3 z hm
      exact zz_none hm
    | succ n ih =>
      intro v1 v2 v3 z hm
      rw [mX11_paceOf_b6] at hm
      rw [hG]
      intro H locs ls hP hD hS hl
      refine lv_iload_n hx hb dX11_paceOf_6 rfl (lv_at hl 3 rfl) ?_
      refine lv_bipush (v := (24 : Int32)) hx hb dX11_paceOf_7 (by decide) ?_
      refine lv_icmp_ge (tgt := 25) hx hb dX11_paceOf_9 (by decide) (fun c5 => ?_) (fun c5 => ?_)
      · replace hm := zz_pos c5 hm
        refine lv_aload_n hx hb dX11_paceOf_25 rfl (lv_at hl 0 rfl) ?_
        obtain ⟨r6, z8, h7, hm⟩ := zz_b2_some hm
        refine zz_callv (zz_runV (w := wR y a) (As := []) (rest := []) ⟨hx, hb, hml, hown, hts⟩ (zX11_layOwed l D y a H.size z h7) (cwV 0 hts gX11_paceOf_X11_layOwed rfl rfl rfl zdX11_layOwed ⟨Nat.le_of_ble_eq_true rfl, Nat.le_of_ble_eq_true rfl⟩) hK hN hg hP hD hS hA 0 (wR_0 y a z) rfl rfl hl.1 rfl (Nat.le_of_ble_eq_true rfl) dX11_paceOf_26 ⟨Nat.le_of_ble_eq_true rfl, Nat.le_of_ble_eq_true rfl⟩) hD hS hA (fun H locs hP hD hS => ?_)
        refine lv_aload_n hx hb dX11_paceOf_29 rfl (lv_at hl 0 rfl) ?_
        obtain ⟨r9, z11, h10, hm⟩ := zz_b2_some hm
        refine zz_callv (zz_runV (w := wR y a) (As := []) (rest := []) ⟨hx, hb, hml, hown, hts⟩ (zX11_paidAgain l D y a H.size z8 h10) (cwV 0 hts gX11_paceOf_X11_paidAgain rfl rfl rfl zdX11_paidAgain ⟨Nat.le_of_ble_eq_true rfl, Nat.le_of_ble_eq_true rfl⟩) hK hN hg hP hD hS hA 0 (wR_0 y a z8) rfl rfl hl.1 rfl (Nat.le_of_ble_eq_true rfl) dX11_paceOf_30 ⟨Nat.le_of_ble_eq_true rfl, Nat.le_of_ble_eq_true rfl⟩) hD hS hA (fun H locs hP hD hS => ?_)
        refine lv_iload_n hx hb dX11_paceOf_33 rfl (lv_at hl 1 rfl) ?_
        refine lv_istore_n (lv' := [(3, .int v1), (0, .ref (a 0)), (1, .int v1), (2, .int v2)]) hx hb dX11_paceOf_34 rfl hl (by decide) rfl (fun ls hl => ?_)
        have j := J35 zz_N v1 z11 hm
        rw [hG] at j
        exact j H locs ls hP hD hS (lv_sub hl [1, 0] rfl)
      · replace hm := zz_neg c5 hm
        refine lv_aload_n hx hb dX11_paceOf_12 rfl (lv_at hl 0 rfl) ?_
        refine va_get (D := D) (ci := 11) (v := .ref (a 8)) (C := RX11) (T := TX11) (N := 35) hx hb hts nX11_paceOf_X11 hown hK hP 0 (wR_0 y a z) rfl 14 (by decide) (hts (.fieldLink RX11 31 "WorksDeskModel" "paid" "[I") (List.mem_of_getElem? (i := 1) rfl)) (fun _ h9 => h9) rfl dX11_paceOf_13 ?_
        refine lv_iload_n hx hb dX11_paceOf_16 rfl (lv_at hl 3 rfl) ?_
        refine lv_iload_n hx hb dX11_paceOf_17 rfl (lv_at hl 2 rfl) ?_
        obtain ⟨c12, hm⟩ := zz_ck_some hm
        refine va_iast hx hb hK hP hD hS 8 0 (wR_8 y a z) rfl c12 dX11_paceOf_18 (fun H locs hP hD hS => ?_)
        obtain ⟨z13, hP, hD, hm⟩ := zz_up (w := wR y a) (wR_w8 y a z v3 v2) hP hD hm
        obtain ⟨n14, en14⟩ : ∃ q : Int32, q = v3 + (1 : Int32) := ⟨_, rfl⟩
        replace hm := zz_nm_some en14 hm
        refine lv_iinc (v := n14) (lv' := [(3, .int n14), (0, .ref (a 0)), (1, .int v1), (2, .int v2)]) hx hb dX11_paceOf_19 hl (k := 3) rfl (by rw [en14]; rfl) (by decide) rfl (fun ls hl => ?_)
        refine lv_goto (tgt := 6) hx hb dX11_paceOf_22 (by decide) ?_
        have j := ih v1 v2 n14 z13 hm
        rw [hG] at j
        exact j H locs ls hP hD hS (lv_sub hl [1, 2, 3, 0] rfl)
  rw [hG]
  intro H locs ls hP hD hS hl
  unfold mX11_paceOf at hm
  refine lv_aload_n hx hb dX11_paceOf_0 rfl (lv_at hl 0 rfl) ?_
  obtain ⟨r15, z17, h16, hm⟩ := zz_b2_some hm
  refine zz_callv (zz_runV (w := wR y a) (As := []) (rest := []) ⟨hx, hb, hml, hown, hts⟩ (zX11_layPaid l D y a H.size z h16) (cwV 0 hts gX11_paceOf_X11_layPaid rfl rfl rfl zdX11_layPaid ⟨Nat.le_of_ble_eq_true rfl, Nat.le_of_ble_eq_true rfl⟩) hK hN hg hP hD hS hA 0 (wR_0 y a z) rfl rfl hl.1 rfl (Nat.le_of_ble_eq_true rfl) dX11_paceOf_1 ⟨Nat.le_of_ble_eq_true rfl, Nat.le_of_ble_eq_true rfl⟩) hD hS hA (fun H locs hP hD hS => ?_)
  refine lv_iload_n hx hb dX11_paceOf_4 rfl (lv_at hl 1 rfl) ?_
  refine lv_istore_n (lv' := [(3, .int x1), (0, .ref (a 0)), (1, .int x1), (2, .int x2)]) hx hb dX11_paceOf_5 rfl hl (by decide) rfl (fun ls hl => ?_)
  have j := J6 zz_N x1 x2 x1 z17 hm
  rw [hG] at j
  exact j H locs ls hP hD hS (lv_sub hl [1, 2, 3, 0] rfl)
def mX11_isPaced_b25 (t0 : Int32) (z : zz_M) : Option (Int32 × zz_M) := zz_ck (zz_bool t0) (some (t0, z))
def mX11_isPaced_b24 (z : zz_M) : Option (Int32 × zz_M) := mX11_isPaced_b25 (0 : Int32) z
def mX11_isPaced (x1 : Int32) (x2 : Int32) (x3 : Int32) (z : zz_M) : Option (Int32 × zz_M) := zz_b2 (mX11_paceOf x1 x3 z) (fun r2 z4 => if r2 = (-1 : Int32) then (mX11_isPaced_b24 z4) else (if x2 < r2 then (mX11_isPaced_b24 z4) else (mX11_isPaced_b25 (1 : Int32) z4)))
theorem zdX11_isPaced : yX11_isPaced.cls = RX11 ∧ yX11_isPaced.cls ≠ "java/lang/invoke/MethodHandle" ∧ yX11_isPaced.cls ≠ "java/lang/invoke/VarHandle" ∧ (parseMethodDescriptor yX11_isPaced.desc).map (fun d => d.parameters.length) = some 3 := by decide +kernel
set_option maxHeartbeats 4000000 in
set_option maxRecDepth 100000 in
theorem zX11_isPaced (l : Launch) (D : va_G) (y : Nat → ClassId) (a : Nat → Nat) (sz : Nat) (x1 : Int32) (x2 : Int32) (x3 : Int32) (z : zz_M) {r : Int32} {zt : zz_M} (hm : mX11_isPaced x1 x2 x3 z = some (r, zt)) : Met l yX11_isPaced wsX11_isPaced { frames := 3, cells := 0, slots := 0, locals := 70 } (zz_Pc D y (wR y a z) sz [.ref (a 0), .int x1, .int x2, .int x3]) (zz_Qi D y (wR y a) (va_A (wR y a z) sz) r zt) 0 0 (va_A (wR y a z) sz) := by
  refine Met.ofW (cc := cX11_isPaced) (maxL := 5) (ret := (some .boolean)) (by decide) rfl ?_
  intro p e s m args below meth c s₁ B hml hv
  obtain ⟨rfl, hsz, hP, hK, hD0, hN, hg⟩ := hv
  have hx := B.exec
  have hb := B.bytes
  have hr := B.returns
  have hts := atoms_spec (ws := wsX11_isPaced) B.pre
  have hown : s.vm.findClass RX11 = some m.cls := findClass_of_methodNamed B.named
  have hlocks := B.notSynchronized
  clear B
  subst hsz
  have hD := hD0.self (sz := s.heap.size)
  generalize hAe : va_A (wR y a z) s.heap.size = A at hD hg ⊢
  have hA : ∀ q : Nat, s.heap.size ≤ q → A q := fun q h => by rw [← hAe]; exact Or.inr h
  clear hAe hD0
  have hl := lv_entry ([.ref (a 0), .int x1, .int x2, .int x3]) (n := 5) (Nat.le_of_ble_eq_true rfl)
  rw [lg_entry_eq]
  generalize (lg_sl ([.ref (a 0), .int x1, .int x2, .int x3]) ++ List.replicate (5 - (lg_sl ([.ref (a 0), .int x1, .int x2, .int x3])).length) Slot.unset).toArray = ls at hl ⊢
  replace hl : lv_has ls 5 [(0, .ref (a 0)), (1, .int x1), (2, .int x2), (3, .int x3)] := hl
  refine zz_go (w := wR y a) hP hD va_S.rf hl (fun G hG => ?_)
  clear hP hD hl ls
  have J25 : ∀ (t0 : Int32) (z : zz_M), mX11_isPaced_b25 t0 z = some (r, zt) → G 25 [] [.int t0] z := by
    intro t0 z hm
    rw [mX11_isPaced_b25] at hm
    rw [hG]
    intro H locs ls hP hD hS hl
    obtain ⟨c1, hm⟩ := zz_ck_some hm
    exact zz_zret hx hb hr hlocks c1 (zz_some2 hm) hP hK hD hS dX11_isPaced_25
  have J24 : ∀ (z : zz_M), mX11_isPaced_b24 z = some (r, zt) → G 24 [] [] z := by
    intro z hm
    rw [mX11_isPaced_b24] at hm
    rw [hG]
    intro H locs ls hP hD hS hl
    refine lv_iconst (v := (0 : Int32)) hx hb dX11_isPaced_24 (by decide) ?_
    have j := J25 (0 : Int32) z hm
    rw [hG] at j
    exact j H locs ls hP hD hS (lv_sub hl [] rfl)
  rw [hG]
  intro H locs ls hP hD hS hl
  unfold mX11_isPaced at hm
  refine lv_aload_n hx hb dX11_isPaced_0 rfl (lv_at hl 0 rfl) ?_
  refine lv_iload_n hx hb dX11_isPaced_1 rfl (lv_at hl 1 rfl) ?_
  refine lv_iload_n hx hb dX11_isPaced_2 rfl (lv_at hl 3 rfl) ?_
  obtain ⟨r2, z4, h3, hm⟩ := zz_b2_some hm
  refine zz_calli (zz_runV (w := wR y a) (As := [.int x1, .int x3]) (rest := []) ⟨hx, hb, hml, hown, hts⟩ (zX11_paceOf l D y a H.size x1 x3 z h3) (cwV 2 hts gX11_isPaced_X11_paceOf rfl rfl rfl zdX11_paceOf ⟨Nat.le_of_ble_eq_true rfl, Nat.le_of_ble_eq_true rfl⟩) hK hN hg hP hD hS hA 0 (wR_0 y a z) rfl rfl hl.1 rfl (Nat.le_of_ble_eq_true rfl) dX11_isPaced_3 ⟨Nat.le_of_ble_eq_true rfl, Nat.le_of_ble_eq_true rfl⟩) hD hS hA (fun H locs hP hD hS => ?_)
  refine lv_istore (lv' := [(4, .int r2), (0, .ref (a 0)), (1, .int x1), (2, .int x2), (3, .int x3)]) hx hb dX11_isPaced_6 hl (by decide) rfl (fun ls hl => ?_)
  refine lv_iload hx hb dX11_isPaced_8 (lv_at hl 0 rfl) ?_
  refine lv_iconst (v := (-1 : Int32)) hx hb dX11_isPaced_10 (by decide) ?_
  refine lv_icmp_eq (tgt := 24) hx hb dX11_isPaced_11 (by decide) (fun c5 => ?_) (fun c5 => ?_)
  · replace hm := zz_pos c5 hm
    have j := J24 z4 hm
    rw [hG] at j
    exact j H locs ls hP hD hS (lv_sub hl [] rfl)
  · replace hm := zz_neg c5 hm
    refine lv_iload hx hb dX11_isPaced_14 (lv_at hl 0 rfl) ?_
    refine lv_iload_n hx hb dX11_isPaced_16 rfl (lv_at hl 3 rfl) ?_
    refine lv_icmp_gt (tgt := 24) hx hb dX11_isPaced_17 (by decide) (fun c6 => ?_) (fun c6 => ?_)
    · replace hm := zz_pos c6 hm
      have j := J24 z4 hm
      rw [hG] at j
      exact j H locs ls hP hD hS (lv_sub hl [] rfl)
    · replace hm := zz_neg c6 hm
      refine lv_iconst (v := (1 : Int32)) hx hb dX11_isPaced_20 (by decide) ?_
      refine lv_goto (tgt := 25) hx hb dX11_isPaced_21 (by decide) ?_
      have j := J25 (1 : Int32) z4 hm
      rw [hG] at j
      exact j H locs ls hP hD hS (lv_sub hl [] rfl)
def mX11_enough_b89 (k52 : Int32 → Int32 → Int32 → Int32 → zz_M → Option (Int32 × zz_M)) (v1 : Int32) (v2 : Int32) (v3 : Int32) (v4 : Int32) (z : zz_M) : Option (Int32 × zz_M) := k52 v1 v2 v3 v4 z
def mX11_enough_b52 : Nat → Int32 → Int32 → Int32 → Int32 → zz_M → Option (Int32 × zz_M)
  | 0, _, _, _, _, _ => none
  | n + 1, v1, v2, v3, v4, z => if v4 ≤ v3 then (zz_nm (zz_sF z 18 (0 : Int32)) (fun z2 => zz_b2 (mX11_tell v3.toInt64 z2) (fun r3 z5 => some ((0 : Int32), z5)))) else (zz_ck (¬ (2 : Int32) = (0 : Int32)) (zz_nm ((v3 + v4) / (2 : Int32)) (fun n7 => zz_b2 (mX11_isPaced v1 v2 n7 z) (fun r8 z10 => if r8 = (0 : Int32) then (zz_nm (n7 + (1 : Int32)) (fun n12 => mX11_enough_b89 (mX11_enough_b52 n) v1 v2 n12 v4 z10)) else (mX11_enough_b89 (mX11_enough_b52 n) v1 v2 v3 n7 z10)))))
def mX11_enough_b24 (z : zz_M) : Option (Int32 × zz_M) := some ((-1 : Int32), z)
def mX11_enough (x1 : Int32) (x2 : Int32) (z : zz_M) : Option (Int32 × zz_M) := zz_nm (zz_sF z 19 (0 : Int32)) (fun z13 => zz_b1 (mX11_isMonth x1) (fun r14 => if r14 = (0 : Int32) then (mX11_enough_b24 z13) else (zz_b1 (mX11_isMonth x2) (fun r17 => if r17 = (0 : Int32) then (mX11_enough_b24 z13) else (if x1 ≤ x2 then (zz_b2 (mX11_layMonths z13) (fun r21 z23 => zz_b2 (mX11_isPaced x1 x2 (999999 : Int32) z23) (fun r24 z26 => if r24 = (0 : Int32) then (some ((-2 : Int32), z26)) else (mX11_enough_b52 zz_N x1 x2 (1 : Int32) (999999 : Int32) z26)))) else (mX11_enough_b24 z13))))))
theorem nX11_enough_X11 : ∀ w ∈ wsX110, w ∈ wsX11_enough := fun _ h => List.mem_cons_of_mem _ (List.mem_append_right _ (h))
theorem zdX11_enough : yX11_enough.cls = RX11 ∧ yX11_enough.cls ≠ "java/lang/invoke/MethodHandle" ∧ yX11_enough.cls ≠ "java/lang/invoke/VarHandle" ∧ (parseMethodDescriptor yX11_enough.desc).map (fun d => d.parameters.length) = some 2 := by decide +kernel
set_option maxHeartbeats 4000000 in
set_option maxRecDepth 100000 in
theorem zX11_enough (l : Launch) (D : va_G) (y : Nat → ClassId) (a : Nat → Nat) (sz : Nat) (x1 : Int32) (x2 : Int32) (z : zz_M) {r : Int32} {zt : zz_M} (hm : mX11_enough x1 x2 z = some (r, zt)) : Met l yX11_enough wsX11_enough { frames := 7, cells := 0, slots := 0, locals := 175 } (zz_Pc D y (wR y a z) sz [.ref (a 0), .int x1, .int x2]) (zz_Qi D y (wR y a) (va_A (wR y a z) sz) r zt) 0 0 (va_A (wR y a z) sz) := by
  refine Met.ofW (cc := cX11_enough) (maxL := 6) (ret := (some .int)) (by decide) rfl ?_
  intro p e s m args below meth c s₁ B hml hv
  obtain ⟨rfl, hsz, hP, hK, hD0, hN, hg⟩ := hv
  have hx := B.exec
  have hb := B.bytes
  have hr := B.returns
  have hts := atoms_spec (ws := wsX11_enough) B.pre
  have hown : s.vm.findClass RX11 = some m.cls := findClass_of_methodNamed B.named
  have hlocks := B.notSynchronized
  clear B
  subst hsz
  have hD := hD0.self (sz := s.heap.size)
  generalize hAe : va_A (wR y a z) s.heap.size = A at hD hg ⊢
  have hA : ∀ q : Nat, s.heap.size ≤ q → A q := fun q h => by rw [← hAe]; exact Or.inr h
  clear hAe hD0
  have hl := lv_entry ([.ref (a 0), .int x1, .int x2]) (n := 6) (Nat.le_of_ble_eq_true rfl)
  rw [lg_entry_eq]
  generalize (lg_sl ([.ref (a 0), .int x1, .int x2]) ++ List.replicate (6 - (lg_sl ([.ref (a 0), .int x1, .int x2])).length) Slot.unset).toArray = ls at hl ⊢
  replace hl : lv_has ls 6 [(0, .ref (a 0)), (1, .int x1), (2, .int x2)] := hl
  refine zz_go (w := wR y a) hP hD va_S.rf hl (fun G hG => ?_)
  clear hP hD hl ls
  have J89 : ∀ (k52 : Int32 → Int32 → Int32 → Int32 → zz_M → Option (Int32 × zz_M)) (K52 : ∀ (v1 : Int32) (v2 : Int32) (v3 : Int32) (v4 : Int32) (z : zz_M), k52 v1 v2 v3 v4 z = some (r, zt) → G 52 [(0, .ref (a 0)), (1, .int v1), (2, .int v2), (3, .int v3), (4, .int v4)] [] z) (v1 : Int32) (v2 : Int32) (v3 : Int32) (v4 : Int32) (z : zz_M), mX11_enough_b89 k52 v1 v2 v3 v4 z = some (r, zt) → G 89 [(0, .ref (a 0)), (1, .int v1), (2, .int v2), (3, .int v3), (4, .int v4)] [] z := by
    intro k52 K52 v1 v2 v3 v4 z hm
    rw [mX11_enough_b89] at hm
    rw [hG]
    intro H locs ls hP hD hS hl
    refine lv_goto (tgt := 52) hx hb dX11_enough_89 (by decide) ?_
    have j := K52 v1 v2 v3 v4 z hm
    rw [hG] at j
    exact j H locs ls hP hD hS (lv_sub hl [0, 1, 2, 3, 4] rfl)
  have J52 : ∀ (n : Nat) (v1 : Int32) (v2 : Int32) (v3 : Int32) (v4 : Int32) (z : zz_M), mX11_enough_b52 n v1 v2 v3 v4 z = some (r, zt) → G 52 [(0, .ref (a 0)), (1, .int v1), (2, .int v2), (3, .int v3), (4, .int v4)] [] z := by
    intro n
    induction n with
    | zero =>
      intro v1 v2 v3 v4 z hm
      exact zz_none hm
    | succ n ih =>
      intro v1 v2 v3 v4 z hm
      rw [mX11_enough_b52] at hm
      rw [hG]
      intro H locs ls hP hD hS hl
      refine lv_iload_n hx hb dX11_enough_52 rfl (lv_at hl 3 rfl) ?_
      refine lv_iload hx hb dX11_enough_53 (lv_at hl 4 rfl) ?_
      refine lv_icmp_ge (tgt := 92) hx hb dX11_enough_55 (by decide) (fun c1 => ?_) (fun c1 => ?_)
      · replace hm := zz_pos c1 hm
        refine lv_aload_n hx hb dX11_enough_92 rfl (lv_at hl 0 rfl) ?_
        refine lv_iconst (v := (0 : Int32)) hx hb dX11_enough_93 (by decide) ?_
        refine va_put (D := D) (ci := 11) (v := .int (0 : Int32)) (ty := .int) (C := RX11) (T := TX11) (N := 35) hx hb hts nX11_enough_X11 tyX11 tyX11_ok nmX11 hown hK hP hD hS 0 (wR_0 y a z) rfl 18 (by decide) (hts (.fieldLink RX11 100 "WorksDeskModel" "rowMany" "I") (List.mem_of_getElem? (i := 3) rfl)) (fun _ h9 => h9) rfl (tyX11_ok 18 (by decide)) rfl rfl (Nat.le_of_ble_eq_true rfl) dX11_enough_94 (fun H locs hP hD hS => ?_)
        obtain ⟨z2, hP, hD, hm⟩ := zz_up (w := wR y a) (wR_f18 y a z (0 : Int32)) hP hD hm
        refine lv_aload_n hx hb dX11_enough_97 rfl (lv_at hl 0 rfl) ?_
        refine lv_iload_n hx hb dX11_enough_98 rfl (lv_at hl 3 rfl) ?_
        refine lv_i2l hx hb dX11_enough_99 rfl ?_
        obtain ⟨r3, z5, h4, hm⟩ := zz_b2_some hm
        refine zz_callv (zz_runV (w := wR y a) (As := [.long v3.toInt64]) (rest := []) ⟨hx, hb, hml, hown, hts⟩ (zX11_tell l D y a H.size v3.toInt64 z2 h4) (cwV 1 hts gX11_enough_X11_tell rfl rfl rfl zdX11_tell ⟨Nat.le_of_ble_eq_true rfl, Nat.le_of_ble_eq_true rfl⟩) hK hN hg hP hD hS hA 0 (wR_0 y a z2) rfl rfl hl.1 rfl (Nat.le_of_ble_eq_true rfl) dX11_enough_100 ⟨Nat.le_of_ble_eq_true rfl, Nat.le_of_ble_eq_true rfl⟩) hD hS hA (fun H locs hP hD hS => ?_)
        refine lv_iconst (v := (0 : Int32)) hx hb dX11_enough_103 (by decide) ?_
        exact zz_iret hx hb hr hlocks (zz_some2 hm) hP hK hD hS dX11_enough_104
      · replace hm := zz_neg c1 hm
        refine lv_iload_n hx hb dX11_enough_58 rfl (lv_at hl 3 rfl) ?_
        refine lv_iload hx hb dX11_enough_59 (lv_at hl 4 rfl) ?_
        refine lv_iadd hx hb dX11_enough_61 ?_
        refine lv_iconst (v := (2 : Int32)) hx hb dX11_enough_62 (by decide) ?_
        obtain ⟨c6, hm⟩ := zz_ck_some hm
        refine lv_idiv hx hb dX11_enough_63 c6 ?_
        refine lv_topi (fun n7 en7 => ?_)
        replace hm := zz_nm_some en7 hm
        refine lv_istore (lv' := [(5, .int n7), (0, .ref (a 0)), (1, .int v1), (2, .int v2), (3, .int v3), (4, .int v4)]) hx hb dX11_enough_64 hl (by decide) rfl (fun ls hl => ?_)
        refine lv_aload_n hx hb dX11_enough_66 rfl (lv_at hl 1 rfl) ?_
        refine lv_iload_n hx hb dX11_enough_67 rfl (lv_at hl 2 rfl) ?_
        refine lv_iload_n hx hb dX11_enough_68 rfl (lv_at hl 3 rfl) ?_
        refine lv_iload hx hb dX11_enough_69 (lv_at hl 0 rfl) ?_
        obtain ⟨r8, z10, h9, hm⟩ := zz_b2_some hm
        refine zz_calli (zz_runV (w := wR y a) (As := [.int v1, .int v2, .int n7]) (rest := []) ⟨hx, hb, hml, hown, hts⟩ (zX11_isPaced l D y a H.size v1 v2 n7 z h9) (cwV 3 hts gX11_enough_X11_isPaced rfl rfl rfl zdX11_isPaced ⟨Nat.le_of_ble_eq_true rfl, Nat.le_of_ble_eq_true rfl⟩) hK hN hg hP hD hS hA 0 (wR_0 y a z) rfl rfl hl.1 rfl (Nat.le_of_ble_eq_true rfl) dX11_enough_71 ⟨Nat.le_of_ble_eq_true rfl, Nat.le_of_ble_eq_true rfl⟩) hD hS hA (fun H locs hP hD hS => ?_)
        refine lv_if_eq (tgt := 84) hx hb dX11_enough_74 (by decide) (fun c11 => ?_) (fun c11 => ?_)
        · replace hm := zz_pos c11 hm
          refine lv_iload hx hb dX11_enough_84 (lv_at hl 0 rfl) ?_
          refine lv_iconst (v := (1 : Int32)) hx hb dX11_enough_86 (by decide) ?_
          refine lv_iadd hx hb dX11_enough_87 ?_
          refine lv_topi (fun n12 en12 => ?_)
          replace hm := zz_nm_some en12 hm
          refine lv_istore_n (lv' := [(3, .int n12), (5, .int n7), (0, .ref (a 0)), (1, .int v1), (2, .int v2), (4, .int v4)]) hx hb dX11_enough_88 rfl hl (by decide) rfl (fun ls hl => ?_)
          have j := J89 (mX11_enough_b52 n) ih v1 v2 n12 v4 z10 hm
          rw [hG] at j
          exact j H locs ls hP hD hS (lv_sub hl [2, 3, 4, 0, 5] rfl)
        · replace hm := zz_neg c11 hm
          refine lv_iload hx hb dX11_enough_77 (lv_at hl 0 rfl) ?_
          refine lv_istore (lv' := [(4, .int n7), (5, .int n7), (0, .ref (a 0)), (1, .int v1), (2, .int v2), (3, .int v3)]) hx hb dX11_enough_79 hl (by decide) rfl (fun ls hl => ?_)
          refine lv_goto (tgt := 89) hx hb dX11_enough_81 (by decide) ?_
          have j := J89 (mX11_enough_b52 n) ih v1 v2 v3 n7 z10 hm
          rw [hG] at j
          exact j H locs ls hP hD hS (lv_sub hl [2, 3, 4, 5, 0] rfl)
  have J24 : ∀ (z : zz_M), mX11_enough_b24 z = some (r, zt) → G 24 [] [] z := by
    intro z hm
    rw [mX11_enough_b24] at hm
    rw [hG]
    intro H locs ls hP hD hS hl
    refine lv_iconst (v := (-1 : Int32)) hx hb dX11_enough_24 (by decide) ?_
    exact zz_iret hx hb hr hlocks (zz_some2 hm) hP hK hD hS dX11_enough_25
  rw [hG]
  intro H locs ls hP hD hS hl
  unfold mX11_enough at hm
  refine lv_aload_n hx hb dX11_enough_0 rfl (lv_at hl 0 rfl) ?_
  refine lv_iconst (v := (0 : Int32)) hx hb dX11_enough_1 (by decide) ?_
  refine va_put (D := D) (ci := 11) (v := .int (0 : Int32)) (ty := .int) (C := RX11) (T := TX11) (N := 35) hx hb hts nX11_enough_X11 tyX11 tyX11_ok nmX11 hown hK hP hD hS 0 (wR_0 y a z) rfl 19 (by decide) (hts (.fieldLink RX11 97 "WorksDeskModel" "thrown" "I") (List.mem_of_getElem? (i := 1) rfl)) (fun _ h9 => h9) rfl (tyX11_ok 19 (by decide)) rfl rfl (Nat.le_of_ble_eq_true rfl) dX11_enough_2 (fun H locs hP hD hS => ?_)
  obtain ⟨z13, hP, hD, hm⟩ := zz_up (w := wR y a) (wR_f19 y a z (0 : Int32)) hP hD hm
  refine lv_iload_n hx hb dX11_enough_5 rfl (lv_at hl 1 rfl) ?_
  obtain ⟨r14, h15, hm⟩ := zz_b1_some hm
  refine zz_calli (zz_runS (w := wR y a) (As := [.int x1]) (rest := []) ⟨hx, hb, hml, hown, hts⟩ (zX11_isMonth l D y a H.size x1 z13 h15) (va_cwS 1 hts gX11_enough_X11_isMonth rfl rfl rfl zdX11_isMonth ⟨Nat.le_of_ble_eq_true rfl, Nat.le_of_ble_eq_true rfl⟩) hK hN hg hP hD hS hA rfl hl.1 rfl (Nat.le_of_ble_eq_true rfl) dX11_enough_6 ⟨Nat.le_of_ble_eq_true rfl, Nat.le_of_ble_eq_true rfl⟩) hD hS hA (fun H locs hP hD hS => ?_)
  refine lv_if_eq (tgt := 24) hx hb dX11_enough_9 (by decide) (fun c16 => ?_) (fun c16 => ?_)
  · replace hm := zz_pos c16 hm
    have j := J24 z13 hm
    rw [hG] at j
    exact j H locs ls hP hD hS (lv_sub hl [] rfl)
  · replace hm := zz_neg c16 hm
    refine lv_iload_n hx hb dX11_enough_12 rfl (lv_at hl 2 rfl) ?_
    obtain ⟨r17, h18, hm⟩ := zz_b1_some hm
    refine zz_calli (zz_runS (w := wR y a) (As := [.int x2]) (rest := []) ⟨hx, hb, hml, hown, hts⟩ (zX11_isMonth l D y a H.size x2 z13 h18) (va_cwS 1 hts gX11_enough_X11_isMonth rfl rfl rfl zdX11_isMonth ⟨Nat.le_of_ble_eq_true rfl, Nat.le_of_ble_eq_true rfl⟩) hK hN hg hP hD hS hA rfl hl.1 rfl (Nat.le_of_ble_eq_true rfl) dX11_enough_13 ⟨Nat.le_of_ble_eq_true rfl, Nat.le_of_ble_eq_true rfl⟩) hD hS hA (fun H locs hP hD hS => ?_)
    refine lv_if_eq (tgt := 24) hx hb dX11_enough_16 (by decide) (fun c19 => ?_) (fun c19 => ?_)
    · replace hm := zz_pos c19 hm
      have j := J24 z13 hm
      rw [hG] at j
      exact j H locs ls hP hD hS (lv_sub hl [] rfl)
    · replace hm := zz_neg c19 hm
      refine lv_iload_n hx hb dX11_enough_19 rfl (lv_at hl 2 rfl) ?_
      refine lv_iload_n hx hb dX11_enough_20 rfl (lv_at hl 1 rfl) ?_
      refine lv_icmp_ge (tgt := 26) hx hb dX11_enough_21 (by decide) (fun c20 => ?_) (fun c20 => ?_)
      · replace hm := zz_pos c20 hm
        refine lv_aload_n hx hb dX11_enough_26 rfl (lv_at hl 0 rfl) ?_
        obtain ⟨r21, z23, h22, hm⟩ := zz_b2_some hm
        refine zz_callv (zz_runV (w := wR y a) (As := []) (rest := []) ⟨hx, hb, hml, hown, hts⟩ (zX11_layMonths l D y a H.size z13 h22) (cwV 0 hts gX11_enough_X11_layMonths rfl rfl rfl zdX11_layMonths ⟨Nat.le_of_ble_eq_true rfl, Nat.le_of_ble_eq_true rfl⟩) hK hN hg hP hD hS hA 0 (wR_0 y a z13) rfl rfl hl.1 rfl (Nat.le_of_ble_eq_true rfl) dX11_enough_27 ⟨Nat.le_of_ble_eq_true rfl, Nat.le_of_ble_eq_true rfl⟩) hD hS hA (fun H locs hP hD hS => ?_)
        refine lv_aload_n hx hb dX11_enough_30 rfl (lv_at hl 0 rfl) ?_
        refine lv_iload_n hx hb dX11_enough_31 rfl (lv_at hl 1 rfl) ?_
        refine lv_iload_n hx hb dX11_enough_32 rfl (lv_at hl 2 rfl) ?_
        refine lv_ldcw (v := (999999 : Int32)) hx hb hown (hts (.constant RX11 338 (999999)) (List.mem_of_getElem? (i := 2) rfl)) dX11_enough_33 ?_
        obtain ⟨r24, z26, h25, hm⟩ := zz_b2_some hm
        refine zz_calli (zz_runV (w := wR y a) (As := [.int x1, .int x2, .int (999999 : Int32)]) (rest := []) ⟨hx, hb, hml, hown, hts⟩ (zX11_isPaced l D y a H.size x1 x2 (999999 : Int32) z23 h25) (cwV 3 hts gX11_enough_X11_isPaced rfl rfl rfl zdX11_isPaced ⟨Nat.le_of_ble_eq_true rfl, Nat.le_of_ble_eq_true rfl⟩) hK hN hg hP hD hS hA 0 (wR_0 y a z23) rfl rfl hl.1 rfl (Nat.le_of_ble_eq_true rfl) dX11_enough_36 ⟨Nat.le_of_ble_eq_true rfl, Nat.le_of_ble_eq_true rfl⟩) hD hS hA (fun H locs hP hD hS => ?_)
        refine lv_if_ne (tgt := 45) hx hb dX11_enough_39 (by decide) (fun c27 => ?_) (fun c27 => ?_)
        · replace hm := zz_neg c27 hm
          refine lv_iconst (v := (1 : Int32)) hx hb dX11_enough_45 (by decide) ?_
          refine lv_istore_n (lv' := [(3, .int (1 : Int32)), (0, .ref (a 0)), (1, .int x1), (2, .int x2)]) hx hb dX11_enough_46 rfl hl (by decide) rfl (fun ls hl => ?_)
          refine lv_ldcw (v := (999999 : Int32)) hx hb hown (hts (.constant RX11 338 (999999)) (List.mem_of_getElem? (i := 2) rfl)) dX11_enough_47 ?_
          refine lv_istore (lv' := [(4, .int (999999 : Int32)), (3, .int (1 : Int32)), (0, .ref (a 0)), (1, .int x1), (2, .int x2)]) hx hb dX11_enough_50 hl (by decide) rfl (fun ls hl => ?_)
          have j := J52 zz_N x1 x2 (1 : Int32) (999999 : Int32) z26 hm
          rw [hG] at j
          exact j H locs ls hP hD hS (lv_sub hl [2, 3, 4, 1, 0] rfl)
        · replace hm := zz_pos c27 hm
          refine lv_bipush (v := (-2 : Int32)) hx hb dX11_enough_42 (by decide) ?_
          exact zz_iret hx hb hr hlocks (zz_some2 hm) hP hK hD hS dX11_enough_44
      · replace hm := zz_neg c20 hm
        have j := J24 z13 hm
        rw [hG] at j
        exact j H locs ls hP hD hS (lv_sub hl [] rfl)
def mX11_grants (x1 : Int32) (z : zz_M) : Option (Int32 × zz_M) := zz_nm (zz_sF z 19 (0 : Int32)) (fun z1 => zz_b1 (mX11_in x1.toInt64 (1 : Int64) (12 : Int64)) (fun r2 => if r2 = (0 : Int32) then (some ((-1 : Int32), z1)) else (if (z1.2.2.1 11) = (24 : Int32) then (some ((-2 : Int32), z1)) else (if ((z1.2.2.1 12) + x1) ≤ (12 : Int32) then (zz_nm (zz_sF z1 12 ((z1.2.2.1 12) + x1)) (fun z7 => some (z7.2.2.1 12, z7))) else (some ((-3 : Int32), z1))))))
theorem nX11_grants_X11 : ∀ w ∈ wsX110, w ∈ wsX11_grants := fun _ h => List.mem_cons_of_mem _ (List.mem_append_right _ (h))
theorem zdX11_grants : yX11_grants.cls = RX11 ∧ yX11_grants.cls ≠ "java/lang/invoke/MethodHandle" ∧ yX11_grants.cls ≠ "java/lang/invoke/VarHandle" ∧ (parseMethodDescriptor yX11_grants.desc).map (fun d => d.parameters.length) = some 1 := by decide +kernel
set_option maxHeartbeats 4000000 in
set_option maxRecDepth 100000 in
theorem zX11_grants (l : Launch) (D : va_G) (y : Nat → ClassId) (a : Nat → Nat) (sz : Nat) (x1 : Int32) (z : zz_M) {r : Int32} {zt : zz_M} (hm : mX11_grants x1 z = some (r, zt)) : Met l yX11_grants wsX11_grants { frames := 1, cells := 0, slots := 0, locals := 25 } (zz_Pc D y (wR y a z) sz [.ref (a 0), .int x1]) (zz_Qi D y (wR y a) (va_A (wR y a z) sz) r zt) 0 0 (va_A (wR y a z) sz) := by
  refine Met.ofW (cc := cX11_grants) (maxL := 2) (ret := (some .int)) (by decide) rfl ?_
  intro p e s m args below meth c s₁ B hml hv
  obtain ⟨rfl, hsz, hP, hK, hD0, hN, hg⟩ := hv
  have hx := B.exec
  have hb := B.bytes
  have hr := B.returns
  have hts := atoms_spec (ws := wsX11_grants) B.pre
  have hown : s.vm.findClass RX11 = some m.cls := findClass_of_methodNamed B.named
  have hlocks := B.notSynchronized
  clear B
  subst hsz
  have hD := hD0.self (sz := s.heap.size)
  generalize hAe : va_A (wR y a z) s.heap.size = A at hD hg ⊢
  have hA : ∀ q : Nat, s.heap.size ≤ q → A q := fun q h => by rw [← hAe]; exact Or.inr h
  clear hAe hD0
  have hl := lv_entry ([.ref (a 0), .int x1]) (n := 2) (Nat.le_of_ble_eq_true rfl)
  rw [lg_entry_eq]
  generalize (lg_sl ([.ref (a 0), .int x1]) ++ List.replicate (2 - (lg_sl ([.ref (a 0), .int x1])).length) Slot.unset).toArray = ls at hl ⊢
  replace hl : lv_has ls 2 [(0, .ref (a 0)), (1, .int x1)] := hl
  refine zz_go (w := wR y a) hP hD va_S.rf hl (fun G hG => ?_)
  clear hP hD hl ls
  rw [hG]
  intro H locs ls hP hD hS hl
  unfold mX11_grants at hm
  refine lv_aload_n hx hb dX11_grants_0 rfl (lv_at hl 0 rfl) ?_
  refine lv_iconst (v := (0 : Int32)) hx hb dX11_grants_1 (by decide) ?_
  refine va_put (D := D) (ci := 11) (v := .int (0 : Int32)) (ty := .int) (C := RX11) (T := TX11) (N := 35) hx hb hts nX11_grants_X11 tyX11 tyX11_ok nmX11 hown hK hP hD hS 0 (wR_0 y a z) rfl 19 (by decide) (hts (.fieldLink RX11 97 "WorksDeskModel" "thrown" "I") (List.mem_of_getElem? (i := 1) rfl)) (fun _ h9 => h9) rfl (tyX11_ok 19 (by decide)) rfl rfl (Nat.le_of_ble_eq_true rfl) dX11_grants_2 (fun H locs hP hD hS => ?_)
  obtain ⟨z1, hP, hD, hm⟩ := zz_up (w := wR y a) (wR_f19 y a z (0 : Int32)) hP hD hm
  refine lv_iload_n hx hb dX11_grants_5 rfl (lv_at hl 1 rfl) ?_
  refine lv_i2l hx hb dX11_grants_6 rfl ?_
  refine lv_lconst (v := (1 : Int64)) hx hb dX11_grants_7 (by decide) ?_
  refine lv_ldc2 (v := (12 : Int64)) hx hb hown (hts (.constantLong RX11 202 (12)) (List.mem_of_getElem? (i := 2) rfl)) dX11_grants_8 ?_
  obtain ⟨r2, h3, hm⟩ := zz_b1_some hm
  refine zz_calli (zz_runS (w := wR y a) (As := [.long x1.toInt64, .long (1 : Int64), .long (12 : Int64)]) (rest := []) ⟨hx, hb, hml, hown, hts⟩ (zX11_in l D y a H.size x1.toInt64 (1 : Int64) (12 : Int64) z1 h3) (va_cwS 3 hts gX11_grants_X11_in rfl rfl rfl zdX11_in ⟨Nat.le_of_ble_eq_true rfl, Nat.le_of_ble_eq_true rfl⟩) hK hN hg hP hD hS hA rfl hl.1 rfl (Nat.le_of_ble_eq_true rfl) dX11_grants_11 ⟨Nat.le_of_ble_eq_true rfl, Nat.le_of_ble_eq_true rfl⟩) hD hS hA (fun H locs hP hD hS => ?_)
  refine lv_if_ne (tgt := 19) hx hb dX11_grants_14 (by decide) (fun c4 => ?_) (fun c4 => ?_)
  · replace hm := zz_neg c4 hm
    refine lv_aload_n hx hb dX11_grants_19 rfl (lv_at hl 0 rfl) ?_
    refine va_get (D := D) (ci := 11) (v := .int (z1.2.2.1 11)) (C := RX11) (T := TX11) (N := 35) hx hb hts nX11_grants_X11 hown hK hP 0 (wR_0 y a z1) rfl 11 (by decide) (hts (.fieldLink RX11 91 "WorksDeskModel" "due" "I") (List.mem_of_getElem? (i := 3) rfl)) (fun _ h9 => h9) rfl dX11_grants_20 ?_
    refine lv_bipush (v := (24 : Int32)) hx hb dX11_grants_23 (by decide) ?_
    refine lv_icmp_ne (tgt := 31) hx hb dX11_grants_25 (by decide) (fun c5 => ?_) (fun c5 => ?_)
    · replace hm := zz_neg c5 hm
      refine lv_aload_n hx hb dX11_grants_31 rfl (lv_at hl 0 rfl) ?_
      refine va_get (D := D) (ci := 11) (v := .int (z1.2.2.1 12)) (C := RX11) (T := TX11) (N := 35) hx hb hts nX11_grants_X11 hown hK hP 0 (wR_0 y a z1) rfl 12 (by decide) (hts (.fieldLink RX11 94 "WorksDeskModel" "granted" "I") (List.mem_of_getElem? (i := 4) rfl)) (fun _ h9 => h9) rfl dX11_grants_32 ?_
      refine lv_iload_n hx hb dX11_grants_35 rfl (lv_at hl 1 rfl) ?_
      refine lv_iadd hx hb dX11_grants_36 ?_
      refine lv_bipush (v := (12 : Int32)) hx hb dX11_grants_37 (by decide) ?_
      refine lv_icmp_le (tgt := 45) hx hb dX11_grants_39 (by decide) (fun c6 => ?_) (fun c6 => ?_)
      · replace hm := zz_pos c6 hm
        refine lv_aload_n hx hb dX11_grants_45 rfl (lv_at hl 0 rfl) ?_
        refine lv_dup hx hb dX11_grants_46 rfl ?_
        refine va_get (D := D) (ci := 11) (v := .int (z1.2.2.1 12)) (C := RX11) (T := TX11) (N := 35) hx hb hts nX11_grants_X11 hown hK hP 0 (wR_0 y a z1) rfl 12 (by decide) (hts (.fieldLink RX11 94 "WorksDeskModel" "granted" "I") (List.mem_of_getElem? (i := 4) rfl)) (fun _ h9 => h9) rfl dX11_grants_47 ?_
        refine lv_iload_n hx hb dX11_grants_50 rfl (lv_at hl 1 rfl) ?_
        refine lv_iadd hx hb dX11_grants_51 ?_
        refine va_put (D := D) (ci := 11) (v := .int ((z1.2.2.1 12) + x1)) (ty := .int) (C := RX11) (T := TX11) (N := 35) hx hb hts nX11_grants_X11 tyX11 tyX11_ok nmX11 hown hK hP hD hS 0 (wR_0 y a z1) rfl 12 (by decide) (hts (.fieldLink RX11 94 "WorksDeskModel" "granted" "I") (List.mem_of_getElem? (i := 4) rfl)) (fun _ h9 => h9) rfl (tyX11_ok 12 (by decide)) rfl rfl (Nat.le_of_ble_eq_true rfl) dX11_grants_52 (fun H locs hP hD hS => ?_)
        obtain ⟨z7, hP, hD, hm⟩ := zz_up (w := wR y a) (wR_f12 y a z1 ((z1.2.2.1 12) + x1)) hP hD hm
        refine lv_aload_n hx hb dX11_grants_55 rfl (lv_at hl 0 rfl) ?_
        refine va_get (D := D) (ci := 11) (v := .int (z7.2.2.1 12)) (C := RX11) (T := TX11) (N := 35) hx hb hts nX11_grants_X11 hown hK hP 0 (wR_0 y a z7) rfl 12 (by decide) (hts (.fieldLink RX11 94 "WorksDeskModel" "granted" "I") (List.mem_of_getElem? (i := 4) rfl)) (fun _ h9 => h9) rfl dX11_grants_56 ?_
        exact zz_iret hx hb hr hlocks (zz_some2 hm) hP hK hD hS dX11_grants_59
      · replace hm := zz_neg c6 hm
        refine lv_bipush (v := (-3 : Int32)) hx hb dX11_grants_42 (by decide) ?_
        exact zz_iret hx hb hr hlocks (zz_some2 hm) hP hK hD hS dX11_grants_44
    · replace hm := zz_pos c5 hm
      refine lv_bipush (v := (-2 : Int32)) hx hb dX11_grants_28 (by decide) ?_
      exact zz_iret hx hb hr hlocks (zz_some2 hm) hP hK hD hS dX11_grants_30
  · replace hm := zz_pos c4 hm
    refine lv_iconst (v := (-1 : Int32)) hx hb dX11_grants_17 (by decide) ?_
    exact zz_iret hx hb hr hlocks (zz_some2 hm) hP hK hD hS dX11_grants_18
def mX11_grown_b22 (z : zz_M) (t0 : Int64) (t1 : Int64) : Option Int64 := some (t1 - t0)
def mX11_grown (x1 : Int32) (x2 : Int32) (z : zz_M) : Option Int64 := zz_b1 (mX11_partOf x1 x2 z) (fun r1 => if x1 = (0 : Int32) then (mX11_grown_b22 z (0 : Int64) r1) else (zz_b1 (mX11_partOf (x1 - (1 : Int32)) x2 z) (fun r4 => mX11_grown_b22 z r4 r1)))
theorem zdX11_grown : yX11_grown.cls = RX11 ∧ yX11_grown.cls ≠ "java/lang/invoke/MethodHandle" ∧ yX11_grown.cls ≠ "java/lang/invoke/VarHandle" ∧ (parseMethodDescriptor yX11_grown.desc).map (fun d => d.parameters.length) = some 2 := by decide +kernel
set_option maxHeartbeats 4000000 in
set_option maxRecDepth 100000 in
theorem zX11_grown (l : Launch) (D : va_G) (y : Nat → ClassId) (a : Nat → Nat) (sz : Nat) (x1 : Int32) (x2 : Int32) (z : zz_M) {r : Int64} (hm : mX11_grown x1 x2 z = some r) : Met l yX11_grown wsX11_grown { frames := 3, cells := 0, slots := 0, locals := 67 } (zz_Pc D y (wR y a z) sz [.ref (a 0), .int x1, .int x2]) (zz_Ql D y (wR y a) (va_A (wR y a z) sz) r z) 0 0 (va_A (wR y a z) sz) := by
  refine Met.ofW (cc := cX11_grown) (maxL := 3) (ret := (some .long)) (by decide) rfl ?_
  intro p e s m args below meth c s₁ B hml hv
  obtain ⟨rfl, hsz, hP, hK, hD0, hN, hg⟩ := hv
  have hx := B.exec
  have hb := B.bytes
  have hr := B.returns
  have hts := atoms_spec (ws := wsX11_grown) B.pre
  have hown : s.vm.findClass RX11 = some m.cls := findClass_of_methodNamed B.named
  have hlocks := B.notSynchronized
  clear B
  subst hsz
  have hD := hD0.self (sz := s.heap.size)
  generalize hAe : va_A (wR y a z) s.heap.size = A at hD hg ⊢
  have hA : ∀ q : Nat, s.heap.size ≤ q → A q := fun q h => by rw [← hAe]; exact Or.inr h
  clear hAe hD0
  have hl := lv_entry ([.ref (a 0), .int x1, .int x2]) (n := 3) (Nat.le_of_ble_eq_true rfl)
  rw [lg_entry_eq]
  generalize (lg_sl ([.ref (a 0), .int x1, .int x2]) ++ List.replicate (3 - (lg_sl ([.ref (a 0), .int x1, .int x2])).length) Slot.unset).toArray = ls at hl ⊢
  replace hl : lv_has ls 3 [(0, .ref (a 0)), (1, .int x1), (2, .int x2)] := hl
  refine zz_go (w := wR y a) hP hD va_S.rf hl (fun G hG => ?_)
  clear hP hD hl ls
  have J22 : ∀ (t0 : Int64) (t1 : Int64), mX11_grown_b22 z t0 t1 = some r → G 22 [] [.long t0, .long t1] z := by
    intro t0 t1 hm
    rw [mX11_grown_b22] at hm
    rw [hG]
    intro H locs ls hP hD hS hl
    refine lv_lsub hx hb dX11_grown_22 ?_
    exact zz_lret hx hb hr hlocks ⟨zz_some1 hm, rfl⟩ hP hK hD hS dX11_grown_23
  rw [hG]
  intro H locs ls hP hD hS hl
  unfold mX11_grown at hm
  refine lv_aload_n hx hb dX11_grown_0 rfl (lv_at hl 0 rfl) ?_
  refine lv_iload_n hx hb dX11_grown_1 rfl (lv_at hl 1 rfl) ?_
  refine lv_iload_n hx hb dX11_grown_2 rfl (lv_at hl 2 rfl) ?_
  obtain ⟨r1, h2, hm⟩ := zz_b1_some hm
  refine zz_calll (zz_runV (w := wR y a) (As := [.int x1, .int x2]) (rest := []) ⟨hx, hb, hml, hown, hts⟩ (zX11_partOf l D y a H.size x1 x2 z h2) (cwV 2 hts gX11_grown_X11_partOf rfl rfl rfl zdX11_partOf ⟨Nat.le_of_ble_eq_true rfl, Nat.le_of_ble_eq_true rfl⟩) hK hN hg hP hD hS hA 0 (wR_0 y a z) rfl rfl hl.1 rfl (Nat.le_of_ble_eq_true rfl) dX11_grown_3 ⟨Nat.le_of_ble_eq_true rfl, Nat.le_of_ble_eq_true rfl⟩) hD hS hA (fun H locs hP hD hS => ?_)
  refine lv_iload_n hx hb dX11_grown_6 rfl (lv_at hl 1 rfl) ?_
  refine lv_if_ne (tgt := 14) hx hb dX11_grown_7 (by decide) (fun c3 => ?_) (fun c3 => ?_)
  · replace hm := zz_neg c3 hm
    refine lv_aload_n hx hb dX11_grown_14 rfl (lv_at hl 0 rfl) ?_
    refine lv_iload_n hx hb dX11_grown_15 rfl (lv_at hl 1 rfl) ?_
    refine lv_iconst (v := (1 : Int32)) hx hb dX11_grown_16 (by decide) ?_
    refine lv_isub hx hb dX11_grown_17 ?_
    refine lv_iload_n hx hb dX11_grown_18 rfl (lv_at hl 2 rfl) ?_
    obtain ⟨r4, h5, hm⟩ := zz_b1_some hm
    refine zz_calll (zz_runV (w := wR y a) (As := [.int (x1 - (1 : Int32)), .int x2]) (rest := [.long r1]) ⟨hx, hb, hml, hown, hts⟩ (zX11_partOf l D y a H.size (x1 - (1 : Int32)) x2 z h5) (cwV 2 hts gX11_grown_X11_partOf rfl rfl rfl zdX11_partOf ⟨Nat.le_of_ble_eq_true rfl, Nat.le_of_ble_eq_true rfl⟩) hK hN hg hP hD hS hA 0 (wR_0 y a z) rfl rfl hl.1 rfl (Nat.le_of_ble_eq_true rfl) dX11_grown_19 ⟨Nat.le_of_ble_eq_true rfl, Nat.le_of_ble_eq_true rfl⟩) hD hS hA (fun H locs hP hD hS => ?_)
    have j := J22 r4 r1 hm
    rw [hG] at j
    exact j H locs ls hP hD hS (lv_sub hl [] rfl)
  · replace hm := zz_pos c3 hm
    refine lv_lconst (v := (0 : Int64)) hx hb dX11_grown_10 (by decide) ?_
    refine lv_goto (tgt := 22) hx hb dX11_grown_11 (by decide) ?_
    have j := J22 (0 : Int64) r1 hm
    rw [hG] at j
    exact j H locs ls hP hD hS (lv_sub hl [] rfl)
def mX11_handover_b45 (v1 : Int32) (z : zz_M) : Option (Int32 × zz_M) := zz_nm (zz_sF z 9 v1) (fun z1 => some (z.2.2.1 9, z1))
def mX11_handover (x1 : Int32) (z : zz_M) : Option (Int32 × zz_M) := zz_nm (zz_sF z 19 (0 : Int32)) (fun z2 => zz_b1 (mX11_isMonth x1) (fun r3 => if r3 = (0 : Int32) then (some ((-1 : Int32), z2)) else (if x1 = (z2.2.2.1 9) then (some ((-2 : Int32), z2)) else (if (24 : Int32) ≤ (z2.2.2.1 10) then (mX11_handover_b45 x1 z2) else (if x1 ≤ (z2.2.2.1 10) then (mX11_handover_b45 x1 z2) else (some ((-3 : Int32), z2)))))))
theorem nX11_handover_X11 : ∀ w ∈ wsX110, w ∈ wsX11_handover := fun _ h => List.mem_cons_of_mem _ (List.mem_append_right _ (h))
theorem zdX11_handover : yX11_handover.cls = RX11 ∧ yX11_handover.cls ≠ "java/lang/invoke/MethodHandle" ∧ yX11_handover.cls ≠ "java/lang/invoke/VarHandle" ∧ (parseMethodDescriptor yX11_handover.desc).map (fun d => d.parameters.length) = some 1 := by decide +kernel
set_option maxHeartbeats 4000000 in
set_option maxRecDepth 100000 in
theorem zX11_handover (l : Launch) (D : va_G) (y : Nat → ClassId) (a : Nat → Nat) (sz : Nat) (x1 : Int32) (z : zz_M) {r : Int32} {zt : zz_M} (hm : mX11_handover x1 z = some (r, zt)) : Met l yX11_handover wsX11_handover { frames := 2, cells := 0, slots := 0, locals := 45 } (zz_Pc D y (wR y a z) sz [.ref (a 0), .int x1]) (zz_Qi D y (wR y a) (va_A (wR y a z) sz) r zt) 0 0 (va_A (wR y a z) sz) := by
  refine Met.ofW (cc := cX11_handover) (maxL := 3) (ret := (some .int)) (by decide) rfl ?_
  intro p e s m args below meth c s₁ B hml hv
  obtain ⟨rfl, hsz, hP, hK, hD0, hN, hg⟩ := hv
  have hx := B.exec
  have hb := B.bytes
  have hr := B.returns
  have hts := atoms_spec (ws := wsX11_handover) B.pre
  have hown : s.vm.findClass RX11 = some m.cls := findClass_of_methodNamed B.named
  have hlocks := B.notSynchronized
  clear B
  subst hsz
  have hD := hD0.self (sz := s.heap.size)
  generalize hAe : va_A (wR y a z) s.heap.size = A at hD hg ⊢
  have hA : ∀ q : Nat, s.heap.size ≤ q → A q := fun q h => by rw [← hAe]; exact Or.inr h
  clear hAe hD0
  have hl := lv_entry ([.ref (a 0), .int x1]) (n := 3) (Nat.le_of_ble_eq_true rfl)
  rw [lg_entry_eq]
  generalize (lg_sl ([.ref (a 0), .int x1]) ++ List.replicate (3 - (lg_sl ([.ref (a 0), .int x1])).length) Slot.unset).toArray = ls at hl ⊢
  replace hl : lv_has ls 3 [(0, .ref (a 0)), (1, .int x1)] := hl
  refine zz_go (w := wR y a) hP hD va_S.rf hl (fun G hG => ?_)
  clear hP hD hl ls
  have J45 : ∀ (v1 : Int32) (z : zz_M), mX11_handover_b45 v1 z = some (r, zt) → G 45 [(0, .ref (a 0)), (1, .int v1)] [] z := by
    intro v1 z hm
    rw [mX11_handover_b45] at hm
    rw [hG]
    intro H locs ls hP hD hS hl
    refine lv_aload_n hx hb dX11_handover_45 rfl (lv_at hl 0 rfl) ?_
    refine va_get (D := D) (ci := 11) (v := .int (z.2.2.1 9)) (C := RX11) (T := TX11) (N := 35) hx hb hts nX11_handover_X11 hown hK hP 0 (wR_0 y a z) rfl 9 (by decide) (hts (.fieldLink RX11 85 "WorksDeskModel" "handover" "I") (List.mem_of_getElem? (i := 2) rfl)) (fun _ h9 => h9) rfl dX11_handover_46 ?_
    refine lv_istore_n (lv' := [(2, .int (z.2.2.1 9)), (0, .ref (a 0)), (1, .int v1)]) hx hb dX11_handover_49 rfl hl (by decide) rfl (fun ls hl => ?_)
    refine lv_aload_n hx hb dX11_handover_50 rfl (lv_at hl 1 rfl) ?_
    refine lv_iload_n hx hb dX11_handover_51 rfl (lv_at hl 2 rfl) ?_
    refine va_put (D := D) (ci := 11) (v := .int v1) (ty := .int) (C := RX11) (T := TX11) (N := 35) hx hb hts nX11_handover_X11 tyX11 tyX11_ok nmX11 hown hK hP hD hS 0 (wR_0 y a z) rfl 9 (by decide) (hts (.fieldLink RX11 85 "WorksDeskModel" "handover" "I") (List.mem_of_getElem? (i := 2) rfl)) (fun _ h9 => h9) rfl (tyX11_ok 9 (by decide)) rfl rfl (Nat.le_of_ble_eq_true rfl) dX11_handover_52 (fun H locs hP hD hS => ?_)
    obtain ⟨z1, hP, hD, hm⟩ := zz_up (w := wR y a) (wR_f9 y a z v1) hP hD hm
    refine lv_iload_n hx hb dX11_handover_55 rfl (lv_at hl 0 rfl) ?_
    exact zz_iret hx hb hr hlocks (zz_some2 hm) hP hK hD hS dX11_handover_56
  rw [hG]
  intro H locs ls hP hD hS hl
  unfold mX11_handover at hm
  refine lv_aload_n hx hb dX11_handover_0 rfl (lv_at hl 0 rfl) ?_
  refine lv_iconst (v := (0 : Int32)) hx hb dX11_handover_1 (by decide) ?_
  refine va_put (D := D) (ci := 11) (v := .int (0 : Int32)) (ty := .int) (C := RX11) (T := TX11) (N := 35) hx hb hts nX11_handover_X11 tyX11 tyX11_ok nmX11 hown hK hP hD hS 0 (wR_0 y a z) rfl 19 (by decide) (hts (.fieldLink RX11 97 "WorksDeskModel" "thrown" "I") (List.mem_of_getElem? (i := 1) rfl)) (fun _ h9 => h9) rfl (tyX11_ok 19 (by decide)) rfl rfl (Nat.le_of_ble_eq_true rfl) dX11_handover_2 (fun H locs hP hD hS => ?_)
  obtain ⟨z2, hP, hD, hm⟩ := zz_up (w := wR y a) (wR_f19 y a z (0 : Int32)) hP hD hm
  refine lv_iload_n hx hb dX11_handover_5 rfl (lv_at hl 1 rfl) ?_
  obtain ⟨r3, h4, hm⟩ := zz_b1_some hm
  refine zz_calli (zz_runS (w := wR y a) (As := [.int x1]) (rest := []) ⟨hx, hb, hml, hown, hts⟩ (zX11_isMonth l D y a H.size x1 z2 h4) (va_cwS 1 hts gX11_handover_X11_isMonth rfl rfl rfl zdX11_isMonth ⟨Nat.le_of_ble_eq_true rfl, Nat.le_of_ble_eq_true rfl⟩) hK hN hg hP hD hS hA rfl hl.1 rfl (Nat.le_of_ble_eq_true rfl) dX11_handover_6 ⟨Nat.le_of_ble_eq_true rfl, Nat.le_of_ble_eq_true rfl⟩) hD hS hA (fun H locs hP hD hS => ?_)
  refine lv_if_ne (tgt := 14) hx hb dX11_handover_9 (by decide) (fun c5 => ?_) (fun c5 => ?_)
  · replace hm := zz_neg c5 hm
    refine lv_iload_n hx hb dX11_handover_14 rfl (lv_at hl 1 rfl) ?_
    refine lv_aload_n hx hb dX11_handover_15 rfl (lv_at hl 0 rfl) ?_
    refine va_get (D := D) (ci := 11) (v := .int (z2.2.2.1 9)) (C := RX11) (T := TX11) (N := 35) hx hb hts nX11_handover_X11 hown hK hP 0 (wR_0 y a z2) rfl 9 (by decide) (hts (.fieldLink RX11 85 "WorksDeskModel" "handover" "I") (List.mem_of_getElem? (i := 2) rfl)) (fun _ h9 => h9) rfl dX11_handover_16 ?_
    refine lv_icmp_ne (tgt := 25) hx hb dX11_handover_19 (by decide) (fun c6 => ?_) (fun c6 => ?_)
    · replace hm := zz_neg c6 hm
      refine lv_aload_n hx hb dX11_handover_25 rfl (lv_at hl 0 rfl) ?_
      refine va_get (D := D) (ci := 11) (v := .int (z2.2.2.1 10)) (C := RX11) (T := TX11) (N := 35) hx hb hts nX11_handover_X11 hown hK hP 0 (wR_0 y a z2) rfl 10 (by decide) (hts (.fieldLink RX11 88 "WorksDeskModel" "last" "I") (List.mem_of_getElem? (i := 3) rfl)) (fun _ h9 => h9) rfl dX11_handover_26 ?_
      refine lv_bipush (v := (24 : Int32)) hx hb dX11_handover_29 (by decide) ?_
      refine lv_icmp_ge (tgt := 45) hx hb dX11_handover_31 (by decide) (fun c7 => ?_) (fun c7 => ?_)
      · replace hm := zz_pos c7 hm
        have j := J45 x1 z2 hm
        rw [hG] at j
        exact j H locs ls hP hD hS (lv_sub hl [0, 1] rfl)
      · replace hm := zz_neg c7 hm
        refine lv_aload_n hx hb dX11_handover_34 rfl (lv_at hl 0 rfl) ?_
        refine va_get (D := D) (ci := 11) (v := .int (z2.2.2.1 10)) (C := RX11) (T := TX11) (N := 35) hx hb hts nX11_handover_X11 hown hK hP 0 (wR_0 y a z2) rfl 10 (by decide) (hts (.fieldLink RX11 88 "WorksDeskModel" "last" "I") (List.mem_of_getElem? (i := 3) rfl)) (fun _ h9 => h9) rfl dX11_handover_35 ?_
        refine lv_iload_n hx hb dX11_handover_38 rfl (lv_at hl 1 rfl) ?_
        refine lv_icmp_ge (tgt := 45) hx hb dX11_handover_39 (by decide) (fun c8 => ?_) (fun c8 => ?_)
        · replace hm := zz_pos c8 hm
          have j := J45 x1 z2 hm
          rw [hG] at j
          exact j H locs ls hP hD hS (lv_sub hl [0, 1] rfl)
        · replace hm := zz_neg c8 hm
          refine lv_bipush (v := (-3 : Int32)) hx hb dX11_handover_42 (by decide) ?_
          exact zz_iret hx hb hr hlocks (zz_some2 hm) hP hK hD hS dX11_handover_44
    · replace hm := zz_pos c6 hm
      refine lv_bipush (v := (-2 : Int32)) hx hb dX11_handover_22 (by decide) ?_
      exact zz_iret hx hb hr hlocks (zz_some2 hm) hP hK hD hS dX11_handover_24
  · replace hm := zz_pos c5 hm
    refine lv_iconst (v := (-1 : Int32)) hx hb dX11_handover_12 (by decide) ?_
    exact zz_iret hx hb hr hlocks (zz_some2 hm) hP hK hD hS dX11_handover_13
def mX11_held_b20 (z : zz_M) : Option (Int32 × zz_M) := some ((-1 : Int32), z)
def mX11_held (x1 : Int32) (x2 : Int32) (z : zz_M) : Option (Int32 × zz_M) := zz_nm (zz_sF z 19 (0 : Int32)) (fun z1 => zz_b1 (mX11_isSet x1 z1) (fun r2 => if r2 = (0 : Int32) then (mX11_held_b20 z1) else (zz_b1 (mX11_isMonth x2) (fun r5 => if r5 = (0 : Int32) then (mX11_held_b20 z1) else (zz_nm ((5 : Int32) * x1) (fun n8 => zz_nm (zz_sF z1 18 (0 : Int32)) (fun z9 => zz_ck (zz_in n8 30) (zz_b2 (mX11_tell ((z9.1 6 n8.toNatClampNeg).toInt64) z9) (fun r11 z13 => zz_ck (zz_in (n8 + (1 : Int32)) 30) (zz_b2 (mX11_tell ((z13.1 6 (n8 + (1 : Int32)).toNatClampNeg).toInt64) z13) (fun r15 z17 => zz_ck (zz_in (n8 + (2 : Int32)) 30) (zz_b1 (mX11_monthTold (z17.1 6 (n8 + (2 : Int32)).toNatClampNeg)) (fun r19 => zz_b2 (mX11_tell r19.toInt64 z17) (fun r21 z23 => zz_ck (zz_in (n8 + (3 : Int32)) 30) (zz_b1 (mX11_monthTold (z23.1 6 (n8 + (3 : Int32)).toNatClampNeg)) (fun r25 => zz_b2 (mX11_tell r25.toInt64 z23) (fun r27 z29 => zz_ck (zz_in (n8 + (4 : Int32)) 30) (zz_b2 (mX11_tell ((z29.1 6 (n8 + (4 : Int32)).toNatClampNeg).toInt64) z29) (fun r31 z33 => zz_b1 (mX11_heldOf x1 x2 z33) (fun r34 => some (r34, z33)))))))))))))))))))))
theorem nX11_held_X11 : ∀ w ∈ wsX110, w ∈ wsX11_held := fun _ h => List.mem_cons_of_mem _ (List.mem_append_right _ (h))
theorem zdX11_held : yX11_held.cls = RX11 ∧ yX11_held.cls ≠ "java/lang/invoke/MethodHandle" ∧ yX11_held.cls ≠ "java/lang/invoke/VarHandle" ∧ (parseMethodDescriptor yX11_held.desc).map (fun d => d.parameters.length) = some 2 := by decide +kernel
set_option maxHeartbeats 4000000 in
set_option maxRecDepth 100000 in
theorem zX11_held (l : Launch) (D : va_G) (y : Nat → ClassId) (a : Nat → Nat) (sz : Nat) (x1 : Int32) (x2 : Int32) (z : zz_M) {r : Int32} {zt : zz_M} (hm : mX11_held x1 x2 z = some (r, zt)) : Met l yX11_held wsX11_held { frames := 2, cells := 0, slots := 0, locals := 46 } (zz_Pc D y (wR y a z) sz [.ref (a 0), .int x1, .int x2]) (zz_Qi D y (wR y a) (va_A (wR y a z) sz) r zt) 0 0 (va_A (wR y a z) sz) := by
  refine Met.ofW (cc := cX11_held) (maxL := 4) (ret := (some .int)) (by decide) rfl ?_
  intro p e s m args below meth c s₁ B hml hv
  obtain ⟨rfl, hsz, hP, hK, hD0, hN, hg⟩ := hv
  have hx := B.exec
  have hb := B.bytes
  have hr := B.returns
  have hts := atoms_spec (ws := wsX11_held) B.pre
  have hown : s.vm.findClass RX11 = some m.cls := findClass_of_methodNamed B.named
  have hlocks := B.notSynchronized
  clear B
  subst hsz
  have hD := hD0.self (sz := s.heap.size)
  generalize hAe : va_A (wR y a z) s.heap.size = A at hD hg ⊢
  have hA : ∀ q : Nat, s.heap.size ≤ q → A q := fun q h => by rw [← hAe]; exact Or.inr h
  clear hAe hD0
  have hl := lv_entry ([.ref (a 0), .int x1, .int x2]) (n := 4) (Nat.le_of_ble_eq_true rfl)
  rw [lg_entry_eq]
  generalize (lg_sl ([.ref (a 0), .int x1, .int x2]) ++ List.replicate (4 - (lg_sl ([.ref (a 0), .int x1, .int x2])).length) Slot.unset).toArray = ls at hl ⊢
  replace hl : lv_has ls 4 [(0, .ref (a 0)), (1, .int x1), (2, .int x2)] := hl
  refine zz_go (w := wR y a) hP hD va_S.rf hl (fun G hG => ?_)
  clear hP hD hl ls
  have J20 : ∀ (z : zz_M), mX11_held_b20 z = some (r, zt) → G 20 [] [] z := by
    intro z hm
    rw [mX11_held_b20] at hm
    rw [hG]
    intro H locs ls hP hD hS hl
    refine lv_iconst (v := (-1 : Int32)) hx hb dX11_held_20 (by decide) ?_
    exact zz_iret hx hb hr hlocks (zz_some2 hm) hP hK hD hS dX11_held_21
  rw [hG]
  intro H locs ls hP hD hS hl
  unfold mX11_held at hm
  refine lv_aload_n hx hb dX11_held_0 rfl (lv_at hl 0 rfl) ?_
  refine lv_iconst (v := (0 : Int32)) hx hb dX11_held_1 (by decide) ?_
  refine va_put (D := D) (ci := 11) (v := .int (0 : Int32)) (ty := .int) (C := RX11) (T := TX11) (N := 35) hx hb hts nX11_held_X11 tyX11 tyX11_ok nmX11 hown hK hP hD hS 0 (wR_0 y a z) rfl 19 (by decide) (hts (.fieldLink RX11 97 "WorksDeskModel" "thrown" "I") (List.mem_of_getElem? (i := 1) rfl)) (fun _ h9 => h9) rfl (tyX11_ok 19 (by decide)) rfl rfl (Nat.le_of_ble_eq_true rfl) dX11_held_2 (fun H locs hP hD hS => ?_)
  obtain ⟨z1, hP, hD, hm⟩ := zz_up (w := wR y a) (wR_f19 y a z (0 : Int32)) hP hD hm
  refine lv_aload_n hx hb dX11_held_5 rfl (lv_at hl 0 rfl) ?_
  refine lv_iload_n hx hb dX11_held_6 rfl (lv_at hl 1 rfl) ?_
  obtain ⟨r2, h3, hm⟩ := zz_b1_some hm
  refine zz_calli (zz_runV (w := wR y a) (As := [.int x1]) (rest := []) ⟨hx, hb, hml, hown, hts⟩ (zX11_isSet l D y a H.size x1 z1 h3) (cwV 1 hts gX11_held_X11_isSet rfl rfl rfl zdX11_isSet ⟨Nat.le_of_ble_eq_true rfl, Nat.le_of_ble_eq_true rfl⟩) hK hN hg hP hD hS hA 0 (wR_0 y a z1) rfl rfl hl.1 rfl (Nat.le_of_ble_eq_true rfl) dX11_held_7 ⟨Nat.le_of_ble_eq_true rfl, Nat.le_of_ble_eq_true rfl⟩) hD hS hA (fun H locs hP hD hS => ?_)
  refine lv_if_eq (tgt := 20) hx hb dX11_held_10 (by decide) (fun c4 => ?_) (fun c4 => ?_)
  · replace hm := zz_pos c4 hm
    have j := J20 z1 hm
    rw [hG] at j
    exact j H locs ls hP hD hS (lv_sub hl [] rfl)
  · replace hm := zz_neg c4 hm
    refine lv_iload_n hx hb dX11_held_13 rfl (lv_at hl 2 rfl) ?_
    obtain ⟨r5, h6, hm⟩ := zz_b1_some hm
    refine zz_calli (zz_runS (w := wR y a) (As := [.int x2]) (rest := []) ⟨hx, hb, hml, hown, hts⟩ (zX11_isMonth l D y a H.size x2 z1 h6) (va_cwS 1 hts gX11_held_X11_isMonth rfl rfl rfl zdX11_isMonth ⟨Nat.le_of_ble_eq_true rfl, Nat.le_of_ble_eq_true rfl⟩) hK hN hg hP hD hS hA rfl hl.1 rfl (Nat.le_of_ble_eq_true rfl) dX11_held_14 ⟨Nat.le_of_ble_eq_true rfl, Nat.le_of_ble_eq_true rfl⟩) hD hS hA (fun H locs hP hD hS => ?_)
    refine lv_if_ne (tgt := 22) hx hb dX11_held_17 (by decide) (fun c7 => ?_) (fun c7 => ?_)
    · replace hm := zz_neg c7 hm
      refine lv_iconst (v := (5 : Int32)) hx hb dX11_held_22 (by decide) ?_
      refine lv_iload_n hx hb dX11_held_23 rfl (lv_at hl 1 rfl) ?_
      refine lv_imul hx hb dX11_held_24 ?_
      refine lv_topi (fun n8 en8 => ?_)
      replace hm := zz_nm_some en8 hm
      refine lv_istore_n (lv' := [(3, .int n8), (0, .ref (a 0)), (1, .int x1), (2, .int x2)]) hx hb dX11_held_25 rfl hl (by decide) rfl (fun ls hl => ?_)
      refine lv_aload_n hx hb dX11_held_26 rfl (lv_at hl 1 rfl) ?_
      refine lv_iconst (v := (0 : Int32)) hx hb dX11_held_27 (by decide) ?_
      refine va_put (D := D) (ci := 11) (v := .int (0 : Int32)) (ty := .int) (C := RX11) (T := TX11) (N := 35) hx hb hts nX11_held_X11 tyX11 tyX11_ok nmX11 hown hK hP hD hS 0 (wR_0 y a z1) rfl 18 (by decide) (hts (.fieldLink RX11 100 "WorksDeskModel" "rowMany" "I") (List.mem_of_getElem? (i := 2) rfl)) (fun _ h9 => h9) rfl (tyX11_ok 18 (by decide)) rfl rfl (Nat.le_of_ble_eq_true rfl) dX11_held_28 (fun H locs hP hD hS => ?_)
      obtain ⟨z9, hP, hD, hm⟩ := zz_up (w := wR y a) (wR_f18 y a z1 (0 : Int32)) hP hD hm
      refine lv_aload_n hx hb dX11_held_31 rfl (lv_at hl 1 rfl) ?_
      refine lv_aload_n hx hb dX11_held_32 rfl (lv_at hl 1 rfl) ?_
      refine va_get (D := D) (ci := 11) (v := .ref (a 6)) (C := RX11) (T := TX11) (N := 35) hx hb hts nX11_held_X11 hown hK hP 0 (wR_0 y a z9) rfl 7 (by decide) (hts (.fieldLink RX11 25 "WorksDeskModel" "sets" "[I") (List.mem_of_getElem? (i := 3) rfl)) (fun _ h9 => h9) rfl dX11_held_33 ?_
      refine lv_iload_n hx hb dX11_held_36 rfl (lv_at hl 0 rfl) ?_
      obtain ⟨c10, hm⟩ := zz_ck_some hm
      refine va_iald hx hb hK hP 6 0 (wR_6 y a z9) rfl c10 dX11_held_37 ?_
      refine lv_i2l hx hb dX11_held_38 rfl ?_
      obtain ⟨r11, z13, h12, hm⟩ := zz_b2_some hm
      refine zz_callv (zz_runV (w := wR y a) (As := [.long ((z9.1 6 n8.toNatClampNeg).toInt64)]) (rest := []) ⟨hx, hb, hml, hown, hts⟩ (zX11_tell l D y a H.size ((z9.1 6 n8.toNatClampNeg).toInt64) z9 h12) (cwV 1 hts gX11_held_X11_tell rfl rfl rfl zdX11_tell ⟨Nat.le_of_ble_eq_true rfl, Nat.le_of_ble_eq_true rfl⟩) hK hN hg hP hD hS hA 0 (wR_0 y a z9) rfl rfl hl.1 rfl (Nat.le_of_ble_eq_true rfl) dX11_held_39 ⟨Nat.le_of_ble_eq_true rfl, Nat.le_of_ble_eq_true rfl⟩) hD hS hA (fun H locs hP hD hS => ?_)
      refine lv_aload_n hx hb dX11_held_42 rfl (lv_at hl 1 rfl) ?_
      refine lv_aload_n hx hb dX11_held_43 rfl (lv_at hl 1 rfl) ?_
      refine va_get (D := D) (ci := 11) (v := .ref (a 6)) (C := RX11) (T := TX11) (N := 35) hx hb hts nX11_held_X11 hown hK hP 0 (wR_0 y a z13) rfl 7 (by decide) (hts (.fieldLink RX11 25 "WorksDeskModel" "sets" "[I") (List.mem_of_getElem? (i := 3) rfl)) (fun _ h9 => h9) rfl dX11_held_44 ?_
      refine lv_iload_n hx hb dX11_held_47 rfl (lv_at hl 0 rfl) ?_
      refine lv_iconst (v := (1 : Int32)) hx hb dX11_held_48 (by decide) ?_
      refine lv_iadd hx hb dX11_held_49 ?_
      obtain ⟨c14, hm⟩ := zz_ck_some hm
      refine va_iald hx hb hK hP 6 0 (wR_6 y a z13) rfl c14 dX11_held_50 ?_
      refine lv_i2l hx hb dX11_held_51 rfl ?_
      obtain ⟨r15, z17, h16, hm⟩ := zz_b2_some hm
      refine zz_callv (zz_runV (w := wR y a) (As := [.long ((z13.1 6 (n8 + (1 : Int32)).toNatClampNeg).toInt64)]) (rest := []) ⟨hx, hb, hml, hown, hts⟩ (zX11_tell l D y a H.size ((z13.1 6 (n8 + (1 : Int32)).toNatClampNeg).toInt64) z13 h16) (cwV 1 hts gX11_held_X11_tell rfl rfl rfl zdX11_tell ⟨Nat.le_of_ble_eq_true rfl, Nat.le_of_ble_eq_true rfl⟩) hK hN hg hP hD hS hA 0 (wR_0 y a z13) rfl rfl hl.1 rfl (Nat.le_of_ble_eq_true rfl) dX11_held_52 ⟨Nat.le_of_ble_eq_true rfl, Nat.le_of_ble_eq_true rfl⟩) hD hS hA (fun H locs hP hD hS => ?_)
      refine lv_aload_n hx hb dX11_held_55 rfl (lv_at hl 1 rfl) ?_
      refine lv_aload_n hx hb dX11_held_56 rfl (lv_at hl 1 rfl) ?_
      refine va_get (D := D) (ci := 11) (v := .ref (a 6)) (C := RX11) (T := TX11) (N := 35) hx hb hts nX11_held_X11 hown hK hP 0 (wR_0 y a z17) rfl 7 (by decide) (hts (.fieldLink RX11 25 "WorksDeskModel" "sets" "[I") (List.mem_of_getElem? (i := 3) rfl)) (fun _ h9 => h9) rfl dX11_held_57 ?_
      refine lv_iload_n hx hb dX11_held_60 rfl (lv_at hl 0 rfl) ?_
      refine lv_iconst (v := (2 : Int32)) hx hb dX11_held_61 (by decide) ?_
      refine lv_iadd hx hb dX11_held_62 ?_
      obtain ⟨c18, hm⟩ := zz_ck_some hm
      refine va_iald hx hb hK hP 6 0 (wR_6 y a z17) rfl c18 dX11_held_63 ?_
      obtain ⟨r19, h20, hm⟩ := zz_b1_some hm
      refine zz_calli (zz_runS (w := wR y a) (As := [.int (z17.1 6 (n8 + (2 : Int32)).toNatClampNeg)]) (rest := [.ref (a 0)]) ⟨hx, hb, hml, hown, hts⟩ (zX11_monthTold l D y a H.size (z17.1 6 (n8 + (2 : Int32)).toNatClampNeg) z17 h20) (va_cwS 1 hts gX11_held_X11_monthTold rfl rfl rfl zdX11_monthTold ⟨Nat.le_of_ble_eq_true rfl, Nat.le_of_ble_eq_true rfl⟩) hK hN hg hP hD hS hA rfl hl.1 rfl (Nat.le_of_ble_eq_true rfl) dX11_held_64 ⟨Nat.le_of_ble_eq_true rfl, Nat.le_of_ble_eq_true rfl⟩) hD hS hA (fun H locs hP hD hS => ?_)
      refine lv_i2l hx hb dX11_held_67 rfl ?_
      obtain ⟨r21, z23, h22, hm⟩ := zz_b2_some hm
      refine zz_callv (zz_runV (w := wR y a) (As := [.long r19.toInt64]) (rest := []) ⟨hx, hb, hml, hown, hts⟩ (zX11_tell l D y a H.size r19.toInt64 z17 h22) (cwV 1 hts gX11_held_X11_tell rfl rfl rfl zdX11_tell ⟨Nat.le_of_ble_eq_true rfl, Nat.le_of_ble_eq_true rfl⟩) hK hN hg hP hD hS hA 0 (wR_0 y a z17) rfl rfl hl.1 rfl (Nat.le_of_ble_eq_true rfl) dX11_held_68 ⟨Nat.le_of_ble_eq_true rfl, Nat.le_of_ble_eq_true rfl⟩) hD hS hA (fun H locs hP hD hS => ?_)
      refine lv_aload_n hx hb dX11_held_71 rfl (lv_at hl 1 rfl) ?_
      refine lv_aload_n hx hb dX11_held_72 rfl (lv_at hl 1 rfl) ?_
      refine va_get (D := D) (ci := 11) (v := .ref (a 6)) (C := RX11) (T := TX11) (N := 35) hx hb hts nX11_held_X11 hown hK hP 0 (wR_0 y a z23) rfl 7 (by decide) (hts (.fieldLink RX11 25 "WorksDeskModel" "sets" "[I") (List.mem_of_getElem? (i := 3) rfl)) (fun _ h9 => h9) rfl dX11_held_73 ?_
      refine lv_iload_n hx hb dX11_held_76 rfl (lv_at hl 0 rfl) ?_
      refine lv_iconst (v := (3 : Int32)) hx hb dX11_held_77 (by decide) ?_
      refine lv_iadd hx hb dX11_held_78 ?_
      obtain ⟨c24, hm⟩ := zz_ck_some hm
      refine va_iald hx hb hK hP 6 0 (wR_6 y a z23) rfl c24 dX11_held_79 ?_
      obtain ⟨r25, h26, hm⟩ := zz_b1_some hm
      refine zz_calli (zz_runS (w := wR y a) (As := [.int (z23.1 6 (n8 + (3 : Int32)).toNatClampNeg)]) (rest := [.ref (a 0)]) ⟨hx, hb, hml, hown, hts⟩ (zX11_monthTold l D y a H.size (z23.1 6 (n8 + (3 : Int32)).toNatClampNeg) z23 h26) (va_cwS 1 hts gX11_held_X11_monthTold rfl rfl rfl zdX11_monthTold ⟨Nat.le_of_ble_eq_true rfl, Nat.le_of_ble_eq_true rfl⟩) hK hN hg hP hD hS hA rfl hl.1 rfl (Nat.le_of_ble_eq_true rfl) dX11_held_80 ⟨Nat.le_of_ble_eq_true rfl, Nat.le_of_ble_eq_true rfl⟩) hD hS hA (fun H locs hP hD hS => ?_)
      refine lv_i2l hx hb dX11_held_83 rfl ?_
      obtain ⟨r27, z29, h28, hm⟩ := zz_b2_some hm
      refine zz_callv (zz_runV (w := wR y a) (As := [.long r25.toInt64]) (rest := []) ⟨hx, hb, hml, hown, hts⟩ (zX11_tell l D y a H.size r25.toInt64 z23 h28) (cwV 1 hts gX11_held_X11_tell rfl rfl rfl zdX11_tell ⟨Nat.le_of_ble_eq_true rfl, Nat.le_of_ble_eq_true rfl⟩) hK hN hg hP hD hS hA 0 (wR_0 y a z23) rfl rfl hl.1 rfl (Nat.le_of_ble_eq_true rfl) dX11_held_84 ⟨Nat.le_of_ble_eq_true rfl, Nat.le_of_ble_eq_true rfl⟩) hD hS hA (fun H locs hP hD hS => ?_)
      refine lv_aload_n hx hb dX11_held_87 rfl (lv_at hl 1 rfl) ?_
      refine lv_aload_n hx hb dX11_held_88 rfl (lv_at hl 1 rfl) ?_
      refine va_get (D := D) (ci := 11) (v := .ref (a 6)) (C := RX11) (T := TX11) (N := 35) hx hb hts nX11_held_X11 hown hK hP 0 (wR_0 y a z29) rfl 7 (by decide) (hts (.fieldLink RX11 25 "WorksDeskModel" "sets" "[I") (List.mem_of_getElem? (i := 3) rfl)) (fun _ h9 => h9) rfl dX11_held_89 ?_
      refine lv_iload_n hx hb dX11_held_92 rfl (lv_at hl 0 rfl) ?_
      refine lv_iconst (v := (4 : Int32)) hx hb dX11_held_93 (by decide) ?_
      refine lv_iadd hx hb dX11_held_94 ?_
      obtain ⟨c30, hm⟩ := zz_ck_some hm
      refine va_iald hx hb hK hP 6 0 (wR_6 y a z29) rfl c30 dX11_held_95 ?_
      refine lv_i2l hx hb dX11_held_96 rfl ?_
      obtain ⟨r31, z33, h32, hm⟩ := zz_b2_some hm
      refine zz_callv (zz_runV (w := wR y a) (As := [.long ((z29.1 6 (n8 + (4 : Int32)).toNatClampNeg).toInt64)]) (rest := []) ⟨hx, hb, hml, hown, hts⟩ (zX11_tell l D y a H.size ((z29.1 6 (n8 + (4 : Int32)).toNatClampNeg).toInt64) z29 h32) (cwV 1 hts gX11_held_X11_tell rfl rfl rfl zdX11_tell ⟨Nat.le_of_ble_eq_true rfl, Nat.le_of_ble_eq_true rfl⟩) hK hN hg hP hD hS hA 0 (wR_0 y a z29) rfl rfl hl.1 rfl (Nat.le_of_ble_eq_true rfl) dX11_held_97 ⟨Nat.le_of_ble_eq_true rfl, Nat.le_of_ble_eq_true rfl⟩) hD hS hA (fun H locs hP hD hS => ?_)
      refine lv_aload_n hx hb dX11_held_100 rfl (lv_at hl 1 rfl) ?_
      refine lv_iload_n hx hb dX11_held_101 rfl (lv_at hl 2 rfl) ?_
      refine lv_iload_n hx hb dX11_held_102 rfl (lv_at hl 3 rfl) ?_
      obtain ⟨r34, h35, hm⟩ := zz_b1_some hm
      refine zz_calli (zz_runV (w := wR y a) (As := [.int x1, .int x2]) (rest := []) ⟨hx, hb, hml, hown, hts⟩ (zX11_heldOf l D y a H.size x1 x2 z33 h35) (cwV 2 hts gX11_held_X11_heldOf rfl rfl rfl zdX11_heldOf ⟨Nat.le_of_ble_eq_true rfl, Nat.le_of_ble_eq_true rfl⟩) hK hN hg hP hD hS hA 0 (wR_0 y a z33) rfl rfl hl.1 rfl (Nat.le_of_ble_eq_true rfl) dX11_held_103 ⟨Nat.le_of_ble_eq_true rfl, Nat.le_of_ble_eq_true rfl⟩) hD hS hA (fun H locs hP hD hS => ?_)
      exact zz_iret hx hb hr hlocks (zz_some2 hm) hP hK hD hS dX11_held_106
    · replace hm := zz_pos c7 hm
      have j := J20 z1 hm
      rw [hG] at j
      exact j H locs ls hP hD hS (lv_sub hl [] rfl)
def mX11_isIndex_b26 (t0 : Int32) : Option Int32 := zz_ck (zz_bool t0) (some t0)
def mX11_isIndex_b25 : Option Int32 := mX11_isIndex_b26 (0 : Int32)
def mX11_isIndex (x0 : Int32) (x1 : Int32) : Option Int32 := zz_b1 (mX11_isMonth x0) (fun r2 => if r2 = (0 : Int32) then (mX11_isIndex_b25) else (zz_b1 (mX11_in x1.toInt64 (500 : Int64) (2000 : Int64)) (fun r5 => if r5 = (0 : Int32) then (mX11_isIndex_b25) else (mX11_isIndex_b26 (1 : Int32)))))
theorem zdX11_isIndex : yX11_isIndex.cls ≠ "java/lang/invoke/MethodHandle" ∧ yX11_isIndex.cls ≠ "java/lang/invoke/VarHandle" ∧ (parseMethodDescriptor yX11_isIndex.desc).map (fun d => d.parameters.length) = some 2 := by decide +kernel
set_option maxHeartbeats 4000000 in
set_option maxRecDepth 100000 in
theorem zX11_isIndex (l : Launch) (D : va_G) (y : Nat → ClassId) (a : Nat → Nat) (sz : Nat) (x0 : Int32) (x1 : Int32) (z : zz_M) {r : Int32} (hm : mX11_isIndex x0 x1 = some r) : Met l yX11_isIndex wsX11_isIndex { frames := 2, cells := 0, slots := 0, locals := 45 } (zz_Pc D y (wR y a z) sz [.int x0, .int x1]) (zz_Qi D y (wR y a) (va_A (wR y a z) sz) r z) 0 0 (va_A (wR y a z) sz) := by
  refine Met.ofW (cc := cX11_isIndex) (maxL := 2) (ret := (some .boolean)) (by decide) rfl ?_
  intro p e s m args below meth c s₁ B hml hv
  obtain ⟨rfl, hsz, hP, hK, hD0, hN, hg⟩ := hv
  have hx := B.exec
  have hb := B.bytes
  have hr := B.returns
  have hts := atoms_spec (ws := wsX11_isIndex) B.pre
  have hown : s.vm.findClass RX11 = some m.cls := findClass_of_methodNamed B.named
  have hlocks := B.notSynchronized
  clear B
  subst hsz
  have hD := hD0.self (sz := s.heap.size)
  generalize hAe : va_A (wR y a z) s.heap.size = A at hD hg ⊢
  have hA : ∀ q : Nat, s.heap.size ≤ q → A q := fun q h => by rw [← hAe]; exact Or.inr h
  clear hAe hD0
  have hl := lv_entry ([.int x0, .int x1]) (n := 2) (Nat.le_of_ble_eq_true rfl)
  rw [lg_entry_eq]
  generalize (lg_sl ([.int x0, .int x1]) ++ List.replicate (2 - (lg_sl ([.int x0, .int x1])).length) Slot.unset).toArray = ls at hl ⊢
  replace hl : lv_has ls 2 [(0, .int x0), (1, .int x1)] := hl
  refine zz_go (w := wR y a) hP hD va_S.rf hl (fun G hG => ?_)
  clear hP hD hl ls
  have J26 : ∀ (t0 : Int32), mX11_isIndex_b26 t0 = some r → G 26 [] [.int t0] z := by
    intro t0 hm
    rw [mX11_isIndex_b26] at hm
    rw [hG]
    intro H locs ls hP hD hS hl
    obtain ⟨c1, hm⟩ := zz_ck_some hm
    exact zz_zret hx hb hr hlocks c1 ⟨zz_some1 hm, rfl⟩ hP hK hD hS dX11_isIndex_26
  have J25 : mX11_isIndex_b25 = some r → G 25 [] [] z := by
    intro hm
    rw [mX11_isIndex_b25] at hm
    rw [hG]
    intro H locs ls hP hD hS hl
    refine lv_iconst (v := (0 : Int32)) hx hb dX11_isIndex_25 (by decide) ?_
    have j := J26 (0 : Int32) hm
    rw [hG] at j
    exact j H locs ls hP hD hS (lv_sub hl [] rfl)
  rw [hG]
  intro H locs ls hP hD hS hl
  unfold mX11_isIndex at hm
  refine lv_iload_n hx hb dX11_isIndex_0 rfl (lv_at hl 0 rfl) ?_
  obtain ⟨r2, h3, hm⟩ := zz_b1_some hm
  refine zz_calli (zz_runS (w := wR y a) (As := [.int x0]) (rest := []) ⟨hx, hb, hml, hown, hts⟩ (zX11_isMonth l D y a H.size x0 z h3) (va_cwS 1 hts gX11_isIndex_X11_isMonth rfl rfl rfl zdX11_isMonth ⟨Nat.le_of_ble_eq_true rfl, Nat.le_of_ble_eq_true rfl⟩) hK hN hg hP hD hS hA rfl hl.1 rfl (Nat.le_of_ble_eq_true rfl) dX11_isIndex_1 ⟨Nat.le_of_ble_eq_true rfl, Nat.le_of_ble_eq_true rfl⟩) hD hS hA (fun H locs hP hD hS => ?_)
  refine lv_if_eq (tgt := 25) hx hb dX11_isIndex_4 (by decide) (fun c4 => ?_) (fun c4 => ?_)
  · replace hm := zz_pos c4 hm
    have j := J25 hm
    rw [hG] at j
    exact j H locs ls hP hD hS (lv_sub hl [] rfl)
  · replace hm := zz_neg c4 hm
    refine lv_iload_n hx hb dX11_isIndex_7 rfl (lv_at hl 1 rfl) ?_
    refine lv_i2l hx hb dX11_isIndex_8 rfl ?_
    refine lv_ldc2 (v := (500 : Int64)) hx hb hown (hts (.constantLong RX11 204 (500)) (List.mem_of_getElem? (i := 1) rfl)) dX11_isIndex_9 ?_
    refine lv_ldc2 (v := (2000 : Int64)) hx hb hown (hts (.constantLong RX11 206 (2000)) (List.mem_of_getElem? (i := 2) rfl)) dX11_isIndex_12 ?_
    obtain ⟨r5, h6, hm⟩ := zz_b1_some hm
    refine zz_calli (zz_runS (w := wR y a) (As := [.long x1.toInt64, .long (500 : Int64), .long (2000 : Int64)]) (rest := []) ⟨hx, hb, hml, hown, hts⟩ (zX11_in l D y a H.size x1.toInt64 (500 : Int64) (2000 : Int64) z h6) (va_cwS 3 hts gX11_isIndex_X11_in rfl rfl rfl zdX11_in ⟨Nat.le_of_ble_eq_true rfl, Nat.le_of_ble_eq_true rfl⟩) hK hN hg hP hD hS hA rfl hl.1 rfl (Nat.le_of_ble_eq_true rfl) dX11_isIndex_15 ⟨Nat.le_of_ble_eq_true rfl, Nat.le_of_ble_eq_true rfl⟩) hD hS hA (fun H locs hP hD hS => ?_)
    refine lv_if_eq (tgt := 25) hx hb dX11_isIndex_18 (by decide) (fun c7 => ?_) (fun c7 => ?_)
    · replace hm := zz_pos c7 hm
      have j := J25 hm
      rw [hG] at j
      exact j H locs ls hP hD hS (lv_sub hl [] rfl)
    · replace hm := zz_neg c7 hm
      refine lv_iconst (v := (1 : Int32)) hx hb dX11_isIndex_21 (by decide) ?_
      refine lv_goto (tgt := 26) hx hb dX11_isIndex_22 (by decide) ?_
      have j := J26 (1 : Int32) hm
      rw [hG] at j
      exact j H locs ls hP hD hS (lv_sub hl [] rfl)
def mX11_indexes (x1 : Int32) (x2 : Int32) (z : zz_M) : Option (Int32 × zz_M) := zz_nm (zz_sF z 19 (0 : Int32)) (fun z1 => zz_b1 (mX11_isIndex x1 x2) (fun r2 => if r2 = (0 : Int32) then (some ((-1 : Int32), z1)) else (zz_ck (zz_in x1 24) (if (z1.1 7 x1.toNatClampNeg) = x2 then (some ((-2 : Int32), z1)) else (zz_b1 (mX11_indexIn x1 z1) (fun r7 => zz_ck (zz_in x1 24) (zz_nm (zz_wI z1 7 x1 x2) (fun z10 => some (r7, z10)))))))))
theorem nX11_indexes_X11 : ∀ w ∈ wsX110, w ∈ wsX11_indexes := fun _ h => List.mem_cons_of_mem _ (List.mem_append_right _ (h))
theorem zdX11_indexes : yX11_indexes.cls = RX11 ∧ yX11_indexes.cls ≠ "java/lang/invoke/MethodHandle" ∧ yX11_indexes.cls ≠ "java/lang/invoke/VarHandle" ∧ (parseMethodDescriptor yX11_indexes.desc).map (fun d => d.parameters.length) = some 2 := by decide +kernel
set_option maxHeartbeats 4000000 in
set_option maxRecDepth 100000 in
theorem zX11_indexes (l : Launch) (D : va_G) (y : Nat → ClassId) (a : Nat → Nat) (sz : Nat) (x1 : Int32) (x2 : Int32) (z : zz_M) {r : Int32} {zt : zz_M} (hm : mX11_indexes x1 x2 z = some (r, zt)) : Met l yX11_indexes wsX11_indexes { frames := 3, cells := 0, slots := 0, locals := 66 } (zz_Pc D y (wR y a z) sz [.ref (a 0), .int x1, .int x2]) (zz_Qi D y (wR y a) (va_A (wR y a z) sz) r zt) 0 0 (va_A (wR y a z) sz) := by
  refine Met.ofW (cc := cX11_indexes) (maxL := 4) (ret := (some .int)) (by decide) rfl ?_
  intro p e s m args below meth c s₁ B hml hv
  obtain ⟨rfl, hsz, hP, hK, hD0, hN, hg⟩ := hv
  have hx := B.exec
  have hb := B.bytes
  have hr := B.returns
  have hts := atoms_spec (ws := wsX11_indexes) B.pre
  have hown : s.vm.findClass RX11 = some m.cls := findClass_of_methodNamed B.named
  have hlocks := B.notSynchronized
  clear B
  subst hsz
  have hD := hD0.self (sz := s.heap.size)
  generalize hAe : va_A (wR y a z) s.heap.size = A at hD hg ⊢
  have hA : ∀ q : Nat, s.heap.size ≤ q → A q := fun q h => by rw [← hAe]; exact Or.inr h
  clear hAe hD0
  have hl := lv_entry ([.ref (a 0), .int x1, .int x2]) (n := 4) (Nat.le_of_ble_eq_true rfl)
  rw [lg_entry_eq]
  generalize (lg_sl ([.ref (a 0), .int x1, .int x2]) ++ List.replicate (4 - (lg_sl ([.ref (a 0), .int x1, .int x2])).length) Slot.unset).toArray = ls at hl ⊢
  replace hl : lv_has ls 4 [(0, .ref (a 0)), (1, .int x1), (2, .int x2)] := hl
  refine zz_go (w := wR y a) hP hD va_S.rf hl (fun G hG => ?_)
  clear hP hD hl ls
  rw [hG]
  intro H locs ls hP hD hS hl
  unfold mX11_indexes at hm
  refine lv_aload_n hx hb dX11_indexes_0 rfl (lv_at hl 0 rfl) ?_
  refine lv_iconst (v := (0 : Int32)) hx hb dX11_indexes_1 (by decide) ?_
  refine va_put (D := D) (ci := 11) (v := .int (0 : Int32)) (ty := .int) (C := RX11) (T := TX11) (N := 35) hx hb hts nX11_indexes_X11 tyX11 tyX11_ok nmX11 hown hK hP hD hS 0 (wR_0 y a z) rfl 19 (by decide) (hts (.fieldLink RX11 97 "WorksDeskModel" "thrown" "I") (List.mem_of_getElem? (i := 1) rfl)) (fun _ h9 => h9) rfl (tyX11_ok 19 (by decide)) rfl rfl (Nat.le_of_ble_eq_true rfl) dX11_indexes_2 (fun H locs hP hD hS => ?_)
  obtain ⟨z1, hP, hD, hm⟩ := zz_up (w := wR y a) (wR_f19 y a z (0 : Int32)) hP hD hm
  refine lv_iload_n hx hb dX11_indexes_5 rfl (lv_at hl 1 rfl) ?_
  refine lv_iload_n hx hb dX11_indexes_6 rfl (lv_at hl 2 rfl) ?_
  obtain ⟨r2, h3, hm⟩ := zz_b1_some hm
  refine zz_calli (zz_runS (w := wR y a) (As := [.int x1, .int x2]) (rest := []) ⟨hx, hb, hml, hown, hts⟩ (zX11_isIndex l D y a H.size x1 x2 z1 h3) (va_cwS 2 hts gX11_indexes_X11_isIndex rfl rfl rfl zdX11_isIndex ⟨Nat.le_of_ble_eq_true rfl, Nat.le_of_ble_eq_true rfl⟩) hK hN hg hP hD hS hA rfl hl.1 rfl (Nat.le_of_ble_eq_true rfl) dX11_indexes_7 ⟨Nat.le_of_ble_eq_true rfl, Nat.le_of_ble_eq_true rfl⟩) hD hS hA (fun H locs hP hD hS => ?_)
  refine lv_if_ne (tgt := 15) hx hb dX11_indexes_10 (by decide) (fun c4 => ?_) (fun c4 => ?_)
  · replace hm := zz_neg c4 hm
    refine lv_aload_n hx hb dX11_indexes_15 rfl (lv_at hl 0 rfl) ?_
    refine va_get (D := D) (ci := 11) (v := .ref (a 7)) (C := RX11) (T := TX11) (N := 35) hx hb hts nX11_indexes_X11 hown hK hP 0 (wR_0 y a z1) rfl 13 (by decide) (hts (.fieldLink RX11 28 "WorksDeskModel" "index" "[I") (List.mem_of_getElem? (i := 2) rfl)) (fun _ h9 => h9) rfl dX11_indexes_16 ?_
    refine lv_iload_n hx hb dX11_indexes_19 rfl (lv_at hl 1 rfl) ?_
    obtain ⟨c5, hm⟩ := zz_ck_some hm
    refine va_iald hx hb hK hP 7 0 (wR_7 y a z1) rfl c5 dX11_indexes_20 ?_
    refine lv_iload_n hx hb dX11_indexes_21 rfl (lv_at hl 2 rfl) ?_
    refine lv_icmp_ne (tgt := 28) hx hb dX11_indexes_22 (by decide) (fun c6 => ?_) (fun c6 => ?_)
    · replace hm := zz_neg c6 hm
      refine lv_aload_n hx hb dX11_indexes_28 rfl (lv_at hl 0 rfl) ?_
      refine lv_iload_n hx hb dX11_indexes_29 rfl (lv_at hl 1 rfl) ?_
      obtain ⟨r7, h8, hm⟩ := zz_b1_some hm
      refine zz_calli (zz_runV (w := wR y a) (As := [.int x1]) (rest := []) ⟨hx, hb, hml, hown, hts⟩ (zX11_indexIn l D y a H.size x1 z1 h8) (cwV 1 hts gX11_indexes_X11_indexIn rfl rfl rfl zdX11_indexIn ⟨Nat.le_of_ble_eq_true rfl, Nat.le_of_ble_eq_true rfl⟩) hK hN hg hP hD hS hA 0 (wR_0 y a z1) rfl rfl hl.1 rfl (Nat.le_of_ble_eq_true rfl) dX11_indexes_30 ⟨Nat.le_of_ble_eq_true rfl, Nat.le_of_ble_eq_true rfl⟩) hD hS hA (fun H locs hP hD hS => ?_)
      refine lv_istore_n (lv' := [(3, .int r7), (0, .ref (a 0)), (1, .int x1), (2, .int x2)]) hx hb dX11_indexes_33 rfl hl (by decide) rfl (fun ls hl => ?_)
      refine lv_aload_n hx hb dX11_indexes_34 rfl (lv_at hl 1 rfl) ?_
      refine va_get (D := D) (ci := 11) (v := .ref (a 7)) (C := RX11) (T := TX11) (N := 35) hx hb hts nX11_indexes_X11 hown hK hP 0 (wR_0 y a z1) rfl 13 (by decide) (hts (.fieldLink RX11 28 "WorksDeskModel" "index" "[I") (List.mem_of_getElem? (i := 2) rfl)) (fun _ h9 => h9) rfl dX11_indexes_35 ?_
      refine lv_iload_n hx hb dX11_indexes_38 rfl (lv_at hl 2 rfl) ?_
      refine lv_iload_n hx hb dX11_indexes_39 rfl (lv_at hl 3 rfl) ?_
      obtain ⟨c9, hm⟩ := zz_ck_some hm
      refine va_iast hx hb hK hP hD hS 7 0 (wR_7 y a z1) rfl c9 dX11_indexes_40 (fun H locs hP hD hS => ?_)
      obtain ⟨z10, hP, hD, hm⟩ := zz_up (w := wR y a) (wR_w7 y a z1 x1 x2) hP hD hm
      refine lv_iload_n hx hb dX11_indexes_41 rfl (lv_at hl 0 rfl) ?_
      exact zz_iret hx hb hr hlocks (zz_some2 hm) hP hK hD hS dX11_indexes_42
    · replace hm := zz_pos c6 hm
      refine lv_bipush (v := (-2 : Int32)) hx hb dX11_indexes_25 (by decide) ?_
      exact zz_iret hx hb hr hlocks (zz_some2 hm) hP hK hD hS dX11_indexes_27
  · replace hm := zz_pos c4 hm
    refine lv_iconst (v := (-1 : Int32)) hx hb dX11_indexes_13 (by decide) ?_
    exact zz_iret hx hb hr hlocks (zz_some2 hm) hP hK hD hS dX11_indexes_14
def mX11_isMeasure_b32 (z : zz_M) (t0 : Int32) : Option Int32 := zz_ck (zz_bool t0) (some t0)
def mX11_isMeasure_b31 (z : zz_M) : Option Int32 := mX11_isMeasure_b32 z (0 : Int32)
def mX11_isMeasure (x1 : Int32) (x2 : Int32) (x3 : Int32) (z : zz_M) : Option Int32 := zz_b1 (mX11_isMonth x1) (fun r2 => if r2 = (0 : Int32) then (mX11_isMeasure_b31 z) else (zz_b1 (mX11_isItem x2 z) (fun r5 => if r5 = (0 : Int32) then (mX11_isMeasure_b31 z) else (zz_b1 (mX11_in x3.toInt64 (0 : Int64) (1999 : Int64)) (fun r8 => if r8 = (0 : Int32) then (mX11_isMeasure_b31 z) else (mX11_isMeasure_b32 z (1 : Int32)))))))
theorem zdX11_isMeasure : yX11_isMeasure.cls = RX11 ∧ yX11_isMeasure.cls ≠ "java/lang/invoke/MethodHandle" ∧ yX11_isMeasure.cls ≠ "java/lang/invoke/VarHandle" ∧ (parseMethodDescriptor yX11_isMeasure.desc).map (fun d => d.parameters.length) = some 3 := by decide +kernel
set_option maxHeartbeats 4000000 in
set_option maxRecDepth 100000 in
theorem zX11_isMeasure (l : Launch) (D : va_G) (y : Nat → ClassId) (a : Nat → Nat) (sz : Nat) (x1 : Int32) (x2 : Int32) (x3 : Int32) (z : zz_M) {r : Int32} (hm : mX11_isMeasure x1 x2 x3 z = some r) : Met l yX11_isMeasure wsX11_isMeasure { frames := 2, cells := 0, slots := 0, locals := 46 } (zz_Pc D y (wR y a z) sz [.ref (a 0), .int x1, .int x2, .int x3]) (zz_Qi D y (wR y a) (va_A (wR y a z) sz) r z) 0 0 (va_A (wR y a z) sz) := by
  refine Met.ofW (cc := cX11_isMeasure) (maxL := 4) (ret := (some .boolean)) (by decide) rfl ?_
  intro p e s m args below meth c s₁ B hml hv
  obtain ⟨rfl, hsz, hP, hK, hD0, hN, hg⟩ := hv
  have hx := B.exec
  have hb := B.bytes
  have hr := B.returns
  have hts := atoms_spec (ws := wsX11_isMeasure) B.pre
  have hown : s.vm.findClass RX11 = some m.cls := findClass_of_methodNamed B.named
  have hlocks := B.notSynchronized
  clear B
  subst hsz
  have hD := hD0.self (sz := s.heap.size)
  generalize hAe : va_A (wR y a z) s.heap.size = A at hD hg ⊢
  have hA : ∀ q : Nat, s.heap.size ≤ q → A q := fun q h => by rw [← hAe]; exact Or.inr h
  clear hAe hD0
  have hl := lv_entry ([.ref (a 0), .int x1, .int x2, .int x3]) (n := 4) (Nat.le_of_ble_eq_true rfl)
  rw [lg_entry_eq]
  generalize (lg_sl ([.ref (a 0), .int x1, .int x2, .int x3]) ++ List.replicate (4 - (lg_sl ([.ref (a 0), .int x1, .int x2, .int x3])).length) Slot.unset).toArray = ls at hl ⊢
  replace hl : lv_has ls 4 [(0, .ref (a 0)), (1, .int x1), (2, .int x2), (3, .int x3)] := hl
  refine zz_go (w := wR y a) hP hD va_S.rf hl (fun G hG => ?_)
  clear hP hD hl ls
  have J32 : ∀ (t0 : Int32), mX11_isMeasure_b32 z t0 = some r → G 32 [] [.int t0] z := by
    intro t0 hm
    rw [mX11_isMeasure_b32] at hm
    rw [hG]
    intro H locs ls hP hD hS hl
    obtain ⟨c1, hm⟩ := zz_ck_some hm
    exact zz_zret hx hb hr hlocks c1 ⟨zz_some1 hm, rfl⟩ hP hK hD hS dX11_isMeasure_32
  have J31 : mX11_isMeasure_b31 z = some r → G 31 [] [] z := by
    intro hm
    rw [mX11_isMeasure_b31] at hm
    rw [hG]
    intro H locs ls hP hD hS hl
    refine lv_iconst (v := (0 : Int32)) hx hb dX11_isMeasure_31 (by decide) ?_
    have j := J32 (0 : Int32) hm
    rw [hG] at j
    exact j H locs ls hP hD hS (lv_sub hl [] rfl)
  rw [hG]
  intro H locs ls hP hD hS hl
  unfold mX11_isMeasure at hm
  refine lv_iload_n hx hb dX11_isMeasure_0 rfl (lv_at hl 1 rfl) ?_
  obtain ⟨r2, h3, hm⟩ := zz_b1_some hm
  refine zz_calli (zz_runS (w := wR y a) (As := [.int x1]) (rest := []) ⟨hx, hb, hml, hown, hts⟩ (zX11_isMonth l D y a H.size x1 z h3) (va_cwS 1 hts gX11_isMeasure_X11_isMonth rfl rfl rfl zdX11_isMonth ⟨Nat.le_of_ble_eq_true rfl, Nat.le_of_ble_eq_true rfl⟩) hK hN hg hP hD hS hA rfl hl.1 rfl (Nat.le_of_ble_eq_true rfl) dX11_isMeasure_1 ⟨Nat.le_of_ble_eq_true rfl, Nat.le_of_ble_eq_true rfl⟩) hD hS hA (fun H locs hP hD hS => ?_)
  refine lv_if_eq (tgt := 31) hx hb dX11_isMeasure_4 (by decide) (fun c4 => ?_) (fun c4 => ?_)
  · replace hm := zz_pos c4 hm
    have j := J31 hm
    rw [hG] at j
    exact j H locs ls hP hD hS (lv_sub hl [] rfl)
  · replace hm := zz_neg c4 hm
    refine lv_aload_n hx hb dX11_isMeasure_7 rfl (lv_at hl 0 rfl) ?_
    refine lv_iload_n hx hb dX11_isMeasure_8 rfl (lv_at hl 2 rfl) ?_
    obtain ⟨r5, h6, hm⟩ := zz_b1_some hm
    refine zz_calli (zz_runV (w := wR y a) (As := [.int x2]) (rest := []) ⟨hx, hb, hml, hown, hts⟩ (zX11_isItem l D y a H.size x2 z h6) (cwV 1 hts gX11_isMeasure_X11_isItem rfl rfl rfl zdX11_isItem ⟨Nat.le_of_ble_eq_true rfl, Nat.le_of_ble_eq_true rfl⟩) hK hN hg hP hD hS hA 0 (wR_0 y a z) rfl rfl hl.1 rfl (Nat.le_of_ble_eq_true rfl) dX11_isMeasure_9 ⟨Nat.le_of_ble_eq_true rfl, Nat.le_of_ble_eq_true rfl⟩) hD hS hA (fun H locs hP hD hS => ?_)
    refine lv_if_eq (tgt := 31) hx hb dX11_isMeasure_12 (by decide) (fun c7 => ?_) (fun c7 => ?_)
    · replace hm := zz_pos c7 hm
      have j := J31 hm
      rw [hG] at j
      exact j H locs ls hP hD hS (lv_sub hl [] rfl)
    · replace hm := zz_neg c7 hm
      refine lv_iload_n hx hb dX11_isMeasure_15 rfl (lv_at hl 3 rfl) ?_
      refine lv_i2l hx hb dX11_isMeasure_16 rfl ?_
      refine lv_lconst (v := (0 : Int64)) hx hb dX11_isMeasure_17 (by decide) ?_
      refine lv_ldc2 (v := (1999 : Int64)) hx hb hown (hts (.constantLong RX11 159 (1999)) (List.mem_of_getElem? (i := 1) rfl)) dX11_isMeasure_18 ?_
      obtain ⟨r8, h9, hm⟩ := zz_b1_some hm
      refine zz_calli (zz_runS (w := wR y a) (As := [.long x3.toInt64, .long (0 : Int64), .long (1999 : Int64)]) (rest := []) ⟨hx, hb, hml, hown, hts⟩ (zX11_in l D y a H.size x3.toInt64 (0 : Int64) (1999 : Int64) z h9) (va_cwS 3 hts gX11_isMeasure_X11_in rfl rfl rfl zdX11_in ⟨Nat.le_of_ble_eq_true rfl, Nat.le_of_ble_eq_true rfl⟩) hK hN hg hP hD hS hA rfl hl.1 rfl (Nat.le_of_ble_eq_true rfl) dX11_isMeasure_21 ⟨Nat.le_of_ble_eq_true rfl, Nat.le_of_ble_eq_true rfl⟩) hD hS hA (fun H locs hP hD hS => ?_)
      refine lv_if_eq (tgt := 31) hx hb dX11_isMeasure_24 (by decide) (fun c10 => ?_) (fun c10 => ?_)
      · replace hm := zz_pos c10 hm
        have j := J31 hm
        rw [hG] at j
        exact j H locs ls hP hD hS (lv_sub hl [] rfl)
      · replace hm := zz_neg c10 hm
        refine lv_iconst (v := (1 : Int32)) hx hb dX11_isMeasure_27 (by decide) ?_
        refine lv_goto (tgt := 32) hx hb dX11_isMeasure_28 (by decide) ?_
        have j := J32 (1 : Int32) hm
        rw [hG] at j
        exact j H locs ls hP hD hS (lv_sub hl [] rfl)
def mX11_mostOf_b89 : Option Int32 := some (1000 : Int32)
def mX11_mostOf_b79 : Option Int32 := some (500 : Int32)
def mX11_mostOf_b68 : Option Int32 := some (200 : Int32)
def mX11_mostOf (x0 : Int32) : Option Int32 := if x0 = (0 : Int32) then (mX11_mostOf_b68) else (if x0 = (1 : Int32) then (mX11_mostOf_b68) else (if x0 = (2 : Int32) then (mX11_mostOf_b89) else (if x0 = (3 : Int32) then (some (300 : Int32)) else (if x0 = (4 : Int32) then (mX11_mostOf_b79) else (if x0 = (5 : Int32) then (mX11_mostOf_b89) else (if x0 = (6 : Int32) then (mX11_mostOf_b89) else (if x0 = (7 : Int32) then (some (100 : Int32)) else (if x0 = (8 : Int32) then (some (6 : Int32)) else (if x0 = (9 : Int32) then (mX11_mostOf_b79) else (if x0 = (10 : Int32) then (mX11_mostOf_b89) else (if x0 = (11 : Int32) then (some (50 : Int32)) else (if x0 = (12 : Int32) then (mX11_mostOf_b68) else (mX11_mostOf_b89)))))))))))))
theorem zdX11_mostOf : yX11_mostOf.cls ≠ "java/lang/invoke/MethodHandle" ∧ yX11_mostOf.cls ≠ "java/lang/invoke/VarHandle" ∧ (parseMethodDescriptor yX11_mostOf.desc).map (fun d => d.parameters.length) = some 1 := by decide +kernel
set_option maxHeartbeats 4000000 in
set_option maxRecDepth 100000 in
theorem zX11_mostOf (l : Launch) (D : va_G) (y : Nat → ClassId) (a : Nat → Nat) (sz : Nat) (x0 : Int32) (z : zz_M) {r : Int32} (hm : mX11_mostOf x0 = some r) : Met l yX11_mostOf wsX11_mostOf { frames := 0, cells := 0, slots := 0, locals := 0 } (zz_Pc D y (wR y a z) sz [.int x0]) (zz_Qi D y (wR y a) (va_A (wR y a z) sz) r z) 0 0 (va_A (wR y a z) sz) := by
  refine Met.ofW (cc := cX11_mostOf) (maxL := 1) (ret := (some .int)) (by decide) rfl ?_
  intro p e s m args below meth c s₁ B hml hv
  obtain ⟨rfl, hsz, hP, hK, hD0, hN, hg⟩ := hv
  have hx := B.exec
  have hb := B.bytes
  have hr := B.returns
  have hts := atoms_spec (ws := wsX11_mostOf) B.pre
  have hown : s.vm.findClass RX11 = some m.cls := findClass_of_methodNamed B.named
  have hlocks := B.notSynchronized
  clear B
  subst hsz
  have hD := hD0.self (sz := s.heap.size)
  generalize hAe : va_A (wR y a z) s.heap.size = A at hD hg ⊢
  have hA : ∀ q : Nat, s.heap.size ≤ q → A q := fun q h => by rw [← hAe]; exact Or.inr h
  clear hAe hD0
  have hl := lv_entry ([.int x0]) (n := 1) (Nat.le_of_ble_eq_true rfl)
  rw [lg_entry_eq]
  generalize (lg_sl ([.int x0]) ++ List.replicate (1 - (lg_sl ([.int x0])).length) Slot.unset).toArray = ls at hl ⊢
  replace hl : lv_has ls 1 [(0, .int x0)] := hl
  refine zz_go (w := wR y a) hP hD va_S.rf hl (fun G hG => ?_)
  clear hP hD hl ls
  have J89 : mX11_mostOf_b89 = some r → G 89 [] [] z := by
    intro hm
    rw [mX11_mostOf_b89] at hm
    rw [hG]
    intro H locs ls hP hD hS hl
    refine lv_sipush (v := (1000 : Int32)) hx hb dX11_mostOf_89 (by decide) ?_
    exact zz_iret hx hb hr hlocks ⟨zz_some1 hm, rfl⟩ hP hK hD hS dX11_mostOf_92
  have J79 : mX11_mostOf_b79 = some r → G 79 [] [] z := by
    intro hm
    rw [mX11_mostOf_b79] at hm
    rw [hG]
    intro H locs ls hP hD hS hl
    refine lv_sipush (v := (500 : Int32)) hx hb dX11_mostOf_79 (by decide) ?_
    exact zz_iret hx hb hr hlocks ⟨zz_some1 hm, rfl⟩ hP hK hD hS dX11_mostOf_82
  have J68 : mX11_mostOf_b68 = some r → G 68 [] [] z := by
    intro hm
    rw [mX11_mostOf_b68] at hm
    rw [hG]
    intro H locs ls hP hD hS hl
    refine lv_sipush (v := (200 : Int32)) hx hb dX11_mostOf_68 (by decide) ?_
    exact zz_iret hx hb hr hlocks ⟨zz_some1 hm, rfl⟩ hP hK hD hS dX11_mostOf_71
  rw [hG]
  intro H locs ls hP hD hS hl
  unfold mX11_mostOf at hm
  refine lv_iload_n hx hb dX11_mostOf_0 rfl (lv_at hl 0 rfl) ?_
  by_cases c1 : x0 = (0 : Int32)
  · replace hm := zz_pos c1 hm
    refine lv_tableIn (tgt := 68) hx hb dX11_mostOf_1 (by rw [c1]; decide) (by rw [c1]; decide) (by rw [c1]; rfl) (by decide) ?_
    have j := J68 hm
    rw [hG] at j
    exact j H locs ls hP hD hS (lv_sub hl [] rfl)
  · replace hm := zz_neg c1 hm
    by_cases c2 : x0 = (1 : Int32)
    · replace hm := zz_pos c2 hm
      refine lv_tableIn (tgt := 68) hx hb dX11_mostOf_1 (by rw [c2]; decide) (by rw [c2]; decide) (by rw [c2]; rfl) (by decide) ?_
      have j := J68 hm
      rw [hG] at j
      exact j H locs ls hP hD hS (lv_sub hl [] rfl)
    · replace hm := zz_neg c2 hm
      by_cases c3 : x0 = (2 : Int32)
      · replace hm := zz_pos c3 hm
        refine lv_tableIn (tgt := 89) hx hb dX11_mostOf_1 (by rw [c3]; decide) (by rw [c3]; decide) (by rw [c3]; rfl) (by decide) ?_
        have j := J89 hm
        rw [hG] at j
        exact j H locs ls hP hD hS (lv_sub hl [] rfl)
      · replace hm := zz_neg c3 hm
        by_cases c4 : x0 = (3 : Int32)
        · replace hm := zz_pos c4 hm
          refine lv_tableIn (tgt := 75) hx hb dX11_mostOf_1 (by rw [c4]; decide) (by rw [c4]; decide) (by rw [c4]; rfl) (by decide) ?_
          refine lv_sipush (v := (300 : Int32)) hx hb dX11_mostOf_75 (by decide) ?_
          exact zz_iret hx hb hr hlocks ⟨zz_some1 hm, rfl⟩ hP hK hD hS dX11_mostOf_78
        · replace hm := zz_neg c4 hm
          by_cases c5 : x0 = (4 : Int32)
          · replace hm := zz_pos c5 hm
            refine lv_tableIn (tgt := 79) hx hb dX11_mostOf_1 (by rw [c5]; decide) (by rw [c5]; decide) (by rw [c5]; rfl) (by decide) ?_
            have j := J79 hm
            rw [hG] at j
            exact j H locs ls hP hD hS (lv_sub hl [] rfl)
          · replace hm := zz_neg c5 hm
            by_cases c6 : x0 = (5 : Int32)
            · replace hm := zz_pos c6 hm
              refine lv_tableIn (tgt := 89) hx hb dX11_mostOf_1 (by rw [c6]; decide) (by rw [c6]; decide) (by rw [c6]; rfl) (by decide) ?_
              have j := J89 hm
              rw [hG] at j
              exact j H locs ls hP hD hS (lv_sub hl [] rfl)
            · replace hm := zz_neg c6 hm
              by_cases c7 : x0 = (6 : Int32)
              · replace hm := zz_pos c7 hm
                refine lv_tableIn (tgt := 89) hx hb dX11_mostOf_1 (by rw [c7]; decide) (by rw [c7]; decide) (by rw [c7]; rfl) (by decide) ?_
                have j := J89 hm
                rw [hG] at j
                exact j H locs ls hP hD hS (lv_sub hl [] rfl)
              · replace hm := zz_neg c7 hm
                by_cases c8 : x0 = (7 : Int32)
                · replace hm := zz_pos c8 hm
                  refine lv_tableIn (tgt := 83) hx hb dX11_mostOf_1 (by rw [c8]; decide) (by rw [c8]; decide) (by rw [c8]; rfl) (by decide) ?_
                  refine lv_bipush (v := (100 : Int32)) hx hb dX11_mostOf_83 (by decide) ?_
                  exact zz_iret hx hb hr hlocks ⟨zz_some1 hm, rfl⟩ hP hK hD hS dX11_mostOf_85
                · replace hm := zz_neg c8 hm
                  by_cases c9 : x0 = (8 : Int32)
                  · replace hm := zz_pos c9 hm
                    refine lv_tableIn (tgt := 86) hx hb dX11_mostOf_1 (by rw [c9]; decide) (by rw [c9]; decide) (by rw [c9]; rfl) (by decide) ?_
                    refine lv_bipush (v := (6 : Int32)) hx hb dX11_mostOf_86 (by decide) ?_
                    exact zz_iret hx hb hr hlocks ⟨zz_some1 hm, rfl⟩ hP hK hD hS dX11_mostOf_88
                  · replace hm := zz_neg c9 hm
                    by_cases c10 : x0 = (9 : Int32)
                    · replace hm := zz_pos c10 hm
                      refine lv_tableIn (tgt := 79) hx hb dX11_mostOf_1 (by rw [c10]; decide) (by rw [c10]; decide) (by rw [c10]; rfl) (by decide) ?_
                      have j := J79 hm
                      rw [hG] at j
                      exact j H locs ls hP hD hS (lv_sub hl [] rfl)
                    · replace hm := zz_neg c10 hm
                      by_cases c11 : x0 = (10 : Int32)
                      · replace hm := zz_pos c11 hm
                        refine lv_tableIn (tgt := 89) hx hb dX11_mostOf_1 (by rw [c11]; decide) (by rw [c11]; decide) (by rw [c11]; rfl) (by decide) ?_
                        have j := J89 hm
                        rw [hG] at j
                        exact j H locs ls hP hD hS (lv_sub hl [] rfl)
                      · replace hm := zz_neg c11 hm
                        by_cases c12 : x0 = (11 : Int32)
                        · replace hm := zz_pos c12 hm
                          refine lv_tableIn (tgt := 72) hx hb dX11_mostOf_1 (by rw [c12]; decide) (by rw [c12]; decide) (by rw [c12]; rfl) (by decide) ?_
                          refine lv_bipush (v := (50 : Int32)) hx hb dX11_mostOf_72 (by decide) ?_
                          exact zz_iret hx hb hr hlocks ⟨zz_some1 hm, rfl⟩ hP hK hD hS dX11_mostOf_74
                        · replace hm := zz_neg c12 hm
                          by_cases c13 : x0 = (12 : Int32)
                          · replace hm := zz_pos c13 hm
                            refine lv_tableIn (tgt := 68) hx hb dX11_mostOf_1 (by rw [c13]; decide) (by rw [c13]; decide) (by rw [c13]; rfl) (by decide) ?_
                            have j := J68 hm
                            rw [hG] at j
                            exact j H locs ls hP hD hS (lv_sub hl [] rfl)
                          · replace hm := zz_neg c13 hm
                            refine lv_tableOut (tgt := 89) hx hb dX11_mostOf_1 (by have ec1 := lv_neT (a := 0) c1 (by decide); have ec2 := lv_neT (a := 1) c2 (by decide); have ec3 := lv_neT (a := 2) c3 (by decide); have ec4 := lv_neT (a := 3) c4 (by decide); have ec5 := lv_neT (a := 4) c5 (by decide); have ec6 := lv_neT (a := 5) c6 (by decide); have ec7 := lv_neT (a := 6) c7 (by decide); have ec8 := lv_neT (a := 7) c8 (by decide); have ec9 := lv_neT (a := 8) c9 (by decide); have ec10 := lv_neT (a := 9) c10 (by decide); have ec11 := lv_neT (a := 10) c11 (by decide); have ec12 := lv_neT (a := 11) c12 (by decide); have ec13 := lv_neT (a := 12) c13 (by decide); omega) (by decide) ?_
                            have j := J89 hm
                            rw [hG] at j
                            exact j H locs ls hP hD hS (lv_sub hl [] rfl)
def mX11_isTerm_b31 (t0 : Int32) : Option Int32 := zz_ck (zz_bool t0) (some t0)
def mX11_isTerm_b30 : Option Int32 := mX11_isTerm_b31 (0 : Int32)
def mX11_isTerm (x0 : Int32) (x1 : Int32) : Option Int32 := zz_b1 (mX11_in x0.toInt64 (0 : Int64) (13 : Int64)) (fun r2 => if r2 = (0 : Int32) then (mX11_isTerm_b30) else (zz_b1 (mX11_mostOf x0) (fun r5 => zz_b1 (mX11_in x1.toInt64 (0 : Int64) r5.toInt64) (fun r7 => if r7 = (0 : Int32) then (mX11_isTerm_b30) else (mX11_isTerm_b31 (1 : Int32))))))
theorem zdX11_isTerm : yX11_isTerm.cls ≠ "java/lang/invoke/MethodHandle" ∧ yX11_isTerm.cls ≠ "java/lang/invoke/VarHandle" ∧ (parseMethodDescriptor yX11_isTerm.desc).map (fun d => d.parameters.length) = some 2 := by decide +kernel
set_option maxHeartbeats 4000000 in
set_option maxRecDepth 100000 in
theorem zX11_isTerm (l : Launch) (D : va_G) (y : Nat → ClassId) (a : Nat → Nat) (sz : Nat) (x0 : Int32) (x1 : Int32) (z : zz_M) {r : Int32} (hm : mX11_isTerm x0 x1 = some r) : Met l yX11_isTerm wsX11_isTerm { frames := 1, cells := 0, slots := 0, locals := 25 } (zz_Pc D y (wR y a z) sz [.int x0, .int x1]) (zz_Qi D y (wR y a) (va_A (wR y a z) sz) r z) 0 0 (va_A (wR y a z) sz) := by
  refine Met.ofW (cc := cX11_isTerm) (maxL := 2) (ret := (some .boolean)) (by decide) rfl ?_
  intro p e s m args below meth c s₁ B hml hv
  obtain ⟨rfl, hsz, hP, hK, hD0, hN, hg⟩ := hv
  have hx := B.exec
  have hb := B.bytes
  have hr := B.returns
  have hts := atoms_spec (ws := wsX11_isTerm) B.pre
  have hown : s.vm.findClass RX11 = some m.cls := findClass_of_methodNamed B.named
  have hlocks := B.notSynchronized
  clear B
  subst hsz
  have hD := hD0.self (sz := s.heap.size)
  generalize hAe : va_A (wR y a z) s.heap.size = A at hD hg ⊢
  have hA : ∀ q : Nat, s.heap.size ≤ q → A q := fun q h => by rw [← hAe]; exact Or.inr h
  clear hAe hD0
  have hl := lv_entry ([.int x0, .int x1]) (n := 2) (Nat.le_of_ble_eq_true rfl)
  rw [lg_entry_eq]
  generalize (lg_sl ([.int x0, .int x1]) ++ List.replicate (2 - (lg_sl ([.int x0, .int x1])).length) Slot.unset).toArray = ls at hl ⊢
  replace hl : lv_has ls 2 [(0, .int x0), (1, .int x1)] := hl
  refine zz_go (w := wR y a) hP hD va_S.rf hl (fun G hG => ?_)
  clear hP hD hl ls
  have J31 : ∀ (t0 : Int32), mX11_isTerm_b31 t0 = some r → G 31 [] [.int t0] z := by
    intro t0 hm
    rw [mX11_isTerm_b31] at hm
    rw [hG]
    intro H locs ls hP hD hS hl
    obtain ⟨c1, hm⟩ := zz_ck_some hm
    exact zz_zret hx hb hr hlocks c1 ⟨zz_some1 hm, rfl⟩ hP hK hD hS dX11_isTerm_31
  have J30 : mX11_isTerm_b30 = some r → G 30 [] [] z := by
    intro hm
    rw [mX11_isTerm_b30] at hm
    rw [hG]
    intro H locs ls hP hD hS hl
    refine lv_iconst (v := (0 : Int32)) hx hb dX11_isTerm_30 (by decide) ?_
    have j := J31 (0 : Int32) hm
    rw [hG] at j
    exact j H locs ls hP hD hS (lv_sub hl [] rfl)
  rw [hG]
  intro H locs ls hP hD hS hl
  unfold mX11_isTerm at hm
  refine lv_iload_n hx hb dX11_isTerm_0 rfl (lv_at hl 0 rfl) ?_
  refine lv_i2l hx hb dX11_isTerm_1 rfl ?_
  refine lv_lconst (v := (0 : Int64)) hx hb dX11_isTerm_2 (by decide) ?_
  refine lv_ldc2 (v := (13 : Int64)) hx hb hown (hts (.constantLong RX11 142 (13)) (List.mem_of_getElem? (i := 1) rfl)) dX11_isTerm_3 ?_
  obtain ⟨r2, h3, hm⟩ := zz_b1_some hm
  refine zz_calli (zz_runS (w := wR y a) (As := [.long x0.toInt64, .long (0 : Int64), .long (13 : Int64)]) (rest := []) ⟨hx, hb, hml, hown, hts⟩ (zX11_in l D y a H.size x0.toInt64 (0 : Int64) (13 : Int64) z h3) (va_cwS 3 hts gX11_isTerm_X11_in rfl rfl rfl zdX11_in ⟨Nat.le_of_ble_eq_true rfl, Nat.le_of_ble_eq_true rfl⟩) hK hN hg hP hD hS hA rfl hl.1 rfl (Nat.le_of_ble_eq_true rfl) dX11_isTerm_6 ⟨Nat.le_of_ble_eq_true rfl, Nat.le_of_ble_eq_true rfl⟩) hD hS hA (fun H locs hP hD hS => ?_)
  refine lv_if_eq (tgt := 30) hx hb dX11_isTerm_9 (by decide) (fun c4 => ?_) (fun c4 => ?_)
  · replace hm := zz_pos c4 hm
    have j := J30 hm
    rw [hG] at j
    exact j H locs ls hP hD hS (lv_sub hl [] rfl)
  · replace hm := zz_neg c4 hm
    refine lv_iload_n hx hb dX11_isTerm_12 rfl (lv_at hl 1 rfl) ?_
    refine lv_i2l hx hb dX11_isTerm_13 rfl ?_
    refine lv_lconst (v := (0 : Int64)) hx hb dX11_isTerm_14 (by decide) ?_
    refine lv_iload_n hx hb dX11_isTerm_15 rfl (lv_at hl 0 rfl) ?_
    obtain ⟨r5, h6, hm⟩ := zz_b1_some hm
    refine zz_calli (zz_runS (w := wR y a) (As := [.int x0]) (rest := [.long (0 : Int64), .long x1.toInt64]) ⟨hx, hb, hml, hown, hts⟩ (zX11_mostOf l D y a H.size x0 z h6) (va_cwS 1 hts gX11_isTerm_X11_mostOf rfl rfl rfl zdX11_mostOf ⟨Nat.le_of_ble_eq_true rfl, Nat.le_of_ble_eq_true rfl⟩) hK hN hg hP hD hS hA rfl hl.1 rfl (Nat.le_of_ble_eq_true rfl) dX11_isTerm_16 ⟨Nat.le_of_ble_eq_true rfl, Nat.le_of_ble_eq_true rfl⟩) hD hS hA (fun H locs hP hD hS => ?_)
    refine lv_i2l hx hb dX11_isTerm_19 rfl ?_
    obtain ⟨r7, h8, hm⟩ := zz_b1_some hm
    refine zz_calli (zz_runS (w := wR y a) (As := [.long x1.toInt64, .long (0 : Int64), .long r5.toInt64]) (rest := []) ⟨hx, hb, hml, hown, hts⟩ (zX11_in l D y a H.size x1.toInt64 (0 : Int64) r5.toInt64 z h8) (va_cwS 3 hts gX11_isTerm_X11_in rfl rfl rfl zdX11_in ⟨Nat.le_of_ble_eq_true rfl, Nat.le_of_ble_eq_true rfl⟩) hK hN hg hP hD hS hA rfl hl.1 rfl (Nat.le_of_ble_eq_true rfl) dX11_isTerm_20 ⟨Nat.le_of_ble_eq_true rfl, Nat.le_of_ble_eq_true rfl⟩) hD hS hA (fun H locs hP hD hS => ?_)
    refine lv_if_eq (tgt := 30) hx hb dX11_isTerm_23 (by decide) (fun c9 => ?_) (fun c9 => ?_)
    · replace hm := zz_pos c9 hm
      have j := J30 hm
      rw [hG] at j
      exact j H locs ls hP hD hS (lv_sub hl [] rfl)
    · replace hm := zz_neg c9 hm
      refine lv_iconst (v := (1 : Int32)) hx hb dX11_isTerm_26 (by decide) ?_
      refine lv_goto (tgt := 31) hx hb dX11_isTerm_27 (by decide) ?_
      have j := J31 (1 : Int32) hm
      rw [hG] at j
      exact j H locs ls hP hD hS (lv_sub hl [] rfl)
def mX11_item_b67 (v1 : Int32) (v2 : Int32) (t0 : Int64) (z : zz_M) : Option (Int32 × zz_M) := zz_b2 (mX11_tell t0 z) (fun r1 z3 => zz_b1 (mX11_doneOf v1 v2 z3) (fun r4 => some (r4, z3)))
def mX11_item_b20 (z : zz_M) : Option (Int32 × zz_M) := some ((-1 : Int32), z)
def mX11_item (x1 : Int32) (x2 : Int32) (z : zz_M) : Option (Int32 × zz_M) := zz_nm (zz_sF z 19 (0 : Int32)) (fun z6 => zz_b1 (mX11_isMonth x1) (fun r7 => if r7 = (0 : Int32) then (mX11_item_b20 z6) else (zz_b1 (mX11_isItem x2 z6) (fun r10 => if r10 = (0 : Int32) then (mX11_item_b20 z6) else (zz_nm (zz_sF z6 18 (0 : Int32)) (fun z13 => zz_b1 (mX11_partOf x1 x2 z13) (fun r14 => zz_b2 (mX11_tell r14 z13) (fun r16 z18 => zz_b1 (mX11_grown x1 x2 z18) (fun r19 => zz_b2 (mX11_tell r19 z18) (fun r21 z23 => zz_b1 (mX11_doneOf x1 x2 z23) (fun r24 => zz_b1 (mX11_cap x2 z23) (fun r26 => if r24 ≤ r26 then (mX11_item_b67 x1 x2 (0 : Int64) z23) else (mX11_item_b67 x1 x2 (1 : Int64) z23)))))))))))))
theorem nX11_item_X11 : ∀ w ∈ wsX110, w ∈ wsX11_item := fun _ h => List.mem_cons_of_mem _ (List.mem_append_right _ (h))
theorem zdX11_item : yX11_item.cls = RX11 ∧ yX11_item.cls ≠ "java/lang/invoke/MethodHandle" ∧ yX11_item.cls ≠ "java/lang/invoke/VarHandle" ∧ (parseMethodDescriptor yX11_item.desc).map (fun d => d.parameters.length) = some 2 := by decide +kernel
set_option maxHeartbeats 4000000 in
set_option maxRecDepth 100000 in
theorem zX11_item (l : Launch) (D : va_G) (y : Nat → ClassId) (a : Nat → Nat) (sz : Nat) (x1 : Int32) (x2 : Int32) (z : zz_M) {r : Int32} {zt : zz_M} (hm : mX11_item x1 x2 z = some (r, zt)) : Met l yX11_item wsX11_item { frames := 4, cells := 0, slots := 0, locals := 89 } (zz_Pc D y (wR y a z) sz [.ref (a 0), .int x1, .int x2]) (zz_Qi D y (wR y a) (va_A (wR y a z) sz) r zt) 0 0 (va_A (wR y a z) sz) := by
  refine Met.ofW (cc := cX11_item) (maxL := 3) (ret := (some .int)) (by decide) rfl ?_
  intro p e s m args below meth c s₁ B hml hv
  obtain ⟨rfl, hsz, hP, hK, hD0, hN, hg⟩ := hv
  have hx := B.exec
  have hb := B.bytes
  have hr := B.returns
  have hts := atoms_spec (ws := wsX11_item) B.pre
  have hown : s.vm.findClass RX11 = some m.cls := findClass_of_methodNamed B.named
  have hlocks := B.notSynchronized
  clear B
  subst hsz
  have hD := hD0.self (sz := s.heap.size)
  generalize hAe : va_A (wR y a z) s.heap.size = A at hD hg ⊢
  have hA : ∀ q : Nat, s.heap.size ≤ q → A q := fun q h => by rw [← hAe]; exact Or.inr h
  clear hAe hD0
  have hl := lv_entry ([.ref (a 0), .int x1, .int x2]) (n := 3) (Nat.le_of_ble_eq_true rfl)
  rw [lg_entry_eq]
  generalize (lg_sl ([.ref (a 0), .int x1, .int x2]) ++ List.replicate (3 - (lg_sl ([.ref (a 0), .int x1, .int x2])).length) Slot.unset).toArray = ls at hl ⊢
  replace hl : lv_has ls 3 [(0, .ref (a 0)), (1, .int x1), (2, .int x2)] := hl
  refine zz_go (w := wR y a) hP hD va_S.rf hl (fun G hG => ?_)
  clear hP hD hl ls
  have J67 : ∀ (v1 : Int32) (v2 : Int32) (t0 : Int64) (z : zz_M), mX11_item_b67 v1 v2 t0 z = some (r, zt) → G 67 [(0, .ref (a 0)), (1, .int v1), (2, .int v2)] [.long t0, .ref (a 0)] z := by
    intro v1 v2 t0 z hm
    rw [mX11_item_b67] at hm
    rw [hG]
    intro H locs ls hP hD hS hl
    obtain ⟨r1, z3, h2, hm⟩ := zz_b2_some hm
    refine zz_callv (zz_runV (w := wR y a) (As := [.long t0]) (rest := []) ⟨hx, hb, hml, hown, hts⟩ (zX11_tell l D y a H.size t0 z h2) (cwV 1 hts gX11_item_X11_tell rfl rfl rfl zdX11_tell ⟨Nat.le_of_ble_eq_true rfl, Nat.le_of_ble_eq_true rfl⟩) hK hN hg hP hD hS hA 0 (wR_0 y a z) rfl rfl hl.1 rfl (Nat.le_of_ble_eq_true rfl) dX11_item_67 ⟨Nat.le_of_ble_eq_true rfl, Nat.le_of_ble_eq_true rfl⟩) hD hS hA (fun H locs hP hD hS => ?_)
    refine lv_aload_n hx hb dX11_item_70 rfl (lv_at hl 0 rfl) ?_
    refine lv_iload_n hx hb dX11_item_71 rfl (lv_at hl 1 rfl) ?_
    refine lv_iload_n hx hb dX11_item_72 rfl (lv_at hl 2 rfl) ?_
    obtain ⟨r4, h5, hm⟩ := zz_b1_some hm
    refine zz_calli (zz_runV (w := wR y a) (As := [.int v1, .int v2]) (rest := []) ⟨hx, hb, hml, hown, hts⟩ (zX11_doneOf l D y a H.size v1 v2 z3 h5) (cwV 2 hts gX11_item_X11_doneOf rfl rfl rfl zdX11_doneOf ⟨Nat.le_of_ble_eq_true rfl, Nat.le_of_ble_eq_true rfl⟩) hK hN hg hP hD hS hA 0 (wR_0 y a z3) rfl rfl hl.1 rfl (Nat.le_of_ble_eq_true rfl) dX11_item_73 ⟨Nat.le_of_ble_eq_true rfl, Nat.le_of_ble_eq_true rfl⟩) hD hS hA (fun H locs hP hD hS => ?_)
    exact zz_iret hx hb hr hlocks (zz_some2 hm) hP hK hD hS dX11_item_76
  have J20 : ∀ (z : zz_M), mX11_item_b20 z = some (r, zt) → G 20 [] [] z := by
    intro z hm
    rw [mX11_item_b20] at hm
    rw [hG]
    intro H locs ls hP hD hS hl
    refine lv_iconst (v := (-1 : Int32)) hx hb dX11_item_20 (by decide) ?_
    exact zz_iret hx hb hr hlocks (zz_some2 hm) hP hK hD hS dX11_item_21
  rw [hG]
  intro H locs ls hP hD hS hl
  unfold mX11_item at hm
  refine lv_aload_n hx hb dX11_item_0 rfl (lv_at hl 0 rfl) ?_
  refine lv_iconst (v := (0 : Int32)) hx hb dX11_item_1 (by decide) ?_
  refine va_put (D := D) (ci := 11) (v := .int (0 : Int32)) (ty := .int) (C := RX11) (T := TX11) (N := 35) hx hb hts nX11_item_X11 tyX11 tyX11_ok nmX11 hown hK hP hD hS 0 (wR_0 y a z) rfl 19 (by decide) (hts (.fieldLink RX11 97 "WorksDeskModel" "thrown" "I") (List.mem_of_getElem? (i := 1) rfl)) (fun _ h9 => h9) rfl (tyX11_ok 19 (by decide)) rfl rfl (Nat.le_of_ble_eq_true rfl) dX11_item_2 (fun H locs hP hD hS => ?_)
  obtain ⟨z6, hP, hD, hm⟩ := zz_up (w := wR y a) (wR_f19 y a z (0 : Int32)) hP hD hm
  refine lv_iload_n hx hb dX11_item_5 rfl (lv_at hl 1 rfl) ?_
  obtain ⟨r7, h8, hm⟩ := zz_b1_some hm
  refine zz_calli (zz_runS (w := wR y a) (As := [.int x1]) (rest := []) ⟨hx, hb, hml, hown, hts⟩ (zX11_isMonth l D y a H.size x1 z6 h8) (va_cwS 1 hts gX11_item_X11_isMonth rfl rfl rfl zdX11_isMonth ⟨Nat.le_of_ble_eq_true rfl, Nat.le_of_ble_eq_true rfl⟩) hK hN hg hP hD hS hA rfl hl.1 rfl (Nat.le_of_ble_eq_true rfl) dX11_item_6 ⟨Nat.le_of_ble_eq_true rfl, Nat.le_of_ble_eq_true rfl⟩) hD hS hA (fun H locs hP hD hS => ?_)
  refine lv_if_eq (tgt := 20) hx hb dX11_item_9 (by decide) (fun c9 => ?_) (fun c9 => ?_)
  · replace hm := zz_pos c9 hm
    have j := J20 z6 hm
    rw [hG] at j
    exact j H locs ls hP hD hS (lv_sub hl [] rfl)
  · replace hm := zz_neg c9 hm
    refine lv_aload_n hx hb dX11_item_12 rfl (lv_at hl 0 rfl) ?_
    refine lv_iload_n hx hb dX11_item_13 rfl (lv_at hl 2 rfl) ?_
    obtain ⟨r10, h11, hm⟩ := zz_b1_some hm
    refine zz_calli (zz_runV (w := wR y a) (As := [.int x2]) (rest := []) ⟨hx, hb, hml, hown, hts⟩ (zX11_isItem l D y a H.size x2 z6 h11) (cwV 1 hts gX11_item_X11_isItem rfl rfl rfl zdX11_isItem ⟨Nat.le_of_ble_eq_true rfl, Nat.le_of_ble_eq_true rfl⟩) hK hN hg hP hD hS hA 0 (wR_0 y a z6) rfl rfl hl.1 rfl (Nat.le_of_ble_eq_true rfl) dX11_item_14 ⟨Nat.le_of_ble_eq_true rfl, Nat.le_of_ble_eq_true rfl⟩) hD hS hA (fun H locs hP hD hS => ?_)
    refine lv_if_ne (tgt := 22) hx hb dX11_item_17 (by decide) (fun c12 => ?_) (fun c12 => ?_)
    · replace hm := zz_neg c12 hm
      refine lv_aload_n hx hb dX11_item_22 rfl (lv_at hl 0 rfl) ?_
      refine lv_iconst (v := (0 : Int32)) hx hb dX11_item_23 (by decide) ?_
      refine va_put (D := D) (ci := 11) (v := .int (0 : Int32)) (ty := .int) (C := RX11) (T := TX11) (N := 35) hx hb hts nX11_item_X11 tyX11 tyX11_ok nmX11 hown hK hP hD hS 0 (wR_0 y a z6) rfl 18 (by decide) (hts (.fieldLink RX11 100 "WorksDeskModel" "rowMany" "I") (List.mem_of_getElem? (i := 2) rfl)) (fun _ h9 => h9) rfl (tyX11_ok 18 (by decide)) rfl rfl (Nat.le_of_ble_eq_true rfl) dX11_item_24 (fun H locs hP hD hS => ?_)
      obtain ⟨z13, hP, hD, hm⟩ := zz_up (w := wR y a) (wR_f18 y a z6 (0 : Int32)) hP hD hm
      refine lv_aload_n hx hb dX11_item_27 rfl (lv_at hl 0 rfl) ?_
      refine lv_aload_n hx hb dX11_item_28 rfl (lv_at hl 0 rfl) ?_
      refine lv_iload_n hx hb dX11_item_29 rfl (lv_at hl 1 rfl) ?_
      refine lv_iload_n hx hb dX11_item_30 rfl (lv_at hl 2 rfl) ?_
      obtain ⟨r14, h15, hm⟩ := zz_b1_some hm
      refine zz_calll (zz_runV (w := wR y a) (As := [.int x1, .int x2]) (rest := [.ref (a 0)]) ⟨hx, hb, hml, hown, hts⟩ (zX11_partOf l D y a H.size x1 x2 z13 h15) (cwV 2 hts gX11_item_X11_partOf rfl rfl rfl zdX11_partOf ⟨Nat.le_of_ble_eq_true rfl, Nat.le_of_ble_eq_true rfl⟩) hK hN hg hP hD hS hA 0 (wR_0 y a z13) rfl rfl hl.1 rfl (Nat.le_of_ble_eq_true rfl) dX11_item_31 ⟨Nat.le_of_ble_eq_true rfl, Nat.le_of_ble_eq_true rfl⟩) hD hS hA (fun H locs hP hD hS => ?_)
      obtain ⟨r16, z18, h17, hm⟩ := zz_b2_some hm
      refine zz_callv (zz_runV (w := wR y a) (As := [.long r14]) (rest := []) ⟨hx, hb, hml, hown, hts⟩ (zX11_tell l D y a H.size r14 z13 h17) (cwV 1 hts gX11_item_X11_tell rfl rfl rfl zdX11_tell ⟨Nat.le_of_ble_eq_true rfl, Nat.le_of_ble_eq_true rfl⟩) hK hN hg hP hD hS hA 0 (wR_0 y a z13) rfl rfl hl.1 rfl (Nat.le_of_ble_eq_true rfl) dX11_item_34 ⟨Nat.le_of_ble_eq_true rfl, Nat.le_of_ble_eq_true rfl⟩) hD hS hA (fun H locs hP hD hS => ?_)
      refine lv_aload_n hx hb dX11_item_37 rfl (lv_at hl 0 rfl) ?_
      refine lv_aload_n hx hb dX11_item_38 rfl (lv_at hl 0 rfl) ?_
      refine lv_iload_n hx hb dX11_item_39 rfl (lv_at hl 1 rfl) ?_
      refine lv_iload_n hx hb dX11_item_40 rfl (lv_at hl 2 rfl) ?_
      obtain ⟨r19, h20, hm⟩ := zz_b1_some hm
      refine zz_calll (zz_runV (w := wR y a) (As := [.int x1, .int x2]) (rest := [.ref (a 0)]) ⟨hx, hb, hml, hown, hts⟩ (zX11_grown l D y a H.size x1 x2 z18 h20) (cwV 2 hts gX11_item_X11_grown rfl rfl rfl zdX11_grown ⟨Nat.le_of_ble_eq_true rfl, Nat.le_of_ble_eq_true rfl⟩) hK hN hg hP hD hS hA 0 (wR_0 y a z18) rfl rfl hl.1 rfl (Nat.le_of_ble_eq_true rfl) dX11_item_41 ⟨Nat.le_of_ble_eq_true rfl, Nat.le_of_ble_eq_true rfl⟩) hD hS hA (fun H locs hP hD hS => ?_)
      obtain ⟨r21, z23, h22, hm⟩ := zz_b2_some hm
      refine zz_callv (zz_runV (w := wR y a) (As := [.long r19]) (rest := []) ⟨hx, hb, hml, hown, hts⟩ (zX11_tell l D y a H.size r19 z18 h22) (cwV 1 hts gX11_item_X11_tell rfl rfl rfl zdX11_tell ⟨Nat.le_of_ble_eq_true rfl, Nat.le_of_ble_eq_true rfl⟩) hK hN hg hP hD hS hA 0 (wR_0 y a z18) rfl rfl hl.1 rfl (Nat.le_of_ble_eq_true rfl) dX11_item_44 ⟨Nat.le_of_ble_eq_true rfl, Nat.le_of_ble_eq_true rfl⟩) hD hS hA (fun H locs hP hD hS => ?_)
      refine lv_aload_n hx hb dX11_item_47 rfl (lv_at hl 0 rfl) ?_
      refine lv_aload_n hx hb dX11_item_48 rfl (lv_at hl 0 rfl) ?_
      refine lv_iload_n hx hb dX11_item_49 rfl (lv_at hl 1 rfl) ?_
      refine lv_iload_n hx hb dX11_item_50 rfl (lv_at hl 2 rfl) ?_
      obtain ⟨r24, h25, hm⟩ := zz_b1_some hm
      refine zz_calli (zz_runV (w := wR y a) (As := [.int x1, .int x2]) (rest := [.ref (a 0)]) ⟨hx, hb, hml, hown, hts⟩ (zX11_doneOf l D y a H.size x1 x2 z23 h25) (cwV 2 hts gX11_item_X11_doneOf rfl rfl rfl zdX11_doneOf ⟨Nat.le_of_ble_eq_true rfl, Nat.le_of_ble_eq_true rfl⟩) hK hN hg hP hD hS hA 0 (wR_0 y a z23) rfl rfl hl.1 rfl (Nat.le_of_ble_eq_true rfl) dX11_item_51 ⟨Nat.le_of_ble_eq_true rfl, Nat.le_of_ble_eq_true rfl⟩) hD hS hA (fun H locs hP hD hS => ?_)
      refine lv_aload_n hx hb dX11_item_54 rfl (lv_at hl 0 rfl) ?_
      refine lv_iload_n hx hb dX11_item_55 rfl (lv_at hl 2 rfl) ?_
      obtain ⟨r26, h27, hm⟩ := zz_b1_some hm
      refine zz_calli (zz_runV (w := wR y a) (As := [.int x2]) (rest := [.int r24, .ref (a 0)]) ⟨hx, hb, hml, hown, hts⟩ (zX11_cap l D y a H.size x2 z23 h27) (cwV 1 hts gX11_item_X11_cap rfl rfl rfl zdX11_cap ⟨Nat.le_of_ble_eq_true rfl, Nat.le_of_ble_eq_true rfl⟩) hK hN hg hP hD hS hA 0 (wR_0 y a z23) rfl rfl hl.1 rfl (Nat.le_of_ble_eq_true rfl) dX11_item_56 ⟨Nat.le_of_ble_eq_true rfl, Nat.le_of_ble_eq_true rfl⟩) hD hS hA (fun H locs hP hD hS => ?_)
      refine lv_icmp_le (tgt := 66) hx hb dX11_item_59 (by decide) (fun c28 => ?_) (fun c28 => ?_)
      · replace hm := zz_pos c28 hm
        refine lv_lconst (v := (0 : Int64)) hx hb dX11_item_66 (by decide) ?_
        have j := J67 x1 x2 (0 : Int64) z23 hm
        rw [hG] at j
        exact j H locs ls hP hD hS (lv_sub hl [0, 1, 2] rfl)
      · replace hm := zz_neg c28 hm
        refine lv_lconst (v := (1 : Int64)) hx hb dX11_item_62 (by decide) ?_
        refine lv_goto (tgt := 67) hx hb dX11_item_63 (by decide) ?_
        have j := J67 x1 x2 (1 : Int64) z23 hm
        rw [hG] at j
        exact j H locs ls hP hD hS (lv_sub hl [0, 1, 2] rfl)
    · replace hm := zz_pos c12 hm
      have j := J20 z6 hm
      rw [hG] at j
      exact j H locs ls hP hD hS (lv_sub hl [] rfl)
def mX11_keeps_b99 (v2 : Int32) (v3 : Int32) (v4 : Int64) (z : zz_M) : Option (Int32 × zz_M) := zz_ck (zz_in (0 : Int32) 14) (zz_nm (zz_wI z 1 (0 : Int32) v2) (fun z2 => if v3 = (-2 : Int32) then (some ((-2 : Int32), z2)) else (zz_nm (zz_sF z2 18 (0 : Int32)) (fun z4 => zz_b2 (mX11_tell v4 z4) (fun r5 z7 => some (v3, z7))))))
def mX11_keeps_b93 (k28 : Int32 → Int32 → Int32 → Int64 → Int32 → zz_M → Option (Int32 × zz_M)) (v1 : Int32) (v2 : Int32) (v3 : Int32) (v4 : Int64) (v6 : Int32) (z : zz_M) : Option (Int32 × zz_M) := zz_nm (v6 + (1 : Int32)) (fun n8 => k28 v1 v2 v3 v4 n8 z)
def mX11_keeps_b56 (k28 : Int32 → Int32 → Int32 → Int64 → Int32 → zz_M → Option (Int32 × zz_M)) : Nat → Int32 → Int32 → Int32 → Int64 → Int32 → Int32 → zz_M → Option (Int32 × zz_M)
  | 0, _, _, _, _, _, _, _ => none
  | n + 1, v1, v2, v3, v4, v6, v7, z => if (24 : Int32) ≤ v7 then (if (lg_cmp v4 v1.toInt64) < (0 : Int32) then (mX11_keeps_b93 k28 v1 v2 v3 v4 v6 z) else (mX11_keeps_b93 k28 v1 v2 v6 v4 v6 z)) else (zz_b1 (mX11_retainedIn v7 z) (fun r11 => zz_nm (if r11 < v4 then v4 else r11) (fun n13 => zz_nm (v7 + (1 : Int32)) (fun n14 => (mX11_keeps_b56 k28 n) v1 v2 v3 n13 v6 n14 z))))
def mX11_keeps_b28 : Nat → Int32 → Int32 → Int32 → Int64 → Int32 → zz_M → Option (Int32 × zz_M)
  | 0, _, _, _, _, _, _ => none
  | n + 1, v1, v2, v3, v4, v6, z => if (200 : Int32) < v6 then (mX11_keeps_b99 v2 v3 v4 z) else (if v3 = (-2 : Int32) then (zz_ck (zz_in (0 : Int32) 14) (zz_nm (zz_wI z 1 (0 : Int32) v6) (fun z18 => mX11_keeps_b56 (mX11_keeps_b28 n) zz_N v1 v2 v3 (0 : Int64) v6 (0 : Int32) z18))) else (mX11_keeps_b99 v2 v3 v4 z))
def mX11_keeps (x1 : Int32) (z : zz_M) : Option (Int32 × zz_M) := zz_nm (zz_sF z 19 (0 : Int32)) (fun z19 => if (1 : Int32) ≤ x1 then (zz_ck (zz_in (0 : Int32) 14) (zz_nm (z19.1 1 (0 : Int32).toNatClampNeg) (fun n22 => mX11_keeps_b28 zz_N x1 n22 (-2 : Int32) (0 : Int64) (0 : Int32) z19))) else (some ((-1 : Int32), z19)))
theorem nX11_keeps_X11 : ∀ w ∈ wsX110, w ∈ wsX11_keeps := fun _ h => List.mem_cons_of_mem _ (List.mem_append_right _ (h))
theorem zdX11_keeps : yX11_keeps.cls = RX11 ∧ yX11_keeps.cls ≠ "java/lang/invoke/MethodHandle" ∧ yX11_keeps.cls ≠ "java/lang/invoke/VarHandle" ∧ (parseMethodDescriptor yX11_keeps.desc).map (fun d => d.parameters.length) = some 1 := by decide +kernel
set_option maxHeartbeats 4000000 in
set_option maxRecDepth 100000 in
theorem zX11_keeps (l : Launch) (D : va_G) (y : Nat → ClassId) (a : Nat → Nat) (sz : Nat) (x1 : Int32) (z : zz_M) {r : Int32} {zt : zz_M} (hm : mX11_keeps x1 z = some (r, zt)) : Met l yX11_keeps wsX11_keeps { frames := 6, cells := 0, slots := 0, locals := 138 } (zz_Pc D y (wR y a z) sz [.ref (a 0), .int x1]) (zz_Qi D y (wR y a) (va_A (wR y a z) sz) r zt) 0 0 (va_A (wR y a z) sz) := by
  refine Met.ofW (cc := cX11_keeps) (maxL := 8) (ret := (some .int)) (by decide) rfl ?_
  intro p e s m args below meth c s₁ B hml hv
  obtain ⟨rfl, hsz, hP, hK, hD0, hN, hg⟩ := hv
  have hx := B.exec
  have hb := B.bytes
  have hr := B.returns
  have hts := atoms_spec (ws := wsX11_keeps) B.pre
  have hown : s.vm.findClass RX11 = some m.cls := findClass_of_methodNamed B.named
  have hlocks := B.notSynchronized
  clear B
  subst hsz
  have hD := hD0.self (sz := s.heap.size)
  generalize hAe : va_A (wR y a z) s.heap.size = A at hD hg ⊢
  have hA : ∀ q : Nat, s.heap.size ≤ q → A q := fun q h => by rw [← hAe]; exact Or.inr h
  clear hAe hD0
  have hl := lv_entry ([.ref (a 0), .int x1]) (n := 8) (Nat.le_of_ble_eq_true rfl)
  rw [lg_entry_eq]
  generalize (lg_sl ([.ref (a 0), .int x1]) ++ List.replicate (8 - (lg_sl ([.ref (a 0), .int x1])).length) Slot.unset).toArray = ls at hl ⊢
  replace hl : lv_has ls 8 [(0, .ref (a 0)), (1, .int x1)] := hl
  refine zz_go (w := wR y a) hP hD va_S.rf hl (fun G hG => ?_)
  clear hP hD hl ls
  have J99 : ∀ (v2 : Int32) (v3 : Int32) (v4 : Int64) (z : zz_M), mX11_keeps_b99 v2 v3 v4 z = some (r, zt) → G 99 [(0, .ref (a 0)), (2, .int v2), (3, .int v3), (4, .long v4)] [] z := by
    intro v2 v3 v4 z hm
    rw [mX11_keeps_b99] at hm
    rw [hG]
    intro H locs ls hP hD hS hl
    refine lv_aload_n hx hb dX11_keeps_99 rfl (lv_at hl 0 rfl) ?_
    refine va_get (D := D) (ci := 11) (v := .ref (a 1)) (C := RX11) (T := TX11) (N := 35) hx hb hts nX11_keeps_X11 hown hK hP 0 (wR_0 y a z) rfl 0 (by decide) (hts (.fieldLink RX11 7 "WorksDeskModel" "terms" "[I") (List.mem_of_getElem? (i := 2) rfl)) (fun _ h9 => h9) rfl dX11_keeps_100 ?_
    refine lv_iconst (v := (0 : Int32)) hx hb dX11_keeps_103 (by decide) ?_
    refine lv_iload_n hx hb dX11_keeps_104 rfl (lv_at hl 1 rfl) ?_
    obtain ⟨c1, hm⟩ := zz_ck_some hm
    refine va_iast hx hb hK hP hD hS 1 0 (wR_1 y a z) rfl c1 dX11_keeps_105 (fun H locs hP hD hS => ?_)
    obtain ⟨z2, hP, hD, hm⟩ := zz_up (w := wR y a) (wR_w1 y a z (0 : Int32) v2) hP hD hm
    refine lv_iload_n hx hb dX11_keeps_106 rfl (lv_at hl 2 rfl) ?_
    refine lv_bipush (v := (-2 : Int32)) hx hb dX11_keeps_107 (by decide) ?_
    refine lv_icmp_ne (tgt := 115) hx hb dX11_keeps_109 (by decide) (fun c3 => ?_) (fun c3 => ?_)
    · replace hm := zz_neg c3 hm
      refine lv_aload_n hx hb dX11_keeps_115 rfl (lv_at hl 0 rfl) ?_
      refine lv_iconst (v := (0 : Int32)) hx hb dX11_keeps_116 (by decide) ?_
      refine va_put (D := D) (ci := 11) (v := .int (0 : Int32)) (ty := .int) (C := RX11) (T := TX11) (N := 35) hx hb hts nX11_keeps_X11 tyX11 tyX11_ok nmX11 hown hK hP hD hS 0 (wR_0 y a z2) rfl 18 (by decide) (hts (.fieldLink RX11 100 "WorksDeskModel" "rowMany" "I") (List.mem_of_getElem? (i := 7) rfl)) (fun _ h9 => h9) rfl (tyX11_ok 18 (by decide)) rfl rfl (Nat.le_of_ble_eq_true rfl) dX11_keeps_117 (fun H locs hP hD hS => ?_)
      obtain ⟨z4, hP, hD, hm⟩ := zz_up (w := wR y a) (wR_f18 y a z2 (0 : Int32)) hP hD hm
      refine lv_aload_n hx hb dX11_keeps_120 rfl (lv_at hl 0 rfl) ?_
      refine lv_lload hx hb dX11_keeps_121 (lv_at hl 3 rfl) ?_
      obtain ⟨r5, z7, h6, hm⟩ := zz_b2_some hm
      refine zz_callv (zz_runV (w := wR y a) (As := [.long v4]) (rest := []) ⟨hx, hb, hml, hown, hts⟩ (zX11_tell l D y a H.size v4 z4 h6) (cwV 1 hts gX11_keeps_X11_tell rfl rfl rfl zdX11_tell ⟨Nat.le_of_ble_eq_true rfl, Nat.le_of_ble_eq_true rfl⟩) hK hN hg hP hD hS hA 0 (wR_0 y a z4) rfl rfl hl.1 rfl (Nat.le_of_ble_eq_true rfl) dX11_keeps_123 ⟨Nat.le_of_ble_eq_true rfl, Nat.le_of_ble_eq_true rfl⟩) hD hS hA (fun H locs hP hD hS => ?_)
      refine lv_iload_n hx hb dX11_keeps_126 rfl (lv_at hl 2 rfl) ?_
      exact zz_iret hx hb hr hlocks (zz_some2 hm) hP hK hD hS dX11_keeps_127
    · replace hm := zz_pos c3 hm
      refine lv_bipush (v := (-2 : Int32)) hx hb dX11_keeps_112 (by decide) ?_
      exact zz_iret hx hb hr hlocks (zz_some2 hm) hP hK hD hS dX11_keeps_114
  have J93 : ∀ (k28 : Int32 → Int32 → Int32 → Int64 → Int32 → zz_M → Option (Int32 × zz_M)) (K28 : ∀ (v1 : Int32) (v2 : Int32) (v3 : Int32) (v4 : Int64) (v6 : Int32) (z : zz_M), k28 v1 v2 v3 v4 v6 z = some (r, zt) → G 28 [(0, .ref (a 0)), (1, .int v1), (2, .int v2), (3, .int v3), (4, .long v4), (6, .int v6)] [] z) (v1 : Int32) (v2 : Int32) (v3 : Int32) (v4 : Int64) (v6 : Int32) (z : zz_M), mX11_keeps_b93 k28 v1 v2 v3 v4 v6 z = some (r, zt) → G 93 [(0, .ref (a 0)), (1, .int v1), (2, .int v2), (3, .int v3), (4, .long v4), (6, .int v6)] [] z := by
    intro k28 K28 v1 v2 v3 v4 v6 z hm
    rw [mX11_keeps_b93] at hm
    rw [hG]
    intro H locs ls hP hD hS hl
    obtain ⟨n8, en8⟩ : ∃ q : Int32, q = v6 + (1 : Int32) := ⟨_, rfl⟩
    replace hm := zz_nm_some en8 hm
    refine lv_iinc (v := n8) (lv' := [(6, .int n8), (0, .ref (a 0)), (1, .int v1), (2, .int v2), (3, .int v3), (4, .long v4)]) hx hb dX11_keeps_93 hl (k := 5) rfl (by rw [en8]; rfl) (by decide) rfl (fun ls hl => ?_)
    refine lv_goto (tgt := 28) hx hb dX11_keeps_96 (by decide) ?_
    have j := K28 v1 v2 v3 v4 n8 z hm
    rw [hG] at j
    exact j H locs ls hP hD hS (lv_sub hl [1, 2, 3, 4, 5, 0] rfl)
  have J56 : ∀ (k28 : Int32 → Int32 → Int32 → Int64 → Int32 → zz_M → Option (Int32 × zz_M)) (K28 : ∀ (v1 : Int32) (v2 : Int32) (v3 : Int32) (v4 : Int64) (v6 : Int32) (z : zz_M), k28 v1 v2 v3 v4 v6 z = some (r, zt) → G 28 [(0, .ref (a 0)), (1, .int v1), (2, .int v2), (3, .int v3), (4, .long v4), (6, .int v6)] [] z) (n : Nat) (v1 : Int32) (v2 : Int32) (v3 : Int32) (v4 : Int64) (v6 : Int32) (v7 : Int32) (z : zz_M), mX11_keeps_b56 k28 n v1 v2 v3 v4 v6 v7 z = some (r, zt) → G 56 [(0, .ref (a 0)), (1, .int v1), (2, .int v2), (3, .int v3), (4, .long v4), (6, .int v6), (7, .int v7)] [] z := by
    intro k28 K28 n
    induction n with
    | zero =>
      intro v1 v2 v3 v4 v6 v7 z hm
      exact zz_none hm
    | succ n ih =>
      intro v1 v2 v3 v4 v6 v7 z hm
      rw [mX11_keeps_b56] at hm
      rw [hG]
      intro H locs ls hP hD hS hl
      refine lv_iload hx hb dX11_keeps_56 (lv_at hl 6 rfl) ?_
      refine lv_bipush (v := (24 : Int32)) hx hb dX11_keeps_58 (by decide) ?_
      refine lv_icmp_ge (tgt := 82) hx hb dX11_keeps_60 (by decide) (fun c9 => ?_) (fun c9 => ?_)
      · replace hm := zz_pos c9 hm
        refine lv_lload hx hb dX11_keeps_82 (lv_at hl 4 rfl) ?_
        refine lv_iload_n hx hb dX11_keeps_84 rfl (lv_at hl 1 rfl) ?_
        refine lv_i2l hx hb dX11_keeps_85 rfl ?_
        refine W.lcmp hx hb dX11_keeps_86 ?_
        refine lv_if_lt (tgt := 93) hx hb dX11_keeps_87 (by decide) (fun c10 => ?_) (fun c10 => ?_)
        · replace hm := zz_pos c10 hm
          have j := J93 k28 K28 v1 v2 v3 v4 v6 z hm
          rw [hG] at j
          exact j H locs ls hP hD hS (lv_sub hl [0, 1, 2, 3, 4, 5] rfl)
        · replace hm := zz_neg c10 hm
          refine lv_iload hx hb dX11_keeps_90 (lv_at hl 5 rfl) ?_
          refine lv_istore_n (lv' := [(3, .int v6), (0, .ref (a 0)), (1, .int v1), (2, .int v2), (4, .long v4), (6, .int v6), (7, .int v7)]) hx hb dX11_keeps_92 rfl hl (by decide) rfl (fun ls hl => ?_)
          have j := J93 k28 K28 v1 v2 v6 v4 v6 z hm
          rw [hG] at j
          exact j H locs ls hP hD hS (lv_sub hl [1, 2, 3, 0, 4, 5] rfl)
      · replace hm := zz_neg c9 hm
        refine lv_lload hx hb dX11_keeps_63 (lv_at hl 4 rfl) ?_
        refine lv_aload_n hx hb dX11_keeps_65 rfl (lv_at hl 0 rfl) ?_
        refine lv_iload hx hb dX11_keeps_66 (lv_at hl 6 rfl) ?_
        obtain ⟨r11, h12, hm⟩ := zz_b1_some hm
        refine zz_calll (zz_runV (w := wR y a) (As := [.int v7]) (rest := [.long v4]) ⟨hx, hb, hml, hown, hts⟩ (zX11_retainedIn l D y a H.size v7 z h12) (cwV 1 hts gX11_keeps_X11_retainedIn rfl rfl rfl zdX11_retainedIn ⟨Nat.le_of_ble_eq_true rfl, Nat.le_of_ble_eq_true rfl⟩) hK hN hg hP hD hS hA 0 (wR_0 y a z) rfl rfl hl.1 rfl (Nat.le_of_ble_eq_true rfl) dX11_keeps_68 ⟨Nat.le_of_ble_eq_true rfl, Nat.le_of_ble_eq_true rfl⟩) hD hS hA (fun H locs hP hD hS => ?_)
        refine va_mmax_long hx hb (hml.trans hl.1.symm) hown (hts (.methodLink RX11 259 Lib.MathLoose.max_long.x) (List.mem_of_getElem? (i := 3) rfl)) (hts (.static Lib.MathLoose.max_long.x) (List.mem_of_getElem? (i := 4) rfl)) (hts (.initialized "java/lang/Math") (List.mem_of_getElem? (i := 5) rfl)) (hts (.code Lib.MathLoose.max_long.x Lib.MathLoose.max_long.code 4 (some .long)) (List.mem_of_getElem? (i := 6) rfl)) (Nat.le_of_ble_eq_true rfl) (Nat.le_of_ble_eq_true rfl) (Nat.le_of_ble_eq_true rfl) (Nat.le_of_ble_eq_true rfl) dX11_keeps_71 ?_
        refine lv_topl (fun n13 en13 => ?_)
        replace hm := zz_nm_some en13 hm
        refine lv_lstore (lv' := [(4, .long n13), (0, .ref (a 0)), (1, .int v1), (2, .int v2), (3, .int v3), (6, .int v6), (7, .int v7)]) hx hb dX11_keeps_74 hl (by decide) rfl (fun ls hl => ?_)
        obtain ⟨n14, en14⟩ : ∃ q : Int32, q = v7 + (1 : Int32) := ⟨_, rfl⟩
        replace hm := zz_nm_some en14 hm
        refine lv_iinc (v := n14) (lv' := [(7, .int n14), (4, .long n13), (0, .ref (a 0)), (1, .int v1), (2, .int v2), (3, .int v3), (6, .int v6)]) hx hb dX11_keeps_76 hl (k := 6) rfl (by rw [en14]; rfl) (by decide) rfl (fun ls hl => ?_)
        refine lv_goto (tgt := 56) hx hb dX11_keeps_79 (by decide) ?_
        have j := ih v1 v2 v3 n13 v6 n14 z hm
        rw [hG] at j
        exact j H locs ls hP hD hS (lv_sub hl [2, 3, 4, 5, 1, 6, 0] rfl)
  have J28 : ∀ (n : Nat) (v1 : Int32) (v2 : Int32) (v3 : Int32) (v4 : Int64) (v6 : Int32) (z : zz_M), mX11_keeps_b28 n v1 v2 v3 v4 v6 z = some (r, zt) → G 28 [(0, .ref (a 0)), (1, .int v1), (2, .int v2), (3, .int v3), (4, .long v4), (6, .int v6)] [] z := by
    intro n
    induction n with
    | zero =>
      intro v1 v2 v3 v4 v6 z hm
      exact zz_none hm
    | succ n ih =>
      intro v1 v2 v3 v4 v6 z hm
      rw [mX11_keeps_b28] at hm
      rw [hG]
      intro H locs ls hP hD hS hl
      refine lv_iload hx hb dX11_keeps_28 (lv_at hl 5 rfl) ?_
      refine lv_sipush (v := (200 : Int32)) hx hb dX11_keeps_30 (by decide) ?_
      refine lv_icmp_gt (tgt := 99) hx hb dX11_keeps_33 (by decide) (fun c15 => ?_) (fun c15 => ?_)
      · replace hm := zz_pos c15 hm
        have j := J99 v2 v3 v4 z hm
        rw [hG] at j
        exact j H locs ls hP hD hS (lv_sub hl [0, 2, 3, 4] rfl)
      · replace hm := zz_neg c15 hm
        refine lv_iload_n hx hb dX11_keeps_36 rfl (lv_at hl 3 rfl) ?_
        refine lv_bipush (v := (-2 : Int32)) hx hb dX11_keeps_37 (by decide) ?_
        refine lv_icmp_ne (tgt := 99) hx hb dX11_keeps_39 (by decide) (fun c16 => ?_) (fun c16 => ?_)
        · replace hm := zz_neg c16 hm
          have j := J99 v2 v3 v4 z hm
          rw [hG] at j
          exact j H locs ls hP hD hS (lv_sub hl [0, 2, 3, 4] rfl)
        · replace hm := zz_pos c16 hm
          refine lv_aload_n hx hb dX11_keeps_42 rfl (lv_at hl 0 rfl) ?_
          refine va_get (D := D) (ci := 11) (v := .ref (a 1)) (C := RX11) (T := TX11) (N := 35) hx hb hts nX11_keeps_X11 hown hK hP 0 (wR_0 y a z) rfl 0 (by decide) (hts (.fieldLink RX11 7 "WorksDeskModel" "terms" "[I") (List.mem_of_getElem? (i := 2) rfl)) (fun _ h9 => h9) rfl dX11_keeps_43 ?_
          refine lv_iconst (v := (0 : Int32)) hx hb dX11_keeps_46 (by decide) ?_
          refine lv_iload hx hb dX11_keeps_47 (lv_at hl 5 rfl) ?_
          obtain ⟨c17, hm⟩ := zz_ck_some hm
          refine va_iast hx hb hK hP hD hS 1 0 (wR_1 y a z) rfl c17 dX11_keeps_49 (fun H locs hP hD hS => ?_)
          obtain ⟨z18, hP, hD, hm⟩ := zz_up (w := wR y a) (wR_w1 y a z (0 : Int32) v6) hP hD hm
          refine lv_lconst (v := (0 : Int64)) hx hb dX11_keeps_50 (by decide) ?_
          refine lv_lstore (lv' := [(4, .long (0 : Int64)), (0, .ref (a 0)), (1, .int v1), (2, .int v2), (3, .int v3), (6, .int v6)]) hx hb dX11_keeps_51 hl (by decide) rfl (fun ls hl => ?_)
          refine lv_iconst (v := (0 : Int32)) hx hb dX11_keeps_53 (by decide) ?_
          refine lv_istore (lv' := [(7, .int (0 : Int32)), (4, .long (0 : Int64)), (0, .ref (a 0)), (1, .int v1), (2, .int v2), (3, .int v3), (6, .int v6)]) hx hb dX11_keeps_54 hl (by decide) rfl (fun ls hl => ?_)
          have j := J56 (mX11_keeps_b28 n) ih zz_N v1 v2 v3 (0 : Int64) v6 (0 : Int32) z18 hm
          rw [hG] at j
          exact j H locs ls hP hD hS (lv_sub hl [2, 3, 4, 5, 1, 6, 0] rfl)
  rw [hG]
  intro H locs ls hP hD hS hl
  unfold mX11_keeps at hm
  refine lv_aload_n hx hb dX11_keeps_0 rfl (lv_at hl 0 rfl) ?_
  refine lv_iconst (v := (0 : Int32)) hx hb dX11_keeps_1 (by decide) ?_
  refine va_put (D := D) (ci := 11) (v := .int (0 : Int32)) (ty := .int) (C := RX11) (T := TX11) (N := 35) hx hb hts nX11_keeps_X11 tyX11 tyX11_ok nmX11 hown hK hP hD hS 0 (wR_0 y a z) rfl 19 (by decide) (hts (.fieldLink RX11 97 "WorksDeskModel" "thrown" "I") (List.mem_of_getElem? (i := 1) rfl)) (fun _ h9 => h9) rfl (tyX11_ok 19 (by decide)) rfl rfl (Nat.le_of_ble_eq_true rfl) dX11_keeps_2 (fun H locs hP hD hS => ?_)
  obtain ⟨z19, hP, hD, hm⟩ := zz_up (w := wR y a) (wR_f19 y a z (0 : Int32)) hP hD hm
  refine lv_iload_n hx hb dX11_keeps_5 rfl (lv_at hl 1 rfl) ?_
  refine lv_iconst (v := (1 : Int32)) hx hb dX11_keeps_6 (by decide) ?_
  refine lv_icmp_ge (tgt := 12) hx hb dX11_keeps_7 (by decide) (fun c20 => ?_) (fun c20 => ?_)
  · replace hm := zz_pos c20 hm
    refine lv_aload_n hx hb dX11_keeps_12 rfl (lv_at hl 0 rfl) ?_
    refine va_get (D := D) (ci := 11) (v := .ref (a 1)) (C := RX11) (T := TX11) (N := 35) hx hb hts nX11_keeps_X11 hown hK hP 0 (wR_0 y a z19) rfl 0 (by decide) (hts (.fieldLink RX11 7 "WorksDeskModel" "terms" "[I") (List.mem_of_getElem? (i := 2) rfl)) (fun _ h9 => h9) rfl dX11_keeps_13 ?_
    refine lv_iconst (v := (0 : Int32)) hx hb dX11_keeps_16 (by decide) ?_
    obtain ⟨c21, hm⟩ := zz_ck_some hm
    refine va_iald hx hb hK hP 1 0 (wR_1 y a z19) rfl c21 dX11_keeps_17 ?_
    refine lv_topi (fun n22 en22 => ?_)
    replace hm := zz_nm_some en22 hm
    refine lv_istore_n (lv' := [(2, .int n22), (0, .ref (a 0)), (1, .int x1)]) hx hb dX11_keeps_18 rfl hl (by decide) rfl (fun ls hl => ?_)
    refine lv_bipush (v := (-2 : Int32)) hx hb dX11_keeps_19 (by decide) ?_
    refine lv_istore_n (lv' := [(3, .int (-2 : Int32)), (2, .int n22), (0, .ref (a 0)), (1, .int x1)]) hx hb dX11_keeps_21 rfl hl (by decide) rfl (fun ls hl => ?_)
    refine lv_lconst (v := (0 : Int64)) hx hb dX11_keeps_22 (by decide) ?_
    refine lv_lstore (lv' := [(4, .long (0 : Int64)), (3, .int (-2 : Int32)), (2, .int n22), (0, .ref (a 0)), (1, .int x1)]) hx hb dX11_keeps_23 hl (by decide) rfl (fun ls hl => ?_)
    refine lv_iconst (v := (0 : Int32)) hx hb dX11_keeps_25 (by decide) ?_
    refine lv_istore (lv' := [(6, .int (0 : Int32)), (4, .long (0 : Int64)), (3, .int (-2 : Int32)), (2, .int n22), (0, .ref (a 0)), (1, .int x1)]) hx hb dX11_keeps_26 hl (by decide) rfl (fun ls hl => ?_)
    have j := J28 zz_N x1 n22 (-2 : Int32) (0 : Int64) (0 : Int32) z19 hm
    rw [hG] at j
    exact j H locs ls hP hD hS (lv_sub hl [4, 5, 3, 2, 1, 0] rfl)
  · replace hm := zz_neg c20 hm
    refine lv_iconst (v := (-1 : Int32)) hx hb dX11_keeps_10 (by decide) ?_
    exact zz_iret hx hb hr hlocks (zz_some2 hm) hP hK hD hS dX11_keeps_11
def mX11_layAside_b6 : Nat → Int32 → zz_M → Option (Unit × zz_M)
  | 0, _, _ => none
  | n + 1, v1, z => if (24 : Int32) ≤ v1 then (zz_ck (zz_in (23 : Int32) 24) (zz_nm (zz_sG z 33 (z.2.1 16 (23 : Int32).toNatClampNeg)) (fun z3 => zz_b1 (mX11_interestAll z3) (fun r4 => zz_nm (zz_sG z3 34 r4) (fun z6 => some ((), z6)))))) else (zz_ck (zz_in v1 24) (zz_ck (zz_in v1 24) (zz_nm (zz_wJ z 20 v1 (z.2.1 15 v1.toNatClampNeg)) (fun z9 => zz_nm (v1 + (1 : Int32)) (fun n10 => (mX11_layAside_b6 n) n10 z9)))))
def mX11_layAside (z : zz_M) : Option (Unit × zz_M) := zz_b2 (mX11_layMonths z) (fun r11 z13 => mX11_layAside_b6 zz_N (0 : Int32) z13)
theorem nX11_layAside_X11 : ∀ w ∈ wsX110, w ∈ wsX11_layAside := fun _ h => List.mem_cons_of_mem _ (List.mem_append_right _ (h))
theorem zdX11_layAside : yX11_layAside.cls = RX11 ∧ yX11_layAside.cls ≠ "java/lang/invoke/MethodHandle" ∧ yX11_layAside.cls ≠ "java/lang/invoke/VarHandle" ∧ (parseMethodDescriptor yX11_layAside.desc).map (fun d => d.parameters.length) = some 0 := by decide +kernel
set_option maxHeartbeats 4000000 in
set_option maxRecDepth 100000 in
theorem zX11_layAside (l : Launch) (D : va_G) (y : Nat → ClassId) (a : Nat → Nat) (sz : Nat) (z : zz_M) {r : Unit} {zt : zz_M} (hm : mX11_layAside z = some (r, zt)) : Met l yX11_layAside wsX11_layAside { frames := 7, cells := 0, slots := 0, locals := 175 } (zz_Pc D y (wR y a z) sz [.ref (a 0)]) (zz_Qv D y (wR y a) (va_A (wR y a z) sz) zt) 0 0 (va_A (wR y a z) sz) := by
  refine Met.ofW (cc := cX11_layAside) (maxL := 2) (ret := none) (by decide) rfl ?_
  intro p e s m args below meth c s₁ B hml hv
  obtain ⟨rfl, hsz, hP, hK, hD0, hN, hg⟩ := hv
  have hx := B.exec
  have hb := B.bytes
  have hr := B.returns
  have hts := atoms_spec (ws := wsX11_layAside) B.pre
  have hown : s.vm.findClass RX11 = some m.cls := findClass_of_methodNamed B.named
  have hlocks := B.notSynchronized
  clear B
  subst hsz
  have hD := hD0.self (sz := s.heap.size)
  generalize hAe : va_A (wR y a z) s.heap.size = A at hD hg ⊢
  have hA : ∀ q : Nat, s.heap.size ≤ q → A q := fun q h => by rw [← hAe]; exact Or.inr h
  clear hAe hD0
  have hl := lv_entry ([.ref (a 0)]) (n := 2) (Nat.le_of_ble_eq_true rfl)
  rw [lg_entry_eq]
  generalize (lg_sl ([.ref (a 0)]) ++ List.replicate (2 - (lg_sl ([.ref (a 0)])).length) Slot.unset).toArray = ls at hl ⊢
  replace hl : lv_has ls 2 [(0, .ref (a 0))] := hl
  refine zz_go (w := wR y a) hP hD va_S.rf hl (fun G hG => ?_)
  clear hP hD hl ls
  have J6 : ∀ (n : Nat) (v1 : Int32) (z : zz_M), mX11_layAside_b6 n v1 z = some (r, zt) → G 6 [(0, .ref (a 0)), (1, .int v1)] [] z := by
    intro n
    induction n with
    | zero =>
      intro v1 z hm
      exact zz_none hm
    | succ n ih =>
      intro v1 z hm
      rw [mX11_layAside_b6] at hm
      rw [hG]
      intro H locs ls hP hD hS hl
      refine lv_iload_n hx hb dX11_layAside_6 rfl (lv_at hl 1 rfl) ?_
      refine lv_bipush (v := (24 : Int32)) hx hb dX11_layAside_7 (by decide) ?_
      refine lv_icmp_ge (tgt := 30) hx hb dX11_layAside_9 (by decide) (fun c1 => ?_) (fun c1 => ?_)
      · replace hm := zz_pos c1 hm
        refine lv_aload_n hx hb dX11_layAside_30 rfl (lv_at hl 0 rfl) ?_
        refine lv_aload_n hx hb dX11_layAside_31 rfl (lv_at hl 0 rfl) ?_
        refine va_get (D := D) (ci := 11) (v := .ref (a 16)) (C := RX11) (T := TX11) (N := 35) hx hb hts nX11_layAside_X11 hown hK hP 0 (wR_0 y a z) rfl 28 (by decide) (hts (.fieldLink RX11 57 "WorksDeskModel" "total" "[J") (List.mem_of_getElem? (i := 3) rfl)) (fun _ h9 => h9) rfl dX11_layAside_32 ?_
        refine lv_bipush (v := (23 : Int32)) hx hb dX11_layAside_35 (by decide) ?_
        obtain ⟨c2, hm⟩ := zz_ck_some hm
        refine va_lald hx hb hK hP 16 1 (wR_16 y a z) rfl c2 dX11_layAside_37 ?_
        refine va_put (D := D) (ci := 11) (v := .long (z.2.1 16 (23 : Int32).toNatClampNeg)) (ty := .long) (C := RX11) (T := TX11) (N := 35) hx hb hts nX11_layAside_X11 tyX11 tyX11_ok nmX11 hown hK hP hD hS 0 (wR_0 y a z) rfl 33 (by decide) (hts (.fieldLink RX11 342 "WorksDeskModel" "totalAside" "J") (List.mem_of_getElem? (i := 4) rfl)) (fun _ h9 => h9) rfl (tyX11_ok 33 (by decide)) rfl rfl (Nat.le_of_ble_eq_true rfl) dX11_layAside_38 (fun H locs hP hD hS => ?_)
        obtain ⟨z3, hP, hD, hm⟩ := zz_up (w := wR y a) (wR_f33 y a z (z.2.1 16 (23 : Int32).toNatClampNeg)) hP hD hm
        refine lv_aload_n hx hb dX11_layAside_41 rfl (lv_at hl 0 rfl) ?_
        refine lv_aload_n hx hb dX11_layAside_42 rfl (lv_at hl 0 rfl) ?_
        obtain ⟨r4, h5, hm⟩ := zz_b1_some hm
        refine zz_calll (zz_runV (w := wR y a) (As := []) (rest := [.ref (a 0)]) ⟨hx, hb, hml, hown, hts⟩ (zX11_interestAll l D y a H.size z3 h5) (cwV 0 hts gX11_layAside_X11_interestAll rfl rfl rfl zdX11_interestAll ⟨Nat.le_of_ble_eq_true rfl, Nat.le_of_ble_eq_true rfl⟩) hK hN hg hP hD hS hA 0 (wR_0 y a z3) rfl rfl hl.1 rfl (Nat.le_of_ble_eq_true rfl) dX11_layAside_43 ⟨Nat.le_of_ble_eq_true rfl, Nat.le_of_ble_eq_true rfl⟩) hD hS hA (fun H locs hP hD hS => ?_)
        refine va_put (D := D) (ci := 11) (v := .long r4) (ty := .long) (C := RX11) (T := TX11) (N := 35) hx hb hts nX11_layAside_X11 tyX11 tyX11_ok nmX11 hown hK hP hD hS 0 (wR_0 y a z3) rfl 34 (by decide) (hts (.fieldLink RX11 346 "WorksDeskModel" "interestAside" "J") (List.mem_of_getElem? (i := 5) rfl)) (fun _ h9 => h9) rfl (tyX11_ok 34 (by decide)) rfl rfl (Nat.le_of_ble_eq_true rfl) dX11_layAside_46 (fun H locs hP hD hS => ?_)
        obtain ⟨z6, hP, hD, hm⟩ := zz_up (w := wR y a) (wR_f34 y a z3 r4) hP hD hm
        exact zz_vret hx hb hr hlocks (zz_some2 hm).2 hP hK hD hS dX11_layAside_49
      · replace hm := zz_neg c1 hm
        refine lv_aload_n hx hb dX11_layAside_12 rfl (lv_at hl 0 rfl) ?_
        refine va_get (D := D) (ci := 11) (v := .ref (a 20)) (C := RX11) (T := TX11) (N := 35) hx hb hts nX11_layAside_X11 hown hK hP 0 (wR_0 y a z) rfl 32 (by decide) (hts (.fieldLink RX11 69 "WorksDeskModel" "certifiedAside" "[J") (List.mem_of_getElem? (i := 1) rfl)) (fun _ h9 => h9) rfl dX11_layAside_13 ?_
        refine lv_iload_n hx hb dX11_layAside_16 rfl (lv_at hl 1 rfl) ?_
        refine lv_aload_n hx hb dX11_layAside_17 rfl (lv_at hl 0 rfl) ?_
        refine va_get (D := D) (ci := 11) (v := .ref (a 15)) (C := RX11) (T := TX11) (N := 35) hx hb hts nX11_layAside_X11 hown hK hP 0 (wR_0 y a z) rfl 27 (by decide) (hts (.fieldLink RX11 54 "WorksDeskModel" "certified" "[J") (List.mem_of_getElem? (i := 2) rfl)) (fun _ h9 => h9) rfl dX11_layAside_18 ?_
        refine lv_iload_n hx hb dX11_layAside_21 rfl (lv_at hl 1 rfl) ?_
        obtain ⟨c7, hm⟩ := zz_ck_some hm
        refine va_lald hx hb hK hP 15 1 (wR_15 y a z) rfl c7 dX11_layAside_22 ?_
        obtain ⟨c8, hm⟩ := zz_ck_some hm
        refine va_last hx hb hK hP hD hS 20 1 (wR_20 y a z) rfl c8 dX11_layAside_23 (fun H locs hP hD hS => ?_)
        obtain ⟨z9, hP, hD, hm⟩ := zz_up (w := wR y a) (wR_w20 y a z v1 (z.2.1 15 v1.toNatClampNeg)) hP hD hm
        obtain ⟨n10, en10⟩ : ∃ q : Int32, q = v1 + (1 : Int32) := ⟨_, rfl⟩
        replace hm := zz_nm_some en10 hm
        refine lv_iinc (v := n10) (lv' := [(1, .int n10), (0, .ref (a 0))]) hx hb dX11_layAside_24 hl (k := 1) rfl (by rw [en10]; rfl) (by decide) rfl (fun ls hl => ?_)
        refine lv_goto (tgt := 6) hx hb dX11_layAside_27 (by decide) ?_
        have j := ih n10 z9 hm
        rw [hG] at j
        exact j H locs ls hP hD hS (lv_sub hl [1, 0] rfl)
  rw [hG]
  intro H locs ls hP hD hS hl
  unfold mX11_layAside at hm
  refine lv_aload_n hx hb dX11_layAside_0 rfl (lv_at hl 0 rfl) ?_
  obtain ⟨r11, z13, h12, hm⟩ := zz_b2_some hm
  refine zz_callv (zz_runV (w := wR y a) (As := []) (rest := []) ⟨hx, hb, hml, hown, hts⟩ (zX11_layMonths l D y a H.size z h12) (cwV 0 hts gX11_layAside_X11_layMonths rfl rfl rfl zdX11_layMonths ⟨Nat.le_of_ble_eq_true rfl, Nat.le_of_ble_eq_true rfl⟩) hK hN hg hP hD hS hA 0 (wR_0 y a z) rfl rfl hl.1 rfl (Nat.le_of_ble_eq_true rfl) dX11_layAside_1 ⟨Nat.le_of_ble_eq_true rfl, Nat.le_of_ble_eq_true rfl⟩) hD hS hA (fun H locs hP hD hS => ?_)
  refine lv_iconst (v := (0 : Int32)) hx hb dX11_layAside_4 (by decide) ?_
  refine lv_istore_n (lv' := [(1, .int (0 : Int32)), (0, .ref (a 0))]) hx hb dX11_layAside_5 rfl hl (by decide) rfl (fun ls hl => ?_)
  have j := J6 zz_N (0 : Int32) z13 hm
  rw [hG] at j
  exact j H locs ls hP hD hS (lv_sub hl [1, 0] rfl)
