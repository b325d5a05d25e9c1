def mX11_layMonths_b261 (k25 : Int64 → Int64 → Int64 → Int64 → Int32 → zz_M → Option (Unit × zz_M)) (v1 : Int64) (v3 : Int64) (v5 : Int64) (v7 : Int64) (v9 : Int32) (t0 : Int64) (t1 : Int32) (z : zz_M) : Option (Unit × zz_M) := zz_ck (zz_in t1 24) (zz_nm (zz_wJ z 15 t1 t0) (fun z2 => zz_ck (zz_in v9 24) (zz_nm (v7 + (z2.2.1 15 v9.toNatClampNeg)) (fun n4 => zz_ck (zz_in v9 24) (zz_nm (zz_wJ z2 16 v9 n4) (fun z6 => zz_nm (v9 + (1 : Int32)) (fun n7 => k25 v1 v3 v5 n4 n7 z6)))))))
def mX11_layMonths_b259 (k25 : Int64 → Int64 → Int64 → Int64 → Int32 → zz_M → Option (Unit × zz_M)) (v1 : Int64) (v3 : Int64) (v5 : Int64) (v7 : Int64) (v9 : Int32) (v16 : Int64) (t0 : Int32) (z : zz_M) : Option (Unit × zz_M) := mX11_layMonths_b261 k25 v1 v3 v5 v7 v9 v16 t0 z
def mX11_layMonths_b161 (k25 : Int64 → Int64 → Int64 → Int64 → Int32 → zz_M → Option (Unit × zz_M)) (v1 : Int64) (v3 : Int64) (v7 : Int64) (v9 : Int32) (v10 : Int64) (v14 : Int64) (t0 : Int64) (t1 : Int32) (z : zz_M) : Option (Unit × zz_M) := zz_ck (zz_in t1 24) (zz_nm (zz_wJ z 12 t1 (t0 + v14)) (fun z9 => zz_b1 (mX11_materialsIn v9 z9) (fun r10 => zz_b1 (mX11_advancedNow z9) (fun r12 => zz_ck (zz_in v9 24) (zz_b1 (mX11_retainedIn v9 z9) (fun r15 => zz_b1 (mX11_setIn v9 z9) (fun r17 => zz_b1 (mX11_damagesIn v9 z9) (fun r19 => zz_ck (zz_in v9 24) (zz_nm (zz_wJ z9 14 v9 (((((((v10 + r10) + r12) + (z9.2.1 12 v9.toNatClampNeg)) - r15) - v3) - r17) - r19)) (fun z22 => zz_ck (zz_in v9 24) (zz_nm ((z22.2.1 14 v9.toNatClampNeg) - v7) (fun n24 => if (0 : Int32) ≤ (lg_cmp n24 (0 : Int64)) then (mX11_layMonths_b259 k25 v1 v3 v10 v7 v9 n24 v9 z22) else (if (z22.2.2.1 10) ≤ v9 then (mX11_layMonths_b259 k25 v1 v3 v10 v7 v9 n24 v9 z22) else (mX11_layMonths_b261 k25 v1 v3 v10 v7 v9 (0 : Int64) v9 z22))))))))))))))
def mX11_layMonths_b95 (k25 : Int64 → Int64 → Int64 → Int64 → Int32 → zz_M → Option (Unit × zz_M)) (v1 : Int64) (v5 : Int64) (v7 : Int64) (v9 : Int32) (v10 : Int64) (t0 : Int64) (z : zz_M) : Option (Unit × zz_M) := zz_ck (zz_in v9 24) (zz_nm (zz_wJ z 13 v9 t0) (fun z28 => zz_b1 (mX11_indexIn v9 z28) (fun r29 => zz_ck (¬ (1000 : Int64) = (0 : Int64)) (zz_ck (zz_in (13 : Int32) 14) (zz_b1 (mX11_thousandths (((v10 - v5) * ((r29 - (1000 : Int32)).toInt64)) / (1000 : Int64)) (z28.1 1 (13 : Int32).toNatClampNeg)) (fun r33 => if v9 = (0 : Int32) then (mX11_layMonths_b161 k25 v1 t0 v7 v9 v10 r33 (0 : Int64) v9 z28) else (zz_ck (zz_in (v9 - (1 : Int32)) 24) (mX11_layMonths_b161 k25 v1 t0 v7 v9 v10 r33 (z28.2.1 12 (v9 - (1 : Int32)).toNatClampNeg) v9 z28))))))))
def mX11_layMonths_b68 (k25 : Int64 → Int64 → Int64 → Int64 → Int32 → zz_M → Option (Unit × zz_M)) (v1 : Int64) (v3 : Int64) (v5 : Int64) (v7 : Int64) (v9 : Int32) (v10 : Int64) (t0 : Int64) (t1 : Int64) (z : zz_M) : Option (Unit × zz_M) := zz_nm (if t0 < t1 then t0 else t1) (fun n37 => if v9 < (z.2.2.1 10) then (mX11_layMonths_b95 k25 v1 v5 v7 v9 v10 (if n37 < v3 then v3 else n37) z) else (zz_b1 (mX11_advancedNow z) (fun r39 => mX11_layMonths_b95 k25 v1 v5 v7 v9 v10 r39 z)))
def mX11_layMonths_b25 : Nat → Int64 → Int64 → Int64 → Int64 → Int32 → zz_M → Option (Unit × zz_M)
  | 0, _, _, _, _, _, _ => none
  | n + 1, v1, v3, v5, v7, v9, z => if (24 : Int32) ≤ v9 then (zz_b2 (mX11_layOwed z) (fun r42 z44 => some ((), z44))) else (zz_b1 (mX11_workIn v9 z) (fun r45 => zz_b1 (mX11_advancedNow z) (fun r47 => if (lg_cmp r45 v1) ≤ (0 : Int32) then (mX11_layMonths_b68 (mX11_layMonths_b25 n) v1 v3 v5 v7 v9 r45 (0 : Int64) r47 z) else (zz_ck (zz_in (5 : Int32) 14) (zz_b1 (mX11_thousandths (r45 - v1) (z.1 1 (5 : Int32).toNatClampNeg)) (fun r51 => mX11_layMonths_b68 (mX11_layMonths_b25 n) v1 v3 v5 v7 v9 r45 r51 r47 z))))))
def mX11_layMonths (z : zz_M) : Option (Unit × zz_M) := zz_b1 (mX11_sumNow z) (fun r53 => zz_ck (zz_in (4 : Int32) 14) (zz_b1 (mX11_thousandths r53 (z.1 1 (4 : Int32).toNatClampNeg)) (fun r56 => mX11_layMonths_b25 zz_N r56 (0 : Int64) (0 : Int64) (0 : Int64) (0 : Int32) z)))
theorem nX11_layMonths_X11 : ∀ w ∈ wsX110, w ∈ wsX11_layMonths := fun _ h => List.mem_cons_of_mem _ (List.mem_append_right _ (h))
theorem zdX11_layMonths : yX11_layMonths.cls = RX11 ∧ yX11_layMonths.cls ≠ "java/lang/invoke/MethodHandle" ∧ yX11_layMonths.cls ≠ "java/lang/invoke/VarHandle" ∧ (parseMethodDescriptor yX11_layMonths.desc).map (fun d => d.parameters.length) = some 0 := by decide +kernel
set_option maxHeartbeats 4000000 in
set_option maxRecDepth 100000 in
theorem zX11_layMonths (l : Launch) (D : va_G) (y : Nat → ClassId) (a : Nat → Nat) (sz : Nat) (z : zz_M) {r : Unit} {zt : zz_M} (hm : mX11_layMonths z = some (r, zt)) : Met l yX11_layMonths wsX11_layMonths { frames := 6, cells := 0, slots := 0, locals := 138 } (zz_Pc D y (wR y a z) sz [.ref (a 0)]) (zz_Qv D y (wR y a) (va_A (wR y a z) sz) zt) 0 0 (va_A (wR y a z) sz) := by
  refine Met.ofW (cc := cX11_layMonths) (maxL := 18) (ret := none) (by decide) rfl ?_
  intro p e s m args below meth c s₁ B hml hv
  obtain ⟨rfl, hsz, hP, hK, hD0, hN, hg⟩ := hv
  have hx := B.exec
  have hb := B.bytes
  have hr := B.returns
  have hts := atoms_spec (ws := wsX11_layMonths) B.pre
  have hown : s.vm.findClass RX11 = some m.cls := findClass_of_methodNamed B.named
  have hlocks := B.notSynchronized
  clear B
  subst hsz
  have hD := hD0.self (sz := s.heap.size)
  generalize hAe : va_A (wR y a z) s.heap.size = A at hD hg ⊢
  have hA : ∀ q : Nat, s.heap.size ≤ q → A q := fun q h => by rw [← hAe]; exact Or.inr h
  clear hAe hD0
  have hl := lv_entry ([.ref (a 0)]) (n := 18) (Nat.le_of_ble_eq_true rfl)
  rw [lg_entry_eq]
  generalize (lg_sl ([.ref (a 0)]) ++ List.replicate (18 - (lg_sl ([.ref (a 0)])).length) Slot.unset).toArray = ls at hl ⊢
  replace hl : lv_has ls 18 [(0, .ref (a 0))] := hl
  refine zz_go (w := wR y a) hP hD va_S.rf hl (fun G hG => ?_)
  clear hP hD hl ls
  have J261 : ∀ (k25 : Int64 → Int64 → Int64 → Int64 → Int32 → zz_M → Option (Unit × zz_M)) (K25 : ∀ (v1 : Int64) (v3 : Int64) (v5 : Int64) (v7 : Int64) (v9 : Int32) (z : zz_M), k25 v1 v3 v5 v7 v9 z = some (r, zt) → G 25 [(0, .ref (a 0)), (1, .long v1), (3, .long v3), (5, .long v5), (7, .long v7), (9, .int v9)] [] z) (v1 : Int64) (v3 : Int64) (v5 : Int64) (v7 : Int64) (v9 : Int32) (t0 : Int64) (t1 : Int32) (z : zz_M), mX11_layMonths_b261 k25 v1 v3 v5 v7 v9 t0 t1 z = some (r, zt) → G 261 [(0, .ref (a 0)), (1, .long v1), (3, .long v3), (5, .long v5), (7, .long v7), (9, .int v9)] [.long t0, .int t1, .ref (a 15)] z := by
    intro k25 K25 v1 v3 v5 v7 v9 t0 t1 z hm
    rw [mX11_layMonths_b261] at hm
    rw [hG]
    intro H locs ls hP hD hS hl
    obtain ⟨c1, hm⟩ := zz_ck_some hm
    refine va_last hx hb hK hP hD hS 15 1 (wR_15 y a z) rfl c1 dX11_layMonths_261 (fun H locs hP hD hS => ?_)
    obtain ⟨z2, hP, hD, hm⟩ := zz_up (w := wR y a) (wR_w15 y a z t1 t0) hP hD hm
    refine lv_lload hx hb dX11_layMonths_262 (lv_at hl 4 rfl) ?_
    refine lv_aload_n hx hb dX11_layMonths_264 rfl (lv_at hl 0 rfl) ?_
    refine va_get (D := D) (ci := 11) (v := .ref (a 15)) (C := RX11) (T := TX11) (N := 35) hx hb hts nX11_layMonths_X11 hown hK hP 0 (wR_0 y a z2) rfl 27 (by decide) (hts (.fieldLink RX11 54 "WorksDeskModel" "certified" "[J") (List.mem_of_getElem? (i := 14) rfl)) (fun _ h9 => h9) rfl dX11_layMonths_265 ?_
    refine lv_iload hx hb dX11_layMonths_268 (lv_at hl 5 rfl) ?_
    obtain ⟨c3, hm⟩ := zz_ck_some hm
    refine va_lald hx hb hK hP 15 1 (wR_15 y a z2) rfl c3 dX11_layMonths_270 ?_
    refine lv_ladd hx hb dX11_layMonths_271 ?_
    refine lv_topl (fun n4 en4 => ?_)
    replace hm := zz_nm_some en4 hm
    refine lv_lstore (lv' := [(7, .long n4), (0, .ref (a 0)), (1, .long v1), (3, .long v3), (5, .long v5), (9, .int v9)]) hx hb dX11_layMonths_272 hl (by decide) rfl (fun ls hl => ?_)
    refine lv_aload_n hx hb dX11_layMonths_274 rfl (lv_at hl 1 rfl) ?_
    refine va_get (D := D) (ci := 11) (v := .ref (a 16)) (C := RX11) (T := TX11) (N := 35) hx hb hts nX11_layMonths_X11 hown hK hP 0 (wR_0 y a z2) rfl 28 (by decide) (hts (.fieldLink RX11 57 "WorksDeskModel" "total" "[J") (List.mem_of_getElem? (i := 15) rfl)) (fun _ h9 => h9) rfl dX11_layMonths_275 ?_
    refine lv_iload hx hb dX11_layMonths_278 (lv_at hl 5 rfl) ?_
    refine lv_lload hx hb dX11_layMonths_280 (lv_at hl 0 rfl) ?_
    obtain ⟨c5, hm⟩ := zz_ck_some hm
    refine va_last hx hb hK hP hD hS 16 1 (wR_16 y a z2) rfl c5 dX11_layMonths_282 (fun H locs hP hD hS => ?_)
    obtain ⟨z6, hP, hD, hm⟩ := zz_up (w := wR y a) (wR_w16 y a z2 v9 n4) hP hD hm
    obtain ⟨n7, en7⟩ : ∃ q : Int32, q = v9 + (1 : Int32) := ⟨_, rfl⟩
    replace hm := zz_nm_some en7 hm
    refine lv_iinc (v := n7) (lv' := [(9, .int n7), (7, .long n4), (0, .ref (a 0)), (1, .long v1), (3, .long v3), (5, .long v5)]) hx hb dX11_layMonths_283 hl (k := 5) rfl (by rw [en7]; rfl) (by decide) rfl (fun ls hl => ?_)
    refine lv_goto (tgt := 25) hx hb dX11_layMonths_286 (by decide) ?_
    have j := K25 v1 v3 v5 n4 n7 z6 hm
    rw [hG] at j
    exact j H locs ls hP hD hS (lv_sub hl [2, 3, 4, 5, 1, 0] rfl)
  have J259 : ∀ (k25 : Int64 → Int64 → Int64 → Int64 → Int32 → zz_M → Option (Unit × zz_M)) (K25 : ∀ (v1 : Int64) (v3 : Int64) (v5 : Int64) (v7 : Int64) (v9 : Int32) (z : zz_M), k25 v1 v3 v5 v7 v9 z = some (r, zt) → G 25 [(0, .ref (a 0)), (1, .long v1), (3, .long v3), (5, .long v5), (7, .long v7), (9, .int v9)] [] z) (v1 : Int64) (v3 : Int64) (v5 : Int64) (v7 : Int64) (v9 : Int32) (v16 : Int64) (t0 : Int32) (z : zz_M), mX11_layMonths_b259 k25 v1 v3 v5 v7 v9 v16 t0 z = some (r, zt) → G 259 [(0, .ref (a 0)), (1, .long v1), (3, .long v3), (5, .long v5), (7, .long v7), (9, .int v9), (16, .long v16)] [.int t0, .ref (a 15)] z := by
    intro k25 K25 v1 v3 v5 v7 v9 v16 t0 z hm
    rw [mX11_layMonths_b259] at hm
    rw [hG]
    intro H locs ls hP hD hS hl
    refine lv_lload hx hb dX11_layMonths_259 (lv_at hl 6 rfl) ?_
    have j := J261 k25 K25 v1 v3 v5 v7 v9 v16 t0 z hm
    rw [hG] at j
    exact j H locs ls hP hD hS (lv_sub hl [0, 1, 2, 3, 4, 5] rfl)
  have J161 : ∀ (k25 : Int64 → Int64 → Int64 → Int64 → Int32 → zz_M → Option (Unit × zz_M)) (K25 : ∀ (v1 : Int64) (v3 : Int64) (v5 : Int64) (v7 : Int64) (v9 : Int32) (z : zz_M), k25 v1 v3 v5 v7 v9 z = some (r, zt) → G 25 [(0, .ref (a 0)), (1, .long v1), (3, .long v3), (5, .long v5), (7, .long v7), (9, .int v9)] [] z) (v1 : Int64) (v3 : Int64) (v7 : Int64) (v9 : Int32) (v10 : Int64) (v14 : Int64) (t0 : Int64) (t1 : Int32) (z : zz_M), mX11_layMonths_b161 k25 v1 v3 v7 v9 v10 v14 t0 t1 z = some (r, zt) → G 161 [(0, .ref (a 0)), (1, .long v1), (3, .long v3), (7, .long v7), (9, .int v9), (10, .long v10), (14, .long v14)] [.long t0, .int t1, .ref (a 12)] z := by
    intro k25 K25 v1 v3 v7 v9 v10 v14 t0 t1 z hm
    rw [mX11_layMonths_b161] at hm
    rw [hG]
    intro H locs ls hP hD hS hl
    refine lv_lload hx hb dX11_layMonths_161 (lv_at hl 6 rfl) ?_
    refine lv_ladd hx hb dX11_layMonths_163 ?_
    obtain ⟨c8, hm⟩ := zz_ck_some hm
    refine va_last hx hb hK hP hD hS 12 1 (wR_12 y a z) rfl c8 dX11_layMonths_164 (fun H locs hP hD hS => ?_)
    obtain ⟨z9, hP, hD, hm⟩ := zz_up (w := wR y a) (wR_w12 y a z t1 (t0 + v14)) hP hD hm
    refine lv_lload hx hb dX11_layMonths_165 (lv_at hl 5 rfl) ?_
    refine lv_lstore (lv' := [(5, .long v10), (0, .ref (a 0)), (1, .long v1), (3, .long v3), (7, .long v7), (9, .int v9), (10, .long v10), (14, .long v14)]) hx hb dX11_layMonths_167 hl (by decide) rfl (fun ls hl => ?_)
    refine lv_aload_n hx hb dX11_layMonths_169 rfl (lv_at hl 1 rfl) ?_
    refine va_get (D := D) (ci := 11) (v := .ref (a 14)) (C := RX11) (T := TX11) (N := 35) hx hb hts nX11_layMonths_X11 hown hK hP 0 (wR_0 y a z9) rfl 26 (by decide) (hts (.fieldLink RX11 51 "WorksDeskModel" "net" "[J") (List.mem_of_getElem? (i := 13) rfl)) (fun _ h9 => h9) rfl dX11_layMonths_170 ?_
    refine lv_iload hx hb dX11_layMonths_173 (lv_at hl 5 rfl) ?_
    refine lv_lload hx hb dX11_layMonths_175 (lv_at hl 6 rfl) ?_
    refine lv_aload_n hx hb dX11_layMonths_177 rfl (lv_at hl 1 rfl) ?_
    refine lv_iload hx hb dX11_layMonths_178 (lv_at hl 5 rfl) ?_
    obtain ⟨r10, h11, hm⟩ := zz_b1_some hm
    refine zz_calll (zz_runV (w := wR y a) (As := [.int v9]) (rest := [.long v10, .int v9, .ref (a 14)]) ⟨hx, hb, hml, hown, hts⟩ (zX11_materialsIn l D y a H.size v9 z9 h11) (cwV 1 hts gX11_layMonths_X11_materialsIn rfl rfl rfl zdX11_materialsIn ⟨Nat.le_of_ble_eq_true rfl, Nat.le_of_ble_eq_true rfl⟩) hK hN hg hP hD hS hA 0 (wR_0 y a z9) rfl rfl hl.1 rfl (Nat.le_of_ble_eq_true rfl) dX11_layMonths_180 ⟨Nat.le_of_ble_eq_true rfl, Nat.le_of_ble_eq_true rfl⟩) hD hS hA (fun H locs hP hD hS => ?_)
    refine lv_ladd hx hb dX11_layMonths_183 ?_
    refine lv_aload_n hx hb dX11_layMonths_184 rfl (lv_at hl 1 rfl) ?_
    obtain ⟨r12, h13, hm⟩ := zz_b1_some hm
    refine zz_calll (zz_runV (w := wR y a) (As := []) (rest := [.long (v10 + r10), .int v9, .ref (a 14)]) ⟨hx, hb, hml, hown, hts⟩ (zX11_advancedNow l D y a H.size z9 h13) (cwV 0 hts gX11_layMonths_X11_advancedNow rfl rfl rfl zdX11_advancedNow ⟨Nat.le_of_ble_eq_true rfl, Nat.le_of_ble_eq_true rfl⟩) hK hN hg hP hD hS hA 0 (wR_0 y a z9) rfl rfl hl.1 rfl (Nat.le_of_ble_eq_true rfl) dX11_layMonths_185 ⟨Nat.le_of_ble_eq_true rfl, Nat.le_of_ble_eq_true rfl⟩) hD hS hA (fun H locs hP hD hS => ?_)
    refine lv_ladd hx hb dX11_layMonths_188 ?_
    refine lv_aload_n hx hb dX11_layMonths_189 rfl (lv_at hl 1 rfl) ?_
    refine va_get (D := D) (ci := 11) (v := .ref (a 12)) (C := RX11) (T := TX11) (N := 35) hx hb hts nX11_layMonths_X11 hown hK hP 0 (wR_0 y a z9) rfl 24 (by decide) (hts (.fieldLink RX11 45 "WorksDeskModel" "adjusted" "[J") (List.mem_of_getElem? (i := 12) rfl)) (fun _ h9 => h9) rfl dX11_layMonths_190 ?_
    refine lv_iload hx hb dX11_layMonths_193 (lv_at hl 5 rfl) ?_
    obtain ⟨c14, hm⟩ := zz_ck_some hm
    refine va_lald hx hb hK hP 12 1 (wR_12 y a z9) rfl c14 dX11_layMonths_195 ?_
    refine lv_ladd hx hb dX11_layMonths_196 ?_
    refine lv_aload_n hx hb dX11_layMonths_197 rfl (lv_at hl 1 rfl) ?_
    refine lv_iload hx hb dX11_layMonths_198 (lv_at hl 5 rfl) ?_
    obtain ⟨r15, h16, hm⟩ := zz_b1_some hm
    refine zz_calll (zz_runV (w := wR y a) (As := [.int v9]) (rest := [.long (((v10 + r10) + r12) + (z9.2.1 12 v9.toNatClampNeg)), .int v9, .ref (a 14)]) ⟨hx, hb, hml, hown, hts⟩ (zX11_retainedIn l D y a H.size v9 z9 h16) (cwV 1 hts gX11_layMonths_X11_retainedIn rfl rfl rfl zdX11_retainedIn ⟨Nat.le_of_ble_eq_true rfl, Nat.le_of_ble_eq_true rfl⟩) hK hN hg hP hD hS hA 0 (wR_0 y a z9) rfl rfl hl.1 rfl (Nat.le_of_ble_eq_true rfl) dX11_layMonths_200 ⟨Nat.le_of_ble_eq_true rfl, Nat.le_of_ble_eq_true rfl⟩) hD hS hA (fun H locs hP hD hS => ?_)
    refine lv_lsub hx hb dX11_layMonths_203 ?_
    refine lv_lload_n hx hb dX11_layMonths_204 rfl (lv_at hl 3 rfl) ?_
    refine lv_lsub hx hb dX11_layMonths_205 ?_
    refine lv_aload_n hx hb dX11_layMonths_206 rfl (lv_at hl 1 rfl) ?_
    refine lv_iload hx hb dX11_layMonths_207 (lv_at hl 5 rfl) ?_
    obtain ⟨r17, h18, hm⟩ := zz_b1_some hm
    refine zz_calll (zz_runV (w := wR y a) (As := [.int v9]) (rest := [.long (((((v10 + r10) + r12) + (z9.2.1 12 v9.toNatClampNeg)) - r15) - v3), .int v9, .ref (a 14)]) ⟨hx, hb, hml, hown, hts⟩ (zX11_setIn l D y a H.size v9 z9 h18) (cwV 1 hts gX11_layMonths_X11_setIn rfl rfl rfl zdX11_setIn ⟨Nat.le_of_ble_eq_true rfl, Nat.le_of_ble_eq_true rfl⟩) hK hN hg hP hD hS hA 0 (wR_0 y a z9) rfl rfl hl.1 rfl (Nat.le_of_ble_eq_true rfl) dX11_layMonths_209 ⟨Nat.le_of_ble_eq_true rfl, Nat.le_of_ble_eq_true rfl⟩) hD hS hA (fun H locs hP hD hS => ?_)
    refine lv_lsub hx hb dX11_layMonths_212 ?_
    refine lv_aload_n hx hb dX11_layMonths_213 rfl (lv_at hl 1 rfl) ?_
    refine lv_iload hx hb dX11_layMonths_214 (lv_at hl 5 rfl) ?_
    obtain ⟨r19, h20, hm⟩ := zz_b1_some hm
    refine zz_calll (zz_runV (w := wR y a) (As := [.int v9]) (rest := [.long ((((((v10 + r10) + r12) + (z9.2.1 12 v9.toNatClampNeg)) - r15) - v3) - r17), .int v9, .ref (a 14)]) ⟨hx, hb, hml, hown, hts⟩ (zX11_damagesIn l D y a H.size v9 z9 h20) (cwV 1 hts gX11_layMonths_X11_damagesIn rfl rfl rfl zdX11_damagesIn ⟨Nat.le_of_ble_eq_true rfl, Nat.le_of_ble_eq_true rfl⟩) hK hN hg hP hD hS hA 0 (wR_0 y a z9) rfl rfl hl.1 rfl (Nat.le_of_ble_eq_true rfl) dX11_layMonths_216 ⟨Nat.le_of_ble_eq_true rfl, Nat.le_of_ble_eq_true rfl⟩) hD hS hA (fun H locs hP hD hS => ?_)
    refine lv_lsub hx hb dX11_layMonths_219 ?_
    obtain ⟨c21, hm⟩ := zz_ck_some hm
    refine va_last hx hb hK hP hD hS 14 1 (wR_14 y a z9) rfl c21 dX11_layMonths_220 (fun H locs hP hD hS => ?_)
    obtain ⟨z22, hP, hD, hm⟩ := zz_up (w := wR y a) (wR_w14 y a z9 v9 (((((((v10 + r10) + r12) + (z9.2.1 12 v9.toNatClampNeg)) - r15) - v3) - r17) - r19)) hP hD hm
    refine lv_aload_n hx hb dX11_layMonths_221 rfl (lv_at hl 1 rfl) ?_
    refine va_get (D := D) (ci := 11) (v := .ref (a 14)) (C := RX11) (T := TX11) (N := 35) hx hb hts nX11_layMonths_X11 hown hK hP 0 (wR_0 y a z22) rfl 26 (by decide) (hts (.fieldLink RX11 51 "WorksDeskModel" "net" "[J") (List.mem_of_getElem? (i := 13) rfl)) (fun _ h9 => h9) rfl dX11_layMonths_222 ?_
    refine lv_iload hx hb dX11_layMonths_225 (lv_at hl 5 rfl) ?_
    obtain ⟨c23, hm⟩ := zz_ck_some hm
    refine va_lald hx hb hK hP 14 1 (wR_14 y a z22) rfl c23 dX11_layMonths_227 ?_
    refine lv_lload hx hb dX11_layMonths_228 (lv_at hl 4 rfl) ?_
    refine lv_lsub hx hb dX11_layMonths_230 ?_
    refine lv_topl (fun n24 en24 => ?_)
    replace hm := zz_nm_some en24 hm
    refine lv_lstore (lv' := [(16, .long n24), (5, .long v10), (0, .ref (a 0)), (1, .long v1), (3, .long v3), (7, .long v7), (9, .int v9), (10, .long v10), (14, .long v14)]) hx hb dX11_layMonths_231 hl (by decide) rfl (fun ls hl => ?_)
    refine lv_aload_n hx hb dX11_layMonths_233 rfl (lv_at hl 2 rfl) ?_
    refine va_get (D := D) (ci := 11) (v := .ref (a 15)) (C := RX11) (T := TX11) (N := 35) hx hb hts nX11_layMonths_X11 hown hK hP 0 (wR_0 y a z22) rfl 27 (by decide) (hts (.fieldLink RX11 54 "WorksDeskModel" "certified" "[J") (List.mem_of_getElem? (i := 14) rfl)) (fun _ h9 => h9) rfl dX11_layMonths_234 ?_
    refine lv_iload hx hb dX11_layMonths_237 (lv_at hl 6 rfl) ?_
    refine lv_lload hx hb dX11_layMonths_239 (lv_at hl 0 rfl) ?_
    refine lv_lconst (v := (0 : Int64)) hx hb dX11_layMonths_241 (by decide) ?_
    refine W.lcmp hx hb dX11_layMonths_242 ?_
    refine lv_if_ge (tgt := 259) hx hb dX11_layMonths_243 (by decide) (fun c25 => ?_) (fun c25 => ?_)
    · replace hm := zz_pos c25 hm
      have j := J259 k25 K25 v1 v3 v10 v7 v9 n24 v9 z22 hm
      rw [hG] at j
      exact j H locs ls hP hD hS (lv_sub hl [2, 3, 4, 1, 5, 6, 0] rfl)
    · replace hm := zz_neg c25 hm
      refine lv_iload hx hb dX11_layMonths_246 (lv_at hl 6 rfl) ?_
      refine lv_aload_n hx hb dX11_layMonths_248 rfl (lv_at hl 2 rfl) ?_
      refine va_get (D := D) (ci := 11) (v := .int (z22.2.2.1 10)) (C := RX11) (T := TX11) (N := 35) hx hb hts nX11_layMonths_X11 hown hK hP 0 (wR_0 y a z22) rfl 10 (by decide) (hts (.fieldLink RX11 88 "WorksDeskModel" "last" "I") (List.mem_of_getElem? (i := 6) rfl)) (fun _ h9 => h9) rfl dX11_layMonths_249 ?_
      refine lv_icmp_ge (tgt := 259) hx hb dX11_layMonths_252 (by decide) (fun c26 => ?_) (fun c26 => ?_)
      · replace hm := zz_pos c26 hm
        have j := J259 k25 K25 v1 v3 v10 v7 v9 n24 v9 z22 hm
        rw [hG] at j
        exact j H locs ls hP hD hS (lv_sub hl [2, 3, 4, 1, 5, 6, 0] rfl)
      · replace hm := zz_neg c26 hm
        refine lv_lconst (v := (0 : Int64)) hx hb dX11_layMonths_255 (by decide) ?_
        refine lv_goto (tgt := 261) hx hb dX11_layMonths_256 (by decide) ?_
        have j := J261 k25 K25 v1 v3 v10 v7 v9 (0 : Int64) v9 z22 hm
        rw [hG] at j
        exact j H locs ls hP hD hS (lv_sub hl [2, 3, 4, 1, 5, 6] rfl)
  have J95 : ∀ (k25 : Int64 → Int64 → Int64 → Int64 → Int32 → zz_M → Option (Unit × zz_M)) (K25 : ∀ (v1 : Int64) (v3 : Int64) (v5 : Int64) (v7 : Int64) (v9 : Int32) (z : zz_M), k25 v1 v3 v5 v7 v9 z = some (r, zt) → G 25 [(0, .ref (a 0)), (1, .long v1), (3, .long v3), (5, .long v5), (7, .long v7), (9, .int v9)] [] z) (v1 : Int64) (v5 : Int64) (v7 : Int64) (v9 : Int32) (v10 : Int64) (t0 : Int64) (z : zz_M), mX11_layMonths_b95 k25 v1 v5 v7 v9 v10 t0 z = some (r, zt) → G 95 [(0, .ref (a 0)), (1, .long v1), (5, .long v5), (7, .long v7), (9, .int v9), (10, .long v10)] [.long t0] z := by
    intro k25 K25 v1 v5 v7 v9 v10 t0 z hm
    rw [mX11_layMonths_b95] at hm
    rw [hG]
    intro H locs ls hP hD hS hl
    refine lv_lstore_n (lv' := [(3, .long t0), (0, .ref (a 0)), (1, .long v1), (5, .long v5), (7, .long v7), (9, .int v9), (10, .long v10)]) hx hb dX11_layMonths_95 rfl hl (by decide) rfl (fun ls hl => ?_)
    refine lv_aload_n hx hb dX11_layMonths_96 rfl (lv_at hl 1 rfl) ?_
    refine va_get (D := D) (ci := 11) (v := .ref (a 13)) (C := RX11) (T := TX11) (N := 35) hx hb hts nX11_layMonths_X11 hown hK hP 0 (wR_0 y a z) rfl 25 (by decide) (hts (.fieldLink RX11 48 "WorksDeskModel" "recovered" "[J") (List.mem_of_getElem? (i := 10) rfl)) (fun _ h9 => h9) rfl dX11_layMonths_97 ?_
    refine lv_iload hx hb dX11_layMonths_100 (lv_at hl 5 rfl) ?_
    refine lv_lload_n hx hb dX11_layMonths_102 rfl (lv_at hl 0 rfl) ?_
    obtain ⟨c27, hm⟩ := zz_ck_some hm
    refine va_last hx hb hK hP hD hS 13 1 (wR_13 y a z) rfl c27 dX11_layMonths_103 (fun H locs hP hD hS => ?_)
    obtain ⟨z28, hP, hD, hm⟩ := zz_up (w := wR y a) (wR_w13 y a z v9 t0) hP hD hm
    refine lv_lload hx hb dX11_layMonths_104 (lv_at hl 6 rfl) ?_
    refine lv_lload hx hb dX11_layMonths_106 (lv_at hl 3 rfl) ?_
    refine lv_lsub hx hb dX11_layMonths_108 ?_
    refine lv_aload_n hx hb dX11_layMonths_109 rfl (lv_at hl 1 rfl) ?_
    refine lv_iload hx hb dX11_layMonths_110 (lv_at hl 5 rfl) ?_
    obtain ⟨r29, h30, hm⟩ := zz_b1_some hm
    refine zz_calli (zz_runV (w := wR y a) (As := [.int v9]) (rest := [.long (v10 - v5)]) ⟨hx, hb, hml, hown, hts⟩ (zX11_indexIn l D y a H.size v9 z28 h30) (cwV 1 hts gX11_layMonths_X11_indexIn rfl rfl rfl zdX11_indexIn ⟨Nat.le_of_ble_eq_true rfl, Nat.le_of_ble_eq_true rfl⟩) hK hN hg hP hD hS hA 0 (wR_0 y a z28) rfl rfl hl.1 rfl (Nat.le_of_ble_eq_true rfl) dX11_layMonths_112 ⟨Nat.le_of_ble_eq_true rfl, Nat.le_of_ble_eq_true rfl⟩) hD hS hA (fun H locs hP hD hS => ?_)
    refine lv_sipush (v := (1000 : Int32)) hx hb dX11_layMonths_115 (by decide) ?_
    refine lv_isub hx hb dX11_layMonths_118 ?_
    refine lv_i2l hx hb dX11_layMonths_119 rfl ?_
    refine lv_lmul hx hb dX11_layMonths_120 ?_
    refine lv_ldc2 (v := (1000 : Int64)) hx hb hown (hts (.constantLong RX11 195 (1000)) (List.mem_of_getElem? (i := 11) rfl)) dX11_layMonths_121 ?_
    obtain ⟨c31, hm⟩ := zz_ck_some hm
    refine lv_ldiv hx hb dX11_layMonths_124 c31 ?_
    refine lv_aload_n hx hb dX11_layMonths_125 rfl (lv_at hl 1 rfl) ?_
    refine va_get (D := D) (ci := 11) (v := .ref (a 1)) (C := RX11) (T := TX11) (N := 35) hx hb hts nX11_layMonths_X11 hown hK hP 0 (wR_0 y a z28) rfl 0 (by decide) (hts (.fieldLink RX11 7 "WorksDeskModel" "terms" "[I") (List.mem_of_getElem? (i := 1) rfl)) (fun _ h9 => h9) rfl dX11_layMonths_126 ?_
    refine lv_bipush (v := (13 : Int32)) hx hb dX11_layMonths_129 (by decide) ?_
    obtain ⟨c32, hm⟩ := zz_ck_some hm
    refine va_iald hx hb hK hP 1 0 (wR_1 y a z28) rfl c32 dX11_layMonths_131 ?_
    obtain ⟨r33, h34, hm⟩ := zz_b1_some hm
    refine zz_calll (zz_runS (w := wR y a) (As := [.long (((v10 - v5) * ((r29 - (1000 : Int32)).toInt64)) / (1000 : Int64)), .int (z28.1 1 (13 : Int32).toNatClampNeg)]) (rest := []) ⟨hx, hb, hml, hown, hts⟩ (zX11_thousandths l D y a H.size (((v10 - v5) * ((r29 - (1000 : Int32)).toInt64)) / (1000 : Int64)) (z28.1 1 (13 : Int32).toNatClampNeg) z28 h34) (va_cwS 2 hts gX11_layMonths_X11_thousandths rfl rfl rfl zdX11_thousandths ⟨Nat.le_of_ble_eq_true rfl, Nat.le_of_ble_eq_true rfl⟩) hK hN hg hP hD hS hA rfl hl.1 rfl (Nat.le_of_ble_eq_true rfl) dX11_layMonths_132 ⟨Nat.le_of_ble_eq_true rfl, Nat.le_of_ble_eq_true rfl⟩) hD hS hA (fun H locs hP hD hS => ?_)
    refine lv_lstore (lv' := [(14, .long r33), (3, .long t0), (0, .ref (a 0)), (1, .long v1), (5, .long v5), (7, .long v7), (9, .int v9), (10, .long v10)]) hx hb dX11_layMonths_135 hl (by decide) rfl (fun ls hl => ?_)
    refine lv_aload_n hx hb dX11_layMonths_137 rfl (lv_at hl 2 rfl) ?_
    refine va_get (D := D) (ci := 11) (v := .ref (a 12)) (C := RX11) (T := TX11) (N := 35) hx hb hts nX11_layMonths_X11 hown hK hP 0 (wR_0 y a z28) rfl 24 (by decide) (hts (.fieldLink RX11 45 "WorksDeskModel" "adjusted" "[J") (List.mem_of_getElem? (i := 12) rfl)) (fun _ h9 => h9) rfl dX11_layMonths_138 ?_
    refine lv_iload hx hb dX11_layMonths_141 (lv_at hl 6 rfl) ?_
    refine lv_iload hx hb dX11_layMonths_143 (lv_at hl 6 rfl) ?_
    refine lv_if_ne (tgt := 152) hx hb dX11_layMonths_145 (by decide) (fun c35 => ?_) (fun c35 => ?_)
    · replace hm := zz_neg c35 hm
      refine lv_aload_n hx hb dX11_layMonths_152 rfl (lv_at hl 2 rfl) ?_
      refine va_get (D := D) (ci := 11) (v := .ref (a 12)) (C := RX11) (T := TX11) (N := 35) hx hb hts nX11_layMonths_X11 hown hK hP 0 (wR_0 y a z28) rfl 24 (by decide) (hts (.fieldLink RX11 45 "WorksDeskModel" "adjusted" "[J") (List.mem_of_getElem? (i := 12) rfl)) (fun _ h9 => h9) rfl dX11_layMonths_153 ?_
      refine lv_iload hx hb dX11_layMonths_156 (lv_at hl 6 rfl) ?_
      refine lv_iconst (v := (1 : Int32)) hx hb dX11_layMonths_158 (by decide) ?_
      refine lv_isub hx hb dX11_layMonths_159 ?_
      obtain ⟨c36, hm⟩ := zz_ck_some hm
      refine va_lald hx hb hK hP 12 1 (wR_12 y a z28) rfl c36 dX11_layMonths_160 ?_
      have j := J161 k25 K25 v1 t0 v7 v9 v10 r33 (z28.2.1 12 (v9 - (1 : Int32)).toNatClampNeg) v9 z28 hm
      rw [hG] at j
      exact j H locs ls hP hD hS (lv_sub hl [2, 3, 1, 5, 6, 7, 0] rfl)
    · replace hm := zz_pos c35 hm
      refine lv_lconst (v := (0 : Int64)) hx hb dX11_layMonths_148 (by decide) ?_
      refine lv_goto (tgt := 161) hx hb dX11_layMonths_149 (by decide) ?_
      have j := J161 k25 K25 v1 t0 v7 v9 v10 r33 (0 : Int64) v9 z28 hm
      rw [hG] at j
      exact j H locs ls hP hD hS (lv_sub hl [2, 3, 1, 5, 6, 7, 0] rfl)
  have J68 : ∀ (k25 : Int64 → Int64 → Int64 → Int64 → Int32 → zz_M → Option (Unit × zz_M)) (K25 : ∀ (v1 : Int64) (v3 : Int64) (v5 : Int64) (v7 : Int64) (v9 : Int32) (z : zz_M), k25 v1 v3 v5 v7 v9 z = some (r, zt) → G 25 [(0, .ref (a 0)), (1, .long v1), (3, .long v3), (5, .long v5), (7, .long v7), (9, .int v9)] [] z) (v1 : Int64) (v3 : Int64) (v5 : Int64) (v7 : Int64) (v9 : Int32) (v10 : Int64) (t0 : Int64) (t1 : Int64) (z : zz_M), mX11_layMonths_b68 k25 v1 v3 v5 v7 v9 v10 t0 t1 z = some (r, zt) → G 68 [(0, .ref (a 0)), (1, .long v1), (3, .long v3), (5, .long v5), (7, .long v7), (9, .int v9), (10, .long v10)] [.long t0, .long t1] z := by
    intro k25 K25 v1 v3 v5 v7 v9 v10 t0 t1 z hm
    rw [mX11_layMonths_b68] at hm
    rw [hG]
    intro H locs ls hP hD hS hl
    refine va_mmin_long hx hb (hml.trans hl.1.symm) hown (hts (.methodLink RX11 262 Lib.MathLoose.min_long.x) (List.mem_of_getElem? (i := 2) rfl)) (hts (.static Lib.MathLoose.min_long.x) (List.mem_of_getElem? (i := 3) rfl)) (hts (.initialized "java/lang/Math") (List.mem_of_getElem? (i := 4) rfl)) (hts (.code Lib.MathLoose.min_long.x Lib.MathLoose.min_long.code 4 (some .long)) (List.mem_of_getElem? (i := 5) rfl)) (Nat.le_of_ble_eq_true rfl) (Nat.le_of_ble_eq_true rfl) (Nat.le_of_ble_eq_true rfl) (Nat.le_of_ble_eq_true rfl) dX11_layMonths_68 ?_
    refine lv_topl (fun n37 en37 => ?_)
    replace hm := zz_nm_some en37 hm
    refine lv_lstore (lv' := [(12, .long n37), (0, .ref (a 0)), (1, .long v1), (3, .long v3), (5, .long v5), (7, .long v7), (9, .int v9), (10, .long v10)]) hx hb dX11_layMonths_71 hl (by decide) rfl (fun ls hl => ?_)
    refine lv_iload hx hb dX11_layMonths_73 (lv_at hl 6 rfl) ?_
    refine lv_aload_n hx hb dX11_layMonths_75 rfl (lv_at hl 1 rfl) ?_
    refine va_get (D := D) (ci := 11) (v := .int (z.2.2.1 10)) (C := RX11) (T := TX11) (N := 35) hx hb hts nX11_layMonths_X11 hown hK hP 0 (wR_0 y a z) rfl 10 (by decide) (hts (.fieldLink RX11 88 "WorksDeskModel" "last" "I") (List.mem_of_getElem? (i := 6) rfl)) (fun _ h9 => h9) rfl dX11_layMonths_76 ?_
    refine lv_icmp_lt (tgt := 89) hx hb dX11_layMonths_79 (by decide) (fun c38 => ?_) (fun c38 => ?_)
    · replace hm := zz_pos c38 hm
      refine lv_lload_n hx hb dX11_layMonths_89 rfl (lv_at hl 3 rfl) ?_
      refine lv_lload hx hb dX11_layMonths_90 (lv_at hl 0 rfl) ?_
      refine va_mmax_long hx hb (hml.trans hl.1.symm) hown (hts (.methodLink RX11 259 Lib.MathLoose.max_long.x) (List.mem_of_getElem? (i := 7) rfl)) (hts (.static Lib.MathLoose.max_long.x) (List.mem_of_getElem? (i := 8) rfl)) (hts (.initialized "java/lang/Math") (List.mem_of_getElem? (i := 4) rfl)) (hts (.code Lib.MathLoose.max_long.x Lib.MathLoose.max_long.code 4 (some .long)) (List.mem_of_getElem? (i := 9) rfl)) (Nat.le_of_ble_eq_true rfl) (Nat.le_of_ble_eq_true rfl) (Nat.le_of_ble_eq_true rfl) (Nat.le_of_ble_eq_true rfl) dX11_layMonths_92 ?_
      have j := J95 k25 K25 v1 v5 v7 v9 v10 (if n37 < v3 then v3 else n37) z hm
      rw [hG] at j
      exact j H locs ls hP hD hS (lv_sub hl [1, 2, 4, 5, 6, 7] rfl)
    · replace hm := zz_neg c38 hm
      refine lv_aload_n hx hb dX11_layMonths_82 rfl (lv_at hl 1 rfl) ?_
      obtain ⟨r39, h40, hm⟩ := zz_b1_some hm
      refine zz_calll (zz_runV (w := wR y a) (As := []) (rest := []) ⟨hx, hb, hml, hown, hts⟩ (zX11_advancedNow l D y a H.size z h40) (cwV 0 hts gX11_layMonths_X11_advancedNow rfl rfl rfl zdX11_advancedNow ⟨Nat.le_of_ble_eq_true rfl, Nat.le_of_ble_eq_true rfl⟩) hK hN hg hP hD hS hA 0 (wR_0 y a z) rfl rfl hl.1 rfl (Nat.le_of_ble_eq_true rfl) dX11_layMonths_83 ⟨Nat.le_of_ble_eq_true rfl, Nat.le_of_ble_eq_true rfl⟩) hD hS hA (fun H locs hP hD hS => ?_)
      refine lv_goto (tgt := 95) hx hb dX11_layMonths_86 (by decide) ?_
      have j := J95 k25 K25 v1 v5 v7 v9 v10 r39 z hm
      rw [hG] at j
      exact j H locs ls hP hD hS (lv_sub hl [1, 2, 4, 5, 6, 7] rfl)
  have J25 : ∀ (n : Nat) (v1 : Int64) (v3 : Int64) (v5 : Int64) (v7 : Int64) (v9 : Int32) (z : zz_M), mX11_layMonths_b25 n v1 v3 v5 v7 v9 z = some (r, zt) → G 25 [(0, .ref (a 0)), (1, .long v1), (3, .long v3), (5, .long v5), (7, .long v7), (9, .int v9)] [] z := by
    intro n
    induction n with
    | zero =>
      intro v1 v3 v5 v7 v9 z hm
      exact zz_none hm
    | succ n ih =>
      intro v1 v3 v5 v7 v9 z hm
      rw [mX11_layMonths_b25] at hm
      rw [hG]
      intro H locs ls hP hD hS hl
      refine lv_iload hx hb dX11_layMonths_25 (lv_at hl 5 rfl) ?_
      refine lv_bipush (v := (24 : Int32)) hx hb dX11_layMonths_27 (by decide) ?_
      refine lv_icmp_ge (tgt := 289) hx hb dX11_layMonths_29 (by decide) (fun c41 => ?_) (fun c41 => ?_)
      · replace hm := zz_pos c41 hm
        refine lv_aload_n hx hb dX11_layMonths_289 rfl (lv_at hl 0 rfl) ?_
        obtain ⟨r42, z44, h43, hm⟩ := zz_b2_some hm
        refine zz_callv (zz_runV (w := wR y a) (As := []) (rest := []) ⟨hx, hb, hml, hown, hts⟩ (zX11_layOwed l D y a H.size z h43) (cwV 0 hts gX11_layMonths_X11_layOwed rfl rfl rfl zdX11_layOwed ⟨Nat.le_of_ble_eq_true rfl, Nat.le_of_ble_eq_true rfl⟩) hK hN hg hP hD hS hA 0 (wR_0 y a z) rfl rfl hl.1 rfl (Nat.le_of_ble_eq_true rfl) dX11_layMonths_290 ⟨Nat.le_of_ble_eq_true rfl, Nat.le_of_ble_eq_true rfl⟩) hD hS hA (fun H locs hP hD hS => ?_)
        exact zz_vret hx hb hr hlocks (zz_some2 hm).2 hP hK hD hS dX11_layMonths_293
      · replace hm := zz_neg c41 hm
        refine lv_aload_n hx hb dX11_layMonths_32 rfl (lv_at hl 0 rfl) ?_
        refine lv_iload hx hb dX11_layMonths_33 (lv_at hl 5 rfl) ?_
        obtain ⟨r45, h46, hm⟩ := zz_b1_some hm
        refine zz_calll (zz_runV (w := wR y a) (As := [.int v9]) (rest := []) ⟨hx, hb, hml, hown, hts⟩ (zX11_workIn l D y a H.size v9 z h46) (cwV 1 hts gX11_layMonths_X11_workIn rfl rfl rfl zdX11_workIn ⟨Nat.le_of_ble_eq_true rfl, Nat.le_of_ble_eq_true rfl⟩) hK hN hg hP hD hS hA 0 (wR_0 y a z) rfl rfl hl.1 rfl (Nat.le_of_ble_eq_true rfl) dX11_layMonths_35 ⟨Nat.le_of_ble_eq_true rfl, Nat.le_of_ble_eq_true rfl⟩) hD hS hA (fun H locs hP hD hS => ?_)
        refine lv_lstore (lv' := [(10, .long r45), (0, .ref (a 0)), (1, .long v1), (3, .long v3), (5, .long v5), (7, .long v7), (9, .int v9)]) hx hb dX11_layMonths_38 hl (by decide) rfl (fun ls hl => ?_)
        refine lv_aload_n hx hb dX11_layMonths_40 rfl (lv_at hl 1 rfl) ?_
        obtain ⟨r47, h48, hm⟩ := zz_b1_some hm
        refine zz_calll (zz_runV (w := wR y a) (As := []) (rest := []) ⟨hx, hb, hml, hown, hts⟩ (zX11_advancedNow l D y a H.size z h48) (cwV 0 hts gX11_layMonths_X11_advancedNow rfl rfl rfl zdX11_advancedNow ⟨Nat.le_of_ble_eq_true rfl, Nat.le_of_ble_eq_true rfl⟩) hK hN hg hP hD hS hA 0 (wR_0 y a z) rfl rfl hl.1 rfl (Nat.le_of_ble_eq_true rfl) dX11_layMonths_41 ⟨Nat.le_of_ble_eq_true rfl, Nat.le_of_ble_eq_true rfl⟩) hD hS hA (fun H locs hP hD hS => ?_)
        refine lv_lload hx hb dX11_layMonths_44 (lv_at hl 0 rfl) ?_
        refine lv_lload_n hx hb dX11_layMonths_46 rfl (lv_at hl 2 rfl) ?_
        refine W.lcmp hx hb dX11_layMonths_47 ?_
        refine lv_if_le (tgt := 67) hx hb dX11_layMonths_48 (by decide) (fun c49 => ?_) (fun c49 => ?_)
        · replace hm := zz_pos c49 hm
          refine lv_lconst (v := (0 : Int64)) hx hb dX11_layMonths_67 (by decide) ?_
          have j := J68 (mX11_layMonths_b25 n) ih v1 v3 v5 v7 v9 r45 (0 : Int64) r47 z hm
          rw [hG] at j
          exact j H locs ls hP hD hS (lv_sub hl [1, 2, 3, 4, 5, 6, 0] rfl)
        · replace hm := zz_neg c49 hm
          refine lv_lload hx hb dX11_layMonths_51 (lv_at hl 0 rfl) ?_
          refine lv_lload_n hx hb dX11_layMonths_53 rfl (lv_at hl 2 rfl) ?_
          refine lv_lsub hx hb dX11_layMonths_54 ?_
          refine lv_aload_n hx hb dX11_layMonths_55 rfl (lv_at hl 1 rfl) ?_
          refine va_get (D := D) (ci := 11) (v := .ref (a 1)) (C := RX11) (T := TX11) (N := 35) hx hb hts nX11_layMonths_X11 hown hK hP 0 (wR_0 y a z) rfl 0 (by decide) (hts (.fieldLink RX11 7 "WorksDeskModel" "terms" "[I") (List.mem_of_getElem? (i := 1) rfl)) (fun _ h9 => h9) rfl dX11_layMonths_56 ?_
          refine lv_iconst (v := (5 : Int32)) hx hb dX11_layMonths_59 (by decide) ?_
          obtain ⟨c50, hm⟩ := zz_ck_some hm
          refine va_iald hx hb hK hP 1 0 (wR_1 y a z) rfl c50 dX11_layMonths_60 ?_
          obtain ⟨r51, h52, hm⟩ := zz_b1_some hm
          refine zz_calll (zz_runS (w := wR y a) (As := [.long (r45 - v1), .int (z.1 1 (5 : Int32).toNatClampNeg)]) (rest := [.long r47]) ⟨hx, hb, hml, hown, hts⟩ (zX11_thousandths l D y a H.size (r45 - v1) (z.1 1 (5 : Int32).toNatClampNeg) z h52) (va_cwS 2 hts gX11_layMonths_X11_thousandths rfl rfl rfl zdX11_thousandths ⟨Nat.le_of_ble_eq_true rfl, Nat.le_of_ble_eq_true rfl⟩) hK hN hg hP hD hS hA rfl hl.1 rfl (Nat.le_of_ble_eq_true rfl) dX11_layMonths_61 ⟨Nat.le_of_ble_eq_true rfl, Nat.le_of_ble_eq_true rfl⟩) hD hS hA (fun H locs hP hD hS => ?_)
          refine lv_goto (tgt := 68) hx hb dX11_layMonths_64 (by decide) ?_
          have j := J68 (mX11_layMonths_b25 n) ih v1 v3 v5 v7 v9 r45 r51 r47 z hm
          rw [hG] at j
          exact j H locs ls hP hD hS (lv_sub hl [1, 2, 3, 4, 5, 6, 0] rfl)
  rw [hG]
  intro H locs ls hP hD hS hl
  unfold mX11_layMonths at hm
  refine lv_aload_n hx hb dX11_layMonths_0 rfl (lv_at hl 0 rfl) ?_
  obtain ⟨r53, h54, hm⟩ := zz_b1_some hm
  refine zz_calll (zz_runV (w := wR y a) (As := []) (rest := []) ⟨hx, hb, hml, hown, hts⟩ (zX11_sumNow l D y a H.size z h54) (cwV 0 hts gX11_layMonths_X11_sumNow rfl rfl rfl zdX11_sumNow ⟨Nat.le_of_ble_eq_true rfl, Nat.le_of_ble_eq_true rfl⟩) hK hN hg hP hD hS hA 0 (wR_0 y a z) rfl rfl hl.1 rfl (Nat.le_of_ble_eq_true rfl) dX11_layMonths_1 ⟨Nat.le_of_ble_eq_true rfl, Nat.le_of_ble_eq_true rfl⟩) hD hS hA (fun H locs hP hD hS => ?_)
  refine lv_aload_n hx hb dX11_layMonths_4 rfl (lv_at hl 0 rfl) ?_
  refine va_get (D := D) (ci := 11) (v := .ref (a 1)) (C := RX11) (T := TX11) (N := 35) hx hb hts nX11_layMonths_X11 hown hK hP 0 (wR_0 y a z) rfl 0 (by decide) (hts (.fieldLink RX11 7 "WorksDeskModel" "terms" "[I") (List.mem_of_getElem? (i := 1) rfl)) (fun _ h9 => h9) rfl dX11_layMonths_5 ?_
  refine lv_iconst (v := (4 : Int32)) hx hb dX11_layMonths_8 (by decide) ?_
  obtain ⟨c55, hm⟩ := zz_ck_some hm
  refine va_iald hx hb hK hP 1 0 (wR_1 y a z) rfl c55 dX11_layMonths_9 ?_
  obtain ⟨r56, h57, hm⟩ := zz_b1_some hm
  refine zz_calll (zz_runS (w := wR y a) (As := [.long r53, .int (z.1 1 (4 : Int32).toNatClampNeg)]) (rest := []) ⟨hx, hb, hml, hown, hts⟩ (zX11_thousandths l D y a H.size r53 (z.1 1 (4 : Int32).toNatClampNeg) z h57) (va_cwS 2 hts gX11_layMonths_X11_thousandths rfl rfl rfl zdX11_thousandths ⟨Nat.le_of_ble_eq_true rfl, Nat.le_of_ble_eq_true rfl⟩) hK hN hg hP hD hS hA rfl hl.1 rfl (Nat.le_of_ble_eq_true rfl) dX11_layMonths_10 ⟨Nat.le_of_ble_eq_true rfl, Nat.le_of_ble_eq_true rfl⟩) hD hS hA (fun H locs hP hD hS => ?_)
  refine lv_lstore_n (lv' := [(1, .long r56), (0, .ref (a 0))]) hx hb dX11_layMonths_13 rfl hl (by decide) rfl (fun ls hl => ?_)
  refine lv_lconst (v := (0 : Int64)) hx hb dX11_layMonths_14 (by decide) ?_
  refine lv_lstore_n (lv' := [(3, .long (0 : Int64)), (1, .long r56), (0, .ref (a 0))]) hx hb dX11_layMonths_15 rfl hl (by decide) rfl (fun ls hl => ?_)
  refine lv_lconst (v := (0 : Int64)) hx hb dX11_layMonths_16 (by decide) ?_
  refine lv_lstore (lv' := [(5, .long (0 : Int64)), (3, .long (0 : Int64)), (1, .long r56), (0, .ref (a 0))]) hx hb dX11_layMonths_17 hl (by decide) rfl (fun ls hl => ?_)
  refine lv_lconst (v := (0 : Int64)) hx hb dX11_layMonths_19 (by decide) ?_
  refine lv_lstore (lv' := [(7, .long (0 : Int64)), (5, .long (0 : Int64)), (3, .long (0 : Int64)), (1, .long r56), (0, .ref (a 0))]) hx hb dX11_layMonths_20 hl (by decide) rfl (fun ls hl => ?_)
  refine lv_iconst (v := (0 : Int32)) hx hb dX11_layMonths_22 (by decide) ?_
  refine lv_istore (lv' := [(9, .int (0 : Int32)), (7, .long (0 : Int64)), (5, .long (0 : Int64)), (3, .long (0 : Int64)), (1, .long r56), (0, .ref (a 0))]) hx hb dX11_layMonths_23 hl (by decide) rfl (fun ls hl => ?_)
  have j := J25 zz_N r56 (0 : Int64) (0 : Int64) (0 : Int64) (0 : Int32) z hm
  rw [hG] at j
  exact j H locs ls hP hD hS (lv_sub hl [5, 4, 3, 2, 1, 0] rfl)
def mX11_account (z : zz_M) : Option (Int32 × zz_M) := zz_nm (zz_sF z 19 (0 : Int32)) (fun z1 => if (z1.2.2.1 10) = (24 : Int32) then (some ((-2 : Int32), z1)) else (zz_b2 (mX11_layMonths z1) (fun r3 z5 => zz_nm (zz_sF z5 18 (0 : Int32)) (fun z6 => zz_b1 (mX11_workIn (z6.2.2.1 10) z6) (fun r7 => zz_b2 (mX11_tell r7 z6) (fun r9 z11 => zz_b1 (mX11_setIn (z11.2.2.1 10) z11) (fun r12 => zz_b2 (mX11_tell r12 z11) (fun r14 z16 => zz_b1 (mX11_paidTill (z16.2.2.1 10) z16) (fun r17 => zz_b2 (mX11_tell r17 z16) (fun r19 z21 => zz_ck (zz_in (z21.2.2.1 10) 24) (zz_b1 (mX11_paidTill (z21.2.2.1 10) z21) (fun r23 => zz_b2 (mX11_tell ((z21.2.1 16 (z21.2.2.1 10).toNatClampNeg) - r23) z21) (fun r25 z27 => zz_b1 (mX11_interestTill (z27.2.2.1 10) z27) (fun r28 => zz_b2 (mX11_tell r28 z27) (fun r30 z32 => some ((0 : Int32), z32))))))))))))))))
theorem nX11_account_X11 : ∀ w ∈ wsX110, w ∈ wsX11_account := fun _ h => List.mem_cons_of_mem _ (List.mem_append_right _ (h))
theorem zdX11_account : yX11_account.cls = RX11 ∧ yX11_account.cls ≠ "java/lang/invoke/MethodHandle" ∧ yX11_account.cls ≠ "java/lang/invoke/VarHandle" ∧ (parseMethodDescriptor yX11_account.desc).map (fun d => d.parameters.length) = some 0 := by decide +kernel
set_option maxHeartbeats 4000000 in
set_option maxRecDepth 100000 in
theorem zX11_account (l : Launch) (D : va_G) (y : Nat → ClassId) (a : Nat → Nat) (sz : Nat) (z : zz_M) {r : Int32} {zt : zz_M} (hm : mX11_account z = some (r, zt)) : Met l yX11_account wsX11_account { frames := 7, cells := 0, slots := 0, locals := 175 } (zz_Pc D y (wR y a z) sz [.ref (a 0)]) (zz_Qi D y (wR y a) (va_A (wR y a z) sz) r zt) 0 0 (va_A (wR y a z) sz) := by
  refine Met.ofW (cc := cX11_account) (maxL := 1) (ret := (some .int)) (by decide) rfl ?_
  intro p e s m args below meth c s₁ B hml hv
  obtain ⟨rfl, hsz, hP, hK, hD0, hN, hg⟩ := hv
  have hx := B.exec
  have hb := B.bytes
  have hr := B.returns
  have hts := atoms_spec (ws := wsX11_account) B.pre
  have hown : s.vm.findClass RX11 = some m.cls := findClass_of_methodNamed B.named
  have hlocks := B.notSynchronized
  clear B
  subst hsz
  have hD := hD0.self (sz := s.heap.size)
  generalize hAe : va_A (wR y a z) s.heap.size = A at hD hg ⊢
  have hA : ∀ q : Nat, s.heap.size ≤ q → A q := fun q h => by rw [← hAe]; exact Or.inr h
  clear hAe hD0
  have hl := lv_entry ([.ref (a 0)]) (n := 1) (Nat.le_of_ble_eq_true rfl)
  rw [lg_entry_eq]
  generalize (lg_sl ([.ref (a 0)]) ++ List.replicate (1 - (lg_sl ([.ref (a 0)])).length) Slot.unset).toArray = ls at hl ⊢
  replace hl : lv_has ls 1 [(0, .ref (a 0))] := hl
  refine zz_go (w := wR y a) hP hD va_S.rf hl (fun G hG => ?_)
  clear hP hD hl ls
  rw [hG]
  intro H locs ls hP hD hS hl
  unfold mX11_account at hm
  refine lv_aload_n hx hb dX11_account_0 rfl (lv_at hl 0 rfl) ?_
  refine lv_iconst (v := (0 : Int32)) hx hb dX11_account_1 (by decide) ?_
  refine va_put (D := D) (ci := 11) (v := .int (0 : Int32)) (ty := .int) (C := RX11) (T := TX11) (N := 35) hx hb hts nX11_account_X11 tyX11 tyX11_ok nmX11 hown hK hP hD hS 0 (wR_0 y a z) rfl 19 (by decide) (hts (.fieldLink RX11 97 "WorksDeskModel" "thrown" "I") (List.mem_of_getElem? (i := 1) rfl)) (fun _ h9 => h9) rfl (tyX11_ok 19 (by decide)) rfl rfl (Nat.le_of_ble_eq_true rfl) dX11_account_2 (fun H locs hP hD hS => ?_)
  obtain ⟨z1, hP, hD, hm⟩ := zz_up (w := wR y a) (wR_f19 y a z (0 : Int32)) hP hD hm
  refine lv_aload_n hx hb dX11_account_5 rfl (lv_at hl 0 rfl) ?_
  refine va_get (D := D) (ci := 11) (v := .int (z1.2.2.1 10)) (C := RX11) (T := TX11) (N := 35) hx hb hts nX11_account_X11 hown hK hP 0 (wR_0 y a z1) rfl 10 (by decide) (hts (.fieldLink RX11 88 "WorksDeskModel" "last" "I") (List.mem_of_getElem? (i := 2) rfl)) (fun _ h9 => h9) rfl dX11_account_6 ?_
  refine lv_bipush (v := (24 : Int32)) hx hb dX11_account_9 (by decide) ?_
  refine lv_icmp_ne (tgt := 17) hx hb dX11_account_11 (by decide) (fun c2 => ?_) (fun c2 => ?_)
  · replace hm := zz_neg c2 hm
    refine lv_aload_n hx hb dX11_account_17 rfl (lv_at hl 0 rfl) ?_
    obtain ⟨r3, z5, h4, hm⟩ := zz_b2_some hm
    refine zz_callv (zz_runV (w := wR y a) (As := []) (rest := []) ⟨hx, hb, hml, hown, hts⟩ (zX11_layMonths l D y a H.size z1 h4) (cwV 0 hts gX11_account_X11_layMonths rfl rfl rfl zdX11_layMonths ⟨Nat.le_of_ble_eq_true rfl, Nat.le_of_ble_eq_true rfl⟩) hK hN hg hP hD hS hA 0 (wR_0 y a z1) rfl rfl hl.1 rfl (Nat.le_of_ble_eq_true rfl) dX11_account_18 ⟨Nat.le_of_ble_eq_true rfl, Nat.le_of_ble_eq_true rfl⟩) hD hS hA (fun H locs hP hD hS => ?_)
    refine lv_aload_n hx hb dX11_account_21 rfl (lv_at hl 0 rfl) ?_
    refine lv_iconst (v := (0 : Int32)) hx hb dX11_account_22 (by decide) ?_
    refine va_put (D := D) (ci := 11) (v := .int (0 : Int32)) (ty := .int) (C := RX11) (T := TX11) (N := 35) hx hb hts nX11_account_X11 tyX11 tyX11_ok nmX11 hown hK hP hD hS 0 (wR_0 y a z5) rfl 18 (by decide) (hts (.fieldLink RX11 100 "WorksDeskModel" "rowMany" "I") (List.mem_of_getElem? (i := 3) rfl)) (fun _ h9 => h9) rfl (tyX11_ok 18 (by decide)) rfl rfl (Nat.le_of_ble_eq_true rfl) dX11_account_23 (fun H locs hP hD hS => ?_)
    obtain ⟨z6, hP, hD, hm⟩ := zz_up (w := wR y a) (wR_f18 y a z5 (0 : Int32)) hP hD hm
    refine lv_aload_n hx hb dX11_account_26 rfl (lv_at hl 0 rfl) ?_
    refine lv_aload_n hx hb dX11_account_27 rfl (lv_at hl 0 rfl) ?_
    refine lv_aload_n hx hb dX11_account_28 rfl (lv_at hl 0 rfl) ?_
    refine va_get (D := D) (ci := 11) (v := .int (z6.2.2.1 10)) (C := RX11) (T := TX11) (N := 35) hx hb hts nX11_account_X11 hown hK hP 0 (wR_0 y a z6) rfl 10 (by decide) (hts (.fieldLink RX11 88 "WorksDeskModel" "last" "I") (List.mem_of_getElem? (i := 2) rfl)) (fun _ h9 => h9) rfl dX11_account_29 ?_
    obtain ⟨r7, h8, hm⟩ := zz_b1_some hm
    refine zz_calll (zz_runV (w := wR y a) (As := [.int (z6.2.2.1 10)]) (rest := [.ref (a 0)]) ⟨hx, hb, hml, hown, hts⟩ (zX11_workIn l D y a H.size (z6.2.2.1 10) z6 h8) (cwV 1 hts gX11_account_X11_workIn rfl rfl rfl zdX11_workIn ⟨Nat.le_of_ble_eq_true rfl, Nat.le_of_ble_eq_true rfl⟩) hK hN hg hP hD hS hA 0 (wR_0 y a z6) rfl rfl hl.1 rfl (Nat.le_of_ble_eq_true rfl) dX11_account_32 ⟨Nat.le_of_ble_eq_true rfl, Nat.le_of_ble_eq_true rfl⟩) hD hS hA (fun H locs hP hD hS => ?_)
    obtain ⟨r9, z11, h10, hm⟩ := zz_b2_some hm
    refine zz_callv (zz_runV (w := wR y a) (As := [.long r7]) (rest := []) ⟨hx, hb, hml, hown, hts⟩ (zX11_tell l D y a H.size r7 z6 h10) (cwV 1 hts gX11_account_X11_tell rfl rfl rfl zdX11_tell ⟨Nat.le_of_ble_eq_true rfl, Nat.le_of_ble_eq_true rfl⟩) hK hN hg hP hD hS hA 0 (wR_0 y a z6) rfl rfl hl.1 rfl (Nat.le_of_ble_eq_true rfl) dX11_account_35 ⟨Nat.le_of_ble_eq_true rfl, Nat.le_of_ble_eq_true rfl⟩) hD hS hA (fun H locs hP hD hS => ?_)
    refine lv_aload_n hx hb dX11_account_38 rfl (lv_at hl 0 rfl) ?_
    refine lv_aload_n hx hb dX11_account_39 rfl (lv_at hl 0 rfl) ?_
    refine lv_aload_n hx hb dX11_account_40 rfl (lv_at hl 0 rfl) ?_
    refine va_get (D := D) (ci := 11) (v := .int (z11.2.2.1 10)) (C := RX11) (T := TX11) (N := 35) hx hb hts nX11_account_X11 hown hK hP 0 (wR_0 y a z11) rfl 10 (by decide) (hts (.fieldLink RX11 88 "WorksDeskModel" "last" "I") (List.mem_of_getElem? (i := 2) rfl)) (fun _ h9 => h9) rfl dX11_account_41 ?_
    obtain ⟨r12, h13, hm⟩ := zz_b1_some hm
    refine zz_calll (zz_runV (w := wR y a) (As := [.int (z11.2.2.1 10)]) (rest := [.ref (a 0)]) ⟨hx, hb, hml, hown, hts⟩ (zX11_setIn l D y a H.size (z11.2.2.1 10) z11 h13) (cwV 1 hts gX11_account_X11_setIn rfl rfl rfl zdX11_setIn ⟨Nat.le_of_ble_eq_true rfl, Nat.le_of_ble_eq_true rfl⟩) hK hN hg hP hD hS hA 0 (wR_0 y a z11) rfl rfl hl.1 rfl (Nat.le_of_ble_eq_true rfl) dX11_account_44 ⟨Nat.le_of_ble_eq_true rfl, Nat.le_of_ble_eq_true rfl⟩) hD hS hA (fun H locs hP hD hS => ?_)
    obtain ⟨r14, z16, h15, hm⟩ := zz_b2_some hm
    refine zz_callv (zz_runV (w := wR y a) (As := [.long r12]) (rest := []) ⟨hx, hb, hml, hown, hts⟩ (zX11_tell l D y a H.size r12 z11 h15) (cwV 1 hts gX11_account_X11_tell rfl rfl rfl zdX11_tell ⟨Nat.le_of_ble_eq_true rfl, Nat.le_of_ble_eq_true rfl⟩) hK hN hg hP hD hS hA 0 (wR_0 y a z11) rfl rfl hl.1 rfl (Nat.le_of_ble_eq_true rfl) dX11_account_47 ⟨Nat.le_of_ble_eq_true rfl, Nat.le_of_ble_eq_true rfl⟩) hD hS hA (fun H locs hP hD hS => ?_)
    refine lv_aload_n hx hb dX11_account_50 rfl (lv_at hl 0 rfl) ?_
    refine lv_aload_n hx hb dX11_account_51 rfl (lv_at hl 0 rfl) ?_
    refine lv_aload_n hx hb dX11_account_52 rfl (lv_at hl 0 rfl) ?_
    refine va_get (D := D) (ci := 11) (v := .int (z16.2.2.1 10)) (C := RX11) (T := TX11) (N := 35) hx hb hts nX11_account_X11 hown hK hP 0 (wR_0 y a z16) rfl 10 (by decide) (hts (.fieldLink RX11 88 "WorksDeskModel" "last" "I") (List.mem_of_getElem? (i := 2) rfl)) (fun _ h9 => h9) rfl dX11_account_53 ?_
    obtain ⟨r17, h18, hm⟩ := zz_b1_some hm
    refine zz_calll (zz_runV (w := wR y a) (As := [.int (z16.2.2.1 10)]) (rest := [.ref (a 0)]) ⟨hx, hb, hml, hown, hts⟩ (zX11_paidTill l D y a H.size (z16.2.2.1 10) z16 h18) (cwV 1 hts gX11_account_X11_paidTill rfl rfl rfl zdX11_paidTill ⟨Nat.le_of_ble_eq_true rfl, Nat.le_of_ble_eq_true rfl⟩) hK hN hg hP hD hS hA 0 (wR_0 y a z16) rfl rfl hl.1 rfl (Nat.le_of_ble_eq_true rfl) dX11_account_56 ⟨Nat.le_of_ble_eq_true rfl, Nat.le_of_ble_eq_true rfl⟩) hD hS hA (fun H locs hP hD hS => ?_)
    obtain ⟨r19, z21, h20, hm⟩ := zz_b2_some hm
    refine zz_callv (zz_runV (w := wR y a) (As := [.long r17]) (rest := []) ⟨hx, hb, hml, hown, hts⟩ (zX11_tell l D y a H.size r17 z16 h20) (cwV 1 hts gX11_account_X11_tell rfl rfl rfl zdX11_tell ⟨Nat.le_of_ble_eq_true rfl, Nat.le_of_ble_eq_true rfl⟩) hK hN hg hP hD hS hA 0 (wR_0 y a z16) rfl rfl hl.1 rfl (Nat.le_of_ble_eq_true rfl) dX11_account_59 ⟨Nat.le_of_ble_eq_true rfl, Nat.le_of_ble_eq_true rfl⟩) hD hS hA (fun H locs hP hD hS => ?_)
    refine lv_aload_n hx hb dX11_account_62 rfl (lv_at hl 0 rfl) ?_
    refine lv_aload_n hx hb dX11_account_63 rfl (lv_at hl 0 rfl) ?_
    refine va_get (D := D) (ci := 11) (v := .ref (a 16)) (C := RX11) (T := TX11) (N := 35) hx hb hts nX11_account_X11 hown hK hP 0 (wR_0 y a z21) rfl 28 (by decide) (hts (.fieldLink RX11 57 "WorksDeskModel" "total" "[J") (List.mem_of_getElem? (i := 4) rfl)) (fun _ h9 => h9) rfl dX11_account_64 ?_
    refine lv_aload_n hx hb dX11_account_67 rfl (lv_at hl 0 rfl) ?_
    refine va_get (D := D) (ci := 11) (v := .int (z21.2.2.1 10)) (C := RX11) (T := TX11) (N := 35) hx hb hts nX11_account_X11 hown hK hP 0 (wR_0 y a z21) rfl 10 (by decide) (hts (.fieldLink RX11 88 "WorksDeskModel" "last" "I") (List.mem_of_getElem? (i := 2) rfl)) (fun _ h9 => h9) rfl dX11_account_68 ?_
    obtain ⟨c22, hm⟩ := zz_ck_some hm
    refine va_lald hx hb hK hP 16 1 (wR_16 y a z21) rfl c22 dX11_account_71 ?_
    refine lv_aload_n hx hb dX11_account_72 rfl (lv_at hl 0 rfl) ?_
    refine lv_aload_n hx hb dX11_account_73 rfl (lv_at hl 0 rfl) ?_
    refine va_get (D := D) (ci := 11) (v := .int (z21.2.2.1 10)) (C := RX11) (T := TX11) (N := 35) hx hb hts nX11_account_X11 hown hK hP 0 (wR_0 y a z21) rfl 10 (by decide) (hts (.fieldLink RX11 88 "WorksDeskModel" "last" "I") (List.mem_of_getElem? (i := 2) rfl)) (fun _ h9 => h9) rfl dX11_account_74 ?_
    obtain ⟨r23, h24, hm⟩ := zz_b1_some hm
    refine zz_calll (zz_runV (w := wR y a) (As := [.int (z21.2.2.1 10)]) (rest := [.long (z21.2.1 16 (z21.2.2.1 10).toNatClampNeg), .ref (a 0)]) ⟨hx, hb, hml, hown, hts⟩ (zX11_paidTill l D y a H.size (z21.2.2.1 10) z21 h24) (cwV 1 hts gX11_account_X11_paidTill rfl rfl rfl zdX11_paidTill ⟨Nat.le_of_ble_eq_true rfl, Nat.le_of_ble_eq_true rfl⟩) hK hN hg hP hD hS hA 0 (wR_0 y a z21) rfl rfl hl.1 rfl (Nat.le_of_ble_eq_true rfl) dX11_account_77 ⟨Nat.le_of_ble_eq_true rfl, Nat.le_of_ble_eq_true rfl⟩) hD hS hA (fun H locs hP hD hS => ?_)
    refine lv_lsub hx hb dX11_account_80 ?_
    obtain ⟨r25, z27, h26, hm⟩ := zz_b2_some hm
    refine zz_callv (zz_runV (w := wR y a) (As := [.long ((z21.2.1 16 (z21.2.2.1 10).toNatClampNeg) - r23)]) (rest := []) ⟨hx, hb, hml, hown, hts⟩ (zX11_tell l D y a H.size ((z21.2.1 16 (z21.2.2.1 10).toNatClampNeg) - r23) z21 h26) (cwV 1 hts gX11_account_X11_tell rfl rfl rfl zdX11_tell ⟨Nat.le_of_ble_eq_true rfl, Nat.le_of_ble_eq_true rfl⟩) hK hN hg hP hD hS hA 0 (wR_0 y a z21) rfl rfl hl.1 rfl (Nat.le_of_ble_eq_true rfl) dX11_account_81 ⟨Nat.le_of_ble_eq_true rfl, Nat.le_of_ble_eq_true rfl⟩) hD hS hA (fun H locs hP hD hS => ?_)
    refine lv_aload_n hx hb dX11_account_84 rfl (lv_at hl 0 rfl) ?_
    refine lv_aload_n hx hb dX11_account_85 rfl (lv_at hl 0 rfl) ?_
    refine lv_aload_n hx hb dX11_account_86 rfl (lv_at hl 0 rfl) ?_
    refine va_get (D := D) (ci := 11) (v := .int (z27.2.2.1 10)) (C := RX11) (T := TX11) (N := 35) hx hb hts nX11_account_X11 hown hK hP 0 (wR_0 y a z27) rfl 10 (by decide) (hts (.fieldLink RX11 88 "WorksDeskModel" "last" "I") (List.mem_of_getElem? (i := 2) rfl)) (fun _ h9 => h9) rfl dX11_account_87 ?_
    obtain ⟨r28, h29, hm⟩ := zz_b1_some hm
    refine zz_calll (zz_runV (w := wR y a) (As := [.int (z27.2.2.1 10)]) (rest := [.ref (a 0)]) ⟨hx, hb, hml, hown, hts⟩ (zX11_interestTill l D y a H.size (z27.2.2.1 10) z27 h29) (cwV 1 hts gX11_account_X11_interestTill rfl rfl rfl zdX11_interestTill ⟨Nat.le_of_ble_eq_true rfl, Nat.le_of_ble_eq_true rfl⟩) hK hN hg hP hD hS hA 0 (wR_0 y a z27) rfl rfl hl.1 rfl (Nat.le_of_ble_eq_true rfl) dX11_account_90 ⟨Nat.le_of_ble_eq_true rfl, Nat.le_of_ble_eq_true rfl⟩) hD hS hA (fun H locs hP hD hS => ?_)
    obtain ⟨r30, z32, h31, hm⟩ := zz_b2_some hm
    refine zz_callv (zz_runV (w := wR y a) (As := [.long r28]) (rest := []) ⟨hx, hb, hml, hown, hts⟩ (zX11_tell l D y a H.size r28 z27 h31) (cwV 1 hts gX11_account_X11_tell rfl rfl rfl zdX11_tell ⟨Nat.le_of_ble_eq_true rfl, Nat.le_of_ble_eq_true rfl⟩) hK hN hg hP hD hS hA 0 (wR_0 y a z27) rfl rfl hl.1 rfl (Nat.le_of_ble_eq_true rfl) dX11_account_93 ⟨Nat.le_of_ble_eq_true rfl, Nat.le_of_ble_eq_true rfl⟩) hD hS hA (fun H locs hP hD hS => ?_)
    refine lv_iconst (v := (0 : Int32)) hx hb dX11_account_96 (by decide) ?_
    exact zz_iret hx hb hr hlocks (zz_some2 hm) hP hK hD hS dX11_account_97
  · replace hm := zz_pos c2 hm
    refine lv_bipush (v := (-2 : Int32)) hx hb dX11_account_14 (by decide) ?_
    exact zz_iret hx hb hr hlocks (zz_some2 hm) hP hK hD hS dX11_account_16
def mX11_isChange (x1 : Int32) (z : zz_M) : Option Int32 := zz_b1 (mX11_in x1.toInt64 (0 : Int64) (((z.2.2.1 6) - (1 : Int32)).toInt64)) (fun r1 => zz_ck (zz_bool r1) (some r1))
theorem nX11_isChange_X11 : ∀ w ∈ wsX110, w ∈ wsX11_isChange := fun _ h => List.mem_cons_of_mem _ (List.mem_append_right _ (h))
theorem zdX11_isChange : yX11_isChange.cls = RX11 ∧ yX11_isChange.cls ≠ "java/lang/invoke/MethodHandle" ∧ yX11_isChange.cls ≠ "java/lang/invoke/VarHandle" ∧ (parseMethodDescriptor yX11_isChange.desc).map (fun d => d.parameters.length) = some 1 := by decide +kernel
set_option maxHeartbeats 4000000 in
set_option maxRecDepth 100000 in
theorem zX11_isChange (l : Launch) (D : va_G) (y : Nat → ClassId) (a : Nat → Nat) (sz : Nat) (x1 : Int32) (z : zz_M) {r : Int32} (hm : mX11_isChange x1 z = some r) : Met l yX11_isChange wsX11_isChange { frames := 1, cells := 0, slots := 0, locals := 25 } (zz_Pc D y (wR y a z) sz [.ref (a 0), .int x1]) (zz_Qi D y (wR y a) (va_A (wR y a z) sz) r z) 0 0 (va_A (wR y a z) sz) := by
  refine Met.ofW (cc := cX11_isChange) (maxL := 2) (ret := (some .boolean)) (by decide) rfl ?_
  intro p e s m args below meth c s₁ B hml hv
  obtain ⟨rfl, hsz, hP, hK, hD0, hN, hg⟩ := hv
  have hx := B.exec
  have hb := B.bytes
  have hr := B.returns
  have hts := atoms_spec (ws := wsX11_isChange) B.pre
  have hown : s.vm.findClass RX11 = some m.cls := findClass_of_methodNamed B.named
  have hlocks := B.notSynchronized
  clear B
  subst hsz
  have hD := hD0.self (sz := s.heap.size)
  generalize hAe : va_A (wR y a z) s.heap.size = A at hD hg ⊢
  have hA : ∀ q : Nat, s.heap.size ≤ q → A q := fun q h => by rw [← hAe]; exact Or.inr h
  clear hAe hD0
  have hl := lv_entry ([.ref (a 0), .int x1]) (n := 2) (Nat.le_of_ble_eq_true rfl)
  rw [lg_entry_eq]
  generalize (lg_sl ([.ref (a 0), .int x1]) ++ List.replicate (2 - (lg_sl ([.ref (a 0), .int x1])).length) Slot.unset).toArray = ls at hl ⊢
  replace hl : lv_has ls 2 [(0, .ref (a 0)), (1, .int x1)] := hl
  refine zz_go (w := wR y a) hP hD va_S.rf hl (fun G hG => ?_)
  clear hP hD hl ls
  rw [hG]
  intro H locs ls hP hD hS hl
  unfold mX11_isChange at hm
  refine lv_iload_n hx hb dX11_isChange_0 rfl (lv_at hl 1 rfl) ?_
  refine lv_i2l hx hb dX11_isChange_1 rfl ?_
  refine lv_lconst (v := (0 : Int64)) hx hb dX11_isChange_2 (by decide) ?_
  refine lv_aload_n hx hb dX11_isChange_3 rfl (lv_at hl 0 rfl) ?_
  refine va_get (D := D) (ci := 11) (v := .int (z.2.2.1 6)) (C := RX11) (T := TX11) (N := 35) hx hb hts nX11_isChange_X11 hown hK hP 0 (wR_0 y a z) rfl 6 (by decide) (hts (.fieldLink RX11 79 "WorksDeskModel" "changeMany" "I") (List.mem_of_getElem? (i := 1) rfl)) (fun _ h9 => h9) rfl dX11_isChange_4 ?_
  refine lv_iconst (v := (1 : Int32)) hx hb dX11_isChange_7 (by decide) ?_
  refine lv_isub hx hb dX11_isChange_8 ?_
  refine lv_i2l hx hb dX11_isChange_9 rfl ?_
  obtain ⟨r1, h2, hm⟩ := zz_b1_some hm
  refine zz_calli (zz_runS (w := wR y a) (As := [.long x1.toInt64, .long (0 : Int64), .long (((z.2.2.1 6) - (1 : Int32)).toInt64)]) (rest := []) ⟨hx, hb, hml, hown, hts⟩ (zX11_in l D y a H.size x1.toInt64 (0 : Int64) (((z.2.2.1 6) - (1 : Int32)).toInt64) z h2) (va_cwS 3 hts gX11_isChange_X11_in rfl rfl rfl zdX11_in ⟨Nat.le_of_ble_eq_true rfl, Nat.le_of_ble_eq_true rfl⟩) hK hN hg hP hD hS hA rfl hl.1 rfl (Nat.le_of_ble_eq_true rfl) dX11_isChange_10 ⟨Nat.le_of_ble_eq_true rfl, Nat.le_of_ble_eq_true rfl⟩) hD hS hA (fun H locs hP hD hS => ?_)
  obtain ⟨c3, hm⟩ := zz_ck_some hm
  exact zz_zret hx hb hr hlocks c3 ⟨zz_some1 hm, rfl⟩ hP hK hD hS dX11_isChange_13
def mX11_isChanged_b23 (t0 : Int32) : Option Int32 := zz_ck (zz_bool t0) (some t0)
def mX11_isChanged_b22 : Option Int32 := mX11_isChanged_b23 (0 : Int32)
def mX11_isChanged (x0 : Int32) : Option Int32 := if x0 = (0 : Int32) then (mX11_isChanged_b22) else (zz_b1 (mX11_in x0.toInt64 (-999 : Int64) (999 : Int64)) (fun r3 => if r3 = (0 : Int32) then (mX11_isChanged_b22) else (mX11_isChanged_b23 (1 : Int32))))
theorem zdX11_isChanged : yX11_isChanged.cls ≠ "java/lang/invoke/MethodHandle" ∧ yX11_isChanged.cls ≠ "java/lang/invoke/VarHandle" ∧ (parseMethodDescriptor yX11_isChanged.desc).map (fun d => d.parameters.length) = some 1 := by decide +kernel
set_option maxHeartbeats 4000000 in
set_option maxRecDepth 100000 in
theorem zX11_isChanged (l : Launch) (D : va_G) (y : Nat → ClassId) (a : Nat → Nat) (sz : Nat) (x0 : Int32) (z : zz_M) {r : Int32} (hm : mX11_isChanged x0 = some r) : Met l yX11_isChanged wsX11_isChanged { frames := 1, cells := 0, slots := 0, locals := 25 } (zz_Pc D y (wR y a z) sz [.int x0]) (zz_Qi D y (wR y a) (va_A (wR y a z) sz) r z) 0 0 (va_A (wR y a z) sz) := by
  refine Met.ofW (cc := cX11_isChanged) (maxL := 1) (ret := (some .boolean)) (by decide) rfl ?_
  intro p e s m args below meth c s₁ B hml hv
  obtain ⟨rfl, hsz, hP, hK, hD0, hN, hg⟩ := hv
  have hx := B.exec
  have hb := B.bytes
  have hr := B.returns
  have hts := atoms_spec (ws := wsX11_isChanged) B.pre
  have hown : s.vm.findClass RX11 = some m.cls := findClass_of_methodNamed B.named
  have hlocks := B.notSynchronized
  clear B
  subst hsz
  have hD := hD0.self (sz := s.heap.size)
  generalize hAe : va_A (wR y a z) s.heap.size = A at hD hg ⊢
  have hA : ∀ q : Nat, s.heap.size ≤ q → A q := fun q h => by rw [← hAe]; exact Or.inr h
  clear hAe hD0
  have hl := lv_entry ([.int x0]) (n := 1) (Nat.le_of_ble_eq_true rfl)
  rw [lg_entry_eq]
  generalize (lg_sl ([.int x0]) ++ List.replicate (1 - (lg_sl ([.int x0])).length) Slot.unset).toArray = ls at hl ⊢
  replace hl : lv_has ls 1 [(0, .int x0)] := hl
  refine zz_go (w := wR y a) hP hD va_S.rf hl (fun G hG => ?_)
  clear hP hD hl ls
  have J23 : ∀ (t0 : Int32), mX11_isChanged_b23 t0 = some r → G 23 [] [.int t0] z := by
    intro t0 hm
    rw [mX11_isChanged_b23] at hm
    rw [hG]
    intro H locs ls hP hD hS hl
    obtain ⟨c1, hm⟩ := zz_ck_some hm
    exact zz_zret hx hb hr hlocks c1 ⟨zz_some1 hm, rfl⟩ hP hK hD hS dX11_isChanged_23
  have J22 : mX11_isChanged_b22 = some r → G 22 [] [] z := by
    intro hm
    rw [mX11_isChanged_b22] at hm
    rw [hG]
    intro H locs ls hP hD hS hl
    refine lv_iconst (v := (0 : Int32)) hx hb dX11_isChanged_22 (by decide) ?_
    have j := J23 (0 : Int32) hm
    rw [hG] at j
    exact j H locs ls hP hD hS (lv_sub hl [] rfl)
  rw [hG]
  intro H locs ls hP hD hS hl
  unfold mX11_isChanged at hm
  refine lv_iload_n hx hb dX11_isChanged_0 rfl (lv_at hl 0 rfl) ?_
  refine lv_if_eq (tgt := 22) hx hb dX11_isChanged_1 (by decide) (fun c2 => ?_) (fun c2 => ?_)
  · replace hm := zz_pos c2 hm
    have j := J22 hm
    rw [hG] at j
    exact j H locs ls hP hD hS (lv_sub hl [] rfl)
  · replace hm := zz_neg c2 hm
    refine lv_iload_n hx hb dX11_isChanged_4 rfl (lv_at hl 0 rfl) ?_
    refine lv_i2l hx hb dX11_isChanged_5 rfl ?_
    refine lv_ldc2 (v := (-999 : Int64)) hx hb hown (hts (.constantLong RX11 176 (-999)) (List.mem_of_getElem? (i := 1) rfl)) dX11_isChanged_6 ?_
    refine lv_ldc2 (v := (999 : Int64)) hx hb hown (hts (.constantLong RX11 178 (999)) (List.mem_of_getElem? (i := 2) rfl)) dX11_isChanged_9 ?_
    obtain ⟨r3, h4, hm⟩ := zz_b1_some hm
    refine zz_calli (zz_runS (w := wR y a) (As := [.long x0.toInt64, .long (-999 : Int64), .long (999 : Int64)]) (rest := []) ⟨hx, hb, hml, hown, hts⟩ (zX11_in l D y a H.size x0.toInt64 (-999 : Int64) (999 : Int64) z h4) (va_cwS 3 hts gX11_isChanged_X11_in rfl rfl rfl zdX11_in ⟨Nat.le_of_ble_eq_true rfl, Nat.le_of_ble_eq_true rfl⟩) hK hN hg hP hD hS hA rfl hl.1 rfl (Nat.le_of_ble_eq_true rfl) dX11_isChanged_12 ⟨Nat.le_of_ble_eq_true rfl, Nat.le_of_ble_eq_true rfl⟩) hD hS hA (fun H locs hP hD hS => ?_)
    refine lv_if_eq (tgt := 22) hx hb dX11_isChanged_15 (by decide) (fun c5 => ?_) (fun c5 => ?_)
    · replace hm := zz_pos c5 hm
      have j := J22 hm
      rw [hG] at j
      exact j H locs ls hP hD hS (lv_sub hl [] rfl)
    · replace hm := zz_neg c5 hm
      refine lv_iconst (v := (1 : Int32)) hx hb dX11_isChanged_18 (by decide) ?_
      refine lv_goto (tgt := 23) hx hb dX11_isChanged_19 (by decide) ?_
      have j := J23 (1 : Int32) hm
      rw [hG] at j
      exact j H locs ls hP hD hS (lv_sub hl [] rfl)
def mX11_alters_b20 (z : zz_M) : Option (Int32 × zz_M) := some ((-1 : Int32), z)
def mX11_alters (x1 : Int32) (x2 : Int32) (z : zz_M) : Option (Int32 × zz_M) := zz_nm (zz_sF z 19 (0 : Int32)) (fun z1 => zz_b1 (mX11_isChange x1 z1) (fun r2 => if r2 = (0 : Int32) then (mX11_alters_b20 z1) else (zz_b1 (mX11_isChanged x2) (fun r5 => if r5 = (0 : Int32) then (mX11_alters_b20 z1) else (zz_ck (zz_in (((4 : Int32) * x1) + (2 : Int32)) 32) (zz_nm (z1.1 5 (((4 : Int32) * x1) + (2 : Int32)).toNatClampNeg) (fun n9 => if n9 = x2 then (some ((-2 : Int32), z1)) else (zz_ck (zz_in (((4 : Int32) * x1) + (2 : Int32)) 32) (zz_nm (zz_wI z1 5 (((4 : Int32) * x1) + (2 : Int32)) x2) (fun z12 => some (n9, z12)))))))))))
theorem nX11_alters_X11 : ∀ w ∈ wsX110, w ∈ wsX11_alters := fun _ h => List.mem_cons_of_mem _ (List.mem_append_right _ (h))
theorem zdX11_alters : yX11_alters.cls = RX11 ∧ yX11_alters.cls ≠ "java/lang/invoke/MethodHandle" ∧ yX11_alters.cls ≠ "java/lang/invoke/VarHandle" ∧ (parseMethodDescriptor yX11_alters.desc).map (fun d => d.parameters.length) = some 2 := by decide +kernel
set_option maxHeartbeats 4000000 in
set_option maxRecDepth 100000 in
theorem zX11_alters (l : Launch) (D : va_G) (y : Nat → ClassId) (a : Nat → Nat) (sz : Nat) (x1 : Int32) (x2 : Int32) (z : zz_M) {r : Int32} {zt : zz_M} (hm : mX11_alters x1 x2 z = some (r, zt)) : Met l yX11_alters wsX11_alters { frames := 2, cells := 0, slots := 0, locals := 46 } (zz_Pc D y (wR y a z) sz [.ref (a 0), .int x1, .int x2]) (zz_Qi D y (wR y a) (va_A (wR y a z) sz) r zt) 0 0 (va_A (wR y a z) sz) := by
  refine Met.ofW (cc := cX11_alters) (maxL := 4) (ret := (some .int)) (by decide) rfl ?_
  intro p e s m args below meth c s₁ B hml hv
  obtain ⟨rfl, hsz, hP, hK, hD0, hN, hg⟩ := hv
  have hx := B.exec
  have hb := B.bytes
  have hr := B.returns
  have hts := atoms_spec (ws := wsX11_alters) B.pre
  have hown : s.vm.findClass RX11 = some m.cls := findClass_of_methodNamed B.named
  have hlocks := B.notSynchronized
  clear B
  subst hsz
  have hD := hD0.self (sz := s.heap.size)
  generalize hAe : va_A (wR y a z) s.heap.size = A at hD hg ⊢
  have hA : ∀ q : Nat, s.heap.size ≤ q → A q := fun q h => by rw [← hAe]; exact Or.inr h
  clear hAe hD0
  have hl := lv_entry ([.ref (a 0), .int x1, .int x2]) (n := 4) (Nat.le_of_ble_eq_true rfl)
  rw [lg_entry_eq]
  generalize (lg_sl ([.ref (a 0), .int x1, .int x2]) ++ List.replicate (4 - (lg_sl ([.ref (a 0), .int x1, .int x2])).length) Slot.unset).toArray = ls at hl ⊢
  replace hl : lv_has ls 4 [(0, .ref (a 0)), (1, .int x1), (2, .int x2)] := hl
  refine zz_go (w := wR y a) hP hD va_S.rf hl (fun G hG => ?_)
  clear hP hD hl ls
  have J20 : ∀ (z : zz_M), mX11_alters_b20 z = some (r, zt) → G 20 [] [] z := by
    intro z hm
    rw [mX11_alters_b20] at hm
    rw [hG]
    intro H locs ls hP hD hS hl
    refine lv_iconst (v := (-1 : Int32)) hx hb dX11_alters_20 (by decide) ?_
    exact zz_iret hx hb hr hlocks (zz_some2 hm) hP hK hD hS dX11_alters_21
  rw [hG]
  intro H locs ls hP hD hS hl
  unfold mX11_alters at hm
  refine lv_aload_n hx hb dX11_alters_0 rfl (lv_at hl 0 rfl) ?_
  refine lv_iconst (v := (0 : Int32)) hx hb dX11_alters_1 (by decide) ?_
  refine va_put (D := D) (ci := 11) (v := .int (0 : Int32)) (ty := .int) (C := RX11) (T := TX11) (N := 35) hx hb hts nX11_alters_X11 tyX11 tyX11_ok nmX11 hown hK hP hD hS 0 (wR_0 y a z) rfl 19 (by decide) (hts (.fieldLink RX11 97 "WorksDeskModel" "thrown" "I") (List.mem_of_getElem? (i := 1) rfl)) (fun _ h9 => h9) rfl (tyX11_ok 19 (by decide)) rfl rfl (Nat.le_of_ble_eq_true rfl) dX11_alters_2 (fun H locs hP hD hS => ?_)
  obtain ⟨z1, hP, hD, hm⟩ := zz_up (w := wR y a) (wR_f19 y a z (0 : Int32)) hP hD hm
  refine lv_aload_n hx hb dX11_alters_5 rfl (lv_at hl 0 rfl) ?_
  refine lv_iload_n hx hb dX11_alters_6 rfl (lv_at hl 1 rfl) ?_
  obtain ⟨r2, h3, hm⟩ := zz_b1_some hm
  refine zz_calli (zz_runV (w := wR y a) (As := [.int x1]) (rest := []) ⟨hx, hb, hml, hown, hts⟩ (zX11_isChange l D y a H.size x1 z1 h3) (cwV 1 hts gX11_alters_X11_isChange rfl rfl rfl zdX11_isChange ⟨Nat.le_of_ble_eq_true rfl, Nat.le_of_ble_eq_true rfl⟩) hK hN hg hP hD hS hA 0 (wR_0 y a z1) rfl rfl hl.1 rfl (Nat.le_of_ble_eq_true rfl) dX11_alters_7 ⟨Nat.le_of_ble_eq_true rfl, Nat.le_of_ble_eq_true rfl⟩) hD hS hA (fun H locs hP hD hS => ?_)
  refine lv_if_eq (tgt := 20) hx hb dX11_alters_10 (by decide) (fun c4 => ?_) (fun c4 => ?_)
  · replace hm := zz_pos c4 hm
    have j := J20 z1 hm
    rw [hG] at j
    exact j H locs ls hP hD hS (lv_sub hl [] rfl)
  · replace hm := zz_neg c4 hm
    refine lv_iload_n hx hb dX11_alters_13 rfl (lv_at hl 2 rfl) ?_
    obtain ⟨r5, h6, hm⟩ := zz_b1_some hm
    refine zz_calli (zz_runS (w := wR y a) (As := [.int x2]) (rest := []) ⟨hx, hb, hml, hown, hts⟩ (zX11_isChanged l D y a H.size x2 z1 h6) (va_cwS 1 hts gX11_alters_X11_isChanged rfl rfl rfl zdX11_isChanged ⟨Nat.le_of_ble_eq_true rfl, Nat.le_of_ble_eq_true rfl⟩) hK hN hg hP hD hS hA rfl hl.1 rfl (Nat.le_of_ble_eq_true rfl) dX11_alters_14 ⟨Nat.le_of_ble_eq_true rfl, Nat.le_of_ble_eq_true rfl⟩) hD hS hA (fun H locs hP hD hS => ?_)
    refine lv_if_ne (tgt := 22) hx hb dX11_alters_17 (by decide) (fun c7 => ?_) (fun c7 => ?_)
    · replace hm := zz_neg c7 hm
      refine lv_aload_n hx hb dX11_alters_22 rfl (lv_at hl 0 rfl) ?_
      refine va_get (D := D) (ci := 11) (v := .ref (a 5)) (C := RX11) (T := TX11) (N := 35) hx hb hts nX11_alters_X11 hown hK hP 0 (wR_0 y a z1) rfl 5 (by decide) (hts (.fieldLink RX11 22 "WorksDeskModel" "changes" "[I") (List.mem_of_getElem? (i := 2) rfl)) (fun _ h9 => h9) rfl dX11_alters_23 ?_
      refine lv_iconst (v := (4 : Int32)) hx hb dX11_alters_26 (by decide) ?_
      refine lv_iload_n hx hb dX11_alters_27 rfl (lv_at hl 1 rfl) ?_
      refine lv_imul hx hb dX11_alters_28 ?_
      refine lv_iconst (v := (2 : Int32)) hx hb dX11_alters_29 (by decide) ?_
      refine lv_iadd hx hb dX11_alters_30 ?_
      obtain ⟨c8, hm⟩ := zz_ck_some hm
      refine va_iald hx hb hK hP 5 0 (wR_5 y a z1) rfl c8 dX11_alters_31 ?_
      refine lv_topi (fun n9 en9 => ?_)
      replace hm := zz_nm_some en9 hm
      refine lv_istore_n (lv' := [(3, .int n9), (0, .ref (a 0)), (1, .int x1), (2, .int x2)]) hx hb dX11_alters_32 rfl hl (by decide) rfl (fun ls hl => ?_)
      refine lv_iload_n hx hb dX11_alters_33 rfl (lv_at hl 0 rfl) ?_
      refine lv_iload_n hx hb dX11_alters_34 rfl (lv_at hl 3 rfl) ?_
      refine lv_icmp_ne (tgt := 41) hx hb dX11_alters_35 (by decide) (fun c10 => ?_) (fun c10 => ?_)
      · replace hm := zz_neg c10 hm
        refine lv_aload_n hx hb dX11_alters_41 rfl (lv_at hl 1 rfl) ?_
        refine va_get (D := D) (ci := 11) (v := .ref (a 5)) (C := RX11) (T := TX11) (N := 35) hx hb hts nX11_alters_X11 hown hK hP 0 (wR_0 y a z1) rfl 5 (by decide) (hts (.fieldLink RX11 22 "WorksDeskModel" "changes" "[I") (List.mem_of_getElem? (i := 2) rfl)) (fun _ h9 => h9) rfl dX11_alters_42 ?_
        refine lv_iconst (v := (4 : Int32)) hx hb dX11_alters_45 (by decide) ?_
        refine lv_iload_n hx hb dX11_alters_46 rfl (lv_at hl 2 rfl) ?_
        refine lv_imul hx hb dX11_alters_47 ?_
        refine lv_iconst (v := (2 : Int32)) hx hb dX11_alters_48 (by decide) ?_
        refine lv_iadd hx hb dX11_alters_49 ?_
        refine lv_iload_n hx hb dX11_alters_50 rfl (lv_at hl 3 rfl) ?_
        obtain ⟨c11, hm⟩ := zz_ck_some hm
        refine va_iast hx hb hK hP hD hS 5 0 (wR_5 y a z1) rfl c11 dX11_alters_51 (fun H locs hP hD hS => ?_)
        obtain ⟨z12, hP, hD, hm⟩ := zz_up (w := wR y a) (wR_w5 y a z1 (((4 : Int32) * x1) + (2 : Int32)) x2) hP hD hm
        refine lv_iload_n hx hb dX11_alters_52 rfl (lv_at hl 0 rfl) ?_
        exact zz_iret hx hb hr hlocks (zz_some2 hm) hP hK hD hS dX11_alters_53
      · replace hm := zz_pos c10 hm
        refine lv_bipush (v := (-2 : Int32)) hx hb dX11_alters_38 (by decide) ?_
        exact zz_iret hx hb hr hlocks (zz_some2 hm) hP hK hD hS dX11_alters_40
    · replace hm := zz_pos c7 hm
      have j := J20 z1 hm
      rw [hG] at j
      exact j H locs ls hP hD hS (lv_sub hl [] rfl)
def mX11_lost (z : zz_M) : Option (Int32 × zz_M) := zz_nm (zz_sF z 19 (1 : Int32)) (fun z1 => some ((0 : Int32), z1))
theorem nX11_lost_X11 : ∀ w ∈ wsX110, w ∈ wsX11_lost := fun _ h => List.mem_cons_of_mem _ (List.mem_append_right _ (h))
theorem zdX11_lost : yX11_lost.cls = RX11 ∧ yX11_lost.cls ≠ "java/lang/invoke/MethodHandle" ∧ yX11_lost.cls ≠ "java/lang/invoke/VarHandle" ∧ (parseMethodDescriptor yX11_lost.desc).map (fun d => d.parameters.length) = some 0 := by decide +kernel
set_option maxHeartbeats 4000000 in
set_option maxRecDepth 100000 in
theorem zX11_lost (l : Launch) (D : va_G) (y : Nat → ClassId) (a : Nat → Nat) (sz : Nat) (z : zz_M) {r : Int32} {zt : zz_M} (hm : mX11_lost z = some (r, zt)) : Met l yX11_lost wsX11_lost { frames := 0, cells := 0, slots := 0, locals := 0 } (zz_Pc D y (wR y a z) sz [.ref (a 0)]) (zz_Qi D y (wR y a) (va_A (wR y a z) sz) r zt) 0 0 (va_A (wR y a z) sz) := by
  refine Met.ofW (cc := cX11_lost) (maxL := 1) (ret := (some .int)) (by decide) rfl ?_
  intro p e s m args below meth c s₁ B hml hv
  obtain ⟨rfl, hsz, hP, hK, hD0, hN, hg⟩ := hv
  have hx := B.exec
  have hb := B.bytes
  have hr := B.returns
  have hts := atoms_spec (ws := wsX11_lost) B.pre
  have hown : s.vm.findClass RX11 = some m.cls := findClass_of_methodNamed B.named
  have hlocks := B.notSynchronized
  clear B
  subst hsz
  have hD := hD0.self (sz := s.heap.size)
  generalize hAe : va_A (wR y a z) s.heap.size = A at hD hg ⊢
  have hA : ∀ q : Nat, s.heap.size ≤ q → A q := fun q h => by rw [← hAe]; exact Or.inr h
  clear hAe hD0
  have hl := lv_entry ([.ref (a 0)]) (n := 1) (Nat.le_of_ble_eq_true rfl)
  rw [lg_entry_eq]
  generalize (lg_sl ([.ref (a 0)]) ++ List.replicate (1 - (lg_sl ([.ref (a 0)])).length) Slot.unset).toArray = ls at hl ⊢
  replace hl : lv_has ls 1 [(0, .ref (a 0))] := hl
  refine zz_go (w := wR y a) hP hD va_S.rf hl (fun G hG => ?_)
  clear hP hD hl ls
  rw [hG]
  intro H locs ls hP hD hS hl
  unfold mX11_lost at hm
  refine lv_aload_n hx hb dX11_lost_0 rfl (lv_at hl 0 rfl) ?_
  refine lv_iconst (v := (1 : Int32)) hx hb dX11_lost_1 (by decide) ?_
  refine va_put (D := D) (ci := 11) (v := .int (1 : Int32)) (ty := .int) (C := RX11) (T := TX11) (N := 35) hx hb hts nX11_lost_X11 tyX11 tyX11_ok nmX11 hown hK hP hD hS 0 (wR_0 y a z) rfl 19 (by decide) (hts (.fieldLink RX11 97 "WorksDeskModel" "thrown" "I") (List.mem_of_getElem? (i := 1) rfl)) (fun _ h9 => h9) rfl (tyX11_ok 19 (by decide)) rfl rfl (Nat.le_of_ble_eq_true rfl) dX11_lost_2 (fun H locs hP hD hS => ?_)
  obtain ⟨z1, hP, hD, hm⟩ := zz_up (w := wR y a) (wR_f19 y a z (1 : Int32)) hP hD hm
  refine lv_iconst (v := (0 : Int32)) hx hb dX11_lost_5 (by decide) ?_
  exact zz_iret hx hb hr hlocks (zz_some2 hm) hP hK hD hS dX11_lost_6
def mX11_amount_b24 (z : zz_M) : Option (Int64 × zz_M) := zz_b2 (mX11_lost z) (fun r1 z3 => some (r1.toInt64, z3))
def mX11_amount (x1 : Int32) (x2 : Int32) (z : zz_M) : Option (Int64 × zz_M) := zz_nm (zz_sF z 19 (0 : Int32)) (fun z4 => zz_b1 (mX11_isMonth x1) (fun r5 => if r5 = (0 : Int32) then (mX11_amount_b24 z4) else (zz_b1 (mX11_in x2.toInt64 (0 : Int64) (14 : Int64)) (fun r8 => if r8 = (0 : Int32) then (mX11_amount_b24 z4) else (zz_b2 (mX11_layMonths z4) (fun r11 z13 => if x2 = (0 : Int32) then (zz_b1 (mX11_workIn x1 z13) (fun r15 => some (r15, z13))) else (if x2 = (1 : Int32) then (zz_b1 (mX11_variedIn x1 z13) (fun r18 => some (r18, z13))) else (if x2 = (2 : Int32) then (zz_b1 (mX11_materialsIn x1 z13) (fun r21 => some (r21, z13))) else (if x2 = (3 : Int32) then (zz_b1 (mX11_retainedIn x1 z13) (fun r24 => some (r24, z13))) else (if x2 = (4 : Int32) then (zz_ck (zz_in x1 24) (some (z13.2.1 13 x1.toNatClampNeg, z13))) else (if x2 = (5 : Int32) then (zz_b1 (mX11_setIn x1 z13) (fun r29 => some (r29, z13))) else (if x2 = (6 : Int32) then (zz_ck (zz_in x1 24) (some (z13.2.1 14 x1.toNatClampNeg, z13))) else (if x2 = (7 : Int32) then (zz_ck (zz_in x1 24) (some (z13.2.1 15 x1.toNatClampNeg, z13))) else (if x2 = (8 : Int32) then (zz_ck (zz_in x1 24) (some (z13.2.1 16 x1.toNatClampNeg, z13))) else (if x2 = (9 : Int32) then (zz_ck (zz_in x1 24) (some (z13.2.1 17 x1.toNatClampNeg, z13))) else (if x2 = (10 : Int32) then (zz_ck (zz_in x1 24) (some (z13.2.1 18 x1.toNatClampNeg, z13))) else (if x2 = (11 : Int32) then (zz_b1 (mX11_interestTill x1 z13) (fun r42 => some (r42, z13))) else (if x2 = (12 : Int32) then (zz_b1 (mX11_paidTill x1 z13) (fun r45 => some (r45, z13))) else (if x2 = (13 : Int32) then (zz_b1 (mX11_damagesIn x1 z13) (fun r48 => some (r48, z13))) else (zz_ck (zz_in x1 24) (some (z13.2.1 12 x1.toNatClampNeg, z13))))))))))))))))))))))
theorem nX11_amount_X11 : ∀ w ∈ wsX110, w ∈ wsX11_amount := fun _ h => List.mem_cons_of_mem _ (List.mem_append_right _ (h))
theorem zdX11_amount : yX11_amount.cls = RX11 ∧ yX11_amount.cls ≠ "java/lang/invoke/MethodHandle" ∧ yX11_amount.cls ≠ "java/lang/invoke/VarHandle" ∧ (parseMethodDescriptor yX11_amount.desc).map (fun d => d.parameters.length) = some 2 := by decide +kernel
set_option maxHeartbeats 4000000 in
set_option maxRecDepth 100000 in
theorem zX11_amount (l : Launch) (D : va_G) (y : Nat → ClassId) (a : Nat → Nat) (sz : Nat) (x1 : Int32) (x2 : Int32) (z : zz_M) {r : Int64} {zt : zz_M} (hm : mX11_amount x1 x2 z = some (r, zt)) : Met l yX11_amount wsX11_amount { frames := 7, cells := 0, slots := 0, locals := 175 } (zz_Pc D y (wR y a z) sz [.ref (a 0), .int x1, .int x2]) (zz_Ql D y (wR y a) (va_A (wR y a z) sz) r zt) 0 0 (va_A (wR y a z) sz) := by
  refine Met.ofW (cc := cX11_amount) (maxL := 3) (ret := (some .long)) (by decide) rfl ?_
  intro p e s m args below meth c s₁ B hml hv
  obtain ⟨rfl, hsz, hP, hK, hD0, hN, hg⟩ := hv
  have hx := B.exec
  have hb := B.bytes
  have hr := B.returns
  have hts := atoms_spec (ws := wsX11_amount) B.pre
  have hown : s.vm.findClass RX11 = some m.cls := findClass_of_methodNamed B.named
  have hlocks := B.notSynchronized
  clear B
  subst hsz
  have hD := hD0.self (sz := s.heap.size)
  generalize hAe : va_A (wR y a z) s.heap.size = A at hD hg ⊢
  have hA : ∀ q : Nat, s.heap.size ≤ q → A q := fun q h => by rw [← hAe]; exact Or.inr h
  clear hAe hD0
  have hl := lv_entry ([.ref (a 0), .int x1, .int x2]) (n := 3) (Nat.le_of_ble_eq_true rfl)
  rw [lg_entry_eq]
  generalize (lg_sl ([.ref (a 0), .int x1, .int x2]) ++ List.replicate (3 - (lg_sl ([.ref (a 0), .int x1, .int x2])).length) Slot.unset).toArray = ls at hl ⊢
  replace hl : lv_has ls 3 [(0, .ref (a 0)), (1, .int x1), (2, .int x2)] := hl
  refine zz_go (w := wR y a) hP hD va_S.rf hl (fun G hG => ?_)
  clear hP hD hl ls
  have J24 : ∀ (z : zz_M), mX11_amount_b24 z = some (r, zt) → G 24 [(0, .ref (a 0))] [] z := by
    intro z hm
    rw [mX11_amount_b24] at hm
    rw [hG]
    intro H locs ls hP hD hS hl
    refine lv_aload_n hx hb dX11_amount_24 rfl (lv_at hl 0 rfl) ?_
    obtain ⟨r1, z3, h2, hm⟩ := zz_b2_some hm
    refine zz_calli (zz_runV (w := wR y a) (As := []) (rest := []) ⟨hx, hb, hml, hown, hts⟩ (zX11_lost l D y a H.size z h2) (cwV 0 hts gX11_amount_X11_lost rfl rfl rfl zdX11_lost ⟨Nat.le_of_ble_eq_true rfl, Nat.le_of_ble_eq_true rfl⟩) hK hN hg hP hD hS hA 0 (wR_0 y a z) rfl rfl hl.1 rfl (Nat.le_of_ble_eq_true rfl) dX11_amount_25 ⟨Nat.le_of_ble_eq_true rfl, Nat.le_of_ble_eq_true rfl⟩) hD hS hA (fun H locs hP hD hS => ?_)
    refine lv_i2l hx hb dX11_amount_28 rfl ?_
    exact zz_lret hx hb hr hlocks (zz_some2 hm) hP hK hD hS dX11_amount_29
  rw [hG]
  intro H locs ls hP hD hS hl
  unfold mX11_amount at hm
  refine lv_aload_n hx hb dX11_amount_0 rfl (lv_at hl 0 rfl) ?_
  refine lv_iconst (v := (0 : Int32)) hx hb dX11_amount_1 (by decide) ?_
  refine va_put (D := D) (ci := 11) (v := .int (0 : Int32)) (ty := .int) (C := RX11) (T := TX11) (N := 35) hx hb hts nX11_amount_X11 tyX11 tyX11_ok nmX11 hown hK hP hD hS 0 (wR_0 y a z) rfl 19 (by decide) (hts (.fieldLink RX11 97 "WorksDeskModel" "thrown" "I") (List.mem_of_getElem? (i := 1) rfl)) (fun _ h9 => h9) rfl (tyX11_ok 19 (by decide)) rfl rfl (Nat.le_of_ble_eq_true rfl) dX11_amount_2 (fun H locs hP hD hS => ?_)
  obtain ⟨z4, hP, hD, hm⟩ := zz_up (w := wR y a) (wR_f19 y a z (0 : Int32)) hP hD hm
  refine lv_iload_n hx hb dX11_amount_5 rfl (lv_at hl 1 rfl) ?_
  obtain ⟨r5, h6, hm⟩ := zz_b1_some hm
  refine zz_calli (zz_runS (w := wR y a) (As := [.int x1]) (rest := []) ⟨hx, hb, hml, hown, hts⟩ (zX11_isMonth l D y a H.size x1 z4 h6) (va_cwS 1 hts gX11_amount_X11_isMonth rfl rfl rfl zdX11_isMonth ⟨Nat.le_of_ble_eq_true rfl, Nat.le_of_ble_eq_true rfl⟩) hK hN hg hP hD hS hA rfl hl.1 rfl (Nat.le_of_ble_eq_true rfl) dX11_amount_6 ⟨Nat.le_of_ble_eq_true rfl, Nat.le_of_ble_eq_true rfl⟩) hD hS hA (fun H locs hP hD hS => ?_)
  refine lv_if_eq (tgt := 24) hx hb dX11_amount_9 (by decide) (fun c7 => ?_) (fun c7 => ?_)
  · replace hm := zz_pos c7 hm
    have j := J24 z4 hm
    rw [hG] at j
    exact j H locs ls hP hD hS (lv_sub hl [0] rfl)
  · replace hm := zz_neg c7 hm
    refine lv_iload_n hx hb dX11_amount_12 rfl (lv_at hl 2 rfl) ?_
    refine lv_i2l hx hb dX11_amount_13 rfl ?_
    refine lv_lconst (v := (0 : Int64)) hx hb dX11_amount_14 (by decide) ?_
    refine lv_ldc2 (v := (14 : Int64)) hx hb hown (hts (.constantLong RX11 297 (14)) (List.mem_of_getElem? (i := 2) rfl)) dX11_amount_15 ?_
    obtain ⟨r8, h9, hm⟩ := zz_b1_some hm
    refine zz_calli (zz_runS (w := wR y a) (As := [.long x2.toInt64, .long (0 : Int64), .long (14 : Int64)]) (rest := []) ⟨hx, hb, hml, hown, hts⟩ (zX11_in l D y a H.size x2.toInt64 (0 : Int64) (14 : Int64) z4 h9) (va_cwS 3 hts gX11_amount_X11_in rfl rfl rfl zdX11_in ⟨Nat.le_of_ble_eq_true rfl, Nat.le_of_ble_eq_true rfl⟩) hK hN hg hP hD hS hA rfl hl.1 rfl (Nat.le_of_ble_eq_true rfl) dX11_amount_18 ⟨Nat.le_of_ble_eq_true rfl, Nat.le_of_ble_eq_true rfl⟩) hD hS hA (fun H locs hP hD hS => ?_)
    refine lv_if_ne (tgt := 30) hx hb dX11_amount_21 (by decide) (fun c10 => ?_) (fun c10 => ?_)
    · replace hm := zz_neg c10 hm
      refine lv_aload_n hx hb dX11_amount_30 rfl (lv_at hl 0 rfl) ?_
      obtain ⟨r11, z13, h12, hm⟩ := zz_b2_some hm
      refine zz_callv (zz_runV (w := wR y a) (As := []) (rest := []) ⟨hx, hb, hml, hown, hts⟩ (zX11_layMonths l D y a H.size z4 h12) (cwV 0 hts gX11_amount_X11_layMonths rfl rfl rfl zdX11_layMonths ⟨Nat.le_of_ble_eq_true rfl, Nat.le_of_ble_eq_true rfl⟩) hK hN hg hP hD hS hA 0 (wR_0 y a z4) rfl rfl hl.1 rfl (Nat.le_of_ble_eq_true rfl) dX11_amount_31 ⟨Nat.le_of_ble_eq_true rfl, Nat.le_of_ble_eq_true rfl⟩) hD hS hA (fun H locs hP hD hS => ?_)
      refine lv_iload_n hx hb dX11_amount_34 rfl (lv_at hl 2 rfl) ?_
      by_cases c14 : x2 = (0 : Int32)
      · replace hm := zz_pos c14 hm
        refine lv_tableIn (tgt := 104) hx hb dX11_amount_35 (by rw [c14]; decide) (by rw [c14]; decide) (by rw [c14]; rfl) (by decide) ?_
        refine lv_aload_n hx hb dX11_amount_104 rfl (lv_at hl 0 rfl) ?_
        refine lv_iload_n hx hb dX11_amount_105 rfl (lv_at hl 1 rfl) ?_
        obtain ⟨r15, h16, hm⟩ := zz_b1_some hm
        refine zz_calll (zz_runV (w := wR y a) (As := [.int x1]) (rest := []) ⟨hx, hb, hml, hown, hts⟩ (zX11_workIn l D y a H.size x1 z13 h16) (cwV 1 hts gX11_amount_X11_workIn rfl rfl rfl zdX11_workIn ⟨Nat.le_of_ble_eq_true rfl, Nat.le_of_ble_eq_true rfl⟩) hK hN hg hP hD hS hA 0 (wR_0 y a z13) rfl rfl hl.1 rfl (Nat.le_of_ble_eq_true rfl) dX11_amount_106 ⟨Nat.le_of_ble_eq_true rfl, Nat.le_of_ble_eq_true rfl⟩) hD hS hA (fun H locs hP hD hS => ?_)
        exact zz_lret hx hb hr hlocks (zz_some2 hm) hP hK hD hS dX11_amount_109
      · replace hm := zz_neg c14 hm
        by_cases c17 : x2 = (1 : Int32)
        · replace hm := zz_pos c17 hm
          refine lv_tableIn (tgt := 110) hx hb dX11_amount_35 (by rw [c17]; decide) (by rw [c17]; decide) (by rw [c17]; rfl) (by decide) ?_
          refine lv_aload_n hx hb dX11_amount_110 rfl (lv_at hl 0 rfl) ?_
          refine lv_iload_n hx hb dX11_amount_111 rfl (lv_at hl 1 rfl) ?_
          obtain ⟨r18, h19, hm⟩ := zz_b1_some hm
          refine zz_calll (zz_runV (w := wR y a) (As := [.int x1]) (rest := []) ⟨hx, hb, hml, hown, hts⟩ (zX11_variedIn l D y a H.size x1 z13 h19) (cwV 1 hts gX11_amount_X11_variedIn rfl rfl rfl zdX11_variedIn ⟨Nat.le_of_ble_eq_true rfl, Nat.le_of_ble_eq_true rfl⟩) hK hN hg hP hD hS hA 0 (wR_0 y a z13) rfl rfl hl.1 rfl (Nat.le_of_ble_eq_true rfl) dX11_amount_112 ⟨Nat.le_of_ble_eq_true rfl, Nat.le_of_ble_eq_true rfl⟩) hD hS hA (fun H locs hP hD hS => ?_)
          exact zz_lret hx hb hr hlocks (zz_some2 hm) hP hK hD hS dX11_amount_115
        · replace hm := zz_neg c17 hm
          by_cases c20 : x2 = (2 : Int32)
          · replace hm := zz_pos c20 hm
            refine lv_tableIn (tgt := 116) hx hb dX11_amount_35 (by rw [c20]; decide) (by rw [c20]; decide) (by rw [c20]; rfl) (by decide) ?_
            refine lv_aload_n hx hb dX11_amount_116 rfl (lv_at hl 0 rfl) ?_
            refine lv_iload_n hx hb dX11_amount_117 rfl (lv_at hl 1 rfl) ?_
            obtain ⟨r21, h22, hm⟩ := zz_b1_some hm
            refine zz_calll (zz_runV (w := wR y a) (As := [.int x1]) (rest := []) ⟨hx, hb, hml, hown, hts⟩ (zX11_materialsIn l D y a H.size x1 z13 h22) (cwV 1 hts gX11_amount_X11_materialsIn rfl rfl rfl zdX11_materialsIn ⟨Nat.le_of_ble_eq_true rfl, Nat.le_of_ble_eq_true rfl⟩) hK hN hg hP hD hS hA 0 (wR_0 y a z13) rfl rfl hl.1 rfl (Nat.le_of_ble_eq_true rfl) dX11_amount_118 ⟨Nat.le_of_ble_eq_true rfl, Nat.le_of_ble_eq_true rfl⟩) hD hS hA (fun H locs hP hD hS => ?_)
            exact zz_lret hx hb hr hlocks (zz_some2 hm) hP hK hD hS dX11_amount_121
          · replace hm := zz_neg c20 hm
            by_cases c23 : x2 = (3 : Int32)
            · replace hm := zz_pos c23 hm
              refine lv_tableIn (tgt := 122) hx hb dX11_amount_35 (by rw [c23]; decide) (by rw [c23]; decide) (by rw [c23]; rfl) (by decide) ?_
              refine lv_aload_n hx hb dX11_amount_122 rfl (lv_at hl 0 rfl) ?_
              refine lv_iload_n hx hb dX11_amount_123 rfl (lv_at hl 1 rfl) ?_
              obtain ⟨r24, h25, hm⟩ := zz_b1_some hm
              refine zz_calll (zz_runV (w := wR y a) (As := [.int x1]) (rest := []) ⟨hx, hb, hml, hown, hts⟩ (zX11_retainedIn l D y a H.size x1 z13 h25) (cwV 1 hts gX11_amount_X11_retainedIn rfl rfl rfl zdX11_retainedIn ⟨Nat.le_of_ble_eq_true rfl, Nat.le_of_ble_eq_true rfl⟩) hK hN hg hP hD hS hA 0 (wR_0 y a z13) rfl rfl hl.1 rfl (Nat.le_of_ble_eq_true rfl) dX11_amount_124 ⟨Nat.le_of_ble_eq_true rfl, Nat.le_of_ble_eq_true rfl⟩) hD hS hA (fun H locs hP hD hS => ?_)
              exact zz_lret hx hb hr hlocks (zz_some2 hm) hP hK hD hS dX11_amount_127
            · replace hm := zz_neg c23 hm
              by_cases c26 : x2 = (4 : Int32)
              · replace hm := zz_pos c26 hm
                refine lv_tableIn (tgt := 128) hx hb dX11_amount_35 (by rw [c26]; decide) (by rw [c26]; decide) (by rw [c26]; rfl) (by decide) ?_
                refine lv_aload_n hx hb dX11_amount_128 rfl (lv_at hl 0 rfl) ?_
                refine va_get (D := D) (ci := 11) (v := .ref (a 13)) (C := RX11) (T := TX11) (N := 35) hx hb hts nX11_amount_X11 hown hK hP 0 (wR_0 y a z13) rfl 25 (by decide) (hts (.fieldLink RX11 48 "WorksDeskModel" "recovered" "[J") (List.mem_of_getElem? (i := 3) rfl)) (fun _ h9 => h9) rfl dX11_amount_129 ?_
                refine lv_iload_n hx hb dX11_amount_132 rfl (lv_at hl 1 rfl) ?_
                obtain ⟨c27, hm⟩ := zz_ck_some hm
                refine va_lald hx hb hK hP 13 1 (wR_13 y a z13) rfl c27 dX11_amount_133 ?_
                exact zz_lret hx hb hr hlocks (zz_some2 hm) hP hK hD hS dX11_amount_134
              · replace hm := zz_neg c26 hm
                by_cases c28 : x2 = (5 : Int32)
                · replace hm := zz_pos c28 hm
                  refine lv_tableIn (tgt := 135) hx hb dX11_amount_35 (by rw [c28]; decide) (by rw [c28]; decide) (by rw [c28]; rfl) (by decide) ?_
                  refine lv_aload_n hx hb dX11_amount_135 rfl (lv_at hl 0 rfl) ?_
                  refine lv_iload_n hx hb dX11_amount_136 rfl (lv_at hl 1 rfl) ?_
                  obtain ⟨r29, h30, hm⟩ := zz_b1_some hm
                  refine zz_calll (zz_runV (w := wR y a) (As := [.int x1]) (rest := []) ⟨hx, hb, hml, hown, hts⟩ (zX11_setIn l D y a H.size x1 z13 h30) (cwV 1 hts gX11_amount_X11_setIn rfl rfl rfl zdX11_setIn ⟨Nat.le_of_ble_eq_true rfl, Nat.le_of_ble_eq_true rfl⟩) hK hN hg hP hD hS hA 0 (wR_0 y a z13) rfl rfl hl.1 rfl (Nat.le_of_ble_eq_true rfl) dX11_amount_137 ⟨Nat.le_of_ble_eq_true rfl, Nat.le_of_ble_eq_true rfl⟩) hD hS hA (fun H locs hP hD hS => ?_)
                  exact zz_lret hx hb hr hlocks (zz_some2 hm) hP hK hD hS dX11_amount_140
                · replace hm := zz_neg c28 hm
                  by_cases c31 : x2 = (6 : Int32)
                  · replace hm := zz_pos c31 hm
                    refine lv_tableIn (tgt := 141) hx hb dX11_amount_35 (by rw [c31]; decide) (by rw [c31]; decide) (by rw [c31]; rfl) (by decide) ?_
                    refine lv_aload_n hx hb dX11_amount_141 rfl (lv_at hl 0 rfl) ?_
                    refine va_get (D := D) (ci := 11) (v := .ref (a 14)) (C := RX11) (T := TX11) (N := 35) hx hb hts nX11_amount_X11 hown hK hP 0 (wR_0 y a z13) rfl 26 (by decide) (hts (.fieldLink RX11 51 "WorksDeskModel" "net" "[J") (List.mem_of_getElem? (i := 4) rfl)) (fun _ h9 => h9) rfl dX11_amount_142 ?_
                    refine lv_iload_n hx hb dX11_amount_145 rfl (lv_at hl 1 rfl) ?_
                    obtain ⟨c32, hm⟩ := zz_ck_some hm
                    refine va_lald hx hb hK hP 14 1 (wR_14 y a z13) rfl c32 dX11_amount_146 ?_
                    exact zz_lret hx hb hr hlocks (zz_some2 hm) hP hK hD hS dX11_amount_147
                  · replace hm := zz_neg c31 hm
                    by_cases c33 : x2 = (7 : Int32)
                    · replace hm := zz_pos c33 hm
                      refine lv_tableIn (tgt := 148) hx hb dX11_amount_35 (by rw [c33]; decide) (by rw [c33]; decide) (by rw [c33]; rfl) (by decide) ?_
                      refine lv_aload_n hx hb dX11_amount_148 rfl (lv_at hl 0 rfl) ?_
                      refine va_get (D := D) (ci := 11) (v := .ref (a 15)) (C := RX11) (T := TX11) (N := 35) hx hb hts nX11_amount_X11 hown hK hP 0 (wR_0 y a z13) rfl 27 (by decide) (hts (.fieldLink RX11 54 "WorksDeskModel" "certified" "[J") (List.mem_of_getElem? (i := 5) rfl)) (fun _ h9 => h9) rfl dX11_amount_149 ?_
                      refine lv_iload_n hx hb dX11_amount_152 rfl (lv_at hl 1 rfl) ?_
                      obtain ⟨c34, hm⟩ := zz_ck_some hm
                      refine va_lald hx hb hK hP 15 1 (wR_15 y a z13) rfl c34 dX11_amount_153 ?_
                      exact zz_lret hx hb hr hlocks (zz_some2 hm) hP hK hD hS dX11_amount_154
                    · replace hm := zz_neg c33 hm
                      by_cases c35 : x2 = (8 : Int32)
                      · replace hm := zz_pos c35 hm
                        refine lv_tableIn (tgt := 155) hx hb dX11_amount_35 (by rw [c35]; decide) (by rw [c35]; decide) (by rw [c35]; rfl) (by decide) ?_
                        refine lv_aload_n hx hb dX11_amount_155 rfl (lv_at hl 0 rfl) ?_
                        refine va_get (D := D) (ci := 11) (v := .ref (a 16)) (C := RX11) (T := TX11) (N := 35) hx hb hts nX11_amount_X11 hown hK hP 0 (wR_0 y a z13) rfl 28 (by decide) (hts (.fieldLink RX11 57 "WorksDeskModel" "total" "[J") (List.mem_of_getElem? (i := 6) rfl)) (fun _ h9 => h9) rfl dX11_amount_156 ?_
                        refine lv_iload_n hx hb dX11_amount_159 rfl (lv_at hl 1 rfl) ?_
                        obtain ⟨c36, hm⟩ := zz_ck_some hm
                        refine va_lald hx hb hK hP 16 1 (wR_16 y a z13) rfl c36 dX11_amount_160 ?_
                        exact zz_lret hx hb hr hlocks (zz_some2 hm) hP hK hD hS dX11_amount_161
                      · replace hm := zz_neg c35 hm
                        by_cases c37 : x2 = (9 : Int32)
                        · replace hm := zz_pos c37 hm
                          refine lv_tableIn (tgt := 162) hx hb dX11_amount_35 (by rw [c37]; decide) (by rw [c37]; decide) (by rw [c37]; rfl) (by decide) ?_
                          refine lv_aload_n hx hb dX11_amount_162 rfl (lv_at hl 0 rfl) ?_
                          refine va_get (D := D) (ci := 11) (v := .ref (a 17)) (C := RX11) (T := TX11) (N := 35) hx hb hts nX11_amount_X11 hown hK hP 0 (wR_0 y a z13) rfl 29 (by decide) (hts (.fieldLink RX11 60 "WorksDeskModel" "owed" "[J") (List.mem_of_getElem? (i := 7) rfl)) (fun _ h9 => h9) rfl dX11_amount_163 ?_
                          refine lv_iload_n hx hb dX11_amount_166 rfl (lv_at hl 1 rfl) ?_
                          obtain ⟨c38, hm⟩ := zz_ck_some hm
                          refine va_lald hx hb hK hP 17 1 (wR_17 y a z13) rfl c38 dX11_amount_167 ?_
                          exact zz_lret hx hb hr hlocks (zz_some2 hm) hP hK hD hS dX11_amount_168
                        · replace hm := zz_neg c37 hm
                          by_cases c39 : x2 = (10 : Int32)
                          · replace hm := zz_pos c39 hm
                            refine lv_tableIn (tgt := 169) hx hb dX11_amount_35 (by rw [c39]; decide) (by rw [c39]; decide) (by rw [c39]; rfl) (by decide) ?_
                            refine lv_aload_n hx hb dX11_amount_169 rfl (lv_at hl 0 rfl) ?_
                            refine va_get (D := D) (ci := 11) (v := .ref (a 18)) (C := RX11) (T := TX11) (N := 35) hx hb hts nX11_amount_X11 hown hK hP 0 (wR_0 y a z13) rfl 30 (by decide) (hts (.fieldLink RX11 63 "WorksDeskModel" "interest" "[J") (List.mem_of_getElem? (i := 8) rfl)) (fun _ h9 => h9) rfl dX11_amount_170 ?_
                            refine lv_iload_n hx hb dX11_amount_173 rfl (lv_at hl 1 rfl) ?_
                            obtain ⟨c40, hm⟩ := zz_ck_some hm
                            refine va_lald hx hb hK hP 18 1 (wR_18 y a z13) rfl c40 dX11_amount_174 ?_
                            exact zz_lret hx hb hr hlocks (zz_some2 hm) hP hK hD hS dX11_amount_175
                          · replace hm := zz_neg c39 hm
                            by_cases c41 : x2 = (11 : Int32)
                            · replace hm := zz_pos c41 hm
                              refine lv_tableIn (tgt := 176) hx hb dX11_amount_35 (by rw [c41]; decide) (by rw [c41]; decide) (by rw [c41]; rfl) (by decide) ?_
                              refine lv_aload_n hx hb dX11_amount_176 rfl (lv_at hl 0 rfl) ?_
                              refine lv_iload_n hx hb dX11_amount_177 rfl (lv_at hl 1 rfl) ?_
                              obtain ⟨r42, h43, hm⟩ := zz_b1_some hm
                              refine zz_calll (zz_runV (w := wR y a) (As := [.int x1]) (rest := []) ⟨hx, hb, hml, hown, hts⟩ (zX11_interestTill l D y a H.size x1 z13 h43) (cwV 1 hts gX11_amount_X11_interestTill rfl rfl rfl zdX11_interestTill ⟨Nat.le_of_ble_eq_true rfl, Nat.le_of_ble_eq_true rfl⟩) hK hN hg hP hD hS hA 0 (wR_0 y a z13) rfl rfl hl.1 rfl (Nat.le_of_ble_eq_true rfl) dX11_amount_178 ⟨Nat.le_of_ble_eq_true rfl, Nat.le_of_ble_eq_true rfl⟩) hD hS hA (fun H locs hP hD hS => ?_)
                              exact zz_lret hx hb hr hlocks (zz_some2 hm) hP hK hD hS dX11_amount_181
                            · replace hm := zz_neg c41 hm
                              by_cases c44 : x2 = (12 : Int32)
                              · replace hm := zz_pos c44 hm
                                refine lv_tableIn (tgt := 182) hx hb dX11_amount_35 (by rw [c44]; decide) (by rw [c44]; decide) (by rw [c44]; rfl) (by decide) ?_
                                refine lv_aload_n hx hb dX11_amount_182 rfl (lv_at hl 0 rfl) ?_
                                refine lv_iload_n hx hb dX11_amount_183 rfl (lv_at hl 1 rfl) ?_
                                obtain ⟨r45, h46, hm⟩ := zz_b1_some hm
                                refine zz_calll (zz_runV (w := wR y a) (As := [.int x1]) (rest := []) ⟨hx, hb, hml, hown, hts⟩ (zX11_paidTill l D y a H.size x1 z13 h46) (cwV 1 hts gX11_amount_X11_paidTill rfl rfl rfl zdX11_paidTill ⟨Nat.le_of_ble_eq_true rfl, Nat.le_of_ble_eq_true rfl⟩) hK hN hg hP hD hS hA 0 (wR_0 y a z13) rfl rfl hl.1 rfl (Nat.le_of_ble_eq_true rfl) dX11_amount_184 ⟨Nat.le_of_ble_eq_true rfl, Nat.le_of_ble_eq_true rfl⟩) hD hS hA (fun H locs hP hD hS => ?_)
                                exact zz_lret hx hb hr hlocks (zz_some2 hm) hP hK hD hS dX11_amount_187
                              · replace hm := zz_neg c44 hm
                                by_cases c47 : x2 = (13 : Int32)
                                · replace hm := zz_pos c47 hm
                                  refine lv_tableIn (tgt := 188) hx hb dX11_amount_35 (by rw [c47]; decide) (by rw [c47]; decide) (by rw [c47]; rfl) (by decide) ?_
                                  refine lv_aload_n hx hb dX11_amount_188 rfl (lv_at hl 0 rfl) ?_
                                  refine lv_iload_n hx hb dX11_amount_189 rfl (lv_at hl 1 rfl) ?_
                                  obtain ⟨r48, h49, hm⟩ := zz_b1_some hm
                                  refine zz_calll (zz_runV (w := wR y a) (As := [.int x1]) (rest := []) ⟨hx, hb, hml, hown, hts⟩ (zX11_damagesIn l D y a H.size x1 z13 h49) (cwV 1 hts gX11_amount_X11_damagesIn rfl rfl rfl zdX11_damagesIn ⟨Nat.le_of_ble_eq_true rfl, Nat.le_of_ble_eq_true rfl⟩) hK hN hg hP hD hS hA 0 (wR_0 y a z13) rfl rfl hl.1 rfl (Nat.le_of_ble_eq_true rfl) dX11_amount_190 ⟨Nat.le_of_ble_eq_true rfl, Nat.le_of_ble_eq_true rfl⟩) hD hS hA (fun H locs hP hD hS => ?_)
                                  exact zz_lret hx hb hr hlocks (zz_some2 hm) hP hK hD hS dX11_amount_193
                                · replace hm := zz_neg c47 hm
                                  refine lv_tableOut (tgt := 194) hx hb dX11_amount_35 (by have ec14 := lv_neT (a := 0) c14 (by decide); have ec17 := lv_neT (a := 1) c17 (by decide); have ec20 := lv_neT (a := 2) c20 (by decide); have ec23 := lv_neT (a := 3) c23 (by decide); have ec26 := lv_neT (a := 4) c26 (by decide); have ec28 := lv_neT (a := 5) c28 (by decide); have ec31 := lv_neT (a := 6) c31 (by decide); have ec33 := lv_neT (a := 7) c33 (by decide); have ec35 := lv_neT (a := 8) c35 (by decide); have ec37 := lv_neT (a := 9) c37 (by decide); have ec39 := lv_neT (a := 10) c39 (by decide); have ec41 := lv_neT (a := 11) c41 (by decide); have ec44 := lv_neT (a := 12) c44 (by decide); have ec47 := lv_neT (a := 13) c47 (by decide); omega) (by decide) ?_
                                  refine lv_aload_n hx hb dX11_amount_194 rfl (lv_at hl 0 rfl) ?_
                                  refine va_get (D := D) (ci := 11) (v := .ref (a 12)) (C := RX11) (T := TX11) (N := 35) hx hb hts nX11_amount_X11 hown hK hP 0 (wR_0 y a z13) rfl 24 (by decide) (hts (.fieldLink RX11 45 "WorksDeskModel" "adjusted" "[J") (List.mem_of_getElem? (i := 9) rfl)) (fun _ h9 => h9) rfl dX11_amount_195 ?_
                                  refine lv_iload_n hx hb dX11_amount_198 rfl (lv_at hl 1 rfl) ?_
                                  obtain ⟨c50, hm⟩ := zz_ck_some hm
                                  refine va_lald hx hb hK hP 12 1 (wR_12 y a z13) rfl c50 dX11_amount_199 ?_
                                  exact zz_lret hx hb hr hlocks (zz_some2 hm) hP hK hD hS dX11_amount_200
    · replace hm := zz_pos c10 hm
      have j := J24 z4 hm
      rw [hG] at j
      exact j H locs ls hP hD hS (lv_sub hl [0] rfl)
def mX11_fault_b13 (z : zz_M) : Option (Unit × zz_M) := some ((), z)
def mX11_fault (x1 : Int32) (z : zz_M) : Option (Unit × zz_M) := if (z.2.2.1 22) = (-1 : Int32) then (zz_nm (zz_sF z 22 x1) (fun z2 => mX11_fault_b13 z2)) else (mX11_fault_b13 z)
theorem nX11_fault_X11 : ∀ w ∈ wsX110, w ∈ wsX11_fault := fun _ h => List.mem_cons_of_mem _ (List.mem_append_right _ (h))
theorem zdX11_fault : yX11_fault.cls = RX11 ∧ yX11_fault.cls ≠ "java/lang/invoke/MethodHandle" ∧ yX11_fault.cls ≠ "java/lang/invoke/VarHandle" ∧ (parseMethodDescriptor yX11_fault.desc).map (fun d => d.parameters.length) = some 1 := by decide +kernel
set_option maxHeartbeats 4000000 in
set_option maxRecDepth 100000 in
theorem zX11_fault (l : Launch) (D : va_G) (y : Nat → ClassId) (a : Nat → Nat) (sz : Nat) (x1 : Int32) (z : zz_M) {r : Unit} {zt : zz_M} (hm : mX11_fault x1 z = some (r, zt)) : Met l yX11_fault wsX11_fault { frames := 0, cells := 0, slots := 0, locals := 0 } (zz_Pc D y (wR y a z) sz [.ref (a 0), .int x1]) (zz_Qv D y (wR y a) (va_A (wR y a z) sz) zt) 0 0 (va_A (wR y a z) sz) := by
  refine Met.ofW (cc := cX11_fault) (maxL := 2) (ret := none) (by decide) rfl ?_
  intro p e s m args below meth c s₁ B hml hv
  obtain ⟨rfl, hsz, hP, hK, hD0, hN, hg⟩ := hv
  have hx := B.exec
  have hb := B.bytes
  have hr := B.returns
  have hts := atoms_spec (ws := wsX11_fault) B.pre
  have hown : s.vm.findClass RX11 = some m.cls := findClass_of_methodNamed B.named
  have hlocks := B.notSynchronized
  clear B
  subst hsz
  have hD := hD0.self (sz := s.heap.size)
  generalize hAe : va_A (wR y a z) s.heap.size = A at hD hg ⊢
  have hA : ∀ q : Nat, s.heap.size ≤ q → A q := fun q h => by rw [← hAe]; exact Or.inr h
  clear hAe hD0
  have hl := lv_entry ([.ref (a 0), .int x1]) (n := 2) (Nat.le_of_ble_eq_true rfl)
  rw [lg_entry_eq]
  generalize (lg_sl ([.ref (a 0), .int x1]) ++ List.replicate (2 - (lg_sl ([.ref (a 0), .int x1])).length) Slot.unset).toArray = ls at hl ⊢
  replace hl : lv_has ls 2 [(0, .ref (a 0)), (1, .int x1)] := hl
  refine zz_go (w := wR y a) hP hD va_S.rf hl (fun G hG => ?_)
  clear hP hD hl ls
  have J13 : ∀ (z : zz_M), mX11_fault_b13 z = some (r, zt) → G 13 [] [] z := by
    intro z hm
    rw [mX11_fault_b13] at hm
    rw [hG]
    intro H locs ls hP hD hS hl
    exact zz_vret hx hb hr hlocks (zz_some2 hm).2 hP hK hD hS dX11_fault_13
  rw [hG]
  intro H locs ls hP hD hS hl
  unfold mX11_fault at hm
  refine lv_aload_n hx hb dX11_fault_0 rfl (lv_at hl 0 rfl) ?_
  refine va_get (D := D) (ci := 11) (v := .int (z.2.2.1 22)) (C := RX11) (T := TX11) (N := 35) hx hb hts nX11_fault_X11 hown hK hP 0 (wR_0 y a z) rfl 22 (by decide) (hts (.fieldLink RX11 118 "WorksDeskModel" "wrong" "I") (List.mem_of_getElem? (i := 1) rfl)) (fun _ h9 => h9) rfl dX11_fault_1 ?_
  refine lv_iconst (v := (-1 : Int32)) hx hb dX11_fault_4 (by decide) ?_
  refine lv_icmp_ne (tgt := 13) hx hb dX11_fault_5 (by decide) (fun c1 => ?_) (fun c1 => ?_)
  · replace hm := zz_neg c1 hm
    have j := J13 z hm
    rw [hG] at j
    exact j H locs ls hP hD hS (lv_sub hl [] rfl)
  · replace hm := zz_pos c1 hm
    refine lv_aload_n hx hb dX11_fault_8 rfl (lv_at hl 0 rfl) ?_
    refine lv_iload_n hx hb dX11_fault_9 rfl (lv_at hl 1 rfl) ?_
    refine va_put (D := D) (ci := 11) (v := .int x1) (ty := .int) (C := RX11) (T := TX11) (N := 35) hx hb hts nX11_fault_X11 tyX11 tyX11_ok nmX11 hown hK hP hD hS 0 (wR_0 y a z) rfl 22 (by decide) (hts (.fieldLink RX11 118 "WorksDeskModel" "wrong" "I") (List.mem_of_getElem? (i := 1) rfl)) (fun _ h9 => h9) rfl (tyX11_ok 22 (by decide)) rfl rfl (Nat.le_of_ble_eq_true rfl) dX11_fault_10 (fun H locs hP hD hS => ?_)
    obtain ⟨z2, hP, hD, hm⟩ := zz_up (w := wR y a) (wR_f22 y a z x1) hP hD hm
    have j := J13 z2 hm
    rw [hG] at j
    exact j H locs ls hP hD hS (lv_sub hl [] rfl)
def mX11_here_b28 (z : zz_M) (t0 : Int32) : Option Int32 := some t0
def mX11_here (z : zz_M) : Option Int32 := if (z.2.2.1 20) ≤ (z.2.2.1 21) then (mX11_here_b28 z (-1 : Int32)) else (zz_ck (zz_in (z.2.2.1 21) 120) (mX11_here_b28 z ((z.1 9 (z.2.2.1 21).toNatClampNeg) &&& (255 : Int32))))
theorem nX11_here_X11 : ∀ w ∈ wsX110, w ∈ wsX11_here := fun _ h => List.mem_cons_of_mem _ (List.mem_append_right _ (h))
theorem zdX11_here : yX11_here.cls = RX11 ∧ yX11_here.cls ≠ "java/lang/invoke/MethodHandle" ∧ yX11_here.cls ≠ "java/lang/invoke/VarHandle" ∧ (parseMethodDescriptor yX11_here.desc).map (fun d => d.parameters.length) = some 0 := by decide +kernel
set_option maxHeartbeats 4000000 in
set_option maxRecDepth 100000 in
theorem zX11_here (l : Launch) (D : va_G) (y : Nat → ClassId) (a : Nat → Nat) (sz : Nat) (z : zz_M) {r : Int32} (hm : mX11_here z = some r) : Met l yX11_here wsX11_here { frames := 0, cells := 0, slots := 0, locals := 0 } (zz_Pc D y (wR y a z) sz [.ref (a 0)]) (zz_Qi D y (wR y a) (va_A (wR y a z) sz) r z) 0 0 (va_A (wR y a z) sz) := by
  refine Met.ofW (cc := cX11_here) (maxL := 1) (ret := (some .int)) (by decide) rfl ?_
  intro p e s m args below meth c s₁ B hml hv
  obtain ⟨rfl, hsz, hP, hK, hD0, hN, hg⟩ := hv
  have hx := B.exec
  have hb := B.bytes
  have hr := B.returns
  have hts := atoms_spec (ws := wsX11_here) B.pre
  have hown : s.vm.findClass RX11 = some m.cls := findClass_of_methodNamed B.named
  have hlocks := B.notSynchronized
  clear B
  subst hsz
  have hD := hD0.self (sz := s.heap.size)
  generalize hAe : va_A (wR y a z) s.heap.size = A at hD hg ⊢
  have hA : ∀ q : Nat, s.heap.size ≤ q → A q := fun q h => by rw [← hAe]; exact Or.inr h
  clear hAe hD0
  have hl := lv_entry ([.ref (a 0)]) (n := 1) (Nat.le_of_ble_eq_true rfl)
  rw [lg_entry_eq]
  generalize (lg_sl ([.ref (a 0)]) ++ List.replicate (1 - (lg_sl ([.ref (a 0)])).length) Slot.unset).toArray = ls at hl ⊢
  replace hl : lv_has ls 1 [(0, .ref (a 0))] := hl
  refine zz_go (w := wR y a) hP hD va_S.rf hl (fun G hG => ?_)
  clear hP hD hl ls
  have J28 : ∀ (t0 : Int32), mX11_here_b28 z t0 = some r → G 28 [] [.int t0] z := by
    intro t0 hm
    rw [mX11_here_b28] at hm
    rw [hG]
    intro H locs ls hP hD hS hl
    exact zz_iret hx hb hr hlocks ⟨zz_some1 hm, rfl⟩ hP hK hD hS dX11_here_28
  rw [hG]
  intro H locs ls hP hD hS hl
  unfold mX11_here at hm
  refine lv_aload_n hx hb dX11_here_0 rfl (lv_at hl 0 rfl) ?_
  refine va_get (D := D) (ci := 11) (v := .int (z.2.2.1 21)) (C := RX11) (T := TX11) (N := 35) hx hb hts nX11_here_X11 hown hK hP 0 (wR_0 y a z) rfl 21 (by decide) (hts (.fieldLink RX11 112 "WorksDeskModel" "at" "I") (List.mem_of_getElem? (i := 1) rfl)) (fun _ h9 => h9) rfl dX11_here_1 ?_
  refine lv_aload_n hx hb dX11_here_4 rfl (lv_at hl 0 rfl) ?_
  refine va_get (D := D) (ci := 11) (v := .int (z.2.2.1 20)) (C := RX11) (T := TX11) (N := 35) hx hb hts nX11_here_X11 hown hK hP 0 (wR_0 y a z) rfl 20 (by decide) (hts (.fieldLink RX11 115 "WorksDeskModel" "length" "I") (List.mem_of_getElem? (i := 2) rfl)) (fun _ h9 => h9) rfl dX11_here_5 ?_
  refine lv_icmp_ge (tgt := 27) hx hb dX11_here_8 (by decide) (fun c1 => ?_) (fun c1 => ?_)
  · replace hm := zz_pos c1 hm
    refine lv_iconst (v := (-1 : Int32)) hx hb dX11_here_27 (by decide) ?_
    have j := J28 (-1 : Int32) hm
    rw [hG] at j
    exact j H locs ls hP hD hS (lv_sub hl [] rfl)
  · replace hm := zz_neg c1 hm
    refine lv_aload_n hx hb dX11_here_11 rfl (lv_at hl 0 rfl) ?_
    refine va_get (D := D) (ci := 11) (v := .ref (a 9)) (C := RX11) (T := TX11) (N := 35) hx hb hts nX11_here_X11 hown hK hP 0 (wR_0 y a z) rfl 15 (by decide) (hts (.fieldLink RX11 34 "WorksDeskModel" "text" "[B") (List.mem_of_getElem? (i := 3) rfl)) (fun _ h9 => h9) rfl dX11_here_12 ?_
    refine lv_aload_n hx hb dX11_here_15 rfl (lv_at hl 0 rfl) ?_
    refine va_get (D := D) (ci := 11) (v := .int (z.2.2.1 21)) (C := RX11) (T := TX11) (N := 35) hx hb hts nX11_here_X11 hown hK hP 0 (wR_0 y a z) rfl 21 (by decide) (hts (.fieldLink RX11 112 "WorksDeskModel" "at" "I") (List.mem_of_getElem? (i := 1) rfl)) (fun _ h9 => h9) rfl dX11_here_16 ?_
    obtain ⟨c2, hm⟩ := zz_ck_some hm
    refine va_bald hx hb hK hP 9 2 (wR_9 y a z) rfl c2 dX11_here_19 ?_
    refine lv_sipush (v := (255 : Int32)) hx hb dX11_here_20 (by decide) ?_
    refine lv_iand hx hb dX11_here_23 ?_
    refine lv_goto (tgt := 28) hx hb dX11_here_24 (by decide) ?_
    have j := J28 ((z.1 9 (z.2.2.1 21).toNatClampNeg) &&& (255 : Int32)) hm
    rw [hG] at j
    exact j H locs ls hP hD hS (lv_sub hl [] rfl)
def mX11_expect_b25 (z : zz_M) : Option (Unit × zz_M) := zz_nm (zz_sF z 21 ((z.2.2.1 21) + (1 : Int32))) (fun z1 => some ((), z1))
def mX11_expect (x1 : Int32) (z : zz_M) : Option (Unit × zz_M) := if (z.2.2.1 22) = (-1 : Int32) then (zz_b1 (mX11_here z) (fun r3 => if r3 = x1 then (mX11_expect_b25 z) else (zz_b2 (mX11_fault (z.2.2.1 21) z) (fun r6 z8 => mX11_expect_b25 z8)))) else (some ((), z))
theorem nX11_expect_X11 : ∀ w ∈ wsX110, w ∈ wsX11_expect := fun _ h => List.mem_cons_of_mem _ (List.mem_append_right _ (h))
theorem zdX11_expect : yX11_expect.cls = RX11 ∧ yX11_expect.cls ≠ "java/lang/invoke/MethodHandle" ∧ yX11_expect.cls ≠ "java/lang/invoke/VarHandle" ∧ (parseMethodDescriptor yX11_expect.desc).map (fun d => d.parameters.length) = some 1 := by decide +kernel
set_option maxHeartbeats 4000000 in
set_option maxRecDepth 100000 in
theorem zX11_expect (l : Launch) (D : va_G) (y : Nat → ClassId) (a : Nat → Nat) (sz : Nat) (x1 : Int32) (z : zz_M) {r : Unit} {zt : zz_M} (hm : mX11_expect x1 z = some (r, zt)) : Met l yX11_expect wsX11_expect { frames := 1, cells := 0, slots := 0, locals := 21 } (zz_Pc D y (wR y a z) sz [.ref (a 0), .int x1]) (zz_Qv D y (wR y a) (va_A (wR y a z) sz) zt) 0 0 (va_A (wR y a z) sz) := by
  refine Met.ofW (cc := cX11_expect) (maxL := 2) (ret := none) (by decide) rfl ?_
  intro p e s m args below meth c s₁ B hml hv
  obtain ⟨rfl, hsz, hP, hK, hD0, hN, hg⟩ := hv
  have hx := B.exec
  have hb := B.bytes
  have hr := B.returns
  have hts := atoms_spec (ws := wsX11_expect) B.pre
  have hown : s.vm.findClass RX11 = some m.cls := findClass_of_methodNamed B.named
  have hlocks := B.notSynchronized
  clear B
  subst hsz
  have hD := hD0.self (sz := s.heap.size)
  generalize hAe : va_A (wR y a z) s.heap.size = A at hD hg ⊢
  have hA : ∀ q : Nat, s.heap.size ≤ q → A q := fun q h => by rw [← hAe]; exact Or.inr h
  clear hAe hD0
  have hl := lv_entry ([.ref (a 0), .int x1]) (n := 2) (Nat.le_of_ble_eq_true rfl)
  rw [lg_entry_eq]
  generalize (lg_sl ([.ref (a 0), .int x1]) ++ List.replicate (2 - (lg_sl ([.ref (a 0), .int x1])).length) Slot.unset).toArray = ls at hl ⊢
  replace hl : lv_has ls 2 [(0, .ref (a 0)), (1, .int x1)] := hl
  refine zz_go (w := wR y a) hP hD va_S.rf hl (fun G hG => ?_)
  clear hP hD hl ls
  have J25 : ∀ (z : zz_M), mX11_expect_b25 z = some (r, zt) → G 25 [(0, .ref (a 0))] [] z := by
    intro z hm
    rw [mX11_expect_b25] at hm
    rw [hG]
    intro H locs ls hP hD hS hl
    refine lv_aload_n hx hb dX11_expect_25 rfl (lv_at hl 0 rfl) ?_
    refine lv_dup hx hb dX11_expect_26 rfl ?_
    refine va_get (D := D) (ci := 11) (v := .int (z.2.2.1 21)) (C := RX11) (T := TX11) (N := 35) hx hb hts nX11_expect_X11 hown hK hP 0 (wR_0 y a z) rfl 21 (by decide) (hts (.fieldLink RX11 112 "WorksDeskModel" "at" "I") (List.mem_of_getElem? (i := 2) rfl)) (fun _ h9 => h9) rfl dX11_expect_27 ?_
    refine lv_iconst (v := (1 : Int32)) hx hb dX11_expect_30 (by decide) ?_
    refine lv_iadd hx hb dX11_expect_31 ?_
    refine va_put (D := D) (ci := 11) (v := .int ((z.2.2.1 21) + (1 : Int32))) (ty := .int) (C := RX11) (T := TX11) (N := 35) hx hb hts nX11_expect_X11 tyX11 tyX11_ok nmX11 hown hK hP hD hS 0 (wR_0 y a z) rfl 21 (by decide) (hts (.fieldLink RX11 112 "WorksDeskModel" "at" "I") (List.mem_of_getElem? (i := 2) rfl)) (fun _ h9 => h9) rfl (tyX11_ok 21 (by decide)) rfl rfl (Nat.le_of_ble_eq_true rfl) dX11_expect_32 (fun H locs hP hD hS => ?_)
    obtain ⟨z1, hP, hD, hm⟩ := zz_up (w := wR y a) (wR_f21 y a z ((z.2.2.1 21) + (1 : Int32))) hP hD hm
    exact zz_vret hx hb hr hlocks (zz_some2 hm).2 hP hK hD hS dX11_expect_35
  rw [hG]
  intro H locs ls hP hD hS hl
  unfold mX11_expect at hm
  refine lv_aload_n hx hb dX11_expect_0 rfl (lv_at hl 0 rfl) ?_
  refine va_get (D := D) (ci := 11) (v := .int (z.2.2.1 22)) (C := RX11) (T := TX11) (N := 35) hx hb hts nX11_expect_X11 hown hK hP 0 (wR_0 y a z) rfl 22 (by decide) (hts (.fieldLink RX11 118 "WorksDeskModel" "wrong" "I") (List.mem_of_getElem? (i := 1) rfl)) (fun _ h9 => h9) rfl dX11_expect_1 ?_
  refine lv_iconst (v := (-1 : Int32)) hx hb dX11_expect_4 (by decide) ?_
  refine lv_icmp_eq (tgt := 9) hx hb dX11_expect_5 (by decide) (fun c2 => ?_) (fun c2 => ?_)
  · replace hm := zz_pos c2 hm
    refine lv_aload_n hx hb dX11_expect_9 rfl (lv_at hl 0 rfl) ?_
    obtain ⟨r3, h4, hm⟩ := zz_b1_some hm
    refine zz_calli (zz_runV (w := wR y a) (As := []) (rest := []) ⟨hx, hb, hml, hown, hts⟩ (zX11_here l D y a H.size z h4) (cwV 0 hts gX11_expect_X11_here rfl rfl rfl zdX11_here ⟨Nat.le_of_ble_eq_true rfl, Nat.le_of_ble_eq_true rfl⟩) hK hN hg hP hD hS hA 0 (wR_0 y a z) rfl rfl hl.1 rfl (Nat.le_of_ble_eq_true rfl) dX11_expect_10 ⟨Nat.le_of_ble_eq_true rfl, Nat.le_of_ble_eq_true rfl⟩) hD hS hA (fun H locs hP hD hS => ?_)
    refine lv_iload_n hx hb dX11_expect_13 rfl (lv_at hl 1 rfl) ?_
    refine lv_icmp_eq (tgt := 25) hx hb dX11_expect_14 (by decide) (fun c5 => ?_) (fun c5 => ?_)
    · replace hm := zz_pos c5 hm
      have j := J25 z hm
      rw [hG] at j
      exact j H locs ls hP hD hS (lv_sub hl [0] rfl)
    · replace hm := zz_neg c5 hm
      refine lv_aload_n hx hb dX11_expect_17 rfl (lv_at hl 0 rfl) ?_
      refine lv_aload_n hx hb dX11_expect_18 rfl (lv_at hl 0 rfl) ?_
      refine va_get (D := D) (ci := 11) (v := .int (z.2.2.1 21)) (C := RX11) (T := TX11) (N := 35) hx hb hts nX11_expect_X11 hown hK hP 0 (wR_0 y a z) rfl 21 (by decide) (hts (.fieldLink RX11 112 "WorksDeskModel" "at" "I") (List.mem_of_getElem? (i := 2) rfl)) (fun _ h9 => h9) rfl dX11_expect_19 ?_
      obtain ⟨r6, z8, h7, hm⟩ := zz_b2_some hm
      refine zz_callv (zz_runV (w := wR y a) (As := [.int (z.2.2.1 21)]) (rest := []) ⟨hx, hb, hml, hown, hts⟩ (zX11_fault l D y a H.size (z.2.2.1 21) z h7) (cwV 1 hts gX11_expect_X11_fault rfl rfl rfl zdX11_fault ⟨Nat.le_of_ble_eq_true rfl, Nat.le_of_ble_eq_true rfl⟩) hK hN hg hP hD hS hA 0 (wR_0 y a z) rfl rfl hl.1 rfl (Nat.le_of_ble_eq_true rfl) dX11_expect_22 ⟨Nat.le_of_ble_eq_true rfl, Nat.le_of_ble_eq_true rfl⟩) hD hS hA (fun H locs hP hD hS => ?_)
      have j := J25 z8 hm
      rw [hG] at j
      exact j H locs ls hP hD hS (lv_sub hl [0] rfl)
  · replace hm := zz_neg c2 hm
    exact zz_vret hx hb hr hlocks (zz_some2 hm).2 hP hK hD hS dX11_expect_8
def mX11_forget_b66 : Nat → Int32 → zz_M → Option (Unit × zz_M)
  | 0, _, _ => none
  | n + 1, v1, z => if (24 : Int32) ≤ v1 then (some ((), z)) else (zz_ck (zz_in v1 24) (zz_nm (zz_wI z 4 v1 (-9999 : Int32)) (fun z3 => zz_ck (zz_in v1 24) (zz_nm (zz_wI z3 7 v1 (-9999 : Int32)) (fun z5 => zz_ck (zz_in v1 24) (zz_nm (zz_wI z5 8 v1 (0 : Int32)) (fun z7 => zz_nm (v1 + (1 : Int32)) (fun n8 => (mX11_forget_b66 n) n8 z7))))))))
def mX11_forget_b40 : Nat → Int32 → zz_M → Option (Unit × zz_M)
  | 0, _, _ => none
  | n + 1, v1, z => if (240 : Int32) ≤ v1 then (mX11_forget_b66 zz_N (0 : Int32) z) else (zz_ck (zz_in v1 240) (zz_nm (zz_wI z 3 v1 (-9999 : Int32)) (fun z11 => zz_nm (v1 + (1 : Int32)) (fun n12 => (mX11_forget_b40 n) n12 z11))))
def mX11_forget (z : zz_M) : Option (Unit × zz_M) := zz_nm (zz_sF z 2 (0 : Int32)) (fun z13 => zz_nm (zz_sF z13 6 (0 : Int32)) (fun z14 => zz_nm (zz_sF z14 8 (0 : Int32)) (fun z15 => zz_nm (zz_sF z15 9 (24 : Int32)) (fun z16 => zz_nm (zz_sF z16 10 (24 : Int32)) (fun z17 => zz_nm (zz_sF z17 11 (24 : Int32)) (fun z18 => zz_nm (zz_sF z18 12 (0 : Int32)) (fun z19 => mX11_forget_b40 zz_N (0 : Int32) z19)))))))
theorem nX11_forget_X11 : ∀ w ∈ wsX110, w ∈ wsX11_forget := fun _ h => List.mem_cons_of_mem _ (List.mem_append_right _ (h))
theorem zdX11_forget : yX11_forget.cls = RX11 ∧ yX11_forget.cls ≠ "java/lang/invoke/MethodHandle" ∧ yX11_forget.cls ≠ "java/lang/invoke/VarHandle" ∧ (parseMethodDescriptor yX11_forget.desc).map (fun d => d.parameters.length) = some 0 := by decide +kernel
set_option maxHeartbeats 4000000 in
set_option maxRecDepth 100000 in
theorem zX11_forget (l : Launch) (D : va_G) (y : Nat → ClassId) (a : Nat → Nat) (sz : Nat) (z : zz_M) {r : Unit} {zt : zz_M} (hm : mX11_forget z = some (r, zt)) : Met l yX11_forget wsX11_forget { frames := 0, cells := 0, slots := 0, locals := 0 } (zz_Pc D y (wR y a z) sz [.ref (a 0)]) (zz_Qv D y (wR y a) (va_A (wR y a z) sz) zt) 0 0 (va_A (wR y a z) sz) := by
  refine Met.ofW (cc := cX11_forget) (maxL := 2) (ret := none) (by decide) rfl ?_
  intro p e s m args below meth c s₁ B hml hv
  obtain ⟨rfl, hsz, hP, hK, hD0, hN, hg⟩ := hv
  have hx := B.exec
  have hb := B.bytes
  have hr := B.returns
  have hts := atoms_spec (ws := wsX11_forget) B.pre
  have hown : s.vm.findClass RX11 = some m.cls := findClass_of_methodNamed B.named
  have hlocks := B.notSynchronized
  clear B
  subst hsz
  have hD := hD0.self (sz := s.heap.size)
  generalize hAe : va_A (wR y a z) s.heap.size = A at hD hg ⊢
  have hA : ∀ q : Nat, s.heap.size ≤ q → A q := fun q h => by rw [← hAe]; exact Or.inr h
  clear hAe hD0
  have hl := lv_entry ([.ref (a 0)]) (n := 2) (Nat.le_of_ble_eq_true rfl)
  rw [lg_entry_eq]
  generalize (lg_sl ([.ref (a 0)]) ++ List.replicate (2 - (lg_sl ([.ref (a 0)])).length) Slot.unset).toArray = ls at hl ⊢
  replace hl : lv_has ls 2 [(0, .ref (a 0))] := hl
  refine zz_go (w := wR y a) hP hD va_S.rf hl (fun G hG => ?_)
  clear hP hD hl ls
  have J66 : ∀ (n : Nat) (v1 : Int32) (z : zz_M), mX11_forget_b66 n v1 z = some (r, zt) → G 66 [(0, .ref (a 0)), (1, .int v1)] [] z := by
    intro n
    induction n with
    | zero =>
      intro v1 z hm
      exact zz_none hm
    | succ n ih =>
      intro v1 z hm
      rw [mX11_forget_b66] at hm
      rw [hG]
      intro H locs ls hP hD hS hl
      refine lv_iload_n hx hb dX11_forget_66 rfl (lv_at hl 1 rfl) ?_
      refine lv_bipush (v := (24 : Int32)) hx hb dX11_forget_67 (by decide) ?_
      refine lv_icmp_ge (tgt := 103) hx hb dX11_forget_69 (by decide) (fun c1 => ?_) (fun c1 => ?_)
      · replace hm := zz_pos c1 hm
        exact zz_vret hx hb hr hlocks (zz_some2 hm).2 hP hK hD hS dX11_forget_103
      · replace hm := zz_neg c1 hm
        refine lv_aload_n hx hb dX11_forget_72 rfl (lv_at hl 0 rfl) ?_
        refine va_get (D := D) (ci := 11) (v := .ref (a 4)) (C := RX11) (T := TX11) (N := 35) hx hb hts nX11_forget_X11 hown hK hP 0 (wR_0 y a z) rfl 4 (by decide) (hts (.fieldLink RX11 19 "WorksDeskModel" "stored" "[I") (List.mem_of_getElem? (i := 9) rfl)) (fun _ h9 => h9) rfl dX11_forget_73 ?_
        refine lv_iload_n hx hb dX11_forget_76 rfl (lv_at hl 1 rfl) ?_
        refine lv_sipush (v := (-9999 : Int32)) hx hb dX11_forget_77 (by decide) ?_
        obtain ⟨c2, hm⟩ := zz_ck_some hm
        refine va_iast hx hb hK hP hD hS 4 0 (wR_4 y a z) rfl c2 dX11_forget_80 (fun H locs hP hD hS => ?_)
        obtain ⟨z3, hP, hD, hm⟩ := zz_up (w := wR y a) (wR_w4 y a z v1 (-9999 : Int32)) hP hD hm
        refine lv_aload_n hx hb dX11_forget_81 rfl (lv_at hl 0 rfl) ?_
        refine va_get (D := D) (ci := 11) (v := .ref (a 7)) (C := RX11) (T := TX11) (N := 35) hx hb hts nX11_forget_X11 hown hK hP 0 (wR_0 y a z3) rfl 13 (by decide) (hts (.fieldLink RX11 28 "WorksDeskModel" "index" "[I") (List.mem_of_getElem? (i := 10) rfl)) (fun _ h9 => h9) rfl dX11_forget_82 ?_
        refine lv_iload_n hx hb dX11_forget_85 rfl (lv_at hl 1 rfl) ?_
        refine lv_sipush (v := (-9999 : Int32)) hx hb dX11_forget_86 (by decide) ?_
        obtain ⟨c4, hm⟩ := zz_ck_some hm
        refine va_iast hx hb hK hP hD hS 7 0 (wR_7 y a z3) rfl c4 dX11_forget_89 (fun H locs hP hD hS => ?_)
        obtain ⟨z5, hP, hD, hm⟩ := zz_up (w := wR y a) (wR_w7 y a z3 v1 (-9999 : Int32)) hP hD hm
        refine lv_aload_n hx hb dX11_forget_90 rfl (lv_at hl 0 rfl) ?_
        refine va_get (D := D) (ci := 11) (v := .ref (a 8)) (C := RX11) (T := TX11) (N := 35) hx hb hts nX11_forget_X11 hown hK hP 0 (wR_0 y a z5) rfl 14 (by decide) (hts (.fieldLink RX11 31 "WorksDeskModel" "paid" "[I") (List.mem_of_getElem? (i := 11) rfl)) (fun _ h9 => h9) rfl dX11_forget_91 ?_
        refine lv_iload_n hx hb dX11_forget_94 rfl (lv_at hl 1 rfl) ?_
        refine lv_iconst (v := (0 : Int32)) hx hb dX11_forget_95 (by decide) ?_
        obtain ⟨c6, hm⟩ := zz_ck_some hm
        refine va_iast hx hb hK hP hD hS 8 0 (wR_8 y a z5) rfl c6 dX11_forget_96 (fun H locs hP hD hS => ?_)
        obtain ⟨z7, hP, hD, hm⟩ := zz_up (w := wR y a) (wR_w8 y a z5 v1 (0 : Int32)) hP hD hm
        obtain ⟨n8, en8⟩ : ∃ q : Int32, q = v1 + (1 : Int32) := ⟨_, rfl⟩
        replace hm := zz_nm_some en8 hm
        refine lv_iinc (v := n8) (lv' := [(1, .int n8), (0, .ref (a 0))]) hx hb dX11_forget_97 hl (k := 1) rfl (by rw [en8]; rfl) (by decide) rfl (fun ls hl => ?_)
        refine lv_goto (tgt := 66) hx hb dX11_forget_100 (by decide) ?_
        have j := ih n8 z7 hm
        rw [hG] at j
        exact j H locs ls hP hD hS (lv_sub hl [1, 0] rfl)
  have J40 : ∀ (n : Nat) (v1 : Int32) (z : zz_M), mX11_forget_b40 n v1 z = some (r, zt) → G 40 [(0, .ref (a 0)), (1, .int v1)] [] z := by
    intro n
    induction n with
    | zero =>
      intro v1 z hm
      exact zz_none hm
    | succ n ih =>
      intro v1 z hm
      rw [mX11_forget_b40] at hm
      rw [hG]
      intro H locs ls hP hD hS hl
      refine lv_iload_n hx hb dX11_forget_40 rfl (lv_at hl 1 rfl) ?_
      refine lv_aload_n hx hb dX11_forget_41 rfl (lv_at hl 0 rfl) ?_
      refine va_get (D := D) (ci := 11) (v := .ref (a 3)) (C := RX11) (T := TX11) (N := 35) hx hb hts nX11_forget_X11 hown hK hP 0 (wR_0 y a z) rfl 3 (by decide) (hts (.fieldLink RX11 16 "WorksDeskModel" "measured" "[I") (List.mem_of_getElem? (i := 8) rfl)) (fun _ h9 => h9) rfl dX11_forget_42 ?_
      refine va_alen (v := (240 : Int32)) hx hb hK hP 3 0 (wR_3 y a z) rfl rfl dX11_forget_45 ?_
      refine lv_icmp_ge (tgt := 64) hx hb dX11_forget_46 (by decide) (fun c9 => ?_) (fun c9 => ?_)
      · replace hm := zz_pos c9 hm
        refine lv_iconst (v := (0 : Int32)) hx hb dX11_forget_64 (by decide) ?_
        refine lv_istore_n (lv' := [(1, .int (0 : Int32)), (0, .ref (a 0))]) hx hb dX11_forget_65 rfl hl (by decide) rfl (fun ls hl => ?_)
        have j := J66 zz_N (0 : Int32) z hm
        rw [hG] at j
        exact j H locs ls hP hD hS (lv_sub hl [1, 0] rfl)
      · replace hm := zz_neg c9 hm
        refine lv_aload_n hx hb dX11_forget_49 rfl (lv_at hl 0 rfl) ?_
        refine va_get (D := D) (ci := 11) (v := .ref (a 3)) (C := RX11) (T := TX11) (N := 35) hx hb hts nX11_forget_X11 hown hK hP 0 (wR_0 y a z) rfl 3 (by decide) (hts (.fieldLink RX11 16 "WorksDeskModel" "measured" "[I") (List.mem_of_getElem? (i := 8) rfl)) (fun _ h9 => h9) rfl dX11_forget_50 ?_
        refine lv_iload_n hx hb dX11_forget_53 rfl (lv_at hl 1 rfl) ?_
        refine lv_sipush (v := (-9999 : Int32)) hx hb dX11_forget_54 (by decide) ?_
        obtain ⟨c10, hm⟩ := zz_ck_some hm
        refine va_iast hx hb hK hP hD hS 3 0 (wR_3 y a z) rfl c10 dX11_forget_57 (fun H locs hP hD hS => ?_)
        obtain ⟨z11, hP, hD, hm⟩ := zz_up (w := wR y a) (wR_w3 y a z v1 (-9999 : Int32)) hP hD hm
        obtain ⟨n12, en12⟩ : ∃ q : Int32, q = v1 + (1 : Int32) := ⟨_, rfl⟩
        replace hm := zz_nm_some en12 hm
        refine lv_iinc (v := n12) (lv' := [(1, .int n12), (0, .ref (a 0))]) hx hb dX11_forget_58 hl (k := 1) rfl (by rw [en12]; rfl) (by decide) rfl (fun ls hl => ?_)
        refine lv_goto (tgt := 40) hx hb dX11_forget_61 (by decide) ?_
        have j := ih n12 z11 hm
        rw [hG] at j
        exact j H locs ls hP hD hS (lv_sub hl [1, 0] rfl)
  rw [hG]
  intro H locs ls hP hD hS hl
  unfold mX11_forget at hm
  refine lv_aload_n hx hb dX11_forget_0 rfl (lv_at hl 0 rfl) ?_
  refine lv_iconst (v := (0 : Int32)) hx hb dX11_forget_1 (by decide) ?_
  refine va_put (D := D) (ci := 11) (v := .int (0 : Int32)) (ty := .int) (C := RX11) (T := TX11) (N := 35) hx hb hts nX11_forget_X11 tyX11 tyX11_ok nmX11 hown hK hP hD hS 0 (wR_0 y a z) rfl 2 (by decide) (hts (.fieldLink RX11 75 "WorksDeskModel" "itemMany" "I") (List.mem_of_getElem? (i := 1) rfl)) (fun _ h9 => h9) rfl (tyX11_ok 2 (by decide)) rfl rfl (Nat.le_of_ble_eq_true rfl) dX11_forget_2 (fun H locs hP hD hS => ?_)
  obtain ⟨z13, hP, hD, hm⟩ := zz_up (w := wR y a) (wR_f2 y a z (0 : Int32)) hP hD hm
  refine lv_aload_n hx hb dX11_forget_5 rfl (lv_at hl 0 rfl) ?_
  refine lv_iconst (v := (0 : Int32)) hx hb dX11_forget_6 (by decide) ?_
  refine va_put (D := D) (ci := 11) (v := .int (0 : Int32)) (ty := .int) (C := RX11) (T := TX11) (N := 35) hx hb hts nX11_forget_X11 tyX11 tyX11_ok nmX11 hown hK hP hD hS 0 (wR_0 y a z13) rfl 6 (by decide) (hts (.fieldLink RX11 79 "WorksDeskModel" "changeMany" "I") (List.mem_of_getElem? (i := 2) rfl)) (fun _ h9 => h9) rfl (tyX11_ok 6 (by decide)) rfl rfl (Nat.le_of_ble_eq_true rfl) dX11_forget_7 (fun H locs hP hD hS => ?_)
  obtain ⟨z14, hP, hD, hm⟩ := zz_up (w := wR y a) (wR_f6 y a z13 (0 : Int32)) hP hD hm
  refine lv_aload_n hx hb dX11_forget_10 rfl (lv_at hl 0 rfl) ?_
  refine lv_iconst (v := (0 : Int32)) hx hb dX11_forget_11 (by decide) ?_
  refine va_put (D := D) (ci := 11) (v := .int (0 : Int32)) (ty := .int) (C := RX11) (T := TX11) (N := 35) hx hb hts nX11_forget_X11 tyX11 tyX11_ok nmX11 hown hK hP hD hS 0 (wR_0 y a z14) rfl 8 (by decide) (hts (.fieldLink RX11 82 "WorksDeskModel" "setMany" "I") (List.mem_of_getElem? (i := 3) rfl)) (fun _ h9 => h9) rfl (tyX11_ok 8 (by decide)) rfl rfl (Nat.le_of_ble_eq_true rfl) dX11_forget_12 (fun H locs hP hD hS => ?_)
  obtain ⟨z15, hP, hD, hm⟩ := zz_up (w := wR y a) (wR_f8 y a z14 (0 : Int32)) hP hD hm
  refine lv_aload_n hx hb dX11_forget_15 rfl (lv_at hl 0 rfl) ?_
  refine lv_bipush (v := (24 : Int32)) hx hb dX11_forget_16 (by decide) ?_
  refine va_put (D := D) (ci := 11) (v := .int (24 : Int32)) (ty := .int) (C := RX11) (T := TX11) (N := 35) hx hb hts nX11_forget_X11 tyX11 tyX11_ok nmX11 hown hK hP hD hS 0 (wR_0 y a z15) rfl 9 (by decide) (hts (.fieldLink RX11 85 "WorksDeskModel" "handover" "I") (List.mem_of_getElem? (i := 4) rfl)) (fun _ h9 => h9) rfl (tyX11_ok 9 (by decide)) rfl rfl (Nat.le_of_ble_eq_true rfl) dX11_forget_18 (fun H locs hP hD hS => ?_)
  obtain ⟨z16, hP, hD, hm⟩ := zz_up (w := wR y a) (wR_f9 y a z15 (24 : Int32)) hP hD hm
  refine lv_aload_n hx hb dX11_forget_21 rfl (lv_at hl 0 rfl) ?_
  refine lv_bipush (v := (24 : Int32)) hx hb dX11_forget_22 (by decide) ?_
  refine va_put (D := D) (ci := 11) (v := .int (24 : Int32)) (ty := .int) (C := RX11) (T := TX11) (N := 35) hx hb hts nX11_forget_X11 tyX11 tyX11_ok nmX11 hown hK hP hD hS 0 (wR_0 y a z16) rfl 10 (by decide) (hts (.fieldLink RX11 88 "WorksDeskModel" "last" "I") (List.mem_of_getElem? (i := 5) rfl)) (fun _ h9 => h9) rfl (tyX11_ok 10 (by decide)) rfl rfl (Nat.le_of_ble_eq_true rfl) dX11_forget_24 (fun H locs hP hD hS => ?_)
  obtain ⟨z17, hP, hD, hm⟩ := zz_up (w := wR y a) (wR_f10 y a z16 (24 : Int32)) hP hD hm
  refine lv_aload_n hx hb dX11_forget_27 rfl (lv_at hl 0 rfl) ?_
  refine lv_bipush (v := (24 : Int32)) hx hb dX11_forget_28 (by decide) ?_
  refine va_put (D := D) (ci := 11) (v := .int (24 : Int32)) (ty := .int) (C := RX11) (T := TX11) (N := 35) hx hb hts nX11_forget_X11 tyX11 tyX11_ok nmX11 hown hK hP hD hS 0 (wR_0 y a z17) rfl 11 (by decide) (hts (.fieldLink RX11 91 "WorksDeskModel" "due" "I") (List.mem_of_getElem? (i := 6) rfl)) (fun _ h9 => h9) rfl (tyX11_ok 11 (by decide)) rfl rfl (Nat.le_of_ble_eq_true rfl) dX11_forget_30 (fun H locs hP hD hS => ?_)
  obtain ⟨z18, hP, hD, hm⟩ := zz_up (w := wR y a) (wR_f11 y a z17 (24 : Int32)) hP hD hm
  refine lv_aload_n hx hb dX11_forget_33 rfl (lv_at hl 0 rfl) ?_
  refine lv_iconst (v := (0 : Int32)) hx hb dX11_forget_34 (by decide) ?_
  refine va_put (D := D) (ci := 11) (v := .int (0 : Int32)) (ty := .int) (C := RX11) (T := TX11) (N := 35) hx hb hts nX11_forget_X11 tyX11 tyX11_ok nmX11 hown hK hP hD hS 0 (wR_0 y a z18) rfl 12 (by decide) (hts (.fieldLink RX11 94 "WorksDeskModel" "granted" "I") (List.mem_of_getElem? (i := 7) rfl)) (fun _ h9 => h9) rfl (tyX11_ok 12 (by decide)) rfl rfl (Nat.le_of_ble_eq_true rfl) dX11_forget_35 (fun H locs hP hD hS => ?_)
  obtain ⟨z19, hP, hD, hm⟩ := zz_up (w := wR y a) (wR_f12 y a z18 (0 : Int32)) hP hD hm
  refine lv_iconst (v := (0 : Int32)) hx hb dX11_forget_38 (by decide) ?_
  refine lv_istore_n (lv' := [(1, .int (0 : Int32)), (0, .ref (a 0))]) hx hb dX11_forget_39 rfl hl (by decide) rfl (fun ls hl => ?_)
  have j := J40 zz_N (0 : Int32) z19 hm
  rw [hG] at j
  exact j H locs ls hP hD hS (lv_sub hl [1, 0] rfl)
def mX11_number_b97 (v1 : Int32) (z : zz_M) : Option (Int32 × zz_M) := some (v1, z)
def mX11_number_b83 (v1 : Int32) (z : zz_M) : Option (Int32 × zz_M) := if v1 = (0 : Int32) then (zz_b2 (mX11_fault ((z.2.2.1 21) - (1 : Int32)) z) (fun r2 z4 => mX11_number_b97 v1 z4)) else (mX11_number_b97 v1 z)
def mX11_number_b71 (v1 : Int32) (v2 : Int32) (z : zz_M) : Option (Int32 × zz_M) := if v2 = (0 : Int32) then (zz_b2 (mX11_fault (z.2.2.1 21) z) (fun r6 z8 => mX11_number_b83 v1 z8)) else (mX11_number_b83 v1 z)
def mX11_number_b42 (k4 : Int32 → Int32 → zz_M → Option (Int32 × zz_M)) (v1 : Int32) (v2 : Int32) (z : zz_M) : Option (Int32 × zz_M) := zz_b1 (mX11_here z) (fun r9 => zz_nm ((((10 : Int32) * v1) + r9) - (48 : Int32)) (fun n11 => zz_nm (v2 + (1 : Int32)) (fun n12 => zz_nm (zz_sF z 21 ((z.2.2.1 21) + (1 : Int32))) (fun z13 => k4 n11 n12 z13))))
def mX11_number_b4 : Nat → Int32 → Int32 → zz_M → Option (Int32 × zz_M)
  | 0, _, _, _ => none
  | n + 1, v1, v2, z => if (z.2.2.1 22) = (-1 : Int32) then (zz_b1 (mX11_here z) (fun r15 => zz_b1 (mX11_in r15.toInt64 (48 : Int64) (57 : Int64)) (fun r17 => if r17 = (0 : Int32) then (mX11_number_b71 v1 v2 z) else (if v2 = (3 : Int32) then (zz_b2 (mX11_fault (z.2.2.1 21) z) (fun r21 z23 => mX11_number_b42 (mX11_number_b4 n) v1 v2 z23)) else (mX11_number_b42 (mX11_number_b4 n) v1 v2 z))))) else (mX11_number_b71 v1 v2 z)
def mX11_number (z : zz_M) : Option (Int32 × zz_M) := mX11_number_b4 zz_N (0 : Int32) (0 : Int32) z
theorem nX11_number_X11 : ∀ w ∈ wsX110, w ∈ wsX11_number := fun _ h => List.mem_cons_of_mem _ (List.mem_append_right _ (h))
theorem zdX11_number : yX11_number.cls = RX11 ∧ yX11_number.cls ≠ "java/lang/invoke/MethodHandle" ∧ yX11_number.cls ≠ "java/lang/invoke/VarHandle" ∧ (parseMethodDescriptor yX11_number.desc).map (fun d => d.parameters.length) = some 0 := by decide +kernel
set_option maxHeartbeats 4000000 in
set_option maxRecDepth 100000 in
theorem zX11_number (l : Launch) (D : va_G) (y : Nat → ClassId) (a : Nat → Nat) (sz : Nat) (z : zz_M) {r : Int32} {zt : zz_M} (hm : mX11_number z = some (r, zt)) : Met l yX11_number wsX11_number { frames := 1, cells := 0, slots := 0, locals := 25 } (zz_Pc D y (wR y a z) sz [.ref (a 0)]) (zz_Qi D y (wR y a) (va_A (wR y a z) sz) r zt) 0 0 (va_A (wR y a z) sz) := by
  refine Met.ofW (cc := cX11_number) (maxL := 3) (ret := (some .int)) (by decide) rfl ?_
  intro p e s m args below meth c s₁ B hml hv
  obtain ⟨rfl, hsz, hP, hK, hD0, hN, hg⟩ := hv
  have hx := B.exec
  have hb := B.bytes
  have hr := B.returns
  have hts := atoms_spec (ws := wsX11_number) B.pre
  have hown : s.vm.findClass RX11 = some m.cls := findClass_of_methodNamed B.named
  have hlocks := B.notSynchronized
  clear B
  subst hsz
  have hD := hD0.self (sz := s.heap.size)
  generalize hAe : va_A (wR y a z) s.heap.size = A at hD hg ⊢
  have hA : ∀ q : Nat, s.heap.size ≤ q → A q := fun q h => by rw [← hAe]; exact Or.inr h
  clear hAe hD0
  have hl := lv_entry ([.ref (a 0)]) (n := 3) (Nat.le_of_ble_eq_true rfl)
  rw [lg_entry_eq]
  generalize (lg_sl ([.ref (a 0)]) ++ List.replicate (3 - (lg_sl ([.ref (a 0)])).length) Slot.unset).toArray = ls at hl ⊢
  replace hl : lv_has ls 3 [(0, .ref (a 0))] := hl
  refine zz_go (w := wR y a) hP hD va_S.rf hl (fun G hG => ?_)
  clear hP hD hl ls
  have J97 : ∀ (v1 : Int32) (z : zz_M), mX11_number_b97 v1 z = some (r, zt) → G 97 [(1, .int v1)] [] z := by
    intro v1 z hm
    rw [mX11_number_b97] at hm
    rw [hG]
    intro H locs ls hP hD hS hl
    refine lv_iload_n hx hb dX11_number_97 rfl (lv_at hl 0 rfl) ?_
    exact zz_iret hx hb hr hlocks (zz_some2 hm) hP hK hD hS dX11_number_98
  have J83 : ∀ (v1 : Int32) (z : zz_M), mX11_number_b83 v1 z = some (r, zt) → G 83 [(0, .ref (a 0)), (1, .int v1)] [] z := by
    intro v1 z hm
    rw [mX11_number_b83] at hm
    rw [hG]
    intro H locs ls hP hD hS hl
    refine lv_iload_n hx hb dX11_number_83 rfl (lv_at hl 1 rfl) ?_
    refine lv_if_ne (tgt := 97) hx hb dX11_number_84 (by decide) (fun c1 => ?_) (fun c1 => ?_)
    · replace hm := zz_neg c1 hm
      have j := J97 v1 z hm
      rw [hG] at j
      exact j H locs ls hP hD hS (lv_sub hl [1] rfl)
    · replace hm := zz_pos c1 hm
      refine lv_aload_n hx hb dX11_number_87 rfl (lv_at hl 0 rfl) ?_
      refine lv_aload_n hx hb dX11_number_88 rfl (lv_at hl 0 rfl) ?_
      refine va_get (D := D) (ci := 11) (v := .int (z.2.2.1 21)) (C := RX11) (T := TX11) (N := 35) hx hb hts nX11_number_X11 hown hK hP 0 (wR_0 y a z) rfl 21 (by decide) (hts (.fieldLink RX11 112 "WorksDeskModel" "at" "I") (List.mem_of_getElem? (i := 4) rfl)) (fun _ h9 => h9) rfl dX11_number_89 ?_
      refine lv_iconst (v := (1 : Int32)) hx hb dX11_number_92 (by decide) ?_
      refine lv_isub hx hb dX11_number_93 ?_
      obtain ⟨r2, z4, h3, hm⟩ := zz_b2_some hm
      refine zz_callv (zz_runV (w := wR y a) (As := [.int ((z.2.2.1 21) - (1 : Int32))]) (rest := []) ⟨hx, hb, hml, hown, hts⟩ (zX11_fault l D y a H.size ((z.2.2.1 21) - (1 : Int32)) z h3) (cwV 1 hts gX11_number_X11_fault rfl rfl rfl zdX11_fault ⟨Nat.le_of_ble_eq_true rfl, Nat.le_of_ble_eq_true rfl⟩) hK hN hg hP hD hS hA 0 (wR_0 y a z) rfl rfl hl.1 rfl (Nat.le_of_ble_eq_true rfl) dX11_number_94 ⟨Nat.le_of_ble_eq_true rfl, Nat.le_of_ble_eq_true rfl⟩) hD hS hA (fun H locs hP hD hS => ?_)
      have j := J97 v1 z4 hm
      rw [hG] at j
      exact j H locs ls hP hD hS (lv_sub hl [1] rfl)
  have J71 : ∀ (v1 : Int32) (v2 : Int32) (z : zz_M), mX11_number_b71 v1 v2 z = some (r, zt) → G 71 [(0, .ref (a 0)), (1, .int v1), (2, .int v2)] [] z := by
    intro v1 v2 z hm
    rw [mX11_number_b71] at hm
    rw [hG]
    intro H locs ls hP hD hS hl
    refine lv_iload_n hx hb dX11_number_71 rfl (lv_at hl 2 rfl) ?_
    refine lv_if_ne (tgt := 83) hx hb dX11_number_72 (by decide) (fun c5 => ?_) (fun c5 => ?_)
    · replace hm := zz_neg c5 hm
      have j := J83 v1 z hm
      rw [hG] at j
      exact j H locs ls hP hD hS (lv_sub hl [0, 1] rfl)
    · replace hm := zz_pos c5 hm
      refine lv_aload_n hx hb dX11_number_75 rfl (lv_at hl 0 rfl) ?_
      refine lv_aload_n hx hb dX11_number_76 rfl (lv_at hl 0 rfl) ?_
      refine va_get (D := D) (ci := 11) (v := .int (z.2.2.1 21)) (C := RX11) (T := TX11) (N := 35) hx hb hts nX11_number_X11 hown hK hP 0 (wR_0 y a z) rfl 21 (by decide) (hts (.fieldLink RX11 112 "WorksDeskModel" "at" "I") (List.mem_of_getElem? (i := 4) rfl)) (fun _ h9 => h9) rfl dX11_number_77 ?_
      obtain ⟨r6, z8, h7, hm⟩ := zz_b2_some hm
      refine zz_callv (zz_runV (w := wR y a) (As := [.int (z.2.2.1 21)]) (rest := []) ⟨hx, hb, hml, hown, hts⟩ (zX11_fault l D y a H.size (z.2.2.1 21) z h7) (cwV 1 hts gX11_number_X11_fault rfl rfl rfl zdX11_fault ⟨Nat.le_of_ble_eq_true rfl, Nat.le_of_ble_eq_true rfl⟩) hK hN hg hP hD hS hA 0 (wR_0 y a z) rfl rfl hl.1 rfl (Nat.le_of_ble_eq_true rfl) dX11_number_80 ⟨Nat.le_of_ble_eq_true rfl, Nat.le_of_ble_eq_true rfl⟩) hD hS hA (fun H locs hP hD hS => ?_)
      have j := J83 v1 z8 hm
      rw [hG] at j
      exact j H locs ls hP hD hS (lv_sub hl [0, 1] rfl)
  have J42 : ∀ (k4 : Int32 → Int32 → zz_M → Option (Int32 × zz_M)) (K4 : ∀ (v1 : Int32) (v2 : Int32) (z : zz_M), k4 v1 v2 z = some (r, zt) → G 4 [(0, .ref (a 0)), (1, .int v1), (2, .int v2)] [] z) (v1 : Int32) (v2 : Int32) (z : zz_M), mX11_number_b42 k4 v1 v2 z = some (r, zt) → G 42 [(0, .ref (a 0)), (1, .int v1), (2, .int v2)] [] z := by
    intro k4 K4 v1 v2 z hm
    rw [mX11_number_b42] at hm
    rw [hG]
    intro H locs ls hP hD hS hl
    refine lv_bipush (v := (10 : Int32)) hx hb dX11_number_42 (by decide) ?_
    refine lv_iload_n hx hb dX11_number_44 rfl (lv_at hl 1 rfl) ?_
    refine lv_imul hx hb dX11_number_45 ?_
    refine lv_aload_n hx hb dX11_number_46 rfl (lv_at hl 0 rfl) ?_
    obtain ⟨r9, h10, hm⟩ := zz_b1_some hm
    refine zz_calli (zz_runV (w := wR y a) (As := []) (rest := [.int ((10 : Int32) * v1)]) ⟨hx, hb, hml, hown, hts⟩ (zX11_here l D y a H.size z h10) (cwV 0 hts gX11_number_X11_here rfl rfl rfl zdX11_here ⟨Nat.le_of_ble_eq_true rfl, Nat.le_of_ble_eq_true rfl⟩) hK hN hg hP hD hS hA 0 (wR_0 y a z) rfl rfl hl.1 rfl (Nat.le_of_ble_eq_true rfl) dX11_number_47 ⟨Nat.le_of_ble_eq_true rfl, Nat.le_of_ble_eq_true rfl⟩) hD hS hA (fun H locs hP hD hS => ?_)
    refine lv_iadd hx hb dX11_number_50 ?_
    refine lv_bipush (v := (48 : Int32)) hx hb dX11_number_51 (by decide) ?_
    refine lv_isub hx hb dX11_number_53 ?_
    refine lv_topi (fun n11 en11 => ?_)
    replace hm := zz_nm_some en11 hm
    refine lv_istore_n (lv' := [(1, .int n11), (0, .ref (a 0)), (2, .int v2)]) hx hb dX11_number_54 rfl hl (by decide) rfl (fun ls hl => ?_)
    obtain ⟨n12, en12⟩ : ∃ q : Int32, q = v2 + (1 : Int32) := ⟨_, rfl⟩
    replace hm := zz_nm_some en12 hm
    refine lv_iinc (v := n12) (lv' := [(2, .int n12), (1, .int n11), (0, .ref (a 0))]) hx hb dX11_number_55 hl (k := 2) rfl (by rw [en12]; rfl) (by decide) rfl (fun ls hl => ?_)
    refine lv_aload_n hx hb dX11_number_58 rfl (lv_at hl 2 rfl) ?_
    refine lv_dup hx hb dX11_number_59 rfl ?_
    refine va_get (D := D) (ci := 11) (v := .int (z.2.2.1 21)) (C := RX11) (T := TX11) (N := 35) hx hb hts nX11_number_X11 hown hK hP 0 (wR_0 y a z) rfl 21 (by decide) (hts (.fieldLink RX11 112 "WorksDeskModel" "at" "I") (List.mem_of_getElem? (i := 4) rfl)) (fun _ h9 => h9) rfl dX11_number_60 ?_
    refine lv_iconst (v := (1 : Int32)) hx hb dX11_number_63 (by decide) ?_
    refine lv_iadd hx hb dX11_number_64 ?_
    refine va_put (D := D) (ci := 11) (v := .int ((z.2.2.1 21) + (1 : Int32))) (ty := .int) (C := RX11) (T := TX11) (N := 35) hx hb hts nX11_number_X11 tyX11 tyX11_ok nmX11 hown hK hP hD hS 0 (wR_0 y a z) rfl 21 (by decide) (hts (.fieldLink RX11 112 "WorksDeskModel" "at" "I") (List.mem_of_getElem? (i := 4) rfl)) (fun _ h9 => h9) rfl (tyX11_ok 21 (by decide)) rfl rfl (Nat.le_of_ble_eq_true rfl) dX11_number_65 (fun H locs hP hD hS => ?_)
    obtain ⟨z13, hP, hD, hm⟩ := zz_up (w := wR y a) (wR_f21 y a z ((z.2.2.1 21) + (1 : Int32))) hP hD hm
    refine lv_goto (tgt := 4) hx hb dX11_number_68 (by decide) ?_
    have j := K4 n11 n12 z13 hm
    rw [hG] at j
    exact j H locs ls hP hD hS (lv_sub hl [2, 1, 0] rfl)
  have J4 : ∀ (n : Nat) (v1 : Int32) (v2 : Int32) (z : zz_M), mX11_number_b4 n v1 v2 z = some (r, zt) → G 4 [(0, .ref (a 0)), (1, .int v1), (2, .int v2)] [] z := by
    intro n
    induction n with
    | zero =>
      intro v1 v2 z hm
      exact zz_none hm
    | succ n ih =>
      intro v1 v2 z hm
      rw [mX11_number_b4] at hm
      rw [hG]
      intro H locs ls hP hD hS hl
      refine lv_aload_n hx hb dX11_number_4 rfl (lv_at hl 0 rfl) ?_
      refine va_get (D := D) (ci := 11) (v := .int (z.2.2.1 22)) (C := RX11) (T := TX11) (N := 35) hx hb hts nX11_number_X11 hown hK hP 0 (wR_0 y a z) rfl 22 (by decide) (hts (.fieldLink RX11 118 "WorksDeskModel" "wrong" "I") (List.mem_of_getElem? (i := 1) rfl)) (fun _ h9 => h9) rfl dX11_number_5 ?_
      refine lv_iconst (v := (-1 : Int32)) hx hb dX11_number_8 (by decide) ?_
      refine lv_icmp_ne (tgt := 71) hx hb dX11_number_9 (by decide) (fun c14 => ?_) (fun c14 => ?_)
      · replace hm := zz_neg c14 hm
        have j := J71 v1 v2 z hm
        rw [hG] at j
        exact j H locs ls hP hD hS (lv_sub hl [0, 1, 2] rfl)
      · replace hm := zz_pos c14 hm
        refine lv_aload_n hx hb dX11_number_12 rfl (lv_at hl 0 rfl) ?_
        obtain ⟨r15, h16, hm⟩ := zz_b1_some hm
        refine zz_calli (zz_runV (w := wR y a) (As := []) (rest := []) ⟨hx, hb, hml, hown, hts⟩ (zX11_here l D y a H.size z h16) (cwV 0 hts gX11_number_X11_here rfl rfl rfl zdX11_here ⟨Nat.le_of_ble_eq_true rfl, Nat.le_of_ble_eq_true rfl⟩) hK hN hg hP hD hS hA 0 (wR_0 y a z) rfl rfl hl.1 rfl (Nat.le_of_ble_eq_true rfl) dX11_number_13 ⟨Nat.le_of_ble_eq_true rfl, Nat.le_of_ble_eq_true rfl⟩) hD hS hA (fun H locs hP hD hS => ?_)
        refine lv_i2l hx hb dX11_number_16 rfl ?_
        refine lv_ldc2 (v := (48 : Int64)) hx hb hown (hts (.constantLong RX11 129 (48)) (List.mem_of_getElem? (i := 2) rfl)) dX11_number_17 ?_
        refine lv_ldc2 (v := (57 : Int64)) hx hb hown (hts (.constantLong RX11 131 (57)) (List.mem_of_getElem? (i := 3) rfl)) dX11_number_20 ?_
        obtain ⟨r17, h18, hm⟩ := zz_b1_some hm
        refine zz_calli (zz_runS (w := wR y a) (As := [.long r15.toInt64, .long (48 : Int64), .long (57 : Int64)]) (rest := []) ⟨hx, hb, hml, hown, hts⟩ (zX11_in l D y a H.size r15.toInt64 (48 : Int64) (57 : Int64) z h18) (va_cwS 3 hts gX11_number_X11_in rfl rfl rfl zdX11_in ⟨Nat.le_of_ble_eq_true rfl, Nat.le_of_ble_eq_true rfl⟩) hK hN hg hP hD hS hA rfl hl.1 rfl (Nat.le_of_ble_eq_true rfl) dX11_number_23 ⟨Nat.le_of_ble_eq_true rfl, Nat.le_of_ble_eq_true rfl⟩) hD hS hA (fun H locs hP hD hS => ?_)
        refine lv_if_eq (tgt := 71) hx hb dX11_number_26 (by decide) (fun c19 => ?_) (fun c19 => ?_)
        · replace hm := zz_pos c19 hm
          have j := J71 v1 v2 z hm
          rw [hG] at j
          exact j H locs ls hP hD hS (lv_sub hl [0, 1, 2] rfl)
        · replace hm := zz_neg c19 hm
          refine lv_iload_n hx hb dX11_number_29 rfl (lv_at hl 2 rfl) ?_
          refine lv_iconst (v := (3 : Int32)) hx hb dX11_number_30 (by decide) ?_
          refine lv_icmp_ne (tgt := 42) hx hb dX11_number_31 (by decide) (fun c20 => ?_) (fun c20 => ?_)
          · replace hm := zz_neg c20 hm
            have j := J42 (mX11_number_b4 n) ih v1 v2 z hm
            rw [hG] at j
            exact j H locs ls hP hD hS (lv_sub hl [0, 1, 2] rfl)
          · replace hm := zz_pos c20 hm
            refine lv_aload_n hx hb dX11_number_34 rfl (lv_at hl 0 rfl) ?_
            refine lv_aload_n hx hb dX11_number_35 rfl (lv_at hl 0 rfl) ?_
            refine va_get (D := D) (ci := 11) (v := .int (z.2.2.1 21)) (C := RX11) (T := TX11) (N := 35) hx hb hts nX11_number_X11 hown hK hP 0 (wR_0 y a z) rfl 21 (by decide) (hts (.fieldLink RX11 112 "WorksDeskModel" "at" "I") (List.mem_of_getElem? (i := 4) rfl)) (fun _ h9 => h9) rfl dX11_number_36 ?_
            obtain ⟨r21, z23, h22, hm⟩ := zz_b2_some hm
            refine zz_callv (zz_runV (w := wR y a) (As := [.int (z.2.2.1 21)]) (rest := []) ⟨hx, hb, hml, hown, hts⟩ (zX11_fault l D y a H.size (z.2.2.1 21) z h22) (cwV 1 hts gX11_number_X11_fault rfl rfl rfl zdX11_fault ⟨Nat.le_of_ble_eq_true rfl, Nat.le_of_ble_eq_true rfl⟩) hK hN hg hP hD hS hA 0 (wR_0 y a z) rfl rfl hl.1 rfl (Nat.le_of_ble_eq_true rfl) dX11_number_39 ⟨Nat.le_of_ble_eq_true rfl, Nat.le_of_ble_eq_true rfl⟩) hD hS hA (fun H locs hP hD hS => ?_)
            have j := J42 (mX11_number_b4 n) ih v1 v2 z23 hm
            rw [hG] at j
            exact j H locs ls hP hD hS (lv_sub hl [0, 1, 2] rfl)
  rw [hG]
  intro H locs ls hP hD hS hl
  unfold mX11_number at hm
  refine lv_iconst (v := (0 : Int32)) hx hb dX11_number_0 (by decide) ?_
  refine lv_istore_n (lv' := [(1, .int (0 : Int32)), (0, .ref (a 0))]) hx hb dX11_number_1 rfl hl (by decide) rfl (fun ls hl => ?_)
  refine lv_iconst (v := (0 : Int32)) hx hb dX11_number_2 (by decide) ?_
  refine lv_istore_n (lv' := [(2, .int (0 : Int32)), (1, .int (0 : Int32)), (0, .ref (a 0))]) hx hb dX11_number_3 rfl hl (by decide) rfl (fun ls hl => ?_)
  have j := J4 zz_N (0 : Int32) (0 : Int32) z hm
  rw [hG] at j
  exact j H locs ls hP hD hS (lv_sub hl [2, 1, 0] rfl)
def mX11_bill_b206 : Nat → Int32 → Int32 → zz_M → Option (Int32 × zz_M)
  | 0, _, _, _ => none
  | n + 1, v1, v2, z => if ((3 : Int32) * v1) ≤ v2 then (some (v1, z)) else (zz_ck (zz_in v2 30) (zz_ck (zz_in v2 30) (zz_nm (zz_wI z 2 v2 (z.1 11 v2.toNatClampNeg)) (fun z4 => zz_nm (v2 + (1 : Int32)) (fun n5 => (mX11_bill_b206 n) v1 n5 z4)))))
def mX11_bill_b180 (v1 : Int32) (z : zz_M) : Option (Int32 × zz_M) := if (z.2.2.1 22) = (-1 : Int32) then (zz_b2 (mX11_forget z) (fun r7 z9 => zz_nm (zz_sF z9 2 v1) (fun z10 => mX11_bill_b206 zz_N v1 (0 : Int32) z10))) else (some ((-1 : Int32) - (z.2.2.1 22), z))
def mX11_bill_b109 (k30 : Int32 → zz_M → Option (Int32 × zz_M)) (v1 : Int32) (z : zz_M) : Option (Int32 × zz_M) := zz_b1 (mX11_here z) (fun r11 => zz_ck (zz_in ((3 : Int32) * v1) 30) (zz_nm (zz_wI z 11 ((3 : Int32) * v1) (r11 - (48 : Int32))) (fun z14 => zz_nm (zz_sF z14 21 ((z14.2.2.1 21) + (1 : Int32))) (fun z15 => zz_b2 (mX11_expect (58 : Int32) z15) (fun r16 z18 => zz_b2 (mX11_number z18) (fun r19 z21 => zz_ck (zz_in (((3 : Int32) * v1) + (1 : Int32)) 30) (zz_nm (zz_wI z21 11 (((3 : Int32) * v1) + (1 : Int32)) r19) (fun z23 => zz_b2 (mX11_expect (42 : Int32) z23) (fun r24 z26 => zz_b2 (mX11_number z26) (fun r27 z29 => zz_ck (zz_in (((3 : Int32) * v1) + (2 : Int32)) 30) (zz_nm (zz_wI z29 11 (((3 : Int32) * v1) + (2 : Int32)) r27) (fun z31 => zz_nm (v1 + (1 : Int32)) (fun n32 => k30 n32 z31)))))))))))))
def mX11_bill_b73 (k30 : Int32 → zz_M → Option (Int32 × zz_M)) (v1 : Int32) (z : zz_M) : Option (Int32 × zz_M) := if (z.2.2.1 22) = (-1 : Int32) then (zz_b1 (mX11_here z) (fun r34 => zz_b1 (mX11_in r34.toInt64 (48 : Int64) (52 : Int64)) (fun r36 => if r36 = (0 : Int32) then (zz_b2 (mX11_fault (z.2.2.1 21) z) (fun r39 z41 => mX11_bill_b109 k30 v1 z41)) else (mX11_bill_b109 k30 v1 z)))) else (k30 v1 z)
def mX11_bill_b67 (k30 : Int32 → zz_M → Option (Int32 × zz_M)) (v1 : Int32) (z : zz_M) : Option (Int32 × zz_M) := zz_b2 (mX11_expect (59 : Int32) z) (fun r42 z44 => mX11_bill_b73 k30 v1 z44)
def mX11_bill_b30 : Nat → Int32 → zz_M → Option (Int32 × zz_M)
  | 0, _, _ => none
  | n + 1, v1, z => if (z.2.2.1 22) = (-1 : Int32) then (if (z.2.2.1 20) ≤ (z.2.2.1 21) then (mX11_bill_b180 v1 z) else (if v1 ≤ (0 : Int32) then (mX11_bill_b73 (mX11_bill_b30 n) v1 z) else (if v1 = (10 : Int32) then (zz_b2 (mX11_fault (z.2.2.1 21) z) (fun r49 z51 => mX11_bill_b67 (mX11_bill_b30 n) v1 z51)) else (mX11_bill_b67 (mX11_bill_b30 n) v1 z)))) else (mX11_bill_b180 v1 z)
def mX11_bill (z : zz_M) : Option (Int32 × zz_M) := zz_nm (zz_sF z 19 (0 : Int32)) (fun z52 => zz_nm (zz_sF z52 20 (z52.2.2.1 16)) (fun z53 => zz_nm (zz_sF z53 16 (0 : Int32)) (fun z54 => zz_nm (zz_sF z54 21 (0 : Int32)) (fun z55 => zz_nm (zz_sF z55 22 (-1 : Int32)) (fun z56 => mX11_bill_b30 zz_N (0 : Int32) z56)))))
theorem nX11_bill_X11 : ∀ w ∈ wsX110, w ∈ wsX11_bill := fun _ h => List.mem_cons_of_mem _ (List.mem_append_right _ (h))
theorem zdX11_bill : yX11_bill.cls = RX11 ∧ yX11_bill.cls ≠ "java/lang/invoke/MethodHandle" ∧ yX11_bill.cls ≠ "java/lang/invoke/VarHandle" ∧ (parseMethodDescriptor yX11_bill.desc).map (fun d => d.parameters.length) = some 0 := by decide +kernel
set_option maxHeartbeats 4000000 in
set_option maxRecDepth 100000 in
theorem zX11_bill (l : Launch) (D : va_G) (y : Nat → ClassId) (a : Nat → Nat) (sz : Nat) (z : zz_M) {r : Int32} {zt : zz_M} (hm : mX11_bill z = some (r, zt)) : Met l yX11_bill wsX11_bill { frames := 2, cells := 0, slots := 0, locals := 47 } (zz_Pc D y (wR y a z) sz [.ref (a 0)]) (zz_Qi D y (wR y a) (va_A (wR y a z) sz) r zt) 0 0 (va_A (wR y a z) sz) := by
  refine Met.ofW (cc := cX11_bill) (maxL := 3) (ret := (some .int)) (by decide) rfl ?_
  intro p e s m args below meth c s₁ B hml hv
  obtain ⟨rfl, hsz, hP, hK, hD0, hN, hg⟩ := hv
  have hx := B.exec
  have hb := B.bytes
  have hr := B.returns
  have hts := atoms_spec (ws := wsX11_bill) B.pre
  have hown : s.vm.findClass RX11 = some m.cls := findClass_of_methodNamed B.named
  have hlocks := B.notSynchronized
  clear B
  subst hsz
  have hD := hD0.self (sz := s.heap.size)
  generalize hAe : va_A (wR y a z) s.heap.size = A at hD hg ⊢
  have hA : ∀ q : Nat, s.heap.size ≤ q → A q := fun q h => by rw [← hAe]; exact Or.inr h
  clear hAe hD0
  have hl := lv_entry ([.ref (a 0)]) (n := 3) (Nat.le_of_ble_eq_true rfl)
  rw [lg_entry_eq]
  generalize (lg_sl ([.ref (a 0)]) ++ List.replicate (3 - (lg_sl ([.ref (a 0)])).length) Slot.unset).toArray = ls at hl ⊢
  replace hl : lv_has ls 3 [(0, .ref (a 0))] := hl
  refine zz_go (w := wR y a) hP hD va_S.rf hl (fun G hG => ?_)
  clear hP hD hl ls
  have J206 : ∀ (n : Nat) (v1 : Int32) (v2 : Int32) (z : zz_M), mX11_bill_b206 n v1 v2 z = some (r, zt) → G 206 [(0, .ref (a 0)), (1, .int v1), (2, .int v2)] [] z := by
    intro n
    induction n with
    | zero =>
      intro v1 v2 z hm
      exact zz_none hm
    | succ n ih =>
      intro v1 v2 z hm
      rw [mX11_bill_b206] at hm
      rw [hG]
      intro H locs ls hP hD hS hl
      refine lv_iload_n hx hb dX11_bill_206 rfl (lv_at hl 2 rfl) ?_
      refine lv_iconst (v := (3 : Int32)) hx hb dX11_bill_207 (by decide) ?_
      refine lv_iload_n hx hb dX11_bill_208 rfl (lv_at hl 1 rfl) ?_
      refine lv_imul hx hb dX11_bill_209 ?_
      refine lv_icmp_ge (tgt := 231) hx hb dX11_bill_210 (by decide) (fun c1 => ?_) (fun c1 => ?_)
      · replace hm := zz_pos c1 hm
        refine lv_iload_n hx hb dX11_bill_231 rfl (lv_at hl 1 rfl) ?_
        exact zz_iret hx hb hr hlocks (zz_some2 hm) hP hK hD hS dX11_bill_232
      · replace hm := zz_neg c1 hm
        refine lv_aload_n hx hb dX11_bill_213 rfl (lv_at hl 0 rfl) ?_
        refine va_get (D := D) (ci := 11) (v := .ref (a 2)) (C := RX11) (T := TX11) (N := 35) hx hb hts nX11_bill_X11 hown hK hP 0 (wR_0 y a z) rfl 1 (by decide) (hts (.fieldLink RX11 13 "WorksDeskModel" "items" "[I") (List.mem_of_getElem? (i := 10) rfl)) (fun _ h9 => h9) rfl dX11_bill_214 ?_
        refine lv_iload_n hx hb dX11_bill_217 rfl (lv_at hl 2 rfl) ?_
        refine lv_aload_n hx hb dX11_bill_218 rfl (lv_at hl 0 rfl) ?_
        refine va_get (D := D) (ci := 11) (v := .ref (a 11)) (C := RX11) (T := TX11) (N := 35) hx hb hts nX11_bill_X11 hown hK hP 0 (wR_0 y a z) rfl 23 (by decide) (hts (.fieldLink RX11 42 "WorksDeskModel" "read" "[I") (List.mem_of_getElem? (i := 8) rfl)) (fun _ h9 => h9) rfl dX11_bill_219 ?_
        refine lv_iload_n hx hb dX11_bill_222 rfl (lv_at hl 2 rfl) ?_
        obtain ⟨c2, hm⟩ := zz_ck_some hm
        refine va_iald hx hb hK hP 11 0 (wR_11 y a z) rfl c2 dX11_bill_223 ?_
        obtain ⟨c3, hm⟩ := zz_ck_some hm
        refine va_iast hx hb hK hP hD hS 2 0 (wR_2 y a z) rfl c3 dX11_bill_224 (fun H locs hP hD hS => ?_)
        obtain ⟨z4, hP, hD, hm⟩ := zz_up (w := wR y a) (wR_w2 y a z v2 (z.1 11 v2.toNatClampNeg)) hP hD hm
        obtain ⟨n5, en5⟩ : ∃ q : Int32, q = v2 + (1 : Int32) := ⟨_, rfl⟩
        replace hm := zz_nm_some en5 hm
        refine lv_iinc (v := n5) (lv' := [(2, .int n5), (0, .ref (a 0)), (1, .int v1)]) hx hb dX11_bill_225 hl (k := 2) rfl (by rw [en5]; rfl) (by decide) rfl (fun ls hl => ?_)
        refine lv_goto (tgt := 206) hx hb dX11_bill_228 (by decide) ?_
        have j := ih v1 n5 z4 hm
        rw [hG] at j
        exact j H locs ls hP hD hS (lv_sub hl [1, 2, 0] rfl)
  have J180 : ∀ (v1 : Int32) (z : zz_M), mX11_bill_b180 v1 z = some (r, zt) → G 180 [(0, .ref (a 0)), (1, .int v1)] [] z := by
    intro v1 z hm
    rw [mX11_bill_b180] at hm
    rw [hG]
    intro H locs ls hP hD hS hl
    refine lv_aload_n hx hb dX11_bill_180 rfl (lv_at hl 0 rfl) ?_
    refine va_get (D := D) (ci := 11) (v := .int (z.2.2.1 22)) (C := RX11) (T := TX11) (N := 35) hx hb hts nX11_bill_X11 hown hK hP 0 (wR_0 y a z) rfl 22 (by decide) (hts (.fieldLink RX11 118 "WorksDeskModel" "wrong" "I") (List.mem_of_getElem? (i := 5) rfl)) (fun _ h9 => h9) rfl dX11_bill_181 ?_
    refine lv_iconst (v := (-1 : Int32)) hx hb dX11_bill_184 (by decide) ?_
    refine lv_icmp_eq (tgt := 195) hx hb dX11_bill_185 (by decide) (fun c6 => ?_) (fun c6 => ?_)
    · replace hm := zz_pos c6 hm
      refine lv_aload_n hx hb dX11_bill_195 rfl (lv_at hl 0 rfl) ?_
      obtain ⟨r7, z9, h8, hm⟩ := zz_b2_some hm
      refine zz_callv (zz_runV (w := wR y a) (As := []) (rest := []) ⟨hx, hb, hml, hown, hts⟩ (zX11_forget l D y a H.size z h8) (cwV 0 hts gX11_bill_X11_forget rfl rfl rfl zdX11_forget ⟨Nat.le_of_ble_eq_true rfl, Nat.le_of_ble_eq_true rfl⟩) hK hN hg hP hD hS hA 0 (wR_0 y a z) rfl rfl hl.1 rfl (Nat.le_of_ble_eq_true rfl) dX11_bill_196 ⟨Nat.le_of_ble_eq_true rfl, Nat.le_of_ble_eq_true rfl⟩) hD hS hA (fun H locs hP hD hS => ?_)
      refine lv_aload_n hx hb dX11_bill_199 rfl (lv_at hl 0 rfl) ?_
      refine lv_iload_n hx hb dX11_bill_200 rfl (lv_at hl 1 rfl) ?_
      refine va_put (D := D) (ci := 11) (v := .int v1) (ty := .int) (C := RX11) (T := TX11) (N := 35) hx hb hts nX11_bill_X11 tyX11 tyX11_ok nmX11 hown hK hP hD hS 0 (wR_0 y a z9) rfl 2 (by decide) (hts (.fieldLink RX11 75 "WorksDeskModel" "itemMany" "I") (List.mem_of_getElem? (i := 9) rfl)) (fun _ h9 => h9) rfl (tyX11_ok 2 (by decide)) rfl rfl (Nat.le_of_ble_eq_true rfl) dX11_bill_201 (fun H locs hP hD hS => ?_)
      obtain ⟨z10, hP, hD, hm⟩ := zz_up (w := wR y a) (wR_f2 y a z9 v1) hP hD hm
      refine lv_iconst (v := (0 : Int32)) hx hb dX11_bill_204 (by decide) ?_
      refine lv_istore_n (lv' := [(2, .int (0 : Int32)), (0, .ref (a 0)), (1, .int v1)]) hx hb dX11_bill_205 rfl hl (by decide) rfl (fun ls hl => ?_)
      have j := J206 zz_N v1 (0 : Int32) z10 hm
      rw [hG] at j
      exact j H locs ls hP hD hS (lv_sub hl [1, 2, 0] rfl)
    · replace hm := zz_neg c6 hm
      refine lv_iconst (v := (-1 : Int32)) hx hb dX11_bill_188 (by decide) ?_
      refine lv_aload_n hx hb dX11_bill_189 rfl (lv_at hl 0 rfl) ?_
      refine va_get (D := D) (ci := 11) (v := .int (z.2.2.1 22)) (C := RX11) (T := TX11) (N := 35) hx hb hts nX11_bill_X11 hown hK hP 0 (wR_0 y a z) rfl 22 (by decide) (hts (.fieldLink RX11 118 "WorksDeskModel" "wrong" "I") (List.mem_of_getElem? (i := 5) rfl)) (fun _ h9 => h9) rfl dX11_bill_190 ?_
      refine lv_isub hx hb dX11_bill_193 ?_
      exact zz_iret hx hb hr hlocks (zz_some2 hm) hP hK hD hS dX11_bill_194
  have J109 : ∀ (k30 : Int32 → zz_M → Option (Int32 × zz_M)) (K30 : ∀ (v1 : Int32) (z : zz_M), k30 v1 z = some (r, zt) → G 30 [(0, .ref (a 0)), (1, .int v1)] [] z) (v1 : Int32) (z : zz_M), mX11_bill_b109 k30 v1 z = some (r, zt) → G 109 [(0, .ref (a 0)), (1, .int v1)] [] z := by
    intro k30 K30 v1 z hm
    rw [mX11_bill_b109] at hm
    rw [hG]
    intro H locs ls hP hD hS hl
    refine lv_aload_n hx hb dX11_bill_109 rfl (lv_at hl 0 rfl) ?_
    refine va_get (D := D) (ci := 11) (v := .ref (a 11)) (C := RX11) (T := TX11) (N := 35) hx hb hts nX11_bill_X11 hown hK hP 0 (wR_0 y a z) rfl 23 (by decide) (hts (.fieldLink RX11 42 "WorksDeskModel" "read" "[I") (List.mem_of_getElem? (i := 8) rfl)) (fun _ h9 => h9) rfl dX11_bill_110 ?_
    refine lv_iconst (v := (3 : Int32)) hx hb dX11_bill_113 (by decide) ?_
    refine lv_iload_n hx hb dX11_bill_114 rfl (lv_at hl 1 rfl) ?_
    refine lv_imul hx hb dX11_bill_115 ?_
    refine lv_aload_n hx hb dX11_bill_116 rfl (lv_at hl 0 rfl) ?_
    obtain ⟨r11, h12, hm⟩ := zz_b1_some hm
    refine zz_calli (zz_runV (w := wR y a) (As := []) (rest := [.int ((3 : Int32) * v1), .ref (a 11)]) ⟨hx, hb, hml, hown, hts⟩ (zX11_here l D y a H.size z h12) (cwV 0 hts gX11_bill_X11_here rfl rfl rfl zdX11_here ⟨Nat.le_of_ble_eq_true rfl, Nat.le_of_ble_eq_true rfl⟩) hK hN hg hP hD hS hA 0 (wR_0 y a z) rfl rfl hl.1 rfl (Nat.le_of_ble_eq_true rfl) dX11_bill_117 ⟨Nat.le_of_ble_eq_true rfl, Nat.le_of_ble_eq_true rfl⟩) hD hS hA (fun H locs hP hD hS => ?_)
    refine lv_bipush (v := (48 : Int32)) hx hb dX11_bill_120 (by decide) ?_
    refine lv_isub hx hb dX11_bill_122 ?_
    obtain ⟨c13, hm⟩ := zz_ck_some hm
    refine va_iast hx hb hK hP hD hS 11 0 (wR_11 y a z) rfl c13 dX11_bill_123 (fun H locs hP hD hS => ?_)
    obtain ⟨z14, hP, hD, hm⟩ := zz_up (w := wR y a) (wR_w11 y a z ((3 : Int32) * v1) (r11 - (48 : Int32))) hP hD hm
    refine lv_aload_n hx hb dX11_bill_124 rfl (lv_at hl 0 rfl) ?_
    refine lv_dup hx hb dX11_bill_125 rfl ?_
    refine va_get (D := D) (ci := 11) (v := .int (z14.2.2.1 21)) (C := RX11) (T := TX11) (N := 35) hx hb hts nX11_bill_X11 hown hK hP 0 (wR_0 y a z14) rfl 21 (by decide) (hts (.fieldLink RX11 112 "WorksDeskModel" "at" "I") (List.mem_of_getElem? (i := 4) rfl)) (fun _ h9 => h9) rfl dX11_bill_126 ?_
    refine lv_iconst (v := (1 : Int32)) hx hb dX11_bill_129 (by decide) ?_
    refine lv_iadd hx hb dX11_bill_130 ?_
    refine va_put (D := D) (ci := 11) (v := .int ((z14.2.2.1 21) + (1 : Int32))) (ty := .int) (C := RX11) (T := TX11) (N := 35) hx hb hts nX11_bill_X11 tyX11 tyX11_ok nmX11 hown hK hP hD hS 0 (wR_0 y a z14) rfl 21 (by decide) (hts (.fieldLink RX11 112 "WorksDeskModel" "at" "I") (List.mem_of_getElem? (i := 4) rfl)) (fun _ h9 => h9) rfl (tyX11_ok 21 (by decide)) rfl rfl (Nat.le_of_ble_eq_true rfl) dX11_bill_131 (fun H locs hP hD hS => ?_)
    obtain ⟨z15, hP, hD, hm⟩ := zz_up (w := wR y a) (wR_f21 y a z14 ((z14.2.2.1 21) + (1 : Int32))) hP hD hm
    refine lv_aload_n hx hb dX11_bill_134 rfl (lv_at hl 0 rfl) ?_
    refine lv_bipush (v := (58 : Int32)) hx hb dX11_bill_135 (by decide) ?_
    obtain ⟨r16, z18, h17, hm⟩ := zz_b2_some hm
    refine zz_callv (zz_runV (w := wR y a) (As := [.int (58 : Int32)]) (rest := []) ⟨hx, hb, hml, hown, hts⟩ (zX11_expect l D y a H.size (58 : Int32) z15 h17) (cwV 1 hts gX11_bill_X11_expect rfl rfl rfl zdX11_expect ⟨Nat.le_of_ble_eq_true rfl, Nat.le_of_ble_eq_true rfl⟩) hK hN hg hP hD hS hA 0 (wR_0 y a z15) rfl rfl hl.1 rfl (Nat.le_of_ble_eq_true rfl) dX11_bill_137 ⟨Nat.le_of_ble_eq_true rfl, Nat.le_of_ble_eq_true rfl⟩) hD hS hA (fun H locs hP hD hS => ?_)
    refine lv_aload_n hx hb dX11_bill_140 rfl (lv_at hl 0 rfl) ?_
    refine va_get (D := D) (ci := 11) (v := .ref (a 11)) (C := RX11) (T := TX11) (N := 35) hx hb hts nX11_bill_X11 hown hK hP 0 (wR_0 y a z18) rfl 23 (by decide) (hts (.fieldLink RX11 42 "WorksDeskModel" "read" "[I") (List.mem_of_getElem? (i := 8) rfl)) (fun _ h9 => h9) rfl dX11_bill_141 ?_
    refine lv_iconst (v := (3 : Int32)) hx hb dX11_bill_144 (by decide) ?_
    refine lv_iload_n hx hb dX11_bill_145 rfl (lv_at hl 1 rfl) ?_
    refine lv_imul hx hb dX11_bill_146 ?_
    refine lv_iconst (v := (1 : Int32)) hx hb dX11_bill_147 (by decide) ?_
    refine lv_iadd hx hb dX11_bill_148 ?_
    refine lv_aload_n hx hb dX11_bill_149 rfl (lv_at hl 0 rfl) ?_
    obtain ⟨r19, z21, h20, hm⟩ := zz_b2_some hm
    refine zz_calli (zz_runV (w := wR y a) (As := []) (rest := [.int (((3 : Int32) * v1) + (1 : Int32)), .ref (a 11)]) ⟨hx, hb, hml, hown, hts⟩ (zX11_number l D y a H.size z18 h20) (cwV 0 hts gX11_bill_X11_number rfl rfl rfl zdX11_number ⟨Nat.le_of_ble_eq_true rfl, Nat.le_of_ble_eq_true rfl⟩) hK hN hg hP hD hS hA 0 (wR_0 y a z18) rfl rfl hl.1 rfl (Nat.le_of_ble_eq_true rfl) dX11_bill_150 ⟨Nat.le_of_ble_eq_true rfl, Nat.le_of_ble_eq_true rfl⟩) hD hS hA (fun H locs hP hD hS => ?_)
    obtain ⟨c22, hm⟩ := zz_ck_some hm
    refine va_iast hx hb hK hP hD hS 11 0 (wR_11 y a z21) rfl c22 dX11_bill_153 (fun H locs hP hD hS => ?_)
    obtain ⟨z23, hP, hD, hm⟩ := zz_up (w := wR y a) (wR_w11 y a z21 (((3 : Int32) * v1) + (1 : Int32)) r19) hP hD hm
    refine lv_aload_n hx hb dX11_bill_154 rfl (lv_at hl 0 rfl) ?_
    refine lv_bipush (v := (42 : Int32)) hx hb dX11_bill_155 (by decide) ?_
    obtain ⟨r24, z26, h25, hm⟩ := zz_b2_some hm
    refine zz_callv (zz_runV (w := wR y a) (As := [.int (42 : Int32)]) (rest := []) ⟨hx, hb, hml, hown, hts⟩ (zX11_expect l D y a H.size (42 : Int32) z23 h25) (cwV 1 hts gX11_bill_X11_expect rfl rfl rfl zdX11_expect ⟨Nat.le_of_ble_eq_true rfl, Nat.le_of_ble_eq_true rfl⟩) hK hN hg hP hD hS hA 0 (wR_0 y a z23) rfl rfl hl.1 rfl (Nat.le_of_ble_eq_true rfl) dX11_bill_157 ⟨Nat.le_of_ble_eq_true rfl, Nat.le_of_ble_eq_true rfl⟩) hD hS hA (fun H locs hP hD hS => ?_)
    refine lv_aload_n hx hb dX11_bill_160 rfl (lv_at hl 0 rfl) ?_
    refine va_get (D := D) (ci := 11) (v := .ref (a 11)) (C := RX11) (T := TX11) (N := 35) hx hb hts nX11_bill_X11 hown hK hP 0 (wR_0 y a z26) rfl 23 (by decide) (hts (.fieldLink RX11 42 "WorksDeskModel" "read" "[I") (List.mem_of_getElem? (i := 8) rfl)) (fun _ h9 => h9) rfl dX11_bill_161 ?_
    refine lv_iconst (v := (3 : Int32)) hx hb dX11_bill_164 (by decide) ?_
    refine lv_iload_n hx hb dX11_bill_165 rfl (lv_at hl 1 rfl) ?_
    refine lv_imul hx hb dX11_bill_166 ?_
    refine lv_iconst (v := (2 : Int32)) hx hb dX11_bill_167 (by decide) ?_
    refine lv_iadd hx hb dX11_bill_168 ?_
    refine lv_aload_n hx hb dX11_bill_169 rfl (lv_at hl 0 rfl) ?_
    obtain ⟨r27, z29, h28, hm⟩ := zz_b2_some hm
    refine zz_calli (zz_runV (w := wR y a) (As := []) (rest := [.int (((3 : Int32) * v1) + (2 : Int32)), .ref (a 11)]) ⟨hx, hb, hml, hown, hts⟩ (zX11_number l D y a H.size z26 h28) (cwV 0 hts gX11_bill_X11_number rfl rfl rfl zdX11_number ⟨Nat.le_of_ble_eq_true rfl, Nat.le_of_ble_eq_true rfl⟩) hK hN hg hP hD hS hA 0 (wR_0 y a z26) rfl rfl hl.1 rfl (Nat.le_of_ble_eq_true rfl) dX11_bill_170 ⟨Nat.le_of_ble_eq_true rfl, Nat.le_of_ble_eq_true rfl⟩) hD hS hA (fun H locs hP hD hS => ?_)
    obtain ⟨c30, hm⟩ := zz_ck_some hm
    refine va_iast hx hb hK hP hD hS 11 0 (wR_11 y a z29) rfl c30 dX11_bill_173 (fun H locs hP hD hS => ?_)
    obtain ⟨z31, hP, hD, hm⟩ := zz_up (w := wR y a) (wR_w11 y a z29 (((3 : Int32) * v1) + (2 : Int32)) r27) hP hD hm
    obtain ⟨n32, en32⟩ : ∃ q : Int32, q = v1 + (1 : Int32) := ⟨_, rfl⟩
    replace hm := zz_nm_some en32 hm
    refine lv_iinc (v := n32) (lv' := [(1, .int n32), (0, .ref (a 0))]) hx hb dX11_bill_174 hl (k := 1) rfl (by rw [en32]; rfl) (by decide) rfl (fun ls hl => ?_)
    refine lv_goto (tgt := 30) hx hb dX11_bill_177 (by decide) ?_
    have j := K30 n32 z31 hm
    rw [hG] at j
    exact j H locs ls hP hD hS (lv_sub hl [1, 0] rfl)
  have J73 : ∀ (k30 : Int32 → zz_M → Option (Int32 × zz_M)) (K30 : ∀ (v1 : Int32) (z : zz_M), k30 v1 z = some (r, zt) → G 30 [(0, .ref (a 0)), (1, .int v1)] [] z) (v1 : Int32) (z : zz_M), mX11_bill_b73 k30 v1 z = some (r, zt) → G 73 [(0, .ref (a 0)), (1, .int v1)] [] z := by
    intro k30 K30 v1 z hm
    rw [mX11_bill_b73] at hm
    rw [hG]
    intro H locs ls hP hD hS hl
    refine lv_aload_n hx hb dX11_bill_73 rfl (lv_at hl 0 rfl) ?_
    refine va_get (D := D) (ci := 11) (v := .int (z.2.2.1 22)) (C := RX11) (T := TX11) (N := 35) hx hb hts nX11_bill_X11 hown hK hP 0 (wR_0 y a z) rfl 22 (by decide) (hts (.fieldLink RX11 118 "WorksDeskModel" "wrong" "I") (List.mem_of_getElem? (i := 5) rfl)) (fun _ h9 => h9) rfl dX11_bill_74 ?_
    refine lv_iconst (v := (-1 : Int32)) hx hb dX11_bill_77 (by decide) ?_
    refine lv_icmp_eq (tgt := 84) hx hb dX11_bill_78 (by decide) (fun c33 => ?_) (fun c33 => ?_)
    · replace hm := zz_pos c33 hm
      refine lv_aload_n hx hb dX11_bill_84 rfl (lv_at hl 0 rfl) ?_
      obtain ⟨r34, h35, hm⟩ := zz_b1_some hm
      refine zz_calli (zz_runV (w := wR y a) (As := []) (rest := []) ⟨hx, hb, hml, hown, hts⟩ (zX11_here l D y a H.size z h35) (cwV 0 hts gX11_bill_X11_here rfl rfl rfl zdX11_here ⟨Nat.le_of_ble_eq_true rfl, Nat.le_of_ble_eq_true rfl⟩) hK hN hg hP hD hS hA 0 (wR_0 y a z) rfl rfl hl.1 rfl (Nat.le_of_ble_eq_true rfl) dX11_bill_85 ⟨Nat.le_of_ble_eq_true rfl, Nat.le_of_ble_eq_true rfl⟩) hD hS hA (fun H locs hP hD hS => ?_)
      refine lv_i2l hx hb dX11_bill_88 rfl ?_
      refine lv_ldc2 (v := (48 : Int64)) hx hb hown (hts (.constantLong RX11 129 (48)) (List.mem_of_getElem? (i := 6) rfl)) dX11_bill_89 ?_
      refine lv_ldc2 (v := (52 : Int64)) hx hb hown (hts (.constantLong RX11 137 (52)) (List.mem_of_getElem? (i := 7) rfl)) dX11_bill_92 ?_
      obtain ⟨r36, h37, hm⟩ := zz_b1_some hm
      refine zz_calli (zz_runS (w := wR y a) (As := [.long r34.toInt64, .long (48 : Int64), .long (52 : Int64)]) (rest := []) ⟨hx, hb, hml, hown, hts⟩ (zX11_in l D y a H.size r34.toInt64 (48 : Int64) (52 : Int64) z h37) (va_cwS 3 hts gX11_bill_X11_in rfl rfl rfl zdX11_in ⟨Nat.le_of_ble_eq_true rfl, Nat.le_of_ble_eq_true rfl⟩) hK hN hg hP hD hS hA rfl hl.1 rfl (Nat.le_of_ble_eq_true rfl) dX11_bill_95 ⟨Nat.le_of_ble_eq_true rfl, Nat.le_of_ble_eq_true rfl⟩) hD hS hA (fun H locs hP hD hS => ?_)
      refine lv_if_ne (tgt := 109) hx hb dX11_bill_98 (by decide) (fun c38 => ?_) (fun c38 => ?_)
      · replace hm := zz_neg c38 hm
        have j := J109 k30 K30 v1 z hm
        rw [hG] at j
        exact j H locs ls hP hD hS (lv_sub hl [0, 1] rfl)
      · replace hm := zz_pos c38 hm
        refine lv_aload_n hx hb dX11_bill_101 rfl (lv_at hl 0 rfl) ?_
        refine lv_aload_n hx hb dX11_bill_102 rfl (lv_at hl 0 rfl) ?_
        refine va_get (D := D) (ci := 11) (v := .int (z.2.2.1 21)) (C := RX11) (T := TX11) (N := 35) hx hb hts nX11_bill_X11 hown hK hP 0 (wR_0 y a z) rfl 21 (by decide) (hts (.fieldLink RX11 112 "WorksDeskModel" "at" "I") (List.mem_of_getElem? (i := 4) rfl)) (fun _ h9 => h9) rfl dX11_bill_103 ?_
        obtain ⟨r39, z41, h40, hm⟩ := zz_b2_some hm
        refine zz_callv (zz_runV (w := wR y a) (As := [.int (z.2.2.1 21)]) (rest := []) ⟨hx, hb, hml, hown, hts⟩ (zX11_fault l D y a H.size (z.2.2.1 21) z h40) (cwV 1 hts gX11_bill_X11_fault rfl rfl rfl zdX11_fault ⟨Nat.le_of_ble_eq_true rfl, Nat.le_of_ble_eq_true rfl⟩) hK hN hg hP hD hS hA 0 (wR_0 y a z) rfl rfl hl.1 rfl (Nat.le_of_ble_eq_true rfl) dX11_bill_106 ⟨Nat.le_of_ble_eq_true rfl, Nat.le_of_ble_eq_true rfl⟩) hD hS hA (fun H locs hP hD hS => ?_)
        have j := J109 k30 K30 v1 z41 hm
        rw [hG] at j
        exact j H locs ls hP hD hS (lv_sub hl [0, 1] rfl)
    · replace hm := zz_neg c33 hm
      refine lv_goto (tgt := 30) hx hb dX11_bill_81 (by decide) ?_
      have j := K30 v1 z hm
      rw [hG] at j
      exact j H locs ls hP hD hS (lv_sub hl [0, 1] rfl)
  have J67 : ∀ (k30 : Int32 → zz_M → Option (Int32 × zz_M)) (K30 : ∀ (v1 : Int32) (z : zz_M), k30 v1 z = some (r, zt) → G 30 [(0, .ref (a 0)), (1, .int v1)] [] z) (v1 : Int32) (z : zz_M), mX11_bill_b67 k30 v1 z = some (r, zt) → G 67 [(0, .ref (a 0)), (1, .int v1)] [] z := by
    intro k30 K30 v1 z hm
    rw [mX11_bill_b67] at hm
    rw [hG]
    intro H locs ls hP hD hS hl
    refine lv_aload_n hx hb dX11_bill_67 rfl (lv_at hl 0 rfl) ?_
    refine lv_bipush (v := (59 : Int32)) hx hb dX11_bill_68 (by decide) ?_
    obtain ⟨r42, z44, h43, hm⟩ := zz_b2_some hm
    refine zz_callv (zz_runV (w := wR y a) (As := [.int (59 : Int32)]) (rest := []) ⟨hx, hb, hml, hown, hts⟩ (zX11_expect l D y a H.size (59 : Int32) z h43) (cwV 1 hts gX11_bill_X11_expect rfl rfl rfl zdX11_expect ⟨Nat.le_of_ble_eq_true rfl, Nat.le_of_ble_eq_true rfl⟩) hK hN hg hP hD hS hA 0 (wR_0 y a z) rfl rfl hl.1 rfl (Nat.le_of_ble_eq_true rfl) dX11_bill_70 ⟨Nat.le_of_ble_eq_true rfl, Nat.le_of_ble_eq_true rfl⟩) hD hS hA (fun H locs hP hD hS => ?_)
    have j := J73 k30 K30 v1 z44 hm
    rw [hG] at j
    exact j H locs ls hP hD hS (lv_sub hl [0, 1] rfl)
  have J30 : ∀ (n : Nat) (v1 : Int32) (z : zz_M), mX11_bill_b30 n v1 z = some (r, zt) → G 30 [(0, .ref (a 0)), (1, .int v1)] [] z := by
    intro n
    induction n with
    | zero =>
      intro v1 z hm
      exact zz_none hm
    | succ n ih =>
      intro v1 z hm
      rw [mX11_bill_b30] at hm
      rw [hG]
      intro H locs ls hP hD hS hl
      refine lv_aload_n hx hb dX11_bill_30 rfl (lv_at hl 0 rfl) ?_
      refine va_get (D := D) (ci := 11) (v := .int (z.2.2.1 22)) (C := RX11) (T := TX11) (N := 35) hx hb hts nX11_bill_X11 hown hK hP 0 (wR_0 y a z) rfl 22 (by decide) (hts (.fieldLink RX11 118 "WorksDeskModel" "wrong" "I") (List.mem_of_getElem? (i := 5) rfl)) (fun _ h9 => h9) rfl dX11_bill_31 ?_
      refine lv_iconst (v := (-1 : Int32)) hx hb dX11_bill_34 (by decide) ?_
      refine lv_icmp_ne (tgt := 180) hx hb dX11_bill_35 (by decide) (fun c45 => ?_) (fun c45 => ?_)
      · replace hm := zz_neg c45 hm
        have j := J180 v1 z hm
        rw [hG] at j
        exact j H locs ls hP hD hS (lv_sub hl [0, 1] rfl)
      · replace hm := zz_pos c45 hm
        refine lv_aload_n hx hb dX11_bill_38 rfl (lv_at hl 0 rfl) ?_
        refine va_get (D := D) (ci := 11) (v := .int (z.2.2.1 21)) (C := RX11) (T := TX11) (N := 35) hx hb hts nX11_bill_X11 hown hK hP 0 (wR_0 y a z) rfl 21 (by decide) (hts (.fieldLink RX11 112 "WorksDeskModel" "at" "I") (List.mem_of_getElem? (i := 4) rfl)) (fun _ h9 => h9) rfl dX11_bill_39 ?_
        refine lv_aload_n hx hb dX11_bill_42 rfl (lv_at hl 0 rfl) ?_
        refine va_get (D := D) (ci := 11) (v := .int (z.2.2.1 20)) (C := RX11) (T := TX11) (N := 35) hx hb hts nX11_bill_X11 hown hK hP 0 (wR_0 y a z) rfl 20 (by decide) (hts (.fieldLink RX11 115 "WorksDeskModel" "length" "I") (List.mem_of_getElem? (i := 3) rfl)) (fun _ h9 => h9) rfl dX11_bill_43 ?_
        refine lv_icmp_ge (tgt := 180) hx hb dX11_bill_46 (by decide) (fun c46 => ?_) (fun c46 => ?_)
        · replace hm := zz_pos c46 hm
          have j := J180 v1 z hm
          rw [hG] at j
          exact j H locs ls hP hD hS (lv_sub hl [0, 1] rfl)
        · replace hm := zz_neg c46 hm
          refine lv_iload_n hx hb dX11_bill_49 rfl (lv_at hl 1 rfl) ?_
          refine lv_if_le (tgt := 73) hx hb dX11_bill_50 (by decide) (fun c47 => ?_) (fun c47 => ?_)
          · replace hm := zz_pos c47 hm
            have j := J73 (mX11_bill_b30 n) ih v1 z hm
            rw [hG] at j
            exact j H locs ls hP hD hS (lv_sub hl [0, 1] rfl)
          · replace hm := zz_neg c47 hm
            refine lv_iload_n hx hb dX11_bill_53 rfl (lv_at hl 1 rfl) ?_
            refine lv_bipush (v := (10 : Int32)) hx hb dX11_bill_54 (by decide) ?_
            refine lv_icmp_ne (tgt := 67) hx hb dX11_bill_56 (by decide) (fun c48 => ?_) (fun c48 => ?_)
            · replace hm := zz_neg c48 hm
              have j := J67 (mX11_bill_b30 n) ih v1 z hm
              rw [hG] at j
              exact j H locs ls hP hD hS (lv_sub hl [0, 1] rfl)
            · replace hm := zz_pos c48 hm
              refine lv_aload_n hx hb dX11_bill_59 rfl (lv_at hl 0 rfl) ?_
              refine lv_aload_n hx hb dX11_bill_60 rfl (lv_at hl 0 rfl) ?_
              refine va_get (D := D) (ci := 11) (v := .int (z.2.2.1 21)) (C := RX11) (T := TX11) (N := 35) hx hb hts nX11_bill_X11 hown hK hP 0 (wR_0 y a z) rfl 21 (by decide) (hts (.fieldLink RX11 112 "WorksDeskModel" "at" "I") (List.mem_of_getElem? (i := 4) rfl)) (fun _ h9 => h9) rfl dX11_bill_61 ?_
              obtain ⟨r49, z51, h50, hm⟩ := zz_b2_some hm
              refine zz_callv (zz_runV (w := wR y a) (As := [.int (z.2.2.1 21)]) (rest := []) ⟨hx, hb, hml, hown, hts⟩ (zX11_fault l D y a H.size (z.2.2.1 21) z h50) (cwV 1 hts gX11_bill_X11_fault rfl rfl rfl zdX11_fault ⟨Nat.le_of_ble_eq_true rfl, Nat.le_of_ble_eq_true rfl⟩) hK hN hg hP hD hS hA 0 (wR_0 y a z) rfl rfl hl.1 rfl (Nat.le_of_ble_eq_true rfl) dX11_bill_64 ⟨Nat.le_of_ble_eq_true rfl, Nat.le_of_ble_eq_true rfl⟩) hD hS hA (fun H locs hP hD hS => ?_)
              have j := J67 (mX11_bill_b30 n) ih v1 z51 hm
              rw [hG] at j
              exact j H locs ls hP hD hS (lv_sub hl [0, 1] rfl)
  rw [hG]
  intro H locs ls hP hD hS hl
  unfold mX11_bill at hm
  refine lv_aload_n hx hb dX11_bill_0 rfl (lv_at hl 0 rfl) ?_
  refine lv_iconst (v := (0 : Int32)) hx hb dX11_bill_1 (by decide) ?_
  refine va_put (D := D) (ci := 11) (v := .int (0 : Int32)) (ty := .int) (C := RX11) (T := TX11) (N := 35) hx hb hts nX11_bill_X11 tyX11 tyX11_ok nmX11 hown hK hP hD hS 0 (wR_0 y a z) rfl 19 (by decide) (hts (.fieldLink RX11 97 "WorksDeskModel" "thrown" "I") (List.mem_of_getElem? (i := 1) rfl)) (fun _ h9 => h9) rfl (tyX11_ok 19 (by decide)) rfl rfl (Nat.le_of_ble_eq_true rfl) dX11_bill_2 (fun H locs hP hD hS => ?_)
  obtain ⟨z52, hP, hD, hm⟩ := zz_up (w := wR y a) (wR_f19 y a z (0 : Int32)) hP hD hm
  refine lv_aload_n hx hb dX11_bill_5 rfl (lv_at hl 0 rfl) ?_
  refine lv_aload_n hx hb dX11_bill_6 rfl (lv_at hl 0 rfl) ?_
  refine va_get (D := D) (ci := 11) (v := .int (z52.2.2.1 16)) (C := RX11) (T := TX11) (N := 35) hx hb hts nX11_bill_X11 hown hK hP 0 (wR_0 y a z52) rfl 16 (by decide) (hts (.fieldLink RX11 109 "WorksDeskModel" "typed" "I") (List.mem_of_getElem? (i := 2) rfl)) (fun _ h9 => h9) rfl dX11_bill_7 ?_
  refine va_put (D := D) (ci := 11) (v := .int (z52.2.2.1 16)) (ty := .int) (C := RX11) (T := TX11) (N := 35) hx hb hts nX11_bill_X11 tyX11 tyX11_ok nmX11 hown hK hP hD hS 0 (wR_0 y a z52) rfl 20 (by decide) (hts (.fieldLink RX11 115 "WorksDeskModel" "length" "I") (List.mem_of_getElem? (i := 3) rfl)) (fun _ h9 => h9) rfl (tyX11_ok 20 (by decide)) rfl rfl (Nat.le_of_ble_eq_true rfl) dX11_bill_10 (fun H locs hP hD hS => ?_)
  obtain ⟨z53, hP, hD, hm⟩ := zz_up (w := wR y a) (wR_f20 y a z52 (z52.2.2.1 16)) hP hD hm
  refine lv_aload_n hx hb dX11_bill_13 rfl (lv_at hl 0 rfl) ?_
  refine lv_iconst (v := (0 : Int32)) hx hb dX11_bill_14 (by decide) ?_
  refine va_put (D := D) (ci := 11) (v := .int (0 : Int32)) (ty := .int) (C := RX11) (T := TX11) (N := 35) hx hb hts nX11_bill_X11 tyX11 tyX11_ok nmX11 hown hK hP hD hS 0 (wR_0 y a z53) rfl 16 (by decide) (hts (.fieldLink RX11 109 "WorksDeskModel" "typed" "I") (List.mem_of_getElem? (i := 2) rfl)) (fun _ h9 => h9) rfl (tyX11_ok 16 (by decide)) rfl rfl (Nat.le_of_ble_eq_true rfl) dX11_bill_15 (fun H locs hP hD hS => ?_)
  obtain ⟨z54, hP, hD, hm⟩ := zz_up (w := wR y a) (wR_f16 y a z53 (0 : Int32)) hP hD hm
  refine lv_aload_n hx hb dX11_bill_18 rfl (lv_at hl 0 rfl) ?_
  refine lv_iconst (v := (0 : Int32)) hx hb dX11_bill_19 (by decide) ?_
  refine va_put (D := D) (ci := 11) (v := .int (0 : Int32)) (ty := .int) (C := RX11) (T := TX11) (N := 35) hx hb hts nX11_bill_X11 tyX11 tyX11_ok nmX11 hown hK hP hD hS 0 (wR_0 y a z54) rfl 21 (by decide) (hts (.fieldLink RX11 112 "WorksDeskModel" "at" "I") (List.mem_of_getElem? (i := 4) rfl)) (fun _ h9 => h9) rfl (tyX11_ok 21 (by decide)) rfl rfl (Nat.le_of_ble_eq_true rfl) dX11_bill_20 (fun H locs hP hD hS => ?_)
  obtain ⟨z55, hP, hD, hm⟩ := zz_up (w := wR y a) (wR_f21 y a z54 (0 : Int32)) hP hD hm
  refine lv_aload_n hx hb dX11_bill_23 rfl (lv_at hl 0 rfl) ?_
  refine lv_iconst (v := (-1 : Int32)) hx hb dX11_bill_24 (by decide) ?_
  refine va_put (D := D) (ci := 11) (v := .int (-1 : Int32)) (ty := .int) (C := RX11) (T := TX11) (N := 35) hx hb hts nX11_bill_X11 tyX11 tyX11_ok nmX11 hown hK hP hD hS 0 (wR_0 y a z55) rfl 22 (by decide) (hts (.fieldLink RX11 118 "WorksDeskModel" "wrong" "I") (List.mem_of_getElem? (i := 5) rfl)) (fun _ h9 => h9) rfl (tyX11_ok 22 (by decide)) rfl rfl (Nat.le_of_ble_eq_true rfl) dX11_bill_25 (fun H locs hP hD hS => ?_)
  obtain ⟨z56, hP, hD, hm⟩ := zz_up (w := wR y a) (wR_f22 y a z55 (-1 : Int32)) hP hD hm
  refine lv_iconst (v := (0 : Int32)) hx hb dX11_bill_28 (by decide) ?_
  refine lv_istore_n (lv' := [(1, .int (0 : Int32)), (0, .ref (a 0))]) hx hb dX11_bill_29 rfl hl (by decide) rfl (fun ls hl => ?_)
  have j := J30 zz_N (0 : Int32) z56 hm
  rw [hG] at j
  exact j H locs ls hP hD hS (lv_sub hl [1, 0] rfl)
def mX11_isKind (x0 : Int32) : Option Int32 := zz_b1 (mX11_in x0.toInt64 (0 : Int64) (4 : Int64)) (fun r1 => zz_ck (zz_bool r1) (some r1))
theorem zdX11_isKind : yX11_isKind.cls ≠ "java/lang/invoke/MethodHandle" ∧ yX11_isKind.cls ≠ "java/lang/invoke/VarHandle" ∧ (parseMethodDescriptor yX11_isKind.desc).map (fun d => d.parameters.length) = some 1 := by decide +kernel
set_option maxHeartbeats 4000000 in
set_option maxRecDepth 100000 in
theorem zX11_isKind (l : Launch) (D : va_G) (y : Nat → ClassId) (a : Nat → Nat) (sz : Nat) (x0 : Int32) (z : zz_M) {r : Int32} (hm : mX11_isKind x0 = some r) : Met l yX11_isKind wsX11_isKind { frames := 1, cells := 0, slots := 0, locals := 25 } (zz_Pc D y (wR y a z) sz [.int x0]) (zz_Qi D y (wR y a) (va_A (wR y a z) sz) r z) 0 0 (va_A (wR y a z) sz) := by
  refine Met.ofW (cc := cX11_isKind) (maxL := 1) (ret := (some .boolean)) (by decide) rfl ?_
  intro p e s m args below meth c s₁ B hml hv
  obtain ⟨rfl, hsz, hP, hK, hD0, hN, hg⟩ := hv
  have hx := B.exec
  have hb := B.bytes
  have hr := B.returns
  have hts := atoms_spec (ws := wsX11_isKind) B.pre
  have hown : s.vm.findClass RX11 = some m.cls := findClass_of_methodNamed B.named
  have hlocks := B.notSynchronized
  clear B
  subst hsz
  have hD := hD0.self (sz := s.heap.size)
  generalize hAe : va_A (wR y a z) s.heap.size = A at hD hg ⊢
  have hA : ∀ q : Nat, s.heap.size ≤ q → A q := fun q h => by rw [← hAe]; exact Or.inr h
  clear hAe hD0
  have hl := lv_entry ([.int x0]) (n := 1) (Nat.le_of_ble_eq_true rfl)
  rw [lg_entry_eq]
  generalize (lg_sl ([.int x0]) ++ List.replicate (1 - (lg_sl ([.int x0])).length) Slot.unset).toArray = ls at hl ⊢
  replace hl : lv_has ls 1 [(0, .int x0)] := hl
  refine zz_go (w := wR y a) hP hD va_S.rf hl (fun G hG => ?_)
  clear hP hD hl ls
  rw [hG]
  intro H locs ls hP hD hS hl
  unfold mX11_isKind at hm
  refine lv_iload_n hx hb dX11_isKind_0 rfl (lv_at hl 0 rfl) ?_
  refine lv_i2l hx hb dX11_isKind_1 rfl ?_
  refine lv_lconst (v := (0 : Int64)) hx hb dX11_isKind_2 (by decide) ?_
  refine lv_ldc2 (v := (4 : Int64)) hx hb hown (hts (.constantLong RX11 174 (4)) (List.mem_of_getElem? (i := 1) rfl)) dX11_isKind_3 ?_
  obtain ⟨r1, h2, hm⟩ := zz_b1_some hm
  refine zz_calli (zz_runS (w := wR y a) (As := [.long x0.toInt64, .long (0 : Int64), .long (4 : Int64)]) (rest := []) ⟨hx, hb, hml, hown, hts⟩ (zX11_in l D y a H.size x0.toInt64 (0 : Int64) (4 : Int64) z h2) (va_cwS 3 hts gX11_isKind_X11_in rfl rfl rfl zdX11_in ⟨Nat.le_of_ble_eq_true rfl, Nat.le_of_ble_eq_true rfl⟩) hK hN hg hP hD hS hA rfl hl.1 rfl (Nat.le_of_ble_eq_true rfl) dX11_isKind_6 ⟨Nat.le_of_ble_eq_true rfl, Nat.le_of_ble_eq_true rfl⟩) hD hS hA (fun H locs hP hD hS => ?_)
  obtain ⟨c3, hm⟩ := zz_ck_some hm
  exact zz_zret hx hb hr hlocks c3 ⟨zz_some1 hm, rfl⟩ hP hK hD hS dX11_isKind_9
