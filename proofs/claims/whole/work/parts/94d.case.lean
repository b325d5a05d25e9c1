set_option maxHeartbeats 4000000 in
set_option maxRecDepth 100000 in
theorem Lc_amount {p : Program} {l : Launch} {e : Env} {s : State} {m : MethodId} {below : List Frame} {meth : Method} {c : Code} {b L : Nat} {xs : Nat → Int32} (hst : l.stackTraces = false) (hL : L ≤ 2560) (C0 : lw_At p s m meth c b L xs) {D : va_G} {y : Nat → ClassId} (hK : va_K D vwCl (zz_ty y) s) (hN : zz_nw s) (hg : zz_gr (fun q : Nat => s.heap.size ≤ q) s s.heap) (hxx : zz_ex (fun q : Nat => s.heap.size ≤ q) s s.heap) {a a2 : Nat → Nat} {r0 : Nat} {z t : zz_M} {o : Nat → Int64} (hR : zR z t) {i : Nat} (hi : i + 4 < L) {H : Heap} {locs : List Loc} {ls : Array Slot} {cells slots : Nat} (hroom : cells + 1 ≤ 601024 ∧ slots + 6 ≤ 7293034) (hP : va_P D vwCl (wR y a2 t ++ (wO y r0 o ++ wC y a z)) H) (hD : va_D (fun q : Nat => s.heap.size ≤ q) (wR y a2 t ++ (wO y r0 o ++ wC y a z))) (hS : va_S (fun q : Nat => s.heap.size ≤ q) s.heap H locs) (hl : lv_has ls 8 [(0, .ref b), (1, .ref (a 0)), (2, .ref (a2 0)), (3, .ref r0), (4, .int (nI i))])
    (kk : ∀ (z : zz_M) (t : zz_M) (o : Nat → Int64) (H : Heap) (locs : List Loc) (ls : Array Slot), zR z t → va_P D vwCl (wR y a2 t ++ (wO y r0 o ++ wC y a z)) H → va_D (fun q : Nat => s.heap.size ≤ q) (wR y a2 t ++ (wO y r0 o ++ wC y a z)) → va_S (fun q : Nat => s.heap.size ≤ q) s.heap H locs → lv_has ls 8 [(0, .ref b), (1, .ref (a 0)), (2, .ref (a2 0)), (3, .ref r0), (4, .int (nI i))] → W p l e room_1 s m #[Value.ref b] below meth c H locs (cells + 1) (slots + 6) (lw_Z below #[Value.ref b] s) (F0 m 1682 ls [])) : W p l e room_1 s m #[Value.ref b] below meth c H locs cells slots (lw_Z below #[Value.ref b] s) (F0 m 854 ls []) := by
  obtain ⟨hx, hb, hr, hml, hown, hts0, hX, hbl, hlocks, hgv⟩ := C0
  have hts : ∀ w ∈ wsL_law, w.before #[Value.ref b] s = true := fun w h => hts0 w (wsL_law_in w h)
  have hA : ∀ q : Nat, s.heap.size ≤ q → (fun q : Nat => s.heap.size ≤ q) q := fun _ h => h
  have hbA : ¬ (fun q : Nat => s.heap.size ≤ q) b := Nat.not_le.mpr hbl
  by_cases hok : (0 ≤ (xs (i + 1)).toInt ∧ (xs (i + 1)).toInt ≤ 23) ∧ (0 ≤ (xs (i + 2)).toInt ∧ (xs (i + 2)).toInt ≤ 14)
  · obtain ⟨r, z9, t9, m1, m2, m4, m3, hR9⟩ := (B_amount hR (xs (i + 1)) (xs (i + 2))).1 hok
    refine lv_aload_n hx hb dL_law_854 rfl (lv_at hl 1 rfl) ?_
    refine zl_arg (k := 1) hx hb hX hbl hbA hS hL (by omega) rfl (lv_at hl 0 rfl) (lv_at hl 4 rfl) dL_law_855 dL_law_856 dL_law_858 (by decide) dL_law_859 dL_law_860 ?_
    refine zl_arg (k := 2) hx hb hX hbl hbA hS hL (by omega) rfl (lv_at hl 0 rfl) (lv_at hl 4 rfl) dL_law_861 dL_law_862 dL_law_864 (by decide) dL_law_865 dL_law_866 ?_
    refine lv_aload_n hx hb dL_law_867 rfl (lv_at hl 3 rfl) ?_
    refine zl_callL (r := (0 : Int32)) (zt := z9) (o2 := vp_updL o 0 r) (X := wR y a2 t) (vx_runSX (rest := []) ⟨hx, hb, hml, hown, hts⟩ (zL_amountK l D y a r0 H.size (xs (i + 1)) (xs (i + 2)) z o hok m1 m2) (vx_cwSW 4 hts gL_law_L_amount rfl rfl rfl zdL_amount ⟨Nat.le_of_ble_eq_true rfl, Nat.le_of_ble_eq_true rfl⟩) ⟨zz_blindX _ _ _ _ _, zz_preX [.ref (a 0), .int (xs (i + 1)), .int (xs (i + 2)), .ref r0] (zz_endP hP) hK (zz_endD hD) hN hg hxx hS hA⟩ rfl rfl hl.1 rfl (lv_room (Nat.le_of_ble_eq_true rfl)) dL_law_868 ⟨by show cells + 1 ≤ 601024; omega, by show slots + 6 ≤ 7293034; omega⟩) hP hD hS hA (fun H locs hP hD hS => ?_)
    refine lv_istore (lv' := [(5, .int (0 : Int32)), (0, .ref b), (1, .ref (a 0)), (2, .ref (a2 0)), (3, .ref r0), (4, .int (nI i))]) hx hb dL_law_871 hl (by decide) rfl (fun ls hl => ?_)
    refine lv_aload_n hx hb dL_law_873 rfl (lv_at hl 3 rfl) ?_
    refine zl_arg (k := 1) hx hb hX hbl hbA hS hL (by omega) rfl (lv_at hl 1 rfl) (lv_at hl 5 rfl) dL_law_874 dL_law_875 dL_law_877 (by decide) dL_law_878 dL_law_879 ?_
    refine zl_arg (k := 2) hx hb hX hbl hbA hS hL (by omega) rfl (lv_at hl 1 rfl) (lv_at hl 5 rfl) dL_law_880 dL_law_881 dL_law_883 (by decide) dL_law_884 dL_law_885 ?_
    have hP2 := zz_comP hP
    have hD2 := zz_comD hD
    refine zl_calll (w := wR y a2) (zt := t9) (X := wO y r0 (vp_updL o 0 r) ++ wC y a z9) (zl_runV (w := wR y a2) (X := wO y r0 (vp_updL o 0 r) ++ wC y a z9) (As := [.int (xs (i + 1)), .int (xs (i + 2))]) (rest := []) (mc := 0) (ms := 0) ⟨hx, hb, hml, hown, hts⟩ (zX11_amount l D y a2 H.size (xs (i + 1)) (xs (i + 2)) t m4) (cwV 2 hts gL_law_X11_amount rfl rfl rfl zdX11_amount ⟨Nat.le_of_ble_eq_true rfl, Nat.le_of_ble_eq_true rfl⟩) hK hN hg hP2 hD2 hS hA 0 (wR_0 y a2 t) rfl rfl hl.1 rfl (Nat.le_of_ble_eq_true rfl) dL_law_886 ⟨by show (cells + 1) + 0 ≤ 601024; omega, by show (slots + 6) + 0 ≤ 7293034; omega⟩) hP2 hD2 hS hA (fun H locs hP hD hS => ?_)
    refine lv_lstore (lv' := [(6, .long r), (5, .int (0 : Int32)), (0, .ref b), (1, .ref (a 0)), (2, .ref (a2 0)), (3, .ref r0), (4, .int (nI i))]) hx hb dL_law_889 hl (by decide) rfl (fun ls hl => ?_)
    refine lv_aload_n hx hb dL_law_891 rfl (lv_at hl 4 rfl) ?_
    refine zl_calli (w := wR y a2) (zt := t9) (X := wO y r0 (vp_updL o 0 r) ++ wC y a z9) (zl_runV (w := wR y a2) (X := wO y r0 (vp_updL o 0 r) ++ wC y a z9) (As := []) (rest := []) (mc := 0) (ms := 0) ⟨hx, hb, hml, hown, hts⟩ (zX11_thrown l D y a2 H.size t9 (r := (0 : Int32)) (by unfold mX11_thrown; rw [m3])) (cwV 0 hts gL_law_X11_thrown rfl rfl rfl zdX11_thrown ⟨Nat.le_of_ble_eq_true rfl, Nat.le_of_ble_eq_true rfl⟩) hK hN hg hP hD hS hA 0 (wR_0 y a2 t9) rfl rfl hl.1 rfl (Nat.le_of_ble_eq_true rfl) dL_law_892 ⟨by show (cells + 1) + 0 ≤ 601024; omega, by show (slots + 6) + 0 ≤ 7293034; omega⟩) hP hD hS hA (fun H locs hP hD hS => ?_)
    refine lv_iload hx hb dL_law_895 (lv_at hl 1 rfl) ?_
    refine lv_icmp_eq (tgt := 902) hx hb dL_law_897 (by decide) (fun _ => ?_) (fun c9 => absurd rfl c9)
    refine lv_iload hx hb dL_law_902 (lv_at hl 1 rfl) ?_
    refine lv_if_ne (tgt := 918) hx hb dL_law_904 (by decide) (fun c9 => absurd rfl c9) (fun _ => ?_)
    refine lv_aload_n hx hb dL_law_907 rfl (lv_at hl 5 rfl) ?_
    refine lv_iconst (v := (0 : Int32)) hx hb dL_law_908 (by decide) ?_
    refine va_lald hx hb hK hP 0 1 rfl rfl (zq_lit 0 1 (by decide) (by decide)) dL_law_909 ?_
    refine lv_lload hx hb dL_law_910 (lv_at hl 0 rfl) ?_
    refine W.lcmp hx hb dL_law_912 ?_
    refine lv_if_eq (tgt := 918) hx hb dL_law_913 (by decide) (fun _ => ?_) (fun c9 => absurd ((lg_cmp_eq _ _).mpr rfl) c9)
    refine lv_goto (tgt := 1682) hx hb dL_law_918 (by decide) ?_
    exact kk z9 t9 (vp_updL o 0 r) H locs ls hR9 (zz_comP hP) (zz_comD hD) hS (lv_sub hl [2, 3, 4, 5, 6] rfl)
  · obtain ⟨r, t9, m4, m3, hR9⟩ := (B_amount hR (xs (i + 1)) (xs (i + 2))).2 hok
    refine lv_aload_n hx hb dL_law_854 rfl (lv_at hl 1 rfl) ?_
    refine zl_arg (k := 1) hx hb hX hbl hbA hS hL (by omega) rfl (lv_at hl 0 rfl) (lv_at hl 4 rfl) dL_law_855 dL_law_856 dL_law_858 (by decide) dL_law_859 dL_law_860 ?_
    refine zl_arg (k := 2) hx hb hX hbl hbA hS hL (by omega) rfl (lv_at hl 0 rfl) (lv_at hl 4 rfl) dL_law_861 dL_law_862 dL_law_864 (by decide) dL_law_865 dL_law_866 ?_
    refine lv_aload_n hx hb dL_law_867 rfl (lv_at hl 3 rfl) ?_
    refine zl_callL (r := (1 : Int32)) (zt := z) (o2 := o) (X := wR y a2 t) (vx_runSX (rest := []) ⟨hx, hb, hml, hown, hts⟩ (zL_amountT l hst D y a r0 H.size (xs (i + 1)) (xs (i + 2)) z o hok) (vx_cwSW 4 hts gL_law_L_amount rfl rfl rfl zdL_amount ⟨Nat.le_of_ble_eq_true rfl, Nat.le_of_ble_eq_true rfl⟩) ⟨zz_blindX _ _ _ _ _, zz_preX [.ref (a 0), .int (xs (i + 1)), .int (xs (i + 2)), .ref r0] (zz_endP hP) hK (zz_endD hD) hN hg hxx hS hA⟩ rfl rfl hl.1 rfl (lv_room (Nat.le_of_ble_eq_true rfl)) dL_law_868 ⟨by show cells + 1 ≤ 601024; omega, by show slots + 6 ≤ 7293034; omega⟩) hP hD hS hA (fun H locs hP hD hS => ?_)
    refine lv_istore (lv' := [(5, .int (1 : Int32)), (0, .ref b), (1, .ref (a 0)), (2, .ref (a2 0)), (3, .ref r0), (4, .int (nI i))]) hx hb dL_law_871 hl (by decide) rfl (fun ls hl => ?_)
    refine lv_aload_n hx hb dL_law_873 rfl (lv_at hl 3 rfl) ?_
    refine zl_arg (k := 1) hx hb hX hbl hbA hS hL (by omega) rfl (lv_at hl 1 rfl) (lv_at hl 5 rfl) dL_law_874 dL_law_875 dL_law_877 (by decide) dL_law_878 dL_law_879 ?_
    refine zl_arg (k := 2) hx hb hX hbl hbA hS hL (by omega) rfl (lv_at hl 1 rfl) (lv_at hl 5 rfl) dL_law_880 dL_law_881 dL_law_883 (by decide) dL_law_884 dL_law_885 ?_
    have hP2 := zz_comP hP
    have hD2 := zz_comD hD
    refine zl_calll (w := wR y a2) (zt := t9) (X := wO y r0 (o) ++ wC y a z) (zl_runV (w := wR y a2) (X := wO y r0 (o) ++ wC y a z) (As := [.int (xs (i + 1)), .int (xs (i + 2))]) (rest := []) (mc := 0) (ms := 0) ⟨hx, hb, hml, hown, hts⟩ (zX11_amount l D y a2 H.size (xs (i + 1)) (xs (i + 2)) t m4) (cwV 2 hts gL_law_X11_amount rfl rfl rfl zdX11_amount ⟨Nat.le_of_ble_eq_true rfl, Nat.le_of_ble_eq_true rfl⟩) hK hN hg hP2 hD2 hS hA 0 (wR_0 y a2 t) rfl rfl hl.1 rfl (Nat.le_of_ble_eq_true rfl) dL_law_886 ⟨by show (cells + 1) + 0 ≤ 601024; omega, by show (slots + 6) + 0 ≤ 7293034; omega⟩) hP2 hD2 hS hA (fun H locs hP hD hS => ?_)
    refine lv_lstore (lv' := [(6, .long r), (5, .int (1 : Int32)), (0, .ref b), (1, .ref (a 0)), (2, .ref (a2 0)), (3, .ref r0), (4, .int (nI i))]) hx hb dL_law_889 hl (by decide) rfl (fun ls hl => ?_)
    refine lv_aload_n hx hb dL_law_891 rfl (lv_at hl 4 rfl) ?_
    refine zl_calli (w := wR y a2) (zt := t9) (X := wO y r0 (o) ++ wC y a z) (zl_runV (w := wR y a2) (X := wO y r0 (o) ++ wC y a z) (As := []) (rest := []) (mc := 0) (ms := 0) ⟨hx, hb, hml, hown, hts⟩ (zX11_thrown l D y a2 H.size t9 (r := (1 : Int32)) (by unfold mX11_thrown; rw [m3])) (cwV 0 hts gL_law_X11_thrown rfl rfl rfl zdX11_thrown ⟨Nat.le_of_ble_eq_true rfl, Nat.le_of_ble_eq_true rfl⟩) hK hN hg hP hD hS hA 0 (wR_0 y a2 t9) rfl rfl hl.1 rfl (Nat.le_of_ble_eq_true rfl) dL_law_892 ⟨by show (cells + 1) + 0 ≤ 601024; omega, by show (slots + 6) + 0 ≤ 7293034; omega⟩) hP hD hS hA (fun H locs hP hD hS => ?_)
    refine lv_iload hx hb dL_law_895 (lv_at hl 1 rfl) ?_
    refine lv_icmp_eq (tgt := 902) hx hb dL_law_897 (by decide) (fun _ => ?_) (fun c9 => absurd rfl c9)
    refine lv_iload hx hb dL_law_902 (lv_at hl 1 rfl) ?_
    refine lv_if_ne (tgt := 918) hx hb dL_law_904 (by decide) (fun _ => ?_) (fun c9 => absurd c9 (by decide))
    refine lv_goto (tgt := 1682) hx hb dL_law_918 (by decide) ?_
    exact kk z t9 (o) H locs ls hR9 (zz_comP hP) (zz_comD hD) hS (lv_sub hl [2, 3, 4, 5, 6] rfl)
set_option maxHeartbeats 4000000 in
set_option maxRecDepth 100000 in
theorem Lc_row {p : Program} {l : Launch} {e : Env} {s : State} {m : MethodId} {below : List Frame} {meth : Method} {c : Code} {b L : Nat} {xs : Nat → Int32} (hst : l.stackTraces = false) (hL : L ≤ 2560) (C0 : lw_At p s m meth c b L xs) {D : va_G} {y : Nat → ClassId} (hK : va_K D vwCl (zz_ty y) s) (hN : zz_nw s) (hg : zz_gr (fun q : Nat => s.heap.size ≤ q) s s.heap) (hxx : zz_ex (fun q : Nat => s.heap.size ≤ q) s s.heap) {a a2 : Nat → Nat} {r0 : Nat} {z t : zz_M} {o : Nat → Int64} (hR : zR z t) {i : Nat} (hi : i + 4 < L) {H : Heap} {locs : List Loc} {ls : Array Slot} {cells slots : Nat} (hroom : cells + 1 ≤ 601024 ∧ slots + 6 ≤ 7293034) (hP : va_P D vwCl (wR y a2 t ++ (wO y r0 o ++ wC y a z)) H) (hD : va_D (fun q : Nat => s.heap.size ≤ q) (wR y a2 t ++ (wO y r0 o ++ wC y a z))) (hS : va_S (fun q : Nat => s.heap.size ≤ q) s.heap H locs) (hl : lv_has ls 8 [(0, .ref b), (1, .ref (a 0)), (2, .ref (a2 0)), (3, .ref r0), (4, .int (nI i))])
    (kk : ∀ (z : zz_M) (t : zz_M) (o : Nat → Int64) (H : Heap) (locs : List Loc) (ls : Array Slot), zR z t → va_P D vwCl (wR y a2 t ++ (wO y r0 o ++ wC y a z)) H → va_D (fun q : Nat => s.heap.size ≤ q) (wR y a2 t ++ (wO y r0 o ++ wC y a z)) → va_S (fun q : Nat => s.heap.size ≤ q) s.heap H locs → lv_has ls 8 [(0, .ref b), (1, .ref (a 0)), (2, .ref (a2 0)), (3, .ref r0), (4, .int (nI i))] → W p l e room_1 s m #[Value.ref b] below meth c H locs (cells + 1) (slots + 6) (lw_Z below #[Value.ref b] s) (F0 m 1682 ls [])) : W p l e room_1 s m #[Value.ref b] below meth c H locs cells slots (lw_Z below #[Value.ref b] s) (F0 m 1627 ls []) := by
  obtain ⟨hx, hb, hr, hml, hown, hts0, hX, hbl, hlocks, hgv⟩ := C0
  have hts : ∀ w ∈ wsL_law, w.before #[Value.ref b] s = true := fun w h => hts0 w (wsL_law_in w h)
  have hA : ∀ q : Nat, s.heap.size ≤ q → (fun q : Nat => s.heap.size ≤ q) q := fun _ h => h
  have hbA : ¬ (fun q : Nat => s.heap.size ≤ q) b := Nat.not_le.mpr hbl
  by_cases hok : ¬ xs (i + 1) < 0 ∧ xs (i + 1) < z.2.2.1 6337
  · obtain ⟨hin, t9, m4, m3, hR9⟩ := (B_row hR (xs (i + 1))).1 hok
    refine lv_aload_n hx hb dL_law_1627 rfl (lv_at hl 1 rfl) ?_
    refine zl_arg (k := 1) hx hb hX hbl hbA hS hL (by omega) rfl (lv_at hl 0 rfl) (lv_at hl 4 rfl) dL_law_1628 dL_law_1629 dL_law_1631 (by decide) dL_law_1632 dL_law_1633 ?_
    refine lv_aload_n hx hb dL_law_1634 rfl (lv_at hl 3 rfl) ?_
    refine zl_callL (r := (0 : Int32)) (zt := z) (o2 := vp_updL o 0 (z.2.1 100 (xs (i + 1)).toNatClampNeg)) (X := wR y a2 t) (vx_runSX (rest := []) ⟨hx, hb, hml, hown, hts⟩ (zL_rowK l D y a r0 H.size (xs (i + 1)) z o hok hin) (vx_cwSW 3 hts gL_law_L_row rfl rfl rfl zdL_row ⟨Nat.le_of_ble_eq_true rfl, Nat.le_of_ble_eq_true rfl⟩) ⟨zz_blindX _ _ _ _ _, zz_preX [.ref (a 0), .int (xs (i + 1)), .ref r0] (zz_endP hP) hK (zz_endD hD) hN hg hxx hS hA⟩ rfl rfl hl.1 rfl (lv_room (Nat.le_of_ble_eq_true rfl)) dL_law_1635 ⟨by show cells + 1 ≤ 601024; omega, by show slots + 6 ≤ 7293034; omega⟩) hP hD hS hA (fun H locs hP hD hS => ?_)
    refine lv_istore (lv' := [(5, .int (0 : Int32)), (0, .ref b), (1, .ref (a 0)), (2, .ref (a2 0)), (3, .ref r0), (4, .int (nI i))]) hx hb dL_law_1638 hl (by decide) rfl (fun ls hl => ?_)
    refine lv_aload_n hx hb dL_law_1640 rfl (lv_at hl 3 rfl) ?_
    refine zl_arg (k := 1) hx hb hX hbl hbA hS hL (by omega) rfl (lv_at hl 1 rfl) (lv_at hl 5 rfl) dL_law_1641 dL_law_1642 dL_law_1644 (by decide) dL_law_1645 dL_law_1646 ?_
    have hP2 := zz_comP hP
    have hD2 := zz_comD hD
    refine zl_calll (w := wR y a2) (zt := t9) (X := wO y r0 (vp_updL o 0 (z.2.1 100 (xs (i + 1)).toNatClampNeg)) ++ wC y a z) (zl_runV (w := wR y a2) (X := wO y r0 (vp_updL o 0 (z.2.1 100 (xs (i + 1)).toNatClampNeg)) ++ wC y a z) (As := [.int (xs (i + 1))]) (rest := []) (mc := 0) (ms := 0) ⟨hx, hb, hml, hown, hts⟩ (zX11_row l D y a2 H.size (xs (i + 1)) t m4) (cwV 1 hts gL_law_X11_row rfl rfl rfl zdX11_row ⟨Nat.le_of_ble_eq_true rfl, Nat.le_of_ble_eq_true rfl⟩) hK hN hg hP2 hD2 hS hA 0 (wR_0 y a2 t) rfl rfl hl.1 rfl (Nat.le_of_ble_eq_true rfl) dL_law_1647 ⟨by show (cells + 1) + 0 ≤ 601024; omega, by show (slots + 6) + 0 ≤ 7293034; omega⟩) hP2 hD2 hS hA (fun H locs hP hD hS => ?_)
    refine lv_lstore (lv' := [(6, .long (z.2.1 100 (xs (i + 1)).toNatClampNeg)), (5, .int (0 : Int32)), (0, .ref b), (1, .ref (a 0)), (2, .ref (a2 0)), (3, .ref r0), (4, .int (nI i))]) hx hb dL_law_1650 hl (by decide) rfl (fun ls hl => ?_)
    refine lv_aload_n hx hb dL_law_1652 rfl (lv_at hl 4 rfl) ?_
    refine zl_calli (w := wR y a2) (zt := t9) (X := wO y r0 (vp_updL o 0 (z.2.1 100 (xs (i + 1)).toNatClampNeg)) ++ wC y a z) (zl_runV (w := wR y a2) (X := wO y r0 (vp_updL o 0 (z.2.1 100 (xs (i + 1)).toNatClampNeg)) ++ wC y a z) (As := []) (rest := []) (mc := 0) (ms := 0) ⟨hx, hb, hml, hown, hts⟩ (zX11_thrown l D y a2 H.size t9 (r := (0 : Int32)) (by unfold mX11_thrown; rw [m3])) (cwV 0 hts gL_law_X11_thrown rfl rfl rfl zdX11_thrown ⟨Nat.le_of_ble_eq_true rfl, Nat.le_of_ble_eq_true rfl⟩) hK hN hg hP hD hS hA 0 (wR_0 y a2 t9) rfl rfl hl.1 rfl (Nat.le_of_ble_eq_true rfl) dL_law_1653 ⟨by show (cells + 1) + 0 ≤ 601024; omega, by show (slots + 6) + 0 ≤ 7293034; omega⟩) hP hD hS hA (fun H locs hP hD hS => ?_)
    refine lv_iload hx hb dL_law_1656 (lv_at hl 1 rfl) ?_
    refine lv_icmp_eq (tgt := 1663) hx hb dL_law_1658 (by decide) (fun _ => ?_) (fun c9 => absurd rfl c9)
    refine lv_iload hx hb dL_law_1663 (lv_at hl 1 rfl) ?_
    refine lv_if_ne (tgt := 1679) hx hb dL_law_1665 (by decide) (fun c9 => absurd rfl c9) (fun _ => ?_)
    refine lv_aload_n hx hb dL_law_1668 rfl (lv_at hl 5 rfl) ?_
    refine lv_iconst (v := (0 : Int32)) hx hb dL_law_1669 (by decide) ?_
    refine va_lald hx hb hK hP 0 1 rfl rfl (zq_lit 0 1 (by decide) (by decide)) dL_law_1670 ?_
    refine lv_lload hx hb dL_law_1671 (lv_at hl 0 rfl) ?_
    refine W.lcmp hx hb dL_law_1673 ?_
    refine lv_if_eq (tgt := 1679) hx hb dL_law_1674 (by decide) (fun _ => ?_) (fun c9 => absurd ((lg_cmp_eq _ _).mpr rfl) c9)
    refine lv_goto (tgt := 1682) hx hb dL_law_1679 (by decide) ?_
    exact kk z t9 (vp_updL o 0 (z.2.1 100 (xs (i + 1)).toNatClampNeg)) H locs ls hR9 (zz_comP hP) (zz_comD hD) hS (lv_sub hl [2, 3, 4, 5, 6] rfl)
  · obtain ⟨r, t9, m4, m3, hR9⟩ := (B_row hR (xs (i + 1))).2 hok
    refine lv_aload_n hx hb dL_law_1627 rfl (lv_at hl 1 rfl) ?_
    refine zl_arg (k := 1) hx hb hX hbl hbA hS hL (by omega) rfl (lv_at hl 0 rfl) (lv_at hl 4 rfl) dL_law_1628 dL_law_1629 dL_law_1631 (by decide) dL_law_1632 dL_law_1633 ?_
    refine lv_aload_n hx hb dL_law_1634 rfl (lv_at hl 3 rfl) ?_
    refine zl_callL (r := (1 : Int32)) (zt := z) (o2 := o) (X := wR y a2 t) (vx_runSX (rest := []) ⟨hx, hb, hml, hown, hts⟩ (zL_rowT l hst D y a r0 H.size (xs (i + 1)) z o hok) (vx_cwSW 3 hts gL_law_L_row rfl rfl rfl zdL_row ⟨Nat.le_of_ble_eq_true rfl, Nat.le_of_ble_eq_true rfl⟩) ⟨zz_blindX _ _ _ _ _, zz_preX [.ref (a 0), .int (xs (i + 1)), .ref r0] (zz_endP hP) hK (zz_endD hD) hN hg hxx hS hA⟩ rfl rfl hl.1 rfl (lv_room (Nat.le_of_ble_eq_true rfl)) dL_law_1635 ⟨by show cells + 1 ≤ 601024; omega, by show slots + 6 ≤ 7293034; omega⟩) hP hD hS hA (fun H locs hP hD hS => ?_)
    refine lv_istore (lv' := [(5, .int (1 : Int32)), (0, .ref b), (1, .ref (a 0)), (2, .ref (a2 0)), (3, .ref r0), (4, .int (nI i))]) hx hb dL_law_1638 hl (by decide) rfl (fun ls hl => ?_)
    refine lv_aload_n hx hb dL_law_1640 rfl (lv_at hl 3 rfl) ?_
    refine zl_arg (k := 1) hx hb hX hbl hbA hS hL (by omega) rfl (lv_at hl 1 rfl) (lv_at hl 5 rfl) dL_law_1641 dL_law_1642 dL_law_1644 (by decide) dL_law_1645 dL_law_1646 ?_
    have hP2 := zz_comP hP
    have hD2 := zz_comD hD
    refine zl_calll (w := wR y a2) (zt := t9) (X := wO y r0 (o) ++ wC y a z) (zl_runV (w := wR y a2) (X := wO y r0 (o) ++ wC y a z) (As := [.int (xs (i + 1))]) (rest := []) (mc := 0) (ms := 0) ⟨hx, hb, hml, hown, hts⟩ (zX11_row l D y a2 H.size (xs (i + 1)) t m4) (cwV 1 hts gL_law_X11_row rfl rfl rfl zdX11_row ⟨Nat.le_of_ble_eq_true rfl, Nat.le_of_ble_eq_true rfl⟩) hK hN hg hP2 hD2 hS hA 0 (wR_0 y a2 t) rfl rfl hl.1 rfl (Nat.le_of_ble_eq_true rfl) dL_law_1647 ⟨by show (cells + 1) + 0 ≤ 601024; omega, by show (slots + 6) + 0 ≤ 7293034; omega⟩) hP2 hD2 hS hA (fun H locs hP hD hS => ?_)
    refine lv_lstore (lv' := [(6, .long r), (5, .int (1 : Int32)), (0, .ref b), (1, .ref (a 0)), (2, .ref (a2 0)), (3, .ref r0), (4, .int (nI i))]) hx hb dL_law_1650 hl (by decide) rfl (fun ls hl => ?_)
    refine lv_aload_n hx hb dL_law_1652 rfl (lv_at hl 4 rfl) ?_
    refine zl_calli (w := wR y a2) (zt := t9) (X := wO y r0 (o) ++ wC y a z) (zl_runV (w := wR y a2) (X := wO y r0 (o) ++ wC y a z) (As := []) (rest := []) (mc := 0) (ms := 0) ⟨hx, hb, hml, hown, hts⟩ (zX11_thrown l D y a2 H.size t9 (r := (1 : Int32)) (by unfold mX11_thrown; rw [m3])) (cwV 0 hts gL_law_X11_thrown rfl rfl rfl zdX11_thrown ⟨Nat.le_of_ble_eq_true rfl, Nat.le_of_ble_eq_true rfl⟩) hK hN hg hP hD hS hA 0 (wR_0 y a2 t9) rfl rfl hl.1 rfl (Nat.le_of_ble_eq_true rfl) dL_law_1653 ⟨by show (cells + 1) + 0 ≤ 601024; omega, by show (slots + 6) + 0 ≤ 7293034; omega⟩) hP hD hS hA (fun H locs hP hD hS => ?_)
    refine lv_iload hx hb dL_law_1656 (lv_at hl 1 rfl) ?_
    refine lv_icmp_eq (tgt := 1663) hx hb dL_law_1658 (by decide) (fun _ => ?_) (fun c9 => absurd rfl c9)
    refine lv_iload hx hb dL_law_1663 (lv_at hl 1 rfl) ?_
    refine lv_if_ne (tgt := 1679) hx hb dL_law_1665 (by decide) (fun _ => ?_) (fun c9 => absurd c9 (by decide))
    refine lv_goto (tgt := 1682) hx hb dL_law_1679 (by decide) ?_
    exact kk z t9 (o) H locs ls hR9 (zz_comP hP) (zz_comD hD) hS (lv_sub hl [2, 3, 4, 5, 6] rfl)
