set_option maxHeartbeats 4000000 in
set_option maxRecDepth 100000 in
theorem Lc_due {p : Program} {l : Launch} {e : Env} {s : State} {m : MethodId} {below : List Frame} {meth : Method} {c : Code} {b L : Nat} {xs : Nat → Int32} (hst : l.stackTraces = false) (hL : L ≤ 2560) (C0 : lw_At p s m meth c b L xs) {D : va_G} {y : Nat → ClassId} (hK : va_K D vwCl (zz_ty y) s) (hN : zz_nw s) (hg : zz_gr (fun q : Nat => s.heap.size ≤ q) s s.heap) (hxx : zz_ex (fun q : Nat => s.heap.size ≤ q) s s.heap) {a a2 : Nat → Nat} {r0 : Nat} {z t : zz_M} {o : Nat → Int64} (hR : zR z t) {i : Nat} (hi : i + 4 < L) {H : Heap} {locs : List Loc} {ls : Array Slot} {cells slots : Nat} (hroom : cells + 1 ≤ 601024 ∧ slots + 6 ≤ 7293034) (hP : va_P D vwCl (wR y a2 t ++ (wO y r0 o ++ wC y a z)) H) (hD : va_D (fun q : Nat => s.heap.size ≤ q) (wR y a2 t ++ (wO y r0 o ++ wC y a z))) (hS : va_S (fun q : Nat => s.heap.size ≤ q) s.heap H locs) (hl : lv_has ls 8 [(0, .ref b), (1, .ref (a 0)), (2, .ref (a2 0)), (3, .ref r0), (4, .int (nI i))])
    (kk : ∀ (z : zz_M) (t : zz_M) (o : Nat → Int64) (H : Heap) (locs : List Loc) (ls : Array Slot), zR z t → va_P D vwCl (wR y a2 t ++ (wO y r0 o ++ wC y a z)) H → va_D (fun q : Nat => s.heap.size ≤ q) (wR y a2 t ++ (wO y r0 o ++ wC y a z)) → va_S (fun q : Nat => s.heap.size ≤ q) s.heap H locs → lv_has ls 8 [(0, .ref b), (1, .ref (a 0)), (2, .ref (a2 0)), (3, .ref r0), (4, .int (nI i))] → W p l e room_1 s m #[Value.ref b] below meth c H locs (cells + 1) (slots + 6) (lw_Z below #[Value.ref b] s) (F0 m 1682 ls [])) : W p l e room_1 s m #[Value.ref b] below meth c H locs cells slots (lw_Z below #[Value.ref b] s) (F0 m 767 ls []) := by
  obtain ⟨hx, hb, hr, hml, hown, hts0, hX, hbl, hlocks, hgv⟩ := C0
  have hts : ∀ w ∈ wsL_law, w.before #[Value.ref b] s = true := fun w h => hts0 w (wsL_law_in w h)
  have hA : ∀ q : Nat, s.heap.size ≤ q → (fun q : Nat => s.heap.size ≤ q) q := fun _ h => h
  have hbA : ¬ (fun q : Nat => s.heap.size ≤ q) b := Nat.not_le.mpr hbl
  obtain ⟨r, z9, t9, m1, m2, hR9⟩ := B_due hR (xs (i + 1))
  have hP1 : va_P D vwCl ((wR y a2 t ++ wO y r0 o) ++ wC y a z) H := by rw [List.append_assoc]; exact hP
  have hD1 : va_D (fun q : Nat => s.heap.size ≤ q) ((wR y a2 t ++ wO y r0 o) ++ wC y a z) := by rw [List.append_assoc]; exact hD
  refine lv_aload_n hx hb dL_law_767 rfl (lv_at hl 1 rfl) ?_
  refine zl_arg (k := 1) hx hb hX hbl hbA hS hL (by omega) rfl (lv_at hl 0 rfl) (lv_at hl 4 rfl) dL_law_768 dL_law_769 dL_law_771 (by decide) dL_law_772 dL_law_773 ?_
  refine zl_calli (w := wC y a) (zt := z9) (X := wR y a2 t ++ wO y r0 o) (zl_runV (w := wC y a) (X := wR y a2 t ++ wO y r0 o) (As := [.int (xs (i + 1))]) (rest := []) (mc := 0) (ms := 0) ⟨hx, hb, hml, hown, hts⟩ (zX10_due l D y a H.size (xs (i + 1)) z m1) (cwV 1 hts gL_law_X10_due rfl rfl rfl zdX10_due ⟨Nat.le_of_ble_eq_true rfl, Nat.le_of_ble_eq_true rfl⟩) hK hN hg hP1 hD1 hS hA 0 (wC_0 y a z) rfl rfl hl.1 rfl (Nat.le_of_ble_eq_true rfl) dL_law_774 ⟨by show cells + 0 ≤ 601024; omega, by show slots + 0 ≤ 7293034; omega⟩) hP1 hD1 hS hA (fun H locs hP hD hS => ?_)
  have hP2 : va_P D vwCl ((wO y r0 o ++ wC y a z9) ++ wR y a2 t) H := zz_comP (by rw [List.append_assoc] at hP; exact hP)
  have hD2 : va_D (fun q : Nat => s.heap.size ≤ q) ((wO y r0 o ++ wC y a z9) ++ wR y a2 t) := zz_comD (by rw [List.append_assoc] at hD; exact hD)
  refine lv_aload_n hx hb dL_law_777 rfl (lv_at hl 2 rfl) ?_
  refine zl_arg (k := 1) hx hb hX hbl hbA hS hL (by omega) rfl (lv_at hl 0 rfl) (lv_at hl 4 rfl) dL_law_778 dL_law_779 dL_law_781 (by decide) dL_law_782 dL_law_783 ?_
  refine zl_calli (w := wR y a2) (zt := t9) (X := wO y r0 o ++ wC y a z9) (zl_runV (w := wR y a2) (X := wO y r0 o ++ wC y a z9) (As := [.int (xs (i + 1))]) (rest := [.int r]) (mc := 0) (ms := 0) ⟨hx, hb, hml, hown, hts⟩ (zX11_due l D y a2 H.size (xs (i + 1)) t m2) (cwV 1 hts gL_law_X11_due rfl rfl rfl zdX11_due ⟨Nat.le_of_ble_eq_true rfl, Nat.le_of_ble_eq_true rfl⟩) hK hN hg hP2 hD2 hS hA 0 (wR_0 y a2 t) rfl rfl hl.1 rfl (Nat.le_of_ble_eq_true rfl) dL_law_784 ⟨by show cells + 0 ≤ 601024; omega, by show slots + 0 ≤ 7293034; omega⟩) hP2 hD2 hS hA (fun H locs hP hD hS => ?_)
  refine lv_icmp_eq (tgt := 1682) hx hb dL_law_787 (by decide) (fun _ => ?_) (fun c9 => absurd rfl c9)
  refine W.widen (k := cells + 1) (n := slots + 6) (by omega) (by omega) ?_
  exact kk z9 t9 o H locs ls hR9 (zz_comP hP) (zz_comD hD) hS hl
set_option maxHeartbeats 4000000 in
set_option maxRecDepth 100000 in
theorem Lc_grants {p : Program} {l : Launch} {e : Env} {s : State} {m : MethodId} {below : List Frame} {meth : Method} {c : Code} {b L : Nat} {xs : Nat → Int32} (hst : l.stackTraces = false) (hL : L ≤ 2560) (C0 : lw_At p s m meth c b L xs) {D : va_G} {y : Nat → ClassId} (hK : va_K D vwCl (zz_ty y) s) (hN : zz_nw s) (hg : zz_gr (fun q : Nat => s.heap.size ≤ q) s s.heap) (hxx : zz_ex (fun q : Nat => s.heap.size ≤ q) s s.heap) {a a2 : Nat → Nat} {r0 : Nat} {z t : zz_M} {o : Nat → Int64} (hR : zR z t) {i : Nat} (hi : i + 4 < L) {H : Heap} {locs : List Loc} {ls : Array Slot} {cells slots : Nat} (hroom : cells + 1 ≤ 601024 ∧ slots + 6 ≤ 7293034) (hP : va_P D vwCl (wR y a2 t ++ (wO y r0 o ++ wC y a z)) H) (hD : va_D (fun q : Nat => s.heap.size ≤ q) (wR y a2 t ++ (wO y r0 o ++ wC y a z))) (hS : va_S (fun q : Nat => s.heap.size ≤ q) s.heap H locs) (hl : lv_has ls 8 [(0, .ref b), (1, .ref (a 0)), (2, .ref (a2 0)), (3, .ref r0), (4, .int (nI i))])
    (kk : ∀ (z : zz_M) (t : zz_M) (o : Nat → Int64) (H : Heap) (locs : List Loc) (ls : Array Slot), zR z t → va_P D vwCl (wR y a2 t ++ (wO y r0 o ++ wC y a z)) H → va_D (fun q : Nat => s.heap.size ≤ q) (wR y a2 t ++ (wO y r0 o ++ wC y a z)) → va_S (fun q : Nat => s.heap.size ≤ q) s.heap H locs → lv_has ls 8 [(0, .ref b), (1, .ref (a 0)), (2, .ref (a2 0)), (3, .ref r0), (4, .int (nI i))] → W p l e room_1 s m #[Value.ref b] below meth c H locs (cells + 1) (slots + 6) (lw_Z below #[Value.ref b] s) (F0 m 1682 ls [])) : W p l e room_1 s m #[Value.ref b] below meth c H locs cells slots (lw_Z below #[Value.ref b] s) (F0 m 792 ls []) := by
  obtain ⟨hx, hb, hr, hml, hown, hts0, hX, hbl, hlocks, hgv⟩ := C0
  have hts : ∀ w ∈ wsL_law, w.before #[Value.ref b] s = true := fun w h => hts0 w (wsL_law_in w h)
  have hA : ∀ q : Nat, s.heap.size ≤ q → (fun q : Nat => s.heap.size ≤ q) q := fun _ h => h
  have hbA : ¬ (fun q : Nat => s.heap.size ≤ q) b := Nat.not_le.mpr hbl
  obtain ⟨r, z9, t9, m1, m2, hR9⟩ := B_grants hR (xs (i + 1))
  have hP1 : va_P D vwCl ((wR y a2 t ++ wO y r0 o) ++ wC y a z) H := by rw [List.append_assoc]; exact hP
  have hD1 : va_D (fun q : Nat => s.heap.size ≤ q) ((wR y a2 t ++ wO y r0 o) ++ wC y a z) := by rw [List.append_assoc]; exact hD
  refine lv_aload_n hx hb dL_law_792 rfl (lv_at hl 1 rfl) ?_
  refine zl_arg (k := 1) hx hb hX hbl hbA hS hL (by omega) rfl (lv_at hl 0 rfl) (lv_at hl 4 rfl) dL_law_793 dL_law_794 dL_law_796 (by decide) dL_law_797 dL_law_798 ?_
  refine zl_calli (w := wC y a) (zt := z9) (X := wR y a2 t ++ wO y r0 o) (zl_runV (w := wC y a) (X := wR y a2 t ++ wO y r0 o) (As := [.int (xs (i + 1))]) (rest := []) (mc := 0) (ms := 0) ⟨hx, hb, hml, hown, hts⟩ (zX10_grants l D y a H.size (xs (i + 1)) z m1) (cwV 1 hts gL_law_X10_grants rfl rfl rfl zdX10_grants ⟨Nat.le_of_ble_eq_true rfl, Nat.le_of_ble_eq_true rfl⟩) hK hN hg hP1 hD1 hS hA 0 (wC_0 y a z) rfl rfl hl.1 rfl (Nat.le_of_ble_eq_true rfl) dL_law_799 ⟨by show cells + 0 ≤ 601024; omega, by show slots + 0 ≤ 7293034; omega⟩) hP1 hD1 hS hA (fun H locs hP hD hS => ?_)
  have hP2 : va_P D vwCl ((wO y r0 o ++ wC y a z9) ++ wR y a2 t) H := zz_comP (by rw [List.append_assoc] at hP; exact hP)
  have hD2 : va_D (fun q : Nat => s.heap.size ≤ q) ((wO y r0 o ++ wC y a z9) ++ wR y a2 t) := zz_comD (by rw [List.append_assoc] at hD; exact hD)
  refine lv_aload_n hx hb dL_law_802 rfl (lv_at hl 2 rfl) ?_
  refine zl_arg (k := 1) hx hb hX hbl hbA hS hL (by omega) rfl (lv_at hl 0 rfl) (lv_at hl 4 rfl) dL_law_803 dL_law_804 dL_law_806 (by decide) dL_law_807 dL_law_808 ?_
  refine zl_calli (w := wR y a2) (zt := t9) (X := wO y r0 o ++ wC y a z9) (zl_runV (w := wR y a2) (X := wO y r0 o ++ wC y a z9) (As := [.int (xs (i + 1))]) (rest := [.int r]) (mc := 0) (ms := 0) ⟨hx, hb, hml, hown, hts⟩ (zX11_grants l D y a2 H.size (xs (i + 1)) t m2) (cwV 1 hts gL_law_X11_grants rfl rfl rfl zdX11_grants ⟨Nat.le_of_ble_eq_true rfl, Nat.le_of_ble_eq_true rfl⟩) hK hN hg hP2 hD2 hS hA 0 (wR_0 y a2 t) rfl rfl hl.1 rfl (Nat.le_of_ble_eq_true rfl) dL_law_809 ⟨by show cells + 0 ≤ 601024; omega, by show slots + 0 ≤ 7293034; omega⟩) hP2 hD2 hS hA (fun H locs hP hD hS => ?_)
  refine lv_icmp_eq (tgt := 1682) hx hb dL_law_812 (by decide) (fun _ => ?_) (fun c9 => absurd rfl c9)
  refine W.widen (k := cells + 1) (n := slots + 6) (by omega) (by omega) ?_
  exact kk z9 t9 o H locs ls hR9 (zz_comP hP) (zz_comD hD) hS hl
set_option maxHeartbeats 4000000 in
set_option maxRecDepth 100000 in
theorem Lc_indexes {p : Program} {l : Launch} {e : Env} {s : State} {m : MethodId} {below : List Frame} {meth : Method} {c : Code} {b L : Nat} {xs : Nat → Int32} (hst : l.stackTraces = false) (hL : L ≤ 2560) (C0 : lw_At p s m meth c b L xs) {D : va_G} {y : Nat → ClassId} (hK : va_K D vwCl (zz_ty y) s) (hN : zz_nw s) (hg : zz_gr (fun q : Nat => s.heap.size ≤ q) s s.heap) (hxx : zz_ex (fun q : Nat => s.heap.size ≤ q) s s.heap) {a a2 : Nat → Nat} {r0 : Nat} {z t : zz_M} {o : Nat → Int64} (hR : zR z t) {i : Nat} (hi : i + 4 < L) {H : Heap} {locs : List Loc} {ls : Array Slot} {cells slots : Nat} (hroom : cells + 1 ≤ 601024 ∧ slots + 6 ≤ 7293034) (hP : va_P D vwCl (wR y a2 t ++ (wO y r0 o ++ wC y a z)) H) (hD : va_D (fun q : Nat => s.heap.size ≤ q) (wR y a2 t ++ (wO y r0 o ++ wC y a z))) (hS : va_S (fun q : Nat => s.heap.size ≤ q) s.heap H locs) (hl : lv_has ls 8 [(0, .ref b), (1, .ref (a 0)), (2, .ref (a2 0)), (3, .ref r0), (4, .int (nI i))])
    (kk : ∀ (z : zz_M) (t : zz_M) (o : Nat → Int64) (H : Heap) (locs : List Loc) (ls : Array Slot), zR z t → va_P D vwCl (wR y a2 t ++ (wO y r0 o ++ wC y a z)) H → va_D (fun q : Nat => s.heap.size ≤ q) (wR y a2 t ++ (wO y r0 o ++ wC y a z)) → va_S (fun q : Nat => s.heap.size ≤ q) s.heap H locs → lv_has ls 8 [(0, .ref b), (1, .ref (a 0)), (2, .ref (a2 0)), (3, .ref r0), (4, .int (nI i))] → W p l e room_1 s m #[Value.ref b] below meth c H locs (cells + 1) (slots + 6) (lw_Z below #[Value.ref b] s) (F0 m 1682 ls [])) : W p l e room_1 s m #[Value.ref b] below meth c H locs cells slots (lw_Z below #[Value.ref b] s) (F0 m 817 ls []) := by
  obtain ⟨hx, hb, hr, hml, hown, hts0, hX, hbl, hlocks, hgv⟩ := C0
  have hts : ∀ w ∈ wsL_law, w.before #[Value.ref b] s = true := fun w h => hts0 w (wsL_law_in w h)
  have hA : ∀ q : Nat, s.heap.size ≤ q → (fun q : Nat => s.heap.size ≤ q) q := fun _ h => h
  have hbA : ¬ (fun q : Nat => s.heap.size ≤ q) b := Nat.not_le.mpr hbl
  obtain ⟨r, z9, t9, m1, m2, hR9⟩ := B_indexes hR (xs (i + 1)) (xs (i + 2))
  have hP1 : va_P D vwCl ((wR y a2 t ++ wO y r0 o) ++ wC y a z) H := by rw [List.append_assoc]; exact hP
  have hD1 : va_D (fun q : Nat => s.heap.size ≤ q) ((wR y a2 t ++ wO y r0 o) ++ wC y a z) := by rw [List.append_assoc]; exact hD
  refine lv_aload_n hx hb dL_law_817 rfl (lv_at hl 1 rfl) ?_
  refine zl_arg (k := 1) hx hb hX hbl hbA hS hL (by omega) rfl (lv_at hl 0 rfl) (lv_at hl 4 rfl) dL_law_818 dL_law_819 dL_law_821 (by decide) dL_law_822 dL_law_823 ?_
  refine zl_arg (k := 2) hx hb hX hbl hbA hS hL (by omega) rfl (lv_at hl 0 rfl) (lv_at hl 4 rfl) dL_law_824 dL_law_825 dL_law_827 (by decide) dL_law_828 dL_law_829 ?_
  refine zl_calli (w := wC y a) (zt := z9) (X := wR y a2 t ++ wO y r0 o) (zl_runV (w := wC y a) (X := wR y a2 t ++ wO y r0 o) (As := [.int (xs (i + 1)), .int (xs (i + 2))]) (rest := []) (mc := 0) (ms := 0) ⟨hx, hb, hml, hown, hts⟩ (zX10_indexes l D y a H.size (xs (i + 1)) (xs (i + 2)) z m1) (cwV 2 hts gL_law_X10_indexes rfl rfl rfl zdX10_indexes ⟨Nat.le_of_ble_eq_true rfl, Nat.le_of_ble_eq_true rfl⟩) hK hN hg hP1 hD1 hS hA 0 (wC_0 y a z) rfl rfl hl.1 rfl (Nat.le_of_ble_eq_true rfl) dL_law_830 ⟨by show cells + 0 ≤ 601024; omega, by show slots + 0 ≤ 7293034; omega⟩) hP1 hD1 hS hA (fun H locs hP hD hS => ?_)
  have hP2 : va_P D vwCl ((wO y r0 o ++ wC y a z9) ++ wR y a2 t) H := zz_comP (by rw [List.append_assoc] at hP; exact hP)
  have hD2 : va_D (fun q : Nat => s.heap.size ≤ q) ((wO y r0 o ++ wC y a z9) ++ wR y a2 t) := zz_comD (by rw [List.append_assoc] at hD; exact hD)
  refine lv_aload_n hx hb dL_law_833 rfl (lv_at hl 2 rfl) ?_
  refine zl_arg (k := 1) hx hb hX hbl hbA hS hL (by omega) rfl (lv_at hl 0 rfl) (lv_at hl 4 rfl) dL_law_834 dL_law_835 dL_law_837 (by decide) dL_law_838 dL_law_839 ?_
  refine zl_arg (k := 2) hx hb hX hbl hbA hS hL (by omega) rfl (lv_at hl 0 rfl) (lv_at hl 4 rfl) dL_law_840 dL_law_841 dL_law_843 (by decide) dL_law_844 dL_law_845 ?_
  refine zl_calli (w := wR y a2) (zt := t9) (X := wO y r0 o ++ wC y a z9) (zl_runV (w := wR y a2) (X := wO y r0 o ++ wC y a z9) (As := [.int (xs (i + 1)), .int (xs (i + 2))]) (rest := [.int r]) (mc := 0) (ms := 0) ⟨hx, hb, hml, hown, hts⟩ (zX11_indexes l D y a2 H.size (xs (i + 1)) (xs (i + 2)) t m2) (cwV 2 hts gL_law_X11_indexes rfl rfl rfl zdX11_indexes ⟨Nat.le_of_ble_eq_true rfl, Nat.le_of_ble_eq_true rfl⟩) hK hN hg hP2 hD2 hS hA 0 (wR_0 y a2 t) rfl rfl hl.1 rfl (Nat.le_of_ble_eq_true rfl) dL_law_846 ⟨by show cells + 0 ≤ 601024; omega, by show slots + 0 ≤ 7293034; omega⟩) hP2 hD2 hS hA (fun H locs hP hD hS => ?_)
  refine lv_icmp_eq (tgt := 1682) hx hb dL_law_849 (by decide) (fun _ => ?_) (fun c9 => absurd rfl c9)
  refine W.widen (k := cells + 1) (n := slots + 6) (by omega) (by omega) ?_
  exact kk z9 t9 o H locs ls hR9 (zz_comP hP) (zz_comD hD) hS hl
set_option maxHeartbeats 4000000 in
set_option maxRecDepth 100000 in
theorem Lc_item {p : Program} {l : Launch} {e : Env} {s : State} {m : MethodId} {below : List Frame} {meth : Method} {c : Code} {b L : Nat} {xs : Nat → Int32} (hst : l.stackTraces = false) (hL : L ≤ 2560) (C0 : lw_At p s m meth c b L xs) {D : va_G} {y : Nat → ClassId} (hK : va_K D vwCl (zz_ty y) s) (hN : zz_nw s) (hg : zz_gr (fun q : Nat => s.heap.size ≤ q) s s.heap) (hxx : zz_ex (fun q : Nat => s.heap.size ≤ q) s s.heap) {a a2 : Nat → Nat} {r0 : Nat} {z t : zz_M} {o : Nat → Int64} (hR : zR z t) {i : Nat} (hi : i + 4 < L) {H : Heap} {locs : List Loc} {ls : Array Slot} {cells slots : Nat} (hroom : cells + 1 ≤ 601024 ∧ slots + 6 ≤ 7293034) (hP : va_P D vwCl (wR y a2 t ++ (wO y r0 o ++ wC y a z)) H) (hD : va_D (fun q : Nat => s.heap.size ≤ q) (wR y a2 t ++ (wO y r0 o ++ wC y a z))) (hS : va_S (fun q : Nat => s.heap.size ≤ q) s.heap H locs) (hl : lv_has ls 8 [(0, .ref b), (1, .ref (a 0)), (2, .ref (a2 0)), (3, .ref r0), (4, .int (nI i))])
    (kk : ∀ (z : zz_M) (t : zz_M) (o : Nat → Int64) (H : Heap) (locs : List Loc) (ls : Array Slot), zR z t → va_P D vwCl (wR y a2 t ++ (wO y r0 o ++ wC y a z)) H → va_D (fun q : Nat => s.heap.size ≤ q) (wR y a2 t ++ (wO y r0 o ++ wC y a z)) → va_S (fun q : Nat => s.heap.size ≤ q) s.heap H locs → lv_has ls 8 [(0, .ref b), (1, .ref (a 0)), (2, .ref (a2 0)), (3, .ref r0), (4, .int (nI i))] → W p l e room_1 s m #[Value.ref b] below meth c H locs (cells + 1) (slots + 6) (lw_Z below #[Value.ref b] s) (F0 m 1682 ls [])) : W p l e room_1 s m #[Value.ref b] below meth c H locs cells slots (lw_Z below #[Value.ref b] s) (F0 m 921 ls []) := by
  obtain ⟨hx, hb, hr, hml, hown, hts0, hX, hbl, hlocks, hgv⟩ := C0
  have hts : ∀ w ∈ wsL_law, w.before #[Value.ref b] s = true := fun w h => hts0 w (wsL_law_in w h)
  have hA : ∀ q : Nat, s.heap.size ≤ q → (fun q : Nat => s.heap.size ≤ q) q := fun _ h => h
  have hbA : ¬ (fun q : Nat => s.heap.size ≤ q) b := Nat.not_le.mpr hbl
  obtain ⟨r, z9, t9, m1, m2, hR9⟩ := B_item hR (xs (i + 1)) (xs (i + 2))
  have hP1 : va_P D vwCl ((wR y a2 t ++ wO y r0 o) ++ wC y a z) H := by rw [List.append_assoc]; exact hP
  have hD1 : va_D (fun q : Nat => s.heap.size ≤ q) ((wR y a2 t ++ wO y r0 o) ++ wC y a z) := by rw [List.append_assoc]; exact hD
  refine lv_aload_n hx hb dL_law_921 rfl (lv_at hl 1 rfl) ?_
  refine zl_arg (k := 1) hx hb hX hbl hbA hS hL (by omega) rfl (lv_at hl 0 rfl) (lv_at hl 4 rfl) dL_law_922 dL_law_923 dL_law_925 (by decide) dL_law_926 dL_law_927 ?_
  refine zl_arg (k := 2) hx hb hX hbl hbA hS hL (by omega) rfl (lv_at hl 0 rfl) (lv_at hl 4 rfl) dL_law_928 dL_law_929 dL_law_931 (by decide) dL_law_932 dL_law_933 ?_
  refine zl_calli (w := wC y a) (zt := z9) (X := wR y a2 t ++ wO y r0 o) (zl_runV (w := wC y a) (X := wR y a2 t ++ wO y r0 o) (As := [.int (xs (i + 1)), .int (xs (i + 2))]) (rest := []) (mc := 0) (ms := 0) ⟨hx, hb, hml, hown, hts⟩ (zX10_item l D y a H.size (xs (i + 1)) (xs (i + 2)) z m1) (cwV 2 hts gL_law_X10_item rfl rfl rfl zdX10_item ⟨Nat.le_of_ble_eq_true rfl, Nat.le_of_ble_eq_true rfl⟩) hK hN hg hP1 hD1 hS hA 0 (wC_0 y a z) rfl rfl hl.1 rfl (Nat.le_of_ble_eq_true rfl) dL_law_934 ⟨by show cells + 0 ≤ 601024; omega, by show slots + 0 ≤ 7293034; omega⟩) hP1 hD1 hS hA (fun H locs hP hD hS => ?_)
  have hP2 : va_P D vwCl ((wO y r0 o ++ wC y a z9) ++ wR y a2 t) H := zz_comP (by rw [List.append_assoc] at hP; exact hP)
  have hD2 : va_D (fun q : Nat => s.heap.size ≤ q) ((wO y r0 o ++ wC y a z9) ++ wR y a2 t) := zz_comD (by rw [List.append_assoc] at hD; exact hD)
  refine lv_aload_n hx hb dL_law_937 rfl (lv_at hl 2 rfl) ?_
  refine zl_arg (k := 1) hx hb hX hbl hbA hS hL (by omega) rfl (lv_at hl 0 rfl) (lv_at hl 4 rfl) dL_law_938 dL_law_939 dL_law_941 (by decide) dL_law_942 dL_law_943 ?_
  refine zl_arg (k := 2) hx hb hX hbl hbA hS hL (by omega) rfl (lv_at hl 0 rfl) (lv_at hl 4 rfl) dL_law_944 dL_law_945 dL_law_947 (by decide) dL_law_948 dL_law_949 ?_
  refine zl_calli (w := wR y a2) (zt := t9) (X := wO y r0 o ++ wC y a z9) (zl_runV (w := wR y a2) (X := wO y r0 o ++ wC y a z9) (As := [.int (xs (i + 1)), .int (xs (i + 2))]) (rest := [.int r]) (mc := 0) (ms := 0) ⟨hx, hb, hml, hown, hts⟩ (zX11_item l D y a2 H.size (xs (i + 1)) (xs (i + 2)) t m2) (cwV 2 hts gL_law_X11_item rfl rfl rfl zdX11_item ⟨Nat.le_of_ble_eq_true rfl, Nat.le_of_ble_eq_true rfl⟩) hK hN hg hP2 hD2 hS hA 0 (wR_0 y a2 t) rfl rfl hl.1 rfl (Nat.le_of_ble_eq_true rfl) dL_law_950 ⟨by show cells + 0 ≤ 601024; omega, by show slots + 0 ≤ 7293034; omega⟩) hP2 hD2 hS hA (fun H locs hP hD hS => ?_)
  refine lv_icmp_eq (tgt := 1682) hx hb dL_law_953 (by decide) (fun _ => ?_) (fun c9 => absurd rfl c9)
  refine W.widen (k := cells + 1) (n := slots + 6) (by omega) (by omega) ?_
  exact kk z9 t9 o H locs ls hR9 (zz_comP hP) (zz_comD hD) hS hl
set_option maxHeartbeats 4000000 in
set_option maxRecDepth 100000 in
theorem Lc_priced {p : Program} {l : Launch} {e : Env} {s : State} {m : MethodId} {below : List Frame} {meth : Method} {c : Code} {b L : Nat} {xs : Nat → Int32} (hst : l.stackTraces = false) (hL : L ≤ 2560) (C0 : lw_At p s m meth c b L xs) {D : va_G} {y : Nat → ClassId} (hK : va_K D vwCl (zz_ty y) s) (hN : zz_nw s) (hg : zz_gr (fun q : Nat => s.heap.size ≤ q) s s.heap) (hxx : zz_ex (fun q : Nat => s.heap.size ≤ q) s s.heap) {a a2 : Nat → Nat} {r0 : Nat} {z t : zz_M} {o : Nat → Int64} (hR : zR z t) {i : Nat} (hi : i + 4 < L) {H : Heap} {locs : List Loc} {ls : Array Slot} {cells slots : Nat} (hroom : cells + 1 ≤ 601024 ∧ slots + 6 ≤ 7293034) (hP : va_P D vwCl (wR y a2 t ++ (wO y r0 o ++ wC y a z)) H) (hD : va_D (fun q : Nat => s.heap.size ≤ q) (wR y a2 t ++ (wO y r0 o ++ wC y a z))) (hS : va_S (fun q : Nat => s.heap.size ≤ q) s.heap H locs) (hl : lv_has ls 8 [(0, .ref b), (1, .ref (a 0)), (2, .ref (a2 0)), (3, .ref r0), (4, .int (nI i))])
    (kk : ∀ (z : zz_M) (t : zz_M) (o : Nat → Int64) (H : Heap) (locs : List Loc) (ls : Array Slot), zR z t → va_P D vwCl (wR y a2 t ++ (wO y r0 o ++ wC y a z)) H → va_D (fun q : Nat => s.heap.size ≤ q) (wR y a2 t ++ (wO y r0 o ++ wC y a z)) → va_S (fun q : Nat => s.heap.size ≤ q) s.heap H locs → lv_has ls 8 [(0, .ref b), (1, .ref (a 0)), (2, .ref (a2 0)), (3, .ref r0), (4, .int (nI i))] → W p l e room_1 s m #[Value.ref b] below meth c H locs (cells + 1) (slots + 6) (lw_Z below #[Value.ref b] s) (F0 m 1682 ls [])) : W p l e room_1 s m #[Value.ref b] below meth c H locs cells slots (lw_Z below #[Value.ref b] s) (F0 m 958 ls []) := by
  obtain ⟨hx, hb, hr, hml, hown, hts0, hX, hbl, hlocks, hgv⟩ := C0
  have hts : ∀ w ∈ wsL_law, w.before #[Value.ref b] s = true := fun w h => hts0 w (wsL_law_in w h)
  have hA : ∀ q : Nat, s.heap.size ≤ q → (fun q : Nat => s.heap.size ≤ q) q := fun _ h => h
  have hbA : ¬ (fun q : Nat => s.heap.size ≤ q) b := Nat.not_le.mpr hbl
  obtain ⟨r, z9, t9, m1, m2, hR9⟩ := B_priced hR (xs (i + 1))
  have hP1 : va_P D vwCl ((wR y a2 t ++ wO y r0 o) ++ wC y a z) H := by rw [List.append_assoc]; exact hP
  have hD1 : va_D (fun q : Nat => s.heap.size ≤ q) ((wR y a2 t ++ wO y r0 o) ++ wC y a z) := by rw [List.append_assoc]; exact hD
  refine lv_aload_n hx hb dL_law_958 rfl (lv_at hl 1 rfl) ?_
  refine zl_arg (k := 1) hx hb hX hbl hbA hS hL (by omega) rfl (lv_at hl 0 rfl) (lv_at hl 4 rfl) dL_law_959 dL_law_960 dL_law_962 (by decide) dL_law_963 dL_law_964 ?_
  refine zl_calli (w := wC y a) (zt := z9) (X := wR y a2 t ++ wO y r0 o) (zl_runV (w := wC y a) (X := wR y a2 t ++ wO y r0 o) (As := [.int (xs (i + 1))]) (rest := []) (mc := 0) (ms := 0) ⟨hx, hb, hml, hown, hts⟩ (zX10_priced l D y a H.size (xs (i + 1)) z m1) (cwV 1 hts gL_law_X10_priced rfl rfl rfl zdX10_priced ⟨Nat.le_of_ble_eq_true rfl, Nat.le_of_ble_eq_true rfl⟩) hK hN hg hP1 hD1 hS hA 0 (wC_0 y a z) rfl rfl hl.1 rfl (Nat.le_of_ble_eq_true rfl) dL_law_965 ⟨by show cells + 0 ≤ 601024; omega, by show slots + 0 ≤ 7293034; omega⟩) hP1 hD1 hS hA (fun H locs hP hD hS => ?_)
  have hP2 : va_P D vwCl ((wO y r0 o ++ wC y a z9) ++ wR y a2 t) H := zz_comP (by rw [List.append_assoc] at hP; exact hP)
  have hD2 : va_D (fun q : Nat => s.heap.size ≤ q) ((wO y r0 o ++ wC y a z9) ++ wR y a2 t) := zz_comD (by rw [List.append_assoc] at hD; exact hD)
  refine lv_aload_n hx hb dL_law_968 rfl (lv_at hl 2 rfl) ?_
  refine zl_arg (k := 1) hx hb hX hbl hbA hS hL (by omega) rfl (lv_at hl 0 rfl) (lv_at hl 4 rfl) dL_law_969 dL_law_970 dL_law_972 (by decide) dL_law_973 dL_law_974 ?_
  refine zl_calli (w := wR y a2) (zt := t9) (X := wO y r0 o ++ wC y a z9) (zl_runV (w := wR y a2) (X := wO y r0 o ++ wC y a z9) (As := [.int (xs (i + 1))]) (rest := [.int r]) (mc := 0) (ms := 0) ⟨hx, hb, hml, hown, hts⟩ (zX11_priced l D y a2 H.size (xs (i + 1)) t m2) (cwV 1 hts gL_law_X11_priced rfl rfl rfl zdX11_priced ⟨Nat.le_of_ble_eq_true rfl, Nat.le_of_ble_eq_true rfl⟩) hK hN hg hP2 hD2 hS hA 0 (wR_0 y a2 t) rfl rfl hl.1 rfl (Nat.le_of_ble_eq_true rfl) dL_law_975 ⟨by show cells + 0 ≤ 601024; omega, by show slots + 0 ≤ 7293034; omega⟩) hP2 hD2 hS hA (fun H locs hP hD hS => ?_)
  refine lv_icmp_eq (tgt := 1682) hx hb dL_law_978 (by decide) (fun _ => ?_) (fun c9 => absurd rfl c9)
  refine W.widen (k := cells + 1) (n := slots + 6) (by omega) (by omega) ?_
  exact kk z9 t9 o H locs ls hR9 (zz_comP hP) (zz_comD hD) hS hl
set_option maxHeartbeats 4000000 in
set_option maxRecDepth 100000 in
theorem Lc_held {p : Program} {l : Launch} {e : Env} {s : State} {m : MethodId} {below : List Frame} {meth : Method} {c : Code} {b L : Nat} {xs : Nat → Int32} (hst : l.stackTraces = false) (hL : L ≤ 2560) (C0 : lw_At p s m meth c b L xs) {D : va_G} {y : Nat → ClassId} (hK : va_K D vwCl (zz_ty y) s) (hN : zz_nw s) (hg : zz_gr (fun q : Nat => s.heap.size ≤ q) s s.heap) (hxx : zz_ex (fun q : Nat => s.heap.size ≤ q) s s.heap) {a a2 : Nat → Nat} {r0 : Nat} {z t : zz_M} {o : Nat → Int64} (hR : zR z t) {i : Nat} (hi : i + 4 < L) {H : Heap} {locs : List Loc} {ls : Array Slot} {cells slots : Nat} (hroom : cells + 1 ≤ 601024 ∧ slots + 6 ≤ 7293034) (hP : va_P D vwCl (wR y a2 t ++ (wO y r0 o ++ wC y a z)) H) (hD : va_D (fun q : Nat => s.heap.size ≤ q) (wR y a2 t ++ (wO y r0 o ++ wC y a z))) (hS : va_S (fun q : Nat => s.heap.size ≤ q) s.heap H locs) (hl : lv_has ls 8 [(0, .ref b), (1, .ref (a 0)), (2, .ref (a2 0)), (3, .ref r0), (4, .int (nI i))])
    (kk : ∀ (z : zz_M) (t : zz_M) (o : Nat → Int64) (H : Heap) (locs : List Loc) (ls : Array Slot), zR z t → va_P D vwCl (wR y a2 t ++ (wO y r0 o ++ wC y a z)) H → va_D (fun q : Nat => s.heap.size ≤ q) (wR y a2 t ++ (wO y r0 o ++ wC y a z)) → va_S (fun q : Nat => s.heap.size ≤ q) s.heap H locs → lv_has ls 8 [(0, .ref b), (1, .ref (a 0)), (2, .ref (a2 0)), (3, .ref r0), (4, .int (nI i))] → W p l e room_1 s m #[Value.ref b] below meth c H locs (cells + 1) (slots + 6) (lw_Z below #[Value.ref b] s) (F0 m 1682 ls [])) : W p l e room_1 s m #[Value.ref b] below meth c H locs cells slots (lw_Z below #[Value.ref b] s) (F0 m 983 ls []) := by
  obtain ⟨hx, hb, hr, hml, hown, hts0, hX, hbl, hlocks, hgv⟩ := C0
  have hts : ∀ w ∈ wsL_law, w.before #[Value.ref b] s = true := fun w h => hts0 w (wsL_law_in w h)
  have hA : ∀ q : Nat, s.heap.size ≤ q → (fun q : Nat => s.heap.size ≤ q) q := fun _ h => h
  have hbA : ¬ (fun q : Nat => s.heap.size ≤ q) b := Nat.not_le.mpr hbl
  obtain ⟨r, z9, t9, m1, m2, hR9⟩ := B_held hR (xs (i + 1)) (xs (i + 2))
  have hP1 : va_P D vwCl ((wR y a2 t ++ wO y r0 o) ++ wC y a z) H := by rw [List.append_assoc]; exact hP
  have hD1 : va_D (fun q : Nat => s.heap.size ≤ q) ((wR y a2 t ++ wO y r0 o) ++ wC y a z) := by rw [List.append_assoc]; exact hD
  refine lv_aload_n hx hb dL_law_983 rfl (lv_at hl 1 rfl) ?_
  refine zl_arg (k := 1) hx hb hX hbl hbA hS hL (by omega) rfl (lv_at hl 0 rfl) (lv_at hl 4 rfl) dL_law_984 dL_law_985 dL_law_987 (by decide) dL_law_988 dL_law_989 ?_
  refine zl_arg (k := 2) hx hb hX hbl hbA hS hL (by omega) rfl (lv_at hl 0 rfl) (lv_at hl 4 rfl) dL_law_990 dL_law_991 dL_law_993 (by decide) dL_law_994 dL_law_995 ?_
  refine zl_calli (w := wC y a) (zt := z9) (X := wR y a2 t ++ wO y r0 o) (zl_runV (w := wC y a) (X := wR y a2 t ++ wO y r0 o) (As := [.int (xs (i + 1)), .int (xs (i + 2))]) (rest := []) (mc := 0) (ms := 0) ⟨hx, hb, hml, hown, hts⟩ (zX10_held l D y a H.size (xs (i + 1)) (xs (i + 2)) z m1) (cwV 2 hts gL_law_X10_held rfl rfl rfl zdX10_held ⟨Nat.le_of_ble_eq_true rfl, Nat.le_of_ble_eq_true rfl⟩) hK hN hg hP1 hD1 hS hA 0 (wC_0 y a z) rfl rfl hl.1 rfl (Nat.le_of_ble_eq_true rfl) dL_law_996 ⟨by show cells + 0 ≤ 601024; omega, by show slots + 0 ≤ 7293034; omega⟩) hP1 hD1 hS hA (fun H locs hP hD hS => ?_)
  have hP2 : va_P D vwCl ((wO y r0 o ++ wC y a z9) ++ wR y a2 t) H := zz_comP (by rw [List.append_assoc] at hP; exact hP)
  have hD2 : va_D (fun q : Nat => s.heap.size ≤ q) ((wO y r0 o ++ wC y a z9) ++ wR y a2 t) := zz_comD (by rw [List.append_assoc] at hD; exact hD)
  refine lv_aload_n hx hb dL_law_999 rfl (lv_at hl 2 rfl) ?_
  refine zl_arg (k := 1) hx hb hX hbl hbA hS hL (by omega) rfl (lv_at hl 0 rfl) (lv_at hl 4 rfl) dL_law_1000 dL_law_1001 dL_law_1003 (by decide) dL_law_1004 dL_law_1005 ?_
  refine zl_arg (k := 2) hx hb hX hbl hbA hS hL (by omega) rfl (lv_at hl 0 rfl) (lv_at hl 4 rfl) dL_law_1006 dL_law_1007 dL_law_1009 (by decide) dL_law_1010 dL_law_1011 ?_
  refine zl_calli (w := wR y a2) (zt := t9) (X := wO y r0 o ++ wC y a z9) (zl_runV (w := wR y a2) (X := wO y r0 o ++ wC y a z9) (As := [.int (xs (i + 1)), .int (xs (i + 2))]) (rest := [.int r]) (mc := 0) (ms := 0) ⟨hx, hb, hml, hown, hts⟩ (zX11_held l D y a2 H.size (xs (i + 1)) (xs (i + 2)) t m2) (cwV 2 hts gL_law_X11_held rfl rfl rfl zdX11_held ⟨Nat.le_of_ble_eq_true rfl, Nat.le_of_ble_eq_true rfl⟩) hK hN hg hP2 hD2 hS hA 0 (wR_0 y a2 t) rfl rfl hl.1 rfl (Nat.le_of_ble_eq_true rfl) dL_law_1012 ⟨by show cells + 0 ≤ 601024; omega, by show slots + 0 ≤ 7293034; omega⟩) hP2 hD2 hS hA (fun H locs hP hD hS => ?_)
  refine lv_icmp_eq (tgt := 1682) hx hb dL_law_1015 (by decide) (fun _ => ?_) (fun c9 => absurd rfl c9)
  refine W.widen (k := cells + 1) (n := slots + 6) (by omega) (by omega) ?_
  exact kk z9 t9 o H locs ls hR9 (zz_comP hP) (zz_comD hD) hS hl
set_option maxHeartbeats 4000000 in
set_option maxRecDepth 100000 in
theorem Lc_sum {p : Program} {l : Launch} {e : Env} {s : State} {m : MethodId} {below : List Frame} {meth : Method} {c : Code} {b L : Nat} {xs : Nat → Int32} (hst : l.stackTraces = false) (hL : L ≤ 2560) (C0 : lw_At p s m meth c b L xs) {D : va_G} {y : Nat → ClassId} (hK : va_K D vwCl (zz_ty y) s) (hN : zz_nw s) (hg : zz_gr (fun q : Nat => s.heap.size ≤ q) s s.heap) (hxx : zz_ex (fun q : Nat => s.heap.size ≤ q) s s.heap) {a a2 : Nat → Nat} {r0 : Nat} {z t : zz_M} {o : Nat → Int64} (hR : zR z t) {i : Nat} (hi : i + 4 < L) {H : Heap} {locs : List Loc} {ls : Array Slot} {cells slots : Nat} (hroom : cells + 1 ≤ 601024 ∧ slots + 6 ≤ 7293034) (hP : va_P D vwCl (wR y a2 t ++ (wO y r0 o ++ wC y a z)) H) (hD : va_D (fun q : Nat => s.heap.size ≤ q) (wR y a2 t ++ (wO y r0 o ++ wC y a z))) (hS : va_S (fun q : Nat => s.heap.size ≤ q) s.heap H locs) (hl : lv_has ls 8 [(0, .ref b), (1, .ref (a 0)), (2, .ref (a2 0)), (3, .ref r0), (4, .int (nI i))])
    (kk : ∀ (z : zz_M) (t : zz_M) (o : Nat → Int64) (H : Heap) (locs : List Loc) (ls : Array Slot), zR z t → va_P D vwCl (wR y a2 t ++ (wO y r0 o ++ wC y a z)) H → va_D (fun q : Nat => s.heap.size ≤ q) (wR y a2 t ++ (wO y r0 o ++ wC y a z)) → va_S (fun q : Nat => s.heap.size ≤ q) s.heap H locs → lv_has ls 8 [(0, .ref b), (1, .ref (a 0)), (2, .ref (a2 0)), (3, .ref r0), (4, .int (nI i))] → W p l e room_1 s m #[Value.ref b] below meth c H locs (cells + 1) (slots + 6) (lw_Z below #[Value.ref b] s) (F0 m 1682 ls [])) : W p l e room_1 s m #[Value.ref b] below meth c H locs cells slots (lw_Z below #[Value.ref b] s) (F0 m 1020 ls []) := by
  obtain ⟨hx, hb, hr, hml, hown, hts0, hX, hbl, hlocks, hgv⟩ := C0
  have hts : ∀ w ∈ wsL_law, w.before #[Value.ref b] s = true := fun w h => hts0 w (wsL_law_in w h)
  have hA : ∀ q : Nat, s.heap.size ≤ q → (fun q : Nat => s.heap.size ≤ q) q := fun _ h => h
  have hbA : ¬ (fun q : Nat => s.heap.size ≤ q) b := Nat.not_le.mpr hbl
  obtain ⟨r, z9, t9, m1, m2, hR9⟩ := B_sum hR
  have hP1 : va_P D vwCl ((wR y a2 t ++ wO y r0 o) ++ wC y a z) H := by rw [List.append_assoc]; exact hP
  have hD1 : va_D (fun q : Nat => s.heap.size ≤ q) ((wR y a2 t ++ wO y r0 o) ++ wC y a z) := by rw [List.append_assoc]; exact hD
  refine lv_aload_n hx hb dL_law_1020 rfl (lv_at hl 1 rfl) ?_
  refine zl_calli (w := wC y a) (zt := z9) (X := wR y a2 t ++ wO y r0 o) (zl_runV (w := wC y a) (X := wR y a2 t ++ wO y r0 o) (As := []) (rest := []) (mc := 0) (ms := 0) ⟨hx, hb, hml, hown, hts⟩ (zX10_sum l D y a H.size z m1) (cwV 0 hts gL_law_X10_sum rfl rfl rfl zdX10_sum ⟨Nat.le_of_ble_eq_true rfl, Nat.le_of_ble_eq_true rfl⟩) hK hN hg hP1 hD1 hS hA 0 (wC_0 y a z) rfl rfl hl.1 rfl (Nat.le_of_ble_eq_true rfl) dL_law_1021 ⟨by show cells + 0 ≤ 601024; omega, by show slots + 0 ≤ 7293034; omega⟩) hP1 hD1 hS hA (fun H locs hP hD hS => ?_)
  have hP2 : va_P D vwCl ((wO y r0 o ++ wC y a z9) ++ wR y a2 t) H := zz_comP (by rw [List.append_assoc] at hP; exact hP)
  have hD2 : va_D (fun q : Nat => s.heap.size ≤ q) ((wO y r0 o ++ wC y a z9) ++ wR y a2 t) := zz_comD (by rw [List.append_assoc] at hD; exact hD)
  refine lv_aload_n hx hb dL_law_1024 rfl (lv_at hl 2 rfl) ?_
  refine zl_calli (w := wR y a2) (zt := t9) (X := wO y r0 o ++ wC y a z9) (zl_runV (w := wR y a2) (X := wO y r0 o ++ wC y a z9) (As := []) (rest := [.int r]) (mc := 0) (ms := 0) ⟨hx, hb, hml, hown, hts⟩ (zX11_sum l D y a2 H.size t m2) (cwV 0 hts gL_law_X11_sum rfl rfl rfl zdX11_sum ⟨Nat.le_of_ble_eq_true rfl, Nat.le_of_ble_eq_true rfl⟩) hK hN hg hP2 hD2 hS hA 0 (wR_0 y a2 t) rfl rfl hl.1 rfl (Nat.le_of_ble_eq_true rfl) dL_law_1025 ⟨by show cells + 0 ≤ 601024; omega, by show slots + 0 ≤ 7293034; omega⟩) hP2 hD2 hS hA (fun H locs hP hD hS => ?_)
  refine lv_icmp_eq (tgt := 1682) hx hb dL_law_1028 (by decide) (fun _ => ?_) (fun c9 => absurd rfl c9)
  refine W.widen (k := cells + 1) (n := slots + 6) (by omega) (by omega) ?_
  exact kk z9 t9 o H locs ls hR9 (zz_comP hP) (zz_comD hD) hS hl
set_option maxHeartbeats 4000000 in
set_option maxRecDepth 100000 in
theorem Lc_lines {p : Program} {l : Launch} {e : Env} {s : State} {m : MethodId} {below : List Frame} {meth : Method} {c : Code} {b L : Nat} {xs : Nat → Int32} (hst : l.stackTraces = false) (hL : L ≤ 2560) (C0 : lw_At p s m meth c b L xs) {D : va_G} {y : Nat → ClassId} (hK : va_K D vwCl (zz_ty y) s) (hN : zz_nw s) (hg : zz_gr (fun q : Nat => s.heap.size ≤ q) s s.heap) (hxx : zz_ex (fun q : Nat => s.heap.size ≤ q) s s.heap) {a a2 : Nat → Nat} {r0 : Nat} {z t : zz_M} {o : Nat → Int64} (hR : zR z t) {i : Nat} (hi : i + 4 < L) {H : Heap} {locs : List Loc} {ls : Array Slot} {cells slots : Nat} (hroom : cells + 1 ≤ 601024 ∧ slots + 6 ≤ 7293034) (hP : va_P D vwCl (wR y a2 t ++ (wO y r0 o ++ wC y a z)) H) (hD : va_D (fun q : Nat => s.heap.size ≤ q) (wR y a2 t ++ (wO y r0 o ++ wC y a z))) (hS : va_S (fun q : Nat => s.heap.size ≤ q) s.heap H locs) (hl : lv_has ls 8 [(0, .ref b), (1, .ref (a 0)), (2, .ref (a2 0)), (3, .ref r0), (4, .int (nI i))])
    (kk : ∀ (z : zz_M) (t : zz_M) (o : Nat → Int64) (H : Heap) (locs : List Loc) (ls : Array Slot), zR z t → va_P D vwCl (wR y a2 t ++ (wO y r0 o ++ wC y a z)) H → va_D (fun q : Nat => s.heap.size ≤ q) (wR y a2 t ++ (wO y r0 o ++ wC y a z)) → va_S (fun q : Nat => s.heap.size ≤ q) s.heap H locs → lv_has ls 8 [(0, .ref b), (1, .ref (a 0)), (2, .ref (a2 0)), (3, .ref r0), (4, .int (nI i))] → W p l e room_1 s m #[Value.ref b] below meth c H locs (cells + 1) (slots + 6) (lw_Z below #[Value.ref b] s) (F0 m 1682 ls [])) : W p l e room_1 s m #[Value.ref b] below meth c H locs cells slots (lw_Z below #[Value.ref b] s) (F0 m 1033 ls []) := by
  obtain ⟨hx, hb, hr, hml, hown, hts0, hX, hbl, hlocks, hgv⟩ := C0
  have hts : ∀ w ∈ wsL_law, w.before #[Value.ref b] s = true := fun w h => hts0 w (wsL_law_in w h)
  have hA : ∀ q : Nat, s.heap.size ≤ q → (fun q : Nat => s.heap.size ≤ q) q := fun _ h => h
  have hbA : ¬ (fun q : Nat => s.heap.size ≤ q) b := Nat.not_le.mpr hbl
  obtain ⟨r, z9, t9, m1, m2, hR9⟩ := B_lines hR (xs (i + 1))
  have hP1 : va_P D vwCl ((wR y a2 t ++ wO y r0 o) ++ wC y a z) H := by rw [List.append_assoc]; exact hP
  have hD1 : va_D (fun q : Nat => s.heap.size ≤ q) ((wR y a2 t ++ wO y r0 o) ++ wC y a z) := by rw [List.append_assoc]; exact hD
  refine lv_aload_n hx hb dL_law_1033 rfl (lv_at hl 1 rfl) ?_
  refine zl_arg (k := 1) hx hb hX hbl hbA hS hL (by omega) rfl (lv_at hl 0 rfl) (lv_at hl 4 rfl) dL_law_1034 dL_law_1035 dL_law_1037 (by decide) dL_law_1038 dL_law_1039 ?_
  refine zl_calli (w := wC y a) (zt := z9) (X := wR y a2 t ++ wO y r0 o) (zl_runV (w := wC y a) (X := wR y a2 t ++ wO y r0 o) (As := [.int (xs (i + 1))]) (rest := []) (mc := 0) (ms := 0) ⟨hx, hb, hml, hown, hts⟩ (zX10_lines l D y a H.size (xs (i + 1)) z m1) (cwV 1 hts gL_law_X10_lines rfl rfl rfl zdX10_lines ⟨Nat.le_of_ble_eq_true rfl, Nat.le_of_ble_eq_true rfl⟩) hK hN hg hP1 hD1 hS hA 0 (wC_0 y a z) rfl rfl hl.1 rfl (Nat.le_of_ble_eq_true rfl) dL_law_1040 ⟨by show cells + 0 ≤ 601024; omega, by show slots + 0 ≤ 7293034; omega⟩) hP1 hD1 hS hA (fun H locs hP hD hS => ?_)
  have hP2 : va_P D vwCl ((wO y r0 o ++ wC y a z9) ++ wR y a2 t) H := zz_comP (by rw [List.append_assoc] at hP; exact hP)
  have hD2 : va_D (fun q : Nat => s.heap.size ≤ q) ((wO y r0 o ++ wC y a z9) ++ wR y a2 t) := zz_comD (by rw [List.append_assoc] at hD; exact hD)
  refine lv_aload_n hx hb dL_law_1043 rfl (lv_at hl 2 rfl) ?_
  refine zl_arg (k := 1) hx hb hX hbl hbA hS hL (by omega) rfl (lv_at hl 0 rfl) (lv_at hl 4 rfl) dL_law_1044 dL_law_1045 dL_law_1047 (by decide) dL_law_1048 dL_law_1049 ?_
  refine zl_calli (w := wR y a2) (zt := t9) (X := wO y r0 o ++ wC y a z9) (zl_runV (w := wR y a2) (X := wO y r0 o ++ wC y a z9) (As := [.int (xs (i + 1))]) (rest := [.int r]) (mc := 0) (ms := 0) ⟨hx, hb, hml, hown, hts⟩ (zX11_lines l D y a2 H.size (xs (i + 1)) t m2) (cwV 1 hts gL_law_X11_lines rfl rfl rfl zdX11_lines ⟨Nat.le_of_ble_eq_true rfl, Nat.le_of_ble_eq_true rfl⟩) hK hN hg hP2 hD2 hS hA 0 (wR_0 y a2 t) rfl rfl hl.1 rfl (Nat.le_of_ble_eq_true rfl) dL_law_1050 ⟨by show cells + 0 ≤ 601024; omega, by show slots + 0 ≤ 7293034; omega⟩) hP2 hD2 hS hA (fun H locs hP hD hS => ?_)
  refine lv_icmp_eq (tgt := 1682) hx hb dL_law_1053 (by decide) (fun _ => ?_) (fun c9 => absurd rfl c9)
  refine W.widen (k := cells + 1) (n := slots + 6) (by omega) (by omega) ?_
  exact kk z9 t9 o H locs ls hR9 (zz_comP hP) (zz_comD hD) hS hl
set_option maxHeartbeats 4000000 in
set_option maxRecDepth 100000 in
theorem Lc_recovered {p : Program} {l : Launch} {e : Env} {s : State} {m : MethodId} {below : List Frame} {meth : Method} {c : Code} {b L : Nat} {xs : Nat → Int32} (hst : l.stackTraces = false) (hL : L ≤ 2560) (C0 : lw_At p s m meth c b L xs) {D : va_G} {y : Nat → ClassId} (hK : va_K D vwCl (zz_ty y) s) (hN : zz_nw s) (hg : zz_gr (fun q : Nat => s.heap.size ≤ q) s s.heap) (hxx : zz_ex (fun q : Nat => s.heap.size ≤ q) s s.heap) {a a2 : Nat → Nat} {r0 : Nat} {z t : zz_M} {o : Nat → Int64} (hR : zR z t) {i : Nat} (hi : i + 4 < L) {H : Heap} {locs : List Loc} {ls : Array Slot} {cells slots : Nat} (hroom : cells + 1 ≤ 601024 ∧ slots + 6 ≤ 7293034) (hP : va_P D vwCl (wR y a2 t ++ (wO y r0 o ++ wC y a z)) H) (hD : va_D (fun q : Nat => s.heap.size ≤ q) (wR y a2 t ++ (wO y r0 o ++ wC y a z))) (hS : va_S (fun q : Nat => s.heap.size ≤ q) s.heap H locs) (hl : lv_has ls 8 [(0, .ref b), (1, .ref (a 0)), (2, .ref (a2 0)), (3, .ref r0), (4, .int (nI i))])
    (kk : ∀ (z : zz_M) (t : zz_M) (o : Nat → Int64) (H : Heap) (locs : List Loc) (ls : Array Slot), zR z t → va_P D vwCl (wR y a2 t ++ (wO y r0 o ++ wC y a z)) H → va_D (fun q : Nat => s.heap.size ≤ q) (wR y a2 t ++ (wO y r0 o ++ wC y a z)) → va_S (fun q : Nat => s.heap.size ≤ q) s.heap H locs → lv_has ls 8 [(0, .ref b), (1, .ref (a 0)), (2, .ref (a2 0)), (3, .ref r0), (4, .int (nI i))] → W p l e room_1 s m #[Value.ref b] below meth c H locs (cells + 1) (slots + 6) (lw_Z below #[Value.ref b] s) (F0 m 1682 ls [])) : W p l e room_1 s m #[Value.ref b] below meth c H locs cells slots (lw_Z below #[Value.ref b] s) (F0 m 1058 ls []) := by
  obtain ⟨hx, hb, hr, hml, hown, hts0, hX, hbl, hlocks, hgv⟩ := C0
  have hts : ∀ w ∈ wsL_law, w.before #[Value.ref b] s = true := fun w h => hts0 w (wsL_law_in w h)
  have hA : ∀ q : Nat, s.heap.size ≤ q → (fun q : Nat => s.heap.size ≤ q) q := fun _ h => h
  have hbA : ¬ (fun q : Nat => s.heap.size ≤ q) b := Nat.not_le.mpr hbl
  obtain ⟨r, z9, t9, m1, m2, hR9⟩ := B_recovered hR
  have hP1 : va_P D vwCl ((wR y a2 t ++ wO y r0 o) ++ wC y a z) H := by rw [List.append_assoc]; exact hP
  have hD1 : va_D (fun q : Nat => s.heap.size ≤ q) ((wR y a2 t ++ wO y r0 o) ++ wC y a z) := by rw [List.append_assoc]; exact hD
  refine lv_aload_n hx hb dL_law_1058 rfl (lv_at hl 1 rfl) ?_
  refine zl_calli (w := wC y a) (zt := z9) (X := wR y a2 t ++ wO y r0 o) (zl_runV (w := wC y a) (X := wR y a2 t ++ wO y r0 o) (As := []) (rest := []) (mc := 0) (ms := 0) ⟨hx, hb, hml, hown, hts⟩ (zX10_recovered l D y a H.size z m1) (cwV 0 hts gL_law_X10_recovered rfl rfl rfl zdX10_recovered ⟨Nat.le_of_ble_eq_true rfl, Nat.le_of_ble_eq_true rfl⟩) hK hN hg hP1 hD1 hS hA 0 (wC_0 y a z) rfl rfl hl.1 rfl (Nat.le_of_ble_eq_true rfl) dL_law_1059 ⟨by show cells + 0 ≤ 601024; omega, by show slots + 0 ≤ 7293034; omega⟩) hP1 hD1 hS hA (fun H locs hP hD hS => ?_)
  have hP2 : va_P D vwCl ((wO y r0 o ++ wC y a z9) ++ wR y a2 t) H := zz_comP (by rw [List.append_assoc] at hP; exact hP)
  have hD2 : va_D (fun q : Nat => s.heap.size ≤ q) ((wO y r0 o ++ wC y a z9) ++ wR y a2 t) := zz_comD (by rw [List.append_assoc] at hD; exact hD)
  refine lv_aload_n hx hb dL_law_1062 rfl (lv_at hl 2 rfl) ?_
  refine zl_calli (w := wR y a2) (zt := t9) (X := wO y r0 o ++ wC y a z9) (zl_runV (w := wR y a2) (X := wO y r0 o ++ wC y a z9) (As := []) (rest := [.int r]) (mc := 0) (ms := 0) ⟨hx, hb, hml, hown, hts⟩ (zX11_recovered l D y a2 H.size t m2) (cwV 0 hts gL_law_X11_recovered rfl rfl rfl zdX11_recovered ⟨Nat.le_of_ble_eq_true rfl, Nat.le_of_ble_eq_true rfl⟩) hK hN hg hP2 hD2 hS hA 0 (wR_0 y a2 t) rfl rfl hl.1 rfl (Nat.le_of_ble_eq_true rfl) dL_law_1063 ⟨by show cells + 0 ≤ 601024; omega, by show slots + 0 ≤ 7293034; omega⟩) hP2 hD2 hS hA (fun H locs hP hD hS => ?_)
  refine lv_icmp_eq (tgt := 1682) hx hb dL_law_1066 (by decide) (fun _ => ?_) (fun c9 => absurd rfl c9)
  refine W.widen (k := cells + 1) (n := slots + 6) (by omega) (by omega) ?_
  exact kk z9 t9 o H locs ls hR9 (zz_comP hP) (zz_comD hD) hS hl
set_option maxHeartbeats 4000000 in
set_option maxRecDepth 100000 in
theorem Lc_limited {p : Program} {l : Launch} {e : Env} {s : State} {m : MethodId} {below : List Frame} {meth : Method} {c : Code} {b L : Nat} {xs : Nat → Int32} (hst : l.stackTraces = false) (hL : L ≤ 2560) (C0 : lw_At p s m meth c b L xs) {D : va_G} {y : Nat → ClassId} (hK : va_K D vwCl (zz_ty y) s) (hN : zz_nw s) (hg : zz_gr (fun q : Nat => s.heap.size ≤ q) s s.heap) (hxx : zz_ex (fun q : Nat => s.heap.size ≤ q) s s.heap) {a a2 : Nat → Nat} {r0 : Nat} {z t : zz_M} {o : Nat → Int64} (hR : zR z t) {i : Nat} (hi : i + 4 < L) {H : Heap} {locs : List Loc} {ls : Array Slot} {cells slots : Nat} (hroom : cells + 1 ≤ 601024 ∧ slots + 6 ≤ 7293034) (hP : va_P D vwCl (wR y a2 t ++ (wO y r0 o ++ wC y a z)) H) (hD : va_D (fun q : Nat => s.heap.size ≤ q) (wR y a2 t ++ (wO y r0 o ++ wC y a z))) (hS : va_S (fun q : Nat => s.heap.size ≤ q) s.heap H locs) (hl : lv_has ls 8 [(0, .ref b), (1, .ref (a 0)), (2, .ref (a2 0)), (3, .ref r0), (4, .int (nI i))])
    (kk : ∀ (z : zz_M) (t : zz_M) (o : Nat → Int64) (H : Heap) (locs : List Loc) (ls : Array Slot), zR z t → va_P D vwCl (wR y a2 t ++ (wO y r0 o ++ wC y a z)) H → va_D (fun q : Nat => s.heap.size ≤ q) (wR y a2 t ++ (wO y r0 o ++ wC y a z)) → va_S (fun q : Nat => s.heap.size ≤ q) s.heap H locs → lv_has ls 8 [(0, .ref b), (1, .ref (a 0)), (2, .ref (a2 0)), (3, .ref r0), (4, .int (nI i))] → W p l e room_1 s m #[Value.ref b] below meth c H locs (cells + 1) (slots + 6) (lw_Z below #[Value.ref b] s) (F0 m 1682 ls [])) : W p l e room_1 s m #[Value.ref b] below meth c H locs cells slots (lw_Z below #[Value.ref b] s) (F0 m 1071 ls []) := by
  obtain ⟨hx, hb, hr, hml, hown, hts0, hX, hbl, hlocks, hgv⟩ := C0
  have hts : ∀ w ∈ wsL_law, w.before #[Value.ref b] s = true := fun w h => hts0 w (wsL_law_in w h)
  have hA : ∀ q : Nat, s.heap.size ≤ q → (fun q : Nat => s.heap.size ≤ q) q := fun _ h => h
  have hbA : ¬ (fun q : Nat => s.heap.size ≤ q) b := Nat.not_le.mpr hbl
  obtain ⟨r, z9, t9, m1, m2, hR9⟩ := B_limited hR
  have hP1 : va_P D vwCl ((wR y a2 t ++ wO y r0 o) ++ wC y a z) H := by rw [List.append_assoc]; exact hP
  have hD1 : va_D (fun q : Nat => s.heap.size ≤ q) ((wR y a2 t ++ wO y r0 o) ++ wC y a z) := by rw [List.append_assoc]; exact hD
  refine lv_aload_n hx hb dL_law_1071 rfl (lv_at hl 1 rfl) ?_
  refine zl_calli (w := wC y a) (zt := z9) (X := wR y a2 t ++ wO y r0 o) (zl_runV (w := wC y a) (X := wR y a2 t ++ wO y r0 o) (As := []) (rest := []) (mc := 0) (ms := 0) ⟨hx, hb, hml, hown, hts⟩ (zX10_limited l D y a H.size z m1) (cwV 0 hts gL_law_X10_limited rfl rfl rfl zdX10_limited ⟨Nat.le_of_ble_eq_true rfl, Nat.le_of_ble_eq_true rfl⟩) hK hN hg hP1 hD1 hS hA 0 (wC_0 y a z) rfl rfl hl.1 rfl (Nat.le_of_ble_eq_true rfl) dL_law_1072 ⟨by show cells + 0 ≤ 601024; omega, by show slots + 0 ≤ 7293034; omega⟩) hP1 hD1 hS hA (fun H locs hP hD hS => ?_)
  have hP2 : va_P D vwCl ((wO y r0 o ++ wC y a z9) ++ wR y a2 t) H := zz_comP (by rw [List.append_assoc] at hP; exact hP)
  have hD2 : va_D (fun q : Nat => s.heap.size ≤ q) ((wO y r0 o ++ wC y a z9) ++ wR y a2 t) := zz_comD (by rw [List.append_assoc] at hD; exact hD)
  refine lv_aload_n hx hb dL_law_1075 rfl (lv_at hl 2 rfl) ?_
  refine zl_calli (w := wR y a2) (zt := t9) (X := wO y r0 o ++ wC y a z9) (zl_runV (w := wR y a2) (X := wO y r0 o ++ wC y a z9) (As := []) (rest := [.int r]) (mc := 0) (ms := 0) ⟨hx, hb, hml, hown, hts⟩ (zX11_limited l D y a2 H.size t m2) (cwV 0 hts gL_law_X11_limited rfl rfl rfl zdX11_limited ⟨Nat.le_of_ble_eq_true rfl, Nat.le_of_ble_eq_true rfl⟩) hK hN hg hP2 hD2 hS hA 0 (wR_0 y a2 t) rfl rfl hl.1 rfl (Nat.le_of_ble_eq_true rfl) dL_law_1076 ⟨by show cells + 0 ≤ 601024; omega, by show slots + 0 ≤ 7293034; omega⟩) hP2 hD2 hS hA (fun H locs hP hD hS => ?_)
  refine lv_icmp_eq (tgt := 1682) hx hb dL_law_1079 (by decide) (fun _ => ?_) (fun c9 => absurd rfl c9)
  refine W.widen (k := cells + 1) (n := slots + 6) (by omega) (by omega) ?_
  exact kk z9 t9 o H locs ls hR9 (zz_comP hP) (zz_comD hD) hS hl
set_option maxHeartbeats 4000000 in
set_option maxRecDepth 100000 in
theorem Lc_reaches {p : Program} {l : Launch} {e : Env} {s : State} {m : MethodId} {below : List Frame} {meth : Method} {c : Code} {b L : Nat} {xs : Nat → Int32} (hst : l.stackTraces = false) (hL : L ≤ 2560) (C0 : lw_At p s m meth c b L xs) {D : va_G} {y : Nat → ClassId} (hK : va_K D vwCl (zz_ty y) s) (hN : zz_nw s) (hg : zz_gr (fun q : Nat => s.heap.size ≤ q) s s.heap) (hxx : zz_ex (fun q : Nat => s.heap.size ≤ q) s s.heap) {a a2 : Nat → Nat} {r0 : Nat} {z t : zz_M} {o : Nat → Int64} (hR : zR z t) {i : Nat} (hi : i + 4 < L) {H : Heap} {locs : List Loc} {ls : Array Slot} {cells slots : Nat} (hroom : cells + 1 ≤ 601024 ∧ slots + 6 ≤ 7293034) (hP : va_P D vwCl (wR y a2 t ++ (wO y r0 o ++ wC y a z)) H) (hD : va_D (fun q : Nat => s.heap.size ≤ q) (wR y a2 t ++ (wO y r0 o ++ wC y a z))) (hS : va_S (fun q : Nat => s.heap.size ≤ q) s.heap H locs) (hl : lv_has ls 8 [(0, .ref b), (1, .ref (a 0)), (2, .ref (a2 0)), (3, .ref r0), (4, .int (nI i))])
    (kk : ∀ (z : zz_M) (t : zz_M) (o : Nat → Int64) (H : Heap) (locs : List Loc) (ls : Array Slot), zR z t → va_P D vwCl (wR y a2 t ++ (wO y r0 o ++ wC y a z)) H → va_D (fun q : Nat => s.heap.size ≤ q) (wR y a2 t ++ (wO y r0 o ++ wC y a z)) → va_S (fun q : Nat => s.heap.size ≤ q) s.heap H locs → lv_has ls 8 [(0, .ref b), (1, .ref (a 0)), (2, .ref (a2 0)), (3, .ref r0), (4, .int (nI i))] → W p l e room_1 s m #[Value.ref b] below meth c H locs (cells + 1) (slots + 6) (lw_Z below #[Value.ref b] s) (F0 m 1682 ls [])) : W p l e room_1 s m #[Value.ref b] below meth c H locs cells slots (lw_Z below #[Value.ref b] s) (F0 m 1084 ls []) := by
  obtain ⟨hx, hb, hr, hml, hown, hts0, hX, hbl, hlocks, hgv⟩ := C0
  have hts : ∀ w ∈ wsL_law, w.before #[Value.ref b] s = true := fun w h => hts0 w (wsL_law_in w h)
  have hA : ∀ q : Nat, s.heap.size ≤ q → (fun q : Nat => s.heap.size ≤ q) q := fun _ h => h
  have hbA : ¬ (fun q : Nat => s.heap.size ≤ q) b := Nat.not_le.mpr hbl
  obtain ⟨r, z9, t9, m1, m2, hR9⟩ := B_reaches hR ((((xs (i + 1)).toInt64 <<< ((32 : Int32).toInt64 &&& 63)) ||| ((xs (i + 2)).toInt64 &&& 4294967295)))
  have hP1 : va_P D vwCl ((wR y a2 t ++ wO y r0 o) ++ wC y a z) H := by rw [List.append_assoc]; exact hP
  have hD1 : va_D (fun q : Nat => s.heap.size ≤ q) ((wR y a2 t ++ wO y r0 o) ++ wC y a z) := by rw [List.append_assoc]; exact hD
  refine lv_aload_n hx hb dL_law_1084 rfl (lv_at hl 1 rfl) ?_
  refine zl_arg (k := 1) hx hb hX hbl hbA hS hL (by omega) rfl (lv_at hl 0 rfl) (lv_at hl 4 rfl) dL_law_1085 dL_law_1086 dL_law_1088 (by decide) dL_law_1089 dL_law_1090 ?_
  refine lv_i2l hx hb dL_law_1091 rfl ?_
  refine lv_bipush (v := (32 : Int32)) hx hb dL_law_1092 (by decide) ?_
  refine lv_lshl hx hb dL_law_1094 rfl ?_
  refine zl_arg (k := 2) hx hb hX hbl hbA hS hL (by omega) rfl (lv_at hl 0 rfl) (lv_at hl 4 rfl) dL_law_1095 dL_law_1096 dL_law_1098 (by decide) dL_law_1099 dL_law_1100 ?_
  refine lv_i2l hx hb dL_law_1101 rfl ?_
  refine lv_ldc2 (v := (4294967295 : Int64)) hx hb hown (hts (.constantLong RL 138 (4294967295)) (List.mem_append_left _ (List.mem_append_left _ (List.mem_append_left _ (List.mem_append_left _ (List.mem_append_left _ (List.mem_append_left _ (List.mem_append_left _ (List.mem_append_left _ (List.mem_append_left _ (List.mem_append_left _ (List.mem_append_left _ (List.mem_append_left _ (List.mem_append_left _ (List.mem_append_left _ (List.mem_append_left _ (List.mem_of_getElem? (i := 7) rfl)))))))))))))))) ) dL_law_1102 ?_
  refine lv_land hx hb dL_law_1105 ?_
  refine lv_lor hx hb dL_law_1106 ?_
  refine zl_calli (w := wC y a) (zt := z9) (X := wR y a2 t ++ wO y r0 o) (zl_runV (w := wC y a) (X := wR y a2 t ++ wO y r0 o) (As := [.long ((((xs (i + 1)).toInt64 <<< ((32 : Int32).toInt64 &&& 63)) ||| ((xs (i + 2)).toInt64 &&& 4294967295)))]) (rest := []) (mc := 0) (ms := 0) ⟨hx, hb, hml, hown, hts⟩ (zX10_reaches l D y a H.size ((((xs (i + 1)).toInt64 <<< ((32 : Int32).toInt64 &&& 63)) ||| ((xs (i + 2)).toInt64 &&& 4294967295))) z m1) (cwV 1 hts gL_law_X10_reaches rfl rfl rfl zdX10_reaches ⟨Nat.le_of_ble_eq_true rfl, Nat.le_of_ble_eq_true rfl⟩) hK hN hg hP1 hD1 hS hA 0 (wC_0 y a z) rfl rfl hl.1 rfl (Nat.le_of_ble_eq_true rfl) dL_law_1107 ⟨by show cells + 0 ≤ 601024; omega, by show slots + 0 ≤ 7293034; omega⟩) hP1 hD1 hS hA (fun H locs hP hD hS => ?_)
  have hP2 : va_P D vwCl ((wO y r0 o ++ wC y a z9) ++ wR y a2 t) H := zz_comP (by rw [List.append_assoc] at hP; exact hP)
  have hD2 : va_D (fun q : Nat => s.heap.size ≤ q) ((wO y r0 o ++ wC y a z9) ++ wR y a2 t) := zz_comD (by rw [List.append_assoc] at hD; exact hD)
  refine lv_aload_n hx hb dL_law_1110 rfl (lv_at hl 2 rfl) ?_
  refine zl_arg (k := 1) hx hb hX hbl hbA hS hL (by omega) rfl (lv_at hl 0 rfl) (lv_at hl 4 rfl) dL_law_1111 dL_law_1112 dL_law_1114 (by decide) dL_law_1115 dL_law_1116 ?_
  refine lv_i2l hx hb dL_law_1117 rfl ?_
  refine lv_bipush (v := (32 : Int32)) hx hb dL_law_1118 (by decide) ?_
  refine lv_lshl hx hb dL_law_1120 rfl ?_
  refine zl_arg (k := 2) hx hb hX hbl hbA hS hL (by omega) rfl (lv_at hl 0 rfl) (lv_at hl 4 rfl) dL_law_1121 dL_law_1122 dL_law_1124 (by decide) dL_law_1125 dL_law_1126 ?_
  refine lv_i2l hx hb dL_law_1127 rfl ?_
  refine lv_ldc2 (v := (4294967295 : Int64)) hx hb hown (hts (.constantLong RL 138 (4294967295)) (List.mem_append_left _ (List.mem_append_left _ (List.mem_append_left _ (List.mem_append_left _ (List.mem_append_left _ (List.mem_append_left _ (List.mem_append_left _ (List.mem_append_left _ (List.mem_append_left _ (List.mem_append_left _ (List.mem_append_left _ (List.mem_append_left _ (List.mem_append_left _ (List.mem_append_left _ (List.mem_append_left _ (List.mem_of_getElem? (i := 7) rfl)))))))))))))))) ) dL_law_1128 ?_
  refine lv_land hx hb dL_law_1131 ?_
  refine lv_lor hx hb dL_law_1132 ?_
  refine zl_calli (w := wR y a2) (zt := t9) (X := wO y r0 o ++ wC y a z9) (zl_runV (w := wR y a2) (X := wO y r0 o ++ wC y a z9) (As := [.long ((((xs (i + 1)).toInt64 <<< ((32 : Int32).toInt64 &&& 63)) ||| ((xs (i + 2)).toInt64 &&& 4294967295)))]) (rest := [.int r]) (mc := 0) (ms := 0) ⟨hx, hb, hml, hown, hts⟩ (zX11_reaches l D y a2 H.size ((((xs (i + 1)).toInt64 <<< ((32 : Int32).toInt64 &&& 63)) ||| ((xs (i + 2)).toInt64 &&& 4294967295))) t m2) (cwV 1 hts gL_law_X11_reaches rfl rfl rfl zdX11_reaches ⟨Nat.le_of_ble_eq_true rfl, Nat.le_of_ble_eq_true rfl⟩) hK hN hg hP2 hD2 hS hA 0 (wR_0 y a2 t) rfl rfl hl.1 rfl (Nat.le_of_ble_eq_true rfl) dL_law_1133 ⟨by show cells + 0 ≤ 601024; omega, by show slots + 0 ≤ 7293034; omega⟩) hP2 hD2 hS hA (fun H locs hP hD hS => ?_)
  refine lv_icmp_eq (tgt := 1682) hx hb dL_law_1136 (by decide) (fun _ => ?_) (fun c9 => absurd rfl c9)
  refine W.widen (k := cells + 1) (n := slots + 6) (by omega) (by omega) ?_
  exact kk z9 t9 o H locs ls hR9 (zz_comP hP) (zz_comD hD) hS hl
set_option maxHeartbeats 4000000 in
set_option maxRecDepth 100000 in
theorem Lc_worst {p : Program} {l : Launch} {e : Env} {s : State} {m : MethodId} {below : List Frame} {meth : Method} {c : Code} {b L : Nat} {xs : Nat → Int32} (hst : l.stackTraces = false) (hL : L ≤ 2560) (C0 : lw_At p s m meth c b L xs) {D : va_G} {y : Nat → ClassId} (hK : va_K D vwCl (zz_ty y) s) (hN : zz_nw s) (hg : zz_gr (fun q : Nat => s.heap.size ≤ q) s s.heap) (hxx : zz_ex (fun q : Nat => s.heap.size ≤ q) s s.heap) {a a2 : Nat → Nat} {r0 : Nat} {z t : zz_M} {o : Nat → Int64} (hR : zR z t) {i : Nat} (hi : i + 4 < L) {H : Heap} {locs : List Loc} {ls : Array Slot} {cells slots : Nat} (hroom : cells + 1 ≤ 601024 ∧ slots + 6 ≤ 7293034) (hP : va_P D vwCl (wR y a2 t ++ (wO y r0 o ++ wC y a z)) H) (hD : va_D (fun q : Nat => s.heap.size ≤ q) (wR y a2 t ++ (wO y r0 o ++ wC y a z))) (hS : va_S (fun q : Nat => s.heap.size ≤ q) s.heap H locs) (hl : lv_has ls 8 [(0, .ref b), (1, .ref (a 0)), (2, .ref (a2 0)), (3, .ref r0), (4, .int (nI i))])
    (kk : ∀ (z : zz_M) (t : zz_M) (o : Nat → Int64) (H : Heap) (locs : List Loc) (ls : Array Slot), zR z t → va_P D vwCl (wR y a2 t ++ (wO y r0 o ++ wC y a z)) H → va_D (fun q : Nat => s.heap.size ≤ q) (wR y a2 t ++ (wO y r0 o ++ wC y a z)) → va_S (fun q : Nat => s.heap.size ≤ q) s.heap H locs → lv_has ls 8 [(0, .ref b), (1, .ref (a 0)), (2, .ref (a2 0)), (3, .ref r0), (4, .int (nI i))] → W p l e room_1 s m #[Value.ref b] below meth c H locs (cells + 1) (slots + 6) (lw_Z below #[Value.ref b] s) (F0 m 1682 ls [])) : W p l e room_1 s m #[Value.ref b] below meth c H locs cells slots (lw_Z below #[Value.ref b] s) (F0 m 1141 ls []) := by
  obtain ⟨hx, hb, hr, hml, hown, hts0, hX, hbl, hlocks, hgv⟩ := C0
  have hts : ∀ w ∈ wsL_law, w.before #[Value.ref b] s = true := fun w h => hts0 w (wsL_law_in w h)
  have hA : ∀ q : Nat, s.heap.size ≤ q → (fun q : Nat => s.heap.size ≤ q) q := fun _ h => h
  have hbA : ¬ (fun q : Nat => s.heap.size ≤ q) b := Nat.not_le.mpr hbl
  obtain ⟨r, z9, t9, m1, m2, hR9⟩ := B_worst hR
  have hP1 : va_P D vwCl ((wR y a2 t ++ wO y r0 o) ++ wC y a z) H := by rw [List.append_assoc]; exact hP
  have hD1 : va_D (fun q : Nat => s.heap.size ≤ q) ((wR y a2 t ++ wO y r0 o) ++ wC y a z) := by rw [List.append_assoc]; exact hD
  refine lv_aload_n hx hb dL_law_1141 rfl (lv_at hl 1 rfl) ?_
  refine zl_calli (w := wC y a) (zt := z9) (X := wR y a2 t ++ wO y r0 o) (zl_runV (w := wC y a) (X := wR y a2 t ++ wO y r0 o) (As := []) (rest := []) (mc := 0) (ms := 0) ⟨hx, hb, hml, hown, hts⟩ (zX10_worst l D y a H.size z m1) (cwV 0 hts gL_law_X10_worst rfl rfl rfl zdX10_worst ⟨Nat.le_of_ble_eq_true rfl, Nat.le_of_ble_eq_true rfl⟩) hK hN hg hP1 hD1 hS hA 0 (wC_0 y a z) rfl rfl hl.1 rfl (Nat.le_of_ble_eq_true rfl) dL_law_1142 ⟨by show cells + 0 ≤ 601024; omega, by show slots + 0 ≤ 7293034; omega⟩) hP1 hD1 hS hA (fun H locs hP hD hS => ?_)
  have hP2 : va_P D vwCl ((wO y r0 o ++ wC y a z9) ++ wR y a2 t) H := zz_comP (by rw [List.append_assoc] at hP; exact hP)
  have hD2 : va_D (fun q : Nat => s.heap.size ≤ q) ((wO y r0 o ++ wC y a z9) ++ wR y a2 t) := zz_comD (by rw [List.append_assoc] at hD; exact hD)
  refine lv_aload_n hx hb dL_law_1145 rfl (lv_at hl 2 rfl) ?_
  refine zl_calli (w := wR y a2) (zt := t9) (X := wO y r0 o ++ wC y a z9) (zl_runV (w := wR y a2) (X := wO y r0 o ++ wC y a z9) (As := []) (rest := [.int r]) (mc := 0) (ms := 0) ⟨hx, hb, hml, hown, hts⟩ (zX11_worst l D y a2 H.size t m2) (cwV 0 hts gL_law_X11_worst rfl rfl rfl zdX11_worst ⟨Nat.le_of_ble_eq_true rfl, Nat.le_of_ble_eq_true rfl⟩) hK hN hg hP2 hD2 hS hA 0 (wR_0 y a2 t) rfl rfl hl.1 rfl (Nat.le_of_ble_eq_true rfl) dL_law_1146 ⟨by show cells + 0 ≤ 601024; omega, by show slots + 0 ≤ 7293034; omega⟩) hP2 hD2 hS hA (fun H locs hP hD hS => ?_)
  refine lv_icmp_eq (tgt := 1682) hx hb dL_law_1149 (by decide) (fun _ => ?_) (fun c9 => absurd rfl c9)
  refine W.widen (k := cells + 1) (n := slots + 6) (by omega) (by omega) ?_
  exact kk z9 t9 o H locs ls hR9 (zz_comP hP) (zz_comD hD) hS hl
set_option maxHeartbeats 4000000 in
set_option maxRecDepth 100000 in
theorem Lc_clears {p : Program} {l : Launch} {e : Env} {s : State} {m : MethodId} {below : List Frame} {meth : Method} {c : Code} {b L : Nat} {xs : Nat → Int32} (hst : l.stackTraces = false) (hL : L ≤ 2560) (C0 : lw_At p s m meth c b L xs) {D : va_G} {y : Nat → ClassId} (hK : va_K D vwCl (zz_ty y) s) (hN : zz_nw s) (hg : zz_gr (fun q : Nat => s.heap.size ≤ q) s s.heap) (hxx : zz_ex (fun q : Nat => s.heap.size ≤ q) s s.heap) {a a2 : Nat → Nat} {r0 : Nat} {z t : zz_M} {o : Nat → Int64} (hR : zR z t) {i : Nat} (hi : i + 4 < L) {H : Heap} {locs : List Loc} {ls : Array Slot} {cells slots : Nat} (hroom : cells + 1 ≤ 601024 ∧ slots + 6 ≤ 7293034) (hP : va_P D vwCl (wR y a2 t ++ (wO y r0 o ++ wC y a z)) H) (hD : va_D (fun q : Nat => s.heap.size ≤ q) (wR y a2 t ++ (wO y r0 o ++ wC y a z))) (hS : va_S (fun q : Nat => s.heap.size ≤ q) s.heap H locs) (hl : lv_has ls 8 [(0, .ref b), (1, .ref (a 0)), (2, .ref (a2 0)), (3, .ref r0), (4, .int (nI i))])
    (kk : ∀ (z : zz_M) (t : zz_M) (o : Nat → Int64) (H : Heap) (locs : List Loc) (ls : Array Slot), zR z t → va_P D vwCl (wR y a2 t ++ (wO y r0 o ++ wC y a z)) H → va_D (fun q : Nat => s.heap.size ≤ q) (wR y a2 t ++ (wO y r0 o ++ wC y a z)) → va_S (fun q : Nat => s.heap.size ≤ q) s.heap H locs → lv_has ls 8 [(0, .ref b), (1, .ref (a 0)), (2, .ref (a2 0)), (3, .ref r0), (4, .int (nI i))] → W p l e room_1 s m #[Value.ref b] below meth c H locs (cells + 1) (slots + 6) (lw_Z below #[Value.ref b] s) (F0 m 1682 ls [])) : W p l e room_1 s m #[Value.ref b] below meth c H locs cells slots (lw_Z below #[Value.ref b] s) (F0 m 1154 ls []) := by
  obtain ⟨hx, hb, hr, hml, hown, hts0, hX, hbl, hlocks, hgv⟩ := C0
  have hts : ∀ w ∈ wsL_law, w.before #[Value.ref b] s = true := fun w h => hts0 w (wsL_law_in w h)
  have hA : ∀ q : Nat, s.heap.size ≤ q → (fun q : Nat => s.heap.size ≤ q) q := fun _ h => h
  have hbA : ¬ (fun q : Nat => s.heap.size ≤ q) b := Nat.not_le.mpr hbl
  obtain ⟨r, z9, t9, m1, m2, hR9⟩ := B_clears hR (xs (i + 1))
  have hP1 : va_P D vwCl ((wR y a2 t ++ wO y r0 o) ++ wC y a z) H := by rw [List.append_assoc]; exact hP
  have hD1 : va_D (fun q : Nat => s.heap.size ≤ q) ((wR y a2 t ++ wO y r0 o) ++ wC y a z) := by rw [List.append_assoc]; exact hD
  refine lv_aload_n hx hb dL_law_1154 rfl (lv_at hl 1 rfl) ?_
  refine zl_arg (k := 1) hx hb hX hbl hbA hS hL (by omega) rfl (lv_at hl 0 rfl) (lv_at hl 4 rfl) dL_law_1155 dL_law_1156 dL_law_1158 (by decide) dL_law_1159 dL_law_1160 ?_
  refine zl_calli (w := wC y a) (zt := z9) (X := wR y a2 t ++ wO y r0 o) (zl_runV (w := wC y a) (X := wR y a2 t ++ wO y r0 o) (As := [.int (xs (i + 1))]) (rest := []) (mc := 0) (ms := 0) ⟨hx, hb, hml, hown, hts⟩ (zX10_clears l D y a H.size (xs (i + 1)) z m1) (cwV 1 hts gL_law_X10_clears rfl rfl rfl zdX10_clears ⟨Nat.le_of_ble_eq_true rfl, Nat.le_of_ble_eq_true rfl⟩) hK hN hg hP1 hD1 hS hA 0 (wC_0 y a z) rfl rfl hl.1 rfl (Nat.le_of_ble_eq_true rfl) dL_law_1161 ⟨by show cells + 0 ≤ 601024; omega, by show slots + 0 ≤ 7293034; omega⟩) hP1 hD1 hS hA (fun H locs hP hD hS => ?_)
  have hP2 : va_P D vwCl ((wO y r0 o ++ wC y a z9) ++ wR y a2 t) H := zz_comP (by rw [List.append_assoc] at hP; exact hP)
  have hD2 : va_D (fun q : Nat => s.heap.size ≤ q) ((wO y r0 o ++ wC y a z9) ++ wR y a2 t) := zz_comD (by rw [List.append_assoc] at hD; exact hD)
  refine lv_aload_n hx hb dL_law_1164 rfl (lv_at hl 2 rfl) ?_
  refine zl_arg (k := 1) hx hb hX hbl hbA hS hL (by omega) rfl (lv_at hl 0 rfl) (lv_at hl 4 rfl) dL_law_1165 dL_law_1166 dL_law_1168 (by decide) dL_law_1169 dL_law_1170 ?_
  refine zl_calli (w := wR y a2) (zt := t9) (X := wO y r0 o ++ wC y a z9) (zl_runV (w := wR y a2) (X := wO y r0 o ++ wC y a z9) (As := [.int (xs (i + 1))]) (rest := [.int r]) (mc := 0) (ms := 0) ⟨hx, hb, hml, hown, hts⟩ (zX11_clears l D y a2 H.size (xs (i + 1)) t m2) (cwV 1 hts gL_law_X11_clears rfl rfl rfl zdX11_clears ⟨Nat.le_of_ble_eq_true rfl, Nat.le_of_ble_eq_true rfl⟩) hK hN hg hP2 hD2 hS hA 0 (wR_0 y a2 t) rfl rfl hl.1 rfl (Nat.le_of_ble_eq_true rfl) dL_law_1171 ⟨by show cells + 0 ≤ 601024; omega, by show slots + 0 ≤ 7293034; omega⟩) hP2 hD2 hS hA (fun H locs hP hD hS => ?_)
  refine lv_icmp_eq (tgt := 1682) hx hb dL_law_1174 (by decide) (fun _ => ?_) (fun c9 => absurd rfl c9)
  refine W.widen (k := cells + 1) (n := slots + 6) (by omega) (by omega) ?_
  exact kk z9 t9 o H locs ls hR9 (zz_comP hP) (zz_comD hD) hS hl
set_option maxHeartbeats 4000000 in
set_option maxRecDepth 100000 in
theorem Lc_paces {p : Program} {l : Launch} {e : Env} {s : State} {m : MethodId} {below : List Frame} {meth : Method} {c : Code} {b L : Nat} {xs : Nat → Int32} (hst : l.stackTraces = false) (hL : L ≤ 2560) (C0 : lw_At p s m meth c b L xs) {D : va_G} {y : Nat → ClassId} (hK : va_K D vwCl (zz_ty y) s) (hN : zz_nw s) (hg : zz_gr (fun q : Nat => s.heap.size ≤ q) s s.heap) (hxx : zz_ex (fun q : Nat => s.heap.size ≤ q) s s.heap) {a a2 : Nat → Nat} {r0 : Nat} {z t : zz_M} {o : Nat → Int64} (hR : zR z t) {i : Nat} (hi : i + 4 < L) {H : Heap} {locs : List Loc} {ls : Array Slot} {cells slots : Nat} (hroom : cells + 1 ≤ 601024 ∧ slots + 6 ≤ 7293034) (hP : va_P D vwCl (wR y a2 t ++ (wO y r0 o ++ wC y a z)) H) (hD : va_D (fun q : Nat => s.heap.size ≤ q) (wR y a2 t ++ (wO y r0 o ++ wC y a z))) (hS : va_S (fun q : Nat => s.heap.size ≤ q) s.heap H locs) (hl : lv_has ls 8 [(0, .ref b), (1, .ref (a 0)), (2, .ref (a2 0)), (3, .ref r0), (4, .int (nI i))])
    (kk : ∀ (z : zz_M) (t : zz_M) (o : Nat → Int64) (H : Heap) (locs : List Loc) (ls : Array Slot), zR z t → va_P D vwCl (wR y a2 t ++ (wO y r0 o ++ wC y a z)) H → va_D (fun q : Nat => s.heap.size ≤ q) (wR y a2 t ++ (wO y r0 o ++ wC y a z)) → va_S (fun q : Nat => s.heap.size ≤ q) s.heap H locs → lv_has ls 8 [(0, .ref b), (1, .ref (a 0)), (2, .ref (a2 0)), (3, .ref r0), (4, .int (nI i))] → W p l e room_1 s m #[Value.ref b] below meth c H locs (cells + 1) (slots + 6) (lw_Z below #[Value.ref b] s) (F0 m 1682 ls [])) : W p l e room_1 s m #[Value.ref b] below meth c H locs cells slots (lw_Z below #[Value.ref b] s) (F0 m 1179 ls []) := by
  obtain ⟨hx, hb, hr, hml, hown, hts0, hX, hbl, hlocks, hgv⟩ := C0
  have hts : ∀ w ∈ wsL_law, w.before #[Value.ref b] s = true := fun w h => hts0 w (wsL_law_in w h)
  have hA : ∀ q : Nat, s.heap.size ≤ q → (fun q : Nat => s.heap.size ≤ q) q := fun _ h => h
  have hbA : ¬ (fun q : Nat => s.heap.size ≤ q) b := Nat.not_le.mpr hbl
  obtain ⟨r, z9, t9, m1, m2, hR9⟩ := B_paces hR (xs (i + 1)) (xs (i + 2))
  have hP1 : va_P D vwCl ((wR y a2 t ++ wO y r0 o) ++ wC y a z) H := by rw [List.append_assoc]; exact hP
  have hD1 : va_D (fun q : Nat => s.heap.size ≤ q) ((wR y a2 t ++ wO y r0 o) ++ wC y a z) := by rw [List.append_assoc]; exact hD
  refine lv_aload_n hx hb dL_law_1179 rfl (lv_at hl 1 rfl) ?_
  refine zl_arg (k := 1) hx hb hX hbl hbA hS hL (by omega) rfl (lv_at hl 0 rfl) (lv_at hl 4 rfl) dL_law_1180 dL_law_1181 dL_law_1183 (by decide) dL_law_1184 dL_law_1185 ?_
  refine zl_arg (k := 2) hx hb hX hbl hbA hS hL (by omega) rfl (lv_at hl 0 rfl) (lv_at hl 4 rfl) dL_law_1186 dL_law_1187 dL_law_1189 (by decide) dL_law_1190 dL_law_1191 ?_
  refine zl_calli (w := wC y a) (zt := z9) (X := wR y a2 t ++ wO y r0 o) (zl_runV (w := wC y a) (X := wR y a2 t ++ wO y r0 o) (As := [.int (xs (i + 1)), .int (xs (i + 2))]) (rest := []) (mc := 0) (ms := 0) ⟨hx, hb, hml, hown, hts⟩ (zX10_paces l D y a H.size (xs (i + 1)) (xs (i + 2)) z m1) (cwV 2 hts gL_law_X10_paces rfl rfl rfl zdX10_paces ⟨Nat.le_of_ble_eq_true rfl, Nat.le_of_ble_eq_true rfl⟩) hK hN hg hP1 hD1 hS hA 0 (wC_0 y a z) rfl rfl hl.1 rfl (Nat.le_of_ble_eq_true rfl) dL_law_1192 ⟨by show cells + 0 ≤ 601024; omega, by show slots + 0 ≤ 7293034; omega⟩) hP1 hD1 hS hA (fun H locs hP hD hS => ?_)
  have hP2 : va_P D vwCl ((wO y r0 o ++ wC y a z9) ++ wR y a2 t) H := zz_comP (by rw [List.append_assoc] at hP; exact hP)
  have hD2 : va_D (fun q : Nat => s.heap.size ≤ q) ((wO y r0 o ++ wC y a z9) ++ wR y a2 t) := zz_comD (by rw [List.append_assoc] at hD; exact hD)
  refine lv_aload_n hx hb dL_law_1195 rfl (lv_at hl 2 rfl) ?_
  refine zl_arg (k := 1) hx hb hX hbl hbA hS hL (by omega) rfl (lv_at hl 0 rfl) (lv_at hl 4 rfl) dL_law_1196 dL_law_1197 dL_law_1199 (by decide) dL_law_1200 dL_law_1201 ?_
  refine zl_arg (k := 2) hx hb hX hbl hbA hS hL (by omega) rfl (lv_at hl 0 rfl) (lv_at hl 4 rfl) dL_law_1202 dL_law_1203 dL_law_1205 (by decide) dL_law_1206 dL_law_1207 ?_
  refine zl_calli (w := wR y a2) (zt := t9) (X := wO y r0 o ++ wC y a z9) (zl_runV (w := wR y a2) (X := wO y r0 o ++ wC y a z9) (As := [.int (xs (i + 1)), .int (xs (i + 2))]) (rest := [.int r]) (mc := 0) (ms := 0) ⟨hx, hb, hml, hown, hts⟩ (zX11_paces l D y a2 H.size (xs (i + 1)) (xs (i + 2)) t m2) (cwV 2 hts gL_law_X11_paces rfl rfl rfl zdX11_paces ⟨Nat.le_of_ble_eq_true rfl, Nat.le_of_ble_eq_true rfl⟩) hK hN hg hP2 hD2 hS hA 0 (wR_0 y a2 t) rfl rfl hl.1 rfl (Nat.le_of_ble_eq_true rfl) dL_law_1208 ⟨by show cells + 0 ≤ 601024; omega, by show slots + 0 ≤ 7293034; omega⟩) hP2 hD2 hS hA (fun H locs hP hD hS => ?_)
  refine lv_icmp_eq (tgt := 1682) hx hb dL_law_1211 (by decide) (fun _ => ?_) (fun c9 => absurd rfl c9)
  refine W.widen (k := cells + 1) (n := slots + 6) (by omega) (by omega) ?_
  exact kk z9 t9 o H locs ls hR9 (zz_comP hP) (zz_comD hD) hS hl
set_option maxHeartbeats 4000000 in
set_option maxRecDepth 100000 in
theorem Lc_enough {p : Program} {l : Launch} {e : Env} {s : State} {m : MethodId} {below : List Frame} {meth : Method} {c : Code} {b L : Nat} {xs : Nat → Int32} (hst : l.stackTraces = false) (hL : L ≤ 2560) (C0 : lw_At p s m meth c b L xs) {D : va_G} {y : Nat → ClassId} (hK : va_K D vwCl (zz_ty y) s) (hN : zz_nw s) (hg : zz_gr (fun q : Nat => s.heap.size ≤ q) s s.heap) (hxx : zz_ex (fun q : Nat => s.heap.size ≤ q) s s.heap) {a a2 : Nat → Nat} {r0 : Nat} {z t : zz_M} {o : Nat → Int64} (hR : zR z t) {i : Nat} (hi : i + 4 < L) {H : Heap} {locs : List Loc} {ls : Array Slot} {cells slots : Nat} (hroom : cells + 1 ≤ 601024 ∧ slots + 6 ≤ 7293034) (hP : va_P D vwCl (wR y a2 t ++ (wO y r0 o ++ wC y a z)) H) (hD : va_D (fun q : Nat => s.heap.size ≤ q) (wR y a2 t ++ (wO y r0 o ++ wC y a z))) (hS : va_S (fun q : Nat => s.heap.size ≤ q) s.heap H locs) (hl : lv_has ls 8 [(0, .ref b), (1, .ref (a 0)), (2, .ref (a2 0)), (3, .ref r0), (4, .int (nI i))])
    (kk : ∀ (z : zz_M) (t : zz_M) (o : Nat → Int64) (H : Heap) (locs : List Loc) (ls : Array Slot), zR z t → va_P D vwCl (wR y a2 t ++ (wO y r0 o ++ wC y a z)) H → va_D (fun q : Nat => s.heap.size ≤ q) (wR y a2 t ++ (wO y r0 o ++ wC y a z)) → va_S (fun q : Nat => s.heap.size ≤ q) s.heap H locs → lv_has ls 8 [(0, .ref b), (1, .ref (a 0)), (2, .ref (a2 0)), (3, .ref r0), (4, .int (nI i))] → W p l e room_1 s m #[Value.ref b] below meth c H locs (cells + 1) (slots + 6) (lw_Z below #[Value.ref b] s) (F0 m 1682 ls [])) : W p l e room_1 s m #[Value.ref b] below meth c H locs cells slots (lw_Z below #[Value.ref b] s) (F0 m 1216 ls []) := by
  obtain ⟨hx, hb, hr, hml, hown, hts0, hX, hbl, hlocks, hgv⟩ := C0
  have hts : ∀ w ∈ wsL_law, w.before #[Value.ref b] s = true := fun w h => hts0 w (wsL_law_in w h)
  have hA : ∀ q : Nat, s.heap.size ≤ q → (fun q : Nat => s.heap.size ≤ q) q := fun _ h => h
  have hbA : ¬ (fun q : Nat => s.heap.size ≤ q) b := Nat.not_le.mpr hbl
  obtain ⟨r, z9, t9, m1, m2, hR9⟩ := B_enough hR (xs (i + 1)) (xs (i + 2))
  have hP1 : va_P D vwCl ((wR y a2 t ++ wO y r0 o) ++ wC y a z) H := by rw [List.append_assoc]; exact hP
  have hD1 : va_D (fun q : Nat => s.heap.size ≤ q) ((wR y a2 t ++ wO y r0 o) ++ wC y a z) := by rw [List.append_assoc]; exact hD
  refine lv_aload_n hx hb dL_law_1216 rfl (lv_at hl 1 rfl) ?_
  refine zl_arg (k := 1) hx hb hX hbl hbA hS hL (by omega) rfl (lv_at hl 0 rfl) (lv_at hl 4 rfl) dL_law_1217 dL_law_1218 dL_law_1220 (by decide) dL_law_1221 dL_law_1222 ?_
  refine zl_arg (k := 2) hx hb hX hbl hbA hS hL (by omega) rfl (lv_at hl 0 rfl) (lv_at hl 4 rfl) dL_law_1223 dL_law_1224 dL_law_1226 (by decide) dL_law_1227 dL_law_1228 ?_
  refine zl_calli (w := wC y a) (zt := z9) (X := wR y a2 t ++ wO y r0 o) (zl_runV (w := wC y a) (X := wR y a2 t ++ wO y r0 o) (As := [.int (xs (i + 1)), .int (xs (i + 2))]) (rest := []) (mc := 0) (ms := 0) ⟨hx, hb, hml, hown, hts⟩ (zX10_enough l D y a H.size (xs (i + 1)) (xs (i + 2)) z m1) (cwV 2 hts gL_law_X10_enough rfl rfl rfl zdX10_enough ⟨Nat.le_of_ble_eq_true rfl, Nat.le_of_ble_eq_true rfl⟩) hK hN hg hP1 hD1 hS hA 0 (wC_0 y a z) rfl rfl hl.1 rfl (Nat.le_of_ble_eq_true rfl) dL_law_1229 ⟨by show cells + 0 ≤ 601024; omega, by show slots + 0 ≤ 7293034; omega⟩) hP1 hD1 hS hA (fun H locs hP hD hS => ?_)
  have hP2 : va_P D vwCl ((wO y r0 o ++ wC y a z9) ++ wR y a2 t) H := zz_comP (by rw [List.append_assoc] at hP; exact hP)
  have hD2 : va_D (fun q : Nat => s.heap.size ≤ q) ((wO y r0 o ++ wC y a z9) ++ wR y a2 t) := zz_comD (by rw [List.append_assoc] at hD; exact hD)
  refine lv_aload_n hx hb dL_law_1232 rfl (lv_at hl 2 rfl) ?_
  refine zl_arg (k := 1) hx hb hX hbl hbA hS hL (by omega) rfl (lv_at hl 0 rfl) (lv_at hl 4 rfl) dL_law_1233 dL_law_1234 dL_law_1236 (by decide) dL_law_1237 dL_law_1238 ?_
  refine zl_arg (k := 2) hx hb hX hbl hbA hS hL (by omega) rfl (lv_at hl 0 rfl) (lv_at hl 4 rfl) dL_law_1239 dL_law_1240 dL_law_1242 (by decide) dL_law_1243 dL_law_1244 ?_
  refine zl_calli (w := wR y a2) (zt := t9) (X := wO y r0 o ++ wC y a z9) (zl_runV (w := wR y a2) (X := wO y r0 o ++ wC y a z9) (As := [.int (xs (i + 1)), .int (xs (i + 2))]) (rest := [.int r]) (mc := 0) (ms := 0) ⟨hx, hb, hml, hown, hts⟩ (zX11_enough l D y a2 H.size (xs (i + 1)) (xs (i + 2)) t m2) (cwV 2 hts gL_law_X11_enough rfl rfl rfl zdX11_enough ⟨Nat.le_of_ble_eq_true rfl, Nat.le_of_ble_eq_true rfl⟩) hK hN hg hP2 hD2 hS hA 0 (wR_0 y a2 t) rfl rfl hl.1 rfl (Nat.le_of_ble_eq_true rfl) dL_law_1245 ⟨by show cells + 0 ≤ 601024; omega, by show slots + 0 ≤ 7293034; omega⟩) hP2 hD2 hS hA (fun H locs hP hD hS => ?_)
  refine lv_icmp_eq (tgt := 1682) hx hb dL_law_1248 (by decide) (fun _ => ?_) (fun c9 => absurd rfl c9)
  refine W.widen (k := cells + 1) (n := slots + 6) (by omega) (by omega) ?_
  exact kk z9 t9 o H locs ls hR9 (zz_comP hP) (zz_comD hD) hS hl
