/-! ===== what the tables say at the start ===== -/
set_option maxHeartbeats 4000000 in
set_option maxRecDepth 100000 in
theorem zl_known {s : State} {b : Nat} (hts0 : ∀ w ∈ lw_tbl, w.before #[Value.ref b] s = true) : ∃ (D : va_G) (y : Nat → ClassId), va_K D vwCl (zz_ty y) s := by
  obtain ⟨c0, i0, k0⟩ := u_known (C := RX0) (T := TX0) (N := 5) (n := 5) hts0 inX0 (hts0 (.instantiable RX0 5) (List.mem_of_getElem? (i := 117) (by decide +kernel)))
  obtain ⟨c1, i1, k1⟩ := u_known (C := RX1) (T := TX1) (N := 2) (n := 2) hts0 inX1 (hts0 (.instantiable RX1 2) (List.mem_of_getElem? (i := 111) (by decide +kernel)))
  obtain ⟨c2, i2, k2⟩ := u_known (C := RX2) (T := TX2) (N := 12) (n := 12) hts0 inX2 (hts0 (.instantiable RX2 12) (List.mem_of_getElem? (i := 155) (by decide +kernel)))
  obtain ⟨c3, i3, k3⟩ := u_known (C := RX3) (T := TX3) (N := 5) (n := 5) hts0 inX3 (hts0 (.instantiable RX3 5) (List.mem_of_getElem? (i := 199) (by decide +kernel)))
  obtain ⟨c4, i4, k4⟩ := u_known (C := RX4) (T := TX4) (N := 1) (n := 1) hts0 inX4 (hts0 (.instantiable RX4 1) (List.mem_of_getElem? (i := 314) (by decide +kernel)))
  obtain ⟨c5, i5, k5⟩ := u_known (C := RX5) (T := TX5) (N := 2) (n := 2) hts0 inX5 (hts0 (.instantiable RX5 2) (List.mem_of_getElem? (i := 326) (by decide +kernel)))
  obtain ⟨c6, i6, k6⟩ := u_known (C := RX6) (T := TX6) (N := 3) (n := 3) hts0 inX6 (hts0 (.instantiable RX6 3) (List.mem_of_getElem? (i := 179) (by decide +kernel)))
  obtain ⟨c7, i7, k7⟩ := u_known (C := RX7) (T := TX7) (N := 6) (n := 6) hts0 inX7 (hts0 (.instantiable RX7 6) (List.mem_of_getElem? (i := 227) (by decide +kernel)))
  obtain ⟨c8, i8, k8⟩ := u_known (C := RX8) (T := TX8) (N := 1) (n := 1) hts0 inX8 (hts0 (.instantiable RX8 1) (List.mem_of_getElem? (i := 163) (by decide +kernel)))
  obtain ⟨c9, i9, k9⟩ := u_known (C := RX9) (T := TX9) (N := 2) (n := 2) hts0 inX9 (hts0 (.instantiable RX9 2) (List.mem_of_getElem? (i := 95) (by decide +kernel)))
  obtain ⟨c10, i10, k10⟩ := u_known (C := RX10) (T := TX10) (N := 7) (n := 7) hts0 inX10 (hts0 (.instantiable RX10 7) (List.mem_of_getElem? (i := 87) (by decide +kernel)))
  obtain ⟨c11, i11, k11⟩ := u_known (C := RX11) (T := TX11) (N := 35) (n := 35) hts0 inX11 (hts0 (.instantiable RX11 35) (List.mem_of_getElem? (i := 1007) (by decide +kernel)))
  obtain ⟨y0, q0, m0, a01, a02, a03⟩ := Cond.arrayClass_spec (hts0 (.arrayClass .int) (List.mem_of_getElem? (i := 109) (by decide +kernel)))
  obtain ⟨y1, q1, m1, a11, a12, a13⟩ := Cond.arrayClass_spec (hts0 (.arrayClass .long) (List.mem_of_getElem? (i := 312) (by decide +kernel)))
  obtain ⟨y2, q2, m2, a21, a22, a23⟩ := Cond.arrayClass_spec (hts0 (.arrayClass .byte) (List.mem_of_getElem? (i := 1122) (by decide +kernel)))
  obtain ⟨m3, y3, q3, a31, -, a32, a33, a34⟩ := Cond.arrayOver_spec (hts0 (.arrayOver (.object RX6)) (List.mem_of_getElem? (i := 178) (by decide +kernel)))
  obtain ⟨m4, y4, q4, a41, a42, a43, a44⟩ := Cond.arrayOver_specA (hts0 (.arrayOver (.array .long)) (List.mem_of_getElem? (i := 320) (by decide +kernel)))
  refine ⟨(fun k => [c0, c1, c2, c3, c4, c5, c6, c7, c8, c9, c10, c11].getD k c0, fun k => [i0, i1, i2, i3, i4, i5, i6, i7, i8, i9, i10, i11].getD k i0), fun k => [y0, y1, y2, y3, y4].getD k y0, fun k q hq => ?_, fun k q hq => ?_⟩
  · match k, hq with
    | 0, hq => cases hq; exact k0
    | 1, hq => cases hq; exact k1
    | 2, hq => cases hq; exact k2
    | 3, hq => cases hq; exact k3
    | 4, hq => cases hq; exact k4
    | 5, hq => cases hq; exact k5
    | 6, hq => cases hq; exact k6
    | 7, hq => cases hq; exact k7
    | 8, hq => cases hq; exact k8
    | 9, hq => cases hq; exact k9
    | 10, hq => cases hq; exact k10
    | 11, hq => cases hq; exact k11
    | k + 12, hq => exact absurd (List.getElem?_eq_some_iff.mp hq).1 (by show ¬ (k + 12 < 12); omega)
  · match k, hq with
    | 0, hq => cases hq; exact ⟨fun N z => ⟨(fun k h => by cases h), q0, a02, m0, a03⟩, a01⟩
    | 1, hq => cases hq; exact ⟨fun N z => ⟨(fun k h => by cases h), q1, a12, m1, a13⟩, a11⟩
    | 2, hq => cases hq; exact ⟨fun N z => ⟨(fun k h => by cases h), q2, a22, m2, a23⟩, a21⟩
    | 3, hq => cases hq; exact ⟨fun N z => ⟨(fun k h => by cases h), q3, a32, m3, a33⟩, q3, m3, a32, a33, a31, a34⟩
    | 4, hq => cases hq; exact ⟨fun N z => ⟨(fun k h => by cases h), q4, a42, m4, a43⟩, a44⟩
    | k + 5, hq => exact absurd (List.getElem?_eq_some_iff.mp hq).1 (by show ¬ (k + 5 < 5); omega)
theorem zl_nl : ∀ q ∈ zz_nl, Cond.methodLinkNest q.1 q.2.1 q.2.2.1 q.2.2.2 ∈ lw_tbl := List.forall_mem_cons.mpr ⟨List.mem_of_getElem? (i := 96) (by decide +kernel), List.forall_mem_cons.mpr ⟨List.mem_of_getElem? (i := 112) (by decide +kernel), List.forall_mem_cons.mpr ⟨List.mem_of_getElem? (i := 315) (by decide +kernel), List.forall_mem_cons.mpr ⟨List.mem_of_getElem? (i := 327) (by decide +kernel), List.forall_mem_cons.mpr ⟨List.mem_of_getElem? (i := 118) (by decide +kernel), List.forall_mem_cons.mpr ⟨List.mem_of_getElem? (i := 398) (by decide +kernel), List.forall_mem_cons.mpr ⟨List.mem_of_getElem? (i := 416) (by decide +kernel), List.forall_mem_cons.mpr ⟨List.mem_of_getElem? (i := 618) (by decide +kernel), List.forall_mem_cons.mpr ⟨List.mem_of_getElem? (i := 161) (by decide +kernel), List.forall_mem_cons.mpr ⟨List.mem_of_getElem? (i := 200) (by decide +kernel), List.forall_mem_cons.mpr ⟨List.mem_of_getElem? (i := 228) (by decide +kernel), List.forall_mem_cons.mpr ⟨List.mem_of_getElem? (i := 769) (by decide +kernel), List.forall_mem_cons.mpr ⟨List.mem_of_getElem? (i := 568) (by decide +kernel), List.forall_mem_cons.mpr ⟨List.mem_of_getElem? (i := 450) (by decide +kernel), fun _ h => absurd h List.not_mem_nil⟩⟩⟩⟩⟩⟩⟩⟩⟩⟩⟩⟩⟩⟩
theorem zl_nw {s : State} {b : Nat} (hts0 : ∀ w ∈ lw_tbl, w.before #[Value.ref b] s = true) : zz_nw s := fun q hq => va_Nw.of rfl (hts0 _ (zl_nl q hq))
theorem zl_great : ∀ j, j < 14 → Cond.eq (.elem (.static "WorksDesk$Terms" "GREATEST" "[I") (.int (Int32.ofNat j))) (.int (zz_great j)) ∈ flatC (Jvm.Cond.and given_1 narrow_1) := by decide +kernel
theorem zl_first : ∀ j, j < 14 → Cond.eq (.elem (.static "WorksDesk$Terms" "AT_FIRST" "[I") (.int (Int32.ofNat j))) (.int (zz_first j)) ∈ flatC (Jvm.Cond.and given_1 narrow_1) := by decide +kernel
theorem zl_gr0 {s : State} {b : Nat} (hts0 : ∀ w ∈ lw_tbl, w.before #[Value.ref b] s = true) (hgv : (Jvm.Cond.and given_1 narrow_1).before #[Value.ref b] s = true) : zz_gr (fun q : Nat => s.heap.size ≤ q) s s.heap := by
  have hs := flat_of_before _ hgv
  have hA : ∀ a : Nat, a < s.heap.size → ¬ (fun q : Nat => s.heap.size ≤ q) a := fun a h => Nat.not_le.mpr h
  obtain ⟨g1, e1, h1⟩ := va_Tof (tm := (.static "WorksDesk$Terms" "GREATEST" "[I")) (ty := .int) (N := 14) (f := fun j => .int (zz_great j)) (A := fun q : Nat => s.heap.size ≤ q) (by decide) (hs (.arrayOf (.static "WorksDesk$Terms" "GREATEST" "[I") .int) (by decide +kernel)) (va_eqt (hs (.eq (.length (.static "WorksDesk$Terms" "GREATEST" "[I")) (.int 14)) (by decide +kernel))) (fun j hj => va_eqt (hs _ (zl_great j hj))) hA
  obtain ⟨g2, e2, h2⟩ := va_Tof (tm := (.static "WorksDesk$Terms" "AT_FIRST" "[I")) (ty := .int) (N := 14) (f := fun j => .int (zz_first j)) (A := fun q : Nat => s.heap.size ≤ q) (by decide) (hs (.arrayOf (.static "WorksDesk$Terms" "AT_FIRST" "[I") .int) (by decide +kernel)) (va_eqt (hs (.eq (.length (.static "WorksDesk$Terms" "AT_FIRST" "[I")) (.int 14)) (by decide +kernel))) (fun j hj => va_eqt (hs _ (zl_first j hj))) hA
  exact ⟨⟨g1, va_Zof (hts0 (.laysStatic "WorksDesk$Terms" "GREATEST" "[I") (List.mem_of_getElem? (i := 449) (by decide +kernel))) (hts0 (.initialized "WorksDesk$Terms") (List.mem_of_getElem? (i := 71) (by decide +kernel))) e1 hA, h1⟩, ⟨g2, va_Zof (hts0 (.laysStatic "WorksDesk$Terms" "AT_FIRST" "[I") (List.mem_of_getElem? (i := 169) (by decide +kernel))) (hts0 (.initialized "WorksDesk$Terms") (List.mem_of_getElem? (i := 71) (by decide +kernel))) e2 hA, h2⟩, va_AO.of (hts0 (.arrayOver (.object RX6)) (List.mem_of_getElem? (i := 178) (by decide +kernel))), hts0 (.arrayOver (.array .long)) (List.mem_of_getElem? (i := 320) (by decide +kernel))⟩
theorem zl_ex0 {s : State} {b : Nat} (hts0 : ∀ w ∈ lw_tbl, w.before #[Value.ref b] s = true) (hgv : (Jvm.Cond.and given_1 narrow_1).before #[Value.ref b] s = true) : zz_ex (fun q : Nat => s.heap.size ≤ q) s s.heap := by
  have hs := flat_of_before _ hgv
  have hA : ∀ a : Nat, a < s.heap.size → ¬ (fun q : Nat => s.heap.size ≤ q) a := fun a h => Nat.not_le.mpr h
  exact ⟨vx_Zqof (hts0 (.laysStatic Bundle.tN "UNASSIGNED_STACK" Bundle.steD) (List.mem_of_getElem? (i := 965) (by decide +kernel))) (hts0 (.initialized Bundle.tN) (List.mem_of_getElem? (i := 80) (by decide +kernel))) (hs (.isRef (.static Bundle.tN "UNASSIGNED_STACK" Bundle.steD)) (by decide +kernel)) hA, vx_Zqof (hts0 (.laysStatic Bundle.tN "SUPPRESSED_SENTINEL" Bundle.listD) (List.mem_of_getElem? (i := 967) (by decide +kernel))) (hts0 (.initialized Bundle.tN) (List.mem_of_getElem? (i := 80) (by decide +kernel))) (hs (.isRef (.static Bundle.tN "SUPPRESSED_SENTINEL" Bundle.listD)) (by decide +kernel)) hA, va_Nw.of rfl (hts0 (.declares ⟨"java/lang/RuntimeException", "<init>", "()V"⟩) (List.mem_of_getElem? (i := 941) (by decide +kernel))), va_Nw.of rfl (hts0 (.declares ⟨"java/lang/Exception", "<init>", "()V"⟩) (List.mem_of_getElem? (i := 943) (by decide +kernel))), va_Nw.of rfl (hts0 (.declares ⟨"java/lang/Throwable", "<init>", "()V"⟩) (List.mem_of_getElem? (i := 945) (by decide +kernel))), va_Nw.of rfl (hts0 (.castable "java/util/NoSuchElementException" "java/util/NoSuchElementException") (List.mem_of_getElem? (i := 940) (by decide +kernel)))⟩
