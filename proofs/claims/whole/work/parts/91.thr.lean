/-! ===== the methods that throw ===== -/
def zx_at : List Cond := vx_at0 RX10 222 "java/util/NoSuchElementException" ["java/lang/RuntimeException", "java/lang/Exception"]
def zx_B : List Cond := [.declares ⟨"java/lang/RuntimeException", "<init>", "()V"⟩, .declares ⟨"java/lang/Exception", "<init>", "()V"⟩, .declares ⟨"java/lang/Throwable", "<init>", "()V"⟩, .castable "java/util/NoSuchElementException" "java/util/NoSuchElementException"]
theorem zx_bad : ∀ w ∈ zx_at.filter (fun w => !goodWord w), w ∈ zx_B := by decide +kernel
theorem zx_good : ∀ w ∈ Cond.classLink RX10 220 "java/util/NoSuchElementException" :: Cond.initialized "java/util/NoSuchElementException" :: zx_at, vx_ot w = true := by decide +kernel
def zz_ex (A : Nat → Prop) (U : State) (H : Heap) : Prop := vx_Zq Bundle.tN "UNASSIGNED_STACK" Bundle.steD A U H ∧ vx_Zq Bundle.tN "SUPPRESSED_SENTINEL" Bundle.listD A U H ∧ va_Nw (.declares ⟨"java/lang/RuntimeException", "<init>", "()V"⟩) U ∧ va_Nw (.declares ⟨"java/lang/Exception", "<init>", "()V"⟩) U ∧ va_Nw (.declares ⟨"java/lang/Throwable", "<init>", "()V"⟩) U ∧ va_Nw (.castable "java/util/NoSuchElementException" "java/util/NoSuchElementException") U
theorem zz_ex.go {A B : Nat → Prop} {U : State} {H H1 : Heap} (h : zz_ex A U H) (hq : ∀ a : Nat, a < H.size → ¬ A a → H1[a]? = H[a]?) (hAB : ∀ q, B q → A q) : zz_ex B U H1 := ⟨(h.1.kept hq).narrow hAB, (h.2.1.kept hq).narrow hAB, h.2.2⟩
theorem zz_ex.warm {A : Nat → Prop} {s U : State} {H : Heap} (hW : s.WarmedH U.vm) (h : zz_ex A s H) : zz_ex A U H := ⟨h.1.moved hW.alike, h.2.1.moved hW.alike, va_Nw.warmD hW h.2.2.1, va_Nw.warmD hW h.2.2.2.1, va_Nw.warmD hW h.2.2.2.2.1, va_Nw.warmC hW h.2.2.2.2.2⟩
theorem zz_ex.same {A : Nat → Prop} {s U : State} {H : Heap} (hv : s.vm = U.vm) (ha : s.vm.Alike U.vm) (h : zz_ex A s H) : zz_ex A U H := ⟨h.1.moved ha, h.2.1.moved ha, va_Nw.same rfl hv h.2.2.1, va_Nw.same rfl hv h.2.2.2.1, va_Nw.same rfl hv h.2.2.2.2.1, va_Nw.same rfl hv h.2.2.2.2.2⟩
def zz_PcX (D : va_G) (y : Nat → ClassId) (ws : va_W) (sz : Nat) (av : List Value) : Array Value → State → Prop := fun a U => zz_Pc D y ws sz av a U ∧ zz_ex (va_A ws sz) U U.heap
theorem zz_blindX (D : va_G) (y : Nat → ClassId) (ws : va_W) (sz : Nat) (av : List Value) : FrameBlind (zz_PcX D y ws sz av) := fun a U g mk q => ⟨zz_blind D y ws sz av a U g mk q.1, zz_ex.same (s := U) (U := U.calling g mk a) rfl (Vm.Alike.refl U.vm) q.2⟩
theorem zz_preX {D : va_G} {y : Nat → ClassId} {ws : va_W} {s : State} {H : Heap} {A : Nat → Prop} {locs : List Loc} (av : List Value) (hP : va_P D vwCl ws H) (hK : va_K D vwCl (zz_ty y) s) (hD : va_D A ws) (hN : zz_nw s) (hg : zz_gr A s s.heap) (hxx : zz_ex A s s.heap) (hS : va_S A s.heap H locs) (hA : ∀ q, s.heap.size ≤ q → A q) : ∀ U : State, U.heap = H → s.WarmedH U.vm → zz_PcX D y ws H.size av av.toArray U :=
  fun U hU hW => ⟨zz_pre av hP hK hD hN hg hS hA U hU hW, by rw [hU]; exact (hxx.go hS.2.1 (zz_free hD hS hA)).warm hW⟩
abbrev zz_XC (D : va_G) (y : Nat → ClassId) (w : zz_M → va_W) (A : Nat → Prop) (z : zz_M) : String → State → State → Prop := vx_X (fun u : zz_M => u = z) (fun E u t => E = "java/util/NoSuchElementException" ∧ zz_B D y w A u t) A
section ZX
variable {p : Program} {l : Launch} {e : Env} {R : Room} {s : State} {m : MethodId} {args : Array Value} {below : List Frame} {meth : Method} {c : Code} {H : Heap} {locs : List Loc}
theorem zx_throw {cc : ByteArray} {pc : Nat} {ls : Array Slot} {D : va_G} {y : Nat → ClassId} {w : zz_M → va_W} {z : zz_M} {A : Nat → Prop} {Qc : Array Value → State → Outcome → State → Prop} (hx : p.tables.exec = Jvm.exec) (hb : c.code = cc) (hst : l.stackTraces = false) (hown : s.vm.findClass RX10 = some m.cls)
    (h1 : (Cond.classLink RX10 220 "java/util/NoSuchElementException").before args s = true) (h2 : (Cond.initialized "java/util/NoSuchElementException").before args s = true) (hat : ∀ w ∈ zx_at.filter goodWord, w.before args s = true) (hxx : zz_ex A s s.heap)
    (hP : va_P D vwCl (w z) H) (hK : va_K D vwCl (zz_ty y) s) (hD : va_D A (w z)) (hS : va_S A s.heap H locs) (hsize : ls.size = c.maxLocals)
    (d0 : decode cc pc = .ok (.new 220, 3)) (d3 : decode cc (pc + 3) = .ok (.dup, 1)) (d4 : decode cc (pc + 4) = .ok (.invokespecial 222, 3)) (d7 : decode cc (pc + 7) = .ok (.athrow, 1)) (hex : ∀ x ∈ c.exceptionTable.toList, False) (hR : 5 < R.frames ∧ 81 ≤ R.locals ∧ 1 ≤ R.cells ∧ 6 ≤ R.slots) (hlocks : meth.locks = false) :
    W p l e R s m args below meth c H locs 0 0 (vx_MQ below Qc (zz_XC D y w A z) args s 1 6 A) (F0 m pc ls []) := by
  refine vx_throw0 (names := ["java/lang/RuntimeException", "java/lang/Exception"]) (own := RX10) (cls := "java/util/NoSuchElementException") (ik := 220) (ic := 222) (A := A) hx hb hst hown (by decide +kernel) (by decide +kernel) h1 h2 ?_ zx_good hxx.1 hxx.2.1 hS hsize d0 d3 d4 d7 (fun x h => (hex x h).elim) hR.1 hR.2.1 (by have := hR.2.2.1; omega) (by have := hR.2.2.2; omega) hlocks ?_ hS.2.2 (Nat.le_refl _) (Nat.le_refl _)
  · exact vx_hat hat zx_bad (vx_c (va_Nw.use rfl hxx.2.2.1) (vx_c (va_Nw.use rfl hxx.2.2.2.1) (vx_c (va_Nw.use rfl hxx.2.2.2.2.1) (vx_c (va_Nw.use rfl hxx.2.2.2.2.2) vx_n))))
  · intro t hvm hsz hkeep
    exact ⟨z, rfl, ⟨rfl, hP.kept (fun k q hk => hkeep q.1 (vx_lt hP hk)), va_K.moved hvm hK, hD⟩, Nat.le_trans hS.1 hsz, fun q hq hA => (hkeep q (Nat.lt_of_lt_of_le hq hS.1)).trans (hS.2.1 q hq hA)⟩
end ZX

theorem nX10_amount_X10 : ∀ w ∈ wsX100, w ∈ wsX10_amount := fun _ h => List.mem_cons_of_mem _ (List.mem_append_left _ (List.mem_append_left _ (List.mem_append_left _ (List.mem_append_left _ (List.mem_append_left _ (List.mem_append_left _ (List.mem_append_left _ (List.mem_append_left _ (List.mem_append_right _ h)))))))))
theorem nX10_amount_F : ∀ w ∈ zx_at.filter goodWord, w ∈ wsX10_amount := fun _ h => List.mem_cons_of_mem _ (List.mem_append_right _ h)
theorem nX10_row_X10 : ∀ w ∈ wsX100, w ∈ wsX10_row := fun _ h => List.mem_cons_of_mem _ (List.mem_append_left _ (List.mem_append_left _ (List.mem_append_right _ h)))
theorem nX10_row_X5 : ∀ w ∈ wsX50, w ∈ wsX10_row := fun _ h => List.mem_cons_of_mem _ (List.mem_append_left _ (List.mem_append_right _ h))
theorem nX10_row_F : ∀ w ∈ zx_at.filter goodWord, w ∈ wsX10_row := fun _ h => List.mem_cons_of_mem _ (List.mem_append_right _ h)
theorem zdX10_amount : yX10_amount.cls = RX10 ∧ yX10_amount.cls ≠ "java/lang/invoke/MethodHandle" ∧ yX10_amount.cls ≠ "java/lang/invoke/VarHandle" ∧ (parseMethodDescriptor yX10_amount.desc).map (fun d => d.parameters.length) = some 2 := by decide +kernel
theorem zdX10_row : yX10_row.cls = RX10 ∧ yX10_row.cls ≠ "java/lang/invoke/MethodHandle" ∧ yX10_row.cls ≠ "java/lang/invoke/VarHandle" ∧ (parseMethodDescriptor yX10_row.desc).map (fun d => d.parameters.length) = some 1 := by decide +kernel
set_option maxHeartbeats 4000000 in
set_option maxRecDepth 100000 in
theorem zX10_amountT (l : Launch) (hst : l.stackTraces = false) (D : va_G) (y : Nat → ClassId) (a : Nat → Nat) (sz : Nat) (x1 x2 : Int32) (z : zz_M) (hT : ¬ ((0 ≤ x1.toInt ∧ x1.toInt ≤ 23) ∧ (0 ≤ x2.toInt ∧ x2.toInt ≤ 14))) : vx_Met l yX10_amount wsX10_amount { frames := 6, cells := 1, slots := 6, locals := 129 } (zz_PcX D y (wC y a z) sz [.ref (a 0), .int x1, .int x2]) (fun _ _ _ _ => False) (zz_XC D y (wC y a) (va_A (wC y a z) sz) z) 1 6 (va_A (wC y a z) sz) := by
  refine vx_ofW (cc := cX10_amount) (maxL := 3) (ret := (some .long)) (by decide) rfl ?_
  intro p e s m args below meth c s₁ B hml hex hv
  obtain ⟨⟨rfl, hsz, hP, hK, hD0, hN, hg⟩, hxx⟩ := hv
  have hx := B.exec
  have hb := B.bytes
  have hr := B.returns
  have hts := atoms_spec (ws := wsX10_amount) B.pre
  have hown : s.vm.findClass RX10 = some m.cls := findClass_of_methodNamed B.named
  have hlocks := B.notSynchronized
  clear B
  subst hsz
  have hD := hD0.self (sz := s.heap.size)
  generalize hAe : va_A (wC y a z) s.heap.size = A at hD hg hxx ⊢
  have hA : ∀ q : Nat, s.heap.size ≤ q → A q := fun q h => by rw [← hAe]; exact Or.inr h
  clear hAe hD0
  have hl := lv_entry ([.ref (a 0), .int x1, .int x2]) (n := 3) (Nat.le_of_ble_eq_true rfl)
  rw [lg_entry_eq]
  generalize (lg_sl ([.ref (a 0), .int x1, .int x2]) ++ List.replicate (3 - (lg_sl ([.ref (a 0), .int x1, .int x2])).length) Slot.unset).toArray = ls at hl ⊢
  replace hl : lv_has ls 3 [(0, .ref (a 0)), (1, .int x1), (2, .int x2)] := hl
  refine zz_go (w := wC y a) hP hD va_S.rf hl (fun G hG => ?_)
  clear hP hD hl ls
  rw [hG]
  intro H locs ls hP hD hS hl
  have tw : ∀ {H : Heap} {locs : List Loc}, va_P D vwCl (wC y a z) H → va_D A (wC y a z) → va_S A s.heap H locs → W p l e (headSpec wsX10_amount { frames := 6, cells := 1, slots := 6, locals := 129 }).room s m _ below meth c H locs 0 0 (vx_MQ below (fun _ _ _ _ => False) (zz_XC D y (wC y a) A z) _ s 1 6 A) (F0 m 17 ls []) := fun hP hD hS =>
    zx_throw hx hb hst hown (hts (.classLink RX10 220 "java/util/NoSuchElementException") (by decide +kernel)) (hts (.initialized "java/util/NoSuchElementException") (by decide +kernel)) (fun w h => hts w (nX10_amount_F w h)) hxx hP hK hD hS (hl.1.trans hml.symm) dX10_amount_17 dX10_amount_20 dX10_amount_21 dX10_amount_24 hex ⟨Nat.le_of_ble_eq_true rfl, Nat.le_of_ble_eq_true rfl, Nat.le_of_ble_eq_true rfl, Nat.le_of_ble_eq_true rfl⟩ hlocks
  refine lv_iload_n hx hb dX10_amount_0 rfl (lv_at hl 1 rfl) ?_
  refine zz_calli (zz_runS (w := wC y a) (As := [.int x1]) (rest := []) ⟨hx, hb, hml, hown, hts⟩ (zX10_isMonth l D y a H.size x1 z (zc_isMonth x1)) (va_cwS 1 hts gX10_amount_X10_isMonth rfl rfl rfl zdX10_isMonth ⟨Nat.le_of_ble_eq_true rfl, Nat.le_of_ble_eq_true rfl⟩) hK hN hg hP hD hS hA rfl hl.1 rfl (Nat.le_of_ble_eq_true rfl) dX10_amount_1 ⟨Nat.le_of_ble_eq_true rfl, Nat.le_of_ble_eq_true rfl⟩) hD hS hA (fun H locs hP hD hS => ?_)
  refine lv_if_eq (tgt := 17) hx hb dX10_amount_4 (by decide) (fun c1 => ?_) (fun c1 => ?_)
  · exact tw hP hD hS
  · refine lv_iload_n hx hb dX10_amount_7 rfl (lv_at hl 2 rfl) ?_
    refine lv_iconst (v := (0 : Int32)) hx hb dX10_amount_8 (by decide) ?_
    refine lv_bipush (v := (14 : Int32)) hx hb dX10_amount_9 (by decide) ?_
    refine zz_calli (zz_runS (w := wC y a) (As := [.int x2, .int (0 : Int32), .int (14 : Int32)]) (rest := []) ⟨hx, hb, hml, hown, hts⟩ (zX10_isWithin l D y a H.size x2 (0 : Int32) (14 : Int32) z (zc_isWithin x2 0 14)) (va_cwS 3 hts gX10_amount_X10_isWithin rfl rfl rfl zdX10_isWithin ⟨Nat.le_of_ble_eq_true rfl, Nat.le_of_ble_eq_true rfl⟩) hK hN hg hP hD hS hA rfl hl.1 rfl (Nat.le_of_ble_eq_true rfl) dX10_amount_11 ⟨Nat.le_of_ble_eq_true rfl, Nat.le_of_ble_eq_true rfl⟩) hD hS hA (fun H locs hP hD hS => ?_)
    refine lv_if_ne (tgt := 25) hx hb dX10_amount_14 (by decide) (fun c2 => ?_) (fun c2 => ?_)
    · exfalso
      apply hT
      constructor
      · by_cases q : 0 ≤ x1.toInt ∧ x1.toInt ≤ 23
        · exact q
        · rw [if_neg q] at c1; exact absurd rfl c1
      · by_cases q : (0 : Int32).toInt ≤ x2.toInt ∧ x2.toInt ≤ (14 : Int32).toInt
        · exact q
        · rw [if_neg q] at c2; exact absurd rfl c2
    · exact tw hP hD hS
set_option maxHeartbeats 4000000 in
set_option maxRecDepth 100000 in
theorem zX10_amountK (l : Launch) (D : va_G) (y : Nat → ClassId) (a : Nat → Nat) (sz : Nat) (x1 x2 : Int32) (z : zz_M) {r : Int64} {zt : zz_M} (hT : (0 ≤ x1.toInt ∧ x1.toInt ≤ 23) ∧ (0 ≤ x2.toInt ∧ x2.toInt ≤ 14)) (hm1 : mX4_reckon 64 z = some ((), zt)) (hm2 : mX4_of 64 x2 x1 zt = some r) : Met l yX10_amount wsX10_amount { frames := 6, cells := 0, slots := 0, locals := 129 } (zz_Pc D y (wC y a z) sz [.ref (a 0), .int x1, .int x2]) (zz_Ql D y (wC y a) (va_A (wC y a z) sz) r zt) 0 0 (va_A (wC y a z) sz) := by
  refine Met.ofW (cc := cX10_amount) (maxL := 3) (ret := (some .long)) (by decide) rfl ?_
  intro p e s m args below meth c s₁ B hml hv
  obtain ⟨rfl, hsz, hP, hK, hD0, hN, hg⟩ := hv
  have hx := B.exec
  have hb := B.bytes
  have hr := B.returns
  have hts := atoms_spec (ws := wsX10_amount) B.pre
  have hown : s.vm.findClass RX10 = some m.cls := findClass_of_methodNamed B.named
  have hlocks := B.notSynchronized
  clear B
  subst hsz
  have hD := hD0.self (sz := s.heap.size)
  generalize hAe : va_A (wC y a z) s.heap.size = A at hD hg ⊢
  have hA : ∀ q : Nat, s.heap.size ≤ q → A q := fun q h => by rw [← hAe]; exact Or.inr h
  clear hAe hD0
  have hl := lv_entry ([.ref (a 0), .int x1, .int x2]) (n := 3) (Nat.le_of_ble_eq_true rfl)
  rw [lg_entry_eq]
  generalize (lg_sl ([.ref (a 0), .int x1, .int x2]) ++ List.replicate (3 - (lg_sl ([.ref (a 0), .int x1, .int x2])).length) Slot.unset).toArray = ls at hl ⊢
  replace hl : lv_has ls 3 [(0, .ref (a 0)), (1, .int x1), (2, .int x2)] := hl
  refine zz_go (w := wC y a) hP hD va_S.rf hl (fun G hG => ?_)
  clear hP hD hl ls
  rw [hG]
  intro H locs ls hP hD hS hl
  refine lv_iload_n hx hb dX10_amount_0 rfl (lv_at hl 1 rfl) ?_
  refine zz_calli (zz_runS (w := wC y a) (As := [.int x1]) (rest := []) ⟨hx, hb, hml, hown, hts⟩ (zX10_isMonth l D y a H.size x1 z (zc_isMonth x1)) (va_cwS 1 hts gX10_amount_X10_isMonth rfl rfl rfl zdX10_isMonth ⟨Nat.le_of_ble_eq_true rfl, Nat.le_of_ble_eq_true rfl⟩) hK hN hg hP hD hS hA rfl hl.1 rfl (Nat.le_of_ble_eq_true rfl) dX10_amount_1 ⟨Nat.le_of_ble_eq_true rfl, Nat.le_of_ble_eq_true rfl⟩) hD hS hA (fun H locs hP hD hS => ?_)
  refine lv_if_eq (tgt := 17) hx hb dX10_amount_4 (by decide) (fun c1 => ?_) (fun c1 => ?_)
  · exfalso
    rw [if_pos hT.1] at c1
    exact absurd c1 (by decide)
  · refine lv_iload_n hx hb dX10_amount_7 rfl (lv_at hl 2 rfl) ?_
    refine lv_iconst (v := (0 : Int32)) hx hb dX10_amount_8 (by decide) ?_
    refine lv_bipush (v := (14 : Int32)) hx hb dX10_amount_9 (by decide) ?_
    refine zz_calli (zz_runS (w := wC y a) (As := [.int x2, .int (0 : Int32), .int (14 : Int32)]) (rest := []) ⟨hx, hb, hml, hown, hts⟩ (zX10_isWithin l D y a H.size x2 (0 : Int32) (14 : Int32) z (zc_isWithin x2 0 14)) (va_cwS 3 hts gX10_amount_X10_isWithin rfl rfl rfl zdX10_isWithin ⟨Nat.le_of_ble_eq_true rfl, Nat.le_of_ble_eq_true rfl⟩) hK hN hg hP hD hS hA rfl hl.1 rfl (Nat.le_of_ble_eq_true rfl) dX10_amount_11 ⟨Nat.le_of_ble_eq_true rfl, Nat.le_of_ble_eq_true rfl⟩) hD hS hA (fun H locs hP hD hS => ?_)
    refine lv_if_ne (tgt := 25) hx hb dX10_amount_14 (by decide) (fun c2 => ?_) (fun c2 => ?_)
    · refine lv_aload_n hx hb dX10_amount_25 rfl (lv_at hl 0 rfl) ?_
      refine va_get (D := D) (ci := 10) (v := .ref (a 64)) (C := RX10) (T := TX10) (N := 7) hx hb hts nX10_amount_X10 hown hK hP 0 (wC_0 y a z) rfl 3 (by decide) (hts (.fieldLink RX10 33 "WorksDesk" "real" "LWorksDesk$Figures;") (by decide +kernel)) (fun _ h9 => h9) rfl dX10_amount_26 ?_
      refine lv_aload_n hx hb dX10_amount_29 rfl (lv_at hl 0 rfl) ?_
      refine va_get (D := D) (ci := 10) (v := .ref (a 8)) (C := RX10) (T := TX10) (N := 7) hx hb hts nX10_amount_X10 hown hK hP 0 (wC_0 y a z) rfl 2 (by decide) (hts (.fieldLink RX10 26 "WorksDesk" "book" "LWorksDesk$Book;") (by decide +kernel)) (fun _ h9 => h9) rfl dX10_amount_30 ?_
      refine zz_callv (zz_runV (w := wC y a) (As := [.ref (a 8)]) (rest := []) ⟨hx, hb, hml, hown, hts⟩ (zX4_reckon l D y a H.size 64 (Or.inl rfl) z hm1) (cwV 1 hts gX10_amount_X4_reckon rfl rfl rfl zdX4_reckon ⟨Nat.le_of_ble_eq_true rfl, Nat.le_of_ble_eq_true rfl⟩) hK hN hg hP hD hS hA 64 (wC_fig y a z 64 (Or.inl rfl)) rfl rfl hl.1 rfl (Nat.le_of_ble_eq_true rfl) dX10_amount_33 ⟨Nat.le_of_ble_eq_true rfl, Nat.le_of_ble_eq_true rfl⟩) hD hS hA (fun H locs hP hD hS => ?_)
      refine lv_aload_n hx hb dX10_amount_36 rfl (lv_at hl 0 rfl) ?_
      refine va_get (D := D) (ci := 10) (v := .ref (a 64)) (C := RX10) (T := TX10) (N := 7) hx hb hts nX10_amount_X10 hown hK hP 0 (wC_0 y a zt) rfl 3 (by decide) (hts (.fieldLink RX10 33 "WorksDesk" "real" "LWorksDesk$Figures;") (by decide +kernel)) (fun _ h9 => h9) rfl dX10_amount_37 ?_
      refine lv_iload_n hx hb dX10_amount_40 rfl (lv_at hl 2 rfl) ?_
      refine lv_iload_n hx hb dX10_amount_41 rfl (lv_at hl 1 rfl) ?_
      refine zz_calll (zz_runV (w := wC y a) (As := [.int x2, .int x1]) (rest := []) ⟨hx, hb, hml, hown, hts⟩ (zX4_of l D y a H.size 64 x2 x1 (Or.inl rfl) zt hm2) (cwV 2 hts gX10_amount_X4_of rfl rfl rfl zdX4_of ⟨Nat.le_of_ble_eq_true rfl, Nat.le_of_ble_eq_true rfl⟩) hK hN hg hP hD hS hA 64 (wC_fig y a zt 64 (Or.inl rfl)) rfl rfl hl.1 rfl (Nat.le_of_ble_eq_true rfl) dX10_amount_42 ⟨Nat.le_of_ble_eq_true rfl, Nat.le_of_ble_eq_true rfl⟩) hD hS hA (fun H locs hP hD hS => ?_)
      exact zz_lret hx hb hr hlocks ⟨rfl, rfl⟩ hP hK hD hS dX10_amount_45
    · exfalso
      rw [if_pos (show (0 : Int32).toInt ≤ x2.toInt ∧ x2.toInt ≤ (14 : Int32).toInt from hT.2)] at c2
      exact absurd c2 (by decide)
set_option maxHeartbeats 4000000 in
set_option maxRecDepth 100000 in
theorem zX10_rowT (l : Launch) (hst : l.stackTraces = false) (D : va_G) (y : Nat → ClassId) (a : Nat → Nat) (sz : Nat) (x1 : Int32) (z : zz_M) (hT : ¬ (¬ x1 < 0 ∧ x1 < z.2.2.1 6337)) : vx_Met l yX10_row wsX10_row { frames := 6, cells := 1, slots := 6, locals := 129 } (zz_PcX D y (wC y a z) sz [.ref (a 0), .int x1]) (fun _ _ _ _ => False) (zz_XC D y (wC y a) (va_A (wC y a z) sz) z) 1 6 (va_A (wC y a z) sz) := by
  refine vx_ofW (cc := cX10_row) (maxL := 2) (ret := (some .long)) (by decide) rfl ?_
  intro p e s m args below meth c s₁ B hml hex hv
  obtain ⟨⟨rfl, hsz, hP, hK, hD0, hN, hg⟩, hxx⟩ := hv
  have hx := B.exec
  have hb := B.bytes
  have hr := B.returns
  have hts := atoms_spec (ws := wsX10_row) B.pre
  have hown : s.vm.findClass RX10 = some m.cls := findClass_of_methodNamed B.named
  have hlocks := B.notSynchronized
  clear B
  subst hsz
  have hD := hD0.self (sz := s.heap.size)
  generalize hAe : va_A (wC y a z) s.heap.size = A at hD hg hxx ⊢
  have hA : ∀ q : Nat, s.heap.size ≤ q → A q := fun q h => by rw [← hAe]; exact Or.inr h
  clear hAe hD0
  have hl := lv_entry ([.ref (a 0), .int x1]) (n := 2) (Nat.le_of_ble_eq_true rfl)
  rw [lg_entry_eq]
  generalize (lg_sl ([.ref (a 0), .int x1]) ++ List.replicate (2 - (lg_sl ([.ref (a 0), .int x1])).length) Slot.unset).toArray = ls at hl ⊢
  replace hl : lv_has ls 2 [(0, .ref (a 0)), (1, .int x1)] := hl
  refine zz_go (w := wC y a) hP hD va_S.rf hl (fun G hG => ?_)
  clear hP hD hl ls
  rw [hG]
  intro H locs ls hP hD hS hl
  have tw : ∀ {H : Heap} {locs : List Loc}, va_P D vwCl (wC y a z) H → va_D A (wC y a z) → va_S A s.heap H locs → W p l e (headSpec wsX10_row { frames := 6, cells := 1, slots := 6, locals := 129 }).room s m _ below meth c H locs 0 0 (vx_MQ below (fun _ _ _ _ => False) (zz_XC D y (wC y a) A z) _ s 1 6 A) (F0 m 15 ls []) := fun hP hD hS =>
    zx_throw hx hb hst hown (hts (.classLink RX10 220 "java/util/NoSuchElementException") (by decide +kernel)) (hts (.initialized "java/util/NoSuchElementException") (by decide +kernel)) (fun w h => hts w (nX10_row_F w h)) hxx hP hK hD hS (hl.1.trans hml.symm) dX10_row_15 dX10_row_18 dX10_row_19 dX10_row_22 hex ⟨Nat.le_of_ble_eq_true rfl, Nat.le_of_ble_eq_true rfl, Nat.le_of_ble_eq_true rfl, Nat.le_of_ble_eq_true rfl⟩ hlocks
  refine lv_iload_n hx hb dX10_row_0 rfl (lv_at hl 1 rfl) ?_
  refine lv_if_lt (tgt := 15) hx hb dX10_row_1 (by decide) (fun c1 => ?_) (fun c1 => ?_)
  · exact tw hP hD hS
  · refine lv_iload_n hx hb dX10_row_4 rfl (lv_at hl 1 rfl) ?_
    refine lv_aload_n hx hb dX10_row_5 rfl (lv_at hl 0 rfl) ?_
    refine va_get (D := D) (ci := 10) (v := .ref (a 99)) (C := RX10) (T := TX10) (N := 7) hx hb hts nX10_row_X10 hown hK hP 0 (wC_0 y a z) rfl 6 (by decide) (hts (.fieldLink RX10 47 "WorksDesk" "lastRow" "LWorksDesk$Row;") (by decide +kernel)) (fun _ h9 => h9) rfl dX10_row_6 ?_
    refine va_get (D := D) (ci := 5) (v := .int (z.2.2.1 6337)) (C := RX5) (T := TX5) (N := 2) hx hb hts nX10_row_X5 hown hK hP 99 (wC_99 y a z) rfl 1 (by decide) (hts (.fieldLink RX10 373 "WorksDesk$Row" "size" "I") (by decide +kernel)) (fun _ h9 => h9) rfl dX10_row_9 ?_
    refine lv_icmp_lt (tgt := 23) hx hb dX10_row_12 (by decide) (fun c2 => ?_) (fun c2 => ?_)
    · exact absurd ⟨c1, c2⟩ hT
    · exact tw hP hD hS
set_option maxHeartbeats 4000000 in
set_option maxRecDepth 100000 in
theorem zX10_rowK (l : Launch) (D : va_G) (y : Nat → ClassId) (a : Nat → Nat) (sz : Nat) (x1 : Int32) (z : zz_M) (hT : ¬ x1 < 0 ∧ x1 < z.2.2.1 6337) (hin : zz_in x1 5) : Met l yX10_row wsX10_row { frames := 6, cells := 0, slots := 0, locals := 129 } (zz_Pc D y (wC y a z) sz [.ref (a 0), .int x1]) (zz_Ql D y (wC y a) (va_A (wC y a z) sz) (z.2.1 100 x1.toNatClampNeg) z) 0 0 (va_A (wC y a z) sz) := by
  refine Met.ofW (cc := cX10_row) (maxL := 2) (ret := (some .long)) (by decide) rfl ?_
  intro p e s m args below meth c s₁ B hml hv
  obtain ⟨rfl, hsz, hP, hK, hD0, hN, hg⟩ := hv
  have hx := B.exec
  have hb := B.bytes
  have hr := B.returns
  have hts := atoms_spec (ws := wsX10_row) B.pre
  have hown : s.vm.findClass RX10 = some m.cls := findClass_of_methodNamed B.named
  have hlocks := B.notSynchronized
  clear B
  subst hsz
  have hD := hD0.self (sz := s.heap.size)
  generalize hAe : va_A (wC y a z) s.heap.size = A at hD hg ⊢
  have hA : ∀ q : Nat, s.heap.size ≤ q → A q := fun q h => by rw [← hAe]; exact Or.inr h
  clear hAe hD0
  have hl := lv_entry ([.ref (a 0), .int x1]) (n := 2) (Nat.le_of_ble_eq_true rfl)
  rw [lg_entry_eq]
  generalize (lg_sl ([.ref (a 0), .int x1]) ++ List.replicate (2 - (lg_sl ([.ref (a 0), .int x1])).length) Slot.unset).toArray = ls at hl ⊢
  replace hl : lv_has ls 2 [(0, .ref (a 0)), (1, .int x1)] := hl
  refine zz_go (w := wC y a) hP hD va_S.rf hl (fun G hG => ?_)
  clear hP hD hl ls
  rw [hG]
  intro H locs ls hP hD hS hl
  refine lv_iload_n hx hb dX10_row_0 rfl (lv_at hl 1 rfl) ?_
  refine lv_if_lt (tgt := 15) hx hb dX10_row_1 (by decide) (fun c1 => ?_) (fun c1 => ?_)
  · exact absurd c1 hT.1
  · refine lv_iload_n hx hb dX10_row_4 rfl (lv_at hl 1 rfl) ?_
    refine lv_aload_n hx hb dX10_row_5 rfl (lv_at hl 0 rfl) ?_
    refine va_get (D := D) (ci := 10) (v := .ref (a 99)) (C := RX10) (T := TX10) (N := 7) hx hb hts nX10_row_X10 hown hK hP 0 (wC_0 y a z) rfl 6 (by decide) (hts (.fieldLink RX10 47 "WorksDesk" "lastRow" "LWorksDesk$Row;") (by decide +kernel)) (fun _ h9 => h9) rfl dX10_row_6 ?_
    refine va_get (D := D) (ci := 5) (v := .int (z.2.2.1 6337)) (C := RX5) (T := TX5) (N := 2) hx hb hts nX10_row_X5 hown hK hP 99 (wC_99 y a z) rfl 1 (by decide) (hts (.fieldLink RX10 373 "WorksDesk$Row" "size" "I") (by decide +kernel)) (fun _ h9 => h9) rfl dX10_row_9 ?_
    refine lv_icmp_lt (tgt := 23) hx hb dX10_row_12 (by decide) (fun c2 => ?_) (fun c2 => ?_)
    · refine lv_aload_n hx hb dX10_row_23 rfl (lv_at hl 0 rfl) ?_
      refine va_get (D := D) (ci := 10) (v := .ref (a 99)) (C := RX10) (T := TX10) (N := 7) hx hb hts nX10_row_X10 hown hK hP 0 (wC_0 y a z) rfl 6 (by decide) (hts (.fieldLink RX10 47 "WorksDesk" "lastRow" "LWorksDesk$Row;") (by decide +kernel)) (fun _ h9 => h9) rfl dX10_row_24 ?_
      refine va_get (D := D) (ci := 5) (v := .ref (a 100)) (C := RX5) (T := TX5) (N := 2) hx hb hts nX10_row_X5 hown hK hP 99 (wC_99 y a z) rfl 0 (by decide) (hts (.fieldLink RX10 374 "WorksDesk$Row" "numbers" "[J") (by decide +kernel)) (fun _ h9 => h9) rfl dX10_row_27 ?_
      refine lv_iload_n hx hb dX10_row_30 rfl (lv_at hl 1 rfl) ?_
      refine va_lald hx hb hK hP 100 1 (wC_100 y a z) rfl hin dX10_row_31 ?_
      exact zz_lret hx hb hr hlocks ⟨rfl, rfl⟩ hP hK hD hS dX10_row_32
    · exact absurd hT.2 c2
