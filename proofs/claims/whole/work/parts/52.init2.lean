theorem zz_asP {D : va_G} {cl : List vw_C} {a b c : va_W} {H : Heap} (h : va_P D cl ((a ++ b) ++ c) H) : va_P D cl (a ++ (b ++ c)) H := by rw [← List.append_assoc]; exact h
theorem zz_asD {A : Nat → Prop} {a b c : va_W} (h : va_D A ((a ++ b) ++ c)) : va_D A (a ++ (b ++ c)) := by rw [← List.append_assoc]; exact h
theorem zz_at_end {X w : va_W} {q : Nat × va_E} : (X ++ q :: w)[X.length]? = some q := by rw [List.getElem?_append_right (Nat.le_refl _), Nat.sub_self]; rfl
theorem zz_inR {X Y : va_W} {k : Nat} {q : Nat × va_E} (h : Y[k]? = some q) : (X ++ Y)[X.length + k]? = some q := by rw [List.getElem?_append_right (by omega), Nat.add_sub_cancel_left]; exact h
theorem zz_swapE {D : va_G} {cl : List vw_C} {ws : va_W} {H : Heap} {k b n : Nat} {cA : ClassId} {f f' : Nat → Option Nat} (hP : va_P D cl ws H) (h : ws[k]? = some (b, .inl (cA, n, .inr (.inr (.inr (.inr f)))))) (e : ∀ j, j < n → f j = f' j) : va_P D cl (ws.set k (b, .inl (cA, n, .inr (.inr (.inr (.inr f')))))) H := by
  intro i q hq
  rw [List.getElem?_set] at hq
  by_cases c : k = i
  · subst c
    rw [if_pos rfl, if_pos (List.getElem?_eq_some_iff.mp h).1] at hq
    cases hq
    have h9 := hP k _ h
    have e9 : vp_cell cA (n, .inr (.inr (.inr (.inr f)))) = vp_cell cA (n, .inr (.inr (.inr (.inr f')))) := by
      rw [vp_cell_q, vp_cell_q]
      exact arrV_same _ (fun j hj => by rw [e j hj])
    show H[b]? = some (vp_cell cA (n, .inr (.inr (.inr (.inr f')))))
    rw [← e9]
    exact h9
  · rw [if_neg c] at hq
    exact hP i q hq
def wIX2 (y : Nat → ClassId) (a : Nat → Nat) : va_W := [(a 0, .inr (2, [.ref (a 1), .ref (a 5), .ref (a 7), .ref (a 38), .ref (a 41), .ref (a 44), .ref (a 49), .ref (a 55), .int 24, .int 24, .int 24, .int 0])), (a 1, .inr (0, [.ref (a 2), .ref (a 3), .ref (a 4), .int 0, .int 0])), (a 2, .inl (y 0, 10, .inl (fun _ => 0))), (a 3, .inl (y 0, 10, .inl (fun _ => 0))), (a 4, .inl (y 0, 10, .inl (fun _ => 0))), (a 5, .inr (8, [.ref (a 6)])), (a 6, .inl (y 0, 14, .inl (va_cpy zz_first (fun _ => 0) 0 0 14))), (a 7, .inl (y 3, 10, .inr (.inr (.inr (.inr (fun j => some (a (8 + 3 * j)))))))), (a 8, .inr (6, [.ref (a 9), .ref (a 10), .int 0])), (a 9, .inl (y 0, 24, .inl (fun k => if k < 24 then -1 else 0))), (a 10, .inl (y 0, 24, .inl (fun k => if k < 24 then 0 else 0))), (a 11, .inr (6, [.ref (a 12), .ref (a 13), .int 0])), (a 12, .inl (y 0, 24, .inl (fun k => if k < 24 then -1 else 0))), (a 13, .inl (y 0, 24, .inl (fun k => if k < 24 then 0 else 0))), (a 14, .inr (6, [.ref (a 15), .ref (a 16), .int 0])), (a 15, .inl (y 0, 24, .inl (fun k => if k < 24 then -1 else 0))), (a 16, .inl (y 0, 24, .inl (fun k => if k < 24 then 0 else 0))), (a 17, .inr (6, [.ref (a 18), .ref (a 19), .int 0])), (a 18, .inl (y 0, 24, .inl (fun k => if k < 24 then -1 else 0))), (a 19, .inl (y 0, 24, .inl (fun k => if k < 24 then 0 else 0))), (a 20, .inr (6, [.ref (a 21), .ref (a 22), .int 0])), (a 21, .inl (y 0, 24, .inl (fun k => if k < 24 then -1 else 0))), (a 22, .inl (y 0, 24, .inl (fun k => if k < 24 then 0 else 0))), (a 23, .inr (6, [.ref (a 24), .ref (a 25), .int 0])), (a 24, .inl (y 0, 24, .inl (fun k => if k < 24 then -1 else 0))), (a 25, .inl (y 0, 24, .inl (fun k => if k < 24 then 0 else 0))), (a 26, .inr (6, [.ref (a 27), .ref (a 28), .int 0])), (a 27, .inl (y 0, 24, .inl (fun k => if k < 24 then -1 else 0))), (a 28, .inl (y 0, 24, .inl (fun k => if k < 24 then 0 else 0))), (a 29, .inr (6, [.ref (a 30), .ref (a 31), .int 0])), (a 30, .inl (y 0, 24, .inl (fun k => if k < 24 then -1 else 0))), (a 31, .inl (y 0, 24, .inl (fun k => if k < 24 then 0 else 0))), (a 32, .inr (6, [.ref (a 33), .ref (a 34), .int 0])), (a 33, .inl (y 0, 24, .inl (fun k => if k < 24 then -1 else 0))), (a 34, .inl (y 0, 24, .inl (fun k => if k < 24 then 0 else 0))), (a 35, .inr (6, [.ref (a 36), .ref (a 37), .int 0])), (a 36, .inl (y 0, 24, .inl (fun k => if k < 24 then -1 else 0))), (a 37, .inl (y 0, 24, .inl (fun k => if k < 24 then 0 else 0))), (a 38, .inr (6, [.ref (a 39), .ref (a 40), .int 0])), (a 39, .inl (y 0, 24, .inl (fun k => if k < 24 then -1 else 0))), (a 40, .inl (y 0, 24, .inl (fun k => if k < 24 then 0 else 0))), (a 41, .inr (6, [.ref (a 42), .ref (a 43), .int 1000])), (a 42, .inl (y 0, 24, .inl (fun k => if k < 24 then -1 else 0))), (a 43, .inl (y 0, 24, .inl (fun k => if k < 24 then 1000 else 0))), (a 44, .inr (3, [.ref (a 45), .ref (a 46), .ref (a 47), .ref (a 48), .int 0])), (a 45, .inl (y 0, 8, .inl (fun _ => 0))), (a 46, .inl (y 0, 8, .inl (fun _ => 0))), (a 47, .inl (y 0, 8, .inl (fun _ => 0))), (a 48, .inl (y 0, 8, .inl (fun _ => 0))), (a 49, .inr (7, [.ref (a 50), .ref (a 51), .ref (a 52), .ref (a 53), .ref (a 54), .int 0])), (a 50, .inl (y 0, 6, .inl (fun _ => 0))), (a 51, .inl (y 0, 6, .inl (fun _ => 0))), (a 52, .inl (y 0, 6, .inl (fun _ => 0))), (a 53, .inl (y 0, 6, .inl (fun _ => 0))), (a 54, .inl (y 0, 6, .inl (fun _ => 0))), (a 55, .inl (y 1, 24, .inr (.inl (fun _ => 0))))]
theorem nX2_init_X0 : ∀ w ∈ wsX00, w ∈ wsX2_init := fun _ h => List.mem_cons_of_mem _ (List.mem_append_left _ (List.mem_append_left _ (List.mem_append_left _ (List.mem_append_left _ (List.mem_append_left _ (List.mem_append_right _ (h)))))))
theorem nX2_init_X2 : ∀ w ∈ wsX20, w ∈ wsX2_init := fun _ h => List.mem_cons_of_mem _ (List.mem_append_left _ (List.mem_append_left _ (List.mem_append_left _ (List.mem_append_left _ (List.mem_append_right _ (h))))))
theorem nX2_init_X3 : ∀ w ∈ wsX30, w ∈ wsX2_init := fun _ h => List.mem_cons_of_mem _ (List.mem_append_left _ (List.mem_append_right _ (h)))
theorem nX2_init_X6 : ∀ w ∈ wsX60, w ∈ wsX2_init := fun _ h => List.mem_cons_of_mem _ (List.mem_append_left _ (List.mem_append_left _ (List.mem_append_right _ (h))))
theorem nX2_init_X7 : ∀ w ∈ wsX70, w ∈ wsX2_init := fun _ h => List.mem_cons_of_mem _ (List.mem_append_right _ (h))
theorem nX2_init_X8 : ∀ w ∈ wsX80, w ∈ wsX2_init := fun _ h => List.mem_cons_of_mem _ (List.mem_append_left _ (List.mem_append_left _ (List.mem_append_left _ (List.mem_append_right _ (h)))))
theorem zdX2_init : yX2_init.cls ≠ "java/lang/invoke/MethodHandle" ∧ yX2_init.cls ≠ "java/lang/invoke/VarHandle" ∧ (parseMethodDescriptor yX2_init.desc).map (fun d => d.parameters.length) = some 0 := by decide +kernel
set_option maxHeartbeats 8000000 in
set_option maxRecDepth 100000 in
theorem zX2_init (l : Launch) (D : va_G) (y : Nat → ClassId) (h0 sz : Nat) : Met l yX2_init wsX2_init { frames := 2, cells := 55, slots := 769, locals := 84 } (zz_Pc D y [(h0, .inr (2, [.null, .null, .null, .null, .null, .null, .null, .null, .int 0, .int 0, .int 0, .int 0]))] sz [.ref h0]) (va_Qv (fun a : Nat → Nat => a 0 = h0) (fun a t => va_P D vwCl (wIX2 y a) t.heap ∧ va_K D vwCl (zz_ty y) t ∧ va_D (va_A [(h0, .inr (2, [.null, .null, .null, .null, .null, .null, .null, .null, .int 0, .int 0, .int 0, .int 0]))] sz) (wIX2 y a)) (va_A [(h0, .inr (2, [.null, .null, .null, .null, .null, .null, .null, .null, .int 0, .int 0, .int 0, .int 0]))] sz)) 55 769 (va_A [(h0, .inr (2, [.null, .null, .null, .null, .null, .null, .null, .null, .int 0, .int 0, .int 0, .int 0]))] sz) := by
  refine Met.ofW (cc := cX2_init) (maxL := 2) (ret := none) (by decide) rfl ?_
  intro p e s m args below meth c s₁ B hml hv
  obtain ⟨rfl, hsz, hP, hK, hD0, hN, hg⟩ := hv
  have hx := B.exec
  have hb := B.bytes
  have hr := B.returns
  have hts := atoms_spec (ws := wsX2_init) B.pre
  have hown : s.vm.findClass RX2 = some m.cls := findClass_of_methodNamed B.named
  have hlocks := B.notSynchronized
  have hin : meth.name = "<init>" := (name_of_methodNamed B.named B.method).1
  clear B
  subst hsz
  have hD := hD0.self (sz := s.heap.size)
  generalize hAe : va_A [(h0, .inr (2, [.null, .null, .null, .null, .null, .null, .null, .null, .int 0, .int 0, .int 0, .int 0]))] s.heap.size = A at hD hg ⊢
  have hA : ∀ q : Nat, s.heap.size ≤ q → A q := fun q h => by rw [← hAe]; exact Or.inr h
  clear hAe hD0
  have hS : va_S A s.heap s.heap [] := va_S.rf
  have hl := lv_entry ([.ref h0]) (n := 2) (Nat.le_of_ble_eq_true rfl)
  rw [lg_entry_eq]
  generalize (lg_sl ([.ref h0]) ++ List.replicate (2 - (lg_sl ([.ref h0])).length) Slot.unset).toArray = ls at hl ⊢
  replace hl : lv_has ls 2 [(0, .ref h0)] := hl
  have hP : va_P D vwCl ([(h0, .inr (2, [.null, .null, .null, .null, .null, .null, .null, .null, .int 0, .int 0, .int 0, .int 0]))] ++ ([] : va_W)) s.heap := hP
  have hD : va_D A ([(h0, .inr (2, [.null, .null, .null, .null, .null, .null, .null, .null, .int 0, .int 0, .int 0, .int 0]))] ++ ([] : va_W)) := hD
  refine lv_aload_n hx hb dX2_init_0 rfl (lv_at hl 0 rfl) ?_
  refine W.objInit hx hb hown (hts (.methodLink RX2 3 objectInit) (List.mem_of_getElem? (i := 1) rfl)) (hts (.instanceMethod objectInit) (List.mem_of_getElem? (i := 2) rfl)) (hts (.code objectInit ⟨#[0xb1]⟩ 1 none) (List.mem_of_getElem? (i := 3) rfl)) rfl (by rw [hml]; exact hl.1) rfl dX2_init_1 (Nat.le_of_ble_eq_true rfl) (Nat.le_of_ble_eq_true rfl) ?_
  refine W.eq (g2 := F0 m 4 ls []) rfl ?_
  refine lv_aload_n hx hb dX2_init_4 rfl (lv_at hl 0 rfl) ?_
  refine va_new (ci := 0) (fs := [.null, .null, .null, .int 0, .int 0]) (C := RX0) (T := TX0) (N := 5) hx hb hts nX2_init_X0 tyX0 tyX0_ok hown (hts (.classLink RX2 9 RX0) (List.mem_of_getElem? (i := 4) rfl)) (hts (.instantiable RX0 5) (List.mem_of_getElem? (i := 5) rfl)) (hts (.initialized RX0) (List.mem_of_getElem? (i := 6) rfl)) hK hP hD hS hA rfl (fun j hj => by
      match j, hj with
      | 0, _ => rfl
      | 1, _ => rfl
      | 2, _ => rfl
      | 3, _ => rfl
      | 4, _ => rfl) (Nat.le_of_ble_eq_true rfl) (Nat.le_of_ble_eq_true rfl) dX2_init_5 (fun q1 H hP hD hS => ?_)
  refine lv_dup hx hb dX2_init_8 rfl ?_
  refine zz_ctor (va_runIN (As := []) (rest := [.ref q1, .ref h0]) ⟨hx, hb, hml, hown, hts⟩ (zX0_init l D y q1 H.size) ⟨va_cnB 0 hts gX2_init_X0_init_n11 rfl rfl rfl (hN _ (List.mem_of_getElem? (i := 8) rfl)) (hts (.initialized RX0) (List.mem_of_getElem? (i := 6) rfl)) zdX0_init ⟨Nat.le_of_ble_eq_true rfl, Nat.le_of_ble_eq_true rfl⟩, rfl, (hts (.instanceMethod yX0_init) (List.mem_of_getElem? (i := 32) rfl))⟩ (zz_preE hP hK hD hN hg hS hA) rfl rfl hl.1 rfl (lv_room (Nat.le_of_ble_eq_true rfl)) dX2_init_9 ⟨Nat.le_of_ble_eq_true rfl, Nat.le_of_ble_eq_true rfl⟩) hP hD hS hA (fun a1 H1 locs1 ha hP1 hD1 hS1 => ?_)
  clear hP hD hS
  subst ha
  generalize H1 = H at hP1 hS1 ⊢
  generalize locs1 = locs at hS1 ⊢
  have hP := zz_asP hP1
  have hD := zz_asD hD1
  have hS := hS1
  clear hP1 hD1 hS1
  have hP : va_P D vwCl ([(h0, .inr (2, [.null, .null, .null, .null, .null, .null, .null, .null, .int 0, .int 0, .int 0, .int 0]))] ++ (([] : va_W) ++ wIX0 y a1)) H := hP
  have hD : va_D A ([(h0, .inr (2, [.null, .null, .null, .null, .null, .null, .null, .null, .int 0, .int 0, .int 0, .int 0]))] ++ (([] : va_W) ++ wIX0 y a1)) := hD
  refine va_putF (D := D) (ci := 2) (v := .ref (a1 0)) (ty := .object "WorksDesk$Bill") (C := RX2) (T := TX2) (N := 12) hx hb hts nX2_init_X2 tyX2 tyX2_ok nmX2 hown hK hP hD hS 0 rfl rfl 0 (by decide) (hts (.fieldLink RX2 12 "WorksDesk$Book" "items" "LWorksDesk$Bill;") (List.mem_of_getElem? (i := 7) rfl)) (fun _ h9 => h9) rfl hin rfl (tyX2_ok 0 (by decide)) rfl rfl (Nat.le_of_ble_eq_true rfl) dX2_init_12 (fun H locs hP hD hS => ?_)
  have hP : va_P D vwCl ([(h0, .inr (2, [.ref (a1 0), .null, .null, .null, .null, .null, .null, .null, .int 0, .int 0, .int 0, .int 0]))] ++ (([] : va_W) ++ wIX0 y a1)) H := hP
  have hD : va_D A ([(h0, .inr (2, [.ref (a1 0), .null, .null, .null, .null, .null, .null, .null, .int 0, .int 0, .int 0, .int 0]))] ++ (([] : va_W) ++ wIX0 y a1)) := hD
  refine lv_aload_n hx hb dX2_init_15 rfl (lv_at hl 0 rfl) ?_
  refine va_new (ci := 8) (fs := [.null]) (C := RX8) (T := TX8) (N := 1) hx hb hts nX2_init_X8 tyX8 tyX8_ok hown (hts (.classLink RX2 18 RX8) (List.mem_of_getElem? (i := 8) rfl)) (hts (.instantiable RX8 1) (List.mem_of_getElem? (i := 9) rfl)) (hts (.initialized RX8) (List.mem_of_getElem? (i := 10) rfl)) hK hP hD hS hA rfl (fun j hj => by
      match j, hj with
      | 0, _ => rfl) (Nat.le_of_ble_eq_true rfl) (Nat.le_of_ble_eq_true rfl) dX2_init_16 (fun q2 H hP hD hS => ?_)
  refine lv_dup hx hb dX2_init_19 rfl ?_
  refine zz_ctor (va_runI (As := []) (rest := [.ref q2, .ref h0]) ⟨hx, hb, hml, hown, hts⟩ (zX8_init l D y q2 H.size) (cwI 0 hts gX2_init_X8_init rfl rfl rfl (hts (.initialized RX8) (List.mem_of_getElem? (i := 10) rfl)) (hts (.methodLink RX2 20 yX8_init) (List.mem_of_getElem? (i := 41) rfl)) (hts (.instanceMethod yX8_init) (List.mem_of_getElem? (i := 42) rfl)) rfl zdX8_init ⟨Nat.le_of_ble_eq_true rfl, Nat.le_of_ble_eq_true rfl⟩) (zz_preE hP hK hD hN hg hS hA) rfl rfl hl.1 rfl (lv_room (Nat.le_of_ble_eq_true rfl)) dX2_init_20 ⟨Nat.le_of_ble_eq_true rfl, Nat.le_of_ble_eq_true rfl⟩) hP hD hS hA (fun a2 H1 locs1 ha hP1 hD1 hS1 => ?_)
  clear hP hD hS
  subst ha
  generalize H1 = H at hP1 hS1 ⊢
  generalize locs1 = locs at hS1 ⊢
  have hP := zz_asP hP1
  have hD := zz_asD hD1
  have hS := hS1
  clear hP1 hD1 hS1
  have hP : va_P D vwCl ([(h0, .inr (2, [.ref (a1 0), .null, .null, .null, .null, .null, .null, .null, .int 0, .int 0, .int 0, .int 0]))] ++ ((([] : va_W) ++ wIX0 y a1) ++ wIX8 y a2)) H := hP
  have hD : va_D A ([(h0, .inr (2, [.ref (a1 0), .null, .null, .null, .null, .null, .null, .null, .int 0, .int 0, .int 0, .int 0]))] ++ ((([] : va_W) ++ wIX0 y a1) ++ wIX8 y a2)) := hD
  refine va_putF (D := D) (ci := 2) (v := .ref (a2 0)) (ty := .object "WorksDesk$Terms") (C := RX2) (T := TX2) (N := 12) hx hb hts nX2_init_X2 tyX2 tyX2_ok nmX2 hown hK hP hD hS 0 rfl rfl 1 (by decide) (hts (.fieldLink RX2 21 "WorksDesk$Book" "clauses" "LWorksDesk$Terms;") (List.mem_of_getElem? (i := 11) rfl)) (fun _ h9 => h9) rfl hin rfl (tyX2_ok 1 (by decide)) rfl rfl (Nat.le_of_ble_eq_true rfl) dX2_init_23 (fun H locs hP hD hS => ?_)
  have hP : va_P D vwCl ([(h0, .inr (2, [.ref (a1 0), .ref (a2 0), .null, .null, .null, .null, .null, .null, .int 0, .int 0, .int 0, .int 0]))] ++ ((([] : va_W) ++ wIX0 y a1) ++ wIX8 y a2)) H := hP
  have hD : va_D A ([(h0, .inr (2, [.ref (a1 0), .ref (a2 0), .null, .null, .null, .null, .null, .null, .int 0, .int 0, .int 0, .int 0]))] ++ ((([] : va_W) ++ wIX0 y a1) ++ wIX8 y a2)) := hD
  refine lv_aload_n hx hb dX2_init_26 rfl (lv_at hl 0 rfl) ?_
  refine lv_bipush (v := (10 : Int32)) hx hb dX2_init_27 (by decide) ?_
  refine zz_newS hx hb hown (hts (.classLink RX2 25 RX6) (List.mem_of_getElem? (i := 12) rfl)) hg.2.2.1 hK hP hD hS hA 10 (by decide) (by decide) (by decide) (Nat.le_of_ble_eq_true rfl) (Nat.le_of_ble_eq_true rfl) dX2_init_29 (fun q3 H hP hD hS => ?_)
  have hP := va_P.swap hP
  have hD := va_D.swap hD
  have hP : va_P D vwCl ([(h0, .inr (2, [.ref (a1 0), .ref (a2 0), .null, .null, .null, .null, .null, .null, .int 0, .int 0, .int 0, .int 0])), (q3, .inl (y 3, 10, .inr (.inr (.inr (.inr (fun _ => none))))))] ++ ((([] : va_W) ++ wIX0 y a1) ++ wIX8 y a2)) H := hP
  have hD : va_D A ([(h0, .inr (2, [.ref (a1 0), .ref (a2 0), .null, .null, .null, .null, .null, .null, .int 0, .int 0, .int 0, .int 0])), (q3, .inl (y 3, 10, .inr (.inr (.inr (.inr (fun _ => none))))))] ++ ((([] : va_W) ++ wIX0 y a1) ++ wIX8 y a2)) := hD
  refine va_putF (D := D) (ci := 2) (v := .ref q3) (ty := .array (.object "WorksDesk$Series")) (C := RX2) (T := TX2) (N := 12) hx hb hts nX2_init_X2 tyX2 tyX2_ok nmX2 hown hK hP hD hS 0 rfl rfl 2 (by decide) (hts (.fieldLink RX2 27 "WorksDesk$Book" "measured" "[LWorksDesk$Series;") (List.mem_of_getElem? (i := 13) rfl)) (fun _ h9 => h9) rfl hin rfl (tyX2_ok 2 (by decide)) rfl rfl (Nat.le_of_ble_eq_true rfl) dX2_init_32 (fun H locs hP hD hS => ?_)
  have hP : va_P D vwCl ([(h0, .inr (2, [.ref (a1 0), .ref (a2 0), .ref q3, .null, .null, .null, .null, .null, .int 0, .int 0, .int 0, .int 0])), (q3, .inl (y 3, 10, .inr (.inr (.inr (.inr (fun _ => none))))))] ++ ((([] : va_W) ++ wIX0 y a1) ++ wIX8 y a2)) H := hP
  have hD : va_D A ([(h0, .inr (2, [.ref (a1 0), .ref (a2 0), .ref q3, .null, .null, .null, .null, .null, .int 0, .int 0, .int 0, .int 0])), (q3, .inl (y 3, 10, .inr (.inr (.inr (.inr (fun _ => none))))))] ++ ((([] : va_W) ++ wIX0 y a1) ++ wIX8 y a2)) := hD
  refine lv_aload_n hx hb dX2_init_35 rfl (lv_at hl 0 rfl) ?_
  refine va_new (ci := 6) (fs := [.null, .null, .int 0]) (C := RX6) (T := TX6) (N := 3) hx hb hts nX2_init_X6 tyX6 tyX6_ok hown (hts (.classLink RX2 25 RX6) (List.mem_of_getElem? (i := 12) rfl)) (hts (.instantiable RX6 3) (List.mem_of_getElem? (i := 14) rfl)) (hts (.initialized RX6) (List.mem_of_getElem? (i := 15) rfl)) hK hP hD hS hA rfl (fun j hj => by
      match j, hj with
      | 0, _ => rfl
      | 1, _ => rfl
      | 2, _ => rfl) (Nat.le_of_ble_eq_true rfl) (Nat.le_of_ble_eq_true rfl) dX2_init_36 (fun q4 H hP hD hS => ?_)
  refine lv_dup hx hb dX2_init_39 rfl ?_
  refine lv_iconst (v := (0 : Int32)) hx hb dX2_init_40 (by decide) ?_
  refine zz_ctor (va_runI (As := [.int (0 : Int32)]) (rest := [.ref q4, .ref h0]) ⟨hx, hb, hml, hown, hts⟩ (zX6_init l D y q4 H.size (0 : Int32)) (cwI 1 hts gX2_init_X6_init rfl rfl rfl (hts (.initialized RX6) (List.mem_of_getElem? (i := 15) rfl)) (hts (.methodLink RX2 31 yX6_init) (List.mem_of_getElem? (i := 51) rfl)) (hts (.instanceMethod yX6_init) (List.mem_of_getElem? (i := 52) rfl)) rfl zdX6_init ⟨Nat.le_of_ble_eq_true rfl, Nat.le_of_ble_eq_true rfl⟩) (zz_preE hP hK hD hN hg hS hA) rfl rfl hl.1 rfl (lv_room (Nat.le_of_ble_eq_true rfl)) dX2_init_41 ⟨Nat.le_of_ble_eq_true rfl, Nat.le_of_ble_eq_true rfl⟩) hP hD hS hA (fun a4 H1 locs1 ha hP1 hD1 hS1 => ?_)
  clear hP hD hS
  subst ha
  generalize H1 = H at hP1 hS1 ⊢
  generalize locs1 = locs at hS1 ⊢
  have hP := zz_asP hP1
  have hD := zz_asD hD1
  have hS := hS1
  clear hP1 hD1 hS1
  have hP : va_P D vwCl ([(h0, .inr (2, [.ref (a1 0), .ref (a2 0), .ref q3, .null, .null, .null, .null, .null, .int 0, .int 0, .int 0, .int 0])), (q3, .inl (y 3, 10, .inr (.inr (.inr (.inr (fun _ => none))))))] ++ (((([] : va_W) ++ wIX0 y a1) ++ wIX8 y a2) ++ wIX6 y (0 : Int32) a4)) H := hP
  have hD : va_D A ([(h0, .inr (2, [.ref (a1 0), .ref (a2 0), .ref q3, .null, .null, .null, .null, .null, .int 0, .int 0, .int 0, .int 0])), (q3, .inl (y 3, 10, .inr (.inr (.inr (.inr (fun _ => none))))))] ++ (((([] : va_W) ++ wIX0 y a1) ++ wIX8 y a2) ++ wIX6 y (0 : Int32) a4)) := hD
  refine va_putF (D := D) (ci := 2) (v := .ref (a4 0)) (ty := .object "WorksDesk$Series") (C := RX2) (T := TX2) (N := 12) hx hb hts nX2_init_X2 tyX2 tyX2_ok nmX2 hown hK hP hD hS 0 rfl rfl 3 (by decide) (hts (.fieldLink RX2 34 "WorksDesk$Book" "stored" "LWorksDesk$Series;") (List.mem_of_getElem? (i := 16) rfl)) (fun _ h9 => h9) rfl hin rfl (tyX2_ok 3 (by decide)) rfl rfl (Nat.le_of_ble_eq_true rfl) dX2_init_44 (fun H locs hP hD hS => ?_)
  have hP : va_P D vwCl ([(h0, .inr (2, [.ref (a1 0), .ref (a2 0), .ref q3, .ref (a4 0), .null, .null, .null, .null, .int 0, .int 0, .int 0, .int 0])), (q3, .inl (y 3, 10, .inr (.inr (.inr (.inr (fun _ => none))))))] ++ (((([] : va_W) ++ wIX0 y a1) ++ wIX8 y a2) ++ wIX6 y (0 : Int32) a4)) H := hP
  have hD : va_D A ([(h0, .inr (2, [.ref (a1 0), .ref (a2 0), .ref q3, .ref (a4 0), .null, .null, .null, .null, .int 0, .int 0, .int 0, .int 0])), (q3, .inl (y 3, 10, .inr (.inr (.inr (.inr (fun _ => none))))))] ++ (((([] : va_W) ++ wIX0 y a1) ++ wIX8 y a2) ++ wIX6 y (0 : Int32) a4)) := hD
  refine lv_aload_n hx hb dX2_init_47 rfl (lv_at hl 0 rfl) ?_
  refine va_new (ci := 6) (fs := [.null, .null, .int 0]) (C := RX6) (T := TX6) (N := 3) hx hb hts nX2_init_X6 tyX6 tyX6_ok hown (hts (.classLink RX2 25 RX6) (List.mem_of_getElem? (i := 12) rfl)) (hts (.instantiable RX6 3) (List.mem_of_getElem? (i := 14) rfl)) (hts (.initialized RX6) (List.mem_of_getElem? (i := 15) rfl)) hK hP hD hS hA rfl (fun j hj => by
      match j, hj with
      | 0, _ => rfl
      | 1, _ => rfl
      | 2, _ => rfl) (Nat.le_of_ble_eq_true rfl) (Nat.le_of_ble_eq_true rfl) dX2_init_48 (fun q5 H hP hD hS => ?_)
  refine lv_dup hx hb dX2_init_51 rfl ?_
  refine lv_sipush (v := (1000 : Int32)) hx hb dX2_init_52 (by decide) ?_
  refine zz_ctor (va_runI (As := [.int (1000 : Int32)]) (rest := [.ref q5, .ref h0]) ⟨hx, hb, hml, hown, hts⟩ (zX6_init l D y q5 H.size (1000 : Int32)) (cwI 1 hts gX2_init_X6_init rfl rfl rfl (hts (.initialized RX6) (List.mem_of_getElem? (i := 15) rfl)) (hts (.methodLink RX2 31 yX6_init) (List.mem_of_getElem? (i := 51) rfl)) (hts (.instanceMethod yX6_init) (List.mem_of_getElem? (i := 52) rfl)) rfl zdX6_init ⟨Nat.le_of_ble_eq_true rfl, Nat.le_of_ble_eq_true rfl⟩) (zz_preE hP hK hD hN hg hS hA) rfl rfl hl.1 rfl (lv_room (Nat.le_of_ble_eq_true rfl)) dX2_init_55 ⟨Nat.le_of_ble_eq_true rfl, Nat.le_of_ble_eq_true rfl⟩) hP hD hS hA (fun a5 H1 locs1 ha hP1 hD1 hS1 => ?_)
  clear hP hD hS
  subst ha
  generalize H1 = H at hP1 hS1 ⊢
  generalize locs1 = locs at hS1 ⊢
  have hP := zz_asP hP1
  have hD := zz_asD hD1
  have hS := hS1
  clear hP1 hD1 hS1
  have hP : va_P D vwCl ([(h0, .inr (2, [.ref (a1 0), .ref (a2 0), .ref q3, .ref (a4 0), .null, .null, .null, .null, .int 0, .int 0, .int 0, .int 0])), (q3, .inl (y 3, 10, .inr (.inr (.inr (.inr (fun _ => none))))))] ++ ((((([] : va_W) ++ wIX0 y a1) ++ wIX8 y a2) ++ wIX6 y (0 : Int32) a4) ++ wIX6 y (1000 : Int32) a5)) H := hP
  have hD : va_D A ([(h0, .inr (2, [.ref (a1 0), .ref (a2 0), .ref q3, .ref (a4 0), .null, .null, .null, .null, .int 0, .int 0, .int 0, .int 0])), (q3, .inl (y 3, 10, .inr (.inr (.inr (.inr (fun _ => none))))))] ++ ((((([] : va_W) ++ wIX0 y a1) ++ wIX8 y a2) ++ wIX6 y (0 : Int32) a4) ++ wIX6 y (1000 : Int32) a5)) := hD
  refine va_putF (D := D) (ci := 2) (v := .ref (a5 0)) (ty := .object "WorksDesk$Series") (C := RX2) (T := TX2) (N := 12) hx hb hts nX2_init_X2 tyX2 tyX2_ok nmX2 hown hK hP hD hS 0 rfl rfl 4 (by decide) (hts (.fieldLink RX2 38 "WorksDesk$Book" "index" "LWorksDesk$Series;") (List.mem_of_getElem? (i := 17) rfl)) (fun _ h9 => h9) rfl hin rfl (tyX2_ok 4 (by decide)) rfl rfl (Nat.le_of_ble_eq_true rfl) dX2_init_58 (fun H locs hP hD hS => ?_)
  have hP : va_P D vwCl ([(h0, .inr (2, [.ref (a1 0), .ref (a2 0), .ref q3, .ref (a4 0), .ref (a5 0), .null, .null, .null, .int 0, .int 0, .int 0, .int 0])), (q3, .inl (y 3, 10, .inr (.inr (.inr (.inr (fun _ => none))))))] ++ ((((([] : va_W) ++ wIX0 y a1) ++ wIX8 y a2) ++ wIX6 y (0 : Int32) a4) ++ wIX6 y (1000 : Int32) a5)) H := hP
  have hD : va_D A ([(h0, .inr (2, [.ref (a1 0), .ref (a2 0), .ref q3, .ref (a4 0), .ref (a5 0), .null, .null, .null, .int 0, .int 0, .int 0, .int 0])), (q3, .inl (y 3, 10, .inr (.inr (.inr (.inr (fun _ => none))))))] ++ ((((([] : va_W) ++ wIX0 y a1) ++ wIX8 y a2) ++ wIX6 y (0 : Int32) a4) ++ wIX6 y (1000 : Int32) a5)) := hD
  refine lv_aload_n hx hb dX2_init_61 rfl (lv_at hl 0 rfl) ?_
  refine va_new (ci := 3) (fs := [.null, .null, .null, .null, .int 0]) (C := RX3) (T := TX3) (N := 5) hx hb hts nX2_init_X3 tyX3 tyX3_ok hown (hts (.classLink RX2 41 RX3) (List.mem_of_getElem? (i := 18) rfl)) (hts (.instantiable RX3 5) (List.mem_of_getElem? (i := 19) rfl)) (hts (.initialized RX3) (List.mem_of_getElem? (i := 20) rfl)) hK hP hD hS hA rfl (fun j hj => by
      match j, hj with
      | 0, _ => rfl
      | 1, _ => rfl
      | 2, _ => rfl
      | 3, _ => rfl
      | 4, _ => rfl) (Nat.le_of_ble_eq_true rfl) (Nat.le_of_ble_eq_true rfl) dX2_init_62 (fun q6 H hP hD hS => ?_)
  refine lv_dup hx hb dX2_init_65 rfl ?_
  refine zz_ctor (va_runIN (As := []) (rest := [.ref q6, .ref h0]) ⟨hx, hb, hml, hown, hts⟩ (zX3_init l D y q6 H.size) ⟨va_cnB 0 hts gX2_init_X3_init_n43 rfl rfl rfl (hN _ (List.mem_of_getElem? (i := 9) rfl)) (hts (.initialized RX3) (List.mem_of_getElem? (i := 20) rfl)) zdX3_init ⟨Nat.le_of_ble_eq_true rfl, Nat.le_of_ble_eq_true rfl⟩, rfl, (hts (.instanceMethod yX3_init) (List.mem_of_getElem? (i := 62) rfl))⟩ (zz_preE hP hK hD hN hg hS hA) rfl rfl hl.1 rfl (lv_room (Nat.le_of_ble_eq_true rfl)) dX2_init_66 ⟨Nat.le_of_ble_eq_true rfl, Nat.le_of_ble_eq_true rfl⟩) hP hD hS hA (fun a6 H1 locs1 ha hP1 hD1 hS1 => ?_)
  clear hP hD hS
  subst ha
  generalize H1 = H at hP1 hS1 ⊢
  generalize locs1 = locs at hS1 ⊢
  have hP := zz_asP hP1
  have hD := zz_asD hD1
  have hS := hS1
  clear hP1 hD1 hS1
  have hP : va_P D vwCl ([(h0, .inr (2, [.ref (a1 0), .ref (a2 0), .ref q3, .ref (a4 0), .ref (a5 0), .null, .null, .null, .int 0, .int 0, .int 0, .int 0])), (q3, .inl (y 3, 10, .inr (.inr (.inr (.inr (fun _ => none))))))] ++ (((((([] : va_W) ++ wIX0 y a1) ++ wIX8 y a2) ++ wIX6 y (0 : Int32) a4) ++ wIX6 y (1000 : Int32) a5) ++ wIX3 y a6)) H := hP
  have hD : va_D A ([(h0, .inr (2, [.ref (a1 0), .ref (a2 0), .ref q3, .ref (a4 0), .ref (a5 0), .null, .null, .null, .int 0, .int 0, .int 0, .int 0])), (q3, .inl (y 3, 10, .inr (.inr (.inr (.inr (fun _ => none))))))] ++ (((((([] : va_W) ++ wIX0 y a1) ++ wIX8 y a2) ++ wIX6 y (0 : Int32) a4) ++ wIX6 y (1000 : Int32) a5) ++ wIX3 y a6)) := hD
  refine va_putF (D := D) (ci := 2) (v := .ref (a6 0)) (ty := .object "WorksDesk$Changes") (C := RX2) (T := TX2) (N := 12) hx hb hts nX2_init_X2 tyX2 tyX2_ok nmX2 hown hK hP hD hS 0 rfl rfl 5 (by decide) (hts (.fieldLink RX2 44 "WorksDesk$Book" "changes" "LWorksDesk$Changes;") (List.mem_of_getElem? (i := 21) rfl)) (fun _ h9 => h9) rfl hin rfl (tyX2_ok 5 (by decide)) rfl rfl (Nat.le_of_ble_eq_true rfl) dX2_init_69 (fun H locs hP hD hS => ?_)
  have hP : va_P D vwCl ([(h0, .inr (2, [.ref (a1 0), .ref (a2 0), .ref q3, .ref (a4 0), .ref (a5 0), .ref (a6 0), .null, .null, .int 0, .int 0, .int 0, .int 0])), (q3, .inl (y 3, 10, .inr (.inr (.inr (.inr (fun _ => none))))))] ++ (((((([] : va_W) ++ wIX0 y a1) ++ wIX8 y a2) ++ wIX6 y (0 : Int32) a4) ++ wIX6 y (1000 : Int32) a5) ++ wIX3 y a6)) H := hP
  have hD : va_D A ([(h0, .inr (2, [.ref (a1 0), .ref (a2 0), .ref q3, .ref (a4 0), .ref (a5 0), .ref (a6 0), .null, .null, .int 0, .int 0, .int 0, .int 0])), (q3, .inl (y 3, 10, .inr (.inr (.inr (.inr (fun _ => none))))))] ++ (((((([] : va_W) ++ wIX0 y a1) ++ wIX8 y a2) ++ wIX6 y (0 : Int32) a4) ++ wIX6 y (1000 : Int32) a5) ++ wIX3 y a6)) := hD
  refine lv_aload_n hx hb dX2_init_72 rfl (lv_at hl 0 rfl) ?_
  refine va_new (ci := 7) (fs := [.null, .null, .null, .null, .null, .int 0]) (C := RX7) (T := TX7) (N := 6) hx hb hts nX2_init_X7 tyX7 tyX7_ok hown (hts (.classLink RX2 48 RX7) (List.mem_of_getElem? (i := 22) rfl)) (hts (.instantiable RX7 6) (List.mem_of_getElem? (i := 23) rfl)) (hts (.initialized RX7) (List.mem_of_getElem? (i := 24) rfl)) hK hP hD hS hA rfl (fun j hj => by
      match j, hj with
      | 0, _ => rfl
      | 1, _ => rfl
      | 2, _ => rfl
      | 3, _ => rfl
      | 4, _ => rfl
      | 5, _ => rfl) (Nat.le_of_ble_eq_true rfl) (Nat.le_of_ble_eq_true rfl) dX2_init_73 (fun q7 H hP hD hS => ?_)
  refine lv_dup hx hb dX2_init_76 rfl ?_
  refine zz_ctor (va_runIN (As := []) (rest := [.ref q7, .ref h0]) ⟨hx, hb, hml, hown, hts⟩ (zX7_init l D y q7 H.size) ⟨va_cnB 0 hts gX2_init_X7_init_n50 rfl rfl rfl (hN _ (List.mem_of_getElem? (i := 10) rfl)) (hts (.initialized RX7) (List.mem_of_getElem? (i := 24) rfl)) zdX7_init ⟨Nat.le_of_ble_eq_true rfl, Nat.le_of_ble_eq_true rfl⟩, rfl, (hts (.instanceMethod yX7_init) (List.mem_of_getElem? (i := 70) rfl))⟩ (zz_preE hP hK hD hN hg hS hA) rfl rfl hl.1 rfl (lv_room (Nat.le_of_ble_eq_true rfl)) dX2_init_77 ⟨Nat.le_of_ble_eq_true rfl, Nat.le_of_ble_eq_true rfl⟩) hP hD hS hA (fun a7 H1 locs1 ha hP1 hD1 hS1 => ?_)
  clear hP hD hS
  subst ha
  generalize H1 = H at hP1 hS1 ⊢
  generalize locs1 = locs at hS1 ⊢
  have hP := zz_asP hP1
  have hD := zz_asD hD1
  have hS := hS1
  clear hP1 hD1 hS1
  have hP : va_P D vwCl ([(h0, .inr (2, [.ref (a1 0), .ref (a2 0), .ref q3, .ref (a4 0), .ref (a5 0), .ref (a6 0), .null, .null, .int 0, .int 0, .int 0, .int 0])), (q3, .inl (y 3, 10, .inr (.inr (.inr (.inr (fun _ => none))))))] ++ ((((((([] : va_W) ++ wIX0 y a1) ++ wIX8 y a2) ++ wIX6 y (0 : Int32) a4) ++ wIX6 y (1000 : Int32) a5) ++ wIX3 y a6) ++ wIX7 y a7)) H := hP
  have hD : va_D A ([(h0, .inr (2, [.ref (a1 0), .ref (a2 0), .ref q3, .ref (a4 0), .ref (a5 0), .ref (a6 0), .null, .null, .int 0, .int 0, .int 0, .int 0])), (q3, .inl (y 3, 10, .inr (.inr (.inr (.inr (fun _ => none))))))] ++ ((((((([] : va_W) ++ wIX0 y a1) ++ wIX8 y a2) ++ wIX6 y (0 : Int32) a4) ++ wIX6 y (1000 : Int32) a5) ++ wIX3 y a6) ++ wIX7 y a7)) := hD
  refine va_putF (D := D) (ci := 2) (v := .ref (a7 0)) (ty := .object "WorksDesk$SetOffs") (C := RX2) (T := TX2) (N := 12) hx hb hts nX2_init_X2 tyX2 tyX2_ok nmX2 hown hK hP hD hS 0 rfl rfl 6 (by decide) (hts (.fieldLink RX2 51 "WorksDesk$Book" "setOffs" "LWorksDesk$SetOffs;") (List.mem_of_getElem? (i := 25) rfl)) (fun _ h9 => h9) rfl hin rfl (tyX2_ok 6 (by decide)) rfl rfl (Nat.le_of_ble_eq_true rfl) dX2_init_80 (fun H locs hP hD hS => ?_)
  have hP : va_P D vwCl ([(h0, .inr (2, [.ref (a1 0), .ref (a2 0), .ref q3, .ref (a4 0), .ref (a5 0), .ref (a6 0), .ref (a7 0), .null, .int 0, .int 0, .int 0, .int 0])), (q3, .inl (y 3, 10, .inr (.inr (.inr (.inr (fun _ => none))))))] ++ ((((((([] : va_W) ++ wIX0 y a1) ++ wIX8 y a2) ++ wIX6 y (0 : Int32) a4) ++ wIX6 y (1000 : Int32) a5) ++ wIX3 y a6) ++ wIX7 y a7)) H := hP
  have hD : va_D A ([(h0, .inr (2, [.ref (a1 0), .ref (a2 0), .ref q3, .ref (a4 0), .ref (a5 0), .ref (a6 0), .ref (a7 0), .null, .int 0, .int 0, .int 0, .int 0])), (q3, .inl (y 3, 10, .inr (.inr (.inr (.inr (fun _ => none))))))] ++ ((((((([] : va_W) ++ wIX0 y a1) ++ wIX8 y a2) ++ wIX6 y (0 : Int32) a4) ++ wIX6 y (1000 : Int32) a5) ++ wIX3 y a6) ++ wIX7 y a7)) := hD
  refine lv_aload_n hx hb dX2_init_83 rfl (lv_at hl 0 rfl) ?_
  refine lv_bipush (v := (24 : Int32)) hx hb dX2_init_84 (by decide) ?_
  refine zz_newJ hx hb (hts (.arrayClass .long) (List.mem_of_getElem? (i := 26) rfl)) hK hP hD hS hA 24 (by decide) (by decide) (by decide) (Nat.le_of_ble_eq_true rfl) (Nat.le_of_ble_eq_true rfl) dX2_init_86 (fun q8 H hP hD hS => ?_)
  have hP := zz_asP hP
  have hD := zz_asD hD
  have hP : va_P D vwCl ([(h0, .inr (2, [.ref (a1 0), .ref (a2 0), .ref q3, .ref (a4 0), .ref (a5 0), .ref (a6 0), .ref (a7 0), .null, .int 0, .int 0, .int 0, .int 0])), (q3, .inl (y 3, 10, .inr (.inr (.inr (.inr (fun _ => none))))))] ++ (((((((([] : va_W) ++ wIX0 y a1) ++ wIX8 y a2) ++ wIX6 y (0 : Int32) a4) ++ wIX6 y (1000 : Int32) a5) ++ wIX3 y a6) ++ wIX7 y a7) ++ [(q8, .inl (y 1, 24, .inr (.inl (fun _ => 0))))])) H := hP
  have hD : va_D A ([(h0, .inr (2, [.ref (a1 0), .ref (a2 0), .ref q3, .ref (a4 0), .ref (a5 0), .ref (a6 0), .ref (a7 0), .null, .int 0, .int 0, .int 0, .int 0])), (q3, .inl (y 3, 10, .inr (.inr (.inr (.inr (fun _ => none))))))] ++ (((((((([] : va_W) ++ wIX0 y a1) ++ wIX8 y a2) ++ wIX6 y (0 : Int32) a4) ++ wIX6 y (1000 : Int32) a5) ++ wIX3 y a6) ++ wIX7 y a7) ++ [(q8, .inl (y 1, 24, .inr (.inl (fun _ => 0))))])) := hD
  refine va_putF (D := D) (ci := 2) (v := .ref q8) (ty := .array .long) (C := RX2) (T := TX2) (N := 12) hx hb hts nX2_init_X2 tyX2 tyX2_ok nmX2 hown hK hP hD hS 0 rfl rfl 7 (by decide) (hts (.fieldLink RX2 55 "WorksDesk$Book" "paid" "[J") (List.mem_of_getElem? (i := 27) rfl)) (fun _ h9 => h9) rfl hin rfl (tyX2_ok 7 (by decide)) rfl rfl (Nat.le_of_ble_eq_true rfl) dX2_init_88 (fun H locs hP hD hS => ?_)
  have hP : va_P D vwCl ([(h0, .inr (2, [.ref (a1 0), .ref (a2 0), .ref q3, .ref (a4 0), .ref (a5 0), .ref (a6 0), .ref (a7 0), .ref q8, .int 0, .int 0, .int 0, .int 0])), (q3, .inl (y 3, 10, .inr (.inr (.inr (.inr (fun _ => none))))))] ++ (((((((([] : va_W) ++ wIX0 y a1) ++ wIX8 y a2) ++ wIX6 y (0 : Int32) a4) ++ wIX6 y (1000 : Int32) a5) ++ wIX3 y a6) ++ wIX7 y a7) ++ [(q8, .inl (y 1, 24, .inr (.inl (fun _ => 0))))])) H := hP
  have hD : va_D A ([(h0, .inr (2, [.ref (a1 0), .ref (a2 0), .ref q3, .ref (a4 0), .ref (a5 0), .ref (a6 0), .ref (a7 0), .ref q8, .int 0, .int 0, .int 0, .int 0])), (q3, .inl (y 3, 10, .inr (.inr (.inr (.inr (fun _ => none))))))] ++ (((((((([] : va_W) ++ wIX0 y a1) ++ wIX8 y a2) ++ wIX6 y (0 : Int32) a4) ++ wIX6 y (1000 : Int32) a5) ++ wIX3 y a6) ++ wIX7 y a7) ++ [(q8, .inl (y 1, 24, .inr (.inl (fun _ => 0))))])) := hD
  refine lv_aload_n hx hb dX2_init_91 rfl (lv_at hl 0 rfl) ?_
  refine lv_bipush (v := (24 : Int32)) hx hb dX2_init_92 (by decide) ?_
  refine va_put (D := D) (ci := 2) (v := .int (24 : Int32)) (ty := .int) (C := RX2) (T := TX2) (N := 12) hx hb hts nX2_init_X2 tyX2 tyX2_ok nmX2 hown hK hP hD hS 0 rfl rfl 8 (by decide) (hts (.fieldLink RX2 59 "WorksDesk$Book" "handedOver" "I") (List.mem_of_getElem? (i := 28) rfl)) (fun _ h9 => h9) rfl (tyX2_ok 8 (by decide)) rfl rfl (Nat.le_of_ble_eq_true rfl) dX2_init_94 (fun H locs hP hD hS => ?_)
  have hP : va_P D vwCl ([(h0, .inr (2, [.ref (a1 0), .ref (a2 0), .ref q3, .ref (a4 0), .ref (a5 0), .ref (a6 0), .ref (a7 0), .ref q8, .int (24 : Int32), .int 0, .int 0, .int 0])), (q3, .inl (y 3, 10, .inr (.inr (.inr (.inr (fun _ => none))))))] ++ (((((((([] : va_W) ++ wIX0 y a1) ++ wIX8 y a2) ++ wIX6 y (0 : Int32) a4) ++ wIX6 y (1000 : Int32) a5) ++ wIX3 y a6) ++ wIX7 y a7) ++ [(q8, .inl (y 1, 24, .inr (.inl (fun _ => 0))))])) H := hP
  have hD : va_D A ([(h0, .inr (2, [.ref (a1 0), .ref (a2 0), .ref q3, .ref (a4 0), .ref (a5 0), .ref (a6 0), .ref (a7 0), .ref q8, .int (24 : Int32), .int 0, .int 0, .int 0])), (q3, .inl (y 3, 10, .inr (.inr (.inr (.inr (fun _ => none))))))] ++ (((((((([] : va_W) ++ wIX0 y a1) ++ wIX8 y a2) ++ wIX6 y (0 : Int32) a4) ++ wIX6 y (1000 : Int32) a5) ++ wIX3 y a6) ++ wIX7 y a7) ++ [(q8, .inl (y 1, 24, .inr (.inl (fun _ => 0))))])) := hD
  refine lv_aload_n hx hb dX2_init_97 rfl (lv_at hl 0 rfl) ?_
  refine lv_bipush (v := (24 : Int32)) hx hb dX2_init_98 (by decide) ?_
  refine va_put (D := D) (ci := 2) (v := .int (24 : Int32)) (ty := .int) (C := RX2) (T := TX2) (N := 12) hx hb hts nX2_init_X2 tyX2 tyX2_ok nmX2 hown hK hP hD hS 0 rfl rfl 9 (by decide) (hts (.fieldLink RX2 63 "WorksDesk$Book" "closed" "I") (List.mem_of_getElem? (i := 29) rfl)) (fun _ h9 => h9) rfl (tyX2_ok 9 (by decide)) rfl rfl (Nat.le_of_ble_eq_true rfl) dX2_init_100 (fun H locs hP hD hS => ?_)
  have hP : va_P D vwCl ([(h0, .inr (2, [.ref (a1 0), .ref (a2 0), .ref q3, .ref (a4 0), .ref (a5 0), .ref (a6 0), .ref (a7 0), .ref q8, .int (24 : Int32), .int (24 : Int32), .int 0, .int 0])), (q3, .inl (y 3, 10, .inr (.inr (.inr (.inr (fun _ => none))))))] ++ (((((((([] : va_W) ++ wIX0 y a1) ++ wIX8 y a2) ++ wIX6 y (0 : Int32) a4) ++ wIX6 y (1000 : Int32) a5) ++ wIX3 y a6) ++ wIX7 y a7) ++ [(q8, .inl (y 1, 24, .inr (.inl (fun _ => 0))))])) H := hP
  have hD : va_D A ([(h0, .inr (2, [.ref (a1 0), .ref (a2 0), .ref q3, .ref (a4 0), .ref (a5 0), .ref (a6 0), .ref (a7 0), .ref q8, .int (24 : Int32), .int (24 : Int32), .int 0, .int 0])), (q3, .inl (y 3, 10, .inr (.inr (.inr (.inr (fun _ => none))))))] ++ (((((((([] : va_W) ++ wIX0 y a1) ++ wIX8 y a2) ++ wIX6 y (0 : Int32) a4) ++ wIX6 y (1000 : Int32) a5) ++ wIX3 y a6) ++ wIX7 y a7) ++ [(q8, .inl (y 1, 24, .inr (.inl (fun _ => 0))))])) := hD
  refine lv_aload_n hx hb dX2_init_103 rfl (lv_at hl 0 rfl) ?_
  refine lv_bipush (v := (24 : Int32)) hx hb dX2_init_104 (by decide) ?_
  refine va_put (D := D) (ci := 2) (v := .int (24 : Int32)) (ty := .int) (C := RX2) (T := TX2) (N := 12) hx hb hts nX2_init_X2 tyX2 tyX2_ok nmX2 hown hK hP hD hS 0 rfl rfl 10 (by decide) (hts (.fieldLink RX2 66 "WorksDesk$Book" "dueBy" "I") (List.mem_of_getElem? (i := 30) rfl)) (fun _ h9 => h9) rfl (tyX2_ok 10 (by decide)) rfl rfl (Nat.le_of_ble_eq_true rfl) dX2_init_106 (fun H locs hP hD hS => ?_)
  have hP : va_P D vwCl ([(h0, .inr (2, [.ref (a1 0), .ref (a2 0), .ref q3, .ref (a4 0), .ref (a5 0), .ref (a6 0), .ref (a7 0), .ref q8, .int (24 : Int32), .int (24 : Int32), .int (24 : Int32), .int 0])), (q3, .inl (y 3, 10, .inr (.inr (.inr (.inr (fun _ => none))))))] ++ (((((((([] : va_W) ++ wIX0 y a1) ++ wIX8 y a2) ++ wIX6 y (0 : Int32) a4) ++ wIX6 y (1000 : Int32) a5) ++ wIX3 y a6) ++ wIX7 y a7) ++ [(q8, .inl (y 1, 24, .inr (.inl (fun _ => 0))))])) H := hP
  have hD : va_D A ([(h0, .inr (2, [.ref (a1 0), .ref (a2 0), .ref q3, .ref (a4 0), .ref (a5 0), .ref (a6 0), .ref (a7 0), .ref q8, .int (24 : Int32), .int (24 : Int32), .int (24 : Int32), .int 0])), (q3, .inl (y 3, 10, .inr (.inr (.inr (.inr (fun _ => none))))))] ++ (((((((([] : va_W) ++ wIX0 y a1) ++ wIX8 y a2) ++ wIX6 y (0 : Int32) a4) ++ wIX6 y (1000 : Int32) a5) ++ wIX3 y a6) ++ wIX7 y a7) ++ [(q8, .inl (y 1, 24, .inr (.inl (fun _ => 0))))])) := hD
  refine lv_aload_n hx hb dX2_init_109 rfl (lv_at hl 0 rfl) ?_
  refine lv_iconst (v := (0 : Int32)) hx hb dX2_init_110 (by decide) ?_
  refine va_put (D := D) (ci := 2) (v := .int (0 : Int32)) (ty := .int) (C := RX2) (T := TX2) (N := 12) hx hb hts nX2_init_X2 tyX2 tyX2_ok nmX2 hown hK hP hD hS 0 rfl rfl 11 (by decide) (hts (.fieldLink RX2 69 "WorksDesk$Book" "granted" "I") (List.mem_of_getElem? (i := 31) rfl)) (fun _ h9 => h9) rfl (tyX2_ok 11 (by decide)) rfl rfl (Nat.le_of_ble_eq_true rfl) dX2_init_111 (fun H locs hP hD hS => ?_)
  have hP : va_P D vwCl ([(h0, .inr (2, [.ref (a1 0), .ref (a2 0), .ref q3, .ref (a4 0), .ref (a5 0), .ref (a6 0), .ref (a7 0), .ref q8, .int (24 : Int32), .int (24 : Int32), .int (24 : Int32), .int (0 : Int32)])), (q3, .inl (y 3, 10, .inr (.inr (.inr (.inr (fun _ => none))))))] ++ (((((((([] : va_W) ++ wIX0 y a1) ++ wIX8 y a2) ++ wIX6 y (0 : Int32) a4) ++ wIX6 y (1000 : Int32) a5) ++ wIX3 y a6) ++ wIX7 y a7) ++ [(q8, .inl (y 1, 24, .inr (.inl (fun _ => 0))))])) H := hP
  have hD : va_D A ([(h0, .inr (2, [.ref (a1 0), .ref (a2 0), .ref q3, .ref (a4 0), .ref (a5 0), .ref (a6 0), .ref (a7 0), .ref q8, .int (24 : Int32), .int (24 : Int32), .int (24 : Int32), .int (0 : Int32)])), (q3, .inl (y 3, 10, .inr (.inr (.inr (.inr (fun _ => none))))))] ++ (((((((([] : va_W) ++ wIX0 y a1) ++ wIX8 y a2) ++ wIX6 y (0 : Int32) a4) ++ wIX6 y (1000 : Int32) a5) ++ wIX3 y a6) ++ wIX7 y a7) ++ [(q8, .inl (y 1, 24, .inr (.inl (fun _ => 0))))])) := hD
  refine lv_iconst (v := (0 : Int32)) hx hb dX2_init_114 (by decide) ?_
  refine lv_istore_n (lv' := [(1, .int (0 : Int32)), (0, .ref h0)]) hx hb dX2_init_115 rfl hl (by decide) rfl (fun ls hl => ?_)
  refine lv_iload_n hx hb dX2_init_116 rfl (lv_at hl 0 rfl) ?_
  refine lv_bipush (v := (10 : Int32)) hx hb dX2_init_117 (by decide) ?_
  refine lv_icmp_ge (tgt := 142) hx hb dX2_init_119 (by decide) (fun c9 => absurd c9 (by decide)) (fun _ => ?_)
  refine lv_aload_n hx hb dX2_init_122 rfl (lv_at hl 1 rfl) ?_
  refine va_get (D := D) (ci := 2) (v := .ref q3) (C := RX2) (T := TX2) (N := 12) hx hb hts nX2_init_X2 hown hK hP 0 rfl rfl 2 (by decide) (hts (.fieldLink RX2 27 "WorksDesk$Book" "measured" "[LWorksDesk$Series;") (List.mem_of_getElem? (i := 13) rfl)) (fun _ h9 => h9) rfl dX2_init_123 ?_
  refine lv_iload_n hx hb dX2_init_126 rfl (lv_at hl 0 rfl) ?_
  refine va_new (ci := 6) (fs := [.null, .null, .int 0]) (C := RX6) (T := TX6) (N := 3) hx hb hts nX2_init_X6 tyX6 tyX6_ok hown (hts (.classLink RX2 25 RX6) (List.mem_of_getElem? (i := 12) rfl)) (hts (.instantiable RX6 3) (List.mem_of_getElem? (i := 14) rfl)) (hts (.initialized RX6) (List.mem_of_getElem? (i := 15) rfl)) hK hP hD hS hA rfl (fun j hj => by
      match j, hj with
      | 0, _ => rfl
      | 1, _ => rfl
      | 2, _ => rfl) (Nat.le_of_ble_eq_true rfl) (Nat.le_of_ble_eq_true rfl) dX2_init_127 (fun q9 H hP hD hS => ?_)
  refine lv_dup hx hb dX2_init_130 rfl ?_
  refine lv_iconst (v := (0 : Int32)) hx hb dX2_init_131 (by decide) ?_
  refine zz_ctor (va_runI (As := [.int (0 : Int32)]) (rest := [.ref q9, .int (0 : Int32), .ref q3]) ⟨hx, hb, hml, hown, hts⟩ (zX6_init l D y q9 H.size (0 : Int32)) (cwI 1 hts gX2_init_X6_init rfl rfl rfl (hts (.initialized RX6) (List.mem_of_getElem? (i := 15) rfl)) (hts (.methodLink RX2 31 yX6_init) (List.mem_of_getElem? (i := 51) rfl)) (hts (.instanceMethod yX6_init) (List.mem_of_getElem? (i := 52) rfl)) rfl zdX6_init ⟨Nat.le_of_ble_eq_true rfl, Nat.le_of_ble_eq_true rfl⟩) (zz_preE hP hK hD hN hg hS hA) rfl rfl hl.1 rfl (lv_room (Nat.le_of_ble_eq_true rfl)) dX2_init_132 ⟨Nat.le_of_ble_eq_true rfl, Nat.le_of_ble_eq_true rfl⟩) hP hD hS hA (fun a9 H1 locs1 ha hP1 hD1 hS1 => ?_)
  clear hP hD hS
  subst ha
  generalize H1 = H at hP1 hS1 ⊢
  generalize locs1 = locs at hS1 ⊢
  have hP := zz_asP hP1
  have hD := zz_asD hD1
  have hS := hS1
  clear hP1 hD1 hS1
  have hP : va_P D vwCl ([(h0, .inr (2, [.ref (a1 0), .ref (a2 0), .ref q3, .ref (a4 0), .ref (a5 0), .ref (a6 0), .ref (a7 0), .ref q8, .int (24 : Int32), .int (24 : Int32), .int (24 : Int32), .int (0 : Int32)])), (q3, .inl (y 3, 10, .inr (.inr (.inr (.inr (fun _ => none))))))] ++ ((((((((([] : va_W) ++ wIX0 y a1) ++ wIX8 y a2) ++ wIX6 y (0 : Int32) a4) ++ wIX6 y (1000 : Int32) a5) ++ wIX3 y a6) ++ wIX7 y a7) ++ [(q8, .inl (y 1, 24, .inr (.inl (fun _ => 0))))]) ++ wIX6 y (0 : Int32) a9)) H := hP
  have hD : va_D A ([(h0, .inr (2, [.ref (a1 0), .ref (a2 0), .ref q3, .ref (a4 0), .ref (a5 0), .ref (a6 0), .ref (a7 0), .ref q8, .int (24 : Int32), .int (24 : Int32), .int (24 : Int32), .int (0 : Int32)])), (q3, .inl (y 3, 10, .inr (.inr (.inr (.inr (fun _ => none))))))] ++ ((((((((([] : va_W) ++ wIX0 y a1) ++ wIX8 y a2) ++ wIX6 y (0 : Int32) a4) ++ wIX6 y (1000 : Int32) a5) ++ wIX3 y a6) ++ wIX7 y a7) ++ [(q8, .inl (y 1, 24, .inr (.inl (fun _ => 0))))]) ++ wIX6 y (0 : Int32) a9)) := hD
  refine va_astq (r := (RX6, TX6, 3)) hx hb hK hP hD hS 1 3 _ 6 rfl rfl (zz_inR (zz_at_end (q := (a9 0, .inr (6, [.ref (a9 1), .ref (a9 2), .int (0 : Int32)]))))) rfl (zq_lit 0 10 (by decide) (by decide)) dX2_init_135 (fun H locs hP hD hS => ?_)
  have hP : va_P D vwCl ([(h0, .inr (2, [.ref (a1 0), .ref (a2 0), .ref q3, .ref (a4 0), .ref (a5 0), .ref (a6 0), .ref (a7 0), .ref q8, .int (24 : Int32), .int (24 : Int32), .int (24 : Int32), .int (0 : Int32)])), (q3, .inl (y 3, 10, .inr (.inr (.inr (.inr (va_up (fun _ => none) 0 (some (a9 0))))))))] ++ ((((((((([] : va_W) ++ wIX0 y a1) ++ wIX8 y a2) ++ wIX6 y (0 : Int32) a4) ++ wIX6 y (1000 : Int32) a5) ++ wIX3 y a6) ++ wIX7 y a7) ++ [(q8, .inl (y 1, 24, .inr (.inl (fun _ => 0))))]) ++ wIX6 y (0 : Int32) a9)) H := hP
  have hD : va_D A ([(h0, .inr (2, [.ref (a1 0), .ref (a2 0), .ref q3, .ref (a4 0), .ref (a5 0), .ref (a6 0), .ref (a7 0), .ref q8, .int (24 : Int32), .int (24 : Int32), .int (24 : Int32), .int (0 : Int32)])), (q3, .inl (y 3, 10, .inr (.inr (.inr (.inr (va_up (fun _ => none) 0 (some (a9 0))))))))] ++ ((((((((([] : va_W) ++ wIX0 y a1) ++ wIX8 y a2) ++ wIX6 y (0 : Int32) a4) ++ wIX6 y (1000 : Int32) a5) ++ wIX3 y a6) ++ wIX7 y a7) ++ [(q8, .inl (y 1, 24, .inr (.inl (fun _ => 0))))]) ++ wIX6 y (0 : Int32) a9)) := hD
  refine lv_iinc (v := (1 : Int32)) (lv' := [(1, .int (1 : Int32)), (0, .ref h0)]) hx hb dX2_init_136 hl (k := 0) rfl (by decide) (by decide) rfl (fun ls hl => ?_)
  refine lv_goto (tgt := 116) hx hb dX2_init_139 (by decide) ?_
  refine lv_iload_n hx hb dX2_init_116 rfl (lv_at hl 0 rfl) ?_
  refine lv_bipush (v := (10 : Int32)) hx hb dX2_init_117 (by decide) ?_
  refine lv_icmp_ge (tgt := 142) hx hb dX2_init_119 (by decide) (fun c9 => absurd c9 (by decide)) (fun _ => ?_)
  refine lv_aload_n hx hb dX2_init_122 rfl (lv_at hl 1 rfl) ?_
  refine va_get (D := D) (ci := 2) (v := .ref q3) (C := RX2) (T := TX2) (N := 12) hx hb hts nX2_init_X2 hown hK hP 0 rfl rfl 2 (by decide) (hts (.fieldLink RX2 27 "WorksDesk$Book" "measured" "[LWorksDesk$Series;") (List.mem_of_getElem? (i := 13) rfl)) (fun _ h9 => h9) rfl dX2_init_123 ?_
  refine lv_iload_n hx hb dX2_init_126 rfl (lv_at hl 0 rfl) ?_
  refine va_new (ci := 6) (fs := [.null, .null, .int 0]) (C := RX6) (T := TX6) (N := 3) hx hb hts nX2_init_X6 tyX6 tyX6_ok hown (hts (.classLink RX2 25 RX6) (List.mem_of_getElem? (i := 12) rfl)) (hts (.instantiable RX6 3) (List.mem_of_getElem? (i := 14) rfl)) (hts (.initialized RX6) (List.mem_of_getElem? (i := 15) rfl)) hK hP hD hS hA rfl (fun j hj => by
      match j, hj with
      | 0, _ => rfl
      | 1, _ => rfl
      | 2, _ => rfl) (Nat.le_of_ble_eq_true rfl) (Nat.le_of_ble_eq_true rfl) dX2_init_127 (fun q10 H hP hD hS => ?_)
  refine lv_dup hx hb dX2_init_130 rfl ?_
  refine lv_iconst (v := (0 : Int32)) hx hb dX2_init_131 (by decide) ?_
  refine zz_ctor (va_runI (As := [.int (0 : Int32)]) (rest := [.ref q10, .int (1 : Int32), .ref q3]) ⟨hx, hb, hml, hown, hts⟩ (zX6_init l D y q10 H.size (0 : Int32)) (cwI 1 hts gX2_init_X6_init rfl rfl rfl (hts (.initialized RX6) (List.mem_of_getElem? (i := 15) rfl)) (hts (.methodLink RX2 31 yX6_init) (List.mem_of_getElem? (i := 51) rfl)) (hts (.instanceMethod yX6_init) (List.mem_of_getElem? (i := 52) rfl)) rfl zdX6_init ⟨Nat.le_of_ble_eq_true rfl, Nat.le_of_ble_eq_true rfl⟩) (zz_preE hP hK hD hN hg hS hA) rfl rfl hl.1 rfl (lv_room (Nat.le_of_ble_eq_true rfl)) dX2_init_132 ⟨Nat.le_of_ble_eq_true rfl, Nat.le_of_ble_eq_true rfl⟩) hP hD hS hA (fun a10 H1 locs1 ha hP1 hD1 hS1 => ?_)
  clear hP hD hS
  subst ha
  generalize H1 = H at hP1 hS1 ⊢
  generalize locs1 = locs at hS1 ⊢
  have hP := zz_asP hP1
  have hD := zz_asD hD1
  have hS := hS1
  clear hP1 hD1 hS1
  have hP : va_P D vwCl ([(h0, .inr (2, [.ref (a1 0), .ref (a2 0), .ref q3, .ref (a4 0), .ref (a5 0), .ref (a6 0), .ref (a7 0), .ref q8, .int (24 : Int32), .int (24 : Int32), .int (24 : Int32), .int (0 : Int32)])), (q3, .inl (y 3, 10, .inr (.inr (.inr (.inr (va_up (fun _ => none) 0 (some (a9 0))))))))] ++ (((((((((([] : va_W) ++ wIX0 y a1) ++ wIX8 y a2) ++ wIX6 y (0 : Int32) a4) ++ wIX6 y (1000 : Int32) a5) ++ wIX3 y a6) ++ wIX7 y a7) ++ [(q8, .inl (y 1, 24, .inr (.inl (fun _ => 0))))]) ++ wIX6 y (0 : Int32) a9) ++ wIX6 y (0 : Int32) a10)) H := hP
  have hD : va_D A ([(h0, .inr (2, [.ref (a1 0), .ref (a2 0), .ref q3, .ref (a4 0), .ref (a5 0), .ref (a6 0), .ref (a7 0), .ref q8, .int (24 : Int32), .int (24 : Int32), .int (24 : Int32), .int (0 : Int32)])), (q3, .inl (y 3, 10, .inr (.inr (.inr (.inr (va_up (fun _ => none) 0 (some (a9 0))))))))] ++ (((((((((([] : va_W) ++ wIX0 y a1) ++ wIX8 y a2) ++ wIX6 y (0 : Int32) a4) ++ wIX6 y (1000 : Int32) a5) ++ wIX3 y a6) ++ wIX7 y a7) ++ [(q8, .inl (y 1, 24, .inr (.inl (fun _ => 0))))]) ++ wIX6 y (0 : Int32) a9) ++ wIX6 y (0 : Int32) a10)) := hD
  refine va_astq (r := (RX6, TX6, 3)) hx hb hK hP hD hS 1 3 _ 6 rfl rfl (zz_inR (zz_at_end (q := (a10 0, .inr (6, [.ref (a10 1), .ref (a10 2), .int (0 : Int32)]))))) rfl (zq_lit 1 10 (by decide) (by decide)) dX2_init_135 (fun H locs hP hD hS => ?_)
  have hP : va_P D vwCl ([(h0, .inr (2, [.ref (a1 0), .ref (a2 0), .ref q3, .ref (a4 0), .ref (a5 0), .ref (a6 0), .ref (a7 0), .ref q8, .int (24 : Int32), .int (24 : Int32), .int (24 : Int32), .int (0 : Int32)])), (q3, .inl (y 3, 10, .inr (.inr (.inr (.inr (va_up (va_up (fun _ => none) 0 (some (a9 0))) 1 (some (a10 0))))))))] ++ (((((((((([] : va_W) ++ wIX0 y a1) ++ wIX8 y a2) ++ wIX6 y (0 : Int32) a4) ++ wIX6 y (1000 : Int32) a5) ++ wIX3 y a6) ++ wIX7 y a7) ++ [(q8, .inl (y 1, 24, .inr (.inl (fun _ => 0))))]) ++ wIX6 y (0 : Int32) a9) ++ wIX6 y (0 : Int32) a10)) H := hP
  have hD : va_D A ([(h0, .inr (2, [.ref (a1 0), .ref (a2 0), .ref q3, .ref (a4 0), .ref (a5 0), .ref (a6 0), .ref (a7 0), .ref q8, .int (24 : Int32), .int (24 : Int32), .int (24 : Int32), .int (0 : Int32)])), (q3, .inl (y 3, 10, .inr (.inr (.inr (.inr (va_up (va_up (fun _ => none) 0 (some (a9 0))) 1 (some (a10 0))))))))] ++ (((((((((([] : va_W) ++ wIX0 y a1) ++ wIX8 y a2) ++ wIX6 y (0 : Int32) a4) ++ wIX6 y (1000 : Int32) a5) ++ wIX3 y a6) ++ wIX7 y a7) ++ [(q8, .inl (y 1, 24, .inr (.inl (fun _ => 0))))]) ++ wIX6 y (0 : Int32) a9) ++ wIX6 y (0 : Int32) a10)) := hD
  refine lv_iinc (v := (2 : Int32)) (lv' := [(1, .int (2 : Int32)), (0, .ref h0)]) hx hb dX2_init_136 hl (k := 0) rfl (by decide) (by decide) rfl (fun ls hl => ?_)
  refine lv_goto (tgt := 116) hx hb dX2_init_139 (by decide) ?_
  refine lv_iload_n hx hb dX2_init_116 rfl (lv_at hl 0 rfl) ?_
  refine lv_bipush (v := (10 : Int32)) hx hb dX2_init_117 (by decide) ?_
  refine lv_icmp_ge (tgt := 142) hx hb dX2_init_119 (by decide) (fun c9 => absurd c9 (by decide)) (fun _ => ?_)
  refine lv_aload_n hx hb dX2_init_122 rfl (lv_at hl 1 rfl) ?_
  refine va_get (D := D) (ci := 2) (v := .ref q3) (C := RX2) (T := TX2) (N := 12) hx hb hts nX2_init_X2 hown hK hP 0 rfl rfl 2 (by decide) (hts (.fieldLink RX2 27 "WorksDesk$Book" "measured" "[LWorksDesk$Series;") (List.mem_of_getElem? (i := 13) rfl)) (fun _ h9 => h9) rfl dX2_init_123 ?_
  refine lv_iload_n hx hb dX2_init_126 rfl (lv_at hl 0 rfl) ?_
  refine va_new (ci := 6) (fs := [.null, .null, .int 0]) (C := RX6) (T := TX6) (N := 3) hx hb hts nX2_init_X6 tyX6 tyX6_ok hown (hts (.classLink RX2 25 RX6) (List.mem_of_getElem? (i := 12) rfl)) (hts (.instantiable RX6 3) (List.mem_of_getElem? (i := 14) rfl)) (hts (.initialized RX6) (List.mem_of_getElem? (i := 15) rfl)) hK hP hD hS hA rfl (fun j hj => by
      match j, hj with
      | 0, _ => rfl
      | 1, _ => rfl
      | 2, _ => rfl) (Nat.le_of_ble_eq_true rfl) (Nat.le_of_ble_eq_true rfl) dX2_init_127 (fun q11 H hP hD hS => ?_)
  refine lv_dup hx hb dX2_init_130 rfl ?_
  refine lv_iconst (v := (0 : Int32)) hx hb dX2_init_131 (by decide) ?_
  refine zz_ctor (va_runI (As := [.int (0 : Int32)]) (rest := [.ref q11, .int (2 : Int32), .ref q3]) ⟨hx, hb, hml, hown, hts⟩ (zX6_init l D y q11 H.size (0 : Int32)) (cwI 1 hts gX2_init_X6_init rfl rfl rfl (hts (.initialized RX6) (List.mem_of_getElem? (i := 15) rfl)) (hts (.methodLink RX2 31 yX6_init) (List.mem_of_getElem? (i := 51) rfl)) (hts (.instanceMethod yX6_init) (List.mem_of_getElem? (i := 52) rfl)) rfl zdX6_init ⟨Nat.le_of_ble_eq_true rfl, Nat.le_of_ble_eq_true rfl⟩) (zz_preE hP hK hD hN hg hS hA) rfl rfl hl.1 rfl (lv_room (Nat.le_of_ble_eq_true rfl)) dX2_init_132 ⟨Nat.le_of_ble_eq_true rfl, Nat.le_of_ble_eq_true rfl⟩) hP hD hS hA (fun a11 H1 locs1 ha hP1 hD1 hS1 => ?_)
  clear hP hD hS
  subst ha
  generalize H1 = H at hP1 hS1 ⊢
  generalize locs1 = locs at hS1 ⊢
  have hP := zz_asP hP1
  have hD := zz_asD hD1
  have hS := hS1
  clear hP1 hD1 hS1
  have hP : va_P D vwCl ([(h0, .inr (2, [.ref (a1 0), .ref (a2 0), .ref q3, .ref (a4 0), .ref (a5 0), .ref (a6 0), .ref (a7 0), .ref q8, .int (24 : Int32), .int (24 : Int32), .int (24 : Int32), .int (0 : Int32)])), (q3, .inl (y 3, 10, .inr (.inr (.inr (.inr (va_up (va_up (fun _ => none) 0 (some (a9 0))) 1 (some (a10 0))))))))] ++ ((((((((((([] : va_W) ++ wIX0 y a1) ++ wIX8 y a2) ++ wIX6 y (0 : Int32) a4) ++ wIX6 y (1000 : Int32) a5) ++ wIX3 y a6) ++ wIX7 y a7) ++ [(q8, .inl (y 1, 24, .inr (.inl (fun _ => 0))))]) ++ wIX6 y (0 : Int32) a9) ++ wIX6 y (0 : Int32) a10) ++ wIX6 y (0 : Int32) a11)) H := hP
  have hD : va_D A ([(h0, .inr (2, [.ref (a1 0), .ref (a2 0), .ref q3, .ref (a4 0), .ref (a5 0), .ref (a6 0), .ref (a7 0), .ref q8, .int (24 : Int32), .int (24 : Int32), .int (24 : Int32), .int (0 : Int32)])), (q3, .inl (y 3, 10, .inr (.inr (.inr (.inr (va_up (va_up (fun _ => none) 0 (some (a9 0))) 1 (some (a10 0))))))))] ++ ((((((((((([] : va_W) ++ wIX0 y a1) ++ wIX8 y a2) ++ wIX6 y (0 : Int32) a4) ++ wIX6 y (1000 : Int32) a5) ++ wIX3 y a6) ++ wIX7 y a7) ++ [(q8, .inl (y 1, 24, .inr (.inl (fun _ => 0))))]) ++ wIX6 y (0 : Int32) a9) ++ wIX6 y (0 : Int32) a10) ++ wIX6 y (0 : Int32) a11)) := hD
  refine va_astq (r := (RX6, TX6, 3)) hx hb hK hP hD hS 1 3 _ 6 rfl rfl (zz_inR (zz_at_end (q := (a11 0, .inr (6, [.ref (a11 1), .ref (a11 2), .int (0 : Int32)]))))) rfl (zq_lit 2 10 (by decide) (by decide)) dX2_init_135 (fun H locs hP hD hS => ?_)
  have hP : va_P D vwCl ([(h0, .inr (2, [.ref (a1 0), .ref (a2 0), .ref q3, .ref (a4 0), .ref (a5 0), .ref (a6 0), .ref (a7 0), .ref q8, .int (24 : Int32), .int (24 : Int32), .int (24 : Int32), .int (0 : Int32)])), (q3, .inl (y 3, 10, .inr (.inr (.inr (.inr (va_up (va_up (va_up (fun _ => none) 0 (some (a9 0))) 1 (some (a10 0))) 2 (some (a11 0))))))))] ++ ((((((((((([] : va_W) ++ wIX0 y a1) ++ wIX8 y a2) ++ wIX6 y (0 : Int32) a4) ++ wIX6 y (1000 : Int32) a5) ++ wIX3 y a6) ++ wIX7 y a7) ++ [(q8, .inl (y 1, 24, .inr (.inl (fun _ => 0))))]) ++ wIX6 y (0 : Int32) a9) ++ wIX6 y (0 : Int32) a10) ++ wIX6 y (0 : Int32) a11)) H := hP
  have hD : va_D A ([(h0, .inr (2, [.ref (a1 0), .ref (a2 0), .ref q3, .ref (a4 0), .ref (a5 0), .ref (a6 0), .ref (a7 0), .ref q8, .int (24 : Int32), .int (24 : Int32), .int (24 : Int32), .int (0 : Int32)])), (q3, .inl (y 3, 10, .inr (.inr (.inr (.inr (va_up (va_up (va_up (fun _ => none) 0 (some (a9 0))) 1 (some (a10 0))) 2 (some (a11 0))))))))] ++ ((((((((((([] : va_W) ++ wIX0 y a1) ++ wIX8 y a2) ++ wIX6 y (0 : Int32) a4) ++ wIX6 y (1000 : Int32) a5) ++ wIX3 y a6) ++ wIX7 y a7) ++ [(q8, .inl (y 1, 24, .inr (.inl (fun _ => 0))))]) ++ wIX6 y (0 : Int32) a9) ++ wIX6 y (0 : Int32) a10) ++ wIX6 y (0 : Int32) a11)) := hD
  refine lv_iinc (v := (3 : Int32)) (lv' := [(1, .int (3 : Int32)), (0, .ref h0)]) hx hb dX2_init_136 hl (k := 0) rfl (by decide) (by decide) rfl (fun ls hl => ?_)
  refine lv_goto (tgt := 116) hx hb dX2_init_139 (by decide) ?_
  refine lv_iload_n hx hb dX2_init_116 rfl (lv_at hl 0 rfl) ?_
  refine lv_bipush (v := (10 : Int32)) hx hb dX2_init_117 (by decide) ?_
  refine lv_icmp_ge (tgt := 142) hx hb dX2_init_119 (by decide) (fun c9 => absurd c9 (by decide)) (fun _ => ?_)
  refine lv_aload_n hx hb dX2_init_122 rfl (lv_at hl 1 rfl) ?_
  refine va_get (D := D) (ci := 2) (v := .ref q3) (C := RX2) (T := TX2) (N := 12) hx hb hts nX2_init_X2 hown hK hP 0 rfl rfl 2 (by decide) (hts (.fieldLink RX2 27 "WorksDesk$Book" "measured" "[LWorksDesk$Series;") (List.mem_of_getElem? (i := 13) rfl)) (fun _ h9 => h9) rfl dX2_init_123 ?_
  refine lv_iload_n hx hb dX2_init_126 rfl (lv_at hl 0 rfl) ?_
  refine va_new (ci := 6) (fs := [.null, .null, .int 0]) (C := RX6) (T := TX6) (N := 3) hx hb hts nX2_init_X6 tyX6 tyX6_ok hown (hts (.classLink RX2 25 RX6) (List.mem_of_getElem? (i := 12) rfl)) (hts (.instantiable RX6 3) (List.mem_of_getElem? (i := 14) rfl)) (hts (.initialized RX6) (List.mem_of_getElem? (i := 15) rfl)) hK hP hD hS hA rfl (fun j hj => by
      match j, hj with
      | 0, _ => rfl
      | 1, _ => rfl
      | 2, _ => rfl) (Nat.le_of_ble_eq_true rfl) (Nat.le_of_ble_eq_true rfl) dX2_init_127 (fun q12 H hP hD hS => ?_)
  refine lv_dup hx hb dX2_init_130 rfl ?_
  refine lv_iconst (v := (0 : Int32)) hx hb dX2_init_131 (by decide) ?_
  refine zz_ctor (va_runI (As := [.int (0 : Int32)]) (rest := [.ref q12, .int (3 : Int32), .ref q3]) ⟨hx, hb, hml, hown, hts⟩ (zX6_init l D y q12 H.size (0 : Int32)) (cwI 1 hts gX2_init_X6_init rfl rfl rfl (hts (.initialized RX6) (List.mem_of_getElem? (i := 15) rfl)) (hts (.methodLink RX2 31 yX6_init) (List.mem_of_getElem? (i := 51) rfl)) (hts (.instanceMethod yX6_init) (List.mem_of_getElem? (i := 52) rfl)) rfl zdX6_init ⟨Nat.le_of_ble_eq_true rfl, Nat.le_of_ble_eq_true rfl⟩) (zz_preE hP hK hD hN hg hS hA) rfl rfl hl.1 rfl (lv_room (Nat.le_of_ble_eq_true rfl)) dX2_init_132 ⟨Nat.le_of_ble_eq_true rfl, Nat.le_of_ble_eq_true rfl⟩) hP hD hS hA (fun a12 H1 locs1 ha hP1 hD1 hS1 => ?_)
  clear hP hD hS
  subst ha
  generalize H1 = H at hP1 hS1 ⊢
  generalize locs1 = locs at hS1 ⊢
  have hP := zz_asP hP1
  have hD := zz_asD hD1
  have hS := hS1
  clear hP1 hD1 hS1
  have hP : va_P D vwCl ([(h0, .inr (2, [.ref (a1 0), .ref (a2 0), .ref q3, .ref (a4 0), .ref (a5 0), .ref (a6 0), .ref (a7 0), .ref q8, .int (24 : Int32), .int (24 : Int32), .int (24 : Int32), .int (0 : Int32)])), (q3, .inl (y 3, 10, .inr (.inr (.inr (.inr (va_up (va_up (va_up (fun _ => none) 0 (some (a9 0))) 1 (some (a10 0))) 2 (some (a11 0))))))))] ++ (((((((((((([] : va_W) ++ wIX0 y a1) ++ wIX8 y a2) ++ wIX6 y (0 : Int32) a4) ++ wIX6 y (1000 : Int32) a5) ++ wIX3 y a6) ++ wIX7 y a7) ++ [(q8, .inl (y 1, 24, .inr (.inl (fun _ => 0))))]) ++ wIX6 y (0 : Int32) a9) ++ wIX6 y (0 : Int32) a10) ++ wIX6 y (0 : Int32) a11) ++ wIX6 y (0 : Int32) a12)) H := hP
  have hD : va_D A ([(h0, .inr (2, [.ref (a1 0), .ref (a2 0), .ref q3, .ref (a4 0), .ref (a5 0), .ref (a6 0), .ref (a7 0), .ref q8, .int (24 : Int32), .int (24 : Int32), .int (24 : Int32), .int (0 : Int32)])), (q3, .inl (y 3, 10, .inr (.inr (.inr (.inr (va_up (va_up (va_up (fun _ => none) 0 (some (a9 0))) 1 (some (a10 0))) 2 (some (a11 0))))))))] ++ (((((((((((([] : va_W) ++ wIX0 y a1) ++ wIX8 y a2) ++ wIX6 y (0 : Int32) a4) ++ wIX6 y (1000 : Int32) a5) ++ wIX3 y a6) ++ wIX7 y a7) ++ [(q8, .inl (y 1, 24, .inr (.inl (fun _ => 0))))]) ++ wIX6 y (0 : Int32) a9) ++ wIX6 y (0 : Int32) a10) ++ wIX6 y (0 : Int32) a11) ++ wIX6 y (0 : Int32) a12)) := hD
  refine va_astq (r := (RX6, TX6, 3)) hx hb hK hP hD hS 1 3 _ 6 rfl rfl (zz_inR (zz_at_end (q := (a12 0, .inr (6, [.ref (a12 1), .ref (a12 2), .int (0 : Int32)]))))) rfl (zq_lit 3 10 (by decide) (by decide)) dX2_init_135 (fun H locs hP hD hS => ?_)
  have hP : va_P D vwCl ([(h0, .inr (2, [.ref (a1 0), .ref (a2 0), .ref q3, .ref (a4 0), .ref (a5 0), .ref (a6 0), .ref (a7 0), .ref q8, .int (24 : Int32), .int (24 : Int32), .int (24 : Int32), .int (0 : Int32)])), (q3, .inl (y 3, 10, .inr (.inr (.inr (.inr (va_up (va_up (va_up (va_up (fun _ => none) 0 (some (a9 0))) 1 (some (a10 0))) 2 (some (a11 0))) 3 (some (a12 0))))))))] ++ (((((((((((([] : va_W) ++ wIX0 y a1) ++ wIX8 y a2) ++ wIX6 y (0 : Int32) a4) ++ wIX6 y (1000 : Int32) a5) ++ wIX3 y a6) ++ wIX7 y a7) ++ [(q8, .inl (y 1, 24, .inr (.inl (fun _ => 0))))]) ++ wIX6 y (0 : Int32) a9) ++ wIX6 y (0 : Int32) a10) ++ wIX6 y (0 : Int32) a11) ++ wIX6 y (0 : Int32) a12)) H := hP
  have hD : va_D A ([(h0, .inr (2, [.ref (a1 0), .ref (a2 0), .ref q3, .ref (a4 0), .ref (a5 0), .ref (a6 0), .ref (a7 0), .ref q8, .int (24 : Int32), .int (24 : Int32), .int (24 : Int32), .int (0 : Int32)])), (q3, .inl (y 3, 10, .inr (.inr (.inr (.inr (va_up (va_up (va_up (va_up (fun _ => none) 0 (some (a9 0))) 1 (some (a10 0))) 2 (some (a11 0))) 3 (some (a12 0))))))))] ++ (((((((((((([] : va_W) ++ wIX0 y a1) ++ wIX8 y a2) ++ wIX6 y (0 : Int32) a4) ++ wIX6 y (1000 : Int32) a5) ++ wIX3 y a6) ++ wIX7 y a7) ++ [(q8, .inl (y 1, 24, .inr (.inl (fun _ => 0))))]) ++ wIX6 y (0 : Int32) a9) ++ wIX6 y (0 : Int32) a10) ++ wIX6 y (0 : Int32) a11) ++ wIX6 y (0 : Int32) a12)) := hD
  refine lv_iinc (v := (4 : Int32)) (lv' := [(1, .int (4 : Int32)), (0, .ref h0)]) hx hb dX2_init_136 hl (k := 0) rfl (by decide) (by decide) rfl (fun ls hl => ?_)
  refine lv_goto (tgt := 116) hx hb dX2_init_139 (by decide) ?_
  refine lv_iload_n hx hb dX2_init_116 rfl (lv_at hl 0 rfl) ?_
  refine lv_bipush (v := (10 : Int32)) hx hb dX2_init_117 (by decide) ?_
  refine lv_icmp_ge (tgt := 142) hx hb dX2_init_119 (by decide) (fun c9 => absurd c9 (by decide)) (fun _ => ?_)
  refine lv_aload_n hx hb dX2_init_122 rfl (lv_at hl 1 rfl) ?_
  refine va_get (D := D) (ci := 2) (v := .ref q3) (C := RX2) (T := TX2) (N := 12) hx hb hts nX2_init_X2 hown hK hP 0 rfl rfl 2 (by decide) (hts (.fieldLink RX2 27 "WorksDesk$Book" "measured" "[LWorksDesk$Series;") (List.mem_of_getElem? (i := 13) rfl)) (fun _ h9 => h9) rfl dX2_init_123 ?_
  refine lv_iload_n hx hb dX2_init_126 rfl (lv_at hl 0 rfl) ?_
  refine va_new (ci := 6) (fs := [.null, .null, .int 0]) (C := RX6) (T := TX6) (N := 3) hx hb hts nX2_init_X6 tyX6 tyX6_ok hown (hts (.classLink RX2 25 RX6) (List.mem_of_getElem? (i := 12) rfl)) (hts (.instantiable RX6 3) (List.mem_of_getElem? (i := 14) rfl)) (hts (.initialized RX6) (List.mem_of_getElem? (i := 15) rfl)) hK hP hD hS hA rfl (fun j hj => by
      match j, hj with
      | 0, _ => rfl
      | 1, _ => rfl
      | 2, _ => rfl) (Nat.le_of_ble_eq_true rfl) (Nat.le_of_ble_eq_true rfl) dX2_init_127 (fun q13 H hP hD hS => ?_)
  refine lv_dup hx hb dX2_init_130 rfl ?_
  refine lv_iconst (v := (0 : Int32)) hx hb dX2_init_131 (by decide) ?_
  refine zz_ctor (va_runI (As := [.int (0 : Int32)]) (rest := [.ref q13, .int (4 : Int32), .ref q3]) ⟨hx, hb, hml, hown, hts⟩ (zX6_init l D y q13 H.size (0 : Int32)) (cwI 1 hts gX2_init_X6_init rfl rfl rfl (hts (.initialized RX6) (List.mem_of_getElem? (i := 15) rfl)) (hts (.methodLink RX2 31 yX6_init) (List.mem_of_getElem? (i := 51) rfl)) (hts (.instanceMethod yX6_init) (List.mem_of_getElem? (i := 52) rfl)) rfl zdX6_init ⟨Nat.le_of_ble_eq_true rfl, Nat.le_of_ble_eq_true rfl⟩) (zz_preE hP hK hD hN hg hS hA) rfl rfl hl.1 rfl (lv_room (Nat.le_of_ble_eq_true rfl)) dX2_init_132 ⟨Nat.le_of_ble_eq_true rfl, Nat.le_of_ble_eq_true rfl⟩) hP hD hS hA (fun a13 H1 locs1 ha hP1 hD1 hS1 => ?_)
  clear hP hD hS
  subst ha
  generalize H1 = H at hP1 hS1 ⊢
  generalize locs1 = locs at hS1 ⊢
  have hP := zz_asP hP1
  have hD := zz_asD hD1
  have hS := hS1
  clear hP1 hD1 hS1
  have hP : va_P D vwCl ([(h0, .inr (2, [.ref (a1 0), .ref (a2 0), .ref q3, .ref (a4 0), .ref (a5 0), .ref (a6 0), .ref (a7 0), .ref q8, .int (24 : Int32), .int (24 : Int32), .int (24 : Int32), .int (0 : Int32)])), (q3, .inl (y 3, 10, .inr (.inr (.inr (.inr (va_up (va_up (va_up (va_up (fun _ => none) 0 (some (a9 0))) 1 (some (a10 0))) 2 (some (a11 0))) 3 (some (a12 0))))))))] ++ ((((((((((((([] : va_W) ++ wIX0 y a1) ++ wIX8 y a2) ++ wIX6 y (0 : Int32) a4) ++ wIX6 y (1000 : Int32) a5) ++ wIX3 y a6) ++ wIX7 y a7) ++ [(q8, .inl (y 1, 24, .inr (.inl (fun _ => 0))))]) ++ wIX6 y (0 : Int32) a9) ++ wIX6 y (0 : Int32) a10) ++ wIX6 y (0 : Int32) a11) ++ wIX6 y (0 : Int32) a12) ++ wIX6 y (0 : Int32) a13)) H := hP
  have hD : va_D A ([(h0, .inr (2, [.ref (a1 0), .ref (a2 0), .ref q3, .ref (a4 0), .ref (a5 0), .ref (a6 0), .ref (a7 0), .ref q8, .int (24 : Int32), .int (24 : Int32), .int (24 : Int32), .int (0 : Int32)])), (q3, .inl (y 3, 10, .inr (.inr (.inr (.inr (va_up (va_up (va_up (va_up (fun _ => none) 0 (some (a9 0))) 1 (some (a10 0))) 2 (some (a11 0))) 3 (some (a12 0))))))))] ++ ((((((((((((([] : va_W) ++ wIX0 y a1) ++ wIX8 y a2) ++ wIX6 y (0 : Int32) a4) ++ wIX6 y (1000 : Int32) a5) ++ wIX3 y a6) ++ wIX7 y a7) ++ [(q8, .inl (y 1, 24, .inr (.inl (fun _ => 0))))]) ++ wIX6 y (0 : Int32) a9) ++ wIX6 y (0 : Int32) a10) ++ wIX6 y (0 : Int32) a11) ++ wIX6 y (0 : Int32) a12) ++ wIX6 y (0 : Int32) a13)) := hD
  refine va_astq (r := (RX6, TX6, 3)) hx hb hK hP hD hS 1 3 _ 6 rfl rfl (zz_inR (zz_at_end (q := (a13 0, .inr (6, [.ref (a13 1), .ref (a13 2), .int (0 : Int32)]))))) rfl (zq_lit 4 10 (by decide) (by decide)) dX2_init_135 (fun H locs hP hD hS => ?_)
  have hP : va_P D vwCl ([(h0, .inr (2, [.ref (a1 0), .ref (a2 0), .ref q3, .ref (a4 0), .ref (a5 0), .ref (a6 0), .ref (a7 0), .ref q8, .int (24 : Int32), .int (24 : Int32), .int (24 : Int32), .int (0 : Int32)])), (q3, .inl (y 3, 10, .inr (.inr (.inr (.inr (va_up (va_up (va_up (va_up (va_up (fun _ => none) 0 (some (a9 0))) 1 (some (a10 0))) 2 (some (a11 0))) 3 (some (a12 0))) 4 (some (a13 0))))))))] ++ ((((((((((((([] : va_W) ++ wIX0 y a1) ++ wIX8 y a2) ++ wIX6 y (0 : Int32) a4) ++ wIX6 y (1000 : Int32) a5) ++ wIX3 y a6) ++ wIX7 y a7) ++ [(q8, .inl (y 1, 24, .inr (.inl (fun _ => 0))))]) ++ wIX6 y (0 : Int32) a9) ++ wIX6 y (0 : Int32) a10) ++ wIX6 y (0 : Int32) a11) ++ wIX6 y (0 : Int32) a12) ++ wIX6 y (0 : Int32) a13)) H := hP
  have hD : va_D A ([(h0, .inr (2, [.ref (a1 0), .ref (a2 0), .ref q3, .ref (a4 0), .ref (a5 0), .ref (a6 0), .ref (a7 0), .ref q8, .int (24 : Int32), .int (24 : Int32), .int (24 : Int32), .int (0 : Int32)])), (q3, .inl (y 3, 10, .inr (.inr (.inr (.inr (va_up (va_up (va_up (va_up (va_up (fun _ => none) 0 (some (a9 0))) 1 (some (a10 0))) 2 (some (a11 0))) 3 (some (a12 0))) 4 (some (a13 0))))))))] ++ ((((((((((((([] : va_W) ++ wIX0 y a1) ++ wIX8 y a2) ++ wIX6 y (0 : Int32) a4) ++ wIX6 y (1000 : Int32) a5) ++ wIX3 y a6) ++ wIX7 y a7) ++ [(q8, .inl (y 1, 24, .inr (.inl (fun _ => 0))))]) ++ wIX6 y (0 : Int32) a9) ++ wIX6 y (0 : Int32) a10) ++ wIX6 y (0 : Int32) a11) ++ wIX6 y (0 : Int32) a12) ++ wIX6 y (0 : Int32) a13)) := hD
  refine lv_iinc (v := (5 : Int32)) (lv' := [(1, .int (5 : Int32)), (0, .ref h0)]) hx hb dX2_init_136 hl (k := 0) rfl (by decide) (by decide) rfl (fun ls hl => ?_)
  refine lv_goto (tgt := 116) hx hb dX2_init_139 (by decide) ?_
  refine lv_iload_n hx hb dX2_init_116 rfl (lv_at hl 0 rfl) ?_
  refine lv_bipush (v := (10 : Int32)) hx hb dX2_init_117 (by decide) ?_
  refine lv_icmp_ge (tgt := 142) hx hb dX2_init_119 (by decide) (fun c9 => absurd c9 (by decide)) (fun _ => ?_)
  refine lv_aload_n hx hb dX2_init_122 rfl (lv_at hl 1 rfl) ?_
  refine va_get (D := D) (ci := 2) (v := .ref q3) (C := RX2) (T := TX2) (N := 12) hx hb hts nX2_init_X2 hown hK hP 0 rfl rfl 2 (by decide) (hts (.fieldLink RX2 27 "WorksDesk$Book" "measured" "[LWorksDesk$Series;") (List.mem_of_getElem? (i := 13) rfl)) (fun _ h9 => h9) rfl dX2_init_123 ?_
  refine lv_iload_n hx hb dX2_init_126 rfl (lv_at hl 0 rfl) ?_
  refine va_new (ci := 6) (fs := [.null, .null, .int 0]) (C := RX6) (T := TX6) (N := 3) hx hb hts nX2_init_X6 tyX6 tyX6_ok hown (hts (.classLink RX2 25 RX6) (List.mem_of_getElem? (i := 12) rfl)) (hts (.instantiable RX6 3) (List.mem_of_getElem? (i := 14) rfl)) (hts (.initialized RX6) (List.mem_of_getElem? (i := 15) rfl)) hK hP hD hS hA rfl (fun j hj => by
      match j, hj with
      | 0, _ => rfl
      | 1, _ => rfl
      | 2, _ => rfl) (Nat.le_of_ble_eq_true rfl) (Nat.le_of_ble_eq_true rfl) dX2_init_127 (fun q14 H hP hD hS => ?_)
  refine lv_dup hx hb dX2_init_130 rfl ?_
  refine lv_iconst (v := (0 : Int32)) hx hb dX2_init_131 (by decide) ?_
  refine zz_ctor (va_runI (As := [.int (0 : Int32)]) (rest := [.ref q14, .int (5 : Int32), .ref q3]) ⟨hx, hb, hml, hown, hts⟩ (zX6_init l D y q14 H.size (0 : Int32)) (cwI 1 hts gX2_init_X6_init rfl rfl rfl (hts (.initialized RX6) (List.mem_of_getElem? (i := 15) rfl)) (hts (.methodLink RX2 31 yX6_init) (List.mem_of_getElem? (i := 51) rfl)) (hts (.instanceMethod yX6_init) (List.mem_of_getElem? (i := 52) rfl)) rfl zdX6_init ⟨Nat.le_of_ble_eq_true rfl, Nat.le_of_ble_eq_true rfl⟩) (zz_preE hP hK hD hN hg hS hA) rfl rfl hl.1 rfl (lv_room (Nat.le_of_ble_eq_true rfl)) dX2_init_132 ⟨Nat.le_of_ble_eq_true rfl, Nat.le_of_ble_eq_true rfl⟩) hP hD hS hA (fun a14 H1 locs1 ha hP1 hD1 hS1 => ?_)
  clear hP hD hS
  subst ha
  generalize H1 = H at hP1 hS1 ⊢
  generalize locs1 = locs at hS1 ⊢
  have hP := zz_asP hP1
  have hD := zz_asD hD1
  have hS := hS1
  clear hP1 hD1 hS1
  have hP : va_P D vwCl ([(h0, .inr (2, [.ref (a1 0), .ref (a2 0), .ref q3, .ref (a4 0), .ref (a5 0), .ref (a6 0), .ref (a7 0), .ref q8, .int (24 : Int32), .int (24 : Int32), .int (24 : Int32), .int (0 : Int32)])), (q3, .inl (y 3, 10, .inr (.inr (.inr (.inr (va_up (va_up (va_up (va_up (va_up (fun _ => none) 0 (some (a9 0))) 1 (some (a10 0))) 2 (some (a11 0))) 3 (some (a12 0))) 4 (some (a13 0))))))))] ++ (((((((((((((([] : va_W) ++ wIX0 y a1) ++ wIX8 y a2) ++ wIX6 y (0 : Int32) a4) ++ wIX6 y (1000 : Int32) a5) ++ wIX3 y a6) ++ wIX7 y a7) ++ [(q8, .inl (y 1, 24, .inr (.inl (fun _ => 0))))]) ++ wIX6 y (0 : Int32) a9) ++ wIX6 y (0 : Int32) a10) ++ wIX6 y (0 : Int32) a11) ++ wIX6 y (0 : Int32) a12) ++ wIX6 y (0 : Int32) a13) ++ wIX6 y (0 : Int32) a14)) H := hP
  have hD : va_D A ([(h0, .inr (2, [.ref (a1 0), .ref (a2 0), .ref q3, .ref (a4 0), .ref (a5 0), .ref (a6 0), .ref (a7 0), .ref q8, .int (24 : Int32), .int (24 : Int32), .int (24 : Int32), .int (0 : Int32)])), (q3, .inl (y 3, 10, .inr (.inr (.inr (.inr (va_up (va_up (va_up (va_up (va_up (fun _ => none) 0 (some (a9 0))) 1 (some (a10 0))) 2 (some (a11 0))) 3 (some (a12 0))) 4 (some (a13 0))))))))] ++ (((((((((((((([] : va_W) ++ wIX0 y a1) ++ wIX8 y a2) ++ wIX6 y (0 : Int32) a4) ++ wIX6 y (1000 : Int32) a5) ++ wIX3 y a6) ++ wIX7 y a7) ++ [(q8, .inl (y 1, 24, .inr (.inl (fun _ => 0))))]) ++ wIX6 y (0 : Int32) a9) ++ wIX6 y (0 : Int32) a10) ++ wIX6 y (0 : Int32) a11) ++ wIX6 y (0 : Int32) a12) ++ wIX6 y (0 : Int32) a13) ++ wIX6 y (0 : Int32) a14)) := hD
  refine va_astq (r := (RX6, TX6, 3)) hx hb hK hP hD hS 1 3 _ 6 rfl rfl (zz_inR (zz_at_end (q := (a14 0, .inr (6, [.ref (a14 1), .ref (a14 2), .int (0 : Int32)]))))) rfl (zq_lit 5 10 (by decide) (by decide)) dX2_init_135 (fun H locs hP hD hS => ?_)
  have hP : va_P D vwCl ([(h0, .inr (2, [.ref (a1 0), .ref (a2 0), .ref q3, .ref (a4 0), .ref (a5 0), .ref (a6 0), .ref (a7 0), .ref q8, .int (24 : Int32), .int (24 : Int32), .int (24 : Int32), .int (0 : Int32)])), (q3, .inl (y 3, 10, .inr (.inr (.inr (.inr (va_up (va_up (va_up (va_up (va_up (va_up (fun _ => none) 0 (some (a9 0))) 1 (some (a10 0))) 2 (some (a11 0))) 3 (some (a12 0))) 4 (some (a13 0))) 5 (some (a14 0))))))))] ++ (((((((((((((([] : va_W) ++ wIX0 y a1) ++ wIX8 y a2) ++ wIX6 y (0 : Int32) a4) ++ wIX6 y (1000 : Int32) a5) ++ wIX3 y a6) ++ wIX7 y a7) ++ [(q8, .inl (y 1, 24, .inr (.inl (fun _ => 0))))]) ++ wIX6 y (0 : Int32) a9) ++ wIX6 y (0 : Int32) a10) ++ wIX6 y (0 : Int32) a11) ++ wIX6 y (0 : Int32) a12) ++ wIX6 y (0 : Int32) a13) ++ wIX6 y (0 : Int32) a14)) H := hP
  have hD : va_D A ([(h0, .inr (2, [.ref (a1 0), .ref (a2 0), .ref q3, .ref (a4 0), .ref (a5 0), .ref (a6 0), .ref (a7 0), .ref q8, .int (24 : Int32), .int (24 : Int32), .int (24 : Int32), .int (0 : Int32)])), (q3, .inl (y 3, 10, .inr (.inr (.inr (.inr (va_up (va_up (va_up (va_up (va_up (va_up (fun _ => none) 0 (some (a9 0))) 1 (some (a10 0))) 2 (some (a11 0))) 3 (some (a12 0))) 4 (some (a13 0))) 5 (some (a14 0))))))))] ++ (((((((((((((([] : va_W) ++ wIX0 y a1) ++ wIX8 y a2) ++ wIX6 y (0 : Int32) a4) ++ wIX6 y (1000 : Int32) a5) ++ wIX3 y a6) ++ wIX7 y a7) ++ [(q8, .inl (y 1, 24, .inr (.inl (fun _ => 0))))]) ++ wIX6 y (0 : Int32) a9) ++ wIX6 y (0 : Int32) a10) ++ wIX6 y (0 : Int32) a11) ++ wIX6 y (0 : Int32) a12) ++ wIX6 y (0 : Int32) a13) ++ wIX6 y (0 : Int32) a14)) := hD
  refine lv_iinc (v := (6 : Int32)) (lv' := [(1, .int (6 : Int32)), (0, .ref h0)]) hx hb dX2_init_136 hl (k := 0) rfl (by decide) (by decide) rfl (fun ls hl => ?_)
  refine lv_goto (tgt := 116) hx hb dX2_init_139 (by decide) ?_
  refine lv_iload_n hx hb dX2_init_116 rfl (lv_at hl 0 rfl) ?_
  refine lv_bipush (v := (10 : Int32)) hx hb dX2_init_117 (by decide) ?_
  refine lv_icmp_ge (tgt := 142) hx hb dX2_init_119 (by decide) (fun c9 => absurd c9 (by decide)) (fun _ => ?_)
  refine lv_aload_n hx hb dX2_init_122 rfl (lv_at hl 1 rfl) ?_
  refine va_get (D := D) (ci := 2) (v := .ref q3) (C := RX2) (T := TX2) (N := 12) hx hb hts nX2_init_X2 hown hK hP 0 rfl rfl 2 (by decide) (hts (.fieldLink RX2 27 "WorksDesk$Book" "measured" "[LWorksDesk$Series;") (List.mem_of_getElem? (i := 13) rfl)) (fun _ h9 => h9) rfl dX2_init_123 ?_
  refine lv_iload_n hx hb dX2_init_126 rfl (lv_at hl 0 rfl) ?_
  refine va_new (ci := 6) (fs := [.null, .null, .int 0]) (C := RX6) (T := TX6) (N := 3) hx hb hts nX2_init_X6 tyX6 tyX6_ok hown (hts (.classLink RX2 25 RX6) (List.mem_of_getElem? (i := 12) rfl)) (hts (.instantiable RX6 3) (List.mem_of_getElem? (i := 14) rfl)) (hts (.initialized RX6) (List.mem_of_getElem? (i := 15) rfl)) hK hP hD hS hA rfl (fun j hj => by
      match j, hj with
      | 0, _ => rfl
      | 1, _ => rfl
      | 2, _ => rfl) (Nat.le_of_ble_eq_true rfl) (Nat.le_of_ble_eq_true rfl) dX2_init_127 (fun q15 H hP hD hS => ?_)
  refine lv_dup hx hb dX2_init_130 rfl ?_
  refine lv_iconst (v := (0 : Int32)) hx hb dX2_init_131 (by decide) ?_
  refine zz_ctor (va_runI (As := [.int (0 : Int32)]) (rest := [.ref q15, .int (6 : Int32), .ref q3]) ⟨hx, hb, hml, hown, hts⟩ (zX6_init l D y q15 H.size (0 : Int32)) (cwI 1 hts gX2_init_X6_init rfl rfl rfl (hts (.initialized RX6) (List.mem_of_getElem? (i := 15) rfl)) (hts (.methodLink RX2 31 yX6_init) (List.mem_of_getElem? (i := 51) rfl)) (hts (.instanceMethod yX6_init) (List.mem_of_getElem? (i := 52) rfl)) rfl zdX6_init ⟨Nat.le_of_ble_eq_true rfl, Nat.le_of_ble_eq_true rfl⟩) (zz_preE hP hK hD hN hg hS hA) rfl rfl hl.1 rfl (lv_room (Nat.le_of_ble_eq_true rfl)) dX2_init_132 ⟨Nat.le_of_ble_eq_true rfl, Nat.le_of_ble_eq_true rfl⟩) hP hD hS hA (fun a15 H1 locs1 ha hP1 hD1 hS1 => ?_)
  clear hP hD hS
  subst ha
  generalize H1 = H at hP1 hS1 ⊢
  generalize locs1 = locs at hS1 ⊢
  have hP := zz_asP hP1
  have hD := zz_asD hD1
  have hS := hS1
  clear hP1 hD1 hS1
  have hP : va_P D vwCl ([(h0, .inr (2, [.ref (a1 0), .ref (a2 0), .ref q3, .ref (a4 0), .ref (a5 0), .ref (a6 0), .ref (a7 0), .ref q8, .int (24 : Int32), .int (24 : Int32), .int (24 : Int32), .int (0 : Int32)])), (q3, .inl (y 3, 10, .inr (.inr (.inr (.inr (va_up (va_up (va_up (va_up (va_up (va_up (fun _ => none) 0 (some (a9 0))) 1 (some (a10 0))) 2 (some (a11 0))) 3 (some (a12 0))) 4 (some (a13 0))) 5 (some (a14 0))))))))] ++ ((((((((((((((([] : va_W) ++ wIX0 y a1) ++ wIX8 y a2) ++ wIX6 y (0 : Int32) a4) ++ wIX6 y (1000 : Int32) a5) ++ wIX3 y a6) ++ wIX7 y a7) ++ [(q8, .inl (y 1, 24, .inr (.inl (fun _ => 0))))]) ++ wIX6 y (0 : Int32) a9) ++ wIX6 y (0 : Int32) a10) ++ wIX6 y (0 : Int32) a11) ++ wIX6 y (0 : Int32) a12) ++ wIX6 y (0 : Int32) a13) ++ wIX6 y (0 : Int32) a14) ++ wIX6 y (0 : Int32) a15)) H := hP
  have hD : va_D A ([(h0, .inr (2, [.ref (a1 0), .ref (a2 0), .ref q3, .ref (a4 0), .ref (a5 0), .ref (a6 0), .ref (a7 0), .ref q8, .int (24 : Int32), .int (24 : Int32), .int (24 : Int32), .int (0 : Int32)])), (q3, .inl (y 3, 10, .inr (.inr (.inr (.inr (va_up (va_up (va_up (va_up (va_up (va_up (fun _ => none) 0 (some (a9 0))) 1 (some (a10 0))) 2 (some (a11 0))) 3 (some (a12 0))) 4 (some (a13 0))) 5 (some (a14 0))))))))] ++ ((((((((((((((([] : va_W) ++ wIX0 y a1) ++ wIX8 y a2) ++ wIX6 y (0 : Int32) a4) ++ wIX6 y (1000 : Int32) a5) ++ wIX3 y a6) ++ wIX7 y a7) ++ [(q8, .inl (y 1, 24, .inr (.inl (fun _ => 0))))]) ++ wIX6 y (0 : Int32) a9) ++ wIX6 y (0 : Int32) a10) ++ wIX6 y (0 : Int32) a11) ++ wIX6 y (0 : Int32) a12) ++ wIX6 y (0 : Int32) a13) ++ wIX6 y (0 : Int32) a14) ++ wIX6 y (0 : Int32) a15)) := hD
  refine va_astq (r := (RX6, TX6, 3)) hx hb hK hP hD hS 1 3 _ 6 rfl rfl (zz_inR (zz_at_end (q := (a15 0, .inr (6, [.ref (a15 1), .ref (a15 2), .int (0 : Int32)]))))) rfl (zq_lit 6 10 (by decide) (by decide)) dX2_init_135 (fun H locs hP hD hS => ?_)
  have hP : va_P D vwCl ([(h0, .inr (2, [.ref (a1 0), .ref (a2 0), .ref q3, .ref (a4 0), .ref (a5 0), .ref (a6 0), .ref (a7 0), .ref q8, .int (24 : Int32), .int (24 : Int32), .int (24 : Int32), .int (0 : Int32)])), (q3, .inl (y 3, 10, .inr (.inr (.inr (.inr (va_up (va_up (va_up (va_up (va_up (va_up (va_up (fun _ => none) 0 (some (a9 0))) 1 (some (a10 0))) 2 (some (a11 0))) 3 (some (a12 0))) 4 (some (a13 0))) 5 (some (a14 0))) 6 (some (a15 0))))))))] ++ ((((((((((((((([] : va_W) ++ wIX0 y a1) ++ wIX8 y a2) ++ wIX6 y (0 : Int32) a4) ++ wIX6 y (1000 : Int32) a5) ++ wIX3 y a6) ++ wIX7 y a7) ++ [(q8, .inl (y 1, 24, .inr (.inl (fun _ => 0))))]) ++ wIX6 y (0 : Int32) a9) ++ wIX6 y (0 : Int32) a10) ++ wIX6 y (0 : Int32) a11) ++ wIX6 y (0 : Int32) a12) ++ wIX6 y (0 : Int32) a13) ++ wIX6 y (0 : Int32) a14) ++ wIX6 y (0 : Int32) a15)) H := hP
  have hD : va_D A ([(h0, .inr (2, [.ref (a1 0), .ref (a2 0), .ref q3, .ref (a4 0), .ref (a5 0), .ref (a6 0), .ref (a7 0), .ref q8, .int (24 : Int32), .int (24 : Int32), .int (24 : Int32), .int (0 : Int32)])), (q3, .inl (y 3, 10, .inr (.inr (.inr (.inr (va_up (va_up (va_up (va_up (va_up (va_up (va_up (fun _ => none) 0 (some (a9 0))) 1 (some (a10 0))) 2 (some (a11 0))) 3 (some (a12 0))) 4 (some (a13 0))) 5 (some (a14 0))) 6 (some (a15 0))))))))] ++ ((((((((((((((([] : va_W) ++ wIX0 y a1) ++ wIX8 y a2) ++ wIX6 y (0 : Int32) a4) ++ wIX6 y (1000 : Int32) a5) ++ wIX3 y a6) ++ wIX7 y a7) ++ [(q8, .inl (y 1, 24, .inr (.inl (fun _ => 0))))]) ++ wIX6 y (0 : Int32) a9) ++ wIX6 y (0 : Int32) a10) ++ wIX6 y (0 : Int32) a11) ++ wIX6 y (0 : Int32) a12) ++ wIX6 y (0 : Int32) a13) ++ wIX6 y (0 : Int32) a14) ++ wIX6 y (0 : Int32) a15)) := hD
  refine lv_iinc (v := (7 : Int32)) (lv' := [(1, .int (7 : Int32)), (0, .ref h0)]) hx hb dX2_init_136 hl (k := 0) rfl (by decide) (by decide) rfl (fun ls hl => ?_)
  refine lv_goto (tgt := 116) hx hb dX2_init_139 (by decide) ?_
  refine lv_iload_n hx hb dX2_init_116 rfl (lv_at hl 0 rfl) ?_
  refine lv_bipush (v := (10 : Int32)) hx hb dX2_init_117 (by decide) ?_
  refine lv_icmp_ge (tgt := 142) hx hb dX2_init_119 (by decide) (fun c9 => absurd c9 (by decide)) (fun _ => ?_)
  refine lv_aload_n hx hb dX2_init_122 rfl (lv_at hl 1 rfl) ?_
  refine va_get (D := D) (ci := 2) (v := .ref q3) (C := RX2) (T := TX2) (N := 12) hx hb hts nX2_init_X2 hown hK hP 0 rfl rfl 2 (by decide) (hts (.fieldLink RX2 27 "WorksDesk$Book" "measured" "[LWorksDesk$Series;") (List.mem_of_getElem? (i := 13) rfl)) (fun _ h9 => h9) rfl dX2_init_123 ?_
  refine lv_iload_n hx hb dX2_init_126 rfl (lv_at hl 0 rfl) ?_
  refine va_new (ci := 6) (fs := [.null, .null, .int 0]) (C := RX6) (T := TX6) (N := 3) hx hb hts nX2_init_X6 tyX6 tyX6_ok hown (hts (.classLink RX2 25 RX6) (List.mem_of_getElem? (i := 12) rfl)) (hts (.instantiable RX6 3) (List.mem_of_getElem? (i := 14) rfl)) (hts (.initialized RX6) (List.mem_of_getElem? (i := 15) rfl)) hK hP hD hS hA rfl (fun j hj => by
      match j, hj with
      | 0, _ => rfl
      | 1, _ => rfl
      | 2, _ => rfl) (Nat.le_of_ble_eq_true rfl) (Nat.le_of_ble_eq_true rfl) dX2_init_127 (fun q16 H hP hD hS => ?_)
  refine lv_dup hx hb dX2_init_130 rfl ?_
  refine lv_iconst (v := (0 : Int32)) hx hb dX2_init_131 (by decide) ?_
  refine zz_ctor (va_runI (As := [.int (0 : Int32)]) (rest := [.ref q16, .int (7 : Int32), .ref q3]) ⟨hx, hb, hml, hown, hts⟩ (zX6_init l D y q16 H.size (0 : Int32)) (cwI 1 hts gX2_init_X6_init rfl rfl rfl (hts (.initialized RX6) (List.mem_of_getElem? (i := 15) rfl)) (hts (.methodLink RX2 31 yX6_init) (List.mem_of_getElem? (i := 51) rfl)) (hts (.instanceMethod yX6_init) (List.mem_of_getElem? (i := 52) rfl)) rfl zdX6_init ⟨Nat.le_of_ble_eq_true rfl, Nat.le_of_ble_eq_true rfl⟩) (zz_preE hP hK hD hN hg hS hA) rfl rfl hl.1 rfl (lv_room (Nat.le_of_ble_eq_true rfl)) dX2_init_132 ⟨Nat.le_of_ble_eq_true rfl, Nat.le_of_ble_eq_true rfl⟩) hP hD hS hA (fun a16 H1 locs1 ha hP1 hD1 hS1 => ?_)
  clear hP hD hS
  subst ha
  generalize H1 = H at hP1 hS1 ⊢
  generalize locs1 = locs at hS1 ⊢
  have hP := zz_asP hP1
  have hD := zz_asD hD1
  have hS := hS1
  clear hP1 hD1 hS1
  have hP : va_P D vwCl ([(h0, .inr (2, [.ref (a1 0), .ref (a2 0), .ref q3, .ref (a4 0), .ref (a5 0), .ref (a6 0), .ref (a7 0), .ref q8, .int (24 : Int32), .int (24 : Int32), .int (24 : Int32), .int (0 : Int32)])), (q3, .inl (y 3, 10, .inr (.inr (.inr (.inr (va_up (va_up (va_up (va_up (va_up (va_up (va_up (fun _ => none) 0 (some (a9 0))) 1 (some (a10 0))) 2 (some (a11 0))) 3 (some (a12 0))) 4 (some (a13 0))) 5 (some (a14 0))) 6 (some (a15 0))))))))] ++ (((((((((((((((([] : va_W) ++ wIX0 y a1) ++ wIX8 y a2) ++ wIX6 y (0 : Int32) a4) ++ wIX6 y (1000 : Int32) a5) ++ wIX3 y a6) ++ wIX7 y a7) ++ [(q8, .inl (y 1, 24, .inr (.inl (fun _ => 0))))]) ++ wIX6 y (0 : Int32) a9) ++ wIX6 y (0 : Int32) a10) ++ wIX6 y (0 : Int32) a11) ++ wIX6 y (0 : Int32) a12) ++ wIX6 y (0 : Int32) a13) ++ wIX6 y (0 : Int32) a14) ++ wIX6 y (0 : Int32) a15) ++ wIX6 y (0 : Int32) a16)) H := hP
  have hD : va_D A ([(h0, .inr (2, [.ref (a1 0), .ref (a2 0), .ref q3, .ref (a4 0), .ref (a5 0), .ref (a6 0), .ref (a7 0), .ref q8, .int (24 : Int32), .int (24 : Int32), .int (24 : Int32), .int (0 : Int32)])), (q3, .inl (y 3, 10, .inr (.inr (.inr (.inr (va_up (va_up (va_up (va_up (va_up (va_up (va_up (fun _ => none) 0 (some (a9 0))) 1 (some (a10 0))) 2 (some (a11 0))) 3 (some (a12 0))) 4 (some (a13 0))) 5 (some (a14 0))) 6 (some (a15 0))))))))] ++ (((((((((((((((([] : va_W) ++ wIX0 y a1) ++ wIX8 y a2) ++ wIX6 y (0 : Int32) a4) ++ wIX6 y (1000 : Int32) a5) ++ wIX3 y a6) ++ wIX7 y a7) ++ [(q8, .inl (y 1, 24, .inr (.inl (fun _ => 0))))]) ++ wIX6 y (0 : Int32) a9) ++ wIX6 y (0 : Int32) a10) ++ wIX6 y (0 : Int32) a11) ++ wIX6 y (0 : Int32) a12) ++ wIX6 y (0 : Int32) a13) ++ wIX6 y (0 : Int32) a14) ++ wIX6 y (0 : Int32) a15) ++ wIX6 y (0 : Int32) a16)) := hD
  refine va_astq (r := (RX6, TX6, 3)) hx hb hK hP hD hS 1 3 _ 6 rfl rfl (zz_inR (zz_at_end (q := (a16 0, .inr (6, [.ref (a16 1), .ref (a16 2), .int (0 : Int32)]))))) rfl (zq_lit 7 10 (by decide) (by decide)) dX2_init_135 (fun H locs hP hD hS => ?_)
  have hP : va_P D vwCl ([(h0, .inr (2, [.ref (a1 0), .ref (a2 0), .ref q3, .ref (a4 0), .ref (a5 0), .ref (a6 0), .ref (a7 0), .ref q8, .int (24 : Int32), .int (24 : Int32), .int (24 : Int32), .int (0 : Int32)])), (q3, .inl (y 3, 10, .inr (.inr (.inr (.inr (va_up (va_up (va_up (va_up (va_up (va_up (va_up (va_up (fun _ => none) 0 (some (a9 0))) 1 (some (a10 0))) 2 (some (a11 0))) 3 (some (a12 0))) 4 (some (a13 0))) 5 (some (a14 0))) 6 (some (a15 0))) 7 (some (a16 0))))))))] ++ (((((((((((((((([] : va_W) ++ wIX0 y a1) ++ wIX8 y a2) ++ wIX6 y (0 : Int32) a4) ++ wIX6 y (1000 : Int32) a5) ++ wIX3 y a6) ++ wIX7 y a7) ++ [(q8, .inl (y 1, 24, .inr (.inl (fun _ => 0))))]) ++ wIX6 y (0 : Int32) a9) ++ wIX6 y (0 : Int32) a10) ++ wIX6 y (0 : Int32) a11) ++ wIX6 y (0 : Int32) a12) ++ wIX6 y (0 : Int32) a13) ++ wIX6 y (0 : Int32) a14) ++ wIX6 y (0 : Int32) a15) ++ wIX6 y (0 : Int32) a16)) H := hP
  have hD : va_D A ([(h0, .inr (2, [.ref (a1 0), .ref (a2 0), .ref q3, .ref (a4 0), .ref (a5 0), .ref (a6 0), .ref (a7 0), .ref q8, .int (24 : Int32), .int (24 : Int32), .int (24 : Int32), .int (0 : Int32)])), (q3, .inl (y 3, 10, .inr (.inr (.inr (.inr (va_up (va_up (va_up (va_up (va_up (va_up (va_up (va_up (fun _ => none) 0 (some (a9 0))) 1 (some (a10 0))) 2 (some (a11 0))) 3 (some (a12 0))) 4 (some (a13 0))) 5 (some (a14 0))) 6 (some (a15 0))) 7 (some (a16 0))))))))] ++ (((((((((((((((([] : va_W) ++ wIX0 y a1) ++ wIX8 y a2) ++ wIX6 y (0 : Int32) a4) ++ wIX6 y (1000 : Int32) a5) ++ wIX3 y a6) ++ wIX7 y a7) ++ [(q8, .inl (y 1, 24, .inr (.inl (fun _ => 0))))]) ++ wIX6 y (0 : Int32) a9) ++ wIX6 y (0 : Int32) a10) ++ wIX6 y (0 : Int32) a11) ++ wIX6 y (0 : Int32) a12) ++ wIX6 y (0 : Int32) a13) ++ wIX6 y (0 : Int32) a14) ++ wIX6 y (0 : Int32) a15) ++ wIX6 y (0 : Int32) a16)) := hD
  refine lv_iinc (v := (8 : Int32)) (lv' := [(1, .int (8 : Int32)), (0, .ref h0)]) hx hb dX2_init_136 hl (k := 0) rfl (by decide) (by decide) rfl (fun ls hl => ?_)
  refine lv_goto (tgt := 116) hx hb dX2_init_139 (by decide) ?_
  refine lv_iload_n hx hb dX2_init_116 rfl (lv_at hl 0 rfl) ?_
  refine lv_bipush (v := (10 : Int32)) hx hb dX2_init_117 (by decide) ?_
  refine lv_icmp_ge (tgt := 142) hx hb dX2_init_119 (by decide) (fun c9 => absurd c9 (by decide)) (fun _ => ?_)
  refine lv_aload_n hx hb dX2_init_122 rfl (lv_at hl 1 rfl) ?_
  refine va_get (D := D) (ci := 2) (v := .ref q3) (C := RX2) (T := TX2) (N := 12) hx hb hts nX2_init_X2 hown hK hP 0 rfl rfl 2 (by decide) (hts (.fieldLink RX2 27 "WorksDesk$Book" "measured" "[LWorksDesk$Series;") (List.mem_of_getElem? (i := 13) rfl)) (fun _ h9 => h9) rfl dX2_init_123 ?_
  refine lv_iload_n hx hb dX2_init_126 rfl (lv_at hl 0 rfl) ?_
  refine va_new (ci := 6) (fs := [.null, .null, .int 0]) (C := RX6) (T := TX6) (N := 3) hx hb hts nX2_init_X6 tyX6 tyX6_ok hown (hts (.classLink RX2 25 RX6) (List.mem_of_getElem? (i := 12) rfl)) (hts (.instantiable RX6 3) (List.mem_of_getElem? (i := 14) rfl)) (hts (.initialized RX6) (List.mem_of_getElem? (i := 15) rfl)) hK hP hD hS hA rfl (fun j hj => by
      match j, hj with
      | 0, _ => rfl
      | 1, _ => rfl
      | 2, _ => rfl) (Nat.le_of_ble_eq_true rfl) (Nat.le_of_ble_eq_true rfl) dX2_init_127 (fun q17 H hP hD hS => ?_)
  refine lv_dup hx hb dX2_init_130 rfl ?_
  refine lv_iconst (v := (0 : Int32)) hx hb dX2_init_131 (by decide) ?_
  refine zz_ctor (va_runI (As := [.int (0 : Int32)]) (rest := [.ref q17, .int (8 : Int32), .ref q3]) ⟨hx, hb, hml, hown, hts⟩ (zX6_init l D y q17 H.size (0 : Int32)) (cwI 1 hts gX2_init_X6_init rfl rfl rfl (hts (.initialized RX6) (List.mem_of_getElem? (i := 15) rfl)) (hts (.methodLink RX2 31 yX6_init) (List.mem_of_getElem? (i := 51) rfl)) (hts (.instanceMethod yX6_init) (List.mem_of_getElem? (i := 52) rfl)) rfl zdX6_init ⟨Nat.le_of_ble_eq_true rfl, Nat.le_of_ble_eq_true rfl⟩) (zz_preE hP hK hD hN hg hS hA) rfl rfl hl.1 rfl (lv_room (Nat.le_of_ble_eq_true rfl)) dX2_init_132 ⟨Nat.le_of_ble_eq_true rfl, Nat.le_of_ble_eq_true rfl⟩) hP hD hS hA (fun a17 H1 locs1 ha hP1 hD1 hS1 => ?_)
  clear hP hD hS
  subst ha
  generalize H1 = H at hP1 hS1 ⊢
  generalize locs1 = locs at hS1 ⊢
  have hP := zz_asP hP1
  have hD := zz_asD hD1
  have hS := hS1
  clear hP1 hD1 hS1
  have hP : va_P D vwCl ([(h0, .inr (2, [.ref (a1 0), .ref (a2 0), .ref q3, .ref (a4 0), .ref (a5 0), .ref (a6 0), .ref (a7 0), .ref q8, .int (24 : Int32), .int (24 : Int32), .int (24 : Int32), .int (0 : Int32)])), (q3, .inl (y 3, 10, .inr (.inr (.inr (.inr (va_up (va_up (va_up (va_up (va_up (va_up (va_up (va_up (fun _ => none) 0 (some (a9 0))) 1 (some (a10 0))) 2 (some (a11 0))) 3 (some (a12 0))) 4 (some (a13 0))) 5 (some (a14 0))) 6 (some (a15 0))) 7 (some (a16 0))))))))] ++ ((((((((((((((((([] : va_W) ++ wIX0 y a1) ++ wIX8 y a2) ++ wIX6 y (0 : Int32) a4) ++ wIX6 y (1000 : Int32) a5) ++ wIX3 y a6) ++ wIX7 y a7) ++ [(q8, .inl (y 1, 24, .inr (.inl (fun _ => 0))))]) ++ wIX6 y (0 : Int32) a9) ++ wIX6 y (0 : Int32) a10) ++ wIX6 y (0 : Int32) a11) ++ wIX6 y (0 : Int32) a12) ++ wIX6 y (0 : Int32) a13) ++ wIX6 y (0 : Int32) a14) ++ wIX6 y (0 : Int32) a15) ++ wIX6 y (0 : Int32) a16) ++ wIX6 y (0 : Int32) a17)) H := hP
  have hD : va_D A ([(h0, .inr (2, [.ref (a1 0), .ref (a2 0), .ref q3, .ref (a4 0), .ref (a5 0), .ref (a6 0), .ref (a7 0), .ref q8, .int (24 : Int32), .int (24 : Int32), .int (24 : Int32), .int (0 : Int32)])), (q3, .inl (y 3, 10, .inr (.inr (.inr (.inr (va_up (va_up (va_up (va_up (va_up (va_up (va_up (va_up (fun _ => none) 0 (some (a9 0))) 1 (some (a10 0))) 2 (some (a11 0))) 3 (some (a12 0))) 4 (some (a13 0))) 5 (some (a14 0))) 6 (some (a15 0))) 7 (some (a16 0))))))))] ++ ((((((((((((((((([] : va_W) ++ wIX0 y a1) ++ wIX8 y a2) ++ wIX6 y (0 : Int32) a4) ++ wIX6 y (1000 : Int32) a5) ++ wIX3 y a6) ++ wIX7 y a7) ++ [(q8, .inl (y 1, 24, .inr (.inl (fun _ => 0))))]) ++ wIX6 y (0 : Int32) a9) ++ wIX6 y (0 : Int32) a10) ++ wIX6 y (0 : Int32) a11) ++ wIX6 y (0 : Int32) a12) ++ wIX6 y (0 : Int32) a13) ++ wIX6 y (0 : Int32) a14) ++ wIX6 y (0 : Int32) a15) ++ wIX6 y (0 : Int32) a16) ++ wIX6 y (0 : Int32) a17)) := hD
  refine va_astq (r := (RX6, TX6, 3)) hx hb hK hP hD hS 1 3 _ 6 rfl rfl (zz_inR (zz_at_end (q := (a17 0, .inr (6, [.ref (a17 1), .ref (a17 2), .int (0 : Int32)]))))) rfl (zq_lit 8 10 (by decide) (by decide)) dX2_init_135 (fun H locs hP hD hS => ?_)
  have hP : va_P D vwCl ([(h0, .inr (2, [.ref (a1 0), .ref (a2 0), .ref q3, .ref (a4 0), .ref (a5 0), .ref (a6 0), .ref (a7 0), .ref q8, .int (24 : Int32), .int (24 : Int32), .int (24 : Int32), .int (0 : Int32)])), (q3, .inl (y 3, 10, .inr (.inr (.inr (.inr (va_up (va_up (va_up (va_up (va_up (va_up (va_up (va_up (va_up (fun _ => none) 0 (some (a9 0))) 1 (some (a10 0))) 2 (some (a11 0))) 3 (some (a12 0))) 4 (some (a13 0))) 5 (some (a14 0))) 6 (some (a15 0))) 7 (some (a16 0))) 8 (some (a17 0))))))))] ++ ((((((((((((((((([] : va_W) ++ wIX0 y a1) ++ wIX8 y a2) ++ wIX6 y (0 : Int32) a4) ++ wIX6 y (1000 : Int32) a5) ++ wIX3 y a6) ++ wIX7 y a7) ++ [(q8, .inl (y 1, 24, .inr (.inl (fun _ => 0))))]) ++ wIX6 y (0 : Int32) a9) ++ wIX6 y (0 : Int32) a10) ++ wIX6 y (0 : Int32) a11) ++ wIX6 y (0 : Int32) a12) ++ wIX6 y (0 : Int32) a13) ++ wIX6 y (0 : Int32) a14) ++ wIX6 y (0 : Int32) a15) ++ wIX6 y (0 : Int32) a16) ++ wIX6 y (0 : Int32) a17)) H := hP
  have hD : va_D A ([(h0, .inr (2, [.ref (a1 0), .ref (a2 0), .ref q3, .ref (a4 0), .ref (a5 0), .ref (a6 0), .ref (a7 0), .ref q8, .int (24 : Int32), .int (24 : Int32), .int (24 : Int32), .int (0 : Int32)])), (q3, .inl (y 3, 10, .inr (.inr (.inr (.inr (va_up (va_up (va_up (va_up (va_up (va_up (va_up (va_up (va_up (fun _ => none) 0 (some (a9 0))) 1 (some (a10 0))) 2 (some (a11 0))) 3 (some (a12 0))) 4 (some (a13 0))) 5 (some (a14 0))) 6 (some (a15 0))) 7 (some (a16 0))) 8 (some (a17 0))))))))] ++ ((((((((((((((((([] : va_W) ++ wIX0 y a1) ++ wIX8 y a2) ++ wIX6 y (0 : Int32) a4) ++ wIX6 y (1000 : Int32) a5) ++ wIX3 y a6) ++ wIX7 y a7) ++ [(q8, .inl (y 1, 24, .inr (.inl (fun _ => 0))))]) ++ wIX6 y (0 : Int32) a9) ++ wIX6 y (0 : Int32) a10) ++ wIX6 y (0 : Int32) a11) ++ wIX6 y (0 : Int32) a12) ++ wIX6 y (0 : Int32) a13) ++ wIX6 y (0 : Int32) a14) ++ wIX6 y (0 : Int32) a15) ++ wIX6 y (0 : Int32) a16) ++ wIX6 y (0 : Int32) a17)) := hD
  refine lv_iinc (v := (9 : Int32)) (lv' := [(1, .int (9 : Int32)), (0, .ref h0)]) hx hb dX2_init_136 hl (k := 0) rfl (by decide) (by decide) rfl (fun ls hl => ?_)
  refine lv_goto (tgt := 116) hx hb dX2_init_139 (by decide) ?_
  refine lv_iload_n hx hb dX2_init_116 rfl (lv_at hl 0 rfl) ?_
  refine lv_bipush (v := (10 : Int32)) hx hb dX2_init_117 (by decide) ?_
  refine lv_icmp_ge (tgt := 142) hx hb dX2_init_119 (by decide) (fun c9 => absurd c9 (by decide)) (fun _ => ?_)
  refine lv_aload_n hx hb dX2_init_122 rfl (lv_at hl 1 rfl) ?_
  refine va_get (D := D) (ci := 2) (v := .ref q3) (C := RX2) (T := TX2) (N := 12) hx hb hts nX2_init_X2 hown hK hP 0 rfl rfl 2 (by decide) (hts (.fieldLink RX2 27 "WorksDesk$Book" "measured" "[LWorksDesk$Series;") (List.mem_of_getElem? (i := 13) rfl)) (fun _ h9 => h9) rfl dX2_init_123 ?_
  refine lv_iload_n hx hb dX2_init_126 rfl (lv_at hl 0 rfl) ?_
  refine va_new (ci := 6) (fs := [.null, .null, .int 0]) (C := RX6) (T := TX6) (N := 3) hx hb hts nX2_init_X6 tyX6 tyX6_ok hown (hts (.classLink RX2 25 RX6) (List.mem_of_getElem? (i := 12) rfl)) (hts (.instantiable RX6 3) (List.mem_of_getElem? (i := 14) rfl)) (hts (.initialized RX6) (List.mem_of_getElem? (i := 15) rfl)) hK hP hD hS hA rfl (fun j hj => by
      match j, hj with
      | 0, _ => rfl
      | 1, _ => rfl
      | 2, _ => rfl) (Nat.le_of_ble_eq_true rfl) (Nat.le_of_ble_eq_true rfl) dX2_init_127 (fun q18 H hP hD hS => ?_)
  refine lv_dup hx hb dX2_init_130 rfl ?_
  refine lv_iconst (v := (0 : Int32)) hx hb dX2_init_131 (by decide) ?_
  refine zz_ctor (va_runI (As := [.int (0 : Int32)]) (rest := [.ref q18, .int (9 : Int32), .ref q3]) ⟨hx, hb, hml, hown, hts⟩ (zX6_init l D y q18 H.size (0 : Int32)) (cwI 1 hts gX2_init_X6_init rfl rfl rfl (hts (.initialized RX6) (List.mem_of_getElem? (i := 15) rfl)) (hts (.methodLink RX2 31 yX6_init) (List.mem_of_getElem? (i := 51) rfl)) (hts (.instanceMethod yX6_init) (List.mem_of_getElem? (i := 52) rfl)) rfl zdX6_init ⟨Nat.le_of_ble_eq_true rfl, Nat.le_of_ble_eq_true rfl⟩) (zz_preE hP hK hD hN hg hS hA) rfl rfl hl.1 rfl (lv_room (Nat.le_of_ble_eq_true rfl)) dX2_init_132 ⟨Nat.le_of_ble_eq_true rfl, Nat.le_of_ble_eq_true rfl⟩) hP hD hS hA (fun a18 H1 locs1 ha hP1 hD1 hS1 => ?_)
  clear hP hD hS
  subst ha
  generalize H1 = H at hP1 hS1 ⊢
  generalize locs1 = locs at hS1 ⊢
  have hP := zz_asP hP1
  have hD := zz_asD hD1
  have hS := hS1
  clear hP1 hD1 hS1
  have hP : va_P D vwCl ([(h0, .inr (2, [.ref (a1 0), .ref (a2 0), .ref q3, .ref (a4 0), .ref (a5 0), .ref (a6 0), .ref (a7 0), .ref q8, .int (24 : Int32), .int (24 : Int32), .int (24 : Int32), .int (0 : Int32)])), (q3, .inl (y 3, 10, .inr (.inr (.inr (.inr (va_up (va_up (va_up (va_up (va_up (va_up (va_up (va_up (va_up (fun _ => none) 0 (some (a9 0))) 1 (some (a10 0))) 2 (some (a11 0))) 3 (some (a12 0))) 4 (some (a13 0))) 5 (some (a14 0))) 6 (some (a15 0))) 7 (some (a16 0))) 8 (some (a17 0))))))))] ++ (((((((((((((((((([] : va_W) ++ wIX0 y a1) ++ wIX8 y a2) ++ wIX6 y (0 : Int32) a4) ++ wIX6 y (1000 : Int32) a5) ++ wIX3 y a6) ++ wIX7 y a7) ++ [(q8, .inl (y 1, 24, .inr (.inl (fun _ => 0))))]) ++ wIX6 y (0 : Int32) a9) ++ wIX6 y (0 : Int32) a10) ++ wIX6 y (0 : Int32) a11) ++ wIX6 y (0 : Int32) a12) ++ wIX6 y (0 : Int32) a13) ++ wIX6 y (0 : Int32) a14) ++ wIX6 y (0 : Int32) a15) ++ wIX6 y (0 : Int32) a16) ++ wIX6 y (0 : Int32) a17) ++ wIX6 y (0 : Int32) a18)) H := hP
  have hD : va_D A ([(h0, .inr (2, [.ref (a1 0), .ref (a2 0), .ref q3, .ref (a4 0), .ref (a5 0), .ref (a6 0), .ref (a7 0), .ref q8, .int (24 : Int32), .int (24 : Int32), .int (24 : Int32), .int (0 : Int32)])), (q3, .inl (y 3, 10, .inr (.inr (.inr (.inr (va_up (va_up (va_up (va_up (va_up (va_up (va_up (va_up (va_up (fun _ => none) 0 (some (a9 0))) 1 (some (a10 0))) 2 (some (a11 0))) 3 (some (a12 0))) 4 (some (a13 0))) 5 (some (a14 0))) 6 (some (a15 0))) 7 (some (a16 0))) 8 (some (a17 0))))))))] ++ (((((((((((((((((([] : va_W) ++ wIX0 y a1) ++ wIX8 y a2) ++ wIX6 y (0 : Int32) a4) ++ wIX6 y (1000 : Int32) a5) ++ wIX3 y a6) ++ wIX7 y a7) ++ [(q8, .inl (y 1, 24, .inr (.inl (fun _ => 0))))]) ++ wIX6 y (0 : Int32) a9) ++ wIX6 y (0 : Int32) a10) ++ wIX6 y (0 : Int32) a11) ++ wIX6 y (0 : Int32) a12) ++ wIX6 y (0 : Int32) a13) ++ wIX6 y (0 : Int32) a14) ++ wIX6 y (0 : Int32) a15) ++ wIX6 y (0 : Int32) a16) ++ wIX6 y (0 : Int32) a17) ++ wIX6 y (0 : Int32) a18)) := hD
  refine va_astq (r := (RX6, TX6, 3)) hx hb hK hP hD hS 1 3 _ 6 rfl rfl (zz_inR (zz_at_end (q := (a18 0, .inr (6, [.ref (a18 1), .ref (a18 2), .int (0 : Int32)]))))) rfl (zq_lit 9 10 (by decide) (by decide)) dX2_init_135 (fun H locs hP hD hS => ?_)
  have hP : va_P D vwCl ([(h0, .inr (2, [.ref (a1 0), .ref (a2 0), .ref q3, .ref (a4 0), .ref (a5 0), .ref (a6 0), .ref (a7 0), .ref q8, .int (24 : Int32), .int (24 : Int32), .int (24 : Int32), .int (0 : Int32)])), (q3, .inl (y 3, 10, .inr (.inr (.inr (.inr (va_up (va_up (va_up (va_up (va_up (va_up (va_up (va_up (va_up (va_up (fun _ => none) 0 (some (a9 0))) 1 (some (a10 0))) 2 (some (a11 0))) 3 (some (a12 0))) 4 (some (a13 0))) 5 (some (a14 0))) 6 (some (a15 0))) 7 (some (a16 0))) 8 (some (a17 0))) 9 (some (a18 0))))))))] ++ (((((((((((((((((([] : va_W) ++ wIX0 y a1) ++ wIX8 y a2) ++ wIX6 y (0 : Int32) a4) ++ wIX6 y (1000 : Int32) a5) ++ wIX3 y a6) ++ wIX7 y a7) ++ [(q8, .inl (y 1, 24, .inr (.inl (fun _ => 0))))]) ++ wIX6 y (0 : Int32) a9) ++ wIX6 y (0 : Int32) a10) ++ wIX6 y (0 : Int32) a11) ++ wIX6 y (0 : Int32) a12) ++ wIX6 y (0 : Int32) a13) ++ wIX6 y (0 : Int32) a14) ++ wIX6 y (0 : Int32) a15) ++ wIX6 y (0 : Int32) a16) ++ wIX6 y (0 : Int32) a17) ++ wIX6 y (0 : Int32) a18)) H := hP
  have hD : va_D A ([(h0, .inr (2, [.ref (a1 0), .ref (a2 0), .ref q3, .ref (a4 0), .ref (a5 0), .ref (a6 0), .ref (a7 0), .ref q8, .int (24 : Int32), .int (24 : Int32), .int (24 : Int32), .int (0 : Int32)])), (q3, .inl (y 3, 10, .inr (.inr (.inr (.inr (va_up (va_up (va_up (va_up (va_up (va_up (va_up (va_up (va_up (va_up (fun _ => none) 0 (some (a9 0))) 1 (some (a10 0))) 2 (some (a11 0))) 3 (some (a12 0))) 4 (some (a13 0))) 5 (some (a14 0))) 6 (some (a15 0))) 7 (some (a16 0))) 8 (some (a17 0))) 9 (some (a18 0))))))))] ++ (((((((((((((((((([] : va_W) ++ wIX0 y a1) ++ wIX8 y a2) ++ wIX6 y (0 : Int32) a4) ++ wIX6 y (1000 : Int32) a5) ++ wIX3 y a6) ++ wIX7 y a7) ++ [(q8, .inl (y 1, 24, .inr (.inl (fun _ => 0))))]) ++ wIX6 y (0 : Int32) a9) ++ wIX6 y (0 : Int32) a10) ++ wIX6 y (0 : Int32) a11) ++ wIX6 y (0 : Int32) a12) ++ wIX6 y (0 : Int32) a13) ++ wIX6 y (0 : Int32) a14) ++ wIX6 y (0 : Int32) a15) ++ wIX6 y (0 : Int32) a16) ++ wIX6 y (0 : Int32) a17) ++ wIX6 y (0 : Int32) a18)) := hD
  refine lv_iinc (v := (10 : Int32)) (lv' := [(1, .int (10 : Int32)), (0, .ref h0)]) hx hb dX2_init_136 hl (k := 0) rfl (by decide) (by decide) rfl (fun ls hl => ?_)
  refine lv_goto (tgt := 116) hx hb dX2_init_139 (by decide) ?_
  refine lv_iload_n hx hb dX2_init_116 rfl (lv_at hl 0 rfl) ?_
  refine lv_bipush (v := (10 : Int32)) hx hb dX2_init_117 (by decide) ?_
  refine lv_icmp_ge (tgt := 142) hx hb dX2_init_119 (by decide) (fun _ => ?_) (fun c9 => absurd (by decide) c9)
  have hP : va_P D vwCl [(h0, .inr (2, [.ref (a1 0), .ref (a2 0), .ref q3, .ref (a4 0), .ref (a5 0), .ref (a6 0), .ref (a7 0), .ref q8, .int (24 : Int32), .int (24 : Int32), .int (24 : Int32), .int (0 : Int32)])), (q3, .inl (y 3, 10, .inr (.inr (.inr (.inr (va_up (va_up (va_up (va_up (va_up (va_up (va_up (va_up (va_up (va_up (fun _ => none) 0 (some (a9 0))) 1 (some (a10 0))) 2 (some (a11 0))) 3 (some (a12 0))) 4 (some (a13 0))) 5 (some (a14 0))) 6 (some (a15 0))) 7 (some (a16 0))) 8 (some (a17 0))) 9 (some (a18 0)))))))), (a1 0, .inr (0, [.ref (a1 1), .ref (a1 2), .ref (a1 3), .int 0, .int 0])), (a1 1, .inl (y 0, 10, .inl (fun _ => 0))), (a1 2, .inl (y 0, 10, .inl (fun _ => 0))), (a1 3, .inl (y 0, 10, .inl (fun _ => 0))), (a2 0, .inr (8, [.ref (a2 1)])), (a2 1, .inl (y 0, 14, .inl (va_cpy zz_first (fun _ => 0) 0 0 14))), (a4 0, .inr (6, [.ref (a4 1), .ref (a4 2), .int (0 : Int32)])), (a4 1, .inl (y 0, 24, .inl (fun k => if k < 24 then -1 else 0))), (a4 2, .inl (y 0, 24, .inl (fun k => if k < 24 then (0 : Int32) else 0))), (a5 0, .inr (6, [.ref (a5 1), .ref (a5 2), .int (1000 : Int32)])), (a5 1, .inl (y 0, 24, .inl (fun k => if k < 24 then -1 else 0))), (a5 2, .inl (y 0, 24, .inl (fun k => if k < 24 then (1000 : Int32) else 0))), (a6 0, .inr (3, [.ref (a6 1), .ref (a6 2), .ref (a6 3), .ref (a6 4), .int 0])), (a6 1, .inl (y 0, 8, .inl (fun _ => 0))), (a6 2, .inl (y 0, 8, .inl (fun _ => 0))), (a6 3, .inl (y 0, 8, .inl (fun _ => 0))), (a6 4, .inl (y 0, 8, .inl (fun _ => 0))), (a7 0, .inr (7, [.ref (a7 1), .ref (a7 2), .ref (a7 3), .ref (a7 4), .ref (a7 5), .int 0])), (a7 1, .inl (y 0, 6, .inl (fun _ => 0))), (a7 2, .inl (y 0, 6, .inl (fun _ => 0))), (a7 3, .inl (y 0, 6, .inl (fun _ => 0))), (a7 4, .inl (y 0, 6, .inl (fun _ => 0))), (a7 5, .inl (y 0, 6, .inl (fun _ => 0))), (q8, .inl (y 1, 24, .inr (.inl (fun _ => 0)))), (a9 0, .inr (6, [.ref (a9 1), .ref (a9 2), .int (0 : Int32)])), (a9 1, .inl (y 0, 24, .inl (fun k => if k < 24 then -1 else 0))), (a9 2, .inl (y 0, 24, .inl (fun k => if k < 24 then (0 : Int32) else 0))), (a10 0, .inr (6, [.ref (a10 1), .ref (a10 2), .int (0 : Int32)])), (a10 1, .inl (y 0, 24, .inl (fun k => if k < 24 then -1 else 0))), (a10 2, .inl (y 0, 24, .inl (fun k => if k < 24 then (0 : Int32) else 0))), (a11 0, .inr (6, [.ref (a11 1), .ref (a11 2), .int (0 : Int32)])), (a11 1, .inl (y 0, 24, .inl (fun k => if k < 24 then -1 else 0))), (a11 2, .inl (y 0, 24, .inl (fun k => if k < 24 then (0 : Int32) else 0))), (a12 0, .inr (6, [.ref (a12 1), .ref (a12 2), .int (0 : Int32)])), (a12 1, .inl (y 0, 24, .inl (fun k => if k < 24 then -1 else 0))), (a12 2, .inl (y 0, 24, .inl (fun k => if k < 24 then (0 : Int32) else 0))), (a13 0, .inr (6, [.ref (a13 1), .ref (a13 2), .int (0 : Int32)])), (a13 1, .inl (y 0, 24, .inl (fun k => if k < 24 then -1 else 0))), (a13 2, .inl (y 0, 24, .inl (fun k => if k < 24 then (0 : Int32) else 0))), (a14 0, .inr (6, [.ref (a14 1), .ref (a14 2), .int (0 : Int32)])), (a14 1, .inl (y 0, 24, .inl (fun k => if k < 24 then -1 else 0))), (a14 2, .inl (y 0, 24, .inl (fun k => if k < 24 then (0 : Int32) else 0))), (a15 0, .inr (6, [.ref (a15 1), .ref (a15 2), .int (0 : Int32)])), (a15 1, .inl (y 0, 24, .inl (fun k => if k < 24 then -1 else 0))), (a15 2, .inl (y 0, 24, .inl (fun k => if k < 24 then (0 : Int32) else 0))), (a16 0, .inr (6, [.ref (a16 1), .ref (a16 2), .int (0 : Int32)])), (a16 1, .inl (y 0, 24, .inl (fun k => if k < 24 then -1 else 0))), (a16 2, .inl (y 0, 24, .inl (fun k => if k < 24 then (0 : Int32) else 0))), (a17 0, .inr (6, [.ref (a17 1), .ref (a17 2), .int (0 : Int32)])), (a17 1, .inl (y 0, 24, .inl (fun k => if k < 24 then -1 else 0))), (a17 2, .inl (y 0, 24, .inl (fun k => if k < 24 then (0 : Int32) else 0))), (a18 0, .inr (6, [.ref (a18 1), .ref (a18 2), .int (0 : Int32)])), (a18 1, .inl (y 0, 24, .inl (fun k => if k < 24 then -1 else 0))), (a18 2, .inl (y 0, 24, .inl (fun k => if k < 24 then (0 : Int32) else 0)))] H := hP
  have hD : va_D A [(h0, .inr (2, [.ref (a1 0), .ref (a2 0), .ref q3, .ref (a4 0), .ref (a5 0), .ref (a6 0), .ref (a7 0), .ref q8, .int (24 : Int32), .int (24 : Int32), .int (24 : Int32), .int (0 : Int32)])), (q3, .inl (y 3, 10, .inr (.inr (.inr (.inr (va_up (va_up (va_up (va_up (va_up (va_up (va_up (va_up (va_up (va_up (fun _ => none) 0 (some (a9 0))) 1 (some (a10 0))) 2 (some (a11 0))) 3 (some (a12 0))) 4 (some (a13 0))) 5 (some (a14 0))) 6 (some (a15 0))) 7 (some (a16 0))) 8 (some (a17 0))) 9 (some (a18 0)))))))), (a1 0, .inr (0, [.ref (a1 1), .ref (a1 2), .ref (a1 3), .int 0, .int 0])), (a1 1, .inl (y 0, 10, .inl (fun _ => 0))), (a1 2, .inl (y 0, 10, .inl (fun _ => 0))), (a1 3, .inl (y 0, 10, .inl (fun _ => 0))), (a2 0, .inr (8, [.ref (a2 1)])), (a2 1, .inl (y 0, 14, .inl (va_cpy zz_first (fun _ => 0) 0 0 14))), (a4 0, .inr (6, [.ref (a4 1), .ref (a4 2), .int (0 : Int32)])), (a4 1, .inl (y 0, 24, .inl (fun k => if k < 24 then -1 else 0))), (a4 2, .inl (y 0, 24, .inl (fun k => if k < 24 then (0 : Int32) else 0))), (a5 0, .inr (6, [.ref (a5 1), .ref (a5 2), .int (1000 : Int32)])), (a5 1, .inl (y 0, 24, .inl (fun k => if k < 24 then -1 else 0))), (a5 2, .inl (y 0, 24, .inl (fun k => if k < 24 then (1000 : Int32) else 0))), (a6 0, .inr (3, [.ref (a6 1), .ref (a6 2), .ref (a6 3), .ref (a6 4), .int 0])), (a6 1, .inl (y 0, 8, .inl (fun _ => 0))), (a6 2, .inl (y 0, 8, .inl (fun _ => 0))), (a6 3, .inl (y 0, 8, .inl (fun _ => 0))), (a6 4, .inl (y 0, 8, .inl (fun _ => 0))), (a7 0, .inr (7, [.ref (a7 1), .ref (a7 2), .ref (a7 3), .ref (a7 4), .ref (a7 5), .int 0])), (a7 1, .inl (y 0, 6, .inl (fun _ => 0))), (a7 2, .inl (y 0, 6, .inl (fun _ => 0))), (a7 3, .inl (y 0, 6, .inl (fun _ => 0))), (a7 4, .inl (y 0, 6, .inl (fun _ => 0))), (a7 5, .inl (y 0, 6, .inl (fun _ => 0))), (q8, .inl (y 1, 24, .inr (.inl (fun _ => 0)))), (a9 0, .inr (6, [.ref (a9 1), .ref (a9 2), .int (0 : Int32)])), (a9 1, .inl (y 0, 24, .inl (fun k => if k < 24 then -1 else 0))), (a9 2, .inl (y 0, 24, .inl (fun k => if k < 24 then (0 : Int32) else 0))), (a10 0, .inr (6, [.ref (a10 1), .ref (a10 2), .int (0 : Int32)])), (a10 1, .inl (y 0, 24, .inl (fun k => if k < 24 then -1 else 0))), (a10 2, .inl (y 0, 24, .inl (fun k => if k < 24 then (0 : Int32) else 0))), (a11 0, .inr (6, [.ref (a11 1), .ref (a11 2), .int (0 : Int32)])), (a11 1, .inl (y 0, 24, .inl (fun k => if k < 24 then -1 else 0))), (a11 2, .inl (y 0, 24, .inl (fun k => if k < 24 then (0 : Int32) else 0))), (a12 0, .inr (6, [.ref (a12 1), .ref (a12 2), .int (0 : Int32)])), (a12 1, .inl (y 0, 24, .inl (fun k => if k < 24 then -1 else 0))), (a12 2, .inl (y 0, 24, .inl (fun k => if k < 24 then (0 : Int32) else 0))), (a13 0, .inr (6, [.ref (a13 1), .ref (a13 2), .int (0 : Int32)])), (a13 1, .inl (y 0, 24, .inl (fun k => if k < 24 then -1 else 0))), (a13 2, .inl (y 0, 24, .inl (fun k => if k < 24 then (0 : Int32) else 0))), (a14 0, .inr (6, [.ref (a14 1), .ref (a14 2), .int (0 : Int32)])), (a14 1, .inl (y 0, 24, .inl (fun k => if k < 24 then -1 else 0))), (a14 2, .inl (y 0, 24, .inl (fun k => if k < 24 then (0 : Int32) else 0))), (a15 0, .inr (6, [.ref (a15 1), .ref (a15 2), .int (0 : Int32)])), (a15 1, .inl (y 0, 24, .inl (fun k => if k < 24 then -1 else 0))), (a15 2, .inl (y 0, 24, .inl (fun k => if k < 24 then (0 : Int32) else 0))), (a16 0, .inr (6, [.ref (a16 1), .ref (a16 2), .int (0 : Int32)])), (a16 1, .inl (y 0, 24, .inl (fun k => if k < 24 then -1 else 0))), (a16 2, .inl (y 0, 24, .inl (fun k => if k < 24 then (0 : Int32) else 0))), (a17 0, .inr (6, [.ref (a17 1), .ref (a17 2), .int (0 : Int32)])), (a17 1, .inl (y 0, 24, .inl (fun k => if k < 24 then -1 else 0))), (a17 2, .inl (y 0, 24, .inl (fun k => if k < 24 then (0 : Int32) else 0))), (a18 0, .inr (6, [.ref (a18 1), .ref (a18 2), .int (0 : Int32)])), (a18 1, .inl (y 0, 24, .inl (fun k => if k < 24 then -1 else 0))), (a18 2, .inl (y 0, 24, .inl (fun k => if k < 24 then (0 : Int32) else 0)))] := hD
  obtain ⟨a, ea⟩ : ∃ a : Nat → Nat, a = fun k => [h0, a1 0, a1 1, a1 2, a1 3, a2 0, a2 1, q3, a9 0, a9 1, a9 2, a10 0, a10 1, a10 2, a11 0, a11 1, a11 2, a12 0, a12 1, a12 2, a13 0, a13 1, a13 2, a14 0, a14 1, a14 2, a15 0, a15 1, a15 2, a16 0, a16 1, a16 2, a17 0, a17 1, a17 2, a18 0, a18 1, a18 2, a4 0, a4 1, a4 2, a5 0, a5 1, a5 2, a6 0, a6 1, a6 2, a6 3, a6 4, a7 0, a7 1, a7 2, a7 3, a7 4, a7 5, q8].getD k 0 := ⟨_, rfl⟩
  have hP := zz_swapE (k := 1) (f' := fun j => some (a (8 + 3 * j))) hP rfl (fun j hj => by
      subst ea
      match j, hj with
      | 0, _ => rfl
      | 1, _ => rfl
      | 2, _ => rfl
      | 3, _ => rfl
      | 4, _ => rfl
      | 5, _ => rfl
      | 6, _ => rfl
      | 7, _ => rfl
      | 8, _ => rfl
      | 9, _ => rfl
      )
  have hD := hD.set (p := 1) (e := .inl (y 3, 10, .inr (.inr (.inr (.inr (fun j => some (a (8 + 3 * j)))))))) rfl
  have hP9 : va_P D vwCl (wIX2 y a) H := by
    subst ea
    exact hP.sub [0, 2, 3, 4, 5, 6, 7, 1, 26, 27, 28, 29, 30, 31, 32, 33, 34, 35, 36, 37, 38, 39, 40, 41, 42, 43, 44, 45, 46, 47, 48, 49, 50, 51, 52, 53, 54, 55, 8, 9, 10, 11, 12, 13, 14, 15, 16, 17, 18, 19, 20, 21, 22, 23, 24, 25] rfl
  have hD9 : va_D A (wIX2 y a) := by
    subst ea
    exact hD.sub [0, 2, 3, 4, 5, 6, 7, 1, 26, 27, 28, 29, 30, 31, 32, 33, 34, 35, 36, 37, 38, 39, 40, 41, 42, 43, 44, 45, 46, 47, 48, 49, 50, 51, 52, 53, 54, 55, 8, 9, 10, 11, 12, 13, 14, 15, 16, 17, 18, 19, 20, 21, 22, 23, 24, 25] (by decide) rfl
  have e0 : a 0 = h0 := by rw [ea]; rfl
  exact W.vret hx hb hr (fun t ht hW => ⟨⟨a, rfl, e0, by rw [ht]; exact hP9, va_K.moved hW.alike hK, hD9⟩, hS.F ht⟩) hS.2.2 dX2_init_142
