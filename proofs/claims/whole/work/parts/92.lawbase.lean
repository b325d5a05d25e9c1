/-! ===== calls on a part of the law's world ===== -/
def wO (y : Nat → ClassId) (r0 : Nat) (o : Nat → Int64) : va_W := [(r0, .inl (y 1, 1, .inr (.inl o)))]
theorem zz_frontP {D : va_G} {cl : List vw_C} {X wc : va_W} {H : Heap} (hP : va_P D cl (X ++ wc) H) : va_P D cl X H := fun k q h => hP k q (by rw [List.getElem?_append_left (List.getElem?_eq_some_iff.mp h).1]; exact h)
theorem zz_frontD {A : Nat → Prop} {X wc : va_W} (hD : va_D A (X ++ wc)) : va_D A X := ⟨fun i j x y hi hj hxy => hD.1 i j x y (by rw [List.getElem?_append_left (List.getElem?_eq_some_iff.mp hi).1]; exact hi) (by rw [List.getElem?_append_left (List.getElem?_eq_some_iff.mp hj).1]; exact hj) hxy, fun k q h => hD.2 k q (by rw [List.getElem?_append_left (List.getElem?_eq_some_iff.mp h).1]; exact h)⟩
theorem zz_comP {D : va_G} {cl : List vw_C} {X Y : va_W} {H : Heap} (hP : va_P D cl (X ++ Y) H) : va_P D cl (Y ++ X) H := va_P.app (zz_endP hP) (zz_frontP hP)
theorem zz_comD {A : Nat → Prop} {X Y : va_W} (hD : va_D A (X ++ Y)) : va_D A (Y ++ X) := va_D.app (zz_endD hD) (zz_frontD hD) (fun i j p q hi hj e => by
  have h1 : (X ++ Y)[X.length + i]? = some p := by rw [List.getElem?_append_right (by omega), Nat.add_sub_cancel_left]; exact hi
  have hl := (List.getElem?_eq_some_iff.mp hj).1
  have h2 : (X ++ Y)[j]? = some q := by rw [List.getElem?_append_left hl]; exact hj
  have := hD.1 (X.length + i) j p q h1 h2 e
  omega)
section ZL
variable {p : Program} {l : Launch} {e : Env} {R : Room} {s : State} {m : MethodId} {args : Array Value} {below : List Frame} {meth : Method} {c : Code} {H : Heap} {locs : List Loc} {cells slots : Nat} {Q : State → Prop}
variable {pc : Nat} {ls : Array Slot} {rest st0 : List Value} {A : Nat → Prop} {D : va_G} {y : Nat → ClassId} {w : zz_M → va_W} {z zt : zz_M} {X : va_W}
variable {yc : MethodName} {bytes cc : ByteArray} {maxL nL n index mc ms : Nat} {ret : Option FieldType} {wsc : List Cond} {rm : Room} {Ts : List Cond} {own C : String} {b : Addr} {As : List Value}
theorem zl_runV {Qc : Array Value → State → Outcome → State → Prop} (S : CallFix p m c cc nL s args Ts own) (hM : Met l yc wsc rm (zz_Pc D y (w z) H.size (.ref b :: As)) Qc mc ms (va_A (w z) H.size)) (cw : CallW R s args own C index yc bytes maxL ret wsc rm mc ms n)
    (hK : va_K D vwCl (zz_ty y) s) (hN : zz_nw s) (hg : zz_gr A s s.heap) (hP : va_P D vwCl (X ++ w z) H) (hD : va_D A (X ++ w z)) (hS : va_S A s.heap H locs) (hA : ∀ q, s.heap.size ≤ q → A q) (q0 : Nat) {ci : Nat} {fs : List Value} (he : (w z)[q0]? = some (b, .inr (ci, fs))) {T : u_T} {N : Nat} (hc : vwCl[ci]? = some (C, T, N))
    (hn : As.length = n) (hsize : ls.size = nL) (hstack : st0 = As.reverse ++ .ref b :: rest) (hW : (rest.map fun v => v.category).sum ≤ 8) (hdg : decode cc pc = .ok (.invokevirtual index, 3)) (hf : cells + mc ≤ R.cells ∧ slots + ms ≤ R.slots) :
    va_Run p l e R s m args below meth c H locs cells slots mc ms (F0 m pc ls st0) rest (Qc (Value.ref b :: As).toArray) (va_A (w z) H.size) :=
  va_runV S hM cw ⟨zz_blind _ _ _ _ _, va_recv hK (zz_endP hP) hc he, zz_pre (.ref b :: As) (zz_endP hP) hK (zz_endD hD) hN hg hS hA⟩ rfl hn hsize hstack (lv_room hW) hdg hf
theorem zl_runVX {Qc : Array Value → State → Outcome → State → Prop} {XC : String → State → State → Prop} (S : CallFix p m c cc nL s args Ts own) (hM : vx_Met l yc wsc rm (zz_PcX D y (w z) H.size (.ref b :: As)) Qc XC mc ms (va_A (w z) H.size)) (cw : CallW R s args own C index yc bytes maxL ret wsc rm mc ms n)
    (hK : va_K D vwCl (zz_ty y) s) (hN : zz_nw s) (hg : zz_gr A s s.heap) (hxx : zz_ex A s s.heap) (hP : va_P D vwCl (X ++ w z) H) (hD : va_D A (X ++ w z)) (hS : va_S A s.heap H locs) (hA : ∀ q, s.heap.size ≤ q → A q) (q0 : Nat) {ci : Nat} {fs : List Value} (he : (w z)[q0]? = some (b, .inr (ci, fs))) {T : u_T} {N : Nat} (hc : vwCl[ci]? = some (C, T, N))
    (hn : As.length = n) (hsize : ls.size = nL) (hstack : st0 = As.reverse ++ .ref b :: rest) (hW : (rest.map fun v => v.category).sum ≤ 8) (hdg : decode cc pc = .ok (.invokevirtual index, 3)) (hf : cells + mc ≤ R.cells ∧ slots + ms ≤ R.slots) :
    vx_Run p l e R s m args below meth c H locs cells slots mc ms (F0 m pc ls st0) rest (Qc (Value.ref b :: As).toArray) XC (va_A (w z) H.size) :=
  vx_runV S hM cw ⟨zz_blindX _ _ _ _ _, va_recv hK (zz_endP hP) hc he, zz_preX (.ref b :: As) (zz_endP hP) hK (zz_endD hD) hN hg hxx hS hA⟩ rfl hn hsize hstack (lv_room hW) hdg hf
theorem zl_calli {r : Int32} {H0 : Heap} {av : Array Value} (hr : va_Run p l e R s m args below meth c H locs cells slots mc ms (F0 m pc ls st0) rest (zz_Qi D y w (va_A (w z) H.size) r zt av) (va_A (w z) H.size)) (hP : va_P D vwCl (X ++ w z) H) (hD : va_D A (X ++ w z)) (hS : va_S A H0 H locs) (hA : ∀ q, H0.size ≤ q → A q)
    (kk : ∀ (H1 : Heap) (locs1 : List Loc), va_P D vwCl (X ++ w zt) H1 → va_D A (X ++ w zt) → va_S A H0 H1 locs1 → W p l e R s m args below meth c H1 locs1 (cells + mc) (slots + ms) Q (F0 m (pc + 3) ls (.int r :: rest))) : W p l e R s m args below meth c H locs cells slots Q (F0 m pc ls st0) := by
  have hf := zz_free (zz_endD hD) hS hA
  refine va_calli hr hS (fun q _ h => hf q h) hf (fun r1 u t H1 locs1 ht hvm hw hB hz1 hk1 hS1 => ?_)
  obtain ⟨rfl, rfl⟩ := hw
  obtain ⟨hP1, -, hD1⟩ := hB
  rw [ht] at hP1
  obtain ⟨hP2, hD2⟩ := zz_join hP hD hk1 hf hP1 hD1
  exact kk H1 locs1 hP2 hD2 hS1
theorem zl_calll {r : Int64} {H0 : Heap} {av : Array Value} (hr : va_Run p l e R s m args below meth c H locs cells slots mc ms (F0 m pc ls st0) rest (zz_Ql D y w (va_A (w z) H.size) r zt av) (va_A (w z) H.size)) (hP : va_P D vwCl (X ++ w z) H) (hD : va_D A (X ++ w z)) (hS : va_S A H0 H locs) (hA : ∀ q, H0.size ≤ q → A q)
    (kk : ∀ (H1 : Heap) (locs1 : List Loc), va_P D vwCl (X ++ w zt) H1 → va_D A (X ++ w zt) → va_S A H0 H1 locs1 → W p l e R s m args below meth c H1 locs1 (cells + mc) (slots + ms) Q (F0 m (pc + 3) ls (.long r :: rest))) : W p l e R s m args below meth c H locs cells slots Q (F0 m pc ls st0) := by
  have hf := zz_free (zz_endD hD) hS hA
  refine va_calll hr hS (fun q _ h => hf q h) hf (fun r1 u t H1 locs1 ht hvm hw hB hz1 hk1 hS1 => ?_)
  obtain ⟨rfl, rfl⟩ := hw
  obtain ⟨hP1, -, hD1⟩ := hB
  rw [ht] at hP1
  obtain ⟨hP2, hD2⟩ := zz_join hP hD hk1 hf hP1 hD1
  exact kk H1 locs1 hP2 hD2 hS1
/-- a call that throws: never an answer -/
theorem zl_callX {H0 : Heap} (hr : vx_Run p l e R s m args below meth c H locs cells slots mc ms (F0 m pc ls st0) rest (fun _ _ _ => False) (zz_XC D y w (va_A (w z) H.size) z) (va_A (w z) H.size)) (hP : va_P D vwCl (X ++ w z) H) (hD : va_D A (X ++ w z)) (hS : va_S A H0 H locs) (hA : ∀ q, H0.size ≤ q → A q)
    (kx : ∀ (ce : Cell) (q9 : Addr) (H1 : Heap) (locs1 : List Loc), va_P D vwCl (X ++ w z) H1 → va_D A (X ++ w z) → va_S A H0 H1 locs1 → H1[q9]? = some ce → ce.vm = .none → s.vm.findClass "java/util/NoSuchElementException" = some ce.cls → vx_W p l e R s m args below meth c H1 locs1 (cells + mc) (slots + ms) Q (F0 m pc ls rest) q9) : W p l e R s m args below meth c H locs cells slots Q (F0 m pc ls st0) := by
  have hf := zz_free (zz_endD hD) hS hA
  intro T hT X0
  rcases hr T hT X0 with ⟨v, st₀, t, T', L, h0, X', hL, e1, e2, hF, st⟩ | ⟨q, st₀, t, T', L, E, ce, h0, X', hL, e1, e2, ⟨u, hu, ⟨hE, hB⟩, hF⟩, hce, hcv, hcl, st⟩
  · exact hF.elim
  · subst hu
    subst hE
    obtain ⟨hP1, -, hD1⟩ := hB
    obtain ⟨k1, k2, k3⟩ := vx_keep h0 e1 hS (fun q _ h => hf q h) hf hL hF
    rw [← e1] at hP1 hce
    obtain ⟨hP2, hD2⟩ := zz_join hP hD k2 hf hP1 hD1
    obtain ⟨t2, a1, b1⟩ := kx ce q T'.heap (locs ++ L) hP2 hD2 k3 hce hcv hcl T' rfl X'
    exact ⟨t2, st.trans a1, b1⟩
/-- the answer of the law's own methods: a mark, the class's memory, what lies in the row -/
abbrev zl_Q (D : va_G) (y : Nat → ClassId) (a : Nat → Nat) (r0 : Nat) (A : Nat → Prop) (r : Int32) (zt : zz_M) (o : Nat → Int64) : Array Value → State → Outcome → State → Prop := va_Qi (fun (r1 : Int32) (u : zz_M × (Nat → Int64)) => r1 = r ∧ u = (zt, o)) (fun u t => va_P D vwCl (wO y r0 u.2 ++ wC y a u.1) t.heap ∧ va_K D vwCl (zz_ty y) t ∧ va_D A (wO y r0 u.2 ++ wC y a u.1)) A
abbrev zl_X : String → State → State → Prop := vx_X (fun _ : Unit => False) (fun _ _ _ => False) (fun _ => False)
theorem zl_iret {a : Nat → Nat} {r0 : Nat} {r : Int32} {o : Nat → Int64} (hx : p.tables.exec = Jvm.exec) (hb : c.code = cc) (hr : meth.sig.returnType = some .int) (hlocks : meth.locks = false) (hP : va_P D vwCl (wO y r0 o ++ wC y a zt) H) (hK : va_K D vwCl (zz_ty y) s) (hD : va_D A (wO y r0 o ++ wC y a zt)) (hS : va_S A s.heap H locs) (hdg : decode cc pc = .ok (.ireturn, 1)) :
    W p l e R s m args below meth c H locs 1 6 (vx_MQ below (zl_Q D y a r0 A r zt o) zl_X args s 1 6 A) (F0 m pc ls [.int r]) :=
  vx_ret (W.iret hx hb hr (fun t ht hW => ⟨⟨_, _, rfl, ⟨rfl, rfl⟩, by rw [ht]; exact hP, va_K.moved hW.alike hK, hD⟩, hS.F ht⟩) hS.2.2 hdg)
end ZL
theorem zdL_amount : yL_amount.cls ≠ "java/lang/invoke/MethodHandle" ∧ yL_amount.cls ≠ "java/lang/invoke/VarHandle" ∧ (parseMethodDescriptor yL_amount.desc).map (fun d => d.parameters.length) = some 4 := by decide +kernel
theorem zdL_row : yL_row.cls ≠ "java/lang/invoke/MethodHandle" ∧ yL_row.cls ≠ "java/lang/invoke/VarHandle" ∧ (parseMethodDescriptor yL_row.desc).map (fun d => d.parameters.length) = some 3 := by decide +kernel
