/-- the memory of a system: int arrays by number, long arrays by number, int fields by number, long fields by number -/
abbrev zz_M : Type := (Nat → Nat → Int32) × (Nat → Nat → Int64) × (Nat → Int32) × (Nat → Int64)
def zz_sI (s : zz_M) (q : Nat) (f : Nat → Int32) : zz_M := (va_up s.1 q f, s.2.1, s.2.2.1, s.2.2.2)
def zz_sJ (s : zz_M) (q : Nat) (f : Nat → Int64) : zz_M := (s.1, va_up s.2.1 q f, s.2.2.1, s.2.2.2)
def zz_sF (s : zz_M) (q : Nat) (v : Int32) : zz_M := (s.1, s.2.1, va_up s.2.2.1 q v, s.2.2.2)
def zz_sG (s : zz_M) (q : Nat) (v : Int64) : zz_M := (s.1, s.2.1, s.2.2.1, va_up s.2.2.2 q v)
/-- a write into an int array, a byte array, a long array -/
def zz_wI (s : zz_M) (q : Nat) (i x : Int32) : zz_M := zz_sI s q (upd (s.1 q) i.toNatClampNeg x)
def zz_wB (s : zz_M) (q : Nat) (i x : Int32) : zz_M := zz_sI s q (upd (s.1 q) i.toNatClampNeg (vp_nar .byte x))
def zz_wJ (s : zz_M) (q : Nat) (i : Int32) (x : Int64) : zz_M := zz_sJ s q (vp_updL (s.2.1 q) i.toNatClampNeg x)
/-- how often a loop of a model may go round -/
def zz_N : Nat := 300
/-- what a test lets through -/
def zz_ck {α : Type} (P : Prop) [Decidable P] (k : Option α) : Option α := if P then k else none
theorem zz_ck_some {α : Type} {P : Prop} [Decidable P] {k : Option α} {r : α} (h : zz_ck P k = some r) : P ∧ k = some r := by
  unfold zz_ck at h
  by_cases hP : P
  · rw [if_pos hP] at h; exact ⟨hP, h⟩
  · rw [if_neg hP] at h; cases h
theorem zz_ck_of {α : Type} {P : Prop} [Decidable P] {k : Option α} (h : P) : zz_ck P k = k := if_pos h
/-- a call in a model: one that reads, one that writes -/
def zz_b1 {α β : Type} (x : Option α) (f : α → Option β) : Option β := match x with
  | none => none
  | some y => f y
def zz_b2 {α β : Type} (x : Option (α × zz_M)) (f : α → zz_M → Option β) : Option β := match x with
  | none => none
  | some y => f y.1 y.2
theorem zz_b1_some {α β : Type} {x : Option α} {f : α → Option β} {r : β} (h : zz_b1 x f = some r) : ∃ y, x = some y ∧ f y = some r := by
  cases x with
  | none => cases h
  | some y => exact ⟨y, rfl, h⟩
theorem zz_b2_some {α β : Type} {x : Option (α × zz_M)} {f : α → zz_M → Option β} {r : β} (h : zz_b2 x f = some r) : ∃ y s, x = some (y, s) ∧ f y s = some r := by
  cases x with
  | none => cases h
  | some y => exact ⟨y.1, y.2, rfl, h⟩
/-- a name in a model -/
def zz_nm {α β : Type} (x : α) (f : α → Option β) : Option β := f x
theorem zz_nm_some {α β : Type} {x y : α} {f : α → Option β} {r : Option β} (e : y = x) (h : zz_nm x f = r) : f y = r := by subst e; exact h
theorem zz_eqP {D : va_G} {cl : List vw_C} {ws ws' : va_W} {H : Heap} (e : ws = ws') (h : va_P D cl ws H) : va_P D cl ws' H := e ▸ h
/-- behind a write: the memory gets a new name -/
theorem zz_up {β : Type} {D : va_G} {cl : List vw_C} {A : Nat → Prop} {ws : va_W} {w : zz_M → va_W} {zn : zz_M} {f : zz_M → Option β} {r : Option β} {H : Heap} (e : ws = w zn) (hP : va_P D cl ws H) (hD : va_D A ws) (hm : zz_nm zn f = r) : ∃ z1 : zz_M, va_P D cl (w z1) H ∧ va_D A (w z1) ∧ f z1 = r := ⟨zn, e ▸ hP, e ▸ hD, hm⟩
theorem zz_none {α : Type} {r : α} {P : Prop} (h : (none : Option α) = some r) : P := by cases h
theorem zz_pos {c : Prop} [Decidable c] {α : Type} {x y r : α} (hc : c) (h : (if c then x else y) = r) : x = r := (if_pos hc).symm.trans h
theorem zz_neg {c : Prop} [Decidable c] {α : Type} {x y r : α} (hc : ¬ c) (h : (if c then x else y) = r) : y = r := (if_neg hc).symm.trans h
theorem zz_some2 {α : Type} {x y : α} {s t : zz_M} (h : some (x, s) = some (y, t)) : y = x ∧ t = s := by cases h; exact ⟨rfl, rfl⟩
theorem zz_some1 {α : Type} {x y : α} (h : some x = some y) : y = x := by cases h; rfl
abbrev zz_in (i : Int32) (n : Nat) : Prop := ¬ (i < 0 ∨ n ≤ i.toNatClampNeg)
theorem zz_lt {i : Int32} {n k : Nat} (h : zz_in i n) (hk : n ≤ k) : i.toNatClampNeg < k := Nat.lt_of_lt_of_le (Nat.not_le.mp fun q => h (Or.inr q)) hk
abbrev zz_bool (r : Int32) : Prop := r = 0 ∨ r = 1
theorem zz_bool_nar {r : Int32} (h : zz_bool r) : narrow .boolean (.int r) = .int r := by
  rcases h with h | h <;> subst h <;> decide +kernel
/-- the array classes -/
def zz_ty (y : Nat → ClassId) : List (ClassId × FieldType) := [(y 0, .int), (y 1, .long), (y 2, .byte), (y 3, .object RX6), (y 4, .array .long)]
/-- the private methods of nest mates that are called -/
def zz_nl : List (String × Nat × MethodName × String) := [(RX10, 11, yX9_init, RX10), (RX10, 18, yX1_init, RX10), (RX10, 32, yX4_init, RX10), (RX10, 46, yX5_init, RX10), (RX1, 11, yX0_init, RX10), (RX1, 43, yX10_isKind, RX10), (RX1, 58, yX10_isWithin, RX10), (RX2, 104, yX10_thousandths, RX10), (RX2, 11, yX0_init, RX10), (RX2, 43, yX3_init, RX10), (RX2, 50, yX7_init, RX10), (RX4, 106, yX10_thousandths, RX10), (RX7, 38, yX10_thousandths, RX10), (RX8, 29, yX10_isWithin, RX10)]
def zz_nw (U : State) : Prop := ∀ q ∈ zz_nl, va_Nw (.methodLinkNest q.1 q.2.1 q.2.2.1 q.2.2.2) U
/-- the greatest values of the terms and the first ones: static arrays that nobody writes -/
def zz_great (j : Nat) : Int32 := [200, 200, 1000, 300, 500, 1000, 1000, 100, 6, 500, 1000, 50, 200, 1000].getD j 0
def zz_first (j : Nat) : Int32 := [100, 50, 500, 100, 200, 250, 800, 10, 1, 150, 900, 0, 100, 0].getD j 0
def zz_gr (A : Nat → Prop) (U : State) (H : Heap) : Prop := (∃ g : Nat, va_Z "WorksDesk$Terms" "GREATEST" "[I" (.ref g) A U H ∧ va_T .int g 14 (fun j => .int (zz_great j)) A U H) ∧ (∃ g : Nat, va_Z "WorksDesk$Terms" "AT_FIRST" "[I" (.ref g) A U H ∧ va_T .int g 14 (fun j => .int (zz_first j)) A U H) ∧ va_AO RX6 U ∧ zz_aoL U
theorem zz_gr.moved {A : Nat → Prop} {u U : State} {H : Heap} (hvm : u.vm.Alike U.vm) (h : zz_gr A u H) : zz_gr A U H := by
  obtain ⟨⟨g, h1, h2⟩, ⟨k, h3, h4⟩, h5, h6⟩ := h
  exact ⟨⟨g, h1.moved hvm, h2.moved hvm⟩, ⟨k, h3.moved hvm, h4.moved hvm⟩, h5.moved hvm, h6.moved hvm⟩
theorem zz_gr.go {A B : Nat → Prop} {U : State} {H H1 : Heap} (h : zz_gr A U H) (hq : ∀ a : Nat, a < H.size → ¬ A a → H1[a]? = H[a]?) (hAB : ∀ q, B q → A q) : zz_gr B U H1 := by
  obtain ⟨⟨g, h1, h2⟩, ⟨k, h3, h4⟩, h5, h6⟩ := h
  exact ⟨⟨g, (h1.kept hq).narrow hAB, (h2.kept hq).narrow hAB⟩, ⟨k, (h3.kept hq).narrow hAB, (h4.kept hq).narrow hAB⟩, h5, h6⟩
def zz_Pc (D : va_G) (y : Nat → ClassId) (ws : va_W) (sz : Nat) (av : List Value) : Array Value → State → Prop := va_Pc av (fun U => U.heap.size = sz ∧ va_P D vwCl ws U.heap ∧ va_K D vwCl (zz_ty y) U ∧ va_D (fun _ => True) ws ∧ zz_nw U ∧ zz_gr (va_A ws sz) U U.heap)
def zz_B (D : va_G) (y : Nat → ClassId) (w : zz_M → va_W) (A : Nat → Prop) (u : zz_M) (t : State) : Prop := va_P D vwCl (w u) t.heap ∧ va_K D vwCl (zz_ty y) t ∧ va_D A (w u)
theorem zz_free {A : Nat → Prop} {ws : va_W} {H0 H : Heap} {locs : List Loc} (hD : va_D A ws) (hS : va_S A H0 H locs) (hA : ∀ q, H0.size ≤ q → A q) : ∀ q, va_A ws H.size q → A q := by
  intro q h
  rcases h with ⟨k, e, h⟩ | h
  · exact hD.2 k (q, e) h
  · exact hA q (Nat.le_trans hS.1 h)
theorem zz_blind (D : va_G) (y : Nat → ClassId) (ws : va_W) (sz : Nat) (av : List Value) : FrameBlind (zz_Pc D y ws sz av) := fun a U g mk q => by
  obtain ⟨q0, q1, qP, qK, qD, qN, qg⟩ := q
  exact ⟨q0, q1, qP, va_K.moved (u := U) (U := U.calling g mk a) (Vm.Alike.refl U.vm) qK, qD, fun w hw => va_Nw.same rfl rfl (qN w hw), zz_gr.moved (u := U) (U := U.calling g mk a) (Vm.Alike.refl U.vm) qg⟩
theorem zz_pre {D : va_G} {y : Nat → ClassId} {ws : va_W} {s : State} {H : Heap} {A : Nat → Prop} {locs : List Loc} (av : List Value) (hP : va_P D vwCl ws H) (hK : va_K D vwCl (zz_ty y) s) (hD : va_D A ws) (hN : zz_nw s) (hg : zz_gr A s s.heap) (hS : va_S A s.heap H locs) (hA : ∀ q, s.heap.size ≤ q → A q) : ∀ U : State, U.heap = H → s.WarmedH U.vm → zz_Pc D y ws H.size av av.toArray U :=
  fun U hU hW => ⟨rfl, by rw [hU], by rw [hU]; exact hP, va_K.moved hW.alike hK, hD.weaken (fun _ _ _ _ => trivial), fun w hw => va_Nw.warmM hW (hN w hw), by rw [hU]; exact (hg.go hS.2.1 (zz_free hD hS hA)).moved hW.alike⟩
/-- what a method's end says -/
abbrev zz_Qi (D : va_G) (y : Nat → ClassId) (w : zz_M → va_W) (A : Nat → Prop) (r : Int32) (t : zz_M) : Array Value → State → Outcome → State → Prop := va_Qi (fun (r1 : Int32) (u : zz_M) => r1 = r ∧ u = t) (zz_B D y w A) A
abbrev zz_Ql (D : va_G) (y : Nat → ClassId) (w : zz_M → va_W) (A : Nat → Prop) (r : Int64) (t : zz_M) : Array Value → State → Outcome → State → Prop := va_Ql (fun (r1 : Int64) (u : zz_M) => r1 = r ∧ u = t) (zz_B D y w A) A
abbrev zz_Qv (D : va_G) (y : Nat → ClassId) (w : zz_M → va_W) (A : Nat → Prop) (t : zz_M) : Array Value → State → Outcome → State → Prop := va_Qv (fun (u : zz_M) => u = t) (zz_B D y w A) A
abbrev zz_Qr (D : va_G) (y : Nat → ClassId) (w : zz_M → va_W) (A : Nat → Prop) (b : Nat) (t : zz_M) : Array Value → State → Outcome → State → Prop := va_Qr (fun (u : zz_M) => u = t) (fun u ra T => ra = b ∧ zz_B D y w A u T) A
section ZZ
variable {p : Program} {l : Launch} {e : Env} {R : Room} {s : State} {m : MethodId} {args : Array Value} {below : List Frame} {meth : Method} {c : Code} {H : Heap} {locs : List Loc} {cells slots : Nat} {Q : State → Prop}
variable {pc : Nat} {ls : Array Slot} {rest st0 : List Value} {A : Nat → Prop} {D : va_G} {y : Nat → ClassId} {w : zz_M → va_W} {z zt : zz_M}
variable {yc : MethodName} {bytes cc : ByteArray} {maxL nL n index : Nat} {ret : Option FieldType} {wsc : List Cond} {rm : Room} {Ts : List Cond} {own C : String} {b : Addr} {As : List Value}
theorem zz_calli {r : Int32} {H0 : Heap} {av : Array Value} (hr : va_Run p l e R s m args below meth c H locs cells slots 0 0 (F0 m pc ls st0) rest (zz_Qi D y w (va_A (w z) H.size) r zt av) (va_A (w z) H.size)) (hD : va_D A (w z)) (hS : va_S A H0 H locs) (hA : ∀ q, H0.size ≤ q → A q)
    (kk : ∀ (H1 : Heap) (locs1 : List Loc), va_P D vwCl (w zt) H1 → va_D A (w zt) → va_S A H0 H1 locs1 → W p l e R s m args below meth c H1 locs1 cells slots Q (F0 m (pc + 3) ls (.int r :: rest))) : W p l e R s m args below meth c H locs cells slots Q (F0 m pc ls st0) := by
  have hf := zz_free hD hS hA
  refine va_calli hr hS (fun q _ h => hf q h) hf (fun r1 u t H1 locs1 ht hvm hw hB hz1 hk1 hS1 => ?_)
  obtain ⟨rfl, rfl⟩ := hw
  obtain ⟨hP1, -, hD1⟩ := hB
  rw [ht] at hP1
  exact kk H1 locs1 hP1 (hD1.weaken (fun _ _ _ h => hf _ h)) hS1
theorem zz_calll {r : Int64} {H0 : Heap} {av : Array Value} (hr : va_Run p l e R s m args below meth c H locs cells slots 0 0 (F0 m pc ls st0) rest (zz_Ql D y w (va_A (w z) H.size) r zt av) (va_A (w z) H.size)) (hD : va_D A (w z)) (hS : va_S A H0 H locs) (hA : ∀ q, H0.size ≤ q → A q)
    (kk : ∀ (H1 : Heap) (locs1 : List Loc), va_P D vwCl (w zt) H1 → va_D A (w zt) → va_S A H0 H1 locs1 → W p l e R s m args below meth c H1 locs1 cells slots Q (F0 m (pc + 3) ls (.long r :: rest))) : W p l e R s m args below meth c H locs cells slots Q (F0 m pc ls st0) := by
  have hf := zz_free hD hS hA
  refine va_calll hr hS (fun q _ h => hf q h) hf (fun r1 u t H1 locs1 ht hvm hw hB hz1 hk1 hS1 => ?_)
  obtain ⟨rfl, rfl⟩ := hw
  obtain ⟨hP1, -, hD1⟩ := hB
  rw [ht] at hP1
  exact kk H1 locs1 hP1 (hD1.weaken (fun _ _ _ h => hf _ h)) hS1
theorem zz_callv {H0 : Heap} {av : Array Value} (hr : va_Run p l e R s m args below meth c H locs cells slots 0 0 (F0 m pc ls st0) rest (zz_Qv D y w (va_A (w z) H.size) zt av) (va_A (w z) H.size)) (hD : va_D A (w z)) (hS : va_S A H0 H locs) (hA : ∀ q, H0.size ≤ q → A q)
    (kk : ∀ (H1 : Heap) (locs1 : List Loc), va_P D vwCl (w zt) H1 → va_D A (w zt) → va_S A H0 H1 locs1 → W p l e R s m args below meth c H1 locs1 cells slots Q (F0 m (pc + 3) ls rest)) : W p l e R s m args below meth c H locs cells slots Q (F0 m pc ls st0) := by
  have hf := zz_free hD hS hA
  refine va_callv hr hS (fun q _ h => hf q h) hf (fun u t H1 locs1 ht hvm hw hB hz1 hk1 hS1 => ?_)
  obtain rfl := hw
  obtain ⟨hP1, -, hD1⟩ := hB
  rw [ht] at hP1
  exact kk H1 locs1 hP1 (hD1.weaken (fun _ _ _ h => hf _ h)) hS1
theorem zz_callr {rb : Nat} {H0 : Heap} {av : Array Value} (hr : va_Run p l e R s m args below meth c H locs cells slots 0 0 (F0 m pc ls st0) rest (zz_Qr D y w (va_A (w z) H.size) rb zt av) (va_A (w z) H.size)) (hD : va_D A (w z)) (hS : va_S A H0 H locs) (hA : ∀ q, H0.size ≤ q → A q)
    (kk : ∀ (H1 : Heap) (locs1 : List Loc), va_P D vwCl (w zt) H1 → va_D A (w zt) → va_S A H0 H1 locs1 → W p l e R s m args below meth c H1 locs1 cells slots Q (F0 m (pc + 3) ls (.ref rb :: rest))) : W p l e R s m args below meth c H locs cells slots Q (F0 m pc ls st0) := by
  have hf := zz_free hD hS hA
  refine va_callr hr hS (fun q _ h => hf q h) hf (fun u ra t H1 locs1 ht hvm hw hB hz1 hk1 hS1 => ?_)
  obtain rfl := hw
  obtain ⟨rfl, hP1, -, hD1⟩ := hB
  rw [ht] at hP1
  exact kk H1 locs1 hP1 (hD1.weaken (fun _ _ _ h => hf _ h)) hS1
/-- a call's run: of an instance, of a static method, of a nest mate's static one -/
theorem zz_runV {Qc : Array Value → State → Outcome → State → Prop} (S : CallFix p m c cc nL s args Ts own) (hM : Met l yc wsc rm (zz_Pc D y (w z) H.size (.ref b :: As)) Qc 0 0 (va_A (w z) H.size)) (cw : CallW R s args own C index yc bytes maxL ret wsc rm 0 0 n)
    (hK : va_K D vwCl (zz_ty y) s) (hN : zz_nw s) (hg : zz_gr A s s.heap) (hP : va_P D vwCl (w z) H) (hD : va_D A (w z)) (hS : va_S A s.heap H locs) (hA : ∀ q, s.heap.size ≤ q → A q) (q0 : Nat) {ci : Nat} {fs : List Value} (he : (w z)[q0]? = some (b, .inr (ci, fs))) {T : u_T} {N : Nat} (hc : vwCl[ci]? = some (C, T, N))
    (hn : As.length = n) (hsize : ls.size = nL) (hstack : st0 = As.reverse ++ .ref b :: rest) (hW : (rest.map fun v => v.category).sum ≤ 8) (hdg : decode cc pc = .ok (.invokevirtual index, 3)) (hf : cells ≤ R.cells ∧ slots ≤ R.slots) :
    va_Run p l e R s m args below meth c H locs cells slots 0 0 (F0 m pc ls st0) rest (Qc (Value.ref b :: As).toArray) (va_A (w z) H.size) :=
  va_runV S hM cw ⟨zz_blind _ _ _ _ _, va_recv hK hP hc he, zz_pre (.ref b :: As) hP hK hD hN hg hS hA⟩ rfl hn hsize hstack (lv_room hW) hdg hf
theorem zz_runS {Qc : Array Value → State → Outcome → State → Prop} (S : CallFix p m c cc nL s args Ts own) (hM : Met l yc wsc rm (zz_Pc D y (w z) H.size As) Qc 0 0 (va_A (w z) H.size)) (cw : CallB R s args own index yc bytes maxL ret wsc rm 0 0 n ∧ (Cond.static yc).before args s = true)
    (hK : va_K D vwCl (zz_ty y) s) (hN : zz_nw s) (hg : zz_gr A s s.heap) (hP : va_P D vwCl (w z) H) (hD : va_D A (w z)) (hS : va_S A s.heap H locs) (hA : ∀ q, s.heap.size ≤ q → A q)
    (hn : As.length = n) (hsize : ls.size = nL) (hstack : st0 = As.reverse ++ rest) (hW : (rest.map fun v => v.category).sum ≤ 8) (hdg : decode cc pc = .ok (.invokestatic index, 3)) (hf : cells ≤ R.cells ∧ slots ≤ R.slots) :
    va_Run p l e R s m args below meth c H locs cells slots 0 0 (F0 m pc ls st0) rest (Qc As.toArray) (va_A (w z) H.size) :=
  va_runS S hM cw ⟨zz_blind _ _ _ _ _, zz_pre As hP hK hD hN hg hS hA⟩ rfl hn hsize hstack (lv_room hW) hdg hf
theorem zz_runSN {Qc : Array Value → State → Outcome → State → Prop} {host : String} (S : CallFix p m c cc nL s args Ts own) (hM : Met l yc wsc rm (zz_Pc D y (w z) H.size As) Qc 0 0 (va_A (w z) H.size)) (cw : va_CN R s args own index yc host bytes maxL ret wsc rm 0 0 n ∧ (Cond.static yc).before args s = true ∧ True)
    (hK : va_K D vwCl (zz_ty y) s) (hN : zz_nw s) (hg : zz_gr A s s.heap) (hP : va_P D vwCl (w z) H) (hD : va_D A (w z)) (hS : va_S A s.heap H locs) (hA : ∀ q, s.heap.size ≤ q → A q)
    (hn : As.length = n) (hsize : ls.size = nL) (hstack : st0 = As.reverse ++ rest) (hW : (rest.map fun v => v.category).sum ≤ 8) (hdg : decode cc pc = .ok (.invokestatic index, 3)) (hf : cells ≤ R.cells ∧ slots ≤ R.slots) :
    va_Run p l e R s m args below meth c H locs cells slots 0 0 (F0 m pc ls st0) rest (Qc As.toArray) (va_A (w z) H.size) :=
  va_runSN S hM cw ⟨zz_blind _ _ _ _ _, zz_pre As hP hK hD hN hg hS hA⟩ rfl hn hsize hstack (lv_room hW) hdg hf
/-- an array of arrays of longs, read -/
theorem zz_aldA (hexec : p.tables.exec = Jvm.exec) (hb : c.code = cc) {cl : List vw_C} {tys : List (ClassId × FieldType)} {ws : va_W} {a : Nat} (hK : va_K D cl tys s) (hP : va_P D cl ws H) (q0 t0 : Nat) {cA : ClassId} {n : Nat} {f : Nat → Option Nat} (ha : ws[q0]? = some (a, .inl (cA, n, .inr (.inr (.inr (.inr f)))))) (ht : tys[t0]? = some (cA, .array .long)) {i : Int32} (hin : vp_in i n) (hdg : decode cc pc = .ok (.aaload, 1))
    (kk : W p l e R s m args below meth c H locs cells slots Q (F0 m (pc + 1) ls (va_rf (f i.toNatClampNeg) :: rest))) : W p l e R s m args below meth c H locs cells slots Q (F0 m pc ls (.int i :: .ref a :: rest)) := by
  have hlt : i.toNatClampNeg < n := Nat.not_le.mp fun q => hin (Or.inr q)
  exact W.aald (v := va_rf (f i.toNatClampNeg)) (ty := .array .long) hexec hb (hP q0 _ ha) ((hK.2 t0 _ ht).1 n (fun j => va_rf (f j))) rfl (fun q => by cases q) (by show ¬ (i < 0 ∨ (arrV _ _ _).slots.size ≤ _); rw [arrV_size]; exact hin) (by show (arrV _ _ _).slots[_]? = _; rw [arrV_read _ _ hlt]) rfl rfl hdg kk
/-- the ends of a method -/
theorem zz_iret {v r : Int32} (hx : p.tables.exec = Jvm.exec) (hb : c.code = cc) (hr : meth.sig.returnType = some .int) (hlocks : meth.locks = false) (hm : r = v ∧ zt = z) (hP : va_P D vwCl (w z) H) (hK : va_K D vwCl (zz_ty y) s) (hD : va_D A (w z)) (hS : va_S A s.heap H locs) (hdg : decode cc pc = .ok (.ireturn, 1)) :
    W p l e R s m args below meth c H locs 0 0 (MQ below (zz_Qi D y w A r zt) args s 0 0 A) (F0 m pc ls [.int v]) := by
  obtain ⟨rfl, rfl⟩ := hm
  exact W.iret hx hb hr (fun t ht hW => ⟨⟨_, _, rfl, ⟨rfl, rfl⟩, by rw [ht]; exact hP, va_K.moved hW.alike hK, hD⟩, hS.F ht⟩) hS.2.2 hdg
theorem zz_zret {v r : Int32} (hx : p.tables.exec = Jvm.exec) (hb : c.code = cc) (hr : meth.sig.returnType = some .boolean) (hlocks : meth.locks = false) (hz : zz_bool v) (hm : r = v ∧ zt = z) (hP : va_P D vwCl (w z) H) (hK : va_K D vwCl (zz_ty y) s) (hD : va_D A (w z)) (hS : va_S A s.heap H locs) (hdg : decode cc pc = .ok (.ireturn, 1)) :
    W p l e R s m args below meth c H locs 0 0 (MQ below (zz_Qi D y w A r zt) args s 0 0 A) (F0 m pc ls [.int v]) := by
  obtain ⟨rfl, rfl⟩ := hm
  exact W.zret hx hb hr (zz_bool_nar hz) (fun t ht hW => ⟨⟨_, _, rfl, ⟨rfl, rfl⟩, by rw [ht]; exact hP, va_K.moved hW.alike hK, hD⟩, hS.F ht⟩) hS.2.2 hdg
theorem zz_lret {v r : Int64} (hx : p.tables.exec = Jvm.exec) (hb : c.code = cc) (hr : meth.sig.returnType = some .long) (hlocks : meth.locks = false) (hm : r = v ∧ zt = z) (hP : va_P D vwCl (w z) H) (hK : va_K D vwCl (zz_ty y) s) (hD : va_D A (w z)) (hS : va_S A s.heap H locs) (hdg : decode cc pc = .ok (.lreturn, 1)) :
    W p l e R s m args below meth c H locs 0 0 (MQ below (zz_Ql D y w A r zt) args s 0 0 A) (F0 m pc ls [.long v]) := by
  obtain ⟨rfl, rfl⟩ := hm
  exact W.lret hx hb hr (fun t ht hW => ⟨⟨_, _, rfl, ⟨rfl, rfl⟩, by rw [ht]; exact hP, va_K.moved hW.alike hK, hD⟩, hS.F ht⟩) hS.2.2 hdg
theorem zz_vret (hx : p.tables.exec = Jvm.exec) (hb : c.code = cc) (hr : meth.sig.returnType = none) (hlocks : meth.locks = false) (hm : zt = z) (hP : va_P D vwCl (w z) H) (hK : va_K D vwCl (zz_ty y) s) (hD : va_D A (w z)) (hS : va_S A s.heap H locs) (hdg : decode cc pc = .ok (.return_, 1)) :
    W p l e R s m args below meth c H locs 0 0 (MQ below (zz_Qv D y w A zt) args s 0 0 A) (F0 m pc ls []) := by
  obtain rfl := hm
  exact W.vret hx hb hr (fun t ht hW => ⟨⟨_, rfl, rfl, by rw [ht]; exact hP, va_K.moved hW.alike hK, hD⟩, hS.F ht⟩) hS.2.2 hdg
theorem zz_aret {v rb : Nat} {cn : String} (hx : p.tables.exec = Jvm.exec) (hb : c.code = cc) (hr : meth.sig.returnType = some (.object cn)) (hlocks : meth.locks = false) (hm : rb = v ∧ zt = z) (hP : va_P D vwCl (w z) H) (hK : va_K D vwCl (zz_ty y) s) (hD : va_D A (w z)) (hS : va_S A s.heap H locs) (hdg : decode cc pc = .ok (.areturn, 1)) :
    W p l e R s m args below meth c H locs 0 0 (MQ below (zz_Qr D y w A rb zt) args s 0 0 A) (F0 m pc ls [.ref v]) := by
  obtain ⟨rfl, rfl⟩ := hm
  exact W.aret hx hb hr (Or.inl ⟨_, rfl⟩) (Or.inr ⟨_, rfl⟩) (fun t ht hW => ⟨⟨_, _, rfl, rfl, rfl, by rw [ht]; exact hP, va_K.moved hW.alike hK, hD⟩, hS.F ht⟩) hS.2.2 hdg
/-- a place of a walk -/
def zz_G (p : Program) (l : Launch) (e : Env) (R : Room) (s : State) (m : MethodId) (args : Array Value) (below : List Frame) (meth : Method) (c : Code) (Q : State → Prop) (D : va_G) (w : zz_M → va_W) (A : Nat → Prop) (nL pc : Nat) (lv : List (Nat × Value)) (st : List Value) (z : zz_M) : Prop :=
  ∀ (H : Heap) (locs : List Loc) (ls : Array Slot), va_P D vwCl (w z) H → va_D A (w z) → va_S A s.heap H locs → lv_has ls nL lv → W p l e R s m args below meth c H locs 0 0 Q (F0 m pc ls st)
theorem zz_go {lv : List (Nat × Value)} {st : List Value} (hP : va_P D vwCl (w z) H) (hD : va_D A (w z)) (hS : va_S A s.heap H locs) (hl : lv_has ls nL lv) (h : ∀ G, G = zz_G p l e R s m args below meth c Q D w A nL → G pc lv st z) : W p l e R s m args below meth c H locs 0 0 Q (F0 m pc ls st) :=
  h _ rfl H locs ls hP hD hS hl
end ZZ
