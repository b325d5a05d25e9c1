def mJ7_fill_53178_b5 (fq : Nat) (fn : Nat) : Nat → Int32 → Int32 → Int32 → zz_M → Option (Unit × zz_M)
  | 0, _, _, _, _ => none
  | n + 1, v1, v2, v3, z => if v3 ≤ v2 then (some ((), z)) else (zz_ck (zz_in v2 fn) (zz_nm (zz_wI z fq v2 v1) (fun z3 => zz_nm (v2 + (1 : Int32)) (fun n4 => (mJ7_fill_53178_b5 fq fn n) v1 n4 v3 z3))))
def mJ7_fill_53178 (fq : Nat) (fn : Nat) (x1 : Int32) (z : zz_M) : Option (Unit × zz_M) := zz_nm (Int32.ofNat fn) (fun n5 => mJ7_fill_53178_b5 fq fn zz_N x1 (0 : Int32) n5 z)
theorem zdJ7_fill_53178 : yJ7_fill_53178.cls ≠ "java/lang/invoke/MethodHandle" ∧ yJ7_fill_53178.cls ≠ "java/lang/invoke/VarHandle" ∧ (parseMethodDescriptor yJ7_fill_53178.desc).map (fun d => d.parameters.length) = some 2 := by decide +kernel
set_option maxHeartbeats 4000000 in
set_option maxRecDepth 100000 in
theorem zJ7_fill_53178 (l : Launch) (D : va_G) (y : Nat → ClassId) (a : Nat → Nat) (sz : Nat) (fq : Nat) (fn : Nat) (x1 : Int32) (w : zz_M → va_W) (ab : Nat) (hlook : ∀ z : zz_M, (w z)[fq]? = some (ab, .inl (y 0, fn, .inl (z.1 fq)))) (hset : ∀ (z : zz_M) (i : Int32) (x : Int32), (w z).set fq (ab, .inl (y 0, fn, .inl (upd (z.1 fq) i.toNatClampNeg x))) = w (zz_wI z fq i x)) (z : zz_M) {r : Unit} {zt : zz_M} (hm : mJ7_fill_53178 fq fn x1 z = some (r, zt)) : Met l yJ7_fill_53178 wsJ7_fill_53178 { frames := 0, cells := 0, slots := 0, locals := 0 } (zz_Pc D y (w z) sz [.ref ab, .int x1]) (zz_Qv D y (w) (va_A (w z) sz) zt) 0 0 (va_A (w z) sz) := by
  refine Met.ofW (cc := cJ7_fill_53178) (maxL := 4) (ret := none) (by decide) rfl ?_
  intro p e s m args below meth c s₁ B hml hv
  obtain ⟨rfl, hsz, hP, hK, hD0, hN, hg⟩ := hv
  have hx := B.exec
  have hb := B.bytes
  have hr := B.returns
  have hts := atoms_spec (ws := wsJ7_fill_53178) B.pre
  have hown : s.vm.findClass RJ7 = some m.cls := findClass_of_methodNamed B.named
  have hlocks := B.notSynchronized
  clear B
  subst hsz
  have hD := hD0.self (sz := s.heap.size)
  generalize hAe : va_A (w z) s.heap.size = A at hD hg ⊢
  have hA : ∀ q : Nat, s.heap.size ≤ q → A q := fun q h => by rw [← hAe]; exact Or.inr h
  clear hAe hD0
  have hl := lv_entry ([.ref ab, .int x1]) (n := 4) (Nat.le_of_ble_eq_true rfl)
  rw [lg_entry_eq]
  generalize (lg_sl ([.ref ab, .int x1]) ++ List.replicate (4 - (lg_sl ([.ref ab, .int x1])).length) Slot.unset).toArray = ls at hl ⊢
  replace hl : lv_has ls 4 [(0, .ref ab), (1, .int x1)] := hl
  refine zz_go (w := w) hP hD va_S.rf hl (fun G hG => ?_)
  clear hP hD hl ls
  have J5 : ∀ (n : Nat) (v1 : Int32) (v2 : Int32) (v3 : Int32) (z : zz_M), mJ7_fill_53178_b5 fq fn n v1 v2 v3 z = some (r, zt) → G 5 [(0, .ref ab), (1, .int v1), (2, .int v2), (3, .int v3)] [] z := by
    intro n
    induction n with
    | zero =>
      intro v1 v2 v3 z hm
      exact zz_none hm
    | succ n ih =>
      intro v1 v2 v3 z hm
      rw [mJ7_fill_53178_b5] at hm
      rw [hG]
      intro H locs ls hP hD hS hl
      refine lv_iload_n hx hb dJ7_fill_53178_5 rfl (lv_at hl 2 rfl) ?_
      refine lv_iload_n hx hb dJ7_fill_53178_6 rfl (lv_at hl 3 rfl) ?_
      refine lv_icmp_ge (tgt := 20) hx hb dJ7_fill_53178_7 (by decide) (fun c1 => ?_) (fun c1 => ?_)
      · replace hm := zz_pos c1 hm
        exact zz_vret hx hb hr hlocks (zz_some2 hm).2 hP hK hD hS dJ7_fill_53178_20
      · replace hm := zz_neg c1 hm
        refine lv_aload_n hx hb dJ7_fill_53178_10 rfl (lv_at hl 0 rfl) ?_
        refine lv_iload_n hx hb dJ7_fill_53178_11 rfl (lv_at hl 2 rfl) ?_
        refine lv_iload_n hx hb dJ7_fill_53178_12 rfl (lv_at hl 1 rfl) ?_
        obtain ⟨c2, hm⟩ := zz_ck_some hm
        refine va_iast hx hb hK hP hD hS fq 0 (hlook z) rfl c2 dJ7_fill_53178_13 (fun H locs hP hD hS => ?_)
        obtain ⟨z3, hP, hD, hm⟩ := zz_up (w := w) (hset z v2 v1) hP hD hm
        obtain ⟨n4, en4⟩ : ∃ q : Int32, q = v2 + (1 : Int32) := ⟨_, rfl⟩
        replace hm := zz_nm_some en4 hm
        refine lv_iinc (v := n4) (lv' := [(2, .int n4), (0, .ref ab), (1, .int v1), (3, .int v3)]) hx hb dJ7_fill_53178_14 hl (k := 2) rfl (by rw [en4]; rfl) (by decide) rfl (fun ls hl => ?_)
        refine lv_goto (tgt := 5) hx hb dJ7_fill_53178_17 (by decide) ?_
        have j := ih v1 n4 v3 z3 hm
        rw [hG] at j
        exact j H locs ls hP hD hS (lv_sub hl [1, 2, 0, 3] rfl)
  rw [hG]
  intro H locs ls hP hD hS hl
  unfold mJ7_fill_53178 at hm
  refine lv_iconst (v := (0 : Int32)) hx hb dJ7_fill_53178_0 (by decide) ?_
  refine lv_istore_n (lv' := [(2, .int (0 : Int32)), (0, .ref ab), (1, .int x1)]) hx hb dJ7_fill_53178_1 rfl hl (by decide) rfl (fun ls hl => ?_)
  refine lv_aload_n hx hb dJ7_fill_53178_2 rfl (lv_at hl 1 rfl) ?_
  refine va_alen (v := (Int32.ofNat fn)) hx hb hK hP fq 0 (hlook z) rfl rfl dJ7_fill_53178_3 ?_
  refine lv_topi (fun n5 en5 => ?_)
  replace hm := zz_nm_some en5 hm
  refine lv_istore_n (lv' := [(3, .int n5), (2, .int (0 : Int32)), (0, .ref ab), (1, .int x1)]) hx hb dJ7_fill_53178_4 rfl hl (by decide) rfl (fun ls hl => ?_)
  have j := J5 zz_N x1 (0 : Int32) n5 z hm
  rw [hG] at j
  exact j H locs ls hP hD hS (lv_sub hl [2, 3, 1, 0] rfl)
def mJ7_fill_d0a16_b6 (fq : Nat) (fn : Nat) : Nat → Int64 → Int32 → Int32 → zz_M → Option (Unit × zz_M)
  | 0, _, _, _, _ => none
  | n + 1, v1, v3, v4, z => if v4 ≤ v3 then (some ((), z)) else (zz_ck (zz_in v3 fn) (zz_nm (zz_wJ z fq v3 v1) (fun z3 => zz_nm (v3 + (1 : Int32)) (fun n4 => (mJ7_fill_d0a16_b6 fq fn n) v1 n4 v4 z3))))
def mJ7_fill_d0a16 (fq : Nat) (fn : Nat) (x1 : Int64) (z : zz_M) : Option (Unit × zz_M) := zz_nm (Int32.ofNat fn) (fun n5 => mJ7_fill_d0a16_b6 fq fn zz_N x1 (0 : Int32) n5 z)
theorem zdJ7_fill_d0a16 : yJ7_fill_d0a16.cls ≠ "java/lang/invoke/MethodHandle" ∧ yJ7_fill_d0a16.cls ≠ "java/lang/invoke/VarHandle" ∧ (parseMethodDescriptor yJ7_fill_d0a16.desc).map (fun d => d.parameters.length) = some 2 := by decide +kernel
set_option maxHeartbeats 4000000 in
set_option maxRecDepth 100000 in
theorem zJ7_fill_d0a16 (l : Launch) (D : va_G) (y : Nat → ClassId) (a : Nat → Nat) (sz : Nat) (fq : Nat) (fn : Nat) (x1 : Int64) (w : zz_M → va_W) (ab : Nat) (hlook : ∀ z : zz_M, (w z)[fq]? = some (ab, .inl (y 1, fn, .inr (.inl (z.2.1 fq))))) (hset : ∀ (z : zz_M) (i : Int32) (x : Int64), (w z).set fq (ab, .inl (y 1, fn, .inr (.inl (vp_updL (z.2.1 fq) i.toNatClampNeg x)))) = w (zz_wJ z fq i x)) (z : zz_M) {r : Unit} {zt : zz_M} (hm : mJ7_fill_d0a16 fq fn x1 z = some (r, zt)) : Met l yJ7_fill_d0a16 wsJ7_fill_d0a16 { frames := 0, cells := 0, slots := 0, locals := 0 } (zz_Pc D y (w z) sz [.ref ab, .long x1]) (zz_Qv D y (w) (va_A (w z) sz) zt) 0 0 (va_A (w z) sz) := by
  refine Met.ofW (cc := cJ7_fill_d0a16) (maxL := 5) (ret := none) (by decide) rfl ?_
  intro p e s m args below meth c s₁ B hml hv
  obtain ⟨rfl, hsz, hP, hK, hD0, hN, hg⟩ := hv
  have hx := B.exec
  have hb := B.bytes
  have hr := B.returns
  have hts := atoms_spec (ws := wsJ7_fill_d0a16) B.pre
  have hown : s.vm.findClass RJ7 = some m.cls := findClass_of_methodNamed B.named
  have hlocks := B.notSynchronized
  clear B
  subst hsz
  have hD := hD0.self (sz := s.heap.size)
  generalize hAe : va_A (w z) s.heap.size = A at hD hg ⊢
  have hA : ∀ q : Nat, s.heap.size ≤ q → A q := fun q h => by rw [← hAe]; exact Or.inr h
  clear hAe hD0
  have hl := lv_entry ([.ref ab, .long x1]) (n := 5) (Nat.le_of_ble_eq_true rfl)
  rw [lg_entry_eq]
  generalize (lg_sl ([.ref ab, .long x1]) ++ List.replicate (5 - (lg_sl ([.ref ab, .long x1])).length) Slot.unset).toArray = ls at hl ⊢
  replace hl : lv_has ls 5 [(0, .ref ab), (1, .long x1)] := hl
  refine zz_go (w := w) hP hD va_S.rf hl (fun G hG => ?_)
  clear hP hD hl ls
  have J6 : ∀ (n : Nat) (v1 : Int64) (v3 : Int32) (v4 : Int32) (z : zz_M), mJ7_fill_d0a16_b6 fq fn n v1 v3 v4 z = some (r, zt) → G 6 [(0, .ref ab), (1, .long v1), (3, .int v3), (4, .int v4)] [] z := by
    intro n
    induction n with
    | zero =>
      intro v1 v3 v4 z hm
      exact zz_none hm
    | succ n ih =>
      intro v1 v3 v4 z hm
      rw [mJ7_fill_d0a16_b6] at hm
      rw [hG]
      intro H locs ls hP hD hS hl
      refine lv_iload_n hx hb dJ7_fill_d0a16_6 rfl (lv_at hl 2 rfl) ?_
      refine lv_iload hx hb dJ7_fill_d0a16_7 (lv_at hl 3 rfl) ?_
      refine lv_icmp_ge (tgt := 22) hx hb dJ7_fill_d0a16_9 (by decide) (fun c1 => ?_) (fun c1 => ?_)
      · replace hm := zz_pos c1 hm
        exact zz_vret hx hb hr hlocks (zz_some2 hm).2 hP hK hD hS dJ7_fill_d0a16_22
      · replace hm := zz_neg c1 hm
        refine lv_aload_n hx hb dJ7_fill_d0a16_12 rfl (lv_at hl 0 rfl) ?_
        refine lv_iload_n hx hb dJ7_fill_d0a16_13 rfl (lv_at hl 2 rfl) ?_
        refine lv_lload_n hx hb dJ7_fill_d0a16_14 rfl (lv_at hl 1 rfl) ?_
        obtain ⟨c2, hm⟩ := zz_ck_some hm
        refine va_last hx hb hK hP hD hS fq 1 (hlook z) rfl c2 dJ7_fill_d0a16_15 (fun H locs hP hD hS => ?_)
        obtain ⟨z3, hP, hD, hm⟩ := zz_up (w := w) (hset z v3 v1) hP hD hm
        obtain ⟨n4, en4⟩ : ∃ q : Int32, q = v3 + (1 : Int32) := ⟨_, rfl⟩
        replace hm := zz_nm_some en4 hm
        refine lv_iinc (v := n4) (lv' := [(3, .int n4), (0, .ref ab), (1, .long v1), (4, .int v4)]) hx hb dJ7_fill_d0a16_16 hl (k := 2) rfl (by rw [en4]; rfl) (by decide) rfl (fun ls hl => ?_)
        refine lv_goto (tgt := 6) hx hb dJ7_fill_d0a16_19 (by decide) ?_
        have j := ih v1 n4 v4 z3 hm
        rw [hG] at j
        exact j H locs ls hP hD hS (lv_sub hl [1, 2, 0, 3] rfl)
  rw [hG]
  intro H locs ls hP hD hS hl
  unfold mJ7_fill_d0a16 at hm
  refine lv_iconst (v := (0 : Int32)) hx hb dJ7_fill_d0a16_0 (by decide) ?_
  refine lv_istore_n (lv' := [(3, .int (0 : Int32)), (0, .ref ab), (1, .long x1)]) hx hb dJ7_fill_d0a16_1 rfl hl (by decide) rfl (fun ls hl => ?_)
  refine lv_aload_n hx hb dJ7_fill_d0a16_2 rfl (lv_at hl 1 rfl) ?_
  refine va_alen (v := (Int32.ofNat fn)) hx hb hK hP fq 1 (hlook z) rfl rfl dJ7_fill_d0a16_3 ?_
  refine lv_topi (fun n5 en5 => ?_)
  replace hm := zz_nm_some en5 hm
  refine lv_istore (lv' := [(4, .int n5), (3, .int (0 : Int32)), (0, .ref ab), (1, .long x1)]) hx hb dJ7_fill_d0a16_4 hl (by decide) rfl (fun ls hl => ?_)
  have j := J6 zz_N x1 (0 : Int32) n5 z hm
  rw [hG] at j
  exact j H locs ls hP hD hS (lv_sub hl [2, 3, 1, 0] rfl)
