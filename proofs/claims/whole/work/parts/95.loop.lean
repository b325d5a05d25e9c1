set_option maxHeartbeats 4000000 in
set_option maxRecDepth 100000 in
/-- the law's loop -/
theorem law_loop {p : Program} {l : Launch} {e : Env} {s : State} {m : MethodId} {below : List Frame} {meth : Method} {c : Code} {b L : Nat} {xs : Nat → Int32} (hst : l.stackTraces = false) (hL : L ≤ 2560) (C0 : lw_At p s m meth c b L xs) {D : va_G} {y : Nat → ClassId} (hK : va_K D vwCl (zz_ty y) s) (hN : zz_nw s) (hg : zz_gr (fun q : Nat => s.heap.size ≤ q) s s.heap) (hxx : zz_ex (fun q : Nat => s.heap.size ≤ q) s s.heap) {a a2 : Nat → Nat} {r0 : Nat} :
    ∀ (n i : Nat) (z t : zz_M) (o : Nat → Int64) (H : Heap) (locs : List Loc) (ls : Array Slot) (cells slots : Nat), L + 5 ≤ i + 5 * n → i ≤ L + 5 → cells + n ≤ 601024 → slots + 6 * n ≤ 7293034 → zR z t → va_P D vwCl (wR y a2 t ++ (wO y r0 o ++ wC y a z)) H → va_D (fun q : Nat => s.heap.size ≤ q) (wR y a2 t ++ (wO y r0 o ++ wC y a z)) → va_S (fun q : Nat => s.heap.size ≤ q) s.heap H locs → lv_has ls 8 [(0, .ref b), (1, .ref (a 0)), (2, .ref (a2 0)), (3, .ref r0), (4, .int (nI i))] → W p l e room_1 s m #[Value.ref b] below meth c H locs cells slots (lw_Z below #[Value.ref b] s) (F0 m 23 ls []) := by
  obtain ⟨hx, hb, hr, hml, hown, hts0, hX, hbl, hlocks, hgv⟩ := id C0
  have hA : ∀ q : Nat, s.heap.size ≤ q → (fun q : Nat => s.heap.size ≤ q) q := fun _ h => h
  have hbA : ¬ (fun q : Nat => s.heap.size ≤ q) b := Nat.not_le.mpr hbl
  have i5 : (5 : Int32).toInt = 5 := rfl
  intro n
  induction n with
  | zero =>
    intro i z t o H locs ls cells slots h1 h2 hc hs hR hP hD hS hl
    refine lv_iload hx hb dL_law_23 (lv_at hl 4 rfl) ?_
    refine lv_aload_n hx hb dL_law_25 rfl (lv_at hl 0 rfl) ?_
    refine va_slen hx hb hX hbl hbA hS dL_law_26 ?_
    refine lv_iconst (v := (5 : Int32)) hx hb dL_law_27 (by decide) ?_
    refine lv_isub hx hb dL_law_28 ?_
    refine lv_icmp_gt (tgt := 1688) hx hb dL_law_29 (by decide) (fun c1 => ?_) (fun c1 => ?_)
    · refine lv_iconst (v := (1 : Int32)) hx hb dL_law_1688 (by decide) ?_
      refine va_forget (fun q hq => hS.2.2 q hq) ?_
      refine W.widen (k := 601024) (n := 7293034) (by omega) (by omega) ?_
      exact lw_ret hx hb hr hlocks dL_law_1689
    · exfalso
      apply c1
      show nI L - 5 < nI i
      rw [Int32.lt_iff_toInt_lt, zi_sub (by rw [nI_toInt (by omega), i5]; omega) (by rw [nI_toInt (by omega), i5]; omega), nI_toInt (by omega), nI_toInt (by omega), i5]
      omega
  | succ n ih =>
    intro i z t o H locs ls cells slots h1 h2 hc hs hR hP hD hS hl
    refine lv_iload hx hb dL_law_23 (lv_at hl 4 rfl) ?_
    refine lv_aload_n hx hb dL_law_25 rfl (lv_at hl 0 rfl) ?_
    refine va_slen hx hb hX hbl hbA hS dL_law_26 ?_
    refine lv_iconst (v := (5 : Int32)) hx hb dL_law_27 (by decide) ?_
    refine lv_isub hx hb dL_law_28 ?_
    refine lv_icmp_gt (tgt := 1688) hx hb dL_law_29 (by decide) (fun c1 => ?_) (fun c1 => ?_)
    · refine lv_iconst (v := (1 : Int32)) hx hb dL_law_1688 (by decide) ?_
      refine va_forget (fun q hq => hS.2.2 q hq) ?_
      refine W.widen (k := 601024) (n := 7293034) (by omega) (by omega) ?_
      exact lw_ret hx hb hr hlocks dL_law_1689
    · have hi : i + 5 ≤ L := by
        have c2 : ¬ nI L - 5 < nI i := c1
        rw [Int32.lt_iff_toInt_lt, zi_sub (by rw [nI_toInt (by omega), i5]; omega) (by rw [nI_toInt (by omega), i5]; omega), nI_toInt (by omega), nI_toInt (by omega), i5] at c2
        omega
      have kk : ∀ (z : zz_M) (t : zz_M) (o : Nat → Int64) (H : Heap) (locs : List Loc) (ls : Array Slot), zR z t → va_P D vwCl (wR y a2 t ++ (wO y r0 o ++ wC y a z)) H → va_D (fun q : Nat => s.heap.size ≤ q) (wR y a2 t ++ (wO y r0 o ++ wC y a z)) → va_S (fun q : Nat => s.heap.size ≤ q) s.heap H locs → lv_has ls 8 [(0, .ref b), (1, .ref (a 0)), (2, .ref (a2 0)), (3, .ref r0), (4, .int (nI i))] → W p l e room_1 s m #[Value.ref b] below meth c H locs (cells + 1) (slots + 6) (lw_Z below #[Value.ref b] s) (F0 m 1682 ls []) := by
        intro z t o H locs ls hR hP hD hS hl
        refine lv_iinc (v := nI (i + 5)) (lv' := [(4, .int (nI (i + 5))), (0, .ref b), (1, .ref (a 0)), (2, .ref (a2 0)), (3, .ref r0)]) hx hb dL_law_1682 hl (k := 4) rfl (nI_add i 5) (by decide) rfl (fun ls hl => ?_)
        refine lv_goto (tgt := 23) hx hb dL_law_1685 (by decide) ?_
        exact ih (i + 5) z t o H locs ls (cells + 1) (slots + 6) (by omega) (by omega) (by omega) (by omega) hR hP hD hS (lv_sub hl [1, 2, 3, 4, 0] rfl)
      refine lv_aload_n hx hb dL_law_32 rfl (lv_at hl 0 rfl) ?_
      refine lv_iload hx hb dL_law_33 (lv_at hl 4 rfl) ?_
      refine va_sld hx hb hX hbl hbA hS (zq_k i (show i < L by omega) (by omega)) dL_law_35 ?_
      refine lv_bipush (v := (63 : Int32)) hx hb dL_law_36 (by decide) ?_
      refine lv_iand hx hb dL_law_38 ?_
      generalize xs (nI i).toNatClampNeg &&& 63 = v
      by_cases cv : 0 ≤ v.toInt ∧ v.toInt ≤ 45
      · obtain ⟨k, hk, ek⟩ := zq_toNat (n := 45) cv.1 cv.2 (by decide)
        have hk2 : k = 0 ∨ k = 1 ∨ k = 2 ∨ k = 3 ∨ k = 4 ∨ k = 5 ∨ k = 6 ∨ k = 7 ∨ k = 8 ∨ k = 9 ∨ k = 10 ∨ k = 11 ∨ k = 12 ∨ k = 13 ∨ k = 14 ∨ k = 15 ∨ k = 16 ∨ k = 17 ∨ k = 18 ∨ k = 19 ∨ k = 20 ∨ k = 21 ∨ k = 22 ∨ k = 23 ∨ k = 24 ∨ k = 25 ∨ k = 26 ∨ k = 27 ∨ k = 28 ∨ k = 29 ∨ k = 30 ∨ k = 31 ∨ k = 32 ∨ k = 33 ∨ k = 34 ∨ k = 35 ∨ k = 36 ∨ k = 37 ∨ k = 38 ∨ k = 39 ∨ k = 40 ∨ k = 41 ∨ k = 42 ∨ k = 43 ∨ k = 44 ∨ k = 45 := by omega
        rcases hk2 with rfl | rfl | rfl | rfl | rfl | rfl | rfl | rfl | rfl | rfl | rfl | rfl | rfl | rfl | rfl | rfl | rfl | rfl | rfl | rfl | rfl | rfl | rfl | rfl | rfl | rfl | rfl | rfl | rfl | rfl | rfl | rfl | rfl | rfl | rfl | rfl | rfl | rfl | rfl | rfl | rfl | rfl | rfl | rfl | rfl | rfl
        · refine lv_tableIn (tgt := 236) hx hb dL_law_39 (by rw [ek]; decide) (by rw [ek]; decide) (by rw [ek]; rfl) (by decide) ?_
          exact Lc_sign hst hL C0 hK hN hg hxx hR (by omega) ⟨by omega, by omega⟩ hP hD hS hl kk
        · refine lv_tableIn (tgt := 261) hx hb dL_law_39 (by rw [ek]; decide) (by rw [ek]; decide) (by rw [ek]; rfl) (by decide) ?_
          exact Lc_end hst hL C0 hK hN hg hxx hR (by omega) ⟨by omega, by omega⟩ hP hD hS hl kk
        · refine lv_tableIn (tgt := 286) hx hb dL_law_39 (by rw [ek]; decide) (by rw [ek]; decide) (by rw [ek]; rfl) (by decide) ?_
          exact Lc_bill hst hL C0 hK hN hg hxx hR (by omega) ⟨by omega, by omega⟩ hP hD hS hl kk
        · refine lv_tableIn (tgt := 299) hx hb dL_law_39 (by rw [ek]; decide) (by rw [ek]; decide) (by rw [ek]; rfl) (by decide) ?_
          exact Lc_terms hst hL C0 hK hN hg hxx hR (by omega) ⟨by omega, by omega⟩ hP hD hS hl kk
        · refine lv_tableIn (tgt := 336) hx hb dL_law_39 (by rw [ek]; decide) (by rw [ek]; decide) (by rw [ek]; rfl) (by decide) ?_
          exact Lc_measures hst hL C0 hK hN hg hxx hR (by omega) ⟨by omega, by omega⟩ hP hD hS hl kk
        · refine lv_tableIn (tgt := 385) hx hb dL_law_39 (by rw [ek]; decide) (by rw [ek]; decide) (by rw [ek]; rfl) (by decide) ?_
          exact Lc_strikes hst hL C0 hK hN hg hxx hR (by omega) ⟨by omega, by omega⟩ hP hD hS hl kk
        · refine lv_tableIn (tgt := 422) hx hb dL_law_39 (by rw [ek]; decide) (by rw [ek]; decide) (by rw [ek]; rfl) (by decide) ?_
          exact Lc_stores hst hL C0 hK hN hg hxx hR (by omega) ⟨by omega, by omega⟩ hP hD hS hl kk
        · refine lv_tableIn (tgt := 459) hx hb dL_law_39 (by rw [ek]; decide) (by rw [ek]; decide) (by rw [ek]; rfl) (by decide) ?_
          exact Lc_change hst hL C0 hK hN hg hxx hR (by omega) ⟨by omega, by omega⟩ hP hD hS hl kk
        · refine lv_tableIn (tgt := 520) hx hb dL_law_39 (by rw [ek]; decide) (by rw [ek]; decide) (by rw [ek]; rfl) (by decide) ?_
          exact Lc_alters hst hL C0 hK hN hg hxx hR (by omega) ⟨by omega, by omega⟩ hP hD hS hl kk
        · refine lv_tableIn (tgt := 557) hx hb dL_law_39 (by rw [ek]; decide) (by rw [ek]; decide) (by rw [ek]; rfl) (by decide) ?_
          exact Lc_setsOff hst hL C0 hK hN hg hxx hR (by omega) ⟨by omega, by omega⟩ hP hD hS hl kk
        · refine lv_tableIn (tgt := 594) hx hb dL_law_39 (by rw [ek]; decide) (by rw [ek]; decide) (by rw [ek]; rfl) (by decide) ?_
          exact Lc_disputes hst hL C0 hK hN hg hxx hR (by omega) ⟨by omega, by omega⟩ hP hD hS hl kk
        · refine lv_tableIn (tgt := 631) hx hb dL_law_39 (by rw [ek]; decide) (by rw [ek]; decide) (by rw [ek]; rfl) (by decide) ?_
          exact Lc_decides hst hL C0 hK hN hg hxx hR (by omega) ⟨by omega, by omega⟩ hP hD hS hl kk
        · refine lv_tableIn (tgt := 680) hx hb dL_law_39 (by rw [ek]; decide) (by rw [ek]; decide) (by rw [ek]; rfl) (by decide) ?_
          exact Lc_handover hst hL C0 hK hN hg hxx hR (by omega) ⟨by omega, by omega⟩ hP hD hS hl kk
        · refine lv_tableIn (tgt := 705) hx hb dL_law_39 (by rw [ek]; decide) (by rw [ek]; decide) (by rw [ek]; rfl) (by decide) ?_
          exact Lc_closes hst hL C0 hK hN hg hxx hR (by omega) ⟨by omega, by omega⟩ hP hD hS hl kk
        · refine lv_tableIn (tgt := 730) hx hb dL_law_39 (by rw [ek]; decide) (by rw [ek]; decide) (by rw [ek]; rfl) (by decide) ?_
          exact Lc_pays hst hL C0 hK hN hg hxx hR (by omega) ⟨by omega, by omega⟩ hP hD hS hl kk
        · refine lv_tableIn (tgt := 767) hx hb dL_law_39 (by rw [ek]; decide) (by rw [ek]; decide) (by rw [ek]; rfl) (by decide) ?_
          exact Lc_due hst hL C0 hK hN hg hxx hR (by omega) ⟨by omega, by omega⟩ hP hD hS hl kk
        · refine lv_tableIn (tgt := 792) hx hb dL_law_39 (by rw [ek]; decide) (by rw [ek]; decide) (by rw [ek]; rfl) (by decide) ?_
          exact Lc_grants hst hL C0 hK hN hg hxx hR (by omega) ⟨by omega, by omega⟩ hP hD hS hl kk
        · refine lv_tableIn (tgt := 817) hx hb dL_law_39 (by rw [ek]; decide) (by rw [ek]; decide) (by rw [ek]; rfl) (by decide) ?_
          exact Lc_indexes hst hL C0 hK hN hg hxx hR (by omega) ⟨by omega, by omega⟩ hP hD hS hl kk
        · refine lv_tableIn (tgt := 854) hx hb dL_law_39 (by rw [ek]; decide) (by rw [ek]; decide) (by rw [ek]; rfl) (by decide) ?_
          exact Lc_amount hst hL C0 hK hN hg hxx hR (by omega) ⟨by omega, by omega⟩ hP hD hS hl kk
        · refine lv_tableIn (tgt := 921) hx hb dL_law_39 (by rw [ek]; decide) (by rw [ek]; decide) (by rw [ek]; rfl) (by decide) ?_
          exact Lc_item hst hL C0 hK hN hg hxx hR (by omega) ⟨by omega, by omega⟩ hP hD hS hl kk
        · refine lv_tableIn (tgt := 958) hx hb dL_law_39 (by rw [ek]; decide) (by rw [ek]; decide) (by rw [ek]; rfl) (by decide) ?_
          exact Lc_priced hst hL C0 hK hN hg hxx hR (by omega) ⟨by omega, by omega⟩ hP hD hS hl kk
        · refine lv_tableIn (tgt := 983) hx hb dL_law_39 (by rw [ek]; decide) (by rw [ek]; decide) (by rw [ek]; rfl) (by decide) ?_
          exact Lc_held hst hL C0 hK hN hg hxx hR (by omega) ⟨by omega, by omega⟩ hP hD hS hl kk
        · refine lv_tableIn (tgt := 1020) hx hb dL_law_39 (by rw [ek]; decide) (by rw [ek]; decide) (by rw [ek]; rfl) (by decide) ?_
          exact Lc_sum hst hL C0 hK hN hg hxx hR (by omega) ⟨by omega, by omega⟩ hP hD hS hl kk
        · refine lv_tableIn (tgt := 1033) hx hb dL_law_39 (by rw [ek]; decide) (by rw [ek]; decide) (by rw [ek]; rfl) (by decide) ?_
          exact Lc_lines hst hL C0 hK hN hg hxx hR (by omega) ⟨by omega, by omega⟩ hP hD hS hl kk
        · refine lv_tableIn (tgt := 1058) hx hb dL_law_39 (by rw [ek]; decide) (by rw [ek]; decide) (by rw [ek]; rfl) (by decide) ?_
          exact Lc_recovered hst hL C0 hK hN hg hxx hR (by omega) ⟨by omega, by omega⟩ hP hD hS hl kk
        · refine lv_tableIn (tgt := 1071) hx hb dL_law_39 (by rw [ek]; decide) (by rw [ek]; decide) (by rw [ek]; rfl) (by decide) ?_
          exact Lc_limited hst hL C0 hK hN hg hxx hR (by omega) ⟨by omega, by omega⟩ hP hD hS hl kk
        · refine lv_tableIn (tgt := 1084) hx hb dL_law_39 (by rw [ek]; decide) (by rw [ek]; decide) (by rw [ek]; rfl) (by decide) ?_
          exact Lc_reaches hst hL C0 hK hN hg hxx hR (by omega) ⟨by omega, by omega⟩ hP hD hS hl kk
        · refine lv_tableIn (tgt := 1141) hx hb dL_law_39 (by rw [ek]; decide) (by rw [ek]; decide) (by rw [ek]; rfl) (by decide) ?_
          exact Lc_worst hst hL C0 hK hN hg hxx hR (by omega) ⟨by omega, by omega⟩ hP hD hS hl kk
        · refine lv_tableIn (tgt := 1154) hx hb dL_law_39 (by rw [ek]; decide) (by rw [ek]; decide) (by rw [ek]; rfl) (by decide) ?_
          exact Lc_clears hst hL C0 hK hN hg hxx hR (by omega) ⟨by omega, by omega⟩ hP hD hS hl kk
        · refine lv_tableIn (tgt := 1179) hx hb dL_law_39 (by rw [ek]; decide) (by rw [ek]; decide) (by rw [ek]; rfl) (by decide) ?_
          exact Lc_paces hst hL C0 hK hN hg hxx hR (by omega) ⟨by omega, by omega⟩ hP hD hS hl kk
        · refine lv_tableIn (tgt := 1216) hx hb dL_law_39 (by rw [ek]; decide) (by rw [ek]; decide) (by rw [ek]; rfl) (by decide) ?_
          exact Lc_enough hst hL C0 hK hN hg hxx hR (by omega) ⟨by omega, by omega⟩ hP hD hS hl kk
        · refine lv_tableIn (tgt := 1253) hx hb dL_law_39 (by rw [ek]; decide) (by rw [ek]; decide) (by rw [ek]; rfl) (by decide) ?_
          exact Lc_shifts hst hL C0 hK hN hg hxx hR (by omega) ⟨by omega, by omega⟩ hP hD hS hl kk
        · refine lv_tableIn (tgt := 1302) hx hb dL_law_39 (by rw [ek]; decide) (by rw [ek]; decide) (by rw [ek]; rfl) (by decide) ?_
          exact Lc_were hst hL C0 hK hN hg hxx hR (by omega) ⟨by omega, by omega⟩ hP hD hS hl kk
        · refine lv_tableIn (tgt := 1339) hx hb dL_law_39 (by rw [ek]; decide) (by rw [ek]; decide) (by rw [ek]; rfl) (by decide) ?_
          exact Lc_dearest hst hL C0 hK hN hg hxx hR (by omega) ⟨by omega, by omega⟩ hP hD hS hl kk
        · refine lv_tableIn (tgt := 1352) hx hb dL_law_39 (by rw [ek]; decide) (by rw [ek]; decide) (by rw [ek]; rfl) (by decide) ?_
          exact Lc_ends hst hL C0 hK hN hg hxx hR (by omega) ⟨by omega, by omega⟩ hP hD hS hl kk
        · refine lv_tableIn (tgt := 1377) hx hb dL_law_39 (by rw [ek]; decide) (by rw [ek]; decide) (by rw [ek]; rfl) (by decide) ?_
          exact Lc_leads hst hL C0 hK hN hg hxx hR (by omega) ⟨by omega, by omega⟩ hP hD hS hl kk
        · refine lv_tableIn (tgt := 1402) hx hb dL_law_39 (by rw [ek]; decide) (by rw [ek]; decide) (by rw [ek]; rfl) (by decide) ?_
          exact Lc_above hst hL C0 hK hN hg hxx hR (by omega) ⟨by omega, by omega⟩ hP hD hS hl kk
        · refine lv_tableIn (tgt := 1427) hx hb dL_law_39 (by rw [ek]; decide) (by rw [ek]; decide) (by rw [ek]; rfl) (by decide) ?_
          exact Lc_like hst hL C0 hK hN hg hxx hR (by omega) ⟨by omega, by omega⟩ hP hD hS hl kk
        · refine lv_tableIn (tgt := 1464) hx hb dL_law_39 (by rw [ek]; decide) (by rw [ek]; decide) (by rw [ek]; rfl) (by decide) ?_
          exact Lc_would hst hL C0 hK hN hg hxx hR (by omega) ⟨by omega, by omega⟩ hP hD hS hl kk
        · refine lv_tableIn (tgt := 1501) hx hb dL_law_39 (by rw [ek]; decide) (by rw [ek]; decide) (by rw [ek]; rfl) (by decide) ?_
          exact Lc_keeps hst hL C0 hK hN hg hxx hR (by omega) ⟨by omega, by omega⟩ hP hD hS hl kk
        · refine lv_tableIn (tgt := 1526) hx hb dL_law_39 (by rw [ek]; decide) (by rw [ek]; decide) (by rw [ek]; rfl) (by decide) ?_
          exact Lc_overdue hst hL C0 hK hN hg hxx hR (by omega) ⟨by omega, by omega⟩ hP hD hS hl kk
        · refine lv_tableIn (tgt := 1539) hx hb dL_law_39 (by rw [ek]; decide) (by rw [ek]; decide) (by rw [ek]; rfl) (by decide) ?_
          exact Lc_needed hst hL C0 hK hN hg hxx hR (by omega) ⟨by omega, by omega⟩ hP hD hS hl kk
        · refine lv_tableIn (tgt := 1552) hx hb dL_law_39 (by rw [ek]; decide) (by rw [ek]; decide) (by rw [ek]; rfl) (by decide) ?_
          exact Lc_rises hst hL C0 hK hN hg hxx hR (by omega) ⟨by omega, by omega⟩ hP hD hS hl kk
        · refine lv_tableIn (tgt := 1589) hx hb dL_law_39 (by rw [ek]; decide) (by rw [ek]; decide) (by rw [ek]; rfl) (by decide) ?_
          exact Lc_account hst hL C0 hK hN hg hxx hR (by omega) ⟨by omega, by omega⟩ hP hD hS hl kk
        · refine lv_tableIn (tgt := 1602) hx hb dL_law_39 (by rw [ek]; decide) (by rw [ek]; decide) (by rw [ek]; rfl) (by decide) ?_
          exact Lc_count hst hL C0 hK hN hg hxx hR (by omega) ⟨by omega, by omega⟩ hP hD hS hl kk
        · refine lv_tableIn (tgt := 1627) hx hb dL_law_39 (by rw [ek]; decide) (by rw [ek]; decide) (by rw [ek]; rfl) (by decide) ?_
          exact Lc_row hst hL C0 hK hN hg hxx hR (by omega) ⟨by omega, by omega⟩ hP hD hS hl kk
      · refine lv_tableOut (tgt := 1682) hx hb dL_law_39 (by omega) (by decide) ?_
        refine W.widen (k := cells + 1) (n := slots + 6) (by omega) (by omega) ?_
        exact kk z t o H locs ls hR hP hD hS hl
