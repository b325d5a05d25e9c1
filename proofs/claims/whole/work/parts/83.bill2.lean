/-! ===== bill: an item read by both ===== -/
/-- an item's parts: its kind, where its second number stands, whether all is well, where the fault stands, where it ends -/
abbrev f_K (g : Nat → Int32) (n p : Nat) : Prop := 48 ≤ (f_sg g n p).toInt ∧ (f_sg g n p).toInt ≤ 52
abbrev f_N (g : Nat → Int32) (n p : Nat) : Prop := 1 ≤ f_nk g n p ∧ f_nk g n p ≤ 3 ∧ f_nv g n p ≠ 0
def f_p2 (g : Nat → Int32) (n p : Nat) : Nat := p + 2 + f_nk g n (p + 2)
def f_kd (g : Nat → Int32) (n p : Nat) : Nat := ((f_sg g n p).toInt - 48).toNat
abbrev f_iok (g : Nat → Int32) (n p : Nat) : Prop := f_K g n p ∧ f_sg g n (p + 1) = 58 ∧ f_N g n (p + 2) ∧ f_sg g n (f_p2 g n p) = 42 ∧ f_N g n (f_p2 g n p + 1)
def f_if (g : Nat → Int32) (n p : Nat) : Nat := if ¬ f_K g n p then p else if ¬ f_sg g n (p + 1) = 58 then p + 1 else if ¬ f_N g n (p + 2) then f_nf g n (p + 2) else if ¬ f_sg g n (f_p2 g n p) = 42 then f_p2 g n p else f_nf g n (f_p2 g n p + 1)
def f_ie (g : Nat → Int32) (n p : Nat) : Nat := f_p2 g n p + 1 + f_nk g n (f_p2 g n p + 1)
theorem f_K_sg {g : Nat → Int32} {n p : Nat} (h : f_K g n p) : f_sg g n p - (48 : Int32) = nI (f_kd g n p) ∧ f_kd g n p < 5 := by
  have h2 : f_kd g n p < 5 := by unfold f_kd; omega
  have e : f_sg g n p = nI (48 + f_kd g n p) := by
    refine Int32.toInt_inj.mp ?_
    rw [nI_toInt (by omega)]
    unfold f_kd
    omega
  refine ⟨?_, h2⟩
  rw [e, show (48 : Int32) = nI 48 from rfl, zq_sub (by omega)]
  congr 1
  omega
theorem f_sg_lt {g : Nat → Int32} {n p : Nat} {x : Int32} (hx : x ≠ -1) (h : f_sg g n p = x) : p < n := by
  rcases Nat.lt_or_ge p n with q | q
  · exact q
  · have e : f_sg g n p = -1 := if_neg (by omega)
    exact absurd (h.symm.trans e) hx
theorem f_K_lt {g : Nat → Int32} {n p : Nat} (h : f_K g n p) : p < n := by
  rcases Nat.lt_or_ge p n with q | q
  · exact q
  · have e : f_sg g n p = -1 := if_neg (by omega)
    rw [f_K, e] at h
    exact absurd h (by decide)
theorem f_D_not {g : Nat → Int32} {n p : Nat} {x : Int32} (h : f_D g n p) (hx : x.toInt < 48 ∨ 57 < x.toInt) : ¬ f_sg g n p = x := by
  intro e
  rw [f_D, e] at h
  omega
/-- where a number is not well: nothing, or a fourth digit -/
theorem f_N_no {g : Nat → Int32} {n p : Nat} (h : ¬ f_N g n p) : f_nv g n p = 0 ∨ f_D g n (f_nf g n p) := by
  by_cases c : f_nv g n p = 0
  · exact Or.inl c
  · have hk : f_nk g n p = 0 ∨ f_nk g n p = 4 := by
      have h4 : f_nk g n p ≤ 4 := by
        unfold f_nk
        split
        · split
          · split
            · split <;> omega
            · omega
          · omega
        · omega
      omega
    rcases hk with e | e
    · exfalso
      apply c
      unfold f_nk at e
      unfold f_nv
      split at e
      · split at e
        · split at e
          · split at e <;> omega
          · omega
        · omega
      · rename_i d
        rw [if_neg d]
    · refine Or.inr ?_
      unfold f_nf
      rw [if_neg (by omega), if_pos e]
      exact f_nk4 e
theorem f_if_le {g : Nat → Int32} {n p : Nat} (hp : p ≤ n) : f_if g n p ≤ n := by
  unfold f_if
  by_cases c1 : f_K g n p
  · have l1 := f_K_lt c1
    rw [if_neg (fun q => q c1)]
    by_cases c2 : f_sg g n (p + 1) = 58
    · have l2 := f_sg_lt (by decide) c2
      rw [if_neg (fun q => q c2)]
      by_cases c3 : f_N g n (p + 2)
      · have l3 := f_nk_le (g := g) (n := n) (p := p + 2) c3
        rw [if_neg (fun q => q c3)]
        by_cases c4 : f_sg g n (f_p2 g n p) = 42
        · have l4 := f_sg_lt (by decide) c4
          rw [if_neg (fun q => q c4)]
          exact f_nf_lt (by omega)
        · rw [if_pos c4]
          unfold f_p2
          omega
      · rw [if_pos c3]
        exact f_nf_lt (by omega)
    · rw [if_pos c2]
      omega
  · rw [if_pos c1]
    exact hp
theorem f_ie_le {g : Nat → Int32} {n p : Nat} (h : f_iok g n p) : f_ie g n p ≤ n ∧ p < f_ie g n p := by
  have l5 := f_nk_le (g := g) (n := n) (p := f_p2 g n p + 1) h.2.2.2.2
  refine ⟨l5.1, ?_⟩
  unfold f_ie f_p2
  omega
/-! the class -/
def zBc (s s1 : zz_M) : Prop := s1.2.1 = s.2.1 ∧ s1.2.2.2 = s.2.2.2 ∧ (∀ q, q < 5 ∨ 7 < q → s1.1 q = s.1 q) ∧ ∀ q, q ≠ 193 → q ≠ 259 → q ≠ 260 → s1.2.2.1 q = s.2.2.1 q
theorem zBc.rf (s : zz_M) : zBc s s := ⟨rfl, rfl, fun _ _ => rfl, fun _ _ _ _ => rfl⟩
theorem zBc.tr {z z1 z2 : zz_M} (h : zBc z z1) (k : zBc z1 z2) : zBc z z2 := ⟨k.1.trans h.1, k.2.1.trans h.2.1, fun q hq => (k.2.2.1 q hq).trans (h.2.2.1 q hq), fun q q1 q2 q3 => (k.2.2.2 q q1 q2 q3).trans (h.2.2.2 q q1 q2 q3)⟩
theorem zBc.a {z z1 : zz_M} (h : zBc z z1) (v : Int32) : zBc z (zz_sF z1 193 v) := ⟨h.1, h.2.1, h.2.2.1, fun q q1 q2 q3 => by rw [zsF_ne _ _ q1]; exact h.2.2.2 q q1 q2 q3⟩
/-- an item added to the draft -/
theorem zc_add4 {s : zz_M} {k : Nat} (hk : k < 10) (e : s.2.2.1 259 = nI k) (a b c : Int32) : ∃ s', mX0_add 4 a b c s = some ((), s') ∧ zBc s s' ∧ s'.2.2.1 193 = s.2.2.1 193 ∧ s'.2.2.1 259 = nI (k + 1) ∧ s'.1 5 = upd (s.1 5) k a ∧ s'.1 6 = upd (s.1 6) k b ∧ s'.1 7 = upd (s.1 7) k c := by
  have hin := zq_k k hk (show 10 < 2 ^ 31 by decide)
  have e1 : (zz_wI s 5 (nI k) a).2.2.1 259 = nI k := e
  have e2 : (zz_wI (zz_wI s 5 (nI k) a) 6 (nI k) b).2.2.1 259 = nI k := e
  have e3 : (zz_wI (zz_wI (zz_wI s 5 (nI k) a) 6 (nI k) b) 7 (nI k) c).2.2.1 259 = nI k := e
  refine ⟨zz_sF (zz_sF (zz_wI (zz_wI (zz_wI s 5 (nI k) a) 6 (nI k) b) 7 (nI k) c) 259 (nI (k + 1))) 260 (s.2.2.1 260 + b * c), ?_, ⟨rfl, rfl, fun q hq => ?_, fun q q1 q2 q3 => ?_⟩, ?_, ?_, ?_, ?_, ?_⟩
  · show (if s.2.2.1 259 < (10 : Int32) then zz_ck (zz_in (s.2.2.1 259) 10) (zz_nm (zz_wI s 5 (s.2.2.1 259) a) (fun z3 => zz_ck (zz_in (z3.2.2.1 259) 10) (zz_nm (zz_wI z3 6 (z3.2.2.1 259) b) (fun z5 => zz_ck (zz_in (z5.2.2.1 259) 10) (zz_nm (zz_wI z5 7 (z5.2.2.1 259) c) (fun z7 => zz_nm (zz_sF z7 259 ((z7.2.2.1 259) + (1 : Int32))) (fun z8 => zz_nm (zz_sF z8 260 ((z8.2.2.1 260) + (b * c))) (fun z9 => some ((), z9))))))))) else some ((), s)) = _
    rw [e, if_pos (show nI k < (10 : Int32) from (nI_ltI (b := 10) (by omega) (by omega)).mpr hk), zz_ck_of hin, zz_nm_s, e1, zz_ck_of hin, zz_nm_s, e2, zz_ck_of hin, zz_nm_s, zz_nm_s, zz_nm_s, e3, nI_1]
    rfl
  · show (zz_wI (zz_wI (zz_wI s 5 (nI k) a) 6 (nI k) b) 7 (nI k) c).1 q = _
    rw [zw_I_ne _ _ _ (by omega), zw_I_ne _ _ _ (by omega), zw_I_ne _ _ _ (by omega)]
  · rw [zsF_ne _ _ q3, zsF_ne _ _ q2]
    rfl
  · rw [zsF_ne _ _ (by omega), zsF_ne _ _ (by omega)]
    rfl
  · rw [zsF_ne _ _ (by omega), zsF_at]
  · show (zz_wI (zz_wI (zz_wI s 5 (nI k) a) 6 (nI k) b) 7 (nI k) c).1 5 = _
    rw [zw_I_ne _ _ _ (by omega), zw_I_ne _ _ _ (by omega), zw_I_eq _ _ _ (by omega)]
  · show (zz_wI (zz_wI (zz_wI s 5 (nI k) a) 6 (nI k) b) 7 (nI k) c).1 6 = _
    rw [zw_I_ne _ _ _ (by omega), zw_I_eq _ _ _ (by omega), zw_I_ne _ _ _ (by omega)]
  · show (zz_wI (zz_wI (zz_wI s 5 (nI k) a) 6 (nI k) b) 7 (nI k) c).1 7 = _
    rw [zw_I_eq _ _ _ (by omega), zw_I_ne _ _ _ (by omega), zw_I_ne _ _ _ (by omega)]
theorem zc_readItem {s : zz_M} {g : Nat → Int32} (eg : s.1 2 = g) {n : Nat} (hn : n ≤ 120) (e : s.2.2.1 65 = nI n) {p : Nat} (hp : p ≤ n) (ea : s.2.2.1 193 = nI p) {k : Nat} (hk : k < 10) (ek : s.2.2.1 259 = nI k) :
    ∃ r s', mX1_readItem s = some (r, s') ∧ zBc s s' ∧ (f_iok g n p → r = 1 ∧ s'.2.2.1 193 = nI (f_ie g n p) ∧ s'.2.2.1 259 = nI (k + 1) ∧ s'.1 5 = upd (s.1 5) k (nI (f_kd g n p)) ∧ s'.1 6 = upd (s.1 6) k (nI (f_nv g n (p + 2))) ∧ s'.1 7 = upd (s.1 7) k (nI (f_nv g n (f_p2 g n p + 1)))) ∧ (¬ f_iok g n p → s'.2.2.1 193 = nI (f_if g n p) ∧ (r = 0 ∨ (r = 1 ∧ f_D g n (f_if g n p)))) := by
  subst eg
  unfold mX1_readItem mX1_readItem_b63
  rw [ea, zc_signAt hn e (by omega), zz_b1_s, zz_nm_s, zc_isKind, zz_b1_s, zz_ti, zz_nm_s, nI_1]
  unfold f_if
  by_cases c1 : f_K (s.1 2) n p
  · have l1 := f_K_lt c1
    obtain ⟨ks, kb⟩ := f_K_sg c1
    have es : (nI (f_kd (s.1 2) n p)).toInt = f_kd (s.1 2) n p := nI_toInt (by omega)
    rw [ks, if_pos (show 0 ≤ (nI (f_kd (s.1 2) n p)).toInt ∧ (nI (f_kd (s.1 2) n p)).toInt ≤ 4 by omega), if_neg (show ¬ ¬ f_K (s.1 2) n p from fun q => q c1), zc_pass (z := zz_sF s 193 (nI (p + 1))) hn (by rw [zsF_ne _ _ (by omega)]; exact e) (by omega) (zsF_at _ _ _)]
    show ∃ r s', zz_b2 (if f_sg (s.1 2) n (p + 1) = 58 then some ((1 : Int32), zz_sF (zz_sF s 193 (nI (p + 1))) 193 (nI (p + 1 + 1))) else some ((0 : Int32), zz_sF s 193 (nI (p + 1)))) _ = some (r, s') ∧ _
    by_cases c2 : f_sg (s.1 2) n (p + 1) = 58
    · have l2 := f_sg_lt (by decide) c2
      rw [if_pos c2, zz_b2_s, if_neg zq_not0, zsF_2, if_neg (show ¬ ¬ f_sg (s.1 2) n (p + 1) = 58 from fun q => q c2), zc_readNumber (z := zz_sF s 193 (nI (p + 1 + 1))) (p := p + 1 + 1) hn (by rw [zsF_ne _ _ (by omega)]; exact e) (by omega) (zsF_at _ _ _) (by omega), zz_b2_s, zsF_2]
      show ∃ r s', (if nI (f_nv (s.1 2) n (p + 2)) = 0 then some ((0 : Int32), zz_sF s 193 (nI (if f_N (s.1 2) n (p + 2) then p + 2 + f_nk (s.1 2) n (p + 2) else f_nf (s.1 2) n (p + 2)))) else zz_b2 (mX1_pass 42 (zz_sF s 193 (nI (if f_N (s.1 2) n (p + 2) then p + 2 + f_nk (s.1 2) n (p + 2) else f_nf (s.1 2) n (p + 2))))) _) = some (r, s') ∧ _
      by_cases c3 : f_N (s.1 2) n (p + 2)
      · have l3 := f_nk_le (g := s.1 2) (n := n) (p := p + 2) c3
        have hbd := f_nv_bd (s.1 2) n (p + 2)
        rw [if_neg (show ¬ ¬ f_N (s.1 2) n (p + 2) from fun q => q c3), if_pos c3, if_neg (nI_pos_eq (by omega) (by omega)), zc_pass (z := zz_sF s 193 (nI (p + 2 + f_nk (s.1 2) n (p + 2)))) (p := p + 2 + f_nk (s.1 2) n (p + 2)) hn (by rw [zsF_ne _ _ (by omega)]; exact e) (by omega) (zsF_at _ _ _)]
        show ∃ r s', zz_b2 (if f_sg (s.1 2) n (f_p2 (s.1 2) n p) = 42 then some ((1 : Int32), zz_sF (zz_sF s 193 (nI (f_p2 (s.1 2) n p))) 193 (nI (f_p2 (s.1 2) n p + 1))) else some ((0 : Int32), zz_sF s 193 (nI (f_p2 (s.1 2) n p)))) _ = some (r, s') ∧ _
        by_cases c4 : f_sg (s.1 2) n (f_p2 (s.1 2) n p) = 42
        · have l4 := f_sg_lt (by decide) c4
          rw [if_pos c4, zz_b2_s, if_neg zq_not0, zsF_2, if_neg (show ¬ ¬ f_sg (s.1 2) n (f_p2 (s.1 2) n p) = 42 from fun q => q c4), zc_readNumber (z := zz_sF s 193 (nI (f_p2 (s.1 2) n p + 1))) (p := f_p2 (s.1 2) n p + 1) hn (by rw [zsF_ne _ _ (by omega)]; exact e) (by omega) (zsF_at _ _ _) (by omega), zz_b2_s, zsF_2]
          have hbd2 := f_nv_bd (s.1 2) n (f_p2 (s.1 2) n p + 1)
          show ∃ r s', (if nI (f_nv (s.1 2) n (f_p2 (s.1 2) n p + 1)) = 0 then some ((0 : Int32), zz_sF s 193 (nI (if f_N (s.1 2) n (f_p2 (s.1 2) n p + 1) then f_p2 (s.1 2) n p + 1 + f_nk (s.1 2) n (f_p2 (s.1 2) n p + 1) else f_nf (s.1 2) n (f_p2 (s.1 2) n p + 1)))) else zz_b2 (mX0_add 4 (nI (f_kd (s.1 2) n p)) (nI (f_nv (s.1 2) n (p + 2))) (nI (f_nv (s.1 2) n (f_p2 (s.1 2) n p + 1))) (zz_sF s 193 (nI (if f_N (s.1 2) n (f_p2 (s.1 2) n p + 1) then f_p2 (s.1 2) n p + 1 + f_nk (s.1 2) n (f_p2 (s.1 2) n p + 1) else f_nf (s.1 2) n (f_p2 (s.1 2) n p + 1))))) _) = some (r, s') ∧ _
          obtain ⟨s', a1, a2, a3, a4, a5, a6, a7⟩ := zc_add4 (s := zz_sF s 193 (nI (if f_N (s.1 2) n (f_p2 (s.1 2) n p + 1) then f_p2 (s.1 2) n p + 1 + f_nk (s.1 2) n (f_p2 (s.1 2) n p + 1) else f_nf (s.1 2) n (f_p2 (s.1 2) n p + 1)))) hk (by rw [zsF_ne _ _ (by omega)]; exact ek) (nI (f_kd (s.1 2) n p)) (nI (f_nv (s.1 2) n (p + 2))) (nI (f_nv (s.1 2) n (f_p2 (s.1 2) n p + 1)))
          rw [zsF_at] at a3
          by_cases c5 : f_N (s.1 2) n (f_p2 (s.1 2) n p + 1)
          · rw [if_neg (nI_pos_eq (by omega) (by omega)), a1, zz_b2_s]
            rw [if_pos c5] at a3
            exact ⟨1, s', rfl, ((zBc.rf s).a _).tr a2, fun _ => ⟨rfl, a3, a4, a5, a6, a7⟩, fun q => absurd ⟨c1, c2, c3, c4, c5⟩ q⟩
          · rcases f_N_no c5 with c6 | c6
            · rw [if_pos (show nI (f_nv (s.1 2) n (f_p2 (s.1 2) n p + 1)) = 0 by rw [c6]; rfl), if_neg c5]
              exact ⟨0, _, rfl, (zBc.rf s).a _, fun q => absurd q.2.2.2.2 c5, fun _ => ⟨zsF_at _ _ _, Or.inl rfl⟩⟩
            · by_cases c7 : f_nv (s.1 2) n (f_p2 (s.1 2) n p + 1) = 0
              · rw [if_pos (show nI (f_nv (s.1 2) n (f_p2 (s.1 2) n p + 1)) = 0 by rw [c7]; rfl), if_neg c5]
                exact ⟨0, _, rfl, (zBc.rf s).a _, fun q => absurd q.2.2.2.2 c5, fun _ => ⟨zsF_at _ _ _, Or.inl rfl⟩⟩
              · rw [if_neg (nI_pos_eq (by omega) (by omega)), a1, zz_b2_s]
                rw [if_neg c5] at a3
                exact ⟨1, s', rfl, ((zBc.rf s).a _).tr a2, fun q => absurd q.2.2.2.2 c5, fun _ => ⟨a3, Or.inr ⟨rfl, c6⟩⟩⟩
        · rw [if_neg c4, zz_b2_s, if_pos rfl, if_pos c4]
          exact ⟨0, _, rfl, (zBc.rf s).a _, fun q => absurd q.2.2.2.1 c4, fun _ => ⟨zsF_at _ _ _, Or.inl rfl⟩⟩
      · rw [if_pos c3, if_neg c3]
        have hbd := f_nv_bd (s.1 2) n (p + 2)
        by_cases c7 : f_nv (s.1 2) n (p + 2) = 0
        · rw [c7, if_pos nI_0]
          exact ⟨0, _, rfl, (zBc.rf s).a _, fun q => absurd q.2.2.1 c3, fun _ => ⟨zsF_at _ _ _, Or.inl rfl⟩⟩
        · have c6 := (f_N_no c3).resolve_left c7
          have l6 := f_D_lt c6
          rw [if_neg (nI_pos_eq (by omega) (by omega)), zc_pass (z := zz_sF s 193 (nI (f_nf (s.1 2) n (p + 2)))) (p := f_nf (s.1 2) n (p + 2)) hn (by rw [zsF_ne _ _ (by omega)]; exact e) (by omega) (zsF_at _ _ _)]
          show ∃ r s', zz_b2 (if f_sg (s.1 2) n (f_nf (s.1 2) n (p + 2)) = 42 then _ else some ((0 : Int32), zz_sF s 193 (nI (f_nf (s.1 2) n (p + 2))))) _ = some (r, s') ∧ _
          rw [if_neg (f_D_not c6 (by decide)), zz_b2_s, if_pos rfl]
          exact ⟨0, _, rfl, (zBc.rf s).a _, fun q => absurd q.2.2.1 c3, fun _ => ⟨zsF_at _ _ _, Or.inl rfl⟩⟩
    · rw [if_neg c2, zz_b2_s, if_pos rfl, if_pos c2]
      exact ⟨0, _, rfl, (zBc.rf s).a _, fun q => absurd q.2.1 c2, fun _ => ⟨zsF_at _ _ _, Or.inl rfl⟩⟩
  · have hno : ¬ (0 ≤ (f_sg (s.1 2) n p - 48).toInt ∧ (f_sg (s.1 2) n p - 48).toInt ≤ 4) := by
      intro q
      apply c1
      obtain ⟨j, hj, ej⟩ := zq_toNat (n := 4) (x := f_sg (s.1 2) n p - 48) q.1 q.2 (by decide)
      have e2 : f_sg (s.1 2) n p = nI (j + 48) := by
        rw [← nI_add, ← ej]
        show _ = f_sg (s.1 2) n p - 48 + 48
        rw [Int32.sub_eq_add_neg, Int32.add_assoc, Int32.add_left_neg, Int32.add_zero]
      rw [f_K, e2, nI_toInt (by omega)]
      omega
    rw [if_neg hno, if_pos c1]
    exact ⟨0, s, rfl, zBc.rf s, fun q => absurd q.1 c1, fun _ => ⟨ea, Or.inl rfl⟩⟩
/-! the reference -/
def bR5 (K : Int32 → zz_M → Option (Int32 × zz_M)) (v1 : Int32) (z : zz_M) : Option (Int32 × zz_M) := zz_b2 (mX11_number z) (fun r27 z29 => zz_ck (zz_in (((3 : Int32) * v1) + (2 : Int32)) 30) (zz_nm (zz_wI z29 11 (((3 : Int32) * v1) + (2 : Int32)) r27) (fun z31 => zz_nm (v1 + (1 : Int32)) (fun n32 => K n32 z31))))
def bR4 (K : Int32 → zz_M → Option (Int32 × zz_M)) (v1 : Int32) (z : zz_M) : Option (Int32 × zz_M) := zz_b2 (mX11_expect (42 : Int32) z) (fun r24 z26 => bR5 K v1 z26)
def bR3 (K : Int32 → zz_M → Option (Int32 × zz_M)) (v1 : Int32) (z : zz_M) : Option (Int32 × zz_M) := zz_b2 (mX11_number z) (fun r19 z21 => zz_ck (zz_in (((3 : Int32) * v1) + (1 : Int32)) 30) (zz_nm (zz_wI z21 11 (((3 : Int32) * v1) + (1 : Int32)) r19) (fun z23 => bR4 K v1 z23)))
def bR2 (K : Int32 → zz_M → Option (Int32 × zz_M)) (v1 : Int32) (z : zz_M) : Option (Int32 × zz_M) := zz_b2 (mX11_expect (58 : Int32) z) (fun r16 z18 => bR3 K v1 z18)
theorem bR1 (K : Int32 → zz_M → Option (Int32 × zz_M)) (v1 : Int32) (z : zz_M) : mX11_bill_b109 K v1 z = zz_b1 (mX11_here z) (fun r11 => zz_ck (zz_in ((3 : Int32) * v1) 30) (zz_nm (zz_wI z 11 ((3 : Int32) * v1) (r11 - (48 : Int32))) (fun z14 => zz_nm (zz_sF z14 21 ((z14.2.2.1 21) + (1 : Int32))) (fun z15 => bR2 K v1 z15)))) := rfl
/-- what is left of the reference's memory: all but the places from m on of what is read, and the two numbers of reading -/
def zBr (m : Nat) (z z1 : zz_M) : Prop := z1.2.1 = z.2.1 ∧ z1.2.2.2 = z.2.2.2 ∧ (∀ q, q ≠ 11 → z1.1 q = z.1 q) ∧ (∀ j, j < m → z1.1 11 j = z.1 11 j) ∧ ∀ q, q ≠ 21 → q ≠ 22 → z1.2.2.1 q = z.2.2.1 q
theorem zBr.rf (m : Nat) (z : zz_M) : zBr m z z := ⟨rfl, rfl, fun _ _ => rfl, fun _ _ => rfl, fun _ _ _ => rfl⟩
theorem zBr.tr {m k : Nat} {z z1 z2 : zz_M} (hm : m ≤ k) (h : zBr m z z1) (q : zBr k z1 z2) : zBr m z z2 := ⟨q.1.trans h.1, q.2.1.trans h.2.1, fun x hx => (q.2.2.1 x hx).trans (h.2.2.1 x hx), fun j hj => (q.2.2.2.1 j (by omega)).trans (h.2.2.2.1 j hj), fun x h1 h2 => (q.2.2.2.2 x h1 h2).trans (h.2.2.2.2 x h1 h2)⟩
theorem zBn.br {z z1 : zz_M} (h : zBn z z1) (m : Nat) : zBr m z z1 := ⟨h.2.1, h.2.2.1, fun q _ => by rw [h.1], fun j _ => by rw [h.1], h.2.2.2⟩
theorem zBr_w (z : zz_M) {m : Nat} (hm : m < 30) (x : Int32) : zBr m z (zz_wI z 11 (nI m) x) := ⟨rfl, rfl, fun q hq => zw_I_ne _ _ _ hq, fun j hj => zw_I_off _ _ _ (by omega) (by omega), fun _ _ _ => rfl⟩
theorem zBr.tx {m : Nat} {z z1 : zz_M} (h : zBr m z z1) : f_tx z1 = f_tx z := by
  unfold f_tx
  rw [h.2.2.1 9 (by omega)]
theorem bR5_F {K : Int32 → zz_M → Option (Int32 × zz_M)} {k : Nat} (hk : k < 10) {z : zz_M} {F : Nat} (hF : F < 1000) (h : z.2.2.1 22 = nI F) : ∃ z', bR5 K (nI k) z = K (nI (k + 1)) z' ∧ zBr (3 * k + 2) z z' ∧ z'.2.2.1 22 = nI F := by
  have hne : ¬ z.2.2.1 22 = -1 := by rw [h]; exact nI_n1 (by omega)
  unfold bR5
  rw [zr_numberF hne, zz_b2_s, zq_32, zz_ck_of (zq_k _ (show 3 * k + 2 < 30 by omega) (by decide)), zz_nm_s, zz_nm_s, nI_1]
  exact ⟨_, rfl, zBr_w z (by omega) 0, h⟩
theorem bR5_N {K : Int32 → zz_M → Option (Int32 × zz_M)} {k : Nat} (hk : k < 10) {z : zz_M} {n : Nat} (hn : n ≤ 120) (e : z.2.2.1 20 = nI n) {p : Nat} (hp : p < 400) (hp0 : 0 < p) (ea : z.2.2.1 21 = nI p) (h : z.2.2.1 22 = -1) : ∃ z', bR5 K (nI k) z = K (nI (k + 1)) z' ∧ zBr (3 * k + 2) z z' ∧ (f_N (f_tx z) n p → z'.2.2.1 22 = -1 ∧ z'.2.2.1 21 = nI (p + f_nk (f_tx z) n p) ∧ z'.1 11 (3 * k + 2) = nI (f_nv (f_tx z) n p)) ∧ (¬ f_N (f_tx z) n p → z'.2.2.1 22 = nI (f_nf (f_tx z) n p)) := by
  obtain ⟨V, z1, a1, a2, a3, a4⟩ := zr_number hn e (by omega) ea hp0 h
  unfold bR5
  rw [a1, zz_b2_s, zq_32, zz_ck_of (zq_k _ (show 3 * k + 2 < 30 by omega) (by decide)), zz_nm_s, zz_nm_s, nI_1]
  refine ⟨_, rfl, zBr.tr (Nat.le_refl _) (a2.br _) (zBr_w z1 (by omega) V), fun q => ?_, fun q => a4 q⟩
  obtain ⟨b1, b2, b3⟩ := a3 q
  exact ⟨b2, b3, by rw [zw_I_same _ _ _ _ (by omega), b1]⟩
theorem bR3_F {K : Int32 → zz_M → Option (Int32 × zz_M)} {k : Nat} (hk : k < 10) {z : zz_M} {F : Nat} (hF : F < 1000) (h : z.2.2.1 22 = nI F) : ∃ z', bR3 K (nI k) z = K (nI (k + 1)) z' ∧ zBr (3 * k + 1) z z' ∧ z'.2.2.1 22 = nI F := by
  have hne : ¬ z.2.2.1 22 = -1 := by rw [h]; exact nI_n1 (by omega)
  unfold bR3
  rw [zr_numberF hne, zz_b2_s, zq_31, zz_ck_of (zq_k _ (show 3 * k + 1 < 30 by omega) (by decide)), zz_nm_s]
  unfold bR4
  have h2 : (zz_wI z 11 (nI (3 * k + 1)) 0).2.2.1 22 = nI F := h
  have hne2 : ¬ (zz_wI z 11 (nI (3 * k + 1)) 0).2.2.1 22 = -1 := hne
  rw [zr_expectF hne2, zz_b2_s]
  obtain ⟨z', b1, b2, b3⟩ := bR5_F (K := K) hk hF h2
  exact ⟨z', b1, zBr.tr (by omega) (zBr_w z (by omega) 0) b2, b3⟩
theorem bR3_N {K : Int32 → zz_M → Option (Int32 × zz_M)} {k : Nat} (hk : k < 10) {z : zz_M} {n : Nat} (hn : n ≤ 120) (e : z.2.2.1 20 = nI n) {p : Nat} (hp : p < 300) (hp0 : 0 < p) (ea : z.2.2.1 21 = nI p) (h : z.2.2.1 22 = -1) : ∃ z', bR3 K (nI k) z = K (nI (k + 1)) z' ∧ zBr (3 * k + 1) z z' ∧
    (f_N (f_tx z) n p ∧ f_sg (f_tx z) n (p + f_nk (f_tx z) n p) = 42 ∧ f_N (f_tx z) n (p + f_nk (f_tx z) n p + 1) → z'.2.2.1 22 = -1 ∧ z'.2.2.1 21 = nI (p + f_nk (f_tx z) n p + 1 + f_nk (f_tx z) n (p + f_nk (f_tx z) n p + 1)) ∧ z'.1 11 (3 * k + 1) = nI (f_nv (f_tx z) n p) ∧ z'.1 11 (3 * k + 2) = nI (f_nv (f_tx z) n (p + f_nk (f_tx z) n p + 1))) ∧
    (¬ (f_N (f_tx z) n p ∧ f_sg (f_tx z) n (p + f_nk (f_tx z) n p) = 42 ∧ f_N (f_tx z) n (p + f_nk (f_tx z) n p + 1)) → z'.2.2.1 22 = nI (if ¬ f_N (f_tx z) n p then f_nf (f_tx z) n p else if ¬ f_sg (f_tx z) n (p + f_nk (f_tx z) n p) = 42 then p + f_nk (f_tx z) n p else f_nf (f_tx z) n (p + f_nk (f_tx z) n p + 1))) := by
  obtain ⟨V, z1, a1, a2, a3, a4⟩ := zr_number hn e (by omega) ea hp0 h
  unfold bR3
  rw [a1, zz_b2_s, zq_31, zz_ck_of (zq_k _ (show 3 * k + 1 < 30 by omega) (by decide)), zz_nm_s]
  have hz1 : zBr (3 * k + 1) z (zz_wI z1 11 (nI (3 * k + 1)) V) := zBr.tr (Nat.le_refl _) (a2.br _) (zBr_w z1 (by omega) V)
  generalize hz2 : zz_wI z1 11 (nI (3 * k + 1)) V = z2 at hz1
  have e22 : z2.2.2.1 22 = z1.2.2.1 22 := by rw [← hz2]; rfl
  have e21 : z2.2.2.1 21 = z1.2.2.1 21 := by rw [← hz2]; rfl
  have e11 : z2.1 11 (3 * k + 1) = V := by rw [← hz2, zw_I_same _ _ _ _ (by omega)]
  have e20 : z2.2.2.1 20 = nI n := by rw [hz1.2.2.2.2 20 (by omega) (by omega)]; exact e
  have hnf : f_nf (f_tx z) n p < 1000 := by
    have : f_nk (f_tx z) n p ≤ 4 := by
      unfold f_nk
      split
      · split
        · split
          · split <;> omega
          · omega
        · omega
      · omega
    unfold f_nf
    split
    · omega
    · split <;> omega
  unfold bR4
  by_cases c3 : f_N (f_tx z) n p
  · obtain ⟨b1, b2, b3⟩ := a3 c3
    have l3 := f_nk_le (g := f_tx z) (n := n) (p := p) c3
    rw [zr_expect (z := z2) hn e20 (p := p + f_nk (f_tx z) n p) (by omega) (by rw [e21, b3]) (by rw [e22, b2]), zz_b2_s, hz1.tx]
    by_cases c4 : f_sg (f_tx z) n (p + f_nk (f_tx z) n p) = 42
    · have l4 := f_sg_lt (by decide) c4
      rw [if_pos c4]
      have hb : zBr (3 * k + 1) z (zz_sF z2 21 (nI (p + f_nk (f_tx z) n p + 1))) := zBr.tr (Nat.le_refl _) hz1 (((zBn.rf z2).a _).br _)
      obtain ⟨z', d1, d2, d3, d4⟩ := bR5_N (K := K) hk (z := zz_sF z2 21 (nI (p + f_nk (f_tx z) n p + 1))) hn (by rw [zsF_ne _ _ (by omega)]; exact e20) (p := p + f_nk (f_tx z) n p + 1) (by omega) (by omega) (zsF_at _ _ _) (by rw [zsF_ne _ _ (by omega), e22, b2])
      rw [hb.tx] at d3 d4
      refine ⟨z', d1, zBr.tr (by omega) hb d2, fun q => ?_, fun q => ?_⟩
      · obtain ⟨g1, g2, g3⟩ := d3 q.2.2
        refine ⟨g1, g2, ?_, g3⟩
        rw [d2.2.2.2.1 (3 * k + 1) (by omega)]
        show z2.1 11 (3 * k + 1) = _
        rw [e11, b1]
      · rw [if_neg (show ¬ ¬ f_N (f_tx z) n p from fun w => w c3), if_neg (show ¬ ¬ f_sg (f_tx z) n (p + f_nk (f_tx z) n p) = 42 from fun w => w c4)]
        exact d4 (fun w => q ⟨c3, c4, w⟩)
    · rw [if_neg c4]
      have hb : zBr (3 * k + 1) z (zz_sF (zz_sF z2 22 (nI (p + f_nk (f_tx z) n p))) 21 (nI (p + f_nk (f_tx z) n p + 1))) := zBr.tr (Nat.le_refl _) hz1 ((((zBn.rf z2).b _).a _).br _)
      obtain ⟨z', d1, d2, d3⟩ := bR5_F (K := K) hk (z := zz_sF (zz_sF z2 22 (nI (p + f_nk (f_tx z) n p))) 21 (nI (p + f_nk (f_tx z) n p + 1))) (F := p + f_nk (f_tx z) n p) (by omega) (by rw [zsF_ne _ _ (by omega), zsF_at])
      refine ⟨z', d1, zBr.tr (by omega) hb d2, fun q => absurd q.2.1 c4, fun q => ?_⟩
      rw [if_neg (show ¬ ¬ f_N (f_tx z) n p from fun w => w c3), if_pos c4]
      exact d3
  · have b4 := a4 c3
    have hne : ¬ z2.2.2.1 22 = -1 := by rw [e22, b4]; exact nI_n1 (by omega)
    rw [zr_expectF hne, zz_b2_s]
    obtain ⟨z', d1, d2, d3⟩ := bR5_F (K := K) hk (z := z2) (F := f_nf (f_tx z) n p) hnf (by rw [e22, b4])
    refine ⟨z', d1, zBr.tr (by omega) hz1 d2, fun q => absurd q.1 c3, fun q => ?_⟩
    rw [if_pos c3]
    exact d3
theorem zr_item {K : Int32 → zz_M → Option (Int32 × zz_M)} {k : Nat} (hk : k < 10) {z : zz_M} {g : Nat → Int32} (eg : f_tx z = g) {n : Nat} (hn : n ≤ 120) (e : z.2.2.1 20 = nI n) {p : Nat} (hp : p ≤ n) (ea : z.2.2.1 21 = nI p) (h : z.2.2.1 22 = -1) : ∃ z', mX11_bill_b73 K (nI k) z = K (nI (k + 1)) z' ∧ zBr (3 * k) z z' ∧ (f_iok g n p → z'.2.2.1 22 = -1 ∧ z'.2.2.1 21 = nI (f_ie g n p) ∧ z'.1 11 (3 * k) = nI (f_kd g n p) ∧ z'.1 11 (3 * k + 1) = nI (f_nv g n (p + 2)) ∧ z'.1 11 (3 * k + 2) = nI (f_nv g n (f_p2 g n p + 1))) ∧ (¬ f_iok g n p → z'.2.2.1 22 = nI (f_if g n p)) := by
  have hre := zr_here hn e (by omega) ea
  rw [eg] at hre
  unfold mX11_bill_b73
  rw [if_pos h, hre, zz_b1_s, zr_in32, zz_b1_s, zz_ti, ea, zr_fault0 h, zz_b2_s]
  unfold f_if
  by_cases c1 : f_K g n p
  · have l1 := f_K_lt c1
    rw [if_pos (show (48 : Int64).toInt ≤ (f_sg g n p).toInt ∧ (f_sg g n p).toInt ≤ (52 : Int64).toInt from c1), bR1, hre, zz_b1_s, zq_3, zz_ck_of (zq_k _ (show 3 * k < 30 by omega) (by decide)), zz_nm_s, zz_nm_s, (f_K_sg c1).1]
    have ea2 : (zz_wI z 11 (nI (3 * k)) (nI (f_kd g n p))).2.2.1 21 = nI p := ea
    rw [ea2, nI_1]
    have hb : zBr (3 * k) z (zz_sF (zz_wI z 11 (nI (3 * k)) (nI (f_kd g n p))) 21 (nI (p + 1))) := zBr.tr (Nat.le_refl _) (zBr_w z (by omega) _) (((zBn.rf _).a _).br _)
    have e11 : (zz_sF (zz_wI z 11 (nI (3 * k)) (nI (f_kd g n p))) 21 (nI (p + 1))).1 11 (3 * k) = nI (f_kd g n p) := zw_I_same z 11 (3 * k) _ (by omega)
    have e22 : (zz_sF (zz_wI z 11 (nI (3 * k)) (nI (f_kd g n p))) 21 (nI (p + 1))).2.2.1 22 = -1 := by rw [zsF_ne _ _ (by omega)]; exact h
    have e21 : (zz_sF (zz_wI z 11 (nI (3 * k)) (nI (f_kd g n p))) 21 (nI (p + 1))).2.2.1 21 = nI (p + 1) := zsF_at _ _ _
    generalize zz_sF (zz_wI z 11 (nI (3 * k)) (nI (f_kd g n p))) 21 (nI (p + 1)) = z1 at hb e11 e22 e21 ⊢
    have e20 : z1.2.2.1 20 = nI n := by rw [hb.2.2.2.2 20 (by omega) (by omega)]; exact e
    have tx1 : f_tx z1 = g := hb.tx.trans eg
    rw [if_neg (show ¬ ¬ f_K g n p from fun q => q c1)]
    unfold bR2
    rw [zr_expect hn e20 (by omega) e21 e22, zz_b2_s, tx1]
    by_cases c2 : f_sg g n (p + 1) = 58
    · have l2 := f_sg_lt (by decide) c2
      rw [if_pos c2, if_neg (show ¬ ¬ f_sg g n (p + 1) = 58 from fun q => q c2)]
      have hb2 : zBr (3 * k) z (zz_sF z1 21 (nI (p + 1 + 1))) := zBr.tr (Nat.le_refl _) hb (((zBn.rf _).a _).br _)
      obtain ⟨z', d1, d2, d3, d4⟩ := bR3_N (K := K) hk (z := zz_sF z1 21 (nI (p + 1 + 1))) hn (by rw [zsF_ne _ _ (by omega)]; exact e20) (p := p + 2) (by omega) (by omega) (zsF_at _ _ _) (by rw [zsF_ne _ _ (by omega), e22])
      have tx2 : f_tx (zz_sF z1 21 (nI (p + 1 + 1))) = g := hb2.tx.trans eg
      rw [tx2] at d3 d4
      refine ⟨z', d1, zBr.tr (by omega) hb2 d2, fun q => ?_, fun q => ?_⟩
      · obtain ⟨g1, g2, g3, g4⟩ := d3 ⟨q.2.2.1, q.2.2.2.1, q.2.2.2.2⟩
        refine ⟨g1, g2, ?_, g3, g4⟩
        rw [d2.2.2.2.1 (3 * k) (by omega)]
        exact e11
      · exact d4 (fun w => q ⟨c1, c2, w.1, w.2.1, w.2.2⟩)
    · rw [if_neg c2, if_pos c2]
      have hb2 : zBr (3 * k) z (zz_sF (zz_sF z1 22 (nI (p + 1))) 21 (nI (p + 1 + 1))) := zBr.tr (Nat.le_refl _) hb ((((zBn.rf _).b _).a _).br _)
      obtain ⟨z', d1, d2, d3⟩ := bR3_F (K := K) hk (z := zz_sF (zz_sF z1 22 (nI (p + 1))) 21 (nI (p + 1 + 1))) (F := p + 1) (by omega) (by rw [zsF_ne _ _ (by omega), zsF_at])
      exact ⟨z', d1, zBr.tr (by omega) hb2 d2, fun q => absurd q.2.1 c2, fun _ => d3⟩
  · have hre2 : mX11_here (zz_sF z 22 (nI p)) = some (f_sg g n p) := by
      have := zr_here (z := zz_sF z 22 (nI p)) hn (by rw [zsF_ne _ _ (by omega)]; exact e) (p := p) (by omega) (by rw [zsF_ne _ _ (by omega)]; exact ea)
      rw [← eg]
      exact this
    rw [if_neg (show ¬ ((48 : Int64).toInt ≤ (f_sg g n p).toInt ∧ (f_sg g n p).toInt ≤ (52 : Int64).toInt) from c1), if_pos c1, bR1, hre2, zz_b1_s, zq_3, zz_ck_of (zq_k _ (show 3 * k < 30 by omega) (by decide)), zz_nm_s, zz_nm_s]
    have hb : zBr (3 * k) z (zz_sF (zz_wI (zz_sF z 22 (nI p)) 11 (nI (3 * k)) (f_sg g n p - 48)) 21 ((zz_wI (zz_sF z 22 (nI p)) 11 (nI (3 * k)) (f_sg g n p - 48)).2.2.1 21 + 1)) := zBr.tr (Nat.le_refl _) (zBr.tr (Nat.le_refl _) (((zBn.rf _).b _).br _) (zBr_w _ (by omega) _)) (((zBn.rf _).a _).br _)
    have e22 : (zz_sF (zz_wI (zz_sF z 22 (nI p)) 11 (nI (3 * k)) (f_sg g n p - 48)) 21 ((zz_wI (zz_sF z 22 (nI p)) 11 (nI (3 * k)) (f_sg g n p - 48)).2.2.1 21 + 1)).2.2.1 22 = nI p := by
      rw [zsF_ne _ _ (by omega)]
      exact zsF_at z 22 (nI p)
    generalize zz_sF (zz_wI (zz_sF z 22 (nI p)) 11 (nI (3 * k)) (f_sg g n p - 48)) 21 ((zz_wI (zz_sF z 22 (nI p)) 11 (nI (3 * k)) (f_sg g n p - 48)).2.2.1 21 + 1) = z1 at hb e22 ⊢
    have hne : ¬ z1.2.2.1 22 = -1 := by rw [e22]; exact nI_n1 (by omega)
    unfold bR2
    rw [zr_expectF hne, zz_b2_s]
    obtain ⟨z', d1, d2, d3⟩ := bR3_F (K := K) hk (z := z1) (F := p) (by omega) e22
    exact ⟨z', d1, zBr.tr (by omega) hb d2, fun q => absurd q.1 c1, fun _ => d3⟩
