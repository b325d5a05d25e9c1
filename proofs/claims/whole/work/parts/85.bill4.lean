/-! ===== bill: a new book ===== -/
theorem zc_add9 {s : zz_M} {k : Nat} (hk : k < 10) (e : s.2.2.1 579 = nI k) (a b c : Int32) : ∃ s', mX0_add 9 a b c s = some ((), s') ∧ s'.2.1 = s.2.1 ∧ s'.2.2.2 = s.2.2.2 ∧ (∀ q, q < 10 ∨ 12 < q → s'.1 q = s.1 q) ∧ (∀ q, q ≠ 579 → q ≠ 580 → s'.2.2.1 q = s.2.2.1 q) ∧ s'.2.2.1 579 = nI (k + 1) ∧ s'.2.2.1 580 = s.2.2.1 580 + b * c ∧ s'.1 10 = upd (s.1 10) k a ∧ s'.1 11 = upd (s.1 11) k b ∧ s'.1 12 = upd (s.1 12) k c := by
  have hin := zq_k k hk (show 10 < 2 ^ 31 by decide)
  have e1 : (zz_wI s 10 (nI k) a).2.2.1 579 = nI k := e
  have e2 : (zz_wI (zz_wI s 10 (nI k) a) 11 (nI k) b).2.2.1 579 = nI k := e
  have e3 : (zz_wI (zz_wI (zz_wI s 10 (nI k) a) 11 (nI k) b) 12 (nI k) c).2.2.1 579 = nI k := e
  refine ⟨zz_sF (zz_sF (zz_wI (zz_wI (zz_wI s 10 (nI k) a) 11 (nI k) b) 12 (nI k) c) 579 (nI (k + 1))) 580 (s.2.2.1 580 + b * c), ?_, rfl, rfl, fun q hq => ?_, fun q q1 q2 => ?_, ?_, ?_, ?_, ?_, ?_⟩
  · show (if s.2.2.1 579 < (10 : Int32) then zz_ck (zz_in (s.2.2.1 579) 10) (zz_nm (zz_wI s 10 (s.2.2.1 579) a) (fun z3 => zz_ck (zz_in (z3.2.2.1 579) 10) (zz_nm (zz_wI z3 11 (z3.2.2.1 579) b) (fun z5 => zz_ck (zz_in (z5.2.2.1 579) 10) (zz_nm (zz_wI z5 12 (z5.2.2.1 579) c) (fun z7 => zz_nm (zz_sF z7 579 ((z7.2.2.1 579) + (1 : Int32))) (fun z8 => zz_nm (zz_sF z8 580 ((z8.2.2.1 580) + (b * c))) (fun z9 => some ((), z9))))))))) else some ((), s)) = _
    rw [e, if_pos (show nI k < (10 : Int32) from (nI_ltI (b := 10) (by omega) (by omega)).mpr hk), zz_ck_of hin, zz_nm_s, e1, zz_ck_of hin, zz_nm_s, e2, zz_ck_of hin, zz_nm_s, zz_nm_s, zz_nm_s, e3, nI_1]
    rfl
  · show (zz_wI (zz_wI (zz_wI s 10 (nI k) a) 11 (nI k) b) 12 (nI k) c).1 q = _
    rw [zw_I_ne _ _ _ (by omega), zw_I_ne _ _ _ (by omega), zw_I_ne _ _ _ (by omega)]
  · rw [zsF_ne _ _ q2, zsF_ne _ _ q1]
    rfl
  · rw [zsF_ne _ _ (by omega), zsF_at]
  · rw [zsF_at]
  · show (zz_wI (zz_wI (zz_wI s 10 (nI k) a) 11 (nI k) b) 12 (nI k) c).1 10 = _
    rw [zw_I_ne _ _ _ (by omega), zw_I_ne _ _ _ (by omega), zw_I_eq _ _ _ (by omega)]
  · show (zz_wI (zz_wI (zz_wI s 10 (nI k) a) 11 (nI k) b) 12 (nI k) c).1 11 = _
    rw [zw_I_ne _ _ _ (by omega), zw_I_eq _ _ _ (by omega), zw_I_ne _ _ _ (by omega)]
  · show (zz_wI (zz_wI (zz_wI s 10 (nI k) a) 11 (nI k) b) 12 (nI k) c).1 12 = _
    rw [zw_I_eq _ _ _ (by omega), zw_I_ne _ _ _ (by omega), zw_I_ne _ _ _ (by omega)]
/-- the items taken from the draft, i of them -/
def zTk (s s1 : zz_M) (i : Nat) : Prop := s1.2.1 = s.2.1 ∧ s1.2.2.2 = s.2.2.2 ∧ (∀ q, q < 10 ∨ 12 < q → s1.1 q = s.1 q) ∧ (∀ q, q ≠ 579 → q ≠ 580 → s1.2.2.1 q = s.2.2.1 q) ∧ s1.2.2.1 579 = nI i ∧ (∀ j, j < i → s1.1 10 j = s.1 5 j ∧ s1.1 11 j = s.1 6 j ∧ s1.1 12 j = s.1 7 j) ∧ (s1.2.2.1 580).toInt64 = f_acc (fun j => (s.1 6 j).toInt64 * (s.1 7 j).toInt64) 0 i ∧ 0 ≤ (s1.2.2.1 580).toInt ∧ (s1.2.2.1 580).toInt ≤ 998001 * i
theorem zc_take_b6 {s : zz_M} {K : Nat} (hK : K ≤ 10) (eK : s.2.2.1 259 = nI K) (hq : ∀ i, i < K → (∃ j : Nat, 1 ≤ j ∧ j < 1000 ∧ s.1 6 i = nI j) ∧ ∃ j : Nat, 1 ≤ j ∧ j < 1000 ∧ s.1 7 i = nI j) : ∀ (j i fuel : Nat) (s1 : zz_M), i + j = K → j < fuel → zTk s s1 i → ∃ s2, mX0_take_b6 9 4 fuel (nI i) s1 = some ((), s2) ∧ zTk s s2 K := by
  intro j
  induction j with
  | zero =>
    intro i fuel s1 hi hf h
    obtain ⟨f, rfl⟩ : ∃ f, fuel = f + 1 := ⟨fuel - 1, by omega⟩
    have : i = K := by omega
    subst this
    refine ⟨s1, ?_, h⟩
    have e : s1.2.2.1 (64 * 4 + 3) = nI i := by
      show s1.2.2.1 259 = _
      rw [h.2.2.2.1 259 (by omega) (by omega)]
      exact eK
    rw [mX0_take_b6, e, if_pos (nI_le_r i)]
  | succ j ih =>
    intro i fuel s1 hi hf h
    obtain ⟨f, rfl⟩ : ∃ f, fuel = f + 1 := ⟨fuel - 1, by omega⟩
    obtain ⟨h1, h2, h3, h4, h5, h6, h7, h8, h9⟩ := h
    have hi' : i < 10 := by omega
    have e : s1.2.2.1 (64 * 4 + 3) = nI K := by
      show s1.2.2.1 259 = _
      rw [h4 259 (by omega) (by omega)]
      exact eK
    have hin := zq_k i hi' (show 10 < 2 ^ 31 by decide)
    have g5 : s1.1 (4 + 1) = s.1 5 := h3 5 (by omega)
    have g6 : s1.1 (4 + 2) = s.1 6 := h3 6 (by omega)
    have g7 : s1.1 (4 + 3) = s.1 7 := h3 7 (by omega)
    obtain ⟨⟨a, a1, a2, ea⟩, b, b1, b2, eb⟩ := hq i (by omega)
    obtain ⟨s2, d1, d2, d3, d4, d5, d6, d7, d8, d9, d10⟩ := zc_add9 hi' h5 (s.1 5 i) (s.1 6 i) (s.1 7 i)
    have mab := i_mulB (a := (a : Int)) (b := (b : Int)) (A := 999) (B := 999) (by omega) (by omega) (by omega) (by omega)
    have em : (s.1 6 i * s.1 7 i).toInt = (a : Int) * b := by
      rw [ea, eb, zi_mul (by rw [nI_toInt (by omega), nI_toInt (by omega)]; omega) (by rw [nI_toInt (by omega), nI_toInt (by omega)]; omega), nI_toInt (by omega), nI_toInt (by omega)]
    have e580 : (s2.2.2.1 580).toInt = (s1.2.2.1 580).toInt + (a : Int) * b := by rw [d7, zi_add (by rw [em]; omega) (by rw [em]; omega), em]
    have hz : zTk s s2 (i + 1) := by
      refine ⟨d2.trans h1, d3.trans h2, fun q hq => (d4 q hq).trans (h3 q hq), fun q q1 q2 => (d5 q q1 q2).trans (h4 q q1 q2), d6, fun k hk => ?_, ?_, by rw [e580]; omega, by rw [e580]; omega⟩
      · rw [d8, d9, d10]
        by_cases q : k = i
        · subst q; rw [upd_at, upd_at, upd_at]; exact ⟨rfl, rfl, rfl⟩
        · rw [upd_off _ _ q, upd_off _ _ q, upd_off _ _ q]; exact h6 k (by omega)
      · show _ = f_acc (fun j => (s.1 6 j).toInt64 * (s.1 7 j).toInt64) 0 i + (s.1 6 i).toInt64 * (s.1 7 i).toInt64
        rw [← h7]
        apply Int64.toInt_inj.mp
        have t6 : (s.1 6 i).toInt64.toInt = a := by rw [zl_wide, ea, nI_toInt (by omega)]
        have t7 : (s.1 7 i).toInt64.toInt = b := by rw [zl_wide, eb, nI_toInt (by omega)]
        have tm : ((s.1 6 i).toInt64 * (s.1 7 i).toInt64).toInt = (a : Int) * b := by rw [zl_mul (by rw [t6, t7]; omega) (by rw [t6, t7]; omega), t6, t7]
        rw [zl_wide, e580, zl_add (by rw [zl_wide, tm]; omega) (by rw [zl_wide, tm]; omega), zl_wide, tm]
    obtain ⟨s3, x1, x2⟩ := ih (i + 1) f s2 (by omega) (by omega) hz
    refine ⟨s3, ?_, x2⟩
    rw [mX0_take_b6, e, if_neg (nI_lt_n (by omega) (by omega)), zz_ck_of hin, zz_ck_of hin, zz_ck_of hin, nI_clamp (by omega), g5, g6, g7, d1, zz_b2_s, zz_nm_s, nI_1]
    exact x1
theorem zsI_at (z : zz_M) (q : Nat) (f : Nat → Int32) : (zz_sI z q f).1 q = f := zz_up_at _ _ _
theorem zsI_ne (z : zz_M) {q p : Nat} (f : Nat → Int32) (h : p ≠ q) : (zz_sI z q f).1 p = z.1 p := va_up_ne _ _ h
/-- a series cleared -/
theorem zc_clear (z : zz_M) (k : Nat) : ∃ z', mX6_clear k z = some ((), z') ∧ z'.2 = z.2 ∧ (∀ q, q ≠ 16 + 3 * k + 1 → q ≠ 16 + 3 * k + 2 → z'.1 q = z.1 q) ∧ ∀ m, m < 24 → z'.1 (16 + 3 * k + 1) m = -1 ∧ z'.1 (16 + 3 * k + 2) m = z.2.2.1 (64 * (16 + 3 * k) + 2) := by
  unfold mX6_clear
  rw [zf_fill _ 24 (by omega), zz_b2_s, zf_fill _ 24 (by omega), zz_b2_s]
  refine ⟨_, rfl, rfl, fun q q1 q2 => by rw [zsI_ne _ _ q2, zsI_ne _ _ q1], fun m hm => ⟨?_, ?_⟩⟩
  · rw [zsI_ne _ _ (by omega), zsI_at]
    exact if_pos hm
  · rw [zsI_at]
    exact if_pos hm
/-- the series below i cleared -/
def zCl (z z1 : zz_M) (i : Nat) : Prop := z1.2 = z.2 ∧ (∀ q, q < 17 ∨ 16 + 3 * i ≤ q → z1.1 q = z.1 q) ∧ ∀ k, k < i → ∀ m, m < 24 → z1.1 (16 + 3 * k + 1) m = -1 ∧ z1.1 (16 + 3 * k + 2) m = z.2.2.1 (64 * (16 + 3 * k) + 2)
theorem zCl_s {z z1 : zz_M} {i : Nat} (h : zCl z z1 i) : ∃ z2, mX6_clear i z1 = some ((), z2) ∧ zCl z z2 (i + 1) := by
  obtain ⟨h1, h2, h3⟩ := h
  obtain ⟨z2, a1, a2, a3, a4⟩ := zc_clear z1 i
  refine ⟨z2, a1, a2.trans h1, fun q hq => by rw [a3 q (by omega) (by omega)]; exact h2 q (by omega), fun k hk m hm => ?_⟩
  by_cases e : k = i
  · subst e
    rw [← h1]
    exact a4 m hm
  · rw [a3 _ (by omega) (by omega), a3 _ (by omega) (by omega)]
    exact h3 k (by omega) m hm
/-- what is left when the series are cleared -/
def zSw (z : zz_M) : Option (Unit × zz_M) := zz_b2 (mX6_clear 10 z) (fun r2 z4 => zz_b2 (mX6_clear 11 z4) (fun r5 z7 => zz_nm (zz_sF z7 3332 (0 : Int32)) (fun z8 => zz_nm (zz_sF z8 3653 (0 : Int32)) (fun z9 => zz_b2 (mJ7_fill_d0a16 63 24 (0 : Int64) z9) (fun r10 z12 => zz_nm (zz_sF z12 520 (24 : Int32)) (fun z13 => zz_nm (zz_sF z13 521 (24 : Int32)) (fun z14 => zz_nm (zz_sF z14 522 (24 : Int32)) (fun z15 => zz_nm (zz_sF z15 523 (0 : Int32)) (fun z16 => some ((), z16))))))))))
theorem zc_sw_b10 {z : zz_M} : ∀ (j i fuel : Nat) (z1 : zz_M), i + j = 10 → j < fuel → zCl z z1 i → ∃ z2, mX2_startWith_b10 4 fuel (nI i) z1 = zSw z2 ∧ zCl z z2 10 := by
  intro j
  induction j with
  | zero =>
    intro i fuel z1 hi hf h
    obtain ⟨f, rfl⟩ : ∃ f, fuel = f + 1 := ⟨fuel - 1, by omega⟩
    have : i = 10 := by omega
    subst this
    refine ⟨z1, ?_, h⟩
    rw [mX2_startWith_b10, if_pos (show (10 : Int32) ≤ nI 10 by decide)]
    rfl
  | succ j ih =>
    intro i fuel z1 hi hf h
    obtain ⟨f, rfl⟩ : ∃ f, fuel = f + 1 := ⟨fuel - 1, by omega⟩
    have hi' : i < 10 := by omega
    obtain ⟨z2, a1, a2⟩ := zCl_s h
    obtain ⟨z3, b1, b2⟩ := ih (i + 1) f z2 (by omega) (by omega) a2
    refine ⟨z3, ?_, b2⟩
    rw [mX2_startWith_b10, if_neg (show ¬ (10 : Int32) ≤ nI i from nI_ge hi' (by decide)), zz_ck_of (zq_k i hi' (by decide)), nI_clamp (by omega), a1, zz_b2_s, zz_nm_s, nI_1]
    exact b1
def zFl (z z1 : zz_M) (i : Nat) : Prop := z1.1 = z.1 ∧ z1.2.2 = z.2.2 ∧ (∀ q, q ≠ 63 → z1.2.1 q = z.2.1 q) ∧ ∀ j, j < i → z1.2.1 63 j = 0
theorem zf_fillJ {z : zz_M} : ∀ (j i fuel : Nat) (z1 : zz_M), i + j = 24 → j < fuel → zFl z z1 i → ∃ z2, mJ7_fill_d0a16_b6 63 24 fuel 0 (nI i) (nI 24) z1 = some ((), z2) ∧ zFl z z2 24 := by
  intro j
  induction j with
  | zero =>
    intro i fuel z1 hi hf h
    obtain ⟨f, rfl⟩ : ∃ f, fuel = f + 1 := ⟨fuel - 1, by omega⟩
    have : i = 24 := by omega
    subst this
    refine ⟨z1, ?_, h⟩
    rw [mJ7_fill_d0a16_b6, if_pos (nI_le_r 24)]
  | succ j ih =>
    intro i fuel z1 hi hf h
    obtain ⟨f, rfl⟩ : ∃ f, fuel = f + 1 := ⟨fuel - 1, by omega⟩
    obtain ⟨h1, h2, h3, h4⟩ := h
    obtain ⟨z2, a1, a2⟩ := ih (i + 1) f (zz_wJ z1 63 (nI i) 0) (by omega) (by omega) ⟨h1, h2, fun q hq => by rw [zw_J_ne _ _ _ hq]; exact h3 q hq, fun k hk => by
      by_cases e : k = i
      · subst e; rw [zw_J_same _ _ _ _ (by omega)]
      · rw [zw_J_off _ _ _ (by omega) e]; exact h4 k (by omega)⟩
    refine ⟨z2, ?_, a2⟩
    rw [mJ7_fill_d0a16_b6, if_neg (nI_lt_n (by omega) (by omega)), zz_ck_of (zq_k i (show i < 24 by omega) (by decide)), zz_nm_s, zz_nm_s, nI_1]
    exact a1
/-- the book begun anew -/
theorem zc_startWith {s : zz_M} {K : Nat} (hK : K ≤ 10) (eK : s.2.2.1 259 = nI K) (hq : ∀ i, i < K → (∃ j : Nat, 1 ≤ j ∧ j < 1000 ∧ s.1 6 i = nI j) ∧ ∃ j : Nat, 1 ≤ j ∧ j < 1000 ∧ s.1 7 i = nI j) :
    ∃ s', mX2_startWith 4 s = some ((), s') ∧ (∀ q, q < 10 ∨ 51 < q ∨ q = 14 → s'.1 q = s.1 q) ∧ (∀ q, q ≠ 63 → s'.2.1 q = s.2.1 q) ∧ (∀ j, j < 24 → s'.2.1 63 j = 0) ∧ (∀ j, j < K → s'.1 10 j = s.1 5 j ∧ s'.1 11 j = s.1 6 j ∧ s'.1 12 j = s.1 7 j) ∧ s'.2.2.1 579 = nI K ∧ (s'.2.2.1 580).toInt64 = f_acc (fun j => (s.1 6 j).toInt64 * (s.1 7 j).toInt64) 0 K ∧ s'.2.2.1 3332 = 0 ∧ s'.2.2.1 3653 = 0 ∧ s'.2.2.1 520 = 24 ∧ s'.2.2.1 521 = 24 ∧ s'.2.2.1 522 = 24 ∧ s'.2.2.1 523 = 0 ∧ (∀ q, q < 520 ∨ (523 < q ∧ q ≠ 579 ∧ q ≠ 580 ∧ q ≠ 3332 ∧ q ≠ 3653) → s'.2.2.1 q = s.2.2.1 q) ∧ ∀ k, k < 12 → ∀ m, m < 24 → s'.1 (16 + 3 * k + 1) m = -1 ∧ s'.1 (16 + 3 * k + 2) m = s.2.2.1 (64 * (16 + 3 * k) + 2) := by
  have hc : mX0_clear 9 s = some ((), zz_sF (zz_sF s 579 0) 580 0) := rfl
  obtain ⟨s1, a1, A1, A2, A3, A4, A5, A6, A7, A8, A9⟩ := zc_take_b6 (s := s) hK eK hq K 0 zz_N (zz_sF (zz_sF s 579 0) 580 0) (by omega) (by unfold zz_N; omega) ⟨rfl, rfl, fun _ _ => rfl, fun q q1 q2 => by rw [zsF_ne _ _ q2, zsF_ne _ _ q1], rfl, fun j hj => absurd hj (Nat.not_lt_zero j), by rw [zsF_at]; rfl, by rw [zsF_at]; decide, by rw [zsF_at]; decide⟩
  have ht : mX0_take 9 4 s = some ((), s1) := by
    unfold mX0_take
    rw [hc, zz_b2_s]
    exact a1
  obtain ⟨s2, b1, B1⟩ := zc_sw_b10 (z := s1) 10 0 zz_N s1 (by omega) (by unfold zz_N; omega) ⟨rfl, fun _ _ => rfl, fun k hk => absurd hk (Nat.not_lt_zero k)⟩
  obtain ⟨s3, c1, C1⟩ := zCl_s B1
  obtain ⟨s4, d1, D1, D2, D3⟩ := zCl_s C1
  obtain ⟨s5, f1, F1, F2, F3, F4⟩ := zf_fillJ (z := zz_sF (zz_sF s4 3332 0) 3653 0) 24 0 zz_N (zz_sF (zz_sF s4 3332 0) 3653 0) (by omega) (by unfold zz_N; omega) ⟨rfl, rfl, fun _ _ => rfl, fun j hj => absurd hj (Nat.not_lt_zero j)⟩
  have f1' : mJ7_fill_d0a16 63 24 0 (zz_sF (zz_sF s4 3332 0) 3653 0) = some ((), s5) := by
    unfold mJ7_fill_d0a16
    rw [zz_nm_s]
    rw [nI_0] at f1
    exact f1
  have G : ∀ q, q < 520 ∨ (523 < q ∧ q ≠ 579 ∧ q ≠ 580 ∧ q ≠ 3332 ∧ q ≠ 3653) → s1.2.2.1 q = s.2.2.1 q := fun q hq => A4 q (by omega) (by omega)
  have F5 : ∀ q, s5.1 q = s4.1 q := fun q => by rw [F1]; rfl
  have H : ∀ q, (zz_sF (zz_sF (zz_sF (zz_sF s5 520 24) 521 24) 522 24) 523 0).2.2.1 q = if q = 523 then 0 else if q = 522 then 24 else if q = 521 then 24 else if q = 520 then 24 else if q = 3653 then 0 else if q = 3332 then 0 else s1.2.2.1 q := by
    intro q
    by_cases q1 : q = 523
    · rw [if_pos q1, q1, zsF_at]
    · rw [if_neg q1, zsF_ne _ _ q1]
      by_cases q2 : q = 522
      · rw [if_pos q2, q2, zsF_at]
      · rw [if_neg q2, zsF_ne _ _ q2]
        by_cases q3 : q = 521
        · rw [if_pos q3, q3, zsF_at]
        · rw [if_neg q3, zsF_ne _ _ q3]
          by_cases q4 : q = 520
          · rw [if_pos q4, q4, zsF_at]
          · rw [if_neg q4, zsF_ne _ _ q4, F2]
            by_cases q5 : q = 3653
            · rw [if_pos q5, q5, zsF_at]
            · rw [if_neg q5, zsF_ne _ _ q5]
              by_cases q6 : q = 3332
              · rw [if_pos q6, q6, zsF_at]
              · rw [if_neg q6, zsF_ne _ _ q6, D1]
  refine ⟨zz_sF (zz_sF (zz_sF (zz_sF s5 520 24) 521 24) 522 24) 523 0, ?_, fun q hq => ?_, fun q hq => ?_, fun j hj => ?_, fun j hj => ?_, ?_, ?_, by rw [H]; rfl, by rw [H]; rfl, by rw [H]; rfl, by rw [H]; rfl, by rw [H]; rfl, by rw [H]; rfl, fun q hq => ?_, fun k hk m hm => ?_⟩
  · unfold mX2_startWith
    rw [ht, zz_b2_s]
    have b1' : mX2_startWith_b10 4 zz_N 0 s1 = zSw s2 := b1
    rw [b1']
    unfold zSw
    rw [c1, zz_b2_s, d1, zz_b2_s, zz_nm_s, zz_nm_s, f1', zz_b2_s, zz_nm_s, zz_nm_s, zz_nm_s, zz_nm_s]
  · show s5.1 q = _
    rw [F5, D2 q (by omega), A3 q (by omega)]
  · show s5.2.1 q = _
    rw [F3 q hq]
    show s4.2.1 q = _
    rw [D1, A1]
  · exact F4 j hj
  · show s5.1 10 j = _ ∧ s5.1 11 j = _ ∧ s5.1 12 j = _
    rw [F5, F5, F5, D2 10 (by omega), D2 11 (by omega), D2 12 (by omega)]
    exact A6 j hj
  · rw [H, if_neg (by omega), if_neg (by omega), if_neg (by omega), if_neg (by omega), if_neg (by omega), if_neg (by omega)]
    exact A5
  · rw [H, if_neg (by omega), if_neg (by omega), if_neg (by omega), if_neg (by omega), if_neg (by omega), if_neg (by omega)]
    exact A7
  · rw [H, if_neg (by omega), if_neg (by omega), if_neg (by omega), if_neg (by omega), if_neg (by omega), if_neg (by omega)]
    exact G q hq
  · show s5.1 (16 + 3 * k + 1) m = _ ∧ s5.1 (16 + 3 * k + 2) m = _
    rw [F5, F5, ← G (64 * (16 + 3 * k) + 2) (by omega)]
    exact D3 k hk m hm
theorem zr_b206 {z : zz_M} {K : Nat} (hK : K ≤ 10) : ∀ (j i fuel : Nat) (z1 : zz_M), i + j = 3 * K → j < fuel → (z1.2 = z.2 ∧ (∀ q, q ≠ 2 → z1.1 q = z.1 q) ∧ ∀ k, k < i → z1.1 2 k = z.1 11 k) → ∃ z2, mX11_bill_b206 fuel (nI K) (nI i) z1 = some (nI K, z2) ∧ z2.2 = z.2 ∧ (∀ q, q ≠ 2 → z2.1 q = z.1 q) ∧ ∀ k, k < 3 * K → z2.1 2 k = z.1 11 k := by
  intro j
  induction j with
  | zero =>
    intro i fuel z1 hi hf h
    obtain ⟨f, rfl⟩ : ∃ f, fuel = f + 1 := ⟨fuel - 1, by omega⟩
    have : i = 3 * K := by omega
    subst this
    refine ⟨z1, ?_, h⟩
    rw [mX11_bill_b206, zq_3, if_pos (nI_le_r _)]
  | succ j ih =>
    intro i fuel z1 hi hf h
    obtain ⟨f, rfl⟩ : ∃ f, fuel = f + 1 := ⟨fuel - 1, by omega⟩
    obtain ⟨h1, h2, h3⟩ := h
    have hin := zq_k i (show i < 30 by omega) (show 30 < 2 ^ 31 by decide)
    obtain ⟨z2, a1, a2⟩ := ih (i + 1) f (zz_wI z1 2 (nI i) (z1.1 11 i)) (by omega) (by omega) ⟨h1, fun q hq => by rw [zw_I_ne _ _ _ hq]; exact h2 q hq, fun k hk => by
      by_cases e : k = i
      · subst e; rw [zw_I_same _ _ _ _ (by omega), h2 11 (by omega)]
      · rw [zw_I_off _ _ _ (by omega) e]; exact h3 k (by omega)⟩
    refine ⟨z2, ?_, a2⟩
    rw [mX11_bill_b206, zq_3, if_neg (nI_lt_n (by omega) (by omega)), zz_ck_of hin, zz_ck_of hin, zz_nm_s, zz_nm_s, nI_clamp (by omega), nI_1]
    exact a1
/-- both begin anew with the items read -/
theorem zR_new {s t s1 z1 : zz_M} (h : zR s t) {K : Nat} (hK : K ≤ 10) (a2 : zBc s s1) (b1 : ∀ q, q ≠ 11 → z1.1 q = t.1 q) (b2 : z1.2.1 = t.2.1) (b4 : ∀ q, q < 16 ∨ q = 18 → z1.2.2.1 q = t.2.2.1 q) (b5 : z1.2.2.1 16 = 0) (b22 : z1.2.2.1 22 = -1) (eK : s1.2.2.1 259 = nI K) (hit : zIt K s1 z1) : zOk (zz_b2 (mX2_startWith 4 (zz_sF s1 65 0)) (fun r6 z8 => some (nI K, z8))) (mX11_bill_b180 (nI K) z1) := by
  obtain ⟨hC, hI, hT, hW⟩ := h
  obtain ⟨s', c1, c2, c3, c4, c5, c6, c7, c8, c9, c10, c11, c12, c13, c14, c15⟩ := zc_startWith (s := zz_sF s1 65 0) hK (by rw [zsF_ne _ _ (by omega)]; exact eK) (fun i hi => by
    obtain ⟨-, q2, q3, -, q5, q6⟩ := hit i hi
    refine ⟨?_, ?_⟩
    · show ∃ j : Nat, 1 ≤ j ∧ j < 1000 ∧ s1.1 6 i = nI j
      rw [q2]; exact q5
    · show ∃ j : Nat, 1 ≤ j ∧ j < 1000 ∧ s1.1 7 i = nI j
      rw [q3]; exact q6)
  obtain ⟨z2, f1, F1, F2, F3, F4, F5, F6⟩ := zr_forget z1
  obtain ⟨z3, g1, G1, G2, G3⟩ := zr_b206 (z := zz_sF z2 2 (nI K)) hK (3 * K) 0 zz_N (zz_sF z2 2 (nI K)) (by omega) (by unfold zz_N; omega) ⟨rfl, fun _ _ => rfl, fun k hk => absurd hk (Nat.not_lt_zero k)⟩
  have g1' : mX11_bill_b206 zz_N (nI K) 0 (zz_sF z2 2 (nI K)) = some (nI K, z3) := g1
  unfold mX11_bill_b180
  rw [c1, zz_b2_s, if_pos b22, f1, zz_b2_s, zz_nm_s, g1']
  have t1 : ∀ q, q ≠ 2 → q ≠ 3 ∧ q ≠ 4 ∧ q ≠ 7 ∧ q ≠ 8 → q ≠ 11 → z3.1 q = t.1 q := fun q q1 q2 q3 => by
    rw [G2 q q1]
    show z2.1 q = _
    rw [F4 q q2, b1 q q3]
  have t2 : ∀ k, k < 3 * K → z3.1 2 k = z1.1 11 k := fun k hk => by
    rw [G3 k hk]
    show z2.1 11 k = _
    rw [F4 11 (by omega)]
  have t3 : ∀ j, j < 240 → z3.1 3 j = -9999 := fun j hj => by
    rw [G2 3 (by omega)]
    exact F5 j hj
  have t4 : ∀ j, j < 24 → z3.1 4 j = -9999 ∧ z3.1 7 j = -9999 ∧ z3.1 8 j = 0 := fun j hj => by
    rw [G2 4 (by omega), G2 7 (by omega), G2 8 (by omega)]
    exact F6 j hj
  have tF : ∀ q, z3.2.2.1 q = if q = 2 then nI K else zFgF z1.2.2.1 q := fun q => by
    rw [G1]
    by_cases e : q = 2
    · rw [if_pos e, e, zsF_at]
    · rw [if_neg e, zsF_ne _ _ e, F3]
  have n2 : d_n (dz z3) = nI K := by show z3.2.2.1 2 = _; rw [tF, if_pos rfl]
  have n6 : d_cm (dz z3) = 0 := by show z3.2.2.1 6 = _; rw [tF]; rfl
  have n8 : d_sm (dz z3) = 0 := by show z3.2.2.1 8 = _; rw [tF]; rfl
  have n9 : d_ho (dz z3) = 24 := by show z3.2.2.1 9 = _; rw [tF]; rfl
  have n10 : d_la (dz z3) = 24 := by show z3.2.2.1 10 = _; rw [tF]; rfl
  have n11 : d_du (dz z3) = 24 := by show z3.2.2.1 11 = _; rw [tF]; rfl
  have n12 : d_gr (dz z3) = 0 := by show z3.2.2.1 12 = _; rw [tF]; rfl
  have n1 : d_tm (dz z3) = d_tm (dz t) := t1 1 (by omega) (by omega) (by omega)
  have nK : (d_n (dz z3)).toNatClampNeg = K := by rw [n2, nI_clamp (by omega)]
  have s0 : ∀ k, k < 10 → s.2.2.1 (64 * (16 + 3 * k) + 2) = 0 := fun k hk => (hC.1.2.2.1.1 k hk).2
  have fld : ∀ k, k < 12 → (zz_sF s1 65 0).2.2.1 (64 * (16 + 3 * k) + 2) = s.2.2.1 (64 * (16 + 3 * k) + 2) := fun k hk => by rw [zsF_ne _ _ (by omega), a2.2.2.2 _ (by omega) (by omega) (by omega)]
  have ser : ∀ k, k < 12 → ∀ (g : Nat → Int32) (w : Int32), (∀ m, m < 24 → g m = -9999) → s.2.2.1 (64 * (16 + 3 * k) + 2) = w → zSer s' k g w := by
    intro k hk g w hg hw
    refine ⟨fun m hm => ⟨?_, ?_⟩, ?_⟩
    · rw [(c15 k hk m hm).1, hg m hm]
      rfl
    · rw [(c15 k hk m hm).2, fld k hk, hw, f_last_un m (fun j hj => hg j (by omega))]
    · rw [c14 _ (by omega), fld k hk, hw]
  refine zOk_ret ⟨⟨⟨?_, ⟨?_, ?_, ?_⟩, ⟨?_, ?_, ?_⟩, ⟨?_, ?_⟩, ⟨?_, ?_⟩, ?_, ?_, ?_, ?_⟩, ?_⟩, ?_, ?_, ?_⟩
  · intro j hj
    rw [n1, c2 14 (by omega)]
    show s1.1 14 j = _
    rw [a2.2.2.1 14 (by omega)]
    exact hC.1.1 j hj
  · rw [c6, n2]
  · rw [nK]
    intro i hi
    obtain ⟨q1, q2, q3, -⟩ := hit i hi
    obtain ⟨p1, p2, p3⟩ := c5 i hi
    have p1' : s'.1 10 i = s1.1 5 i := p1
    have p2' : s'.1 11 i = s1.1 6 i := p2
    have p3' : s'.1 12 i = s1.1 7 i := p3
    show s'.1 10 i = z3.1 2 (3 * i) ∧ s'.1 11 i = z3.1 2 (3 * i + 1) ∧ s'.1 12 i = z3.1 2 (3 * i + 2)
    rw [p1', p2', p3', q1, q2, q3, t2 _ (by omega), t2 _ (by omega), t2 _ (by omega)]
    exact ⟨rfl, rfl, rfl⟩
  · rw [c7]
    unfold f_sum
    rw [nK]
    refine f_acc_cg 0 K (fun i hi => ?_)
    obtain ⟨-, q2, q3, -⟩ := hit i hi
    show (s1.1 6 i).toInt64 * (s1.1 7 i).toInt64 = (z3.1 2 (3 * i + 1)).toInt64 * (z3.1 2 (3 * i + 2)).toInt64
    rw [q2, q3, t2 _ (by omega), t2 _ (by omega)]
  · intro k hk
    exact ser k (by omega) _ 0 (fun m hm => t3 _ (by omega)) (s0 k hk)
  · exact ser 10 (by omega) _ 0 (fun m hm => (t4 m hm).1) hC.1.2.2.1.2.1.2
  · exact ser 11 (by omega) _ 1000 (fun m hm => (t4 m hm).2.1) hC.1.2.2.1.2.2.2
  · rw [c8, n6]
  · rw [n6]
    intro c hc
    exact absurd hc (Nat.not_lt_zero c)
  · rw [c9, n8]
  · rw [n8]
    intro c hc
    exact absurd hc (Nat.not_lt_zero c)
  · rw [c10, n9]
  · rw [c11, n10]
  · rw [c12, n11]
  · rw [c13, n12]
  · intro m hm
    rw [c4 m hm]
    show (0 : Int64) = (z3.1 8 m).toInt64
    rw [(t4 m hm).2.2]
    rfl
  · refine ⟨⟨K, hK, n2, fun i hi => ?_, fun m i hm hi _ => t3 _ (by omega)⟩, ⟨0, by omega, n6, fun i hi => absurd hi (Nat.not_lt_zero i)⟩, ⟨0, by omega, n8, fun i hi => absurd hi (Nat.not_lt_zero i)⟩, ⟨24, by omega, n9⟩, ⟨24, by omega, n10⟩, ⟨24, by omega, n11⟩, ⟨0, by omega, n12⟩, ?_, fun m i hm hi => Or.inl (t3 _ (by omega)), fun m hm => Or.inl (t4 m hm).1, fun m hm => Or.inl (t4 m hm).2.1, fun m hm => ⟨0, by omega, (t4 m hm).2.2⟩⟩
    · obtain ⟨-, -, -, q4, q5, q6⟩ := hit i hi
      show (∃ j : Nat, j < 5 ∧ z3.1 2 (3 * i) = nI j) ∧ (∃ j : Nat, 1 ≤ j ∧ j < 1000 ∧ z3.1 2 (3 * i + 1) = nI j) ∧ ∃ j : Nat, 1 ≤ j ∧ j < 1000 ∧ z3.1 2 (3 * i + 2) = nI j
      rw [t2 _ (by omega), t2 _ (by omega), t2 _ (by omega)]
      exact ⟨q4, q5, q6⟩
    · rw [n1]
      exact hI.2.2.2.2.2.2.2.1
  · refine ⟨0, by omega, ?_, ?_, fun j hj => absurd hj (Nat.not_lt_zero j)⟩
    · rw [c14 65 (by omega), zsF_at]
      rfl
    · rw [tF, if_neg (by omega)]
      show z1.2.2.1 16 = _
      rw [b5]
      rfl
  · refine zRw_eq hW ?_ ?_ ?_ ?_
    · rw [c14 6337 (by omega), zsF_ne _ _ (by omega), a2.2.2.2 6337 (by omega) (by omega) (by omega)]
    · rw [c3 100 (by omega)]
      show s1.2.1 100 = _
      rw [a2.1]
    · rw [tF, if_neg (by omega)]
      show z1.2.2.1 18 = _
      exact b4 18 (by omega)
    · rw [G1]
      show z2.2.1 10 = _
      rw [F1, b2]
theorem B_bill {s t : zz_M} (h : zR s t) : zOk (mX10_bill s) (mX11_bill t) := by
  obtain ⟨hC, hI, ⟨n, hn, e65, e16, htx⟩, hW⟩ := id h
  unfold mX10_bill mX11_bill mX10_bill_b38
  rw [zz_nm_s, zz_nm_s, zz_nm_s, zz_nm_s, zz_nm_s]
  have e16' : (zz_sF t 19 0).2.2.1 16 = nI n := by rw [zsF_ne _ _ (by omega)]; exact e16
  rw [e16']
  have r1 : (zz_sF (zz_sF (zz_sF (zz_sF (zz_sF t 19 0) 20 (nI n)) 16 0) 21 0) 22 (-1)).1 = t.1 := rfl
  have r2 : (zz_sF (zz_sF (zz_sF (zz_sF (zz_sF t 19 0) 20 (nI n)) 16 0) 21 0) 22 (-1)).2.1 = t.2.1 := rfl
  have r3 : ∀ q, q < 16 ∨ q = 18 → (zz_sF (zz_sF (zz_sF (zz_sF (zz_sF t 19 0) 20 (nI n)) 16 0) 21 0) 22 (-1)).2.2.1 q = t.2.2.1 q := fun q hq => by rw [zsF_ne _ _ (by omega), zsF_ne _ _ (by omega), zsF_ne _ _ (by omega), zsF_ne _ _ (by omega), zsF_ne _ _ (by omega)]
  have r16 : (zz_sF (zz_sF (zz_sF (zz_sF (zz_sF t 19 0) 20 (nI n)) 16 0) 21 0) 22 (-1)).2.2.1 16 = 0 := by rw [zsF_ne _ _ (by omega), zsF_ne _ _ (by omega), zsF_at]
  have r20 : (zz_sF (zz_sF (zz_sF (zz_sF (zz_sF t 19 0) 20 (nI n)) 16 0) 21 0) 22 (-1)).2.2.1 20 = nI n := by rw [zsF_ne _ _ (by omega), zsF_ne _ _ (by omega), zsF_ne _ _ (by omega), zsF_at]
  have r21 : (zz_sF (zz_sF (zz_sF (zz_sF (zz_sF t 19 0) 20 (nI n)) 16 0) 21 0) 22 (-1)).2.2.1 21 = nI 0 := by rw [zsF_ne _ _ (by omega), zsF_at]; rfl
  have r22 : (zz_sF (zz_sF (zz_sF (zz_sF (zz_sF t 19 0) 20 (nI n)) 16 0) 21 0) 22 (-1)).2.2.1 22 = -1 := zsF_at _ _ _
  generalize zz_sF (zz_sF (zz_sF (zz_sF (zz_sF t 19 0) 20 (nI n)) 16 0) 21 0) 22 (-1) = z0 at r1 r2 r3 r16 r20 r21 r22 ⊢
  have hrd : mX1_read s = (if s.2.2.1 65 = (0 : Int32) then some ((0 : Int32), zz_sF (zz_sF (zz_sF s 193 0) 259 0) 260 0) else mX1_read_b23 zz_N (0 : Int32) (zz_sF (zz_sF (zz_sF s 193 0) 259 0) 260 0)) := by
    unfold mX1_read
    rw [zz_nm_s]
    have hc : mX0_clear 4 (zz_sF s 193 0) = some ((), zz_sF (zz_sF (zz_sF s 193 0) 259 0) 260 0) := rfl
    rw [hc, zz_b2_s, zsF_ne _ _ (by omega), zsF_ne _ _ (by omega), zsF_ne _ _ (by omega)]
  have k0 : zBc s (zz_sF (zz_sF (zz_sF s 193 0) 259 0) 260 0) := ⟨rfl, rfl, fun _ _ => rfl, fun q q1 q2 q3 => by rw [zsF_ne _ _ q3, zsF_ne _ _ q2, zsF_ne _ _ q1]⟩
  have k65 : (zz_sF (zz_sF (zz_sF s 193 0) 259 0) 260 0).2.2.1 65 = nI n := by rw [k0.2.2.2 65 (by omega) (by omega) (by omega)]; exact e65
  have k193 : (zz_sF (zz_sF (zz_sF s 193 0) 259 0) 260 0).2.2.1 193 = nI 0 := by rw [zsF_ne _ _ (by omega), zsF_ne _ _ (by omega), zsF_at]; rfl
  have k259 : (zz_sF (zz_sF (zz_sF s 193 0) 259 0) 260 0).2.2.1 259 = nI 0 := by rw [zsF_ne _ _ (by omega), zsF_at]; rfl
  have k2 : (zz_sF (zz_sF (zz_sF s 193 0) 259 0) 260 0).1 2 = s.1 2 := rfl
  rw [hrd, e65]
  generalize zz_sF (zz_sF (zz_sF s 193 0) 259 0) 260 0 = s0 at k0 k65 k193 k259 k2 ⊢
  have hN : mX11_bill_b30 zz_N 0 z0 = mX11_bill_b30 (299 + 1) 0 z0 := rfl
  rw [hN, mX11_bill_b30, if_pos r22, r20, r21]
  by_cases c : n = 0
  · subst c
    rw [if_pos nI_0, zz_b2_s, zz_nm_s, if_neg (show ¬ (0 : Int32) < 0 by decide), if_pos (nI_le_r 0)]
    exact zR_new h (K := 0) (by omega) k0 (fun q _ => by rw [r1]) r2 r3 r16 r22 k259 (fun i hi => absurd hi (Nat.not_lt_zero i))
  · rw [if_neg (nI_pos_eq (by omega) (by omega)), if_neg (nI_lt_n (by omega) (by omega)), if_pos (show (0 : Int32) ≤ 0 by decide)]
    rcases J_read hn 10 0 0 zz_N 299 s0 z0 (by omega) (by omega) (by unfold zz_N; omega) (by omega) (by omega) k65 k193 k259 r20 r21 r22 (fun i hi => by
      rw [k2, htx i hi]
      unfold f_tx
      rw [r1]) (fun i hi => absurd hi (Nat.not_lt_zero i)) with ⟨F, s', z', q1, q2, q3, q4, q5⟩ | ⟨K, s', z', q1, q2, q3, q4, q5, q6, q7, q8⟩
    · have q2' : mX1_read_b23 zz_N 0 s0 = _ := q2
      have q3' : mX11_bill_b73 (mX11_bill_b30 299) 0 z0 = _ := q3
      have hneg : (-1 : Int32) - nI F < 0 := by
        rw [Int32.lt_iff_toInt_lt]
        have e1 : (-1 : Int32).toInt = -1 := rfl
        have e0 : (0 : Int32).toInt = 0 := rfl
        rw [zi_sub (by rw [nI_toInt (by omega)]; omega) (by rw [nI_toInt (by omega)]; omega), nI_toInt (by omega)]
        omega
      have k5 := k0.tr q4
      rw [q2', q3', zz_b2_s, zz_nm_s, if_pos hneg]
      have hd : dz z' = dz t := dz_cg (fun q hq => by rw [q5.2.2.1 q (by omega), r1]) (fun q hq => by rw [q5.2.2.2.2 q (by omega) (by omega)]; exact r3 q (by omega))
      refine zOk_ret ⟨?_, by rw [hd]; exact hI, ⟨0, by omega, by rw [zsF_at]; rfl, by rw [q5.2.2.2.2 16 (by omega) (by omega)]; exact r16, fun j hj => absurd hj (Nat.not_lt_zero j)⟩, ?_⟩
      · rw [hd]
        exact zC_fr hC (fun q hq => k5.2.2.1 q (by omega)) (fun q h1 h2 => by rw [zsF_ne _ _ (by omega)]; exact k5.2.2.2 q (by omega) (by omega) (by omega)) (by show s'.2.1 63 = _; rw [k5.1])
      · refine zRw_eq hW (by rw [zsF_ne _ _ (by omega)]; exact k5.2.2.2 6337 (by omega) (by omega) (by omega)) (by show s'.2.1 100 = _; rw [k5.1]) (by rw [q5.2.2.2.2 18 (by omega) (by omega)]; exact r3 18 (by omega)) (by rw [q5.1, r2])
    · have q2' : mX1_read_b23 zz_N 0 s0 = _ := q2
      have q3' : mX11_bill_b73 (mX11_bill_b30 299) 0 z0 = _ := q3
      rw [q2', q3', zz_b2_s, zz_nm_s, if_neg (nI_nn (by omega))]
      exact zR_new h q1 (k0.tr q5) (fun q hq => by rw [q6.2.2.1 q hq, r1]) (by rw [q6.1, r2]) (fun q hq => by rw [q6.2.2.2.2 q (by omega) (by omega)]; exact r3 q hq) (by rw [q6.2.2.2.2 16 (by omega) (by omega)]; exact r16) q4 q7 q8
