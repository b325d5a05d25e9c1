/-! ===== count ===== -/
/-- a reading call: the class answers, the reference answers the same and keeps the relation -/
def zOk1 (x : Option Int32) (s : zz_M) (y : Option (Int32 × zz_M)) : Prop := ∃ r t', x = some r ∧ y = some (r, t') ∧ zR s t'
theorem zOk1_ret {s t : zz_M} {r r' : Int32} (e : r = r') (h : zR s t) : zOk1 (some r) s (some (r', t)) := ⟨r, t, rfl, by rw [e], h⟩
theorem zOk1_if {s : zz_M} {c c' : Prop} [Decidable c] [Decidable c'] {a b : Option Int32} {a' b' : Option (Int32 × zz_M)} (e : c ↔ c') (h1 : c → zOk1 a s a') (h2 : ¬ c → zOk1 b s b') : zOk1 (if c then a else b) s (if c' then a' else b') := by
  by_cases hc : c
  · rw [if_pos hc, if_pos (e.mp hc)]; exact h1 hc
  · rw [if_neg hc, if_neg (fun q => hc (e.mpr q))]; exact h2 hc
def f_anyI (d : zD) (m : Nat) : Nat → Int32
  | 0 => 0
  | i + 1 => if d_ms d (10 * m + i) = -9999 then f_anyI d m i else 1
theorem f_anyI_s (d : zD) (m i : Nat) : f_anyI d m (i + 1) = if d_ms d (10 * m + i) = -9999 then f_anyI d m i else 1 := rfl
theorem f_anyI_01 (d : zD) (m : Nat) : ∀ i, f_anyI d m i = 0 ∨ f_anyI d m i = 1 := by
  intro i
  induction i with
  | zero => exact Or.inl rfl
  | succ i ih =>
    rw [f_anyI_s]
    by_cases c : d_ms d (10 * m + i) = -9999
    · rw [if_pos c]; exact ih
    · rw [if_neg c]; exact Or.inr rfl
theorem f_anyI_up (d : zD) (m : Nat) : ∀ j i, f_anyI d m i = 1 → f_anyI d m (i + j) = 1 := by
  intro j
  induction j with
  | zero => intro i h; exact h
  | succ j ih =>
    intro i h
    show f_anyI d m (i + j + 1) = 1
    rw [f_anyI_s]
    by_cases c : d_ms d (10 * m + (i + j)) = -9999
    · rw [if_pos c]; exact ih i h
    · rw [if_neg c]
theorem f_anyI_n {d : zD} {m n : Nat} (hu : ∀ i, i < 10 → n ≤ i → d_ms d (10 * m + i) = -9999) : ∀ j, n + j ≤ 10 → f_anyI d m (n + j) = f_anyI d m n := by
  intro j
  induction j with
  | zero => intro _; rfl
  | succ j ih =>
    intro hj
    show f_anyI d m (n + j + 1) = _
    rw [f_anyI_s, if_pos (hu (n + j) (by omega) (by omega))]
    exact ih (by omega)
theorem zc_isMeasured_b2 {s : zz_M} {d : zD} (hC : zC0 s d) (hI : zInv d) {n : Nat} (hn : n ≤ 10) (en : s.2.2.1 579 = nI n) {m : Nat} (hm : m < 24) : ∀ (j i fuel : Nat), i + j = n → j < fuel → f_anyI d m i = 0 → mX2_isMeasured_b2 s fuel (nI m) (nI i) = some (f_anyI d m n) := by
  intro j
  induction j with
  | zero =>
    intro i fuel hi hf h0
    obtain ⟨f, rfl⟩ : ∃ f, fuel = f + 1 := ⟨fuel - 1, by omega⟩
    have : i = n := by omega
    subst this
    rw [mX2_isMeasured_b2, en, if_pos (nI_le_r i), h0]
  | succ j ih =>
    intro i fuel hi hf h0
    obtain ⟨f, rfl⟩ : ∃ f, fuel = f + 1 := ⟨fuel - 1, by omega⟩
    have hi' : i < 10 := by omega
    have e1 := ((hC.2.2.1.1 i hi').1 m hm).1
    have hne : d_ms d (10 * m + i) ≠ -1 := zi_ms1 hI hi' m hm
    rw [mX2_isMeasured_b2, en, if_neg (nI_lt_n (by omega) (by omega)), zz_ck_of (zq_k i hi' (by decide)), nI_clamp (by omega), zc_isTold s i hm, zz_b1_s, e1, zz_tj, zz_nm_s, nI_1]
    by_cases c : d_ms d (10 * m + i) = -9999
    · rw [if_pos ((f_told_no hne).mpr c)]
      exact ih (i + 1) f (by omega) (by omega) (by rw [f_anyI_s, if_pos c]; exact h0)
    · rw [if_neg (fun q => c ((f_told_no hne).mp q))]
      have h1 : f_anyI d m (i + 1) = 1 := by rw [f_anyI_s, if_neg c]
      have h2 := f_anyI_up d m j (i + 1) h1
      rw [show i + 1 + j = n by omega] at h2
      rw [h2]
theorem zi_un {d : zD} (h : zInv d) {n : Nat} (ec : (d_n d).toNatClampNeg = n) {m : Nat} (hm : m < 24) : ∀ i, i < 10 → n ≤ i → d_ms d (10 * m + i) = -9999 := by
  obtain ⟨⟨k, hk, ek, -, hu⟩, -⟩ := h
  rw [ek, nI_clamp (by omega)] at ec
  intro i hi hn
  exact hu m i hm hi (by omega)
theorem zc_isMeasured {s : zz_M} {d : zD} (hC : zC0 s d) (hI : zInv d) {m : Nat} (hm : m < 24) : mX2_isMeasured (nI m) s = some (f_anyI d m 10) := by
  obtain ⟨n, hn, en, ec, -⟩ := zi_n hI
  have := zc_isMeasured_b2 hC hI hn (hC.2.1.1.trans en) hm n 0 zz_N (by omega) (by unfold zz_N; omega) rfl
  have e := f_anyI_n (zi_un hI ec hm) (10 - n) (by omega)
  rw [show n + (10 - n) = 10 by omega] at e
  rw [e]
  exact this
def f_mm (d : zD) : Nat → Int32
  | 0 => 0
  | m + 1 => f_mm d m + f_anyI d m 10
theorem f_mm_s (d : zD) (m : Nat) : f_mm d (m + 1) = f_mm d m + f_anyI d m 10 := rfl
theorem zc_mm_b4 {s : zz_M} {d : zD} (hC : zC0 s d) (hI : zInv d) : ∀ (j i fuel : Nat), i + j = 24 → j < fuel → mX2_measuredMonths_b4 s fuel (f_mm d i) (nI i) = some (f_mm d 24) := by
  intro j
  induction j with
  | zero =>
    intro i fuel hi hf
    obtain ⟨f, rfl⟩ : ∃ f, fuel = f + 1 := ⟨fuel - 1, by omega⟩
    have : i = 24 := by omega
    subst this
    rw [mX2_measuredMonths_b4, if_pos (show (24 : Int32) ≤ nI 24 by decide)]
  | succ j ih =>
    intro i fuel hi hf
    obtain ⟨f, rfl⟩ : ∃ f, fuel = f + 1 := ⟨fuel - 1, by omega⟩
    have hi' : i < 24 := by omega
    have e := ih (i + 1) f (by omega) (by omega)
    rw [f_mm_s] at e
    rw [mX2_measuredMonths_b4, if_neg (show ¬ (24 : Int32) ≤ nI i from nI_ge hi' (by decide)), zc_isMeasured hC hI hi', zz_b1_s]
    unfold mX2_measuredMonths_b24
    rw [zz_nm_s, zz_nm_s, zz_nm_s, zz_nm_s, nI_1]
    rcases f_anyI_01 d i 10 with q | q
    · rw [q] at e ⊢
      rw [if_pos rfl]
      exact e
    · rw [q] at e ⊢
      rw [if_neg zq_not0]
      exact e
theorem zr_mm_b15 (z : zz_M) {d : zD} (hd : dz z = d) {m : Nat} (hm : m < 24) (k4 : Int32 → Int32 → Option Int32) (v1 : Int32) : ∀ (j i fuel : Nat), i + j = 10 → j < fuel → mX11_measuredMonths_b15 z k4 fuel v1 (nI m) (f_anyI d m i) (nI i) = k4 (v1 + f_anyI d m 10) (nI (m + 1)) := by
  intro j
  induction j with
  | zero =>
    intro i fuel hi hf
    obtain ⟨f, rfl⟩ : ∃ f, fuel = f + 1 := ⟨fuel - 1, by omega⟩
    have : i = 10 := by omega
    subst this
    rw [mX11_measuredMonths_b15, if_pos (show (10 : Int32) ≤ nI 10 by decide)]
    unfold mX11_measuredMonths_b66
    rw [zz_nm_s, zz_nm_s, zz_nm_s, zz_nm_s, nI_1]
    rcases f_anyI_01 d m 10 with q | q
    · rw [q, if_pos rfl]
    · rw [q, if_neg zq_not0]
  | succ j ih =>
    intro i fuel hi hf
    obtain ⟨f, rfl⟩ : ∃ f, fuel = f + 1 := ⟨fuel - 1, by omega⟩
    have hi' : i < 10 := by omega
    have e := ih (i + 1) f (by omega) (by omega)
    rw [f_anyI_s] at e
    have e3 : z.1 3 (10 * m + i) = d_ms d (10 * m + i) := by rw [← hd]; rfl
    rw [mX11_measuredMonths_b15, if_neg (show ¬ (10 : Int32) ≤ nI i from nI_ge hi' (by decide)), zq_10, zz_ck_of (zq_k _ (show 10 * m + i < 240 by omega) (by decide)), nI_clamp (by omega), e3]
    unfold mX11_measuredMonths_b44 mX11_measuredMonths_b49
    rw [zz_nm_s, zz_nm_s, nI_1]
    rcases f_anyI_01 d m i with q | q
    · rw [q] at e ⊢
      rw [if_pos rfl]
      by_cases c : d_ms d (10 * m + i) = -9999
      · rw [if_pos c] at e ⊢
        exact e
      · rw [if_neg c] at e ⊢
        exact e
    · rw [q, ite_self] at e
      rw [q, if_neg zq_not0]
      exact e
theorem zr_mm_b4 (z : zz_M) {d : zD} (hd : dz z = d) : ∀ (j i fuel : Nat), i + j = 24 → j < fuel → mX11_measuredMonths_b4 z fuel (f_mm d i) (nI i) = some (f_mm d 24) := by
  intro j
  induction j with
  | zero =>
    intro i fuel hi hf
    obtain ⟨f, rfl⟩ : ∃ f, fuel = f + 1 := ⟨fuel - 1, by omega⟩
    have : i = 24 := by omega
    subst this
    rw [mX11_measuredMonths_b4, if_pos (show (24 : Int32) ≤ nI 24 by decide)]
  | succ j ih =>
    intro i fuel hi hf
    obtain ⟨f, rfl⟩ : ∃ f, fuel = f + 1 := ⟨fuel - 1, by omega⟩
    have hi' : i < 24 := by omega
    have e := ih (i + 1) f (by omega) (by omega)
    rw [f_mm_s] at e
    have e2 := zr_mm_b15 z hd hi' (mX11_measuredMonths_b4 z f) (f_mm d i) 10 0 zz_N (by omega) (by unfold zz_N; omega)
    have e2' : mX11_measuredMonths_b15 z (mX11_measuredMonths_b4 z f) zz_N (f_mm d i) (nI i) 0 0 = _ := e2
    rw [mX11_measuredMonths_b4, if_neg (show ¬ (24 : Int32) ≤ nI i from nI_ge hi' (by decide)), e2']
    exact e
theorem B_count {s t : zz_M} (h : zR s t) (x : Int32) : zOk1 (mX10_count x s) s (mX11_count x t) := by
  have h0 := zR_thr h 0
  unfold mX10_count mX11_count mX10_count_b202 mX11_count_b152 mX10_count_b34
  rw [zz_nm_s]
  generalize zz_sF t 19 0 = t0 at h0 ⊢
  obtain ⟨hC, hI, ⟨n7, hn7, e7, e7', -⟩, ⟨n6, hn6, e6, e6', -⟩⟩ := id h0
  obtain ⟨f0, f1, f2, f3⟩ := hC.1.2.2.2.2.2
  have mm1 := zc_mm_b4 hC.1 hI 24 0 zz_N (by omega) (by unfold zz_N; omega)
  have mm2 := zr_mm_b4 t0 (d := dz t0) rfl 24 0 zz_N (by omega) (by unfold zz_N; omega)
  have mm1' : mX2_measuredMonths s = some (f_mm (dz t0) 24) := mm1
  have mm2' : mX11_measuredMonths t0 = some (f_mm (dz t0) 24) := mm2
  rw [zr_in32, zz_b1_s, zz_ti, mm1', mm2', zz_b1_s, zz_b1_s, zc_monthOrNone, zr_monthTold, zz_b1_s, zz_b1_s, zc_monthOrNone, zr_monthTold, zz_b1_s, zz_b1_s]
  have l10 : (10 : Int64).toInt = 10 := rfl
  have l23 : (23 : Int64).toInt = 23 := rfl
  have i10 : (10 : Int32).toInt = 10 := rfl
  rw [l10, l23]
  have t9 : t0.2.2.1 9 = d_ho (dz t0) := rfl
  have t10 : t0.2.2.1 10 = d_la (dz t0) := rfl
  by_cases c : x < 10
  · rw [if_pos c, if_neg (show ¬ (10 ≤ x.toInt ∧ x.toInt ≤ 23) by rw [Int32.lt_iff_toInt_lt] at c; omega)]
    refine zOk1_if Iff.rfl (fun _ => zOk1_ret hC.1.2.1.1 h0) (fun _ => ?_)
    refine zOk1_if Iff.rfl (fun _ => zOk1_ret hC.1.2.2.2.1.1 h0) (fun _ => ?_)
    refine zOk1_if Iff.rfl (fun _ => zOk1_ret hC.1.2.2.2.2.1.1 h0) (fun _ => ?_)
    refine zOk1_if Iff.rfl (fun _ => zOk1_ret (by rw [f0, t9]) h0) (fun _ => ?_)
    refine zOk1_if Iff.rfl (fun _ => zOk1_ret (by rw [f1, t10]) h0) (fun _ => ?_)
    refine zOk1_if Iff.rfl (fun _ => zOk1_ret rfl h0) (fun _ => ?_)
    refine zOk1_if Iff.rfl (fun _ => zOk1_ret (by rw [e6, e6']) h0) (fun _ => ?_)
    refine zOk1_if Iff.rfl (fun _ => zOk1_ret (by rw [e7, e7']) h0) (fun _ => ?_)
    refine zOk1_if Iff.rfl (fun _ => ?_) (fun _ => ?_)
    · refine zOk1_if (by rw [f2]; exact Iff.rfl) (fun _ => zOk1_ret rfl h0) (fun _ => zOk1_ret (by rw [f2, f3]; rfl) h0)
    · exact zOk1_if Iff.rfl (fun _ => zOk1_ret f3 h0) (fun _ => zOk1_ret rfl h0)
  · rw [if_neg c]
    rw [Int32.lt_iff_toInt_lt, i10] at c
    have hx := Int32.toInt_lt x
    have es : (x - 10).toInt = x.toInt - 10 := by rw [zi_sub (by rw [i10]; omega) (by rw [i10]; omega), i10]
    rw [zc_hasT, zz_b1_s, zz_ti, es]
    by_cases c2 : 10 ≤ x.toInt ∧ x.toInt ≤ 23
    · rw [if_pos c2, if_pos (show 0 ≤ x.toInt - 10 ∧ x.toInt - 10 ≤ 13 by omega)]
      obtain ⟨k, hk, ek⟩ := zq_toNat (n := 13) (x := x - 10) (by rw [es]; omega) (by rw [es]; omega) (by decide)
      rw [ek, zc_ofI hC.1 (show k < 14 by omega), zz_b1_s, zz_ck_of (zq_k k (show k < 14 by omega) (by decide)), nI_clamp (by omega)]
      exact zOk1_ret rfl h0
    · have hne : ∀ k : Nat, k < 10 → ¬ x = nI k := by
        intro k hk e
        have := congrArg Int32.toInt e
        rw [nI_toInt (by omega)] at this
        omega
      rw [if_neg c2, if_neg (show ¬ (0 ≤ x.toInt - 10 ∧ x.toInt - 10 ≤ 13) by omega), if_neg (show ¬ x = (0 : Int32) from hne 0 (by omega)), if_neg (show ¬ x = (1 : Int32) from hne 1 (by omega)), if_neg (show ¬ x = (2 : Int32) from hne 2 (by omega)), if_neg (show ¬ x = (3 : Int32) from hne 3 (by omega)), if_neg (show ¬ x = (4 : Int32) from hne 4 (by omega)), if_neg (show ¬ x = (5 : Int32) from hne 5 (by omega)), if_neg (show ¬ x = (6 : Int32) from hne 6 (by omega)), if_neg (show ¬ x = (7 : Int32) from hne 7 (by omega)), if_neg (show ¬ x = (8 : Int32) from hne 8 (by omega)), if_neg (show ¬ x = (9 : Int32) from hne 9 (by omega))]
      exact zOk1_ret rfl h0
