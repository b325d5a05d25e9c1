/-! ===== measures, strikes, indexes ===== -/
theorem zz_ti {α : Type} {P : Prop} [Decidable P] {a b : α} : (if (if P then (1 : Int32) else 0) = 0 then a else b) = if P then b else a := by
  by_cases h : P
  · rw [if_pos h, if_pos h, if_neg zq_not0]
  · rw [if_neg h, if_neg h, if_pos rfl]
theorem zz_tj {α : Type} {P : Prop} [Decidable P] {a b : α} : (if (if P then (0 : Int32) else 1) = 0 then a else b) = if P then a else b := by
  by_cases h : P
  · rw [if_pos h, if_pos h, if_pos rfl]
  · rw [if_neg h, if_neg h, if_neg zq_not0]
theorem zz_and2 {P Q : Prop} [Decidable P] [Decidable Q] : (if P then (if Q then some (1 : Int32) else some 0) else some 0) = some (if P ∧ Q then 1 else 0) := by
  by_cases h : P <;> by_cases g : Q <;> simp [h, g]
theorem zz_and3 {P Q S : Prop} [Decidable P] [Decidable Q] [Decidable S] : (if P then (if Q then (if S then some (1 : Int32) else some 0) else some 0) else some 0) = some (if P ∧ Q ∧ S then 1 else 0) := by
  by_cases h : P <;> by_cases g : Q <;> by_cases k : S <;> simp [h, g, k]
theorem zr_isIndex (x v : Int32) : mX11_isIndex x v = some (if (0 ≤ x.toInt ∧ x.toInt ≤ 23) ∧ 500 ≤ v.toInt ∧ v.toInt ≤ 2000 then 1 else 0) := by
  unfold mX11_isIndex mX11_isIndex_b25 mX11_isIndex_b26
  rw [zr_isMonth, zz_b1_s, zz_ti, zr_in32, zz_b1_s, zz_ti, zz_ck_of (Or.inl rfl), zz_ck_of (Or.inr rfl), zz_and2]
  rfl
theorem zc_isIndex (x v : Int32) : mX10_isIndex x v = some (if (0 ≤ x.toInt ∧ x.toInt ≤ 23) ∧ 500 ≤ v.toInt ∧ v.toInt ≤ 2000 then 1 else 0) := by
  unfold mX10_isIndex mX10_isIndex_b24 mX10_isIndex_b25
  rw [zc_isMonth, zz_b1_s, zz_ti, zc_isWithin, zz_b1_s, zz_ti, zz_ck_of (Or.inl rfl), zz_ck_of (Or.inr rfl), zz_and2]
  rfl
theorem B_indexes {s t : zz_M} (h : zR s t) (x v : Int32) : zOk (mX10_indexes x v s) (mX11_indexes x v t) := by
  have h0 := zR_thr h 0
  unfold mX10_indexes mX11_indexes
  rw [zc_isIndex, zr_isIndex]
  simp only [zz_nm_s, zz_b1_s]
  generalize zz_sF t 19 0 = t0 at h0 ⊢
  obtain ⟨hC, hI, hT, hW⟩ := id h0
  refine zOk_tst Iff.rfl (fun c => ?_) (fun c => zOk_ret h0)
  obtain ⟨c, cv⟩ := c
  obtain ⟨m, hm, rfl⟩ := zq_month c
  have hin := zq_k m hm (show 24 < 2 ^ 31 by decide)
  obtain ⟨k, hk, rfl⟩ := zq_toNat (n := 2000) (x := v) (by omega) cv.2 (by decide)
  rw [nI_toInt (by omega)] at cv
  obtain ⟨w1, w2⟩ := zc_tellAnew hC.1.2.2.1.2.2 (zi_ix1 hI) hm (nI_not1 (show k < 2 ^ 31 by omega)) (nI_not9 (show k < 2 ^ 31 by omega))
  rw [zz_ck_of hin, zr_indexIn t0 hm, zz_b1_s, zz_ck_of hin, nI_clamp (show m < 2 ^ 31 by omega)]
  by_cases e : t0.1 7 m = nI k
  · rw [if_pos e, w1 e, zz_b2_s]
    exact zOk_ret h0
  · obtain ⟨s', e1, e2, e3, e4⟩ := w2 e
    rw [if_neg e, e1, zz_b2_s]
    refine zOk_rete rfl ⟨?_, ?_, zTx_eq hT (by rw [e3]) (e4 2 (by omega) (by omega)) rfl rfl, zRw_eq hW (by rw [e3]) (by rw [e3]) rfl rfl⟩
    · rw [dz_wI7 t0 hm]
      exact zC_wix hC e2 e3 e4
    · rw [dz_wI7 t0 hm]
      exact zInv_ix hI (Or.inr ⟨k, by omega, by omega, rfl⟩)
theorem zr_in_n (x : Int32) {n : Nat} (hn : n ≤ 1000) {v : Int32} (e : v = nI n) : mX11_in x.toInt64 0 ((v - (1 : Int32)).toInt64) = some (if 0 ≤ x.toInt ∧ x.toInt < n then 1 else 0) := by
  rw [zr_in32, zl_wide, e, zi_sub (by rw [nI_toInt (by omega)]; have : (1 : Int32).toInt = 1 := rfl; omega) (by rw [nI_toInt (by omega)]; have : (1 : Int32).toInt = 1 := rfl; omega), nI_toInt (by omega)]
  have e0 : (0 : Int64).toInt = 0 := rfl
  have e1 : (1 : Int32).toInt = 1 := rfl
  rw [e0, e1]
  have : (0 ≤ x.toInt ∧ x.toInt ≤ (n : Int) - 1) ↔ (0 ≤ x.toInt ∧ x.toInt < (n : Int)) := by omega
  simp only [this]
theorem zc_has_n (x : Int32) {n : Nat} (hn : n ≤ 1000) {v : Int32} (e : v = nI n) : (if x < (0 : Int32) then zz_ck (zz_bool 0) (some (0 : Int32)) else if v ≤ x then zz_ck (zz_bool 0) (some 0) else zz_ck (zz_bool 1) (some 1)) = some (if 0 ≤ x.toInt ∧ x.toInt < n then 1 else 0) := by
  rw [zz_ck_of (Or.inl rfl), zz_ck_of (Or.inr rfl), e]
  have e0 : (0 : Int32).toInt = 0 := rfl
  by_cases h1 : x < 0
  · rw [if_pos h1, if_neg]
    rw [Int32.lt_iff_toInt_lt] at h1
    omega
  · rw [if_neg h1]
    rw [Int32.lt_iff_toInt_lt] at h1
    by_cases h2 : nI n ≤ x
    · rw [if_pos h2, if_neg]
      rw [Int32.le_iff_toInt_le, nI_toInt (by omega)] at h2
      omega
    · rw [if_neg h2, if_pos]
      rw [Int32.le_iff_toInt_le, nI_toInt (by omega)] at h2
      omega
theorem zr_isItem (z : zz_M) (x : Int32) {n : Nat} (hn : n ≤ 1000) (e : z.2.2.1 2 = nI n) : mX11_isItem x z = some (if 0 ≤ x.toInt ∧ x.toInt < n then 1 else 0) := by
  unfold mX11_isItem
  rw [zr_in_n x hn e, zz_b1_s, zz_ck_of (zq_b _)]
theorem zr_isChange (z : zz_M) (x : Int32) {n : Nat} (hn : n ≤ 1000) (e : z.2.2.1 6 = nI n) : mX11_isChange x z = some (if 0 ≤ x.toInt ∧ x.toInt < n then 1 else 0) := by
  unfold mX11_isChange
  rw [zr_in_n x hn e, zz_b1_s, zz_ck_of (zq_b _)]
theorem zr_isSet (z : zz_M) (x : Int32) {n : Nat} (hn : n ≤ 1000) (e : z.2.2.1 8 = nI n) : mX11_isSet x z = some (if 0 ≤ x.toInt ∧ x.toInt < n then 1 else 0) := by
  unfold mX11_isSet
  rw [zr_in_n x hn e, zz_b1_s, zz_ck_of (zq_b _)]
theorem zc_hasI (z : zz_M) (x : Int32) {n : Nat} (hn : n ≤ 1000) (e : z.2.2.1 579 = nI n) : mX0_has 9 x z = some (if 0 ≤ x.toInt ∧ x.toInt < n then 1 else 0) := zc_has_n x hn e
theorem zc_hasC (z : zz_M) (x : Int32) {n : Nat} (hn : n ≤ 1000) (e : z.2.2.1 3332 = nI n) : mX3_has x z = some (if 0 ≤ x.toInt ∧ x.toInt < n then 1 else 0) := zc_has_n x hn e
theorem zc_hasS (z : zz_M) (x : Int32) {n : Nat} (hn : n ≤ 1000) (e : z.2.2.1 3653 = nI n) : mX7_has x z = some (if 0 ≤ x.toInt ∧ x.toInt < n then 1 else 0) := zc_has_n x hn e
theorem zr_isMeasure (z : zz_M) (x i v : Int32) {n : Nat} (hn : n ≤ 1000) (e : z.2.2.1 2 = nI n) : mX11_isMeasure x i v z = some (if (0 ≤ x.toInt ∧ x.toInt ≤ 23) ∧ (0 ≤ i.toInt ∧ i.toInt < n) ∧ 0 ≤ v.toInt ∧ v.toInt ≤ 1999 then 1 else 0) := by
  unfold mX11_isMeasure mX11_isMeasure_b31 mX11_isMeasure_b32
  rw [zr_isMonth, zz_b1_s, zz_ti, zr_isItem z i hn e, zz_b1_s, zz_ti, zr_in32, zz_b1_s, zz_ti, zz_ck_of (Or.inl rfl), zz_ck_of (Or.inr rfl), zz_and3]
  rfl
theorem zc_isMeasure (z : zz_M) (x i v : Int32) {n : Nat} (hn : n ≤ 1000) (e : z.2.2.1 579 = nI n) : mX10_isMeasure x i v z = some (if (0 ≤ x.toInt ∧ x.toInt ≤ 23) ∧ (0 ≤ i.toInt ∧ i.toInt < n) ∧ 0 ≤ v.toInt ∧ v.toInt ≤ 1999 then 1 else 0) := by
  unfold mX10_isMeasure mX10_isMeasure_b36 mX10_isMeasure_b37
  rw [zc_isMonth, zz_b1_s, zz_ti, zc_hasI z i hn e, zz_b1_s, zz_ti, zc_isWithin, zz_b1_s, zz_ti, zz_ck_of (Or.inl rfl), zz_ck_of (Or.inr rfl), zz_and3]
  rfl
/-- the numbers of items, changes, set-offs on both sides -/
theorem zR_n {s t : zz_M} (h : zR s t) : ∃ n : Nat, n ≤ 10 ∧ t.2.2.1 2 = nI n ∧ s.2.2.1 579 = nI n ∧ (d_n (dz t)).toNatClampNeg = n := by
  obtain ⟨k, hk, e, ec, -⟩ := zi_n h.2.1
  exact ⟨k, hk, e, h.1.1.2.1.1.trans e, ec⟩
theorem zR_cm {s t : zz_M} (h : zR s t) : ∃ n : Nat, n ≤ 8 ∧ t.2.2.1 6 = nI n ∧ s.2.2.1 3332 = nI n ∧ (d_cm (dz t)).toNatClampNeg = n := by
  obtain ⟨k, hk, e, ec⟩ := zi_cm h.2.1
  exact ⟨k, hk, e, h.1.1.2.2.2.1.1.trans e, ec⟩
theorem zR_sm {s t : zz_M} (h : zR s t) : ∃ n : Nat, n ≤ 6 ∧ t.2.2.1 8 = nI n ∧ s.2.2.1 3653 = nI n ∧ (d_sm (dz t)).toNatClampNeg = n := by
  obtain ⟨k, hk, e, ec⟩ := zi_sm h.2.1
  exact ⟨k, hk, e, h.1.1.2.2.2.2.1.1.trans e, ec⟩
theorem B_measures {s t : zz_M} (h : zR s t) (x i v : Int32) : zOk (mX10_measures x i v s) (mX11_measures x i v t) := by
  have h0 := zR_thr h 0
  unfold mX10_measures mX11_measures
  simp only [zz_nm_s]
  generalize zz_sF t 19 0 = t0 at h0 ⊢
  obtain ⟨hC, hI, hT, hW⟩ := id h0
  obtain ⟨n, hn, en, en', ec⟩ := zR_n h0
  rw [zc_isMeasure s x i v (by omega) en', zr_isMeasure t0 x i v (by omega) en, zz_b1_s, zz_b1_s]
  refine zOk_tst Iff.rfl (fun c => ?_) (fun c => zOk_ret h0)
  obtain ⟨c, ci, cv⟩ := c
  obtain ⟨m, hm, rfl⟩ := zq_month c
  obtain ⟨i, hi, rfl⟩ := zq_of_in ci.1 ci.2 (by omega)
  obtain ⟨k, hk, rfl⟩ := zq_toNat (n := 1999) (x := v) cv.1 cv.2 (by decide)
  have hi' : i < 10 := by omega
  have hin := zq_k (10 * m + i) (show 10 * m + i < 240 by omega) (show 240 < 2 ^ 31 by decide)
  obtain ⟨w1, w2⟩ := zc_tellAnew (hC.1.2.2.1.1 i hi') (zi_ms1 hI hi') hm (nI_not1 (show k < 2 ^ 31 by omega)) (nI_not9 (show k < 2 ^ 31 by omega))
  rw [zz_ck_of (zq_k i hi' (by decide)), zq_10, zz_ck_of hin, zr_doneOf t0 hm hi', zz_b1_s, zz_ck_of hin, nI_clamp (show 10 * m + i < 2 ^ 31 by omega), nI_clamp (show i < 2 ^ 31 by omega)]
  by_cases e : t0.1 3 (10 * m + i) = nI k
  · rw [if_pos e, w1 e, zz_b2_s]
    exact zOk_ret h0
  · obtain ⟨s', e1, e2, e3, e4⟩ := w2 e
    rw [if_neg e, e1, zz_b2_s]
    refine zOk_rete rfl ⟨?_, ?_, zTx_eq hT (by rw [e3]) (e4 2 (by omega) (by omega)) rfl rfl, zRw_eq hW (by rw [e3]) (by rw [e3]) rfl rfl⟩
    · rw [dz_wI3 t0 (by omega)]
      exact zC_wms hC hi' e2 e3 e4
    · rw [dz_wI3 t0 (by omega)]
      exact zInv_ms hI (by omega) hi' (Or.inr ⟨k, by omega, rfl⟩)
theorem B_strikes {s t : zz_M} (h : zR s t) (x i : Int32) : zOk (mX10_strikes x i s) (mX11_strikes x i t) := by
  have h0 := zR_thr h 0
  unfold mX10_strikes mX11_strikes mX10_strikes_b21 mX11_strikes_b20
  simp only [zz_nm_s]
  generalize zz_sF t 19 0 = t0 at h0 ⊢
  obtain ⟨hC, hI, hT, hW⟩ := id h0
  obtain ⟨n, hn, en, en', ec⟩ := zR_n h0
  rw [zc_isMonth, zr_isMonth, zc_hasI s i (by omega) en', zr_isItem t0 i (by omega) en, zz_b1_s, zz_b1_s, zz_b1_s, zz_b1_s]
  refine zOk_tst Iff.rfl (fun c => ?_) (fun c => zOk_ret h0)
  refine zOk_tst Iff.rfl (fun ci => ?_) (fun c => zOk_ret h0)
  obtain ⟨m, hm, rfl⟩ := zq_month c
  obtain ⟨i, hi, rfl⟩ := zq_of_in ci.1 ci.2 (by omega)
  have hi' : i < 10 := by omega
  have hin := zq_k (10 * m + i) (show 10 * m + i < 240 by omega) (show 240 < 2 ^ 31 by decide)
  obtain ⟨s', e1, e2, e3, e4⟩ := zc_tell (hC.1.2.2.1.1 i hi') (zi_ms1 hI hi') hm (u := -9999) (by decide)
  rw [show f_told (-9999) = -1 from rfl] at e1
  have et := f_told_no (zi_ms1 hI hi' m hm)
  rw [zz_ck_of (zq_k i hi' (by decide)), zq_10, zz_ck_of hin, zz_ck_of hin, nI_clamp (show 10 * m + i < 2 ^ 31 by omega), nI_clamp (show i < 2 ^ 31 by omega), zc_isTold _ _ hm, zz_b1_s, zz_tj, e1, zz_b2_s, zr_doneOf _ hm hi', zz_b1_s, zc_latest _ _ hm, zz_b1_s, ((hC.1.2.2.1.1 i hi').1 m hm).1]
  refine zOk_if et (fun _ => zOk_ret h0) (fun _ => ?_)
  have hC' : zC s' (dz (zz_wI t0 3 (nI (10 * m + i)) (-9999))) := by
    rw [dz_wI3 t0 (by omega)]
    exact zC_wms hC hi' e2 e3 e4
  refine zOk_rete ?_ ⟨hC', ?_, zTx_eq hT (by rw [e3]) (e4 2 (by omega) (by omega)) rfl rfl, zRw_eq hW (by rw [e3]) (by rw [e3]) rfl rfl⟩
  · exact ((hC'.1.2.2.1.1 i hi').1 m hm).2
  · rw [dz_wI3 t0 (by omega)]
    exact zInv_ms hI (by omega) hi' (Or.inl rfl)
