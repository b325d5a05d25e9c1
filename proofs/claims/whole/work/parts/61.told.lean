/-! ===== told: payments, terms, series ===== -/
theorem zw_I_eq (z : zz_M) (q : Nat) {m : Nat} (x : Int32) (hm : m < 2 ^ 31) : (zz_wI z q (nI m) x).1 q = upd (z.1 q) m x := by
  simp [zz_wI, zz_sI, va_up, nI_clamp hm]
theorem upd_at (f : Nat → Int32) (m : Nat) (x : Int32) : upd f m x m = x := if_pos rfl
theorem upd_off (f : Nat → Int32) {m j : Nat} (x : Int32) (h : j ≠ m) : upd f m x j = f j := if_neg h
def d_wpd (d : zD) (f : Nat → Int32) : zD := (d_tm d, d_it d, d_ms d, d_st d, d_ch d, d_se d, d_ix d, f, d_n d, d_cm d, d_sm d, d_ho d, d_la d, d_du d, d_gr d)
def d_wtm (d : zD) (f : Nat → Int32) : zD := (f, d_it d, d_ms d, d_st d, d_ch d, d_se d, d_ix d, d_pd d, d_n d, d_cm d, d_sm d, d_ho d, d_la d, d_du d, d_gr d)
def d_wms (d : zD) (f : Nat → Int32) : zD := (d_tm d, d_it d, f, d_st d, d_ch d, d_se d, d_ix d, d_pd d, d_n d, d_cm d, d_sm d, d_ho d, d_la d, d_du d, d_gr d)
def d_wst (d : zD) (f : Nat → Int32) : zD := (d_tm d, d_it d, d_ms d, f, d_ch d, d_se d, d_ix d, d_pd d, d_n d, d_cm d, d_sm d, d_ho d, d_la d, d_du d, d_gr d)
def d_wix (d : zD) (f : Nat → Int32) : zD := (d_tm d, d_it d, d_ms d, d_st d, d_ch d, d_se d, f, d_pd d, d_n d, d_cm d, d_sm d, d_ho d, d_la d, d_du d, d_gr d)
theorem zInv_pd {d : zD} (h : zInv d) {f : Nat → Int32} (hf : ∀ m : Nat, m < 24 → ∃ k : Nat, k < 1000000 ∧ f m = nI k) : zInv (d_wpd d f) := by
  obtain ⟨a1, a2, a3, a4, a5, a6, a7, a8, a9, b1, b2, -⟩ := h
  exact ⟨a1, a2, a3, a4, a5, a6, a7, a8, a9, b1, b2, hf⟩
theorem zC_wpd {s s' : zz_M} {d : zD} (h : zC s d) {f : Nat → Int32} (h1 : s'.1 = s.1) (h2 : s'.2.2.1 = s.2.2.1) (hf : ∀ m : Nat, m < 24 → s'.2.1 63 m = (f m).toInt64) : zC s' (d_wpd d f) := by
  obtain ⟨⟨a1, a2, a3, a4, a5, a6⟩, b⟩ := h
  exact ⟨⟨zC_tm_cg a1 (by rw [h1]) rfl, zC_it_cg a2 (by rw [h1]) (by rw [h1]) (by rw [h1]) (by rw [h2]) (by rw [h2]) rfl rfl, zC_ms_cg a3 (fun q _ _ => by rw [h1]) (fun k hk => by rw [h2]) rfl rfl rfl, zC_ch_cg a4 (fun q _ _ => by rw [h1]) (by rw [h2]) rfl rfl rfl rfl, zC_se_cg a5 (fun q _ _ => by rw [h1]) (by rw [h2]) rfl rfl, zC_sc_cg a6 (fun q _ _ => by rw [h2]) rfl rfl rfl rfl⟩, hf⟩
theorem dz_wI8 (t : zz_M) {m : Nat} (hm : m < 24) (x : Int32) : dz (zz_wI t 8 (nI m) x) = d_wpd (dz t) (upd (d_pd (dz t)) m x) := by
  show d_wpd (dz t) ((zz_wI t 8 (nI m) x).1 8) = _
  rw [zw_I_eq t 8 x (by omega)]
  rfl
theorem zq_toNat {x : Int32} {n : Nat} (h : 0 ≤ x.toInt) (h2 : x.toInt ≤ n) (hn : n < 2 ^ 30) : ∃ k : Nat, k ≤ n ∧ x = nI k := by
  obtain ⟨k, hk, e⟩ := zq_of_in (n := n + 1) h (by omega) (by omega)
  exact ⟨k, by omega, e⟩
theorem B_pays {s t : zz_M} (h : zR s t) (x v : Int32) : zOk (mX10_pays x v s) (mX11_pays x v t) := by
  have h0 := zR_thr h 0
  unfold mX10_pays mX11_pays mX10_pays_b17 mX11_pays_b24
  rw [zc_isMonth, zr_isMonth, zc_isWithin, zr_in32]
  simp only [zz_nm_s, zz_b1_s]
  generalize zz_sF t 19 0 = t0 at h0 ⊢
  obtain ⟨hC, hI, hT, hW⟩ := id h0
  refine zOk_tst Iff.rfl (fun c => ?_) (fun c => zOk_ret h0)
  refine zOk_tst Iff.rfl (fun cv => ?_) (fun c => zOk_ret h0)
  obtain ⟨m, hm, rfl⟩ := zq_month c
  have hin := zq_k m hm (show 24 < 2 ^ 31 by decide)
  obtain ⟨k, hk, ek⟩ := zq_toNat (n := 999999) (x := v) cv.1 cv.2 (by decide)
  rw [zz_ck_of hin, zz_ck_of hin, zz_ck_of hin, zz_ck_of hin, zz_ck_of hin, nI_clamp (show m < 2 ^ 31 by omega), hC.2 m hm, Int32.toInt32_toInt64]
  refine zOk_if Iff.rfl (fun _ => zOk_ret h0) (fun _ => ?_)
  refine zOk_rete rfl ⟨?_, ?_, zTx_eq hT rfl rfl rfl rfl, zRw_eq hW rfl rfl rfl rfl⟩
  · rw [dz_wI8 t0 hm]
    refine zC_wpd hC rfl rfl (fun j hj => ?_)
    by_cases e : j = m
    · subst e
      rw [zw_J_same _ _ _ _ (by omega), upd_at]
    · rw [zw_J_off _ _ _ (by omega) e, upd_off _ _ e]
      exact hC.2 j hj
  · rw [dz_wI8 t0 hm]
    refine zInv_pd hI (fun j hj => ?_)
    by_cases e : j = m
    · subst e
      rw [upd_at]
      exact ⟨k, by omega, ek⟩
    · rw [upd_off _ _ e]
      exact hI.2.2.2.2.2.2.2.2.2.2.2 j hj
theorem zr_mostOf : ∀ k : Nat, k < 14 → mX11_mostOf (nI k) = some (zz_great k) := by
  intro k hk
  rcases (show k = 0 ∨ k = 1 ∨ k = 2 ∨ k = 3 ∨ k = 4 ∨ k = 5 ∨ k = 6 ∨ k = 7 ∨ k = 8 ∨ k = 9 ∨ k = 10 ∨ k = 11 ∨ k = 12 ∨ k = 13 by omega) with h | h | h | h | h | h | h | h | h | h | h | h | h | h <;> subst h <;> decide
theorem zr_isTerm (x v : Int32) : mX11_isTerm x v = some (if (0 ≤ x.toInt ∧ x.toInt ≤ 13) ∧ 0 ≤ v.toInt ∧ v.toInt ≤ (zz_great x.toNatClampNeg).toInt then 1 else 0) := by
  unfold mX11_isTerm mX11_isTerm_b30 mX11_isTerm_b31
  rw [zr_in32, zz_b1_s]
  by_cases c : 0 ≤ x.toInt ∧ x.toInt ≤ 13
  · rw [if_pos (show (0 : Int64).toInt ≤ x.toInt ∧ x.toInt ≤ (13 : Int64).toInt from c), if_neg zq_not0]
    obtain ⟨k, hk, rfl⟩ := zq_toNat (n := 13) c.1 c.2 (by decide)
    rw [zr_mostOf k (by omega), zz_b1_s, zr_in32, zz_b1_s, zl_wide, nI_clamp (by omega)]
    by_cases cv : 0 ≤ v.toInt ∧ v.toInt ≤ (zz_great k).toInt
    · rw [if_pos (show (0 : Int64).toInt ≤ v.toInt ∧ v.toInt ≤ (zz_great k).toInt from cv), if_neg zq_not0, zz_ck_of (Or.inr rfl), if_pos ⟨c, cv⟩]
    · rw [if_neg (show ¬ ((0 : Int64).toInt ≤ v.toInt ∧ v.toInt ≤ (zz_great k).toInt) from cv), if_pos rfl, zz_ck_of (Or.inl rfl), if_neg (fun q => cv q.2)]
  · rw [if_neg (show ¬ ((0 : Int64).toInt ≤ x.toInt ∧ x.toInt ≤ (13 : Int64).toInt) from c), if_pos rfl, zz_ck_of (Or.inl rfl), if_neg (fun q => c q.1)]
theorem zc_hasT (x : Int32) : mX8_has x = some (if 0 ≤ x.toInt ∧ x.toInt ≤ 13 then 1 else 0) := by
  unfold mX8_has mX8_has_b14 mX8_has_b15
  have e0 : (0 : Int32).toInt = 0 := rfl
  have e14 : (14 : Int32).toInt = 14 := rfl
  by_cases h1 : x < 0
  · rw [if_pos h1, zz_ck_of (Or.inl rfl), if_neg]
    rw [Int32.lt_iff_toInt_lt] at h1
    omega
  · rw [if_neg h1]
    rw [Int32.lt_iff_toInt_lt] at h1
    by_cases h2 : 14 ≤ x
    · rw [if_pos h2, zz_ck_of (Or.inl rfl), if_neg]
      rw [Int32.le_iff_toInt_le] at h2
      omega
    · rw [if_neg h2, zz_ck_of (Or.inr rfl), if_pos]
      rw [Int32.le_iff_toInt_le] at h2
      omega
theorem zc_allow (x v : Int32) (s : zz_M) : mX8_allow x v s = some (if (0 ≤ x.toInt ∧ x.toInt ≤ 13) ∧ 0 ≤ v.toInt ∧ v.toInt ≤ (zz_great x.toNatClampNeg).toInt then 1 else 0) := by
  unfold mX8_allow mX8_allow_b24 mX8_allow_b25
  rw [zc_hasT, zz_b1_s]
  by_cases c : 0 ≤ x.toInt ∧ x.toInt ≤ 13
  · rw [if_pos c, if_neg zq_not0]
    obtain ⟨k, hk, rfl⟩ := zq_toNat (n := 13) c.1 c.2 (by decide)
    rw [zz_ck_of (zq_k k (show k < 14 by omega) (by decide)), zc_isWithin, zz_b1_s, nI_clamp (by omega)]
    by_cases cv : 0 ≤ v.toInt ∧ v.toInt ≤ (zz_great k).toInt
    · rw [if_pos (show (0 : Int32).toInt ≤ v.toInt ∧ v.toInt ≤ (zz_great k).toInt from cv), if_neg zq_not0, zz_ck_of (Or.inr rfl), if_pos ⟨c, cv⟩]
    · rw [if_neg (show ¬ ((0 : Int32).toInt ≤ v.toInt ∧ v.toInt ≤ (zz_great k).toInt) from cv), if_pos rfl, zz_ck_of (Or.inl rfl), if_neg (fun q => cv q.2)]
  · rw [if_neg c, if_pos rfl, zz_ck_of (Or.inl rfl), if_neg (fun q => c q.1)]
theorem zInv_tm {d : zD} (h : zInv d) {f : Nat → Int32} (hf : ∀ j : Nat, j < 14 → ∃ k : Nat, f j = nI k ∧ nI k ≤ zz_great j ∧ k ≤ 1000) : zInv (d_wtm d f) := by
  obtain ⟨a1, a2, a3, a4, a5, a6, a7, -, a9, b1, b2, b3⟩ := h
  exact ⟨a1, a2, a3, a4, a5, a6, a7, hf, a9, b1, b2, b3⟩
theorem zz_great_bd : ∀ j : Nat, j < 14 → (zz_great j).toInt ≤ 1000 := by decide
theorem zInv_tm1 {d : zD} (h : zInv d) {j : Nat} (hj : j < 14) {v : Int32} (h0 : 0 ≤ v.toInt) (h1 : v.toInt ≤ (zz_great j).toInt) : zInv (d_wtm d (upd (d_tm d) j v)) := by
  refine zInv_tm h (fun i hi => ?_)
  by_cases e : i = j
  · subst e
    rw [upd_at]
    have := zz_great_bd i hi
    obtain ⟨k, hk, rfl⟩ := zq_toNat (n := 1000) h0 (by omega) (by decide)
    exact ⟨k, rfl, Int32.le_iff_toInt_le.mpr h1, hk⟩
  · rw [upd_off _ _ e]
    exact h.2.2.2.2.2.2.2.1 i hi
theorem zC_wtm {s s' : zz_M} {d : zD} (h : zC s d) {f : Nat → Int32} (h1 : ∀ q, q ≠ 14 → s'.1 q = s.1 q) (h3 : s'.2 = s.2) (hf : ∀ m : Nat, m < 14 → s'.1 14 m = f m) : zC s' (d_wtm d f) := by
  obtain ⟨⟨a1, a2, a3, a4, a5, a6⟩, b⟩ := h
  exact ⟨⟨hf, zC_it_cg a2 (h1 _ (by omega)) (h1 _ (by omega)) (h1 _ (by omega)) (by rw [h3]) (by rw [h3]) rfl rfl, zC_ms_cg a3 (fun q _ _ => h1 _ (by omega)) (fun k hk => by rw [h3]) rfl rfl rfl, zC_ch_cg a4 (fun q _ _ => h1 _ (by omega)) (by rw [h3]) rfl rfl rfl rfl, zC_se_cg a5 (fun q _ _ => h1 _ (by omega)) (by rw [h3]) rfl rfl, zC_sc_cg a6 (fun q _ _ => by rw [h3]) rfl rfl rfl rfl⟩, zC_pd_cg b (by rw [h3]) rfl⟩
theorem zC_wtm1 {s : zz_M} {d : zD} (h : zC s d) {j : Nat} (hj : j < 14) (v : Int32) : zC (zz_wI s 14 (nI j) v) (d_wtm d (upd (d_tm d) j v)) := by
  refine zC_wtm h (fun q hq => zw_I_ne s _ _ hq) rfl (fun m hm => ?_)
  rw [zw_I_eq s 14 v (by omega)]
  by_cases e : m = j
  · subst e
    rw [upd_at, upd_at]
  · rw [upd_off _ _ e, upd_off _ _ e]
    exact h.1.1 m hm
theorem dz_wI1 (t : zz_M) {m : Nat} (hm : m < 14) (x : Int32) : dz (zz_wI t 1 (nI m) x) = d_wtm (dz t) (upd (d_tm (dz t)) m x) := by
  show d_wtm (dz t) ((zz_wI t 1 (nI m) x).1 1) = _
  rw [zw_I_eq t 1 x (by omega)]
  rfl
theorem zc_put (s : zz_M) {j : Nat} (hj : j < 14) (v : Int32) : mX8_put (nI j) v s = some ((), zz_wI s 14 (nI j) v) := by
  unfold mX8_put
  rw [zz_ck_of (zq_k j hj (by decide)), zz_nm_s]
theorem B_terms {s t : zz_M} (h : zR s t) (x v : Int32) : zOk (mX10_terms x v s) (mX11_terms x v t) := by
  have h0 := zR_thr h 0
  unfold mX10_terms mX11_terms
  rw [zc_allow, zr_isTerm]
  simp only [zz_nm_s, zz_b1_s]
  generalize zz_sF t 19 0 = t0 at h0 ⊢
  obtain ⟨hC, hI, hT, hW⟩ := id h0
  refine zOk_tst Iff.rfl (fun c => ?_) (fun c => zOk_ret h0)
  obtain ⟨j, hj, rfl⟩ := zq_toNat (n := 13) c.1.1 c.1.2 (by decide)
  have hj' : j < 14 := by omega
  have hin := zq_k j hj' (show 14 < 2 ^ 31 by decide)
  have cv := c.2
  rw [nI_clamp (show j < 2 ^ 31 by omega)] at cv
  rw [zc_ofI hC.1 hj', zz_b1_s, zc_put _ hj', zz_b2_s, zz_ck_of hin, zz_ck_of hin, nI_clamp (show j < 2 ^ 31 by omega)]
  refine zOk_if Iff.rfl (fun _ => zOk_ret h0) (fun _ => ?_)
  refine zOk_rete rfl ⟨?_, ?_, zTx_eq hT rfl rfl rfl rfl, zRw_eq hW rfl rfl rfl rfl⟩
  · rw [dz_wI1 t0 hj']
    exact zC_wtm1 hC hj' v
  · rw [dz_wI1 t0 hj']
    exact zInv_tm1 hI hj' cv.1 cv.2
