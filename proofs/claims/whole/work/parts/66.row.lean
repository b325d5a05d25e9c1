/-! ===== the row ===== -/
def zCr (s s' : zz_M) (L : List Int64) : Prop := s'.1 = s.1 ∧ s'.2.2.2 = s.2.2.2 ∧ (∀ q, q ≠ 100 → s'.2.1 q = s.2.1 q) ∧ (∀ q, q ≠ 6337 → s'.2.2.1 q = s.2.2.1 q) ∧ s'.2.2.1 6337 = nI L.length ∧ ∀ j, j < L.length → s'.2.1 100 j = L.getD j 0
def zTr (t t' : zz_M) (L : List Int64) : Prop := t'.1 = t.1 ∧ t'.2.2.2 = t.2.2.2 ∧ (∀ q, q ≠ 10 → t'.2.1 q = t.2.1 q) ∧ (∀ q, q ≠ 18 → t'.2.2.1 q = t.2.2.1 q) ∧ t'.2.2.1 18 = nI L.length ∧ ∀ j, j < L.length → t'.2.1 10 j = L.getD j 0
theorem zL_app (L : List Int64) (x : Int64) {j : Nat} (h : j < L.length) : (L ++ [x]).getD j 0 = L.getD j 0 := by
  rw [List.getD_eq_getElem?_getD, List.getD_eq_getElem?_getD, List.getElem?_append_left h]
theorem zL_end (L : List Int64) (x : Int64) : (L ++ [x]).getD L.length 0 = x := by
  rw [List.getD_eq_getElem?_getD, List.getElem?_append_right (Nat.le_refl _), Nat.sub_self]
  rfl
theorem zc_then {s s1 : zz_M} {L : List Int64} (h : zCr s s1 L) (hl : L.length < 5) (x : Int64) : ∃ s2, mX5_then x s1 = some ((), s2) ∧ zCr s s2 (L ++ [x]) := by
  obtain ⟨a1, a2, a3, a4, a5, a6⟩ := h
  refine ⟨zz_sF (zz_wJ s1 100 (nI L.length) x) 6337 (nI (L.length + 1)), ?_, a1, a2, fun q hq => ?_, fun q hq => ?_, ?_, fun j hj => ?_⟩
  · unfold mX5_then mX5_then_b28
    have e : ∀ (z : zz_M) (v : Int32) (y : Int64), (zz_wJ z 100 v y).2.2.1 = z.2.2.1 := fun _ _ _ => rfl
    rw [if_neg (show ¬ (5 : Int32) ≤ s1.2.2.1 6337 by rw [a5]; exact nI_ge hl (by decide)), zz_nm_s, zz_nm_s, e, a5, zz_ck_of (zq_k _ hl (by decide)), nI_1]
  · show (zz_wJ s1 100 (nI L.length) x).2.1 q = _
    rw [zw_J_ne _ _ _ hq]
    exact a3 q hq
  · show va_up _ _ _ q = _
    rw [va_up_ne _ _ hq]
    exact a4 q hq
  · rw [List.length_append]
    rfl
  · show (zz_wJ s1 100 (nI L.length) x).2.1 100 j = _
    by_cases e : j = L.length
    · subst e
      rw [zw_J_same _ _ _ _ (by omega), zL_end]
    · have hj2 : j < L.length := by
        rw [List.length_append] at hj
        have : [x].length = 1 := rfl
        omega
      rw [zw_J_off _ _ _ (by omega) e, zL_app _ _ hj2]
      exact a6 j hj2
theorem zc_start (s : zz_M) (x : Int64) : ∃ s1, mX5_start x s = some ((), s1) ∧ zCr s s1 [x] := by
  have h0 : zCr s (zz_sF s 6337 0) [] := ⟨rfl, rfl, fun _ _ => rfl, fun q hq => va_up_ne _ _ hq, rfl, fun j hj => absurd hj (Nat.not_lt_zero j)⟩
  obtain ⟨s2, e2, h2⟩ := zc_then h0 (by decide) x
  refine ⟨s2, ?_, h2⟩
  unfold mX5_start
  rw [zz_nm_s, e2, zz_b2_s]
theorem zr_row0 (t : zz_M) : zTr t (zz_sF t 18 0) [] := ⟨rfl, rfl, fun _ _ => rfl, fun q hq => va_up_ne _ _ hq, rfl, fun j hj => absurd hj (Nat.not_lt_zero j)⟩
theorem zr_tell {s s1 : zz_M} {L : List Int64} (h : zTr s s1 L) (hl : L.length < 5) (x : Int64) : ∃ s2, mX11_tell x s1 = some ((), s2) ∧ zTr s s2 (L ++ [x]) := by
  obtain ⟨a1, a2, a3, a4, a5, a6⟩ := h
  refine ⟨zz_sF (zz_wJ s1 10 (nI L.length) x) 18 (nI (L.length + 1)), ?_, a1, a2, fun q hq => ?_, fun q hq => ?_, ?_, fun j hj => ?_⟩
  · unfold mX11_tell
    have e : ∀ (z : zz_M) (v : Int32) (y : Int64), (zz_wJ z 10 v y).2.2.1 = z.2.2.1 := fun _ _ _ => rfl
    rw [zz_nm_s, zz_nm_s, e, a5, zz_ck_of (zq_k _ (show L.length < 32 by omega) (by decide)), nI_1]
  · show (zz_wJ s1 10 (nI L.length) x).2.1 q = _
    rw [zw_J_ne _ _ _ hq]
    exact a3 q hq
  · show va_up _ _ _ q = _
    rw [va_up_ne _ _ hq]
    exact a4 q hq
  · rw [List.length_append]
    rfl
  · show (zz_wJ s1 10 (nI L.length) x).2.1 10 j = _
    by_cases e : j = L.length
    · subst e
      rw [zw_J_same _ _ _ _ (by omega), zL_end]
    · have hj2 : j < L.length := by
        rw [List.length_append] at hj
        have : [x].length = 1 := rfl
        omega
      rw [zw_J_off _ _ _ (by omega) e, zL_app _ _ hj2]
      exact a6 j hj2
theorem zCr.c0 {s s1 : zz_M} {L : List Int64} (h : zCr s s1 L) {d : zD} (hC : zC0 s d) : zC0 s1 d := zC0_fr hC (fun q _ => by rw [h.1]) (fun q _ hq => h.2.2.2.1 q (by omega))
theorem zCr.c {s s1 : zz_M} {L : List Int64} (h : zCr s s1 L) {d : zD} (hC : zC s d) : zC s1 d := ⟨h.c0 hC.1, zC_pd_cg hC.2 (h.2.2.1 63 (by omega)) rfl⟩
theorem dz_cg {t t1 : zz_M} (h1 : ∀ q, q ≤ 8 → t1.1 q = t.1 q) (h2 : ∀ q, q ≤ 12 → t1.2.2.1 q = t.2.2.1 q) : dz t1 = dz t := by
  unfold dz
  rw [h1 1 (by omega), h1 2 (by omega), h1 3 (by omega), h1 4 (by omega), h1 5 (by omega), h1 6 (by omega), h1 7 (by omega), h1 8 (by omega), h2 2 (by omega), h2 6 (by omega), h2 8 (by omega), h2 9 (by omega), h2 10 (by omega), h2 11 (by omega), h2 12 (by omega)]
theorem zTr.d {t t1 : zz_M} {L : List Int64} (h : zTr t t1 L) : dz t1 = dz t := dz_cg (fun q _ => by rw [h.1]) (fun q hq => h.2.2.2.1 q (by omega))
theorem zTr.i {t t1 : zz_M} {L : List Int64} (h : zTr t t1 L) (hI : zInv (dz t)) : zInv (dz t1) := by rw [h.d]; exact hI
/-- the same row told on both sides -/
theorem zR_row {s s' t t' : zz_M} {L : List Int64} (h : zR s t) (a : zCr s s' L) (b : zTr t t' L) (hl : L.length ≤ 5) : zR s' t' := by
  obtain ⟨hC, hI, hT, hW⟩ := h
  refine ⟨?_, b.i hI, zTx_eq hT (a.2.2.2.1 65 (by omega)) (by rw [a.1]) (b.2.2.2.1 16 (by omega)) (by rw [b.1]), L.length, hl, a.2.2.2.2.1, b.2.2.2.2.1, fun j hj => ?_⟩
  · rw [b.d]; exact a.c hC
  · rw [a.2.2.2.2.2 j hj, b.2.2.2.2.2 j hj]
theorem B_sum {s t : zz_M} (h : zR s t) : zOk (mX10_sum s) (mX11_sum t) := by
  have h0 := zR_thr h 0
  unfold mX10_sum mX11_sum
  simp only [zz_nm_s]
  generalize zz_sF t 19 0 = t0 at h0 ⊢
  obtain ⟨hC, hI, hT, hW⟩ := id h0
  obtain ⟨s1, a1, b1⟩ := zc_start s (f_adv (dz t0))
  obtain ⟨s2, a2, b2⟩ := zc_then b1 (by simp) (f_limit (dz t0))
  obtain ⟨s3, a3, b3⟩ := zc_then b2 (by simp) ((d_n (dz t0)).toInt64)
  obtain ⟨s4, a4, b4⟩ := zc_then b3 (by simp) ((100 : Int64) * (d_ho (dz t0)).toInt64 + (d_la (dz t0)).toInt64)
  have q0 := zr_row0 t0
  obtain ⟨t1, x1, y1⟩ := zr_tell q0 (by simp) (f_adv (dz t0))
  obtain ⟨t2, x2, y2⟩ := zr_tell y1 (by simp) (f_limit (dz t0))
  obtain ⟨t3, x3, y3⟩ := zr_tell y2 (by simp) ((d_n (dz t0)).toInt64)
  obtain ⟨t4, x4, y4⟩ := zr_tell y3 (by simp) ((100 : Int64) * (d_ho (dz t0)).toInt64 + (d_la (dz t0)).toInt64)
  rw [zc_advanced hC.1, zz_b1_s, a1, zz_b2_s, zc_limit (b1.c0 hC.1), zz_b1_s, a2, zz_b2_s, (b2.c0 hC.1).2.1.1, a3, zz_b2_s, (b3.c0 hC.1).2.2.2.2.2.1, (b3.c0 hC.1).2.2.2.2.2.2.1, a4, zz_b2_s]
  rw [zr_advancedNow _ (q0.i hI), zz_b1_s, q0.d, x1, zz_b2_s, zr_limitNow _ (y1.i hI), zz_b1_s, y1.d, x2, zz_b2_s, show t2.2.2.1 2 = d_n (dz t0) from congrArg d_n y2.d, x3, zz_b2_s, show t3.2.2.1 9 = d_ho (dz t0) from congrArg d_ho y3.d, show t3.2.2.1 10 = d_la (dz t0) from congrArg d_la y3.d, x4, zz_b2_s, zr_sumNow _ (y4.i hI), zz_b1_s, y4.d]
  refine zOk_rete ?_ (zR_row h0 b4 y4 (by simp))
  rw [← (b4.c0 hC.1).2.1.2.2, Int32.toInt32_toInt64]
theorem zc_monthOrNone (x : Int32) : mX10_monthOrNone x = some (if x = 24 then -1 else x) := by
  unfold mX10_monthOrNone mX10_monthOrNone_b11
  by_cases c : x = 24
  · rw [if_pos c, if_pos c]
  · rw [if_neg c, if_neg c]
theorem zr_monthTold (x : Int32) : mX11_monthTold x = some (if x = 24 then -1 else x) := by
  unfold mX11_monthTold mX11_monthTold_b11
  by_cases c : x = 24
  · rw [if_pos c, if_pos c]
  · rw [if_neg c, if_neg c]
theorem B_held {s t : zz_M} (h : zR s t) (x m : Int32) : zOk (mX10_held x m s) (mX11_held x m t) := by
  have h0 := zR_thr h 0
  unfold mX10_held mX11_held mX10_held_b23 mX11_held_b20
  simp only [zz_nm_s]
  generalize zz_sF t 19 0 = t0 at h0 ⊢
  obtain ⟨hC, hI, hT, hW⟩ := id h0
  obtain ⟨n, hn, en, en', ec⟩ := zR_sm h0
  rw [zc_hasS s x (by omega) en', zr_isSet t0 x (by omega) en, zz_b1_s, zz_b1_s, zc_isMonth, zr_isMonth, zz_b1_s, zz_b1_s]
  refine zOk_tst Iff.rfl (fun cx => ?_) (fun c => zOk_ret h0)
  refine zOk_tst Iff.rfl (fun cm => ?_) (fun c => zOk_ret h0)
  obtain ⟨c, hc, rfl⟩ := zq_of_in cx.1 cx.2 (by omega)
  obtain ⟨k, hk, rfl⟩ := zq_month cm
  have ic := zq_k c (show c < 6 by omega) (show 6 < 2 ^ 31 by decide)
  have i0 := zq_k (5 * c) (show 5 * c < 30 by omega) (show 30 < 2 ^ 31 by decide)
  have i1 := zq_k (5 * c + 1) (show 5 * c + 1 < 30 by omega) (show 30 < 2 ^ 31 by decide)
  have i2 := zq_k (5 * c + 2) (show 5 * c + 2 < 30 by omega) (show 30 < 2 ^ 31 by decide)
  have i3 := zq_k (5 * c + 3) (show 5 * c + 3 < 30 by omega) (show 30 < 2 ^ 31 by decide)
  have i4 := zq_k (5 * c + 4) (show 5 * c + 4 < 30 by omega) (show 30 < 2 ^ 31 by decide)
  rw [zq_51, zq_52, zq_53, zq_54, zq_5]
  simp only [zz_ck_of ic, zz_ck_of i0, zz_ck_of i1, zz_ck_of i2, zz_ck_of i3, zz_ck_of i4, nI_clamp (show 5 * c < 2 ^ 31 by omega), nI_clamp (show 5 * c + 1 < 2 ^ 31 by omega), nI_clamp (show 5 * c + 2 < 2 ^ 31 by omega), nI_clamp (show 5 * c + 3 < 2 ^ 31 by omega), nI_clamp (show 5 * c + 4 < 2 ^ 31 by omega), nI_clamp (show c < 2 ^ 31 by omega), zc_monthOrNone, zr_monthTold, zz_b1_s]
  obtain ⟨p0, p1, p2, p3, p4⟩ := hC.1.2.2.2.2.1.2 c (by omega)
  generalize hd : dz t0 = d at *
  obtain ⟨s1, a1, b1⟩ := zc_start s ((d_se d (5 * c)).toInt64)
  obtain ⟨s2, a2, b2⟩ := zc_then b1 (by simp) ((d_se d (5 * c + 1)).toInt64)
  obtain ⟨s3, a3, b3⟩ := zc_then b2 (by simp) ((if d_se d (5 * c + 2) = 24 then -1 else d_se d (5 * c + 2)).toInt64)
  obtain ⟨s4, a4, b4⟩ := zc_then b3 (by simp) ((if d_se d (5 * c + 3) = 24 then -1 else d_se d (5 * c + 3)).toInt64)
  obtain ⟨s5, a5, b5⟩ := zc_then b4 (by simp) ((d_se d (5 * c + 4)).toInt64)
  have q0 := zr_row0 t0
  obtain ⟨t1, x1, y1⟩ := zr_tell q0 (by simp) ((d_se d (5 * c)).toInt64)
  obtain ⟨t2, x2, y2⟩ := zr_tell y1 (by simp) ((d_se d (5 * c + 1)).toInt64)
  obtain ⟨t3, x3, y3⟩ := zr_tell y2 (by simp) ((if d_se d (5 * c + 2) = 24 then -1 else d_se d (5 * c + 2)).toInt64)
  obtain ⟨t4, x4, y4⟩ := zr_tell y3 (by simp) ((if d_se d (5 * c + 3) = 24 then -1 else d_se d (5 * c + 3)).toInt64)
  obtain ⟨t5, x5, y5⟩ := zr_tell y4 (by simp) ((d_se d (5 * c + 4)).toInt64)
  rw [p0, a1, zz_b2_s, b1.1, p1, a2, zz_b2_s, b2.1, p2, a3, zz_b2_s, b3.1, p3, a4, zz_b2_s, b4.1, p4, a5, zz_b2_s, zc_heldIn (b5.c0 hC.1) hI (by omega), zz_b1_s]
  have g : t0.1 6 = d_se d := congrArg d_se hd
  rw [q0.1, g, x1, zz_b2_s, y1.1, g, x2, zz_b2_s, y2.1, g, x3, zz_b2_s, y3.1, g, x4, zz_b2_s, y4.1, g, x5, zz_b2_s, zr_heldOf _ (by omega), zz_b1_s, y5.d, hd]
  exact zOk_ret (zR_row h0 b5 y5 (by simp))
