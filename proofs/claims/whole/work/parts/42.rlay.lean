/-! ===== the reference lays the months ===== -/
theorem zw_J_same (z : zz_M) (q m : Nat) (x : Int64) (hm : m < 2 ^ 31) : (zz_wJ z q (nI m) x).2.1 q m = x := by
  simp [zz_wJ, zz_sJ, va_up, vp_updL, nI_clamp hm]
theorem zw_J_ne (z : zz_M) {q p : Nat} (i : Int32) (x : Int64) (h : p ≠ q) : (zz_wJ z q i x).2.1 p = z.2.1 p := by
  simp [zz_wJ, zz_sJ, va_up, h]
theorem zw_J_off (z : zz_M) (q : Nat) {m j : Nat} (x : Int64) (hm : m < 2 ^ 31) (h : j ≠ m) : (zz_wJ z q (nI m) x).2.1 q j = z.2.1 q j := by
  simp [zz_wJ, zz_sJ, va_up, vp_updL, nI_clamp hm, h]
theorem zw_J_1 (z : zz_M) (q : Nat) (i : Int32) (x : Int64) : (zz_wJ z q i x).1 = z.1 := rfl
theorem zw_J_2 (z : zz_M) (q : Nat) (i : Int32) (x : Int64) : (zz_wJ z q i x).2.2 = z.2.2 := rfl
theorem zw_J_d (z : zz_M) (q : Nat) (i : Int32) (x : Int64) : dz (zz_wJ z q i x) = dz z := rfl
def f_netOf (d : zD) (m : Nat) (a r : Int64) : Int64 := f_work d m + f_mat d m + f_adv d + a - f_ret d m - r - f_set d m - f_dam d m
def f_certOf (d : zD) (m : Nat) (net sum : Int64) : Int64 := if net - sum < 0 ∧ nI m < d_la d then 0 else net - sum
def zW5 (z : zz_M) (m : Nat) (r a n c t : Int64) : zz_M := zz_wJ (zz_wJ (zz_wJ (zz_wJ (zz_wJ z 13 (nI m) r) 12 (nI m) a) 14 (nI m) n) 15 (nI m) c) 16 (nI m) t
theorem zr_lay261 (z : zz_M) {m : Nat} (hm : m < 24) (k : Int64 → Int64 → Int64 → Int64 → Int32 → zz_M → Option (Unit × zz_M)) (v1 v3 v5 v7 t0 : Int64) : mX11_layMonths_b261 k v1 v3 v5 v7 (nI m) t0 (nI m) z = k v1 v3 v5 (v7 + t0) (nI (m + 1)) (zz_wJ (zz_wJ z 15 (nI m) t0) 16 (nI m) (v7 + t0)) := by
  unfold mX11_layMonths_b261
  simp only [zz_ck_of (zq_k (n := 24) m hm (by decide)), zz_nm_s, nI_clamp (show m < 2 ^ 31 by omega), zw_J_same z 15 m t0 (by omega), nI_1]
theorem zr_lay161 (z : zz_M) (h : zInv (dz z)) {m : Nat} (hm : m < 24) (k : Int64 → Int64 → Int64 → Int64 → Int32 → zz_M → Option (Unit × zz_M)) (v1 v3 v7 v14 t0 : Int64) : mX11_layMonths_b161 k v1 v3 v7 (nI m) (f_work (dz z) m) v14 t0 (nI m) z = k v1 v3 (f_work (dz z) m) (v7 + f_certOf (dz z) m (f_netOf (dz z) m (t0 + v14) v3) v7) (nI (m + 1)) (zz_wJ (zz_wJ (zz_wJ (zz_wJ z 12 (nI m) (t0 + v14)) 14 (nI m) (f_netOf (dz z) m (t0 + v14) v3)) 15 (nI m) (f_certOf (dz z) m (f_netOf (dz z) m (t0 + v14) v3) v7)) 16 (nI m) (v7 + f_certOf (dz z) m (f_netOf (dz z) m (t0 + v14) v3) v7)) := by
  unfold mX11_layMonths_b161 mX11_layMonths_b259
  have h9 : zInv (dz (zz_wJ z 12 (nI m) (t0 + v14))) := h
  simp only [zz_ck_of (zq_k (n := 24) m hm (by decide)), zz_nm_s, zz_b1_s, nI_clamp (show m < 2 ^ 31 by omega), zr_materialsIn _ hm, zr_advancedNow _ h9, zr_retainedIn _ h9 hm, zr_setIn _ h9, zr_damagesIn _ h9, zw_J_same _ 12 m _ (show m < 2 ^ 31 by omega), zw_J_same _ 14 m _ (show m < 2 ^ 31 by omega), zw_J_d, zr_lay261 _ hm]
  show (if (0 : Int32) ≤ lg_cmp (f_netOf (dz z) m (t0 + v14) v3 - v7) 0 then _ else if (z.2.2.1 10) ≤ nI m then _ else _) = _
  unfold f_certOf
  by_cases c1 : (0 : Int32) ≤ lg_cmp (f_netOf (dz z) m (t0 + v14) v3 - v7) 0
  · rw [if_pos c1]
    rw [lg_cmp_ge, Int64.le_iff_toInt_le] at c1
    rw [if_neg (fun q => by have := Int64.lt_iff_toInt_lt.mp q.1; omega)]
    rfl
  · rw [if_neg c1]
    rw [lg_cmp_ge, Int64.le_iff_toInt_le] at c1
    have c3 : f_netOf (dz z) m (t0 + v14) v3 - v7 < 0 := Int64.lt_iff_toInt_lt.mpr (by omega)
    by_cases c2 : z.2.2.1 10 ≤ nI m
    · rw [if_pos c2, if_neg (fun q => by
        have h1 := Int32.le_iff_toInt_le.mp c2
        have h2 : nI m < z.2.2.1 10 := q.2
        have h3 := Int32.lt_iff_toInt_lt.mp h2
        omega)]
      rfl
    · rw [if_neg c2, if_pos ⟨c3, by
        have h1 : ¬ (z.2.2.1 10).toInt ≤ (nI m).toInt := fun q => c2 (Int32.le_iff_toInt_le.mpr q)
        exact Int32.lt_iff_toInt_lt.mpr (by show (nI m).toInt < (z.2.2.1 10).toInt; omega)⟩]
      rfl
theorem zr_lay95 (z : zz_M) (h : zInv (dz z)) {m : Nat} (hm : m < 24) (k : Int64 → Int64 → Int64 → Int64 → Int32 → zz_M → Option (Unit × zz_M)) (v1 v5 v7 t0 a0 : Int64) (ha : (m = 0 ∧ a0 = 0) ∨ ∃ j, m = j + 1 ∧ a0 = z.2.1 12 j) : mX11_layMonths_b95 k v1 v5 v7 (nI m) (f_work (dz z) m) t0 z = k v1 t0 (f_work (dz z) m) (v7 + f_certOf (dz z) m (f_netOf (dz z) m (a0 + f_step (dz z) m v5) t0) v7) (nI (m + 1)) (zW5 z m t0 (a0 + f_step (dz z) m v5) (f_netOf (dz z) m (a0 + f_step (dz z) m v5) t0) (f_certOf (dz z) m (f_netOf (dz z) m (a0 + f_step (dz z) m v5) t0) v7) (v7 + f_certOf (dz z) m (f_netOf (dz z) m (a0 + f_step (dz z) m v5) t0) v7)) := by
  unfold mX11_layMonths_b95
  have h9 : zInv (dz (zz_wJ z 13 (nI m) t0)) := h
  rw [zz_ck_of (zq_k (n := 24) m hm (by decide)), zz_nm_s, zr_indexIn _ hm, zz_b1_s, zz_ck_of (by decide), zz_ck_of (zq_lit 13 14 (by decide) (by decide)), zr_th, zz_b1_s]
  have e := fun t => zr_lay161 (zz_wJ z 13 (nI m) t0) h9 hm k v1 t0 v7 (f_step (dz z) m v5) t
  rcases ha with ⟨rfl, rfl⟩ | ⟨j, rfl, rfl⟩
  · rw [if_pos (show nI 0 = (0 : Int32) from nI_0)]
    exact e 0
  · rw [if_neg (nI_ne0 (by omega) (by omega)), nI_pred, zz_ck_of (zq_k (n := 24) j (by omega) (by decide)), nI_clamp (by omega), zw_J_ne _ _ _ (show 12 ≠ 13 by decide)]
    exact e _
theorem zr_lay_step (z : zz_M) (h : zInv (dz z)) {m : Nat} (hm : m < 24) (f : Nat) (before ahead sum a0 : Int64) (ha : (m = 0 ∧ a0 = 0) ∨ ∃ j, m = j + 1 ∧ a0 = z.2.1 12 j) : mX11_layMonths_b25 (f + 1) (f_th (f_sum (dz z)) (d_tm (dz z) 4)) before ahead sum (nI m) z = mX11_layMonths_b25 f (f_th (f_sum (dz z)) (d_tm (dz z) 4)) (f_recB (dz z) m before) (f_work (dz z) m) (sum + f_certOf (dz z) m (f_netOf (dz z) m (a0 + f_step (dz z) m ahead) (f_recB (dz z) m before)) sum) (nI (m + 1)) (zW5 z m (f_recB (dz z) m before) (a0 + f_step (dz z) m ahead) (f_netOf (dz z) m (a0 + f_step (dz z) m ahead) (f_recB (dz z) m before)) (f_certOf (dz z) m (f_netOf (dz z) m (a0 + f_step (dz z) m ahead) (f_recB (dz z) m before)) sum) (sum + f_certOf (dz z) m (f_netOf (dz z) m (a0 + f_step (dz z) m ahead) (f_recB (dz z) m before)) sum)) := by
  rw [mX11_layMonths_b25, if_neg (show ¬ (24 : Int32) ≤ nI m from nI_ge hm (by decide)), zr_workIn z h hm, zz_b1_s, zr_advancedNow z h, zz_b1_s]
  have key : ∀ t0 : Int64, (if t0 < f_adv (dz z) then t0 else f_adv (dz z)) = f_rec0 (dz z) m → mX11_layMonths_b68 (mX11_layMonths_b25 f) (f_th (f_sum (dz z)) (d_tm (dz z) 4)) before ahead sum (nI m) (f_work (dz z) m) t0 (f_adv (dz z)) z = mX11_layMonths_b25 f (f_th (f_sum (dz z)) (d_tm (dz z) 4)) (f_recB (dz z) m before) (f_work (dz z) m) (sum + f_certOf (dz z) m (f_netOf (dz z) m (a0 + f_step (dz z) m ahead) (f_recB (dz z) m before)) sum) (nI (m + 1)) (zW5 z m (f_recB (dz z) m before) (a0 + f_step (dz z) m ahead) (f_netOf (dz z) m (a0 + f_step (dz z) m ahead) (f_recB (dz z) m before)) (f_certOf (dz z) m (f_netOf (dz z) m (a0 + f_step (dz z) m ahead) (f_recB (dz z) m before)) sum) (sum + f_certOf (dz z) m (f_netOf (dz z) m (a0 + f_step (dz z) m ahead) (f_recB (dz z) m before)) sum)) := by
    intro t0 e0
    unfold mX11_layMonths_b68
    rw [zz_nm_s, e0, zr_advancedNow z h, zz_b1_s, zr_lay95 z h hm _ _ _ _ _ a0 ha, zr_lay95 z h hm _ _ _ _ _ a0 ha]
    unfold f_recB
    by_cases c : nI m < z.2.2.1 10
    · rw [if_pos c, if_pos (show nI m < d_la (dz z) from c)]
    · rw [if_neg c, if_neg (show ¬ nI m < d_la (dz z) from c)]
  by_cases c : lg_cmp (f_work (dz z) m) (f_th (f_sum (dz z)) (d_tm (dz z) 4)) ≤ 0
  · rw [if_pos c]
    refine key 0 ?_
    rw [lg_cmp_le, Int64.le_iff_toInt_le] at c
    have c2 : ¬ f_th (f_sum (dz z)) (d_tm (dz z) 4) < f_work (dz z) m := fun q => by have := Int64.lt_iff_toInt_lt.mp q; omega
    unfold f_rec0
    rw [if_neg c2]
  · rw [if_neg c, zz_ck_of (zq_lit 5 14 (by decide) (by decide)), zr_th, zz_b1_s]
    refine key _ ?_
    rw [lg_cmp_le, Int64.le_iff_toInt_le] at c
    have c2 : f_th (f_sum (dz z)) (d_tm (dz z) 4) < f_work (dz z) m := Int64.lt_iff_toInt_lt.mpr (by omega)
    unfold f_rec0
    rw [if_pos c2]
    rfl
