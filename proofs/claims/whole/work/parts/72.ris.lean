/-! ===== as if a series told: rises, shifts ===== -/
theorem f_told_at {g : Nat → Int32} {s : zz_M} {k : Nat} {w : Int32} (h : zSer s k g w) {m : Nat} (hm : m < 24) : s.1 (16 + 3 * k + 1) m = f_told (g m) := (h.1 m hm).1
/-- both sides reckon, tell a number of a series, reckon, and put back; D is the data with the number told -/
theorem zc_asIfTold {s : zz_M} {d D : zD} (hC : zC s d) (hI : zInv d) {k : Nat} {g : Nat → Int32} {w : Int32} {m : Nat} (hm : m < 24) (hk : 2 < 16 + 3 * k + 1) {v : Int32} (hv : v ≠ -1) (hv9 : v ≠ -9999) (hg : ∀ j, j < 24 → g j ≠ -1) (S1 : ∀ z, zC z d → zSer z k g w) (S2 : ∀ z, zC z D → zSer z k (upd g m v) w) (ID : zInv D)
    (U1 : ∀ z z', zC z d → zSer z' k (upd g m v) w → z'.2 = z.2 → (∀ q, q ≠ 16 + 3 * k + 1 → q ≠ 16 + 3 * k + 2 → z'.1 q = z.1 q) → zC z' D)
    (U2 : ∀ z z', zC z D → zSer z' k (upd (upd g m v) m (g m)) w → z'.2 = z.2 → (∀ q, q ≠ 16 + 3 * k + 1 → q ≠ 16 + 3 * k + 2 → z'.1 q = z.1 q) → zC z' d) :
    ∃ s4, mX10_reckonAsIfTold k (nI m) v s = some ((), s4) ∧ zC s4 d ∧ zFg 64 d (fun k => (d_pd d k).toInt64) s4 ∧ zFg 81 D (fun k => (d_pd D k).toInt64) s4 ∧ s4.2.2 = s.2.2 ∧ s4.1 2 = s.1 2 := by
  obtain ⟨s1, a1, k1⟩ := zc_reckon (ff := 64) (Or.inl rfl) hC hI
  have C1 := zC_rk hC (Or.inl rfl) k1
  obtain ⟨s2, a2, b2, c2, e2⟩ := zc_tell (S1 s1 C1) hg hm hv
  have C2 := U1 s1 s2 C1 b2 c2 e2
  obtain ⟨s3, a3, k3⟩ := zc_reckon (ff := 81) (Or.inr rfl) C2 ID
  have C3 := zC_rk C2 (Or.inr rfl) k3
  have hg' : ∀ j, j < 24 → upd g m v j ≠ -1 := by
    intro j hj
    by_cases q : j = m
    · subst q; rw [upd_at]; exact hv
    · rw [upd_off _ _ q]; exact hg j hj
  obtain ⟨s4, a4, b4, c4, e4⟩ := zc_tell (S2 s3 C3) hg' hm (hg m hm)
  have C4 := U2 s3 s4 C3 b4 c4 e4
  refine ⟨s4, ?_, C4, ((k1.fg.eq (z1 := s2) (by rw [c2])).rk k3).eq (by rw [c4]), k3.fg.eq (by rw [c4]), ?_, ?_⟩
  · unfold mX10_reckonAsIfTold
    rw [zz_ck_of (zq_k m hm (by decide)), zz_nm_s, a1, zz_b2_s, nI_clamp (by omega), f_told_at (S1 s hC) hm]
    rw [show f_told v = v by unfold f_told; rw [if_neg hv9]] at a2
    rw [a2, zz_b2_s, a3, zz_b2_s, a4, zz_b2_s]
  · rw [c4, k3.2.1, c2, k1.2.1]
  · rw [e4 2 (by omega) (by omega), k3.1, e2 2 (by omega) (by omega), k1.1]
theorem upd_back (f : Nat → Int32) (m : Nat) (v : Int32) : upd (upd f m v) m (f m) = f := by
  funext j
  by_cases e : j = m
  · subst e; rw [upd_at]
  · rw [upd_off _ _ e, upd_off _ _ e]
theorem B_rises {s t : zz_M} (h : zR s t) (x v : Int32) : zOk (mX10_rises x v s) (mX11_rises x v t) := by
  have h0 := zR_thr h 0
  unfold mX10_rises mX11_rises
  rw [zz_nm_s]
  generalize zz_sF t 19 0 = t0 at h0 ⊢
  obtain ⟨hC, hI, hT, hW⟩ := id h0
  rw [zc_isIndex, zr_isIndex, zz_b1_s, zz_b1_s]
  refine zOk_tst Iff.rfl (fun c => ?_) (fun c => zOk_ret h0)
  obtain ⟨c, cv⟩ := c
  obtain ⟨m, hm, rfl⟩ := zq_month c
  have hin := zq_k m hm (show 24 < 2 ^ 31 by decide)
  have i23 := zq_lit 23 24 (by decide) (by decide)
  obtain ⟨k, hk, rfl⟩ := zq_toNat (n := 2000) (x := v) (by omega) cv.2 (by decide)
  rw [nI_toInt (by omega)] at cv
  obtain ⟨t1, x1, y1⟩ := zr_layAside t0 hI
  have hd1 := y1.d
  have hd2 : dz (zz_wI t1 7 (nI m) (nI k)) = d_wix (dz t0) (upd (d_ix (dz t0)) m (nI k)) := by rw [dz_wI7 t1 hm, hd1]
  have ID : zInv (d_wix (dz t0) (upd (d_ix (dz t0)) m (nI k))) := zInv_ix hI (Or.inr ⟨k, by omega, by omega, rfl⟩)
  have ID2 : zInv (dz (zz_wI t1 7 (nI m) (nI k))) := by rw [hd2]; exact ID
  obtain ⟨t3, x3, y3⟩ := zr_layMonths (zz_wI t1 7 (nI m) (nI k)) ID2
  obtain ⟨s4, a4, C4, F4, G4, e4, g4⟩ := zc_asIfTold (D := d_wix (dz t0) (upd (d_ix (dz t0)) m (nI k))) hC hI (k := 11) (g := d_ix (dz t0)) (w := 1000) hm (by omega) (nI_not1 (show k < 2 ^ 31 by omega)) (nI_not9 (show k < 2 ^ 31 by omega)) (zi_ix1 hI) (fun z hz => hz.1.2.2.1.2.2) (fun z hz => hz.1.2.2.1.2.2) ID (fun z z' hz q1 q2 q3 => zC_wix hz q1 q2 q3) (fun z z' hz q1 q2 q3 => by
    have := zC_wix hz q1 q2 q3
    rw [upd_back] at this
    exact this)
  obtain ⟨s5, a5, b5⟩ := zc_start s4 (f_tot (d_wix (dz t0) (upd (d_ix (dz t0)) m (nI k))) 23 - f_tot (dz t0) 23)
  obtain ⟨s6, a6, b6⟩ := zc_then b5 (by simp) (f_adj (d_wix (dz t0) (upd (d_ix (dz t0)) m (nI k))) 23 - f_adj (dz t0) 23)
  have q0 := zr_row0 (zz_wI t3 7 (nI m) (t0.1 7 m))
  obtain ⟨u1, x4, y4⟩ := zr_tell q0 (by simp) (f_tot (d_wix (dz t0) (upd (d_ix (dz t0)) m (nI k))) 23 - f_tot (dz t0) 23)
  obtain ⟨u2, x5, y5⟩ := zr_tell y4 (by simp) (f_adj (d_wix (dz t0) (upd (d_ix (dz t0)) m (nI k))) 23 - f_adj (dz t0) 23)
  have e1 := zc_moreAsIf F4 G4 8 (by omega) (m := 23) (by omega)
  have e2 := zc_moreAsIf (F4.row (Or.inl rfl) b5) (G4.row (Or.inr rfl) b5) 14 (by omega) (m := 23) (by omega)
  rw [show nI 23 = (23 : Int32) from rfl] at e1 e2
  rw [a4, zz_b2_s, e1, zz_b1_s, show f_fig (d_wix (dz t0) (upd (d_ix (dz t0)) m (nI k))) (fun k_1 => (d_pd (d_wix (dz t0) (upd (d_ix (dz t0)) m (nI k))) k_1).toInt64) 8 23 - f_fig (dz t0) (fun k => (d_pd (dz t0) k).toInt64) 8 23 = f_tot (d_wix (dz t0) (upd (d_ix (dz t0)) m (nI k))) 23 - f_tot (dz t0) 23 from rfl, a5, zz_b2_s, e2, zz_b1_s, show f_fig (d_wix (dz t0) (upd (d_ix (dz t0)) m (nI k))) (fun k_1 => (d_pd (d_wix (dz t0) (upd (d_ix (dz t0)) m (nI k))) k_1).toInt64) 14 23 - f_fig (dz t0) (fun k => (d_pd (dz t0) k).toInt64) 14 23 = f_adj (d_wix (dz t0) (upd (d_ix (dz t0)) m (nI k))) 23 - f_adj (dz t0) 23 from rfl, a6, zz_b2_s]
  have w16 : (zz_sF (zz_wI t3 7 (nI m) (t0.1 7 m)) 18 0).2.1 16 23 = f_tot (d_wix (dz t0) (upd (d_ix (dz t0)) m (nI k))) 23 := by
    show t3.2.1 16 23 = _
    rw [← hd2]
    exact (y3.2.2.2 23 (by omega)).2.2.2.2.1
  have w33 : (zz_sF (zz_wI t3 7 (nI m) (t0.1 7 m)) 18 0).2.2.2 33 = f_tot (dz t0) 23 := by
    show t3.2.2.2 33 = _
    rw [y3.2.1]
    exact y1.2.2.2.2.1
  have w12 : u1.2.1 12 23 = f_adj (d_wix (dz t0) (upd (d_ix (dz t0)) m (nI k))) 23 := by
    rw [y4.2.2.1 12 (by omega)]
    show t3.2.1 12 23 = _
    rw [← hd2]
    exact (y3.2.2.2 23 (by omega)).1
  rw [zz_ck_of hin, zz_nm_s, x1, zz_b2_s, zz_ck_of i23, zz_nm_s, zz_ck_of hin, zz_nm_s, x3, zz_b2_s, zz_ck_of hin, zz_nm_s, zz_nm_s]
  simp only [zz_ck_of i23, zq_clit (show 23 < 2 ^ 31 by decide), nI_clamp (show m < 2 ^ 31 by omega)]
  rw [w16, w33, x4, zz_b2_s, w12, y1.2.2.2.2.2.2, x5, zz_b2_s]
  have hd3 : dz (zz_wI t3 7 (nI m) (t0.1 7 m)) = dz t0 := by
    rw [dz_wI7 t3 hm, dz_eq y3.1 y3.2.1, hd2]
    have : upd (d_ix (d_wix (dz t0) (upd (d_ix (dz t0)) m (nI k)))) m (t0.1 7 m) = d_ix (dz t0) := upd_back (d_ix (dz t0)) m (nI k)
    rw [this]
    rfl
  have hd5 : dz u2 = dz t0 := y5.d.trans hd3
  refine zOk_ret (zR_fin h0 (by rw [hd5]; exact b6.c C4) (by rw [hd5]; exact hI) ?_ ?_ ?_ ?_ (by simp) b6.2.2.2.2.1 b6.2.2.2.2.2 y5.2.2.2.2.1 y5.2.2.2.2.2)
  · rw [b6.2.2.2.1 65 (by omega), e4]
  · rw [b6.1, g4]
  · rw [y5.2.2.2.1 16 (by omega)]
    show t3.2.2.1 16 = _
    rw [y3.2.1]
    show t1.2.2.1 16 = _
    rw [y1.2.1]
  · rw [y5.1, zw_I_ne _ _ _ (by omega), y3.1, zw_I_ne _ _ _ (by omega), y1.1]
/-- the months whose certificate is another: both sides go down -/
theorem J_shifts {s t : zz_M} (hX : ∀ s5 t5, ∀ L : List Int64, zCr s s5 L → zTr t t5 L → L.length ≤ 5 → zR s5 t5) {d D : zD} {P P' : Nat → Int64} (F : zFg 64 d P s) (G : zFg 81 D P' s) (h15 : ∀ j, j < 24 → t.2.1 15 j = f_cert D j) (h20 : ∀ j, j < 24 → t.2.1 20 j = f_cert d j) (h16 : t.2.1 16 23 = f_tot D 23) (h33 : t.2.2.2 33 = f_tot d 23) : ∀ (i fuel : Nat) (first many : Int32), (first = -1 ∨ ∃ k : Nat, k < 24 ∧ first = nI k) → i ≤ 24 → i < fuel → zOk (mX10_shifts_b37 fuel first many (nI i + (-1 : Int32)) s) (mX11_shifts_b69 fuel many first (nI i + (-1 : Int32)) t) := by
  intro i
  induction i with
  | zero =>
    intro fuel first many hfi _ hf
    obtain ⟨f, rfl⟩ : ∃ f, fuel = f + 1 := ⟨fuel - 1, by omega⟩
    have key : ∀ (x : Int64) {s1 t1 : zz_M}, zCr s s1 [first.toInt64] → zTr t t1 [first.toInt64] → zOk (mX10_shifts_b109 many x s1) (mX11_shifts_b146 many x t1) := by
      intro x s1 t1 b1 y1
      obtain ⟨s2, a2, b2⟩ := zc_then b1 (by simp) x
      obtain ⟨s3, a3, b3⟩ := zc_then b2 (by simp) (f_tot D 23 - f_tot d 23)
      obtain ⟨t2, x2, y2⟩ := zr_tell y1 (by simp) x
      obtain ⟨t3, x3, y3⟩ := zr_tell y2 (by simp) (f_tot D 23 - f_tot d 23)
      have e1 := zc_moreAsIf (F.row (Or.inl rfl) b2) (G.row (Or.inr rfl) b2) 8 (by omega) (m := 23) (by omega)
      rw [show nI 23 = (23 : Int32) from rfl] at e1
      unfold mX10_shifts_b109 mX11_shifts_b146
      rw [a2, zz_b2_s, e1, zz_b1_s, show f_fig D P' 8 23 - f_fig d P 8 23 = f_tot D 23 - f_tot d 23 from rfl, a3, zz_b2_s, x2, zz_b2_s, zz_ck_of (zq_lit 23 24 (by decide) (by decide)), zq_clit (k := 23) (by decide), y2.2.2.1 16 (by omega), h16, y2.2.1, h33, x3, zz_b2_s]
      exact zOk_ret (hX _ _ _ b3 y3 (by simp))
    obtain ⟨s1, a1, b1⟩ := zc_start s first.toInt64
    have q0 := zr_row0 t
    obtain ⟨t1, x1, y1⟩ := zr_tell q0 (by simp) first.toInt64
    unfold mX10_shifts_b37 mX11_shifts_b69
    rw [nI_neg1, if_pos (show (-1 : Int32) < 0 by decide), if_pos (show (-1 : Int32) < 0 by decide), a1, zz_b2_s, zz_nm_s, x1, zz_b2_s]
    rcases hfi with e | ⟨k, hk, e⟩
    · rw [if_pos e, if_pos e]
      exact key 0 b1 y1
    · have hne : ¬ first = -1 := by rw [e]; exact nI_not1 (by omega)
      have e1 := zc_moreAsIf (F.row (Or.inl rfl) b1) (G.row (Or.inr rfl) b1) 7 (by omega) hk
      have hin := zq_k k hk (show 24 < 2 ^ 31 by decide)
      rw [if_neg hne, if_neg hne, e, e1, zz_b1_s, zz_ck_of hin, zz_ck_of hin, nI_clamp (by omega), y1.2.2.1 15 (by omega), y1.2.2.1 20 (by omega), h15 k hk, h20 k hk, show f_fig D P' 7 k - f_fig d P 7 k = f_cert D k - f_cert d k from rfl]
      exact key _ b1 y1
  | succ i ih =>
    intro fuel first many hfi hi hf
    obtain ⟨f, rfl⟩ : ∃ f, fuel = f + 1 := ⟨fuel - 1, by omega⟩
    have hi' : i < 24 := by omega
    have hin := zq_k i hi' (show 24 < 2 ^ 31 by decide)
    have e81 := G.of 7 (by omega) hi'
    have e64 := F.of 7 (by omega) hi'
    unfold mX10_shifts_b37 mX11_shifts_b69 mX10_shifts_b75 mX11_shifts_b102
    rw [zq_pred, if_neg (nI_nn (by omega)), if_neg (nI_nn (by omega)), e81, e64, zz_b1_s, zz_b1_s, zz_ck_of hin, zz_ck_of hin, nI_clamp (by omega), h15 i hi', h20 i hi', zz_nm_s, zz_nm_s, zz_nm_s, zz_nm_s, zz_nm_s, zz_nm_s]
    exact zOk_if Iff.rfl (fun _ => ih f first many hfi (by omega) (by omega)) (fun _ => ih f (nI i) (many + 1) (Or.inr ⟨i, hi', rfl⟩) (by omega) (by omega))
theorem B_shifts {s t : zz_M} (h : zR s t) (x i v : Int32) : zOk (mX10_shifts x i v s) (mX11_shifts x i v t) := by
  have h0 := zR_thr h 0
  unfold mX10_shifts mX11_shifts
  rw [zz_nm_s]
  generalize zz_sF t 19 0 = t0 at h0 ⊢
  obtain ⟨hC, hI, hT, hW⟩ := id h0
  obtain ⟨n, hn, en, en', ec⟩ := zR_n h0
  rw [zc_isMeasure s x i v (by omega) en', zr_isMeasure t0 x i v (by omega) en, zz_b1_s, zz_b1_s]
  refine zOk_tst Iff.rfl (fun c => ?_) (fun c => zOk_ret h0)
  obtain ⟨c, ci, cv⟩ := c
  obtain ⟨m, hm, rfl⟩ := zq_month c
  obtain ⟨i, hi, rfl⟩ := zq_of_in ci.1 ci.2 (by omega)
  obtain ⟨k, hk, rfl⟩ := zq_toNat (n := 1999) (x := v) cv.1 cv.2 (by decide)
  have hi' : i < 10 := by omega
  have hin := zq_k (10 * m + i) (show 10 * m + i < 240 by omega) (show 240 < 2 ^ 31 by decide)
  obtain ⟨t1, x1, y1⟩ := zr_layAside t0 hI
  have hd1 := y1.d
  have hd2 : dz (zz_wI t1 3 (nI (10 * m + i)) (nI k)) = d_wms (dz t0) (upd (d_ms (dz t0)) (10 * m + i) (nI k)) := by rw [dz_wI3 t1 (by omega), hd1]
  have ID : zInv (d_wms (dz t0) (upd (d_ms (dz t0)) (10 * m + i) (nI k))) := zInv_ms hI (by omega) hi' (Or.inr ⟨k, by omega, rfl⟩)
  have ID2 : zInv (dz (zz_wI t1 3 (nI (10 * m + i)) (nI k))) := by rw [hd2]; exact ID
  obtain ⟨t3, x3, y3⟩ := zr_layMonths (zz_wI t1 3 (nI (10 * m + i)) (nI k)) ID2
  have gu : (fun j => d_ms (d_wms (dz t0) (upd (d_ms (dz t0)) (10 * m + i) (nI k))) (10 * j + i)) = upd (fun j => d_ms (dz t0) (10 * j + i)) m (nI k) := by
    funext j
    show upd (d_ms (dz t0)) (10 * m + i) (nI k) (10 * j + i) = _
    by_cases q : j = m
    · subst q; rw [upd_at, upd_at]
    · rw [upd_off _ _ q, upd_off _ _ (by omega)]
  obtain ⟨s4, a4, C4, F4, G4, e4, g4⟩ := zc_asIfTold (D := d_wms (dz t0) (upd (d_ms (dz t0)) (10 * m + i) (nI k))) hC hI (k := i) (g := fun j => d_ms (dz t0) (10 * j + i)) (w := 0) hm (by omega) (nI_not1 (show k < 2 ^ 31 by omega)) (nI_not9 (show k < 2 ^ 31 by omega)) (zi_ms1 hI hi') (fun z hz => hz.1.2.2.1.1 i hi') (fun z hz => by rw [← gu]; exact hz.1.2.2.1.1 i hi') ID (fun z z' hz q1 q2 q3 => zC_wms hz hi' q1 q2 q3) (fun z z' hz q1 q2 q3 => by
    rw [← gu] at q1
    have := zC_wms hz hi' q1 q2 q3
    have e : d_wms (d_wms (dz t0) (upd (d_ms (dz t0)) (10 * m + i) (nI k))) (upd (d_ms (d_wms (dz t0) (upd (d_ms (dz t0)) (10 * m + i) (nI k)))) (10 * m + i) (d_ms (dz t0) (10 * m + i))) = dz t0 := by
      have e1 : upd (d_ms (d_wms (dz t0) (upd (d_ms (dz t0)) (10 * m + i) (nI k)))) (10 * m + i) (d_ms (dz t0) (10 * m + i)) = d_ms (dz t0) := upd_back (d_ms (dz t0)) (10 * m + i) (nI k)
      rw [e1]
      rfl
    rw [e] at this
    exact this)
  rw [zz_ck_of (zq_k i hi' (by decide)), nI_clamp (show i < 2 ^ 31 by omega), a4, zz_b2_s, zq_10, zz_nm_s, zz_ck_of hin, zz_nm_s, x1, zz_b2_s, zz_ck_of hin, zz_nm_s, x3, zz_b2_s, zz_ck_of hin, zz_nm_s, nI_clamp (show 10 * m + i < 2 ^ 31 by omega)]
  have hd3 : dz (zz_wI t3 3 (nI (10 * m + i)) (t0.1 3 (10 * m + i))) = dz t0 := by
    rw [dz_wI3 t3 (by omega), dz_eq y3.1 y3.2.1, hd2]
    have : upd (d_ms (d_wms (dz t0) (upd (d_ms (dz t0)) (10 * m + i) (nI k)))) (10 * m + i) (t0.1 3 (10 * m + i)) = d_ms (dz t0) := upd_back (d_ms (dz t0)) (10 * m + i) (nI k)
    rw [this]
    rfl
  have h4 : zR s4 (zz_wI t3 3 (nI (10 * m + i)) (t0.1 3 (10 * m + i))) ∨ True := Or.inr trivial
  have hX : ∀ s5 t5, ∀ L : List Int64, zCr s4 s5 L → zTr (zz_wI t3 3 (nI (10 * m + i)) (t0.1 3 (10 * m + i))) t5 L → L.length ≤ 5 → zR s5 t5 := by
    intro s5 t5 L b y hl
    have hd5 : dz t5 = dz t0 := y.d.trans hd3
    refine zR_fin h0 (by rw [hd5]; exact b.c C4) (by rw [hd5]; exact hI) ?_ ?_ ?_ ?_ hl b.2.2.2.2.1 b.2.2.2.2.2 y.2.2.2.2.1 y.2.2.2.2.2
    · rw [b.2.2.2.1 65 (by omega), e4]
    · rw [b.1, g4]
    · rw [y.2.2.2.1 16 (by omega)]
      show t3.2.2.1 16 = _
      rw [y3.2.1]
      show t1.2.2.1 16 = _
      rw [y1.2.1]
    · rw [y.1, zw_I_ne _ _ _ (by omega), y3.1, zw_I_ne _ _ _ (by omega), y1.1]
  have := J_shifts hX F4 G4 (fun j hj => by rw [← hd2]; exact (y3.2.2.2 j hj).2.2.2.1) (fun j hj => by
    show t3.2.1 20 j = _
    rw [y3.2.2.1 20 (by omega)]
    exact y1.2.2.2.1 j hj) (by rw [← hd2]; exact (y3.2.2.2 23 (by omega)).2.2.2.2.1) (by
    show t3.2.2.2 33 = _
    rw [y3.2.1]
    exact y1.2.2.2.2.1) 24 zz_N (-1) 0 (Or.inl rfl) (Nat.le_refl _) (by unfold zz_N; omega)
  rw [show nI 24 + (-1 : Int32) = 23 by decide] at this
  exact this
