/-! ===== amount, row: what both answer, and when they throw ===== -/
theorem B_amount {s t : zz_M} (h : zR s t) (x v : Int32) : ((0 ≤ x.toInt ∧ x.toInt ≤ 23) ∧ (0 ≤ v.toInt ∧ v.toInt ≤ 14) → ∃ r s' t', mX4_reckon 64 s = some ((), s') ∧ mX4_of 64 v x s' = some r ∧ mX11_amount x v t = some (r, t') ∧ t'.2.2.1 19 = 0 ∧ zR s' t') ∧ (¬ ((0 ≤ x.toInt ∧ x.toInt ≤ 23) ∧ (0 ≤ v.toInt ∧ v.toInt ≤ 14)) → ∃ r t', mX11_amount x v t = some (r, t') ∧ t'.2.2.1 19 = 1 ∧ zR s t') := by
  have h0 := zR_thr h 0
  have h19 : (zz_sF t 19 0).2.2.1 19 = 0 := zsF_at _ _ _
  unfold mX11_amount mX11_amount_b24 mX11_lost
  rw [zz_nm_s]
  generalize zz_sF t 19 0 = t0 at h0 h19 ⊢
  have hl : zR s (zz_sF t0 19 1) := zR_thr h0 1
  rw [zr_isMonth, zz_b1_s, zz_ti, zr_in32, zz_b1_s, zz_ti, zz_nm_s, zz_b2_s]
  constructor
  · rintro ⟨c1, c2⟩
    rw [if_pos c1, if_pos (show (0 : Int64).toInt ≤ v.toInt ∧ v.toInt ≤ (14 : Int64).toInt from c2)]
    obtain ⟨m, hm, rfl⟩ := zq_month c1
    obtain ⟨w, hw, rfl⟩ := zq_toNat (n := 14) c2.1 c2.2 (by decide)
    obtain ⟨s1, t1, A1, X1, h1, K, Y, hd⟩ := zR_both h0 (ff := 64) (Or.inl rfl)
    have F := K.fg
    have hin := zq_k m hm (show 24 < 2 ^ 31 by decide)
    have e19 : t1.2.2.1 19 = 0 := by rw [Y.2.1]; exact h19
    have hI1 : zInv (dz t1) := h1.2.1
    have Ym := Y.2.2.2 m hm
    have hof : mX4_of 64 (nI w) (nI m) s1 = some (f_fig (dz t0) (fun k => (d_pd (dz t0) k).toInt64) w m) := F.of w (by omega) hm
    refine ⟨_, s1, t1, A1, hof, ?_, e19, h1⟩
    rw [X1, zz_b2_s]
    have hw2 : w = 0 ∨ w = 1 ∨ w = 2 ∨ w = 3 ∨ w = 4 ∨ w = 5 ∨ w = 6 ∨ w = 7 ∨ w = 8 ∨ w = 9 ∨ w = 10 ∨ w = 11 ∨ w = 12 ∨ w = 13 ∨ w = 14 := by omega
    rcases hw2 with rfl | rfl | rfl | rfl | rfl | rfl | rfl | rfl | rfl | rfl | rfl | rfl | rfl | rfl | rfl
    · rw [if_pos (show nI 0 = (0 : Int32) from rfl), zr_workIn t1 hI1 hm, zz_b1_s, hd]
      rfl
    · rw [if_neg (show ¬ nI 1 = (0 : Int32) by decide), if_pos (show nI 1 = (1 : Int32) from rfl), zr_variedIn t1 hI1, zz_b1_s, hd]
      rfl
    · rw [if_neg (show ¬ nI 2 = (0 : Int32) by decide), if_neg (show ¬ nI 2 = (1 : Int32) by decide), if_pos (show nI 2 = (2 : Int32) from rfl), zr_materialsIn t1 hm, zz_b1_s, hd]
      rfl
    · rw [if_neg (show ¬ nI 3 = (0 : Int32) by decide), if_neg (show ¬ nI 3 = (1 : Int32) by decide), if_neg (show ¬ nI 3 = (2 : Int32) by decide), if_pos (show nI 3 = (3 : Int32) from rfl), zr_retainedIn t1 hI1 hm, zz_b1_s, hd]
      rfl
    · rw [if_neg (show ¬ nI 4 = (0 : Int32) by decide), if_neg (show ¬ nI 4 = (1 : Int32) by decide), if_neg (show ¬ nI 4 = (2 : Int32) by decide), if_neg (show ¬ nI 4 = (3 : Int32) by decide), if_pos (show nI 4 = (4 : Int32) from rfl), zz_ck_of hin, nI_clamp (by omega), Ym.2.1]
      rfl
    · rw [if_neg (show ¬ nI 5 = (0 : Int32) by decide), if_neg (show ¬ nI 5 = (1 : Int32) by decide), if_neg (show ¬ nI 5 = (2 : Int32) by decide), if_neg (show ¬ nI 5 = (3 : Int32) by decide), if_neg (show ¬ nI 5 = (4 : Int32) by decide), if_pos (show nI 5 = (5 : Int32) from rfl), zr_setIn t1 hI1, zz_b1_s, hd]
      rfl
    · rw [if_neg (show ¬ nI 6 = (0 : Int32) by decide), if_neg (show ¬ nI 6 = (1 : Int32) by decide), if_neg (show ¬ nI 6 = (2 : Int32) by decide), if_neg (show ¬ nI 6 = (3 : Int32) by decide), if_neg (show ¬ nI 6 = (4 : Int32) by decide), if_neg (show ¬ nI 6 = (5 : Int32) by decide), if_pos (show nI 6 = (6 : Int32) from rfl), zz_ck_of hin, nI_clamp (by omega), Ym.2.2.1]
      rfl
    · rw [if_neg (show ¬ nI 7 = (0 : Int32) by decide), if_neg (show ¬ nI 7 = (1 : Int32) by decide), if_neg (show ¬ nI 7 = (2 : Int32) by decide), if_neg (show ¬ nI 7 = (3 : Int32) by decide), if_neg (show ¬ nI 7 = (4 : Int32) by decide), if_neg (show ¬ nI 7 = (5 : Int32) by decide), if_neg (show ¬ nI 7 = (6 : Int32) by decide), if_pos (show nI 7 = (7 : Int32) from rfl), zz_ck_of hin, nI_clamp (by omega), Ym.2.2.2.1]
      rfl
    · rw [if_neg (show ¬ nI 8 = (0 : Int32) by decide), if_neg (show ¬ nI 8 = (1 : Int32) by decide), if_neg (show ¬ nI 8 = (2 : Int32) by decide), if_neg (show ¬ nI 8 = (3 : Int32) by decide), if_neg (show ¬ nI 8 = (4 : Int32) by decide), if_neg (show ¬ nI 8 = (5 : Int32) by decide), if_neg (show ¬ nI 8 = (6 : Int32) by decide), if_neg (show ¬ nI 8 = (7 : Int32) by decide), if_pos (show nI 8 = (8 : Int32) from rfl), zz_ck_of hin, nI_clamp (by omega), Ym.2.2.2.2.1]
      rfl
    · rw [if_neg (show ¬ nI 9 = (0 : Int32) by decide), if_neg (show ¬ nI 9 = (1 : Int32) by decide), if_neg (show ¬ nI 9 = (2 : Int32) by decide), if_neg (show ¬ nI 9 = (3 : Int32) by decide), if_neg (show ¬ nI 9 = (4 : Int32) by decide), if_neg (show ¬ nI 9 = (5 : Int32) by decide), if_neg (show ¬ nI 9 = (6 : Int32) by decide), if_neg (show ¬ nI 9 = (7 : Int32) by decide), if_neg (show ¬ nI 9 = (8 : Int32) by decide), if_pos (show nI 9 = (9 : Int32) from rfl), zz_ck_of hin, nI_clamp (by omega), Ym.2.2.2.2.2.1]
      rfl
    · rw [if_neg (show ¬ nI 10 = (0 : Int32) by decide), if_neg (show ¬ nI 10 = (1 : Int32) by decide), if_neg (show ¬ nI 10 = (2 : Int32) by decide), if_neg (show ¬ nI 10 = (3 : Int32) by decide), if_neg (show ¬ nI 10 = (4 : Int32) by decide), if_neg (show ¬ nI 10 = (5 : Int32) by decide), if_neg (show ¬ nI 10 = (6 : Int32) by decide), if_neg (show ¬ nI 10 = (7 : Int32) by decide), if_neg (show ¬ nI 10 = (8 : Int32) by decide), if_neg (show ¬ nI 10 = (9 : Int32) by decide), if_pos (show nI 10 = (10 : Int32) from rfl), zz_ck_of hin, nI_clamp (by omega), Ym.2.2.2.2.2.2]
      rfl
    · rw [if_neg (show ¬ nI 11 = (0 : Int32) by decide), if_neg (show ¬ nI 11 = (1 : Int32) by decide), if_neg (show ¬ nI 11 = (2 : Int32) by decide), if_neg (show ¬ nI 11 = (3 : Int32) by decide), if_neg (show ¬ nI 11 = (4 : Int32) by decide), if_neg (show ¬ nI 11 = (5 : Int32) by decide), if_neg (show ¬ nI 11 = (6 : Int32) by decide), if_neg (show ¬ nI 11 = (7 : Int32) by decide), if_neg (show ¬ nI 11 = (8 : Int32) by decide), if_neg (show ¬ nI 11 = (9 : Int32) by decide), if_neg (show ¬ nI 11 = (10 : Int32) by decide), if_pos (show nI 11 = (11 : Int32) from rfl), zr_interestTill t1 (fun j hj => (Y.2.2.2 j hj).2.2.2.2.2.2) hm, zz_b1_s]
      rfl
    · rw [if_neg (show ¬ nI 12 = (0 : Int32) by decide), if_neg (show ¬ nI 12 = (1 : Int32) by decide), if_neg (show ¬ nI 12 = (2 : Int32) by decide), if_neg (show ¬ nI 12 = (3 : Int32) by decide), if_neg (show ¬ nI 12 = (4 : Int32) by decide), if_neg (show ¬ nI 12 = (5 : Int32) by decide), if_neg (show ¬ nI 12 = (6 : Int32) by decide), if_neg (show ¬ nI 12 = (7 : Int32) by decide), if_neg (show ¬ nI 12 = (8 : Int32) by decide), if_neg (show ¬ nI 12 = (9 : Int32) by decide), if_neg (show ¬ nI 12 = (10 : Int32) by decide), if_neg (show ¬ nI 12 = (11 : Int32) by decide), if_pos (show nI 12 = (12 : Int32) from rfl), zr_paidTill t1 hm, zz_b1_s, hd]
      rfl
    · rw [if_neg (show ¬ nI 13 = (0 : Int32) by decide), if_neg (show ¬ nI 13 = (1 : Int32) by decide), if_neg (show ¬ nI 13 = (2 : Int32) by decide), if_neg (show ¬ nI 13 = (3 : Int32) by decide), if_neg (show ¬ nI 13 = (4 : Int32) by decide), if_neg (show ¬ nI 13 = (5 : Int32) by decide), if_neg (show ¬ nI 13 = (6 : Int32) by decide), if_neg (show ¬ nI 13 = (7 : Int32) by decide), if_neg (show ¬ nI 13 = (8 : Int32) by decide), if_neg (show ¬ nI 13 = (9 : Int32) by decide), if_neg (show ¬ nI 13 = (10 : Int32) by decide), if_neg (show ¬ nI 13 = (11 : Int32) by decide), if_neg (show ¬ nI 13 = (12 : Int32) by decide), if_pos (show nI 13 = (13 : Int32) from rfl), zr_damagesIn t1 hI1, zz_b1_s, hd]
      rfl
    · rw [if_neg (show ¬ nI 14 = (0 : Int32) by decide), if_neg (show ¬ nI 14 = (1 : Int32) by decide), if_neg (show ¬ nI 14 = (2 : Int32) by decide), if_neg (show ¬ nI 14 = (3 : Int32) by decide), if_neg (show ¬ nI 14 = (4 : Int32) by decide), if_neg (show ¬ nI 14 = (5 : Int32) by decide), if_neg (show ¬ nI 14 = (6 : Int32) by decide), if_neg (show ¬ nI 14 = (7 : Int32) by decide), if_neg (show ¬ nI 14 = (8 : Int32) by decide), if_neg (show ¬ nI 14 = (9 : Int32) by decide), if_neg (show ¬ nI 14 = (10 : Int32) by decide), if_neg (show ¬ nI 14 = (11 : Int32) by decide), if_neg (show ¬ nI 14 = (12 : Int32) by decide), if_neg (show ¬ nI 14 = (13 : Int32) by decide), zz_ck_of hin, nI_clamp (by omega), Ym.1]
      rfl
  · intro c
    by_cases c1 : 0 ≤ x.toInt ∧ x.toInt ≤ 23
    · rw [if_pos c1, if_neg (show ¬ ((0 : Int64).toInt ≤ v.toInt ∧ v.toInt ≤ (14 : Int64).toInt) from fun q => c ⟨c1, q⟩)]
      exact ⟨_, _, rfl, zsF_at _ _ _, hl⟩
    · rw [if_neg c1]
      exact ⟨_, _, rfl, zsF_at _ _ _, hl⟩
theorem B_row {s t : zz_M} (h : zR s t) (x : Int32) : (¬ x < 0 ∧ x < s.2.2.1 6337 → zz_in x 5 ∧ ∃ t', mX11_row x t = some (s.2.1 100 x.toNatClampNeg, t') ∧ t'.2.2.1 19 = 0 ∧ zR s t') ∧ (¬ (¬ x < 0 ∧ x < s.2.2.1 6337) → ∃ r t', mX11_row x t = some (r, t') ∧ t'.2.2.1 19 = 1 ∧ zR s t') := by
  have h0 := zR_thr h 0
  have h19 : (zz_sF t 19 0).2.2.1 19 = 0 := zsF_at _ _ _
  unfold mX11_row mX11_row_b35 mX11_lost
  rw [zz_nm_s]
  generalize zz_sF t 19 0 = t0 at h0 h19 ⊢
  have hl : zR s (zz_sF t0 19 1) := zR_thr h0 1
  obtain ⟨n, hn, e1, e2, e3⟩ := h0.2.2.2
  rw [zr_in_n x (n := n) (by omega) e2, zz_b1_s, zz_ti, zz_nm_s, zz_b2_s, e1]
  have e0 : (0 : Int32).toInt = 0 := rfl
  have en : (nI n).toInt = n := nI_toInt (by omega)
  have hc : (¬ x < 0 ∧ x < nI n) ↔ (0 ≤ x.toInt ∧ x.toInt < n) := by
    rw [Int32.lt_iff_toInt_lt, Int32.lt_iff_toInt_lt, e0, en]
    omega
  rw [hc]
  constructor
  · intro c
    obtain ⟨k, hk, rfl⟩ := zq_of_in c.1 c.2 (by omega)
    rw [if_pos c, zz_ck_of (zq_k k (show k < 32 by omega) (by decide))]
    refine ⟨zq_k k (by omega) (by decide), t0, ?_, h19, h0⟩
    rw [nI_clamp (by omega), e3 k hk]
  · intro c
    rw [if_neg c]
    exact ⟨_, _, rfl, zsF_at _ _ _, hl⟩
