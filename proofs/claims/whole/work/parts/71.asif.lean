/-! ===== as if it were told: would, rises, were, shifts ===== -/
def zAs (d : zD) (t t1 : zz_M) (m : Nat) : Prop := t1.1 = t.1 ∧ t1.2.2 = t.2.2 ∧ (∀ q, q ≠ 20 → t1.2.1 q = t.2.1 q) ∧ ∀ j, j < m → t1.2.1 20 j = f_cert d j
theorem zr_layAside_b6 {d : zD} {t : zz_M} (h15 : ∀ j, j < 24 → t.2.1 15 j = f_cert d j) (h16 : t.2.1 16 23 = f_tot d 23) (h18 : ∀ j, j < 24 → t.2.1 18 j = f_int d j) : ∀ (j i fuel : Nat) (t1 : zz_M), i + j = 24 → j < fuel → zAs d t t1 i → ∃ t2, mX11_layAside_b6 fuel (nI i) t1 = some ((), t2) ∧ t2.1 = t.1 ∧ t2.2.2.1 = t.2.2.1 ∧ (∀ q, q ≠ 20 → t2.2.1 q = t.2.1 q) ∧ (∀ j, j < 24 → t2.2.1 20 j = f_cert d j) ∧ t2.2.2.2 33 = f_tot d 23 ∧ t2.2.2.2 34 = f_acc (fun k => f_int d k) 0 24 := by
  intro j
  induction j with
  | zero =>
    intro i fuel t1 hi hf h
    obtain ⟨f, rfl⟩ : ∃ f, fuel = f + 1 := ⟨fuel - 1, by omega⟩
    have : i = 24 := by omega
    subst this
    obtain ⟨a1, a2, a3, a4⟩ := h
    have g18 : ∀ j, j < 24 → (zz_sG t1 33 (t1.2.1 16 23)).2.1 18 j = f_int d j := fun j hj => by
      show t1.2.1 18 j = _
      rw [a3 18 (by omega)]
      exact h18 j hj
    have g16 : t1.2.1 16 23 = f_tot d 23 := by rw [a3 16 (by omega)]; exact h16
    refine ⟨zz_sG (zz_sG t1 33 (t1.2.1 16 23)) 34 (f_acc (fun k => f_int d k) 0 24), ?_, a1, by show t1.2.2.1 = _; rw [a2], a3, a4, ?_, rfl⟩
    · unfold mX11_layAside_b6
      rw [if_pos (show (24 : Int32) ≤ nI 24 by decide), zz_ck_of (zq_lit 23 24 (by decide) (by decide)), zz_nm_s, zq_clit (k := 23) (by decide), zr_interestAll _ g18, zz_b1_s, zz_nm_s]
    · show t1.2.1 16 23 = _
      exact g16
  | succ j ih =>
    intro i fuel t1 hi hf h
    obtain ⟨f, rfl⟩ : ∃ f, fuel = f + 1 := ⟨fuel - 1, by omega⟩
    have hi' : i < 24 := by omega
    obtain ⟨a1, a2, a3, a4⟩ := h
    have g : t1.2.1 15 i = f_cert d i := by rw [a3 15 (by omega)]; exact h15 i hi'
    have h2 : zAs d t (zz_wJ t1 20 (nI i) (f_cert d i)) (i + 1) := by
      refine ⟨a1, a2, fun q hq => by rw [zw_J_ne _ _ _ hq]; exact a3 q hq, fun k hk => ?_⟩
      by_cases e : k = i
      · subst e; rw [zw_J_same _ _ _ _ (by omega)]
      · rw [zw_J_off _ _ _ (by omega) e]; exact a4 k (by omega)
    obtain ⟨t2, e2, r2⟩ := ih (i + 1) f _ (by omega) (by omega) h2
    refine ⟨t2, ?_, r2⟩
    unfold mX11_layAside_b6
    have hk := zq_k i hi' (show 24 < 2 ^ 31 by decide)
    rw [if_neg (show ¬ (24 : Int32) ≤ nI i from nI_ge hi' (by decide)), zz_ck_of hk, zz_ck_of hk, zz_nm_s, zz_nm_s, nI_clamp (by omega), g, nI_1]
    exact e2
/-- the months laid aside -/
def zSd (d : zD) (t t2 : zz_M) : Prop := t2.1 = t.1 ∧ t2.2.2.1 = t.2.2.1 ∧ t2.2.1 10 = t.2.1 10 ∧ (∀ j, j < 24 → t2.2.1 20 j = f_cert d j) ∧ t2.2.2.2 33 = f_tot d 23 ∧ t2.2.2.2 34 = f_acc (fun k => f_int d k) 0 24 ∧ t2.2.1 12 23 = f_adj d 23
theorem zr_layAside (t : zz_M) (hI : zInv (dz t)) : ∃ t2, mX11_layAside t = some ((), t2) ∧ zSd (dz t) t t2 := by
  obtain ⟨t1, x1, Y⟩ := zr_layMonths t hI
  have g : ∀ j, j < 24 → _ := Y.2.2.2
  obtain ⟨t2, e2, r1, r2, r3, r4, r5, r6⟩ := zr_layAside_b6 (d := dz t) (t := t1) (fun j hj => (g j hj).2.2.2.1) (g 23 (by omega)).2.2.2.2.1 (fun j hj => (g j hj).2.2.2.2.2.2) 24 0 zz_N t1 (by omega) (by unfold zz_N; omega) ⟨rfl, rfl, fun _ _ => rfl, fun j hj => absurd hj (Nat.not_lt_zero j)⟩
  refine ⟨t2, ?_, r1.trans Y.1, by rw [r2, Y.2.1], by rw [r3 10 (by omega), Y.2.2.1 10 (by omega)], r4, r5, r6, by rw [r3 12 (by omega)]; exact (g 23 (by omega)).1⟩
  unfold mX11_layAside
  rw [x1, zz_b2_s]
  exact e2
theorem zSd.d {d : zD} {t t2 : zz_M} (h : zSd d t t2) : dz t2 = dz t := dz_cg (fun q _ => by rw [h.1]) (fun q _ => by rw [h.2.1])
theorem zr_tellMore (t : zz_M) (hI : zInv (dz t)) : ∃ t1 t2, mX11_tellMore t = some ((), t2) ∧ zLay t t1 ∧ zTr t1 t2 ([f_tot (dz t) 23 - t.2.2.2 33] ++ [f_acc (fun k => f_int (dz t) k) 0 24 - t.2.2.2 34]) := by
  obtain ⟨t1, x1, Y⟩ := zr_layMonths t hI
  have q0 := zr_row0 t1
  obtain ⟨u1, e1, y1⟩ := zr_tell q0 (by simp) (f_tot (dz t) 23 - t.2.2.2 33)
  obtain ⟨u2, e2, y2⟩ := zr_tell y1 (by simp) (f_acc (fun k => f_int (dz t) k) 0 24 - t.2.2.2 34)
  refine ⟨t1, u2, ?_, Y, y2⟩
  have g16 : (zz_sF t1 18 0).2.1 16 23 = f_tot (dz t) 23 := (Y.2.2.2 23 (by omega)).2.2.2.2.1
  have g33 : (zz_sF t1 18 0).2.2.2 33 = t.2.2.2 33 := by show t1.2.2.2 33 = _; rw [Y.2.1]
  have g34 : u1.2.2.2 34 = t.2.2.2 34 := by rw [y1.2.1, Y.2.1]
  have g18 : ∀ j, j < 24 → u1.2.1 18 j = f_int (dz t) j := fun j hj => by rw [y1.2.2.1 18 (by omega)]; exact (Y.2.2.2 j hj).2.2.2.2.2.2
  unfold mX11_tellMore
  rw [x1, zz_b2_s, zz_nm_s, zz_ck_of (zq_lit 23 24 (by decide) (by decide)), zq_clit (k := 23) (by decide), g16, g33, e1, zz_b2_s, zr_interestAll _ g18, zz_b1_s, g34, e2, zz_b2_s]
theorem zFg.eq {ff : Nat} {d : zD} {P : Nat → Int64} {z z1 : zz_M} (h : zFg ff d P z) (e : z1.2.1 = z.2.1) : zFg ff d P z1 := by
  intro w hw j hj
  rw [e]
  exact h w hw j hj
theorem zFg.rk {d d' : zD} {P P' : Nat → Int64} {z z1 : zz_M} (h : zFg 64 d P z) (k : zRk 81 d' P' z z1) : zFg 64 d P z1 := by
  intro w hw j hj
  rw [k.2.2.1 _ (by omega)]
  exact h w hw j hj
theorem zc_moreAsIf {d d' : zD} {P P' : Nat → Int64} {s : zz_M} (F : zFg 64 d P s) (G : zFg 81 d' P' s) (w : Nat) (hw : w < 15) {m : Nat} (hm : m < 24) : mX10_moreAsIf (OfNat.ofNat w) (nI m) s = some (f_fig d' P' w m - f_fig d P w m) := by
  unfold mX10_moreAsIf
  rw [G.of w hw hm, F.of w hw hm, zz_b1_s, zz_b1_s]
theorem zc_tellTI {d d' : zD} {P P' : Nat → Int64} {s : zz_M} (F : zFg 64 d P s) (G : zFg 81 d' P' s) : ∃ s', mX10_tellTotalAndInterest s = some ((), s') ∧ zCr s s' ([f_tot d' 23 - f_tot d 23] ++ [f_intTillP d' P' 23 - f_intTillP d P 23]) := by
  obtain ⟨s1, a1, b1⟩ := zc_start s (f_tot d' 23 - f_tot d 23)
  obtain ⟨s2, a2, b2⟩ := zc_then b1 (by simp) (f_intTillP d' P' 23 - f_intTillP d P 23)
  refine ⟨s2, ?_, b2⟩
  unfold mX10_tellTotalAndInterest
  have e1 := zc_moreAsIf F G 8 (by omega) (m := 23) (by omega)
  have e2 := zc_moreAsIf (F.row (Or.inl rfl) b1) (G.row (Or.inr rfl) b1) 11 (by omega) (m := 23) (by omega)
  rw [show nI 23 = (23 : Int32) from rfl] at e1 e2
  rw [e1, zz_b1_s, show f_fig d' P' 8 23 - f_fig d P 8 23 = f_tot d' 23 - f_tot d 23 from rfl, a1, zz_b2_s, e2, zz_b1_s, show f_fig d' P' 11 23 - f_fig d P 11 23 = f_intTillP d' P' 23 - f_intTillP d P 23 from rfl, a2, zz_b2_s]
/-- the end of a question what if -/
theorem zR_fin {s t s5 t5 : zz_M} (h : zR s t) (hC : zC s5 (dz t5)) (hI : zInv (dz t5)) (x1 : s5.2.2.1 65 = s.2.2.1 65) (x2 : s5.1 2 = s.1 2) (x3 : t5.2.2.1 16 = t.2.2.1 16) (x4 : t5.1 9 = t.1 9) {L : List Int64} (hl : L.length ≤ 5) (r1 : s5.2.2.1 6337 = nI L.length) (r2 : ∀ j, j < L.length → s5.2.1 100 j = L.getD j 0) (r3 : t5.2.2.1 18 = nI L.length) (r4 : ∀ j, j < L.length → t5.2.1 10 j = L.getD j 0) : zR s5 t5 :=
  ⟨hC, hI, zTx_eq h.2.2.1 x1 x2 x3 x4, L.length, hl, r1, r3, fun j hj => by rw [r2 j hj, r4 j hj]⟩
theorem zC_rk {s s1 : zz_M} {d : zD} (h : zC s d) {ff : Nat} (hff : ff = 64 ∨ ff = 81) {d' : zD} {P : Nat → Int64} (k : zRk ff d' P s s1) : zC s1 d := zC_fr h (fun q _ => by rw [k.1]) (fun q _ _ => by rw [k.2.1]) (k.2.2.1 63 (by rcases hff with e | e <;> subst e <;> omega))
theorem f_intAll (d : zD) : f_intTillP d (fun k => (d_pd d k).toInt64) 23 = f_acc (fun k => f_int d k) 0 24 := rfl
theorem B_would {s t : zz_M} (h : zR s t) (x v : Int32) : zOk (mX10_would x v s) (mX11_would x v t) := by
  have h0 := zR_thr h 0
  unfold mX10_would mX11_would
  rw [zz_nm_s]
  generalize zz_sF t 19 0 = t0 at h0 ⊢
  obtain ⟨hC, hI, hT, hW⟩ := id h0
  rw [zc_allow, zr_isTerm, zz_b1_s, zz_b1_s]
  refine zOk_tst Iff.rfl (fun c => ?_) (fun c => zOk_ret h0)
  obtain ⟨j, hj, rfl⟩ := zq_toNat (n := 13) c.1.1 c.1.2 (by decide)
  have hj' : j < 14 := by omega
  have hin := zq_k j hj' (show 14 < 2 ^ 31 by decide)
  have cv := c.2
  rw [nI_clamp (show j < 2 ^ 31 by omega)] at cv
  obtain ⟨s1, a1, k1⟩ := zc_reckon (ff := 64) (Or.inl rfl) hC hI
  obtain ⟨t1, x1, y1⟩ := zr_layAside t0 hI
  have C1 : zC s1 (dz t1) := by rw [y1.d]; exact zC_rk hC (Or.inl rfl) k1
  have I1 : zInv (dz t1) := by rw [y1.d]; exact hI
  have C2 : zC (zz_wI s1 14 (nI j) v) (dz (zz_wI t1 1 (nI j) v)) := by rw [dz_wI1 t1 hj']; exact zC_wtm1 C1 hj' v
  have I2 : zInv (dz (zz_wI t1 1 (nI j) v)) := by rw [dz_wI1 t1 hj']; exact zInv_tm1 I1 hj' cv.1 cv.2
  obtain ⟨s3, a3, k3⟩ := zc_reckon (ff := 81) (Or.inr rfl) C2 I2
  obtain ⟨t3, t4, x4, y3, y4⟩ := zr_tellMore (zz_wI t1 1 (nI j) v) I2
  have F4 : zFg 64 (dz t0) (fun k => (d_pd (dz t0) k).toInt64) (zz_wI s3 14 (nI j) (d_tm (dz t0) j)) := ((k1.fg.eq (z1 := zz_wI s1 14 (nI j) v) rfl).rk k3).eq rfl
  have G4 : zFg 81 _ _ (zz_wI s3 14 (nI j) (d_tm (dz t0) j)) := k3.fg.eq rfl
  obtain ⟨s5, a5, b5⟩ := zc_tellTI F4 G4
  rw [f_intAll, f_intAll] at b5
  rw [show (zz_wI t1 1 (nI j) v).2.2.2 33 = f_tot (dz t0) 23 from y1.2.2.2.2.1, show (zz_wI t1 1 (nI j) v).2.2.2 34 = f_acc (fun k => f_int (dz t0) k) 0 24 from y1.2.2.2.2.2.1] at y4
  rw [zc_ofI hC.1 hj', zz_b1_s, a1, zz_b2_s, zc_put _ hj', zz_b2_s, a3, zz_b2_s, zc_put _ hj', zz_b2_s, a5, zz_b2_s]
  rw [zz_ck_of hin, zz_nm_s, x1, zz_b2_s, zz_ck_of hin, zz_nm_s, x4, zz_b2_s, zz_ck_of hin, zz_nm_s, nI_clamp (show j < 2 ^ 31 by omega)]
  have hd4 : dz t4 = dz (zz_wI t1 1 (nI j) v) := y4.d.trans (dz_eq y3.1 y3.2.1)
  have hv0 := hI.2.2.2.2.2.2.2.1 j hj'
  have C5 : zC (zz_wI s3 14 (nI j) (d_tm (dz t0) j)) (dz (zz_wI t4 1 (nI j) (t0.1 1 j))) := by
    rw [dz_wI1 t4 hj', hd4]
    exact zC_wtm1 (zC_rk C2 (Or.inr rfl) k3) hj' _
  have I5 : zInv (dz (zz_wI t4 1 (nI j) (t0.1 1 j))) := by
    rw [dz_wI1 t4 hj', hd4]
    obtain ⟨k, e1, e2, e3⟩ := hv0
    have e1' : t0.1 1 j = nI k := e1
    refine zInv_tm1 I2 hj' (by rw [e1', nI_toInt (by omega)]; omega) (by rw [e1']; exact Int32.le_iff_toInt_le.mp e2)
  refine zOk_ret (zR_fin h0 (b5.c C5) I5 ?_ ?_ ?_ ?_ (by simp) b5.2.2.2.2.1 b5.2.2.2.2.2 y4.2.2.2.2.1 y4.2.2.2.2.2)
  · rw [b5.2.2.2.1 65 (by omega)]
    show s3.2.2.1 65 = _
    rw [k3.2.1]
    show s1.2.2.1 65 = _
    rw [k1.2.1]
  · rw [b5.1, zw_I_ne _ _ _ (by omega), k3.1, zw_I_ne _ _ _ (by omega), k1.1]
  · show t4.2.2.1 16 = _
    rw [y4.2.2.2.1 16 (by omega), y3.2.1]
    show t1.2.2.1 16 = _
    rw [y1.2.1]
  · rw [zw_I_ne _ _ _ (by omega), y4.1, y3.1, zw_I_ne _ _ _ (by omega), y1.1]
