/-! ===== dearest, keeps, needed ===== -/
theorem upd_idem {f : Nat → Int32} {q : Nat} {v : Int32} (h : f q = v) : upd f q v = f := by
  funext j
  by_cases e : j = q
  · subst e; rw [upd_at, h]
  · rw [upd_off _ _ e]
def zKd (v1 : Int32) (v2 : Int64) (w1 : Int32) (w2 : Int64) : Prop := (v1 = -2 ∧ v2 = -1 ∧ w1 = -1) ∨ ∃ b : Nat, b < 6 ∧ v1 = nI b ∧ w1 = nI b ∧ v2 = w2
theorem J_dearest {n : Nat} (hn6 : n ≤ 6) : ∀ (j i fuel : Nat) (s t : zz_M) (v1 : Int32) (v2 : Int64) (w1 : Int32) (w2 : Int64), zR s t → (d_sm (dz t)).toNatClampNeg = n → zKd v1 v2 w1 w2 → i + j = n → j < fuel → zOk (mX10_dearest_b10 fuel v1 v2 (nI i) s) (mX11_dearest_b12 fuel w1 w2 (nI i) t) := by
  intro j
  induction j with
  | zero =>
    intro i fuel s t v1 v2 w1 w2 h hsm hK hi hf
    obtain ⟨f, rfl⟩ : ∃ f, fuel = f + 1 := ⟨fuel - 1, by omega⟩
    obtain ⟨n', hn, en, en', ec⟩ := zR_sm h
    have hi' : n' = i := by omega
    subst hi'
    unfold mX10_dearest_b10 mX11_dearest_b12 mX10_dearest_b107
    rw [en, en', if_pos (nI_le_r n'), if_pos (nI_le_r n')]
    rcases hK with ⟨e1, e2, e3⟩ | ⟨b, hb, e1, e2, e3⟩
    · rw [if_pos (show v1 < 0 by rw [e1]; decide), if_pos e3, e1]
      exact zOk_ret h
    · rw [if_neg (show ¬ v1 < 0 by rw [e1]; exact nI_nn (by omega)), if_neg (show ¬ w1 = -1 by rw [e2]; exact nI_not1 (by omega)), zz_nm_s]
      obtain ⟨s1, a1, b1⟩ := zc_start s v2
      have q0 := zr_row0 t
      obtain ⟨t1, x1, y1⟩ := zr_tell q0 (by simp) w2
      rw [a1, zz_b2_s, x1, zz_b2_s]
      rw [← e3] at y1
      exact zOk_rete (by rw [e1, e2]) (zR_row h b1 y1 (by simp))
  | succ j ih =>
    intro i fuel s t v1 v2 w1 w2 h hsm hK hi hf
    obtain ⟨f, rfl⟩ : ∃ f, fuel = f + 1 := ⟨fuel - 1, by omega⟩
    obtain ⟨hC, hI, hT, hW⟩ := id h
    obtain ⟨n', hn, en, en', ec⟩ := zR_sm h
    have hin : i < n' := by omega
    have hcs : i < (d_sm (dz t)).toNatClampNeg := by omega
    have hc6 : i < 6 := by omega
    have i0 := zq_k (5 * i) (show 5 * i < 30 by omega) (show 30 < 2 ^ 31 by decide)
    have i2 := zq_k (5 * i + 2) (show 5 * i + 2 < 30 by omega) (show 30 < 2 ^ 31 by decide)
    have ic := zq_k i hc6 (show 6 < 2 ^ 31 by decide)
    obtain ⟨⟨k0, hk0, ek0⟩, -, b2, b3, -, b5⟩ := zi_seB hI hcs
    have g2 : (24 : Int32) ≤ t.1 6 (5 * i + 2) ↔ d_se (dz t) (5 * i + 2) = 24 := zi_24 b2
    unfold mX10_dearest_b10 mX11_dearest_b12 mX10_dearest_b88 mX11_dearest_b94 mX11_dearest_b102
    rw [en, en', if_neg (nI_lt_n (by omega) hin), if_neg (nI_lt_n (by omega) hin), zc_isDisputed hC.1 hI hcs, zz_b1_s, zz_tj, zq_52, zq_5, zz_ck_of i2]
    simp only [nI_clamp (show 5 * i + 2 < 2 ^ 31 by omega)]
    by_cases c : d_se (dz t) (5 * i + 2) = 24
    · rw [if_pos c, if_pos (g2.mpr c), zz_ck_of i0, zz_ck_of i2, zz_nm_s, zz_ck_of ic, nI_clamp (show 5 * i < 2 ^ 31 by omega), nI_clamp (show i < 2 ^ 31 by omega), (hC.1.2.2.2.2.1.2 i hcs).1]
      have e3 : d_se (dz t) (5 * i + 3) = 24 := b5 c
      have eD : upd (upd (d_se (dz t)) (5 * i + 2) (d_se (dz t) (5 * i))) (5 * i + 3) 24 = upd (d_se (dz t)) (5 * i + 2) (d_se (dz t) (5 * i)) := upd_idem (by rw [upd_off _ _ (by omega)]; exact e3)
      have ID := zInv_dd hI hcs (a := d_se (dz t) (5 * i)) (b := 24) ⟨k0, by omega, ek0⟩ ⟨24, by omega, rfl⟩ (fun _ => rfl)
      obtain ⟨s4, a4, C4, G4, e4, g4, w4⟩ := zc_asIfDisp hC hI hcs ID
      rw [eD] at ID G4
      have hd2 : dz (zz_wI t 6 (nI (5 * i + 2)) (t.1 6 (5 * i))) = d_wse (dz t) (upd (d_se (dz t)) (5 * i + 2) (d_se (dz t) (5 * i))) (d_sm (dz t)) := dz_wI6 t (by omega) _
      have ID2 : zInv (dz (zz_wI t 6 (nI (5 * i + 2)) (t.1 6 (5 * i)))) := by rw [hd2]; exact ID
      obtain ⟨t3, x3, y3⟩ := zr_layMonths _ ID2
      have hd5 : dz (zz_wI t3 6 (nI (5 * i + 2)) 24) = dz t := by
        rw [dz_wI6 t3 (by omega), dz_eq y3.1 y3.2.1, hd2]
        have : upd (d_se (d_wse (dz t) (upd (d_se (dz t)) (5 * i + 2) (d_se (dz t) (5 * i))) (d_sm (dz t)))) (5 * i + 2) 24 = d_se (dz t) := by
          rw [← c]
          exact upd_back (d_se (dz t)) (5 * i + 2) (d_se (dz t) (5 * i))
        rw [this]
        rfl
      have h5 : zR s4 (zz_wI t3 6 (nI (5 * i + 2)) 24) := by
        refine ⟨by rw [hd5]; exact C4, by rw [hd5]; exact hI, zTx_eq hT (by rw [e4]) g4 (by show t3.2.2.1 16 = _; rw [y3.2.1]; rfl) (by rw [zw_I_ne _ _ _ (by omega), y3.1, zw_I_ne _ _ _ (by omega)]), zRw_eq hW (by rw [e4]) (w4 100 (by omega)) (by show t3.2.2.1 18 = _; rw [y3.2.1]; rfl) (by show t3.2.1 10 = _; rw [y3.2.2.1 10 (by omega)]; rfl)⟩
      have hg18 : ∀ j, j < 24 → (zz_wI t3 6 (nI (5 * i + 2)) 24).2.1 18 j = f_int (d_wse (dz t) (upd (d_se (dz t)) (5 * i + 2) (d_se (dz t) (5 * i))) (d_sm (dz t))) j := fun j hj => by
        show t3.2.1 18 j = _
        rw [(y3.2.2.2 j hj).2.2.2.2.2.2, hd2]
      have eI := zr_interestAll _ hg18
      have eC := G4.of 11 (by omega) (m := 23) (by omega)
      rw [show nI 23 = (23 : Int32) from rfl, show f_fig (d_wse (dz t) (upd (d_se (dz t)) (5 * i + 2) (d_se (dz t) (5 * i))) (d_sm (dz t))) (fun k => (d_pd (dz t) k).toInt64) 11 23 = f_acc (fun k => f_int (d_wse (dz t) (upd (d_se (dz t)) (5 * i + 2) (d_se (dz t) (5 * i))) (d_sm (dz t))) k) 0 24 from rfl] at eC
      rw [a4, zz_b2_s, show (11 : Int32) = OfNat.ofNat 11 from rfl, eC, zz_b1_s, x3, zz_b2_s, zz_ck_of i2]
      simp only [zz_nm_s, eI, zz_b1_s, nI_1]
      have hnn := f_intAll_nn ID
      generalize f_acc (fun k => f_int (d_wse (dz t) (upd (d_se (dz t)) (5 * i + 2) (d_se (dz t) (5 * i))) (d_sm (dz t))) k) 0 24 = r at hnn ⊢
      have hsm5 : (d_sm (dz (zz_wI t3 6 (nI (5 * i + 2)) 24))).toNatClampNeg = n := by rw [hd5]; exact hsm
      have up : zOk (mX10_dearest_b10 f (nI i) r (nI (i + 1)) s4) (mX11_dearest_b12 f (nI i) r (nI (i + 1)) (zz_wI t3 6 (nI (5 * i + 2)) 24)) := ih (i + 1) f _ _ _ _ _ _ h5 hsm5 (Or.inr ⟨i, hc6, rfl, rfl, rfl⟩) (by omega) (by omega)
      rcases hK with ⟨e1, e2, e3⟩ | ⟨b, hb, e1, e2, e3⟩
      · rw [if_pos e3, if_neg (show ¬ lg_cmp r v2 ≤ 0 by
          rw [lg_cmp_le, e2, Int64.le_iff_toInt_le]
          have : (-1 : Int64).toInt = -1 := rfl
          omega)]
        exact up
      · rw [if_neg (show ¬ w1 = -1 by rw [e2]; exact nI_not1 (by omega)), e3]
        by_cases c4 : r ≤ w2
        · rw [if_pos ((lg_cmp_le _ _).mpr c4), if_neg (fun q => zl_nlt.mpr c4 ((lg_cmp_gt _ _).mp q))]
          exact ih (i + 1) f _ _ _ _ _ _ h5 hsm5 (Or.inr ⟨b, hb, e1, e2, rfl⟩) (by omega) (by omega)
        · rw [if_neg (fun q => c4 ((lg_cmp_le _ _).mp q)), if_pos ((lg_cmp_gt _ _).mpr (zl_nle.mp c4))]
          exact up
    · rw [if_neg c, if_neg (fun q => c (g2.mp q)), zz_nm_s, zz_nm_s, nI_1]
      exact ih (i + 1) f _ _ _ _ _ _ h hsm hK (by omega) (by omega)
theorem B_dearest {s t : zz_M} (h : zR s t) : zOk (mX10_dearest s) (mX11_dearest t) := by
  have h0 := zR_thr h 0
  unfold mX10_dearest mX11_dearest
  rw [zz_nm_s]
  generalize zz_sF t 19 0 = t0 at h0 ⊢
  obtain ⟨n, hn, en, en', ec⟩ := zR_sm h0
  have := J_dearest hn n 0 zz_N s t0 (-2) (-1) (-1) 0 h0 ec (Or.inl ⟨rfl, rfl, rfl⟩) (by omega) (by unfold zz_N; omega)
  rw [nI_0] at this
  exact this
/-- the greatest retained of the months ahead of one, by a KEEP -/
def f_gr (d : zD) (k : Int32) : Nat → Int64
  | 0 => 0
  | m + 1 => if f_retT d k m < f_gr d k m then f_gr d k m else f_retT d k m
theorem f_gr_s (d : zD) (k : Int32) (m : Nat) : f_gr d k (m + 1) = if f_retT d k m < f_gr d k m then f_gr d k m else f_retT d k m := rfl
theorem zc_grRet_b5 {s : zz_M} {d : zD} (hC : zC0 s d) (hI : zInv d) {P : Nat → Int64} (F : zFg 64 d P s) (k : Int32) : ∀ (j i fuel : Nat), i + j = 24 → j < fuel → mX10_greatestRetained_b5 s fuel k (f_gr d k i) (nI i) = some (f_gr d k 24) := by
  intro j
  induction j with
  | zero =>
    intro i fuel hi hf
    obtain ⟨f, rfl⟩ : ∃ f, fuel = f + 1 := ⟨fuel - 1, by omega⟩
    have : i = 24 := by omega
    subst this
    unfold mX10_greatestRetained_b5
    rw [if_pos (show (24 : Int32) ≤ nI 24 by decide)]
  | succ j ih =>
    intro i fuel hi hf
    obtain ⟨f, rfl⟩ : ∃ f, fuel = f + 1 := ⟨fuel - 1, by omega⟩
    have hi' : i < 24 := by omega
    have e := ih (i + 1) f (by omega) (by omega)
    rw [f_gr_s] at e
    have e0 := F.of 0 (by omega) hi'
    rw [show f_fig d P 0 i = f_work d i from rfl] at e0
    unfold mX10_greatestRetained_b5
    rw [if_neg (show ¬ (24 : Int32) ≤ nI i from nI_ge hi' (by decide)), show (0 : Int32) = OfNat.ofNat 0 from rfl, e0, zz_b1_s, zc_retained hC hI k i, zz_b1_s, zz_nm_s, zz_nm_s, nI_1]
    exact e
theorem zc_grRet {s : zz_M} {d : zD} (hC : zC0 s d) (hI : zInv d) {P : Nat → Int64} (F : zFg 64 d P s) (k : Int32) : mX10_greatestRetained k s = some (f_gr d k 24) := by
  have := zc_grRet_b5 hC hI F k 24 0 zz_N (by omega) (by unfold zz_N; omega)
  unfold mX10_greatestRetained
  exact this
theorem f_work_cg {d d' : zD} (h1 : d_it d' = d_it d) (h2 : d_n d' = d_n d) (h3 : d_ms d' = d_ms d) (h4 : d_ch d' = d_ch d) (h5 : d_cm d' = d_cm d) (h9 : d_tm d' 9 = d_tm d 9) (h10 : d_tm d' 10 = d_tm d 10) (m : Nat) : f_work d' m = f_work d m := by
  have hw : ∀ c, f_worth d' c = f_worth d c := fun c => by
    unfold f_worth
    rw [f_price_cg h1 h2, h4]
  have hv : f_varied d' m = f_varied d m := by
    unfold f_varied
    rw [h4, h5]
    simp only [hw]
  have hc : ∀ i, f_cap d' i = f_cap d i := fun i => by
    unfold f_cap
    rw [h1, h9]
  have hd : ∀ i, f_done d' m i = f_done d m i := fun i => by
    unfold f_done
    rw [h3]
  have ha : ∀ i, f_above d' m i = f_above d m i := fun i => by
    unfold f_above
    rw [hd, hc]
  have hp : ∀ i, f_part d' m i = f_part d m i := fun i => by
    unfold f_part
    rw [hd, ha, h1, h10]
  unfold f_work
  rw [hv, h2]
  simp only [hp]
theorem f_ret_wtm0 (d : zD) (k : Int32) (m : Nat) : f_ret (d_wtm d (upd (d_tm d) 0 k)) m = f_retT d k m := by
  have hw : f_work (d_wtm d (upd (d_tm d) 0 k)) m = f_work d m := by
    have h9 : upd (d_tm d) 0 k 9 = d_tm d 9 := upd_off (d_tm d) k (by omega)
    have h10 : upd (d_tm d) 0 k 10 = d_tm d 10 := upd_off (d_tm d) k (by omega)
    exact f_work_cg (d := d) (d' := d_wtm d (upd (d_tm d) 0 k)) rfl rfl rfl rfl rfl h9 h10 m
  have hl : f_limit (d_wtm d (upd (d_tm d) 0 k)) = f_limit d := by
    unfold f_limit
    rw [f_sum_cg (d := d) (d' := d_wtm d (upd (d_tm d) 0 k)) rfl rfl, show d_tm (d_wtm d (upd (d_tm d) 0 k)) 1 = d_tm d 1 from upd_off (d_tm d) (m := 0) (j := 1) k (by omega)]
  have hk : f_keep0 (d_wtm d (upd (d_tm d) 0 k)) m = f_keepT d k m := by
    unfold f_keep0 f_keepT
    rw [hw, hl, show d_tm (d_wtm d (upd (d_tm d) 0 k)) 0 = k from upd_at (d_tm d) 0 k]
  unfold f_ret f_retT
  rw [hk, show d_tm (d_wtm d (upd (d_tm d) 0 k)) 2 = d_tm d 2 from upd_off (d_tm d) (m := 0) (j := 2) k (by omega)]
  rfl
theorem zr_keeps_b56 {z : zz_M} {d : zD} {k : Int32} (hd : dz z = d_wtm d (upd (d_tm d) 0 k)) (hI : zInv (dz z)) (K : Int32 → Int32 → Int32 → Int64 → Int32 → zz_M → Option (Int32 × zz_M)) (v1 v2 v3 v6 : Int32) : ∀ (j i fuel : Nat), i + j = 24 → j < fuel → mX11_keeps_b56 K fuel v1 v2 v3 (f_gr d k i) v6 (nI i) z = if lg_cmp (f_gr d k 24) v1.toInt64 < 0 then K v1 v2 v3 (f_gr d k 24) (v6 + 1) z else K v1 v2 v6 (f_gr d k 24) (v6 + 1) z := by
  intro j
  induction j with
  | zero =>
    intro i fuel hi hf
    obtain ⟨f, rfl⟩ : ∃ f, fuel = f + 1 := ⟨fuel - 1, by omega⟩
    have : i = 24 := by omega
    subst this
    unfold mX11_keeps_b56 mX11_keeps_b93
    rw [if_pos (show (24 : Int32) ≤ nI 24 by decide), zz_nm_s, zz_nm_s]
  | succ j ih =>
    intro i fuel hi hf
    obtain ⟨f, rfl⟩ : ∃ f, fuel = f + 1 := ⟨fuel - 1, by omega⟩
    have hi' : i < 24 := by omega
    have e := ih (i + 1) f (by omega) (by omega)
    rw [f_gr_s] at e
    conv => lhs; unfold mX11_keeps_b56
    rw [if_neg (show ¬ (24 : Int32) ≤ nI i from nI_ge hi' (by decide)), zr_retainedIn z hI hi', zz_b1_s, zz_nm_s, zz_nm_s, nI_1, hd, f_ret_wtm0]
    exact e
/-- the reference's memory, but for the first of the terms -/
def zKp (t t1 : zz_M) : Prop := t1.2 = t.2 ∧ (∀ q, q ≠ 1 → t1.1 q = t.1 q) ∧ ∀ j, j ≠ 0 → t1.1 1 j = t.1 1 j
theorem zKp_w {t t1 : zz_M} (h : zKp t t1) (v : Int32) : zKp t (zz_wI t1 1 0 v) := by
  obtain ⟨h1, h2, h3⟩ := h
  refine ⟨h1, fun q hq => by rw [zw_I_ne _ _ _ hq]; exact h2 q hq, fun j hj => ?_⟩
  rw [show (0 : Int32) = nI 0 from rfl, zw_I_eq _ _ _ (by decide), upd_off _ _ hj]
  exact h3 j hj
theorem zKp_d {t t1 : zz_M} (h : zKp t t1) (v : Int32) : dz (zz_wI t1 1 0 v) = d_wtm (dz t) (upd (d_tm (dz t)) 0 v) := by
  obtain ⟨h1, h2, h3⟩ := h
  rw [show (0 : Int32) = nI 0 from rfl, dz_wI1 t1 (by omega)]
  have e : upd (d_tm (dz t1)) 0 v = upd (d_tm (dz t)) 0 v := by
    funext j
    by_cases c : j = 0
    · subst c; rw [upd_at, upd_at]
    · rw [upd_off _ _ c, upd_off _ _ c]; exact h3 j c
  rw [e]
  unfold d_wtm dz
  simp only [h1]
  rw [h2 2 (by omega), h2 3 (by omega), h2 4 (by omega), h2 5 (by omega), h2 6 (by omega), h2 7 (by omega), h2 8 (by omega)]
theorem zKp_back {s t t1 : zz_M} (h : zR s t) (k : zKp t t1) : zR s (zz_wI t1 1 0 (t.1 1 0)) := by
  have hd := zKp_d k (t.1 1 0)
  have e : upd (d_tm (dz t)) 0 (t.1 1 0) = d_tm (dz t) := upd_idem rfl
  rw [e] at hd
  have hd' : dz (zz_wI t1 1 0 (t.1 1 0)) = dz t := hd
  obtain ⟨hC, hI, hT, hW⟩ := h
  obtain ⟨h1, h2, h3⟩ := k
  exact ⟨by rw [hd']; exact hC, by rw [hd']; exact hI, zTx_eq hT rfl rfl (by show t1.2.2.1 16 = _; rw [h1]) (by rw [zw_I_ne _ _ _ (by omega)]; exact h2 9 (by omega)), zRw_eq hW rfl rfl (by show t1.2.2.1 18 = _; rw [h1]) (by show t1.2.1 10 = _; rw [h1])⟩
theorem zOk_keep {s t : zz_M} (h : zR s t) {i : Nat} (hi : i ≤ 200) (v : Int64) : zOk (zz_b2 (mX5_start v s) (fun _ z8 => some (nI i, z8))) (if nI i = (-2 : Int32) then some ((-2 : Int32), t) else zz_nm (zz_sF t 18 (0 : Int32)) (fun z4 => zz_b2 (mX11_tell v z4) (fun _ z7 => some (nI i, z7)))) := by
  have hne : ¬ nI i = (-2 : Int32) := by
    intro e
    have := congrArg Int32.toInt e
    rw [nI_toInt (by omega)] at this
    have e2 : (-2 : Int32).toInt = -2 := rfl
    omega
  obtain ⟨s1, a1, b1⟩ := zc_start s v
  have q0 := zr_row0 t
  obtain ⟨t1, x1, y1⟩ := zr_tell q0 (by simp) v
  rw [a1, zz_b2_s, if_neg hne, zz_nm_s, x1, zz_b2_s]
  exact zOk_ret (zR_row h b1 y1 (by simp))
theorem J_keeps {s t : zz_M} (h : zR s t) {P : Nat → Int64} (F : zFg 64 (dz t) P s) (v : Int32) : ∀ (j i fuel : Nat) (t1 : zz_M) (w : Int64), zKp t t1 → i + j = 201 → j < fuel → zOk (mX10_keeps_b20 (fuel + 1) v (nI i) s) (mX11_keeps_b28 (fuel + 1) v (t.1 1 0) (-2) w (nI i) t1) := by
  intro j
  induction j with
  | zero =>
    intro i fuel t1 w k hi hf
    have : i = 201 := by omega
    subst this
    unfold mX10_keeps_b20 mX11_keeps_b28 mX11_keeps_b99
    rw [if_pos (show (200 : Int32) < nI 201 by decide), if_pos (show (200 : Int32) < nI 201 by decide), zz_ck_of (zq_lit 0 14 (by decide) (by decide)), zz_nm_s, if_pos rfl]
    exact zOk_ret (zKp_back h k)
  | succ j ih =>
    intro i fuel t1 w k hi hf
    obtain ⟨f, rfl⟩ : ∃ f, fuel = f + 1 := ⟨fuel - 1, by omega⟩
    have h200 : ¬ (200 : Int32) < nI i := by
      rw [Int32.lt_iff_toInt_lt, nI_toInt (by omega)]
      have : (200 : Int32).toInt = 200 := rfl
      omega
    have hd := zKp_d k (nI i)
    have hI2 : zInv (dz (zz_wI t1 1 0 (nI i))) := by
      rw [hd]
      refine zInv_tm1 h.2.1 (by omega) (by rw [nI_toInt (by omega)]; omega) ?_
      rw [nI_toInt (by omega)]
      have : (zz_great 0).toInt = 200 := by decide
      omega
    have e56 := zr_keeps_b56 hd hI2 (mX11_keeps_b28 (f + 1)) v (t.1 1 0) (-2) (nI i) 24 0 zz_N (by omega) (by unfold zz_N; omega)
    have e56' : mX11_keeps_b56 (mX11_keeps_b28 (f + 1)) zz_N v (t.1 1 0) (-2) 0 (nI i) 0 (zz_wI t1 1 0 (nI i)) = _ := e56
    unfold mX10_keeps_b20
    rw [mX11_keeps_b28, if_neg h200, if_neg h200, if_pos rfl, zz_ck_of (zq_lit 0 14 (by decide) (by decide)), zc_grRet h.1.1 h.2.1 F, zz_b1_s, zz_nm_s, zz_nm_s, e56', nI_1]
    by_cases c : lg_cmp (f_gr (dz t) (nI i) 24) v.toInt64 < 0
    · rw [if_pos c, if_pos c]
      exact ih (i + 1) f _ _ (zKp_w k (nI i)) (by omega) (by omega)
    · rw [if_neg c, if_neg c]
      have hb := zKp_back h (zKp_w k (nI i))
      have hne : ¬ nI i = (-2 : Int32) := by
        intro e
        have := congrArg Int32.toInt e
        rw [nI_toInt (by omega)] at this
        have e2 : (-2 : Int32).toInt = -2 := rfl
        omega
      have hk := zOk_keep hb (show i ≤ 200 by omega) (f_gr (dz t) (nI i) 24)
      rw [mX11_keeps_b28]
      unfold mX11_keeps_b99
      rw [zz_ck_of (zq_lit 0 14 (by decide) (by decide)), zz_nm_s, if_neg hne, if_neg hne, ite_self]
      rw [if_neg hne] at hk
      exact hk
theorem B_keeps {s t : zz_M} (h : zR s t) (x : Int32) : zOk (mX10_keeps x s) (mX11_keeps x t) := by
  have h0 := zR_thr h 0
  unfold mX10_keeps mX11_keeps
  rw [zz_nm_s]
  generalize zz_sF t 19 0 = t0 at h0 ⊢
  refine zOk_if Iff.rfl (fun _ => ?_) (fun _ => zOk_ret h0)
  obtain ⟨s1, a1, k1⟩ := zc_reckon (ff := 64) (Or.inl rfl) h0.1 h0.2.1
  have h1 := zR_rk h0 (Or.inl rfl) k1
  rw [a1, zz_b2_s, zz_ck_of (zq_lit 0 14 (by decide) (by decide)), zz_nm_s]
  have := J_keeps h1 k1.fg x 201 0 299 t0 0 ⟨rfl, fun _ _ => rfl, fun _ _ => rfl⟩ (by omega) (by omega)
  rw [nI_0] at this
  exact this
