/-! ===== as if a set-off were disputed: were, dearest ===== -/
theorem zC_dd {s : zz_M} {d : zD} (h : zC s d) {c : Nat} (hc : c < 6) (a b : Int32) : zC (zz_wI (zz_wI s 60 (nI c) a) 61 (nI c) b) (d_wse d (upd (upd (d_se d) (5 * c + 2) a) (5 * c + 3) b) (d_sm d)) := by
  refine zC_wse h (fun q hq => by rw [zw_I_ne _ _ _ (by omega), zw_I_ne _ _ _ (by omega)]) rfl (fun _ _ => rfl) h.1.2.2.2.2.1.1 (fun i hi => ?_)
  obtain ⟨p0, p1, p2, p3, p4⟩ := h.1.2.2.2.2.1.2 i hi
  have e58 : (zz_wI (zz_wI s 60 (nI c) a) 61 (nI c) b).1 58 = s.1 58 := by rw [zw_I_ne _ _ _ (by omega), zw_I_ne _ _ _ (by omega)]
  have e59 : (zz_wI (zz_wI s 60 (nI c) a) 61 (nI c) b).1 59 = s.1 59 := by rw [zw_I_ne _ _ _ (by omega), zw_I_ne _ _ _ (by omega)]
  have e62 : (zz_wI (zz_wI s 60 (nI c) a) 61 (nI c) b).1 62 = s.1 62 := by rw [zw_I_ne _ _ _ (by omega), zw_I_ne _ _ _ (by omega)]
  have e60 : (zz_wI (zz_wI s 60 (nI c) a) 61 (nI c) b).1 60 = upd (s.1 60) c a := by rw [zw_I_ne _ _ _ (by omega), zw_I_eq _ _ _ (by omega)]
  have e61 : (zz_wI (zz_wI s 60 (nI c) a) 61 (nI c) b).1 61 = upd (s.1 61) c b := by rw [zw_I_eq _ _ _ (by omega), zw_I_ne _ _ _ (by omega)]
  rw [e58, e59, e60, e61, e62]
  refine ⟨?_, ?_, ?_, ?_, ?_⟩
  · rw [upd_off _ _ (by omega), upd_off _ _ (by omega)]; exact p0
  · rw [upd_off _ _ (by omega), upd_off _ _ (by omega)]; exact p1
  · rw [upd_off (upd (d_se d) (5 * c + 2) a) _ (show 5 * i + 2 ≠ 5 * c + 3 by omega)]
    by_cases e : i = c
    · subst e; rw [upd_at, upd_at]
    · rw [upd_off _ _ e, upd_off _ _ (by omega)]; exact p2
  · by_cases e : i = c
    · subst e; rw [upd_at, upd_at]
    · rw [upd_off _ _ e, upd_off _ _ (by omega), upd_off _ _ (by omega)]; exact p3
  · rw [upd_off _ _ (by omega), upd_off _ _ (by omega)]; exact p4
theorem zInv_dd {d : zD} (h : zInv d) {c : Nat} (hc : c < (d_sm d).toNatClampNeg) {a b : Int32} (ha : ∃ j : Nat, j ≤ 24 ∧ a = nI j) (hb : ∃ j : Nat, j ≤ 24 ∧ b = nI j) (hab : a = 24 → b = 24) : zInv (d_wse d (upd (upd (d_se d) (5 * c + 2) a) (5 * c + 3) b) (d_sm d)) := by
  obtain ⟨n, hn, en, ec⟩ := zi_sm h
  obtain ⟨p0, p1, p2, p3, p4, p5⟩ := zi_seB h hc
  rw [en]
  refine zInv_seu h (c := c) hn en (fun i hi e j hj => by rw [upd_off _ _ (by omega), upd_off _ _ (by omega)]) (fun hc2 => ?_)
  have e0 : upd (upd (d_se d) (5 * c + 2) a) (5 * c + 3) b (5 * c) = d_se d (5 * c) := by rw [upd_off _ _ (by omega), upd_off _ _ (by omega)]
  have e1 : upd (upd (d_se d) (5 * c + 2) a) (5 * c + 3) b (5 * c + 1) = d_se d (5 * c + 1) := by rw [upd_off _ _ (by omega), upd_off _ _ (by omega)]
  have e2 : upd (upd (d_se d) (5 * c + 2) a) (5 * c + 3) b (5 * c + 2) = a := by rw [upd_off _ _ (by omega), upd_at]
  have e3 : upd (upd (d_se d) (5 * c + 2) a) (5 * c + 3) b (5 * c + 3) = b := by rw [upd_at]
  have e4 : upd (upd (d_se d) (5 * c + 2) a) (5 * c + 3) b (5 * c + 4) = d_se d (5 * c + 4) := by rw [upd_off _ _ (by omega), upd_off _ _ (by omega)]
  rw [e0, e1, e2, e3, e4]
  exact ⟨p0, p1, ha, hb, p4, hab⟩
theorem upd_bb (f : Nat → Int32) {p q : Nat} (hpq : p ≠ q) (a b : Int32) : upd (upd (upd (upd f p a) q b) p (f p)) q (f q) = f := by
  funext j
  by_cases e : j = q
  · subst e; rw [upd_at]
  · rw [upd_off _ _ e]
    by_cases e2 : j = p
    · subst e2; rw [upd_at]
    · rw [upd_off _ _ e2, upd_off _ _ e, upd_off _ _ e2]
/-- the class reckons as if a set-off were disputed, and puts back -/
theorem zc_asIfDisp {s : zz_M} {d : zD} (hC : zC s d) (hI : zInv d) {c : Nat} (hc : c < (d_sm d).toNatClampNeg) {m : Int32} (ID : zInv (d_wse d (upd (upd (d_se d) (5 * c + 2) m) (5 * c + 3) 24) (d_sm d))) :
    ∃ s4, mX10_reckonAsIfDisputed (nI c) m s = some ((), s4) ∧ zC s4 d ∧ zFg 81 (d_wse d (upd (upd (d_se d) (5 * c + 2) m) (5 * c + 3) 24) (d_sm d)) (fun k => (d_pd d k).toInt64) s4 ∧ s4.2.2 = s.2.2 ∧ s4.1 2 = s.1 2 ∧ ∀ q, q < 83 ∨ 98 ≤ q → s4.2.1 q = s.2.1 q := by
  obtain ⟨n, hn, en, ec⟩ := zi_sm hI
  have hc6 : c < 6 := by omega
  obtain ⟨p0, p1, p2, p3, p4⟩ := hC.1.2.2.2.2.1.2 c hc
  have C2 := zC_dd hC hc6 m 24
  obtain ⟨s3, a3, k3⟩ := zc_reckon (ff := 81) (Or.inr rfl) C2 ID
  have C3 := zC_rk C2 (Or.inr rfl) k3
  have C4 := zC_dd C3 hc6 (d_se d (5 * c + 2)) (d_se d (5 * c + 3))
  have e4 : d_wse (d_wse d (upd (upd (d_se d) (5 * c + 2) m) (5 * c + 3) 24) (d_sm d)) (upd (upd (d_se (d_wse d (upd (upd (d_se d) (5 * c + 2) m) (5 * c + 3) 24) (d_sm d))) (5 * c + 2) (d_se d (5 * c + 2))) (5 * c + 3) (d_se d (5 * c + 3))) (d_sm (d_wse d (upd (upd (d_se d) (5 * c + 2) m) (5 * c + 3) 24) (d_sm d))) = d := by
    have : upd (upd (d_se (d_wse d (upd (upd (d_se d) (5 * c + 2) m) (5 * c + 3) 24) (d_sm d))) (5 * c + 2) (d_se d (5 * c + 2))) (5 * c + 3) (d_se d (5 * c + 3)) = d_se d := upd_bb (d_se d) (p := 5 * c + 2) (q := 5 * c + 3) (by omega) m 24
    rw [this]
    rfl
  rw [e4] at C4
  have hin := zq_k c hc6 (show 6 < 2 ^ 31 by decide)
  refine ⟨_, ?_, C4, k3.fg.eq rfl, ?_, ?_, fun q hq => ?_⟩
  · unfold mX10_reckonAsIfDisputed
    rw [zz_ck_of hin, zz_nm_s, zz_ck_of hin, zz_nm_s, zz_ck_of hin, zz_nm_s, zz_ck_of hin, zz_nm_s, a3, zz_b2_s, zz_ck_of hin, zz_nm_s, zz_ck_of hin, zz_nm_s, nI_clamp (by omega), p2, p3]
  · show s3.2.2 = _
    rw [k3.2.1]
    rfl
  · rw [zw_I_ne _ _ _ (by omega), zw_I_ne _ _ _ (by omega), k3.1, zw_I_ne _ _ _ (by omega), zw_I_ne _ _ _ (by omega)]
  · show s3.2.1 q = _
    rw [k3.2.2.1 q (by omega)]
    rfl
theorem dz_dd (t : zz_M) {c : Nat} (hc : c < 6) (a b : Int32) : dz (zz_wI (zz_wI t 6 (nI (5 * c + 2)) a) 6 (nI (5 * c + 3)) b) = d_wse (dz t) (upd (upd (d_se (dz t)) (5 * c + 2) a) (5 * c + 3) b) (d_sm (dz t)) := by
  rw [dz_wI6 _ (by omega), dz_wI6 _ (by omega)]
  rfl
theorem B_were {s t : zz_M} (h : zR s t) (x m : Int32) : zOk (mX10_were x m s) (mX11_were x m t) := by
  have h0 := zR_thr h 0
  unfold mX10_were mX11_were mX11_were_b32
  rw [zz_nm_s]
  generalize zz_sF t 19 0 = t0 at h0 ⊢
  obtain ⟨hC, hI, hT, hW⟩ := id h0
  obtain ⟨n, hn, en, en', ec⟩ := zR_sm h0
  rw [zc_isDispute hC.1 hn en' ec, zz_b1_s, zz_ti, zr_isSet t0 x (by omega) en, zz_b1_s, zz_ti, zr_isMonth, zz_b1_s, zz_ti]
  by_cases cx : 0 ≤ x.toInt ∧ x.toInt < n
  · rw [if_pos cx]
    obtain ⟨c, hc, rfl⟩ := zq_of_in cx.1 cx.2 (by omega)
    by_cases cm : 0 ≤ m.toInt ∧ m.toInt ≤ 23
    · rw [nI_clamp (show c < 2 ^ 31 by omega), if_pos cm, zq_5, zz_ck_of (zq_k _ (show 5 * c < 30 by omega) (by decide)), nI_clamp (show 5 * c < 2 ^ 31 by omega)]
      by_cases c3 : d_se (dz t0) (5 * c) ≤ m
      · obtain ⟨k, hk, rfl⟩ := zq_month cm
        have hcs : c < (d_sm (dz t0)).toNatClampNeg := by omega
        have hc6 : c < 6 := by omega
        have i2 := zq_k (5 * c + 2) (show 5 * c + 2 < 30 by omega) (show 30 < 2 ^ 31 by decide)
        have i3 := zq_k (5 * c + 3) (show 5 * c + 3 < 30 by omega) (show 30 < 2 ^ 31 by decide)
        obtain ⟨-, -, b2, b3, -, b5⟩ := zi_seB hI hcs
        have ID := zInv_dd hI hcs (a := nI k) (b := 24) ⟨k, by omega, rfl⟩ ⟨24, by omega, rfl⟩ (fun _ => rfl)
        obtain ⟨s1, a1, k1⟩ := zc_reckon (ff := 64) (Or.inl rfl) hC hI
        have C1 := zC_rk hC (Or.inl rfl) k1
        obtain ⟨s2, a2, C2, G2, e2, g2, w2⟩ := zc_asIfDisp C1 hI hcs ID
        have F2 : zFg 64 (dz t0) (fun k => (d_pd (dz t0) k).toInt64) s2 := by
          intro w hw j hj
          rw [w2 _ (by omega)]
          exact k1.fg w hw j hj
        obtain ⟨s5, a5, b5'⟩ := zc_tellTI F2 G2
        obtain ⟨t1, x1, y1⟩ := zr_layAside t0 hI
        have hd2 : dz (zz_wI (zz_wI t1 6 (nI (5 * c + 2)) (nI k)) 6 (nI (5 * c + 3)) 24) = d_wse (dz t0) (upd (upd (d_se (dz t0)) (5 * c + 2) (nI k)) (5 * c + 3) 24) (d_sm (dz t0)) := by rw [dz_dd t1 hc6, y1.d]
        have ID2 : zInv (dz (zz_wI (zz_wI t1 6 (nI (5 * c + 2)) (nI k)) 6 (nI (5 * c + 3)) 24)) := by rw [hd2]; exact ID
        obtain ⟨t3, t4, x4, y3, y4⟩ := zr_tellMore _ ID2
        rw [show (zz_wI (zz_wI t1 6 (nI (5 * c + 2)) (nI k)) 6 (nI (5 * c + 3)) 24).2.2.2 33 = f_tot (dz t0) 23 from y1.2.2.2.2.1, show (zz_wI (zz_wI t1 6 (nI (5 * c + 2)) (nI k)) 6 (nI (5 * c + 3)) 24).2.2.2 34 = f_acc (fun k => f_int (dz t0) k) 0 24 from y1.2.2.2.2.2.1, hd2] at y4
        have eI : f_intTillP (d_wse (dz t0) (upd (upd (d_se (dz t0)) (5 * c + 2) (nI k)) (5 * c + 3) 24) (d_sm (dz t0))) (fun k => (d_pd (dz t0) k).toInt64) 23 = f_acc (fun j => f_int (d_wse (dz t0) (upd (upd (d_se (dz t0)) (5 * c + 2) (nI k)) (5 * c + 3) 24) (d_sm (dz t0))) j) 0 24 := rfl
        rw [eI, f_intAll] at b5'
        rw [if_pos ⟨cx, cm, c3⟩, if_pos (show t0.1 6 (5 * c) ≤ nI k from c3), a1, zz_b2_s, a2, zz_b2_s, a5, zz_b2_s]
        rw [zz_nm_s, show nI (5 * c) + (2 : Int32) = nI (5 * c + 2) from nI_add _ 2, show nI (5 * c) + (3 : Int32) = nI (5 * c + 3) from nI_add _ 3]
        rw [zz_ck_of i2, zz_nm_s, zz_ck_of i3, zz_nm_s, x1, zz_b2_s, zz_ck_of i2, zz_nm_s, zz_ck_of i3, zz_nm_s, x4, zz_b2_s, zz_ck_of i2, zz_nm_s, zz_ck_of i3, zz_nm_s, nI_clamp (show 5 * c + 2 < 2 ^ 31 by omega), nI_clamp (show 5 * c + 3 < 2 ^ 31 by omega)]
        have hd4 : dz t4 = d_wse (dz t0) (upd (upd (d_se (dz t0)) (5 * c + 2) (nI k)) (5 * c + 3) 24) (d_sm (dz t0)) := (y4.d.trans (dz_eq y3.1 y3.2.1)).trans hd2
        have hd5 : dz (zz_wI (zz_wI t4 6 (nI (5 * c + 2)) (t0.1 6 (5 * c + 2))) 6 (nI (5 * c + 3)) (t0.1 6 (5 * c + 3))) = dz t0 := by
          rw [dz_dd t4 hc6, hd4]
          have : upd (upd (d_se (d_wse (dz t0) (upd (upd (d_se (dz t0)) (5 * c + 2) (nI k)) (5 * c + 3) 24) (d_sm (dz t0)))) (5 * c + 2) (t0.1 6 (5 * c + 2))) (5 * c + 3) (t0.1 6 (5 * c + 3)) = d_se (dz t0) := upd_bb (d_se (dz t0)) (p := 5 * c + 2) (q := 5 * c + 3) (by omega) (nI k) 24
          rw [this]
          rfl
        refine zOk_ret (zR_fin h0 (by rw [hd5]; exact b5'.c C2) (by rw [hd5]; exact hI) ?_ ?_ ?_ ?_ (by simp) b5'.2.2.2.2.1 b5'.2.2.2.2.2 y4.2.2.2.2.1 y4.2.2.2.2.2)
        · rw [b5'.2.2.2.1 65 (by omega), e2, k1.2.1]
        · rw [b5'.1, g2, k1.1]
        · show t4.2.2.1 16 = _
          rw [y4.2.2.2.1 16 (by omega), y3.2.1]
          show t1.2.2.1 16 = _
          rw [y1.2.1]
        · rw [zw_I_ne _ _ _ (by omega), zw_I_ne _ _ _ (by omega), y4.1, y3.1, zw_I_ne _ _ _ (by omega), zw_I_ne _ _ _ (by omega), y1.1]
      · rw [if_neg (fun q => c3 q.2.2), if_neg (show ¬ t0.1 6 (5 * c) ≤ m from c3)]
        exact zOk_ret h0
    · rw [if_neg cm, if_neg (fun q => cm q.2.1)]
      exact zOk_ret h0
  · rw [if_neg cx, if_neg (fun q => cx q.1)]
    exact zOk_ret h0
