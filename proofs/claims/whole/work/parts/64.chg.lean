/-! ===== changes and set-offs told ===== -/
theorem zc_price_b8 {s : zz_M} {d : zD} (h : zC0 s d) (hI : zInv d) {k : Nat} (hk : k ≤ 10) (ek : (d_n d).toNatClampNeg = k) (hn : s.2.2.1 579 = nI k) (kind rate : Int32) : ∀ (j i fuel : Nat), i + j = k → j < fuel → mX0_price_b8 9 s fuel kind rate (f_cost d kind i) (f_all d kind i) (nI i) = some (f_price d kind rate) := by
  intro j
  induction j with
  | zero =>
    intro i fuel hi hf
    obtain ⟨f, rfl⟩ : ∃ f, fuel = f + 1 := ⟨fuel - 1, by omega⟩
    have : i = k := by omega
    subst this
    unfold mX0_price_b8 mX0_price_b77
    rw [show s.2.2.1 (64 * 9 + 3) = nI i from hn, if_pos (show nI i ≤ nI i from Int32.le_iff_toInt_le.mpr (Int.le_refl _))]
    obtain ⟨k2, hk2, e2, ec2, hh⟩ := zi_n hI
    have : k2 = i := by omega
    subst this
    obtain ⟨b1, b2, b3, b4⟩ := f_all_bd hh hk kind k2 (Nat.le_refl _)
    unfold f_price
    rw [ek]
    have e0 : (0 : Int32).toInt = 0 := rfl
    by_cases c : f_all d kind k2 = 0
    · rw [if_pos c, if_pos (by rw [c]; decide)]
    · rw [if_neg c, zz_ck_of c, if_neg]
      rw [Int32.le_iff_toInt_le]
      intro q
      apply c
      apply Int32.toInt_inj.mp
      omega
  | succ j ih =>
    intro i fuel hi hf
    obtain ⟨f, rfl⟩ : ∃ f, fuel = f + 1 := ⟨fuel - 1, by omega⟩
    unfold mX0_price_b8 mX0_price_b58
    have hin := zq_k i (show i < 10 by omega) (show 10 < 2 ^ 31 by decide)
    obtain ⟨q1, q2, q3⟩ := h.2.1.2.1 i (by omega)
    rw [show s.2.2.1 (64 * 9 + 3) = nI k from hn, if_neg (show ¬ nI k ≤ nI i by rw [Int32.le_iff_toInt_le, nI_toInt (by omega), nI_toInt (by omega)]; omega), zz_ck_of hin, zz_ck_of hin, zz_ck_of hin, zz_nm_s, zz_ck_of hin, zz_nm_s, zz_nm_s, zz_nm_s, nI_clamp (by omega), nI_1, show s.1 (9 + 1) i = _ from q1, show s.1 (9 + 2) i = _ from q2, show s.1 (9 + 3) i = _ from q3]
    have := ih (i + 1) f (by omega) (by omega)
    unfold f_cost f_all at this
    by_cases c : d_it d (3 * i) = kind
    · rw [if_pos c, if_pos c] at this
      rw [if_pos c]
      exact this
    · rw [if_neg c, if_neg c] at this
      rw [if_neg c]
      exact this
theorem zc_price {s : zz_M} {d : zD} (h : zC0 s d) (hI : zInv d) (kind rate : Int32) : mX0_price 9 kind rate s = some (f_price d kind rate) := by
  obtain ⟨k, hk, e, ec, -⟩ := zi_n hI
  have := zc_price_b8 h hI hk ec (h.2.1.1.trans e) kind rate k 0 zz_N (by omega) (by unfold zz_N; omega)
  unfold mX0_price
  exact this
theorem zc_isKind (x : Int32) : mX10_isKind x = some (if 0 ≤ x.toInt ∧ x.toInt ≤ 4 then 1 else 0) := by
  unfold mX10_isKind
  rw [zc_isWithin, zz_b1_s, zz_ck_of (zq_b _)]
  rfl
theorem zc_isRate (x : Int32) : mX10_isRate x = some (if 0 ≤ x.toInt ∧ x.toInt ≤ 999 then 1 else 0) := by
  unfold mX10_isRate
  rw [zc_isWithin, zz_b1_s, zz_ck_of (zq_b _)]
  rfl
theorem zr_isKind (x : Int32) : mX11_isKind x = some (if 0 ≤ x.toInt ∧ x.toInt ≤ 4 then 1 else 0) := by
  unfold mX11_isKind
  rw [zr_in32, zz_b1_s, zz_ck_of (zq_b _)]
  rfl
theorem zc_isChanged (x : Int32) : mX10_isChanged x = some (if ¬ x = 0 ∧ -999 ≤ x.toInt ∧ x.toInt ≤ 999 then 1 else 0) := by
  unfold mX10_isChanged mX10_isChanged_b21 mX10_isChanged_b22
  rw [zc_isWithin, zz_b1_s, zz_ti, zz_ck_of (Or.inl rfl), zz_ck_of (Or.inr rfl)]
  have e1 : (-999 : Int32).toInt = -999 := rfl
  have e2 : (999 : Int32).toInt = 999 := rfl
  rw [e1, e2]
  by_cases c : x = 0
  · rw [if_pos c, if_neg (fun q => q.1 c)]
  · rw [if_neg c]
    by_cases c2 : -999 ≤ x.toInt ∧ x.toInt ≤ 999
    · rw [if_pos c2, if_pos ⟨c, c2⟩]
    · rw [if_neg c2, if_neg (fun q => c2 q.2)]
theorem zr_isChanged (x : Int32) : mX11_isChanged x = some (if ¬ x = 0 ∧ -999 ≤ x.toInt ∧ x.toInt ≤ 999 then 1 else 0) := by
  unfold mX11_isChanged mX11_isChanged_b22 mX11_isChanged_b23
  rw [zr_in32, zz_b1_s, zz_ti, zz_ck_of (Or.inl rfl), zz_ck_of (Or.inr rfl)]
  have e1 : (-999 : Int64).toInt = -999 := rfl
  have e2 : (999 : Int64).toInt = 999 := rfl
  rw [e1, e2]
  by_cases c : x = 0
  · rw [if_pos c, if_neg (fun q => q.1 c)]
  · rw [if_neg c]
    by_cases c2 : -999 ≤ x.toInt ∧ x.toInt ≤ 999
    · rw [if_pos c2, if_pos ⟨c, c2⟩]
    · rw [if_neg c2, if_neg (fun q => c2 q.2)]
def d_wch (d : zD) (f : Nat → Int32) (n : Int32) : zD := (d_tm d, d_it d, d_ms d, d_st d, f, d_se d, d_ix d, d_pd d, d_n d, n, d_sm d, d_ho d, d_la d, d_du d, d_gr d)
def d_wse (d : zD) (f : Nat → Int32) (n : Int32) : zD := (d_tm d, d_it d, d_ms d, d_st d, d_ch d, f, d_ix d, d_pd d, d_n d, d_cm d, n, d_ho d, d_la d, d_du d, d_gr d)
theorem zw_I_F (z : zz_M) (q : Nat) (i x : Int32) : (zz_wI z q i x).2.2.1 = z.2.2.1 := rfl
theorem zC_wch {s s' : zz_M} {d : zD} (h : zC s d) {f : Nat → Int32} {n : Int32} (h1 : ∀ q, q < 53 ∨ 56 < q → s'.1 q = s.1 q) (h2 : s'.2.1 63 = s.2.1 63) (h3 : ∀ q, q ≠ 3332 → s'.2.2.1 q = s.2.2.1 q) (en : s'.2.2.1 3332 = n) (hf : ∀ c, c < n.toNatClampNeg → s'.1 53 c = f (4 * c) ∧ s'.1 54 c = f (4 * c + 1) ∧ s'.1 55 c = f (4 * c + 2) ∧ s'.1 56 c = f_price d (f (4 * c + 1)) (f (4 * c + 3))) : zC s' (d_wch d f n) := by
  obtain ⟨⟨a1, a2, a3, a4, a5, a6⟩, b⟩ := h
  refine ⟨⟨zC_tm_cg a1 (h1 _ (by omega)) rfl, zC_it_cg a2 (h1 _ (by omega)) (h1 _ (by omega)) (h1 _ (by omega)) (h3 _ (by omega)) (h3 _ (by omega)) rfl rfl, zC_ms_cg a3 (fun q _ _ => h1 _ (by omega)) (fun k hk => h3 _ (by omega)) rfl rfl rfl, ⟨en, fun c hc => ?_⟩, zC_se_cg a5 (fun q _ _ => h1 _ (by omega)) (h3 _ (by omega)) rfl rfl, zC_sc_cg a6 (fun q _ _ => h3 _ (by omega)) rfl rfl rfl rfl⟩, zC_pd_cg b h2 rfl⟩
  rw [f_price_cg (d := d) (d' := d_wch d f n) rfl rfl]
  exact hf c hc
theorem zC_wse {s s' : zz_M} {d : zD} (h : zC s d) {f : Nat → Int32} {n : Int32} (h1 : ∀ q, q < 58 ∨ 62 < q → s'.1 q = s.1 q) (h2 : s'.2.1 63 = s.2.1 63) (h3 : ∀ q, q ≠ 3653 → s'.2.2.1 q = s.2.2.1 q) (en : s'.2.2.1 3653 = n) (hf : ∀ q, q < n.toNatClampNeg → s'.1 58 q = f (5 * q) ∧ s'.1 59 q = f (5 * q + 1) ∧ s'.1 60 q = f (5 * q + 2) ∧ s'.1 61 q = f (5 * q + 3) ∧ s'.1 62 q = f (5 * q + 4)) : zC s' (d_wse d f n) := by
  obtain ⟨⟨a1, a2, a3, a4, a5, a6⟩, b⟩ := h
  exact ⟨⟨zC_tm_cg a1 (h1 _ (by omega)) rfl, zC_it_cg a2 (h1 _ (by omega)) (h1 _ (by omega)) (h1 _ (by omega)) (h3 _ (by omega)) (h3 _ (by omega)) rfl rfl, zC_ms_cg a3 (fun q _ _ => h1 _ (by omega)) (fun k hk => h3 _ (by omega)) rfl rfl rfl, zC_ch_cg a4 (fun q _ _ => h1 _ (by omega)) (h3 _ (by omega)) rfl rfl rfl rfl, ⟨en, hf⟩, zC_sc_cg a6 (fun q _ _ => h3 _ (by omega)) rfl rfl rfl rfl⟩, zC_pd_cg b h2 rfl⟩
theorem zInv_ch {d : zD} (h : zInv d) {f : Nat → Int32} {k : Nat} (hk : k ≤ 8) (hf : ∀ i : Nat, i < k → (∃ j : Nat, j < 24 ∧ f (4 * i) = nI j) ∧ (∃ j : Nat, j < 5 ∧ f (4 * i + 1) = nI j) ∧ (-999 ≤ (f (4 * i + 2)).toInt ∧ (f (4 * i + 2)).toInt ≤ 999) ∧ ∃ j : Nat, j < 1000 ∧ f (4 * i + 3) = nI j) : zInv (d_wch d f (nI k)) := by
  obtain ⟨a1, a2, a3, a4, a5, a6, a7, a8, a9, b1, b2, b3⟩ := h
  exact ⟨a1, ⟨k, hk, rfl, hf⟩, a3, a4, a5, a6, a7, a8, a9, b1, b2, b3⟩
theorem zInv_se {d : zD} (h : zInv d) {f : Nat → Int32} {k : Nat} (hk : k ≤ 6) (hf : ∀ i : Nat, i < k → (∃ j : Nat, j < 24 ∧ f (5 * i) = nI j) ∧ (∃ j : Nat, 1 ≤ j ∧ j < 100000 ∧ f (5 * i + 1) = nI j) ∧ (∃ j : Nat, j ≤ 24 ∧ f (5 * i + 2) = nI j) ∧ (∃ j : Nat, j ≤ 24 ∧ f (5 * i + 3) = nI j) ∧ (∃ j : Nat, j ≤ 1000 ∧ f (5 * i + 4) = nI j) ∧ (f (5 * i + 2) = 24 → f (5 * i + 3) = 24)) : zInv (d_wse d f (nI k)) := by
  obtain ⟨a1, a2, a3, a4, a5, a6, a7, a8, a9, b1, b2, b3⟩ := h
  exact ⟨a1, a2, ⟨k, hk, rfl, hf⟩, a4, a5, a6, a7, a8, a9, b1, b2, b3⟩
theorem zi_chB {d : zD} (h : zInv d) {i : Nat} (hi : i < (d_cm d).toNatClampNeg) : (∃ j : Nat, j < 24 ∧ d_ch d (4 * i) = nI j) ∧ (∃ j : Nat, j < 5 ∧ d_ch d (4 * i + 1) = nI j) ∧ (-999 ≤ (d_ch d (4 * i + 2)).toInt ∧ (d_ch d (4 * i + 2)).toInt ≤ 999) ∧ ∃ j : Nat, j < 1000 ∧ d_ch d (4 * i + 3) = nI j := by
  obtain ⟨-, ⟨k, hk, e, hh⟩, -⟩ := h
  rw [e, nI_clamp (by omega)] at hi
  exact hh i hi
theorem zi_seB {d : zD} (h : zInv d) {i : Nat} (hi : i < (d_sm d).toNatClampNeg) : (∃ j : Nat, j < 24 ∧ d_se d (5 * i) = nI j) ∧ (∃ j : Nat, 1 ≤ j ∧ j < 100000 ∧ d_se d (5 * i + 1) = nI j) ∧ (∃ j : Nat, j ≤ 24 ∧ d_se d (5 * i + 2) = nI j) ∧ (∃ j : Nat, j ≤ 24 ∧ d_se d (5 * i + 3) = nI j) ∧ (∃ j : Nat, j ≤ 1000 ∧ d_se d (5 * i + 4) = nI j) ∧ (d_se d (5 * i + 2) = 24 → d_se d (5 * i + 3) = 24) := by
  obtain ⟨-, -, ⟨k, hk, e, hh⟩, -⟩ := h
  rw [e, nI_clamp (by omega)] at hi
  exact hh i hi
theorem zc_addC (s : zz_M) {c : Nat} (hc : c < 8) (e : s.2.2.1 3332 = nI c) (a b q p : Int32) : ∃ s', mX3_add a b q p s = some (nI c, s') ∧ s'.2.1 = s.2.1 ∧ (∀ q, q < 53 ∨ 56 < q → s'.1 q = s.1 q) ∧ s'.1 53 = upd (s.1 53) c a ∧ s'.1 54 = upd (s.1 54) c b ∧ s'.1 55 = upd (s.1 55) c q ∧ s'.1 56 = upd (s.1 56) c p ∧ s'.2.2.1 3332 = nI (c + 1) ∧ ∀ q, q ≠ 3332 → s'.2.2.1 q = s.2.2.1 q := by
  have hin := zq_k c hc (show 8 < 2 ^ 31 by decide)
  refine ⟨zz_sF (zz_wI (zz_wI (zz_wI (zz_wI s 53 (nI c) a) 54 (nI c) b) 55 (nI c) q) 56 (nI c) p) 3332 (nI (c + 1)), ?_, rfl, fun k hk => ?_, ?_, ?_, ?_, ?_, rfl, fun k hk => va_up_ne _ _ hk⟩
  · unfold mX3_add
    simp only [zz_nm_s, zw_I_F, e]
    rw [if_pos (show nI c < (8 : Int32) by rw [Int32.lt_iff_toInt_lt, nI_toInt (by omega)]; have : (8 : Int32).toInt = 8 := rfl; omega), zz_ck_of hin, zz_ck_of hin, zz_ck_of hin, zz_ck_of hin, nI_1]
    have e1 : nI (c + 1) - (1 : Int32) = nI c := zq_sub (a := c + 1) (b := 1) (by omega)
    show some (nI (c + 1) - 1, _) = _
    rw [e1]
  · show (zz_wI (zz_wI (zz_wI (zz_wI s 53 (nI c) a) 54 (nI c) b) 55 (nI c) q) 56 (nI c) p).1 k = _
    rw [zw_I_ne _ _ _ (by omega), zw_I_ne _ _ _ (by omega), zw_I_ne _ _ _ (by omega), zw_I_ne _ _ _ (by omega)]
  · show (zz_wI (zz_wI (zz_wI (zz_wI s 53 (nI c) a) 54 (nI c) b) 55 (nI c) q) 56 (nI c) p).1 53 = _
    rw [zw_I_ne _ _ _ (by omega), zw_I_ne _ _ _ (by omega), zw_I_ne _ _ _ (by omega), zw_I_eq _ _ _ (by omega)]
  · show (zz_wI (zz_wI (zz_wI (zz_wI s 53 (nI c) a) 54 (nI c) b) 55 (nI c) q) 56 (nI c) p).1 54 = _
    rw [zw_I_ne _ _ _ (by omega), zw_I_ne _ _ _ (by omega), zw_I_eq _ _ _ (by omega), zw_I_ne _ _ _ (by omega)]
  · show (zz_wI (zz_wI (zz_wI (zz_wI s 53 (nI c) a) 54 (nI c) b) 55 (nI c) q) 56 (nI c) p).1 55 = _
    rw [zw_I_ne _ _ _ (by omega), zw_I_eq _ _ _ (by omega), zw_I_ne _ _ _ (by omega), zw_I_ne _ _ _ (by omega)]
  · show (zz_wI (zz_wI (zz_wI (zz_wI s 53 (nI c) a) 54 (nI c) b) 55 (nI c) q) 56 (nI c) p).1 56 = _
    rw [zw_I_eq _ _ _ (by omega), zw_I_ne _ _ _ (by omega), zw_I_ne _ _ _ (by omega), zw_I_ne _ _ _ (by omega)]
theorem dz_ch (t : zz_M) {c : Nat} (hc : c < 8) (a b q r n : Int32) : dz (zz_sF (zz_wI (zz_wI (zz_wI (zz_wI t 5 (nI (4 * c)) a) 5 (nI (4 * c + 1)) b) 5 (nI (4 * c + 2)) q) 5 (nI (4 * c + 3)) r) 6 n) = d_wch (dz t) (upd (upd (upd (upd (d_ch (dz t)) (4 * c) a) (4 * c + 1) b) (4 * c + 2) q) (4 * c + 3) r) n := by
  show d_wch (dz t) ((zz_wI (zz_wI (zz_wI (zz_wI t 5 (nI (4 * c)) a) 5 (nI (4 * c + 1)) b) 5 (nI (4 * c + 2)) q) 5 (nI (4 * c + 3)) r).1 5) n = _
  rw [zw_I_eq _ _ _ (by omega), zw_I_eq _ _ _ (by omega), zw_I_eq _ _ _ (by omega), zw_I_eq _ _ _ (by omega)]
  rfl
theorem B_change {s t : zz_M} (h : zR s t) (x k q r : Int32) : zOk (mX10_change x k q r s) (mX11_change x k q r t) := by
  have h0 := zR_thr h 0
  unfold mX10_change mX11_change mX10_change_b29 mX11_change_b39
  simp only [zz_nm_s, zw_I_F]
  generalize zz_sF t 19 0 = t0 at h0 ⊢
  obtain ⟨hC, hI, hT, hW⟩ := id h0
  obtain ⟨n, hn, en, en', ec⟩ := zR_cm h0
  rw [zc_isMonth, zr_isMonth, zc_isKind, zr_isKind, zc_isChanged, zr_isChanged, zc_isRate, zr_in32, zz_b1_s, zz_b1_s, zz_b1_s, zz_b1_s, zz_b1_s, zz_b1_s, zz_b1_s, zz_b1_s]
  refine zOk_tst Iff.rfl (fun c => ?_) (fun c => zOk_ret h0)
  refine zOk_tst Iff.rfl (fun ck => ?_) (fun c => zOk_ret h0)
  refine zOk_tst Iff.rfl (fun cq => ?_) (fun c => zOk_ret h0)
  refine zOk_tst Iff.rfl (fun cr => ?_) (fun c => zOk_ret h0)
  obtain ⟨m, hm, rfl⟩ := zq_month c
  obtain ⟨k, hk, rfl⟩ := zq_toNat (n := 4) ck.1 ck.2 (by decide)
  obtain ⟨r, hr, rfl⟩ := zq_toNat (n := 999) cr.1 cr.2 (by decide)
  rw [en, en', zc_price hC.1 hI, zz_b1_s]
  by_cases c8 : n = 8
  · subst c8
    rw [if_neg (show ¬ nI 8 < (8 : Int32) by decide), if_pos (show nI 8 = (8 : Int32) from rfl)]
    exact zOk_ret h0
  · have hn8 : n < 8 := by omega
    rw [if_pos (show nI n < (8 : Int32) by rw [Int32.lt_iff_toInt_lt, nI_toInt (by omega)]; have : (8 : Int32).toInt = 8 := rfl; omega), if_neg (show ¬ nI n = (8 : Int32) from fun e => c8 (by have := congrArg Int32.toInt e; rw [nI_toInt (by omega)] at this; have e8 : (8 : Int32).toInt = 8 := rfl; omega))]
    obtain ⟨s', e1, e2, e3, e4, e5, e6, e7, e8, e9⟩ := zc_addC s hn8 en' (nI m) (nI k) q (f_price (dz t0) (nI k) (nI r))
    rw [e1, zz_b2_s, zq_4, show nI (4 * n) + 1 = nI (4 * n + 1) from nI_1 _, show nI (4 * n) + 2 = nI (4 * n + 2) from nI_add _ 2, show nI (4 * n) + 3 = nI (4 * n + 3) from nI_add _ 3, zz_ck_of (zq_k _ (show 4 * n < 32 by omega) (by decide)), zz_ck_of (zq_k _ (show 4 * n + 1 < 32 by omega) (by decide)), zz_ck_of (zq_k _ (show 4 * n + 2 < 32 by omega) (by decide)), zz_ck_of (zq_k _ (show 4 * n + 3 < 32 by omega) (by decide)), nI_1]
    have er : ∀ z : zz_M, (zz_sF z 6 (nI (n + 1))).2.2.1 6 - (1 : Int32) = nI n := by
      intro z
      show nI (n + 1) - (1 : Int32) = nI n
      exact zq_sub (a := n + 1) (b := 1) (by omega)
    rw [er]
    have hx : ∀ i, i < n → ∀ j, j < 4 → upd (upd (upd (upd (d_ch (dz t0)) (4 * n) (nI m)) (4 * n + 1) (nI k)) (4 * n + 2) q) (4 * n + 3) (nI r) (4 * i + j) = d_ch (dz t0) (4 * i + j) := by
      intro i hi j hj
      rw [upd_off _ _ (by omega), upd_off _ _ (by omega), upd_off _ _ (by omega), upd_off _ _ (by omega)]
    have y0 : upd (upd (upd (upd (d_ch (dz t0)) (4 * n) (nI m)) (4 * n + 1) (nI k)) (4 * n + 2) q) (4 * n + 3) (nI r) (4 * n) = nI m := by
      rw [upd_off _ _ (by omega), upd_off _ _ (by omega), upd_off _ _ (by omega), upd_at]
    have y1 : upd (upd (upd (upd (d_ch (dz t0)) (4 * n) (nI m)) (4 * n + 1) (nI k)) (4 * n + 2) q) (4 * n + 3) (nI r) (4 * n + 1) = nI k := by
      rw [upd_off _ _ (by omega), upd_off _ _ (by omega), upd_at]
    have y2 : upd (upd (upd (upd (d_ch (dz t0)) (4 * n) (nI m)) (4 * n + 1) (nI k)) (4 * n + 2) q) (4 * n + 3) (nI r) (4 * n + 2) = q := by
      rw [upd_off _ _ (by omega), upd_at]
    have y3 : upd (upd (upd (upd (d_ch (dz t0)) (4 * n) (nI m)) (4 * n + 1) (nI k)) (4 * n + 2) q) (4 * n + 3) (nI r) (4 * n + 3) = nI r := upd_at _ _ _
    refine zOk_rete rfl ⟨?_, ?_, zTx_eq hT (e9 _ (by omega)) (e3 2 (by omega)) rfl rfl, zRw_eq hW (e9 _ (by omega)) (by rw [e2]) rfl rfl⟩
    · rw [dz_ch t0 hn8]
      refine zC_wch hC e3 (by rw [e2]) e9 e8 (fun c hc => ?_)
      rw [nI_clamp (by omega)] at hc
      by_cases cn : c = n
      · subst cn
        rw [e4, e5, e6, e7, upd_at, upd_at, upd_at, upd_at, y0, y1, y2, y3]
        exact ⟨rfl, rfl, rfl, rfl⟩
      · have hcn : c < n := by omega
        rw [e4, e5, e6, e7, upd_off _ _ cn, upd_off _ _ cn, upd_off _ _ cn, upd_off _ _ cn, hx c hcn 1 (by omega), hx c hcn 2 (by omega), hx c hcn 3 (by omega), show 4 * c = 4 * c + 0 from rfl, hx c hcn 0 (by omega)]
        exact hC.1.2.2.2.1.2 c (by omega)
    · rw [dz_ch t0 hn8]
      refine zInv_ch hI (by omega) (fun i hi => ?_)
      by_cases cn : i = n
      · subst cn
        rw [y0, y1, y2, y3]
        exact ⟨⟨m, hm, rfl⟩, ⟨k, by omega, rfl⟩, cq.2, ⟨r, by omega, rfl⟩⟩
      · have hcn : i < n := by omega
        rw [hx i hcn 1 (by omega), hx i hcn 2 (by omega), hx i hcn 3 (by omega), show 4 * i = 4 * i + 0 from rfl, hx i hcn 0 (by omega)]
        exact zi_chB hI (by omega)
theorem dz_wI5 (t : zz_M) {m : Nat} (hm : m < 32) (x : Int32) : dz (zz_wI t 5 (nI m) x) = d_wch (dz t) (upd (d_ch (dz t)) m x) (d_cm (dz t)) := by
  show d_wch (dz t) ((zz_wI t 5 (nI m) x).1 5) (d_cm (dz t)) = _
  rw [zw_I_eq t 5 x (by omega)]
  rfl
theorem B_alters {s t : zz_M} (h : zR s t) (x q : Int32) : zOk (mX10_alters x q s) (mX11_alters x q t) := by
  have h0 := zR_thr h 0
  unfold mX10_alters mX11_alters mX10_alters_b21 mX11_alters_b20
  simp only [zz_nm_s]
  generalize zz_sF t 19 0 = t0 at h0 ⊢
  obtain ⟨hC, hI, hT, hW⟩ := id h0
  obtain ⟨n, hn, en, en', ec⟩ := zR_cm h0
  rw [zc_hasC s x (by omega) en', zr_isChange t0 x (by omega) en, zc_isChanged, zr_isChanged, zz_b1_s, zz_b1_s, zz_b1_s, zz_b1_s]
  refine zOk_tst Iff.rfl (fun cx => ?_) (fun c => zOk_ret h0)
  refine zOk_tst Iff.rfl (fun cq => ?_) (fun c => zOk_ret h0)
  obtain ⟨c, hc, rfl⟩ := zq_of_in cx.1 cx.2 (by omega)
  have hin := zq_k c (show c < 8 by omega) (show 8 < 2 ^ 31 by decide)
  have hin2 := zq_k (4 * c + 2) (show 4 * c + 2 < 32 by omega) (show 32 < 2 ^ 31 by decide)
  obtain ⟨p0, p1, p2, p3⟩ := hC.1.2.2.2.1.2 c (by omega)
  rw [zq_42, zz_ck_of hin, zz_ck_of hin2, zz_ck_of hin, zz_ck_of hin2, nI_clamp (show c < 2 ^ 31 by omega), nI_clamp (show 4 * c + 2 < 2 ^ 31 by omega), p2]
  refine zOk_if Iff.rfl (fun _ => zOk_ret h0) (fun _ => ?_)
  refine zOk_rete rfl ⟨?_, ?_, zTx_eq hT rfl (zw_I_ne _ _ _ (by omega)) rfl rfl, zRw_eq hW rfl rfl rfl rfl⟩
  · rw [dz_wI5 t0 (by omega)]
    refine zC_wch hC (fun k hk => zw_I_ne _ _ _ (by omega)) rfl (fun k hk => rfl) hC.1.2.2.2.1.1 (fun i hi => ?_)
    obtain ⟨i0, i1, i2, i3⟩ := hC.1.2.2.2.1.2 i hi
    rw [zw_I_ne _ _ _ (by omega), zw_I_ne _ _ _ (by omega), zw_I_eq _ _ _ (by omega), zw_I_ne _ _ _ (by omega), upd_off (d_ch (dz t0)) _ (show 4 * i ≠ 4 * c + 2 by omega), upd_off (d_ch (dz t0)) _ (show 4 * i + 1 ≠ 4 * c + 2 by omega), upd_off (d_ch (dz t0)) _ (show 4 * i + 3 ≠ 4 * c + 2 by omega)]
    refine ⟨i0, i1, ?_, i3⟩
    by_cases e : i = c
    · subst e; rw [upd_at, upd_at]
    · rw [upd_off _ _ e, upd_off _ _ (by omega)]; exact i2
  · rw [dz_wI5 t0 (by omega), show d_cm (dz t0) = nI n from en]
    refine zInv_ch hI (by omega) (fun i hi => ?_)
    obtain ⟨i0, i1, i2, i3⟩ := zi_chB hI (i := i) (by omega)
    rw [upd_off _ _ (show 4 * i ≠ 4 * c + 2 by omega), upd_off _ _ (show 4 * i + 1 ≠ 4 * c + 2 by omega), upd_off _ _ (show 4 * i + 3 ≠ 4 * c + 2 by omega)]
    refine ⟨i0, i1, ?_, i3⟩
    by_cases e : i = c
    · subst e; rw [upd_at]; exact cq.2
    · rw [upd_off _ _ (by omega)]; exact i2
