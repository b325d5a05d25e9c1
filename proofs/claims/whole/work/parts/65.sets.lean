/-! ===== set-offs ===== -/
theorem zc_addS (s : zz_M) {c : Nat} (hc : c < 6) (e : s.2.2.1 3653 = nI c) (a b : Int32) : ∃ s', mX7_add a b s = some (nI c, s') ∧ s'.2.1 = s.2.1 ∧ (∀ q, q < 58 ∨ 62 < q → s'.1 q = s.1 q) ∧ s'.1 58 = upd (s.1 58) c a ∧ s'.1 59 = upd (s.1 59) c b ∧ s'.1 60 = upd (s.1 60) c 24 ∧ s'.1 61 = upd (s.1 61) c 24 ∧ s'.1 62 = upd (s.1 62) c 0 ∧ s'.2.2.1 3653 = nI (c + 1) ∧ ∀ q, q ≠ 3653 → s'.2.2.1 q = s.2.2.1 q := by
  have hin := zq_k c hc (show 6 < 2 ^ 31 by decide)
  refine ⟨zz_sF (zz_wI (zz_wI (zz_wI (zz_wI (zz_wI s 58 (nI c) a) 59 (nI c) b) 60 (nI c) 24) 61 (nI c) 24) 62 (nI c) 0) 3653 (nI (c + 1)), ?_, rfl, fun k hk => ?_, ?_, ?_, ?_, ?_, ?_, rfl, fun k hk => va_up_ne _ _ hk⟩
  · unfold mX7_add
    simp only [zz_nm_s, zw_I_F, e]
    rw [if_pos (show nI c < (6 : Int32) by rw [Int32.lt_iff_toInt_lt, nI_toInt (by omega)]; have : (6 : Int32).toInt = 6 := rfl; omega), zz_ck_of hin, zz_ck_of hin, zz_ck_of hin, zz_ck_of hin, zz_ck_of hin, nI_1]
    have e1 : nI (c + 1) - (1 : Int32) = nI c := zq_sub (a := c + 1) (b := 1) (by omega)
    show some (nI (c + 1) - 1, _) = _
    rw [e1]
  · show (zz_wI (zz_wI (zz_wI (zz_wI (zz_wI s 58 (nI c) a) 59 (nI c) b) 60 (nI c) 24) 61 (nI c) 24) 62 (nI c) 0).1 k = _
    rw [zw_I_ne _ _ _ (by omega), zw_I_ne _ _ _ (by omega), zw_I_ne _ _ _ (by omega), zw_I_ne _ _ _ (by omega), zw_I_ne _ _ _ (by omega)]
  · show (zz_wI (zz_wI (zz_wI (zz_wI (zz_wI s 58 (nI c) a) 59 (nI c) b) 60 (nI c) 24) 61 (nI c) 24) 62 (nI c) 0).1 58 = _
    rw [zw_I_ne _ _ _ (by omega), zw_I_ne _ _ _ (by omega), zw_I_ne _ _ _ (by omega), zw_I_ne _ _ _ (by omega), zw_I_eq _ _ _ (by omega)]
  · show (zz_wI (zz_wI (zz_wI (zz_wI (zz_wI s 58 (nI c) a) 59 (nI c) b) 60 (nI c) 24) 61 (nI c) 24) 62 (nI c) 0).1 59 = _
    rw [zw_I_ne _ _ _ (by omega), zw_I_ne _ _ _ (by omega), zw_I_ne _ _ _ (by omega), zw_I_eq _ _ _ (by omega), zw_I_ne _ _ _ (by omega)]
  · show (zz_wI (zz_wI (zz_wI (zz_wI (zz_wI s 58 (nI c) a) 59 (nI c) b) 60 (nI c) 24) 61 (nI c) 24) 62 (nI c) 0).1 60 = _
    rw [zw_I_ne _ _ _ (by omega), zw_I_ne _ _ _ (by omega), zw_I_eq _ _ _ (by omega), zw_I_ne _ _ _ (by omega), zw_I_ne _ _ _ (by omega)]
  · show (zz_wI (zz_wI (zz_wI (zz_wI (zz_wI s 58 (nI c) a) 59 (nI c) b) 60 (nI c) 24) 61 (nI c) 24) 62 (nI c) 0).1 61 = _
    rw [zw_I_ne _ _ _ (by omega), zw_I_eq _ _ _ (by omega), zw_I_ne _ _ _ (by omega), zw_I_ne _ _ _ (by omega), zw_I_ne _ _ _ (by omega)]
  · show (zz_wI (zz_wI (zz_wI (zz_wI (zz_wI s 58 (nI c) a) 59 (nI c) b) 60 (nI c) 24) 61 (nI c) 24) 62 (nI c) 0).1 62 = _
    rw [zw_I_eq _ _ _ (by omega), zw_I_ne _ _ _ (by omega), zw_I_ne _ _ _ (by omega), zw_I_ne _ _ _ (by omega), zw_I_ne _ _ _ (by omega)]
theorem dz_se (t : zz_M) {c : Nat} (hc : c < 6) (a b q r u n : Int32) : dz (zz_sF (zz_wI (zz_wI (zz_wI (zz_wI (zz_wI t 6 (nI (5 * c)) a) 6 (nI (5 * c + 1)) b) 6 (nI (5 * c + 2)) q) 6 (nI (5 * c + 3)) r) 6 (nI (5 * c + 4)) u) 8 n) = d_wse (dz t) (upd (upd (upd (upd (upd (d_se (dz t)) (5 * c) a) (5 * c + 1) b) (5 * c + 2) q) (5 * c + 3) r) (5 * c + 4) u) n := by
  show d_wse (dz t) ((zz_wI (zz_wI (zz_wI (zz_wI (zz_wI t 6 (nI (5 * c)) a) 6 (nI (5 * c + 1)) b) 6 (nI (5 * c + 2)) q) 6 (nI (5 * c + 3)) r) 6 (nI (5 * c + 4)) u).1 6) n = _
  rw [zw_I_eq _ _ _ (by omega), zw_I_eq _ _ _ (by omega), zw_I_eq _ _ _ (by omega), zw_I_eq _ _ _ (by omega), zw_I_eq _ _ _ (by omega)]
  rfl
theorem zq_51 (i : Nat) : (5 : Int32) * nI i + (1 : Int32) = nI (5 * i + 1) := by rw [zq_5]; exact nI_1 _
theorem zq_52 (i : Nat) : (5 : Int32) * nI i + (2 : Int32) = nI (5 * i + 2) := by rw [zq_5]; exact nI_add _ 2
theorem zq_53 (i : Nat) : (5 : Int32) * nI i + (3 : Int32) = nI (5 * i + 3) := by rw [zq_5]; exact nI_add _ 3
theorem zq_54 (i : Nat) : (5 : Int32) * nI i + (4 : Int32) = nI (5 * i + 4) := by rw [zq_5]; exact nI_add _ 4
theorem B_setsOff {s t : zz_M} (h : zR s t) (x q : Int32) : zOk (mX10_setsOff x q s) (mX11_setsOff x q t) := by
  have h0 := zR_thr h 0
  unfold mX10_setsOff mX11_setsOff mX10_setsOff_b17 mX11_setsOff_b24
  simp only [zz_nm_s, zw_I_F]
  generalize zz_sF t 19 0 = t0 at h0 ⊢
  obtain ⟨hC, hI, hT, hW⟩ := id h0
  obtain ⟨n, hn, en, en', ec⟩ := zR_sm h0
  rw [zc_isMonth, zr_isMonth, zc_isWithin, zr_in32, zz_b1_s, zz_b1_s, zz_b1_s, zz_b1_s]
  refine zOk_tst Iff.rfl (fun c => ?_) (fun c => zOk_ret h0)
  refine zOk_tst Iff.rfl (fun cq => ?_) (fun c => zOk_ret h0)
  obtain ⟨m, hm, rfl⟩ := zq_month c
  have w1 : (1 : Int32).toInt = 1 := rfl
  obtain ⟨k, hk, rfl⟩ := zq_toNat (n := 99999) (x := q) (by omega) cq.2 (by decide)
  rw [nI_toInt (by omega)] at cq
  rw [en, en']
  by_cases c8 : n = 6
  · subst c8
    rw [if_neg (show ¬ nI 6 < (6 : Int32) by decide), if_pos (show nI 6 = (6 : Int32) from rfl)]
    exact zOk_ret h0
  · have hn8 : n < 6 := by omega
    rw [if_pos (show nI n < (6 : Int32) by rw [Int32.lt_iff_toInt_lt, nI_toInt (by omega)]; have : (6 : Int32).toInt = 6 := rfl; omega), if_neg (show ¬ nI n = (6 : Int32) from fun e => c8 (by have := congrArg Int32.toInt e; rw [nI_toInt (by omega)] at this; have e8 : (6 : Int32).toInt = 6 := rfl; omega))]
    obtain ⟨s', e1, e2, e3, e4, e5, e6, e7, e8, e9, e10⟩ := zc_addS s hn8 en' (nI m) (nI k)
    rw [e1, zz_b2_s, zq_5, show nI (5 * n) + 1 = nI (5 * n + 1) from nI_1 _, show nI (5 * n) + 2 = nI (5 * n + 2) from nI_add _ 2, show nI (5 * n) + 3 = nI (5 * n + 3) from nI_add _ 3, show nI (5 * n) + 4 = nI (5 * n + 4) from nI_add _ 4, zz_ck_of (zq_k _ (show 5 * n < 30 by omega) (by decide)), zz_ck_of (zq_k _ (show 5 * n + 1 < 30 by omega) (by decide)), zz_ck_of (zq_k _ (show 5 * n + 2 < 30 by omega) (by decide)), zz_ck_of (zq_k _ (show 5 * n + 3 < 30 by omega) (by decide)), zz_ck_of (zq_k _ (show 5 * n + 4 < 30 by omega) (by decide)), nI_1]
    have er : ∀ z : zz_M, (zz_sF z 8 (nI (n + 1))).2.2.1 8 - (1 : Int32) = nI n := by
      intro z
      show nI (n + 1) - (1 : Int32) = nI n
      exact zq_sub (a := n + 1) (b := 1) (by omega)
    rw [er]
    generalize hF : upd (upd (upd (upd (upd (d_se (dz t0)) (5 * n) (nI m)) (5 * n + 1) (nI k)) (5 * n + 2) 24) (5 * n + 3) 24) (5 * n + 4) 0 = F
    have hx : ∀ i, i < n → ∀ j, j < 5 → F (5 * i + j) = d_se (dz t0) (5 * i + j) := by
      intro i hi j hj
      rw [← hF, upd_off _ _ (by omega), upd_off _ _ (by omega), upd_off _ _ (by omega), upd_off _ _ (by omega), upd_off _ _ (by omega)]
    have y0 : F (5 * n) = nI m := by
      rw [← hF, upd_off _ _ (by omega), upd_off _ _ (by omega), upd_off _ _ (by omega), upd_off _ _ (by omega), upd_at]
    have y1 : F (5 * n + 1) = nI k := by
      rw [← hF, upd_off _ _ (by omega), upd_off _ _ (by omega), upd_off _ _ (by omega), upd_at]
    have y2 : F (5 * n + 2) = 24 := by
      rw [← hF, upd_off _ _ (by omega), upd_off _ _ (by omega), upd_at]
    have y3 : F (5 * n + 3) = 24 := by
      rw [← hF, upd_off _ _ (by omega), upd_at]
    have y4 : F (5 * n + 4) = 0 := by rw [← hF]; exact upd_at _ _ _
    refine zOk_rete rfl ⟨?_, ?_, zTx_eq hT (e10 _ (by omega)) (e3 2 (by omega)) rfl rfl, zRw_eq hW (e10 _ (by omega)) (by rw [e2]) rfl rfl⟩
    · rw [dz_se t0 hn8, hF]
      refine zC_wse hC e3 (by rw [e2]) e10 e9 (fun c hc => ?_)
      rw [nI_clamp (by omega)] at hc
      by_cases cn : c = n
      · subst cn
        rw [e4, e5, e6, e7, e8, upd_at, upd_at, upd_at, upd_at, upd_at, y0, y1, y2, y3, y4]
        exact ⟨rfl, rfl, rfl, rfl, rfl⟩
      · have hcn : c < n := by omega
        rw [e4, e5, e6, e7, e8, upd_off _ _ cn, upd_off _ _ cn, upd_off _ _ cn, upd_off _ _ cn, upd_off _ _ cn, hx c hcn 1 (by omega), hx c hcn 2 (by omega), hx c hcn 3 (by omega), hx c hcn 4 (by omega), show 5 * c = 5 * c + 0 from rfl, hx c hcn 0 (by omega)]
        exact hC.1.2.2.2.2.1.2 c (by omega)
    · rw [dz_se t0 hn8, hF]
      refine zInv_se hI (by omega) (fun i hi => ?_)
      by_cases cn : i = n
      · subst cn
        rw [y0, y1, y2, y3, y4]
        exact ⟨⟨m, hm, rfl⟩, ⟨k, by omega, by omega, rfl⟩, ⟨24, by omega, rfl⟩, ⟨24, by omega, rfl⟩, ⟨0, by omega, rfl⟩, fun _ => rfl⟩
      · have hcn : i < n := by omega
        rw [hx i hcn 1 (by omega), hx i hcn 2 (by omega), hx i hcn 3 (by omega), hx i hcn 4 (by omega), show 5 * i = 5 * i + 0 from rfl, hx i hcn 0 (by omega)]
        exact zi_seB hI (by omega)
theorem dz_wI6 (t : zz_M) {m : Nat} (hm : m < 30) (x : Int32) : dz (zz_wI t 6 (nI m) x) = d_wse (dz t) (upd (d_se (dz t)) m x) (d_sm (dz t)) := by
  show d_wse (dz t) ((zz_wI t 6 (nI m) x).1 6) (d_sm (dz t)) = _
  rw [zw_I_eq t 6 x (by omega)]
  rfl
theorem zc_isDisputed {s : zz_M} {d : zD} (h : zC0 s d) (hI : zInv d) {c : Nat} (hc : c < (d_sm d).toNatClampNeg) : mX7_isDisputed (nI c) s = some (if d_se d (5 * c + 2) = 24 then 0 else 1) := by
  obtain ⟨k, hk, e, ec⟩ := zi_sm hI
  unfold mX7_isDisputed mX7_isDisputed_b16
  rw [zz_ck_of (zq_k c (show c < 6 by omega) (by decide)), nI_clamp (by omega), (h.2.2.2.2.1.2 c hc).2.2.1, zz_ck_of (Or.inl rfl), zz_ck_of (Or.inr rfl)]
  by_cases q : d_se d (5 * c + 2) = 24
  · rw [if_pos q, if_pos q]
  · rw [if_neg q, if_neg q]
theorem zc_isDecided {s : zz_M} {d : zD} (h : zC0 s d) (hI : zInv d) {c : Nat} (hc : c < (d_sm d).toNatClampNeg) : mX7_isDecided (nI c) s = some (if d_se d (5 * c + 3) = 24 then 0 else 1) := by
  obtain ⟨k, hk, e, ec⟩ := zi_sm hI
  unfold mX7_isDecided mX7_isDecided_b16
  rw [zz_ck_of (zq_k c (show c < 6 by omega) (by decide)), nI_clamp (by omega), (h.2.2.2.2.1.2 c hc).2.2.2.1, zz_ck_of (Or.inl rfl), zz_ck_of (Or.inr rfl)]
  by_cases q : d_se d (5 * c + 3) = 24
  · rw [if_pos q, if_pos q]
  · rw [if_neg q, if_neg q]
theorem zi_24 {v : Int32} (h : ∃ j : Nat, j ≤ 24 ∧ v = nI j) : (24 : Int32) ≤ v ↔ v = 24 := by
  obtain ⟨j, hj, rfl⟩ := h
  rw [Int32.le_iff_toInt_le, nI_toInt (by omega)]
  have e : (24 : Int32).toInt = 24 := rfl
  constructor
  · intro q
    have : j = 24 := by omega
    subst this
    rfl
  · intro q
    have := congrArg Int32.toInt q
    rw [nI_toInt (by omega)] at this
    omega
def f_open (d : zD) : Nat → Int32
  | 0 => 0
  | k + 1 => if ¬ d_se d (5 * k + 2) = 24 ∧ d_se d (5 * k + 3) = 24 then f_open d k + 1 else f_open d k
theorem f_open_s (d : zD) (k : Nat) : f_open d (k + 1) = if ¬ d_se d (5 * k + 2) = 24 ∧ d_se d (5 * k + 3) = 24 then f_open d k + 1 else f_open d k := rfl
theorem zc_open_b4 {s : zz_M} {d : zD} (h : zC0 s d) (hI : zInv d) {k : Nat} (hk : k ≤ 6) (ek : (d_sm d).toNatClampNeg = k) (hn : s.2.2.1 3653 = nI k) : ∀ (j i fuel : Nat), i + j = k → j < fuel → mX7_open_b4 s fuel (f_open d i) (nI i) = some (f_open d k) := by
  intro j
  induction j with
  | zero =>
    intro i fuel hi hf
    obtain ⟨f, rfl⟩ : ∃ f, fuel = f + 1 := ⟨fuel - 1, by omega⟩
    have : i = k := by omega
    subst this
    unfold mX7_open_b4
    rw [hn, if_pos (show nI i ≤ nI i from Int32.le_iff_toInt_le.mpr (Int.le_refl _))]
  | succ j ih =>
    intro i fuel hi hf
    obtain ⟨f, rfl⟩ : ∃ f, fuel = f + 1 := ⟨fuel - 1, by omega⟩
    unfold mX7_open_b4 mX7_open_b31
    rw [hn, if_neg (show ¬ nI k ≤ nI i by rw [Int32.le_iff_toInt_le, nI_toInt (by omega), nI_toInt (by omega)]; omega), zc_isDisputed h hI (by omega), zz_b1_s, zz_tj, zc_isDecided h hI (by omega), zz_b1_s, zz_tj, zz_nm_s, zz_nm_s, zz_nm_s, nI_1]
    have := ih (i + 1) f (by omega) (by omega)
    rw [f_open_s] at this
    by_cases c : d_se d (5 * i + 2) = 24
    · rw [if_neg (fun q => q.1 c)] at this
      rw [if_pos c]
      exact this
    · rw [if_neg c]
      by_cases c2 : d_se d (5 * i + 3) = 24
      · rw [if_pos ⟨c, c2⟩] at this
        rw [if_pos c2]
        exact this
      · rw [if_neg (fun q => c2 q.2)] at this
        rw [if_neg c2]
        exact this
theorem zc_open {s : zz_M} {d : zD} (h : zC0 s d) (hI : zInv d) : mX7_open s = some (f_open d (d_sm d).toNatClampNeg) := by
  obtain ⟨k, hk, e, ec⟩ := zi_sm hI
  have := zc_open_b4 h hI hk ec (h.2.2.2.2.1.1.trans e) k 0 zz_N (by omega) (by unfold zz_N; omega)
  rw [ec]
  unfold mX7_open
  exact this
theorem zr_open_b4 (z : zz_M) (hI : zInv (dz z)) {k : Nat} (hk : k ≤ 6) (ek : (d_sm (dz z)).toNatClampNeg = k) (hn : z.2.2.1 8 = nI k) : ∀ (j i fuel : Nat), i + j = k → j < fuel → mX11_openDisputes_b4 z fuel (f_open (dz z) i) (nI i) = some (f_open (dz z) k) := by
  intro j
  induction j with
  | zero =>
    intro i fuel hi hf
    obtain ⟨f, rfl⟩ : ∃ f, fuel = f + 1 := ⟨fuel - 1, by omega⟩
    have : i = k := by omega
    subst this
    unfold mX11_openDisputes_b4
    rw [hn, if_pos (show nI i ≤ nI i from Int32.le_iff_toInt_le.mpr (Int.le_refl _))]
  | succ j ih =>
    intro i fuel hi hf
    obtain ⟨f, rfl⟩ : ∃ f, fuel = f + 1 := ⟨fuel - 1, by omega⟩
    unfold mX11_openDisputes_b4 mX11_openDisputes_b47 mX11_openDisputes_b48
    obtain ⟨-, -, g2, g3, -⟩ := zi_seB hI (i := i) (by omega)
    rw [hn, if_neg (show ¬ nI k ≤ nI i by rw [Int32.le_iff_toInt_le, nI_toInt (by omega), nI_toInt (by omega)]; omega), zq_52, zq_53, zz_ck_of (zq_k _ (show 5 * i + 2 < 30 by omega) (by decide)), zz_ck_of (zq_k _ (show 5 * i + 3 < 30 by omega) (by decide)), nI_clamp (show 5 * i + 2 < 2 ^ 31 by omega), nI_clamp (show 5 * i + 3 < 2 ^ 31 by omega), zz_nm_s, zz_nm_s, zz_nm_s, zz_nm_s, nI_1, show ∀ v : Int32, v + 0 = v from fun v => by simp]
    have := ih (i + 1) f (by omega) (by omega)
    rw [f_open_s] at this
    have g2' := zi_24 g2
    by_cases c : d_se (dz z) (5 * i + 2) = 24
    · rw [if_neg (fun q => q.1 c)] at this
      rw [if_pos (show (24 : Int32) ≤ z.1 6 (5 * i + 2) from g2'.mpr c)]
      exact this
    · rw [if_neg (show ¬ (24 : Int32) ≤ z.1 6 (5 * i + 2) from fun q => c (g2'.mp q))]
      by_cases c2 : d_se (dz z) (5 * i + 3) = 24
      · rw [if_pos ⟨c, c2⟩] at this
        rw [if_pos (show z.1 6 (5 * i + 3) = 24 from c2)]
        exact this
      · rw [if_neg (fun q => c2 q.2)] at this
        rw [if_neg (show ¬ z.1 6 (5 * i + 3) = 24 from c2)]
        exact this
theorem zr_open (z : zz_M) (hI : zInv (dz z)) : mX11_openDisputes z = some (f_open (dz z) (d_sm (dz z)).toNatClampNeg) := by
  obtain ⟨k, hk, e, ec⟩ := zi_sm hI
  have := zr_open_b4 z hI hk ec e k 0 zz_N (by omega) (by unfold zz_N; omega)
  rw [ec]
  unfold mX11_openDisputes
  exact this
theorem zc_isDispute {s : zz_M} {d : zD} (h : zC0 s d) {n : Nat} (hn : n ≤ 6) (en : s.2.2.1 3653 = nI n) (ec : (d_sm d).toNatClampNeg = n) (x m : Int32) : mX10_isDispute x m s = some (if (0 ≤ x.toInt ∧ x.toInt < n) ∧ (0 ≤ m.toInt ∧ m.toInt ≤ 23) ∧ d_se d (5 * x.toNatClampNeg) ≤ m then 1 else 0) := by
  unfold mX10_isDispute mX10_isDispute_b41 mX10_isDispute_b42
  rw [zc_hasS s x (by omega) en, zc_isMonth, zz_b1_s, zz_b1_s, zz_ti, zz_ti]
  by_cases c : 0 ≤ x.toInt ∧ x.toInt < n
  · obtain ⟨i, hi, rfl⟩ := zq_of_in c.1 c.2 (by omega)
    rw [zz_ck_of (zq_k i (show i < 6 by omega) (by decide)), nI_clamp (by omega), (h.2.2.2.2.1.2 i (by omega)).1, zz_ck_of (Or.inl rfl), zz_ck_of (Or.inr rfl)]
    rw [if_pos c]
    by_cases c2 : 0 ≤ m.toInt ∧ m.toInt ≤ 23
    · rw [if_pos c2]
      by_cases c3 : d_se d (5 * i) ≤ m
      · rw [if_neg (show ¬ m < d_se d (5 * i) from zi_nlt.mpr c3), if_pos ⟨c, c2, c3⟩]
      · rw [if_pos (show m < d_se d (5 * i) from zi_nle.mp c3), if_neg (fun q => c3 q.2.2)]
    · rw [if_neg c2, if_neg (fun q => c2 q.2.1)]
  · rw [if_neg c, if_neg (fun q => c q.1), zz_ck_of (Or.inl rfl)]
theorem zInv_seu {d : zD} (h : zInv d) {n c : Nat} (hn : n ≤ 6) (en : d_sm d = nI n) {f : Nat → Int32} (hf : ∀ i, i < n → i ≠ c → ∀ j, j < 5 → f (5 * i + j) = d_se d (5 * i + j)) (hc : c < n → (∃ j : Nat, j < 24 ∧ f (5 * c) = nI j) ∧ (∃ j : Nat, 1 ≤ j ∧ j < 100000 ∧ f (5 * c + 1) = nI j) ∧ (∃ j : Nat, j ≤ 24 ∧ f (5 * c + 2) = nI j) ∧ (∃ j : Nat, j ≤ 24 ∧ f (5 * c + 3) = nI j) ∧ (∃ j : Nat, j ≤ 1000 ∧ f (5 * c + 4) = nI j) ∧ (f (5 * c + 2) = 24 → f (5 * c + 3) = 24)) : zInv (d_wse d f (nI n)) := by
  refine zInv_se h hn (fun i hi => ?_)
  by_cases e : i = c
  · subst e; exact hc hi
  · rw [hf i hi e 1 (by omega), hf i hi e 2 (by omega), hf i hi e 3 (by omega), hf i hi e 4 (by omega), show 5 * i = 5 * i + 0 from rfl, hf i hi e 0 (by omega)]
    exact zi_seB h (by rw [en, nI_clamp (by omega)]; exact hi)
/-- a dispute told: both memories -/
theorem nI_not24 {k : Nat} (h : k < 24) : ¬ nI k = (24 : Int32) := by
  intro e
  have := congrArg Int32.toInt e
  rw [nI_toInt (by omega)] at this
  have e2 : (24 : Int32).toInt = 24 := rfl
  omega
theorem zD_disp {s t : zz_M} (h : zC s (dz t)) (hI : zInv (dz t)) {c : Nat} (hc : c < (d_sm (dz t)).toNatClampNeg) (hc6 : c < 6) {v : Int32} (hv : ∃ j : Nat, j ≤ 24 ∧ v = nI j) (hv2 : v = 24 → d_se (dz t) (5 * c + 3) = 24) : zC (zz_wI s 60 (nI c) v) (dz (zz_wI t 6 (nI (5 * c + 2)) v)) ∧ zInv (dz (zz_wI t 6 (nI (5 * c + 2)) v)) := by
  obtain ⟨n, hn, en, ec⟩ := zi_sm hI
  rw [dz_wI6 t (by omega)]
  constructor
  · refine zC_wse h (fun q hq => zw_I_ne _ _ _ (by omega)) rfl (fun _ _ => rfl) h.1.2.2.2.2.1.1 (fun i hi => ?_)
    obtain ⟨p0, p1, p2, p3, p4⟩ := h.1.2.2.2.2.1.2 i hi
    rw [zw_I_ne _ _ _ (by omega), zw_I_ne _ _ _ (by omega), zw_I_eq _ _ _ (by omega), zw_I_ne _ _ _ (by omega), zw_I_ne _ _ _ (by omega), upd_off (d_se (dz t)) _ (show 5 * i ≠ 5 * c + 2 by omega), upd_off (d_se (dz t)) _ (show 5 * i + 1 ≠ 5 * c + 2 by omega), upd_off (d_se (dz t)) _ (show 5 * i + 3 ≠ 5 * c + 2 by omega), upd_off (d_se (dz t)) _ (show 5 * i + 4 ≠ 5 * c + 2 by omega)]
    refine ⟨p0, p1, ?_, p3, p4⟩
    by_cases e : i = c
    · subst e; rw [upd_at, upd_at]
    · rw [upd_off _ _ e, upd_off _ _ (by omega)]; exact p2
  · rw [en]
    refine zInv_seu hI (c := c) hn en (fun i hi e j hj => upd_off _ _ (by omega)) (fun hc2 => ?_)
    obtain ⟨p0, p1, p2, p3, p4, p5⟩ := zi_seB hI hc
    rw [upd_off (d_se (dz t)) _ (show 5 * c ≠ 5 * c + 2 by omega), upd_off (d_se (dz t)) _ (show 5 * c + 1 ≠ 5 * c + 2 by omega), upd_off (d_se (dz t)) _ (show 5 * c + 3 ≠ 5 * c + 2 by omega), upd_off (d_se (dz t)) _ (show 5 * c + 4 ≠ 5 * c + 2 by omega), upd_at]
    exact ⟨p0, p1, hv, p3, p4, hv2⟩
theorem zD_deci {s t : zz_M} (h : zC s (dz t)) (hI : zInv (dz t)) {c : Nat} (hc : c < (d_sm (dz t)).toNatClampNeg) (hc6 : c < 6) {v : Int32} (hv : ∃ j : Nat, j ≤ 24 ∧ v = nI j) (hv2 : d_se (dz t) (5 * c + 2) = 24 → v = 24) : zC (zz_wI s 61 (nI c) v) (dz (zz_wI t 6 (nI (5 * c + 3)) v)) ∧ zInv (dz (zz_wI t 6 (nI (5 * c + 3)) v)) := by
  obtain ⟨n, hn, en, ec⟩ := zi_sm hI
  rw [dz_wI6 t (by omega)]
  constructor
  · refine zC_wse h (fun q hq => zw_I_ne _ _ _ (by omega)) rfl (fun _ _ => rfl) h.1.2.2.2.2.1.1 (fun i hi => ?_)
    obtain ⟨p0, p1, p2, p3, p4⟩ := h.1.2.2.2.2.1.2 i hi
    rw [zw_I_ne _ _ _ (by omega), zw_I_ne _ _ _ (by omega), zw_I_ne _ _ _ (by omega), zw_I_eq _ _ _ (by omega), zw_I_ne _ _ _ (by omega), upd_off (d_se (dz t)) _ (show 5 * i ≠ 5 * c + 3 by omega), upd_off (d_se (dz t)) _ (show 5 * i + 1 ≠ 5 * c + 3 by omega), upd_off (d_se (dz t)) _ (show 5 * i + 2 ≠ 5 * c + 3 by omega), upd_off (d_se (dz t)) _ (show 5 * i + 4 ≠ 5 * c + 3 by omega)]
    refine ⟨p0, p1, p2, ?_, p4⟩
    by_cases e : i = c
    · subst e; rw [upd_at, upd_at]
    · rw [upd_off _ _ e, upd_off _ _ (by omega)]; exact p3
  · rw [en]
    refine zInv_seu hI (c := c) hn en (fun i hi e j hj => upd_off _ _ (by omega)) (fun hc2 => ?_)
    obtain ⟨p0, p1, p2, p3, p4, p5⟩ := zi_seB hI hc
    rw [upd_off (d_se (dz t)) _ (show 5 * c ≠ 5 * c + 3 by omega), upd_off (d_se (dz t)) _ (show 5 * c + 1 ≠ 5 * c + 3 by omega), upd_off (d_se (dz t)) _ (show 5 * c + 2 ≠ 5 * c + 3 by omega), upd_off (d_se (dz t)) _ (show 5 * c + 4 ≠ 5 * c + 3 by omega), upd_at]
    exact ⟨p0, p1, p2, hv, p4, hv2⟩
theorem zD_uphe {s t : zz_M} (h : zC s (dz t)) (hI : zInv (dz t)) {c : Nat} (hc : c < (d_sm (dz t)).toNatClampNeg) (hc6 : c < 6) {v : Int32} (hv : ∃ j : Nat, j ≤ 1000 ∧ v = nI j) : zC (zz_wI s 62 (nI c) v) (dz (zz_wI t 6 (nI (5 * c + 4)) v)) ∧ zInv (dz (zz_wI t 6 (nI (5 * c + 4)) v)) := by
  obtain ⟨n, hn, en, ec⟩ := zi_sm hI
  rw [dz_wI6 t (by omega)]
  constructor
  · refine zC_wse h (fun q hq => zw_I_ne _ _ _ (by omega)) rfl (fun _ _ => rfl) h.1.2.2.2.2.1.1 (fun i hi => ?_)
    obtain ⟨p0, p1, p2, p3, p4⟩ := h.1.2.2.2.2.1.2 i hi
    rw [zw_I_ne _ _ _ (by omega), zw_I_ne _ _ _ (by omega), zw_I_ne _ _ _ (by omega), zw_I_ne _ _ _ (by omega), zw_I_eq _ _ _ (by omega), upd_off (d_se (dz t)) _ (show 5 * i ≠ 5 * c + 4 by omega), upd_off (d_se (dz t)) _ (show 5 * i + 1 ≠ 5 * c + 4 by omega), upd_off (d_se (dz t)) _ (show 5 * i + 2 ≠ 5 * c + 4 by omega), upd_off (d_se (dz t)) _ (show 5 * i + 3 ≠ 5 * c + 4 by omega)]
    refine ⟨p0, p1, p2, p3, ?_⟩
    by_cases e : i = c
    · subst e; rw [upd_at, upd_at]
    · rw [upd_off _ _ e, upd_off _ _ (by omega)]; exact p4
  · rw [en]
    refine zInv_seu hI (c := c) hn en (fun i hi e j hj => upd_off _ _ (by omega)) (fun hc2 => ?_)
    obtain ⟨p0, p1, p2, p3, p4, p5⟩ := zi_seB hI hc
    rw [upd_off (d_se (dz t)) _ (show 5 * c ≠ 5 * c + 4 by omega), upd_off (d_se (dz t)) _ (show 5 * c + 1 ≠ 5 * c + 4 by omega), upd_off (d_se (dz t)) _ (show 5 * c + 2 ≠ 5 * c + 4 by omega), upd_off (d_se (dz t)) _ (show 5 * c + 3 ≠ 5 * c + 4 by omega), upd_at]
    exact ⟨p0, p1, p2, p3, hv, p5⟩
theorem B_disputes {s t : zz_M} (h : zR s t) (x m : Int32) : zOk (mX10_disputes x m s) (mX11_disputes x m t) := by
  have h0 := zR_thr h 0
  unfold mX10_disputes mX11_disputes mX11_disputes_b32
  simp only [zz_nm_s]
  generalize zz_sF t 19 0 = t0 at h0 ⊢
  obtain ⟨hC, hI, hT, hW⟩ := id h0
  obtain ⟨n, hn, en, en', ec⟩ := zR_sm h0
  rw [zc_isDispute hC.1 hn en' ec, zz_b1_s, zz_ti, zr_isSet t0 x (by omega) en, zz_b1_s, zz_ti, zr_isMonth, zz_b1_s, zz_ti]
  by_cases cx : 0 ≤ x.toInt ∧ x.toInt < n
  · rw [if_pos cx]
    obtain ⟨c, hc, rfl⟩ := zq_of_in cx.1 cx.2 (by omega)
    by_cases cm : 0 ≤ m.toInt ∧ m.toInt ≤ 23
    · simp only [nI_clamp (show c < 2 ^ 31 by omega)]
      rw [if_pos cm, zq_52, zq_5, zz_ck_of (zq_k _ (show 5 * c < 30 by omega) (by decide)), nI_clamp (show 5 * c < 2 ^ 31 by omega), zz_ck_of (zq_k _ (show 5 * c + 2 < 30 by omega) (by decide)), zz_ck_of (zq_k _ (show 5 * c + 2 < 30 by omega) (by decide)), nI_clamp (show 5 * c + 2 < 2 ^ 31 by omega)]
      by_cases c3 : d_se (dz t0) (5 * c) ≤ m
      · obtain ⟨k, hk, rfl⟩ := zq_month cm
        rw [if_pos ⟨cx, cm, c3⟩, if_pos (show t0.1 6 (5 * c) ≤ nI k from c3), zc_isDisputed hC.1 hI (by omega), zz_b1_s, zz_tj, zz_ck_of (zq_k c (show c < 6 by omega) (by decide))]
        have g := zi_24 (zi_seB hI (i := c) (by omega)).2.2.1
        refine zOk_if g.symm (fun _ => ?_) (fun _ => zOk_ret h0)
        obtain ⟨hC', hI'⟩ := zD_disp hC hI (c := c) (by omega) (by omega) (v := nI k) ⟨k, by omega, rfl⟩ (fun e => absurd e (nI_not24 hk))
        rw [zc_open hC'.1 hI', zr_open _ hI', zz_b1_s, zz_b1_s]
        exact zOk_ret ⟨hC', hI', zTx_eq hT rfl (zw_I_ne _ _ _ (by omega)) rfl rfl, zRw_eq hW rfl rfl rfl rfl⟩
      · rw [if_neg (fun q => c3 q.2.2), if_neg (show ¬ t0.1 6 (5 * c) ≤ m from c3)]
        exact zOk_ret h0
    · rw [if_neg cm, if_neg (fun q => cm q.2.1)]
      exact zOk_ret h0
  · rw [if_neg cx, if_neg (fun q => cx q.1)]
    exact zOk_ret h0
theorem B_decides {s t : zz_M} (h : zR s t) (x m u : Int32) : zOk (mX10_decides x m u s) (mX11_decides x m u t) := by
  have h0 := zR_thr h 0
  unfold mX10_decides mX11_decides mX10_decides_b64 mX11_decides_b65 mX10_decides_b36 mX11_decides_b32
  simp only [zz_nm_s]
  generalize zz_sF t 19 0 = t0 at h0 ⊢
  obtain ⟨hC, hI, hT, hW⟩ := id h0
  obtain ⟨n, hn, en, en', ec⟩ := zR_sm h0
  rw [zc_hasS s x (by omega) en', zr_isSet t0 x (by omega) en, zz_b1_s, zz_b1_s, zc_isMonth, zr_isMonth, zz_b1_s, zz_b1_s, zc_isWithin, zr_in32, zz_b1_s, zz_b1_s]
  refine zOk_tst Iff.rfl (fun cx => ?_) (fun c => zOk_ret h0)
  refine zOk_tst Iff.rfl (fun cm => ?_) (fun c => zOk_ret h0)
  refine zOk_tst Iff.rfl (fun cu => ?_) (fun c => zOk_ret h0)
  obtain ⟨c, hc, rfl⟩ := zq_of_in cx.1 cx.2 (by omega)
  obtain ⟨k, hk, rfl⟩ := zq_month cm
  obtain ⟨v, hv, rfl⟩ := zq_toNat (n := 1000) (x := u) cu.1 cu.2 (by decide)
  have i2 := zq_k (5 * c + 2) (show 5 * c + 2 < 30 by omega) (show 30 < 2 ^ 31 by decide)
  have i3 := zq_k (5 * c + 3) (show 5 * c + 3 < 30 by omega) (show 30 < 2 ^ 31 by decide)
  have i4 := zq_k (5 * c + 4) (show 5 * c + 4 < 30 by omega) (show 30 < 2 ^ 31 by decide)
  have ic := zq_k c (show c < 6 by omega) (show 6 < 2 ^ 31 by decide)
  rw [zc_isDisputed hC.1 hI (by omega), zz_b1_s, zc_isDecided hC.1 hI (by omega), zz_b1_s]
  simp only [zz_tj]
  rw [zq_52, zq_53, zq_54]
  simp only [zz_ck_of ic, zz_ck_of i2, zz_ck_of i3, zz_ck_of i4, nI_clamp (show 5 * c + 2 < 2 ^ 31 by omega), nI_clamp (show 5 * c + 3 < 2 ^ 31 by omega), nI_clamp (show c < 2 ^ 31 by omega)]
  obtain ⟨-, -, b2, b3, -⟩ := zi_seB hI (i := c) (by omega)
  have g2 : (24 : Int32) ≤ t0.1 6 (5 * c + 2) ↔ d_se (dz t0) (5 * c + 2) = 24 := zi_24 b2
  have g3 : (24 : Int32) ≤ t0.1 6 (5 * c + 3) ↔ d_se (dz t0) (5 * c + 3) = 24 := zi_24 b3
  have g2' : t0.1 6 (5 * c + 2) = d_se (dz t0) (5 * c + 2) := rfl
  refine zOk_if g2.symm (fun q => ?_) (fun q => ?_)
  · rw [g2', if_pos q, if_pos q]
    exact zOk_ret h0
  · rw [(hC.1.2.2.2.2.1.2 c (by omega)).2.2.1]
    refine zOk_if Iff.rfl (fun q2 => ?_) (fun q2 => zOk_ret h0)
    rw [g2', if_neg q, if_neg q]
    refine zOk_if g3.symm (fun q3 => ?_) (fun q3 => zOk_ret h0)
    obtain ⟨hC1, hI1⟩ := zD_deci hC hI (c := c) (by omega) (by omega) (v := nI k) ⟨k, by omega, rfl⟩ (fun e => absurd e q)
    obtain ⟨hC2, hI2⟩ := zD_uphe hC1 hI1 (c := c) (show c < (d_sm (dz t0)).toNatClampNeg by omega) (by omega) (v := nI v) ⟨v, by omega, rfl⟩
    rw [zc_heldIn hC2.1 hI2 (show c < (d_sm (dz t0)).toNatClampNeg by omega), zr_heldOf _ (by omega), zz_b1_s, zz_b1_s]
    exact zOk_ret ⟨hC2, hI2, zTx_eq hT rfl (by rw [zw_I_ne _ _ _ (by omega), zw_I_ne _ _ _ (by omega)]) rfl rfl, zRw_eq hW rfl rfl rfl rfl⟩
