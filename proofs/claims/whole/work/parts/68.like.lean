/-! ===== like, leads, above ===== -/
def f_lr (d : zD) (kind : Int32) : Nat → Int32
  | 0 => 0
  | k + 1 => if d_it d (3 * k) = kind then (if f_lr d kind k = 0 then d_it d (3 * k + 2) else if d_it d (3 * k + 2) < f_lr d kind k then d_it d (3 * k + 2) else f_lr d kind k) else f_lr d kind k
def f_mr (d : zD) (kind : Int32) : Nat → Int32
  | 0 => 0
  | k + 1 => if d_it d (3 * k) = kind then (if f_mr d kind k < d_it d (3 * k + 2) then d_it d (3 * k + 2) else f_mr d kind k) else f_mr d kind k
theorem f_lr_s (d : zD) (kind : Int32) (k : Nat) : f_lr d kind (k + 1) = if d_it d (3 * k) = kind then (if f_lr d kind k = 0 then d_it d (3 * k + 2) else if d_it d (3 * k + 2) < f_lr d kind k then d_it d (3 * k + 2) else f_lr d kind k) else f_lr d kind k := rfl
theorem f_mr_s (d : zD) (kind : Int32) (k : Nat) : f_mr d kind (k + 1) = if d_it d (3 * k) = kind then (if f_mr d kind k < d_it d (3 * k + 2) then d_it d (3 * k + 2) else f_mr d kind k) else f_mr d kind k := rfl
theorem nI_lt_n {k i : Nat} (hk : k < 2 ^ 31) (h : i < k) : ¬ nI k ≤ nI i := by
  rw [Int32.le_iff_toInt_le, nI_toInt (by omega), nI_toInt (by omega)]; omega
theorem nI_le_r (i : Nat) : nI i ≤ nI i := Int32.le_iff_toInt_le.mpr (Int.le_refl _)
theorem zc_lr_b4 {s : zz_M} {d : zD} (h : zC0 s d) {k : Nat} (hk : k ≤ 10) (ek : (d_n d).toNatClampNeg = k) (hn : s.2.2.1 579 = nI k) (kind : Int32) : ∀ (j i fuel : Nat), i + j = k → j < fuel → mX0_leastRate_b4 9 s fuel kind (f_lr d kind i) (nI i) = some (f_lr d kind k) := by
  intro j
  induction j with
  | zero =>
    intro i fuel hi hf
    obtain ⟨f, rfl⟩ : ∃ f, fuel = f + 1 := ⟨fuel - 1, by omega⟩
    have : i = k := by omega
    subst this
    unfold mX0_leastRate_b4
    rw [show s.2.2.1 (64 * 9 + 3) = nI i from hn, if_pos (nI_le_r i)]
  | succ j ih =>
    intro i fuel hi hf
    obtain ⟨f, rfl⟩ : ∃ f, fuel = f + 1 := ⟨fuel - 1, by omega⟩
    unfold mX0_leastRate_b4 mX0_leastRate_b36 mX0_leastRate_b43
    have hin := zq_k i (show i < 10 by omega) (show 10 < 2 ^ 31 by decide)
    rw [show s.2.2.1 (64 * 9 + 3) = nI k from hn, if_neg (nI_lt_n (by omega) (by omega)), zz_ck_of hin, zz_ck_of hin, zz_nm_s, zz_nm_s, zz_nm_s, zz_ck_of hin, nI_clamp (by omega), nI_1, show s.1 (9 + 1) i = _ from (h.2.1.2.1 i (by omega)).1, show s.1 (9 + 3) i = _ from (h.2.1.2.1 i (by omega)).2.2]
    have := ih (i + 1) f (by omega) (by omega)
    rw [f_lr_s] at this
    by_cases c : d_it d (3 * i) = kind
    · rw [if_pos c] at this
      rw [if_pos c]
      by_cases c2 : f_lr d kind i = 0
      · rw [if_pos c2] at this
        rw [if_pos c2]
        exact this
      · rw [if_neg c2] at this
        rw [if_neg c2]
        by_cases c3 : d_it d (3 * i + 2) < f_lr d kind i
        · rw [if_pos c3] at this
          rw [if_neg (zi_nle.mpr c3)]
          exact this
        · rw [if_neg c3] at this
          rw [if_pos (zi_nlt.mp c3)]
          exact this
    · rw [if_neg c] at this
      rw [if_neg c]
      exact this
theorem zc_mr_b4 {s : zz_M} {d : zD} (h : zC0 s d) {k : Nat} (hk : k ≤ 10) (ek : (d_n d).toNatClampNeg = k) (hn : s.2.2.1 579 = nI k) (kind : Int32) : ∀ (j i fuel : Nat), i + j = k → j < fuel → mX0_greatestRate_b4 9 s fuel kind (f_mr d kind i) (nI i) = some (f_mr d kind k) := by
  intro j
  induction j with
  | zero =>
    intro i fuel hi hf
    obtain ⟨f, rfl⟩ : ∃ f, fuel = f + 1 := ⟨fuel - 1, by omega⟩
    have : i = k := by omega
    subst this
    unfold mX0_greatestRate_b4
    rw [show s.2.2.1 (64 * 9 + 3) = nI i from hn, if_pos (nI_le_r i)]
  | succ j ih =>
    intro i fuel hi hf
    obtain ⟨f, rfl⟩ : ∃ f, fuel = f + 1 := ⟨fuel - 1, by omega⟩
    unfold mX0_greatestRate_b4 mX0_greatestRate_b33
    have hin := zq_k i (show i < 10 by omega) (show 10 < 2 ^ 31 by decide)
    rw [show s.2.2.1 (64 * 9 + 3) = nI k from hn, if_neg (nI_lt_n (by omega) (by omega)), zz_ck_of hin, zz_ck_of hin, zz_nm_s, zz_nm_s, zz_nm_s, nI_clamp (by omega), nI_1, show s.1 (9 + 1) i = _ from (h.2.1.2.1 i (by omega)).1, show s.1 (9 + 3) i = _ from (h.2.1.2.1 i (by omega)).2.2]
    have := ih (i + 1) f (by omega) (by omega)
    rw [f_mr_s] at this
    by_cases c : d_it d (3 * i) = kind
    · rw [if_pos c] at this
      rw [if_pos c]
      exact this
    · rw [if_neg c] at this
      rw [if_neg c]
      exact this
theorem zc_leastRate {s : zz_M} {d : zD} (h : zC0 s d) (hI : zInv d) (kind : Int32) : mX0_leastRate 9 kind s = some (f_lr d kind (d_n d).toNatClampNeg) := by
  obtain ⟨k, hk, e, ec, -⟩ := zi_n hI
  have := zc_lr_b4 h hk ec (h.2.1.1.trans e) kind k 0 zz_N (by omega) (by unfold zz_N; omega)
  rw [ec]
  unfold mX0_leastRate
  exact this
theorem zc_greatestRate {s : zz_M} {d : zD} (h : zC0 s d) (hI : zInv d) (kind : Int32) : mX0_greatestRate 9 kind s = some (f_mr d kind (d_n d).toNatClampNeg) := by
  obtain ⟨k, hk, e, ec, -⟩ := zi_n hI
  have := zc_mr_b4 h hk ec (h.2.1.1.trans e) kind k 0 zz_N (by omega) (by unfold zz_N; omega)
  rw [ec]
  unfold mX0_greatestRate
  exact this
theorem zr_like_b34 (z : zz_M) {k : Nat} (hk : k ≤ 10) (hn : z.2.2.1 2 = nI k) (kind rate : Int32) : ∀ (j i fuel : Nat), i + j = k → j < fuel → ∃ f, mX11_like_b34 fuel kind rate (f_lr (dz z) kind i) (f_mr (dz z) kind i) (nI i) z = mX11_like_b34 (f + 1) kind rate (f_lr (dz z) kind k) (f_mr (dz z) kind k) (nI k) z := by
  intro j
  induction j with
  | zero =>
    intro i fuel hi hf
    obtain ⟨f, rfl⟩ : ∃ f, fuel = f + 1 := ⟨fuel - 1, by omega⟩
    have : i = k := by omega
    subst this
    exact ⟨f, rfl⟩
  | succ j ih =>
    intro i fuel hi hf
    obtain ⟨f, rfl⟩ : ∃ f, fuel = f + 1 := ⟨fuel - 1, by omega⟩
    obtain ⟨f2, this⟩ := ih (i + 1) f (by omega) (by omega)
    refine ⟨f2, ?_⟩
    conv => lhs; unfold mX11_like_b34 mX11_like_b79 mX11_like_b93
    rw [hn, if_neg (nI_lt_n (by omega) (by omega)), zr_kind z (show i < 10 by omega), zz_b1_s, zr_rate z (show i < 10 by omega), zz_b1_s, zz_b1_s, zz_b1_s, zz_b1_s, zz_nm_s, zz_nm_s, zz_nm_s, zz_nm_s, zz_nm_s, nI_1]
    rw [f_lr_s, f_mr_s] at this
    rw [show z.1 2 (3 * i) = d_it (dz z) (3 * i) from rfl, show z.1 2 (3 * i + 2) = d_it (dz z) (3 * i + 2) from rfl]
    by_cases c : d_it (dz z) (3 * i) = kind
    · rw [if_pos c, if_pos c] at this
      rw [if_pos c]
      by_cases c2 : f_lr (dz z) kind i = 0
      · rw [if_pos c2] at this
        rw [if_pos c2]
        exact this
      · rw [if_neg c2] at this
        rw [if_neg c2]
        exact this
    · rw [if_neg c, if_neg c] at this
      rw [if_neg c]
      exact this
theorem B_like {s t : zz_M} (h : zR s t) (x v : Int32) : zOk (mX10_like x v s) (mX11_like x v t) := by
  have h0 := zR_thr h 0
  unfold mX10_like mX11_like mX10_like_b14 mX11_like_b24
  rw [zz_nm_s]
  generalize zz_sF t 19 0 = t0 at h0 ⊢
  obtain ⟨hC, hI, hT, hW⟩ := id h0
  obtain ⟨n, hn, en, en', ec⟩ := zR_n h0
  rw [zc_isKind, zr_isKind, zc_isRate, zr_in32, zz_b1_s, zz_b1_s, zz_b1_s, zz_b1_s]
  refine zOk_tst Iff.rfl (fun c => ?_) (fun c => zOk_ret h0)
  refine zOk_tst Iff.rfl (fun cv => ?_) (fun c => zOk_ret h0)
  obtain ⟨f, ef⟩ := zr_like_b34 t0 hn en x v n 0 zz_N (by omega) (by unfold zz_N; omega)
  rw [show f_lr (dz t0) x 0 = 0 from rfl, show f_mr (dz t0) x 0 = 0 from rfl, nI_0] at ef
  rw [ef]
  unfold mX11_like_b34
  rw [en, if_pos (nI_le_r n), zz_nm_s]
  generalize hd : dz t0 = d at *
  obtain ⟨s1, a1, b1⟩ := zc_start s ((f_bits d x n).toInt64)
  obtain ⟨s2, a2, b2⟩ := zc_then b1 (by simp) ((f_lr d x n).toInt64)
  obtain ⟨s3, a3, b3⟩ := zc_then b2 (by simp) ((f_mr d x n).toInt64)
  have q0 := zr_row0 t0
  obtain ⟨t1, x1, y1⟩ := zr_tell q0 (by simp) ((f_bits d x n).toInt64)
  obtain ⟨t2, x2, y2⟩ := zr_tell y1 (by simp) ((f_lr d x n).toInt64)
  obtain ⟨t3, x3, y3⟩ := zr_tell y2 (by simp) ((f_mr d x n).toInt64)
  have hI0 : zInv (dz t0) := by rw [hd]; exact hI
  rw [zc_likeBits hC.1 hI, zz_b1_s, ec, a1, zz_b2_s, zc_leastRate (b1.c0 hC.1) hI, zz_b1_s, ec, a2, zz_b2_s, zc_greatestRate (b2.c0 hC.1) hI, zz_b1_s, ec, a3, zz_b2_s, zc_price (b3.c0 hC.1) hI, zz_b1_s]
  rw [zr_likeBits _ (q0.i hI0), zz_b1_s, q0.d, hd, ec, x1, zz_b2_s, x2, zz_b2_s, x3, zz_b2_s, zr_priceOf _ (y3.i hI0), zz_b1_s, y3.d, hd]
  exact zOk_ret (zR_row h0 b3 y3 (by simp))
theorem J_leads {s t : zz_M} (h : zR s t) {n : Nat} (hn : n ≤ 10) (en : t.2.2.1 2 = nI n) (en' : s.2.2.1 579 = nI n) (ec : (d_n (dz t)).toNatClampNeg = n) {m : Nat} (hm : m < 24) : ∀ (j i fuel best : Nat), best < n → i + j = n → j < fuel → zOk (mX10_leads_b29 fuel (nI m) (nI best) (nI i) s) (mX11_leads_b28 fuel (nI m) (nI best) (nI i) t) := by
  obtain ⟨hC, hI, hT, hW⟩ := id h
  intro j
  induction j with
  | zero =>
    intro i fuel best hb hi hf
    obtain ⟨f, rfl⟩ : ∃ f, fuel = f + 1 := ⟨fuel - 1, by omega⟩
    have : i = n := by omega
    subst this
    unfold mX10_leads_b29 mX11_leads_b28
    obtain ⟨s1, a1, b1⟩ := zc_start s (f_grow (dz t) m best)
    have q0 := zr_row0 t
    obtain ⟨t1, x1, y1⟩ := zr_tell q0 (by simp) (f_grow (dz t) m best)
    rw [en, en', if_pos (nI_le_r i), if_pos (nI_le_r i), zz_nm_s, zc_partMore hC.1 hI hm (by omega), zz_b1_s, a1, zz_b2_s, zr_grown _ hm (by omega), zz_b1_s, q0.d, x1, zz_b2_s]
    exact zOk_ret (zR_row h b1 y1 (by simp))
  | succ j ih =>
    intro i fuel best hb hi hf
    obtain ⟨f, rfl⟩ : ∃ f, fuel = f + 1 := ⟨fuel - 1, by omega⟩
    unfold mX10_leads_b29 mX11_leads_b28 mX10_leads_b67 mX11_leads_b54
    rw [en, en', if_neg (nI_lt_n (by omega) (by omega)), if_neg (nI_lt_n (by omega) (by omega)), zc_partMore hC.1 hI hm (by omega), zz_b1_s, zc_partMore hC.1 hI hm (by omega), zz_b1_s, zr_grown _ hm (by omega), zz_b1_s, zr_grown _ hm (by omega), zz_b1_s, zz_nm_s, zz_nm_s, zz_nm_s, zz_nm_s, nI_1]
    exact zOk_if Iff.rfl (fun _ => ih (i + 1) f best hb (by omega) (by omega)) (fun _ => ih (i + 1) f i (by omega) (by omega) (by omega))
theorem B_leads {s t : zz_M} (h : zR s t) (x : Int32) : zOk (mX10_leads x s) (mX11_leads x t) := by
  have h0 := zR_thr h 0
  unfold mX10_leads mX11_leads
  rw [zz_nm_s]
  generalize zz_sF t 19 0 = t0 at h0 ⊢
  obtain ⟨n, hn, en, en', ec⟩ := zR_n h0
  rw [zc_isMonth, zr_isMonth, zz_b1_s, zz_b1_s, en, en']
  refine zOk_tst Iff.rfl (fun c => ?_) (fun c => zOk_ret h0)
  obtain ⟨m, hm, rfl⟩ := zq_month c
  refine zOk_if Iff.rfl (fun c => zOk_ret h0) (fun c => ?_)
  have hn0 : 0 < n := by
    rcases Nat.eq_zero_or_pos n with e | e
    · subst e; exact absurd rfl c
    · exact e
  exact J_leads h0 hn en en' ec hm (n - 1) 1 zz_N 0 hn0 (by omega) (by unfold zz_N; omega)
theorem J_above {s t : zz_M} (h : zR s t) {n : Nat} (hn : n ≤ 10) (en : t.2.2.1 2 = nI n) (en' : s.2.2.1 579 = nI n) (ec : (d_n (dz t)).toNatClampNeg = n) {m : Nat} (hm : m < 24) : ∀ (j i fuel : Nat) (v2 v3 v4 : Int32), i + j = n → j < fuel → zOk (mX10_above_b19 fuel (nI m) v2 v3 v4 (nI i) s) (mX11_above_b24 fuel (nI m) v2 v3 v4 (nI i) t) := by
  obtain ⟨hC, hI, hT, hW⟩ := id h
  intro j
  induction j with
  | zero =>
    intro i fuel v2 v3 v4 hi hf
    obtain ⟨f, rfl⟩ : ∃ f, fuel = f + 1 := ⟨fuel - 1, by omega⟩
    have : i = n := by omega
    subst this
    unfold mX10_above_b19 mX11_above_b24
    obtain ⟨s1, a1, b1⟩ := zc_start s v3.toInt64
    obtain ⟨s2, a2, b2⟩ := zc_then b1 (by simp) v4.toInt64
    have q0 := zr_row0 t
    obtain ⟨t1, x1, y1⟩ := zr_tell q0 (by simp) v3.toInt64
    obtain ⟨t2, x2, y2⟩ := zr_tell y1 (by simp) v4.toInt64
    rw [en, en', if_pos (nI_le_r i), if_pos (nI_le_r i), zz_nm_s, a1, zz_b2_s, a2, zz_b2_s, x1, zz_b2_s, x2, zz_b2_s]
    exact zOk_ret (zR_row h b2 y2 (by simp))
  | succ j ih =>
    intro i fuel v2 v3 v4 hi hf
    obtain ⟨f, rfl⟩ : ∃ f, fuel = f + 1 := ⟨fuel - 1, by omega⟩
    have hi' : i < 10 := by omega
    have key : ∀ w2 w3 : Int32, ∀ o3 : Int32, zOk (zz_nm (w3 ||| o3) (fun n3 => if nI m ≤ (0 : Int32) then zz_nm (v4 ||| 0) (fun n1 => zz_nm (nI i + (1 : Int32)) (fun n2 => mX10_above_b19 f (nI m) w2 n3 n1 n2 s)) else (zz_b1 (mX2_done (nI i) (nI m - (1 : Int32)) s) (fun r5 => if r5 ≤ f_done (dz t) m i then zz_nm (v4 ||| 0) (fun n1 => zz_nm (nI i + (1 : Int32)) (fun n2 => mX10_above_b19 f (nI m) w2 n3 n1 n2 s)) else zz_nm (v4 ||| ((1 : Int32) <<< (nI i &&& 31))) (fun n1 => zz_nm (nI i + (1 : Int32)) (fun n2 => mX10_above_b19 f (nI m) w2 n3 n1 n2 s)))))) (zz_nm (w3 ||| o3) (fun n3 => if nI m ≤ (0 : Int32) then zz_nm (v4 ||| 0) (fun n1 => zz_nm (nI i + (1 : Int32)) (fun n2 => mX11_above_b24 f (nI m) w2 n3 n1 n2 t)) else (zz_b1 (mX11_doneOf (nI m - (1 : Int32)) (nI i) t) (fun r5 => if r5 ≤ f_done (dz t) m i then zz_nm (v4 ||| 0) (fun n1 => zz_nm (nI i + (1 : Int32)) (fun n2 => mX11_above_b24 f (nI m) w2 n3 n1 n2 t)) else zz_nm (v4 ||| ((1 : Int32) <<< (nI i &&& 31))) (fun n1 => zz_nm (nI i + (1 : Int32)) (fun n2 => mX11_above_b24 f (nI m) w2 n3 n1 n2 t)))))) := by
      intro w2 w3 o3
      rw [zz_nm_s, zz_nm_s, zz_nm_s, zz_nm_s, zz_nm_s, zz_nm_s, zz_nm_s, zz_nm_s, zz_nm_s, zz_nm_s, nI_1]
      refine zOk_if Iff.rfl (fun _ => ih _ _ _ _ _ (by omega) (by omega)) (fun c => ?_)
      cases m with
      | zero => exact absurd (show nI 0 ≤ (0 : Int32) by decide) c
      | succ m =>
        rw [nI_pred, zc_done hC.1 (by omega) hi', zr_doneOf _ (by omega) hi', zz_b1_s, zz_b1_s]
        exact zOk_if Iff.rfl (fun _ => ih _ _ _ _ _ (by omega) (by omega)) (fun c => ih _ _ _ _ _ (by omega) (by omega))
    have key2 : ∀ w2 o2 : Int32, zOk (mX10_above_b77 (mX10_above_b19 f) (nI m) v3 v4 (nI i) ((1 : Int32) <<< (nI i &&& 31)) (f_done (dz t) m i) o2 w2 s) (mX11_above_b62 (mX11_above_b24 f) (nI m) v3 v4 (nI i) (f_done (dz t) m i) o2 w2 t) := by
      intro w2 o2
      unfold mX10_above_b77 mX11_above_b62
      rw [zz_nm_s, zz_nm_s, zc_isAboveCap hC.1 hI hm (by omega), zz_b1_s, zr_cap _ hi', zz_b1_s, zz_tj]
      exact zOk_if Iff.rfl (fun _ => key _ _ _) (fun _ => key _ _ _)
    unfold mX10_above_b19 mX11_above_b24
    rw [en, en', if_neg (nI_lt_n (by omega) (by omega)), if_neg (nI_lt_n (by omega) (by omega)), zz_nm_s, zc_done hC.1 hm hi', zz_b1_s, zz_ck_of (zq_k i hi' (by decide)), nI_clamp (by omega), (hC.1.2.1.2.1 i (by omega)).2.1, zr_doneOf _ hm hi', zz_b1_s, zr_quantity _ hi', zz_b1_s]
    exact zOk_if Iff.rfl (fun _ => key2 _ _) (fun _ => key2 _ _)
theorem B_above {s t : zz_M} (h : zR s t) (x : Int32) : zOk (mX10_above x s) (mX11_above x t) := by
  have h0 := zR_thr h 0
  unfold mX10_above mX11_above
  rw [zz_nm_s]
  generalize zz_sF t 19 0 = t0 at h0 ⊢
  obtain ⟨n, hn, en, en', ec⟩ := zR_n h0
  rw [zc_isMonth, zr_isMonth, zz_b1_s, zz_b1_s]
  refine zOk_tst Iff.rfl (fun c => ?_) (fun c => zOk_ret h0)
  obtain ⟨m, hm, rfl⟩ := zq_month c
  have := J_above h0 hn en en' ec hm n 0 zz_N 0 0 0 (by omega) (by unfold zz_N; omega)
  rw [nI_0] at this
  exact this
