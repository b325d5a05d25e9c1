/-! ===== ends ===== -/
/-- the last month told ahead of one -/
def f_dl (g : Nat → Int32) : Nat → Int32
  | 0 => -1
  | m + 1 => if g m = -9999 then f_dl g m else nI m
theorem f_dl_s (g : Nat → Int32) (m : Nat) : f_dl g (m + 1) = if g m = -9999 then f_dl g m else nI m := rfl
theorem f_dl_in (g : Nat → Int32) : ∀ k, (f_dl g k = -1 ∧ ∀ j, j < k → g j = -9999) ∨ ∃ l, l < k ∧ f_dl g k = nI l ∧ g l ≠ -9999 := by
  intro k
  induction k with
  | zero => exact Or.inl ⟨rfl, fun j hj => absurd hj (by omega)⟩
  | succ k ih =>
    rw [f_dl_s]
    by_cases c : g k = -9999
    · rw [if_pos c]
      rcases ih with ⟨e, hn⟩ | ⟨l, hl, e, hg⟩
      · refine Or.inl ⟨e, fun j hj => ?_⟩
        by_cases q : j = k
        · subst q; exact c
        · exact hn j (by omega)
      · exact Or.inr ⟨l, by omega, e, hg⟩
    · rw [if_neg c]
      exact Or.inr ⟨k, by omega, rfl, c⟩
theorem zc_lastTold_b4 {s : zz_M} {k : Nat} {g : Nat → Int32} {w : Int32} (h : zSer s k g w) (hg : ∀ j, j < 24 → g j ≠ -1) : ∀ (i fuel : Nat), i ≤ 24 → i < fuel → mX6_lastToldAhead_b4 k s fuel (nI i + (-1 : Int32)) = some (f_dl g i) := by
  intro i
  induction i with
  | zero =>
    intro fuel _ hf
    obtain ⟨f, rfl⟩ : ∃ f, fuel = f + 1 := ⟨fuel - 1, by omega⟩
    rw [mX6_lastToldAhead_b4, nI_neg1, if_pos (show (-1 : Int32) < 0 by decide)]
    rfl
  | succ i ih =>
    intro fuel hi hf
    obtain ⟨f, rfl⟩ : ∃ f, fuel = f + 1 := ⟨fuel - 1, by omega⟩
    have hi' : i < 24 := by omega
    rw [mX6_lastToldAhead_b4, zq_pred, if_neg (nI_nn (by omega)), zc_isTold s k hi', zz_b1_s, (h.1 i hi').1, zz_tj, zz_nm_s, ih f (by omega) (by omega), f_dl_s]
    by_cases c : g i = -9999
    · rw [if_pos c, if_pos ((f_told_no (hg i hi')).mpr c)]
    · rw [if_neg c, if_neg (fun q => c ((f_told_no (hg i hi')).mp q))]
theorem nI_sub1 (k : Nat) : nI k - (1 : Int32) = nI k + (-1 : Int32) := by
  rw [Int32.sub_eq_add_neg]
theorem zc_lastTold {s : zz_M} {k : Nat} {g : Nat → Int32} {w : Int32} (h : zSer s k g w) (hg : ∀ j, j < 24 → g j ≠ -1) {i : Nat} (hi : i ≤ 24) : mX6_lastToldAhead k (nI i) s = some (f_dl g i) := by
  unfold mX6_lastToldAhead
  rw [zz_nm_s, nI_sub1, zc_lastTold_b4 h hg i zz_N hi (by unfold zz_N; omega)]
theorem zc_firstAt_b2 {s : zz_M} {k : Nat} {g : Nat → Int32} {w : Int32} (h : zSer s k g w) (v : Int32) : ∀ (j i fuel : Nat), i + j = 24 → j < fuel → mX6_firstAtLeast_b2 k s fuel v (nI i) = some (f_ff (fun m => v ≤ f_last g w m) j i) := by
  intro j
  induction j with
  | zero =>
    intro i fuel hi hf
    obtain ⟨f, rfl⟩ : ∃ f, fuel = f + 1 := ⟨fuel - 1, by omega⟩
    have : i = 24 := by omega
    subst this
    rw [mX6_firstAtLeast_b2, if_pos (show (24 : Int32) ≤ nI 24 by decide)]
    rfl
  | succ j ih =>
    intro i fuel hi hf
    obtain ⟨f, rfl⟩ : ∃ f, fuel = f + 1 := ⟨fuel - 1, by omega⟩
    have hi' : i < 24 := by omega
    rw [mX6_firstAtLeast_b2, if_neg (show ¬ (24 : Int32) ≤ nI i from nI_ge hi' (by decide)), zz_ck_of (zq_k i hi' (by decide)), nI_clamp (by omega), (h.1 i hi').2, zz_nm_s, nI_1, ih (i + 1) f (by omega) (by omega)]
    conv => rhs; unfold f_ff
    by_cases c : v ≤ f_last g w i
    · rw [if_pos c, if_neg (zi_nlt.mpr c)]
    · rw [if_neg c, if_pos (zi_nle.mp c)]
/-- the pace, by the months told -/
def f_pace (g : Nat → Int32) (l : Nat) (a : Int32) : Int32 := if a = -1 then g l else (g l - g a.toNatClampNeg) / (nI l - a)
theorem f_last_told {g : Nat → Int32} {w : Int32} {m : Nat} (h : g m ≠ -9999) : f_last g w m = g m := by rw [f_last_bef, if_neg h]
theorem nI_sub_ne {l a : Nat} (h : a < l) (hl : l < 2 ^ 31) : ¬ nI l - nI a = 0 := by
  rw [zq_sub (by omega)]
  exact nI_pos_eq (by omega) (by omega)
theorem zc_pace {s : zz_M} {k : Nat} {g : Nat → Int32} {w : Int32} (h : zSer s k g w) (hg : ∀ j, j < 24 → g j ≠ -1) {l : Nat} (hl : l < 24) (hgl : g l ≠ -9999) : mX6_pace k (nI l) s = some (f_pace g l (f_dl g l)) := by
  unfold mX6_pace mX6_pace_b16 f_pace
  have hin := zq_k l hl (show 24 < 2 ^ 31 by decide)
  have e1 : s.1 (16 + 3 * k + 2) l = g l := by rw [(h.1 l hl).2, f_last_told hgl]
  rw [zc_lastTold h hg (by omega), zz_b1_s]
  rcases f_dl_in g l with ⟨e, hn⟩ | ⟨a, ha, e, hga⟩
  · rw [e, if_pos rfl, if_pos rfl, zz_ck_of hin, nI_clamp (by omega), e1]
  · rw [e, if_neg (nI_not1 (by omega)), if_neg (nI_not1 (by omega)), if_pos ((nI_ltI (by omega) (by omega)).mpr ha), zz_ck_of hin, zz_ck_of (zq_k a (show a < 24 by omega) (by decide)), zz_ck_of (nI_sub_ne ha (by omega)), nI_clamp (show l < 2 ^ 31 by omega), nI_clamp (show a < 2 ^ 31 by omega), e1, (h.1 a (by omega)).2, f_last_told hga]
theorem zr_ends_b61 (z : zz_M) {i : Nat} (hi : i < 10) : ∀ (k fuel : Nat), k ≤ 24 → k < fuel → mX11_ends_b61 fuel (nI i) (nI k + (-1 : Int32)) z = mX11_ends_b88 (nI i) (f_dl (fun m => z.1 3 (10 * m + i)) k) z := by
  intro k
  induction k with
  | zero =>
    intro fuel _ hf
    obtain ⟨f, rfl⟩ : ∃ f, fuel = f + 1 := ⟨fuel - 1, by omega⟩
    rw [mX11_ends_b61, nI_neg1, if_pos (show (-1 : Int32) < 0 by decide)]
    rfl
  | succ k ih =>
    intro fuel hk hf
    obtain ⟨f, rfl⟩ : ∃ f, fuel = f + 1 := ⟨fuel - 1, by omega⟩
    rw [mX11_ends_b61, zq_pred, if_neg (nI_nn (by omega)), zq_10, zz_ck_of (zq_k _ (show 10 * k + i < 240 by omega) (by decide)), nI_clamp (by omega), zz_nm_s, ih f (by omega) (by omega), f_dl_s]
    by_cases c : z.1 3 (10 * k + i) = -9999
    · rw [if_pos c, if_pos c]
    · rw [if_neg c, if_neg c]
theorem zr_ends_b99 (z : zz_M) {i : Nat} (hi : i < 10) (l : Nat) : ∀ (k fuel : Nat), k ≤ 24 → k < fuel → mX11_ends_b99 fuel (nI i) (nI l) (nI k + (-1 : Int32)) z = mX11_ends_b126 (nI i) (nI l) (f_dl (fun m => z.1 3 (10 * m + i)) k) z := by
  intro k
  induction k with
  | zero =>
    intro fuel _ hf
    obtain ⟨f, rfl⟩ : ∃ f, fuel = f + 1 := ⟨fuel - 1, by omega⟩
    rw [mX11_ends_b99, nI_neg1, if_pos (show (-1 : Int32) < 0 by decide)]
    rfl
  | succ k ih =>
    intro fuel hk hf
    obtain ⟨f, rfl⟩ : ∃ f, fuel = f + 1 := ⟨fuel - 1, by omega⟩
    rw [mX11_ends_b99, zq_pred, if_neg (nI_nn (by omega)), zq_10, zz_ck_of (zq_k _ (show 10 * k + i < 240 by omega) (by decide)), nI_clamp (by omega), zz_nm_s, ih f (by omega) (by omega), f_dl_s]
    by_cases c : z.1 3 (10 * k + i) = -9999
    · rw [if_pos c, if_pos c]
    · rw [if_neg c, if_neg c]
theorem zr_ends_b17 (z : zz_M) {i : Nat} (hi : i < 10) : ∀ (j m fuel : Nat), m + j = 24 → j < fuel → mX11_ends_b17 fuel (nI i) (nI m) z = if f_ff (fun m => z.1 2 (3 * i + 1) ≤ f_done (dz z) m i) j m = -1 then mX11_ends_b61 zz_N (nI i) (23 : Int32) z else zz_nm (zz_sF z 18 (0 : Int32)) (fun z30 => zz_b2 (mX11_tell (0 : Int64) z30) (fun r31 z33 => some (f_ff (fun m => z.1 2 (3 * i + 1) ≤ f_done (dz z) m i) j m, z33))) := by
  intro j
  induction j with
  | zero =>
    intro m fuel hm hf
    obtain ⟨f, rfl⟩ : ∃ f, fuel = f + 1 := ⟨fuel - 1, by omega⟩
    have : m = 24 := by omega
    subst this
    rw [mX11_ends_b17, if_pos (show (24 : Int32) ≤ nI 24 by decide), if_pos (show f_ff (fun m => z.1 2 (3 * i + 1) ≤ f_done (dz z) m i) 0 24 = -1 from rfl)]
  | succ j ih =>
    intro m fuel hm hf
    obtain ⟨f, rfl⟩ : ∃ f, fuel = f + 1 := ⟨fuel - 1, by omega⟩
    have hm' : m < 24 := by omega
    rw [mX11_ends_b17, if_neg (show ¬ (24 : Int32) ≤ nI m from nI_ge hm' (by decide)), zr_doneOf z hm' hi, zz_b1_s, zr_quantity z hi, zz_b1_s]
    by_cases c : z.1 2 (3 * i + 1) ≤ f_done (dz z) m i
    · have e : f_ff (fun m => z.1 2 (3 * i + 1) ≤ f_done (dz z) m i) (j + 1) m = nI m := by unfold f_ff; rw [if_pos c]
      rw [e, if_pos c, if_neg (nI_not1 (by omega))]
    · have e : f_ff (fun m => z.1 2 (3 * i + 1) ≤ f_done (dz z) m i) (j + 1) m = f_ff (fun m => z.1 2 (3 * i + 1) ≤ f_done (dz z) m i) j (m + 1) := by conv => lhs; unfold f_ff; rw [if_neg c]
      rw [e, if_neg c, zz_nm_s, nI_1, ih (m + 1) f (by omega) (by omega)]
theorem f_last_un {g : Nat → Int32} {w : Int32} : ∀ m, (∀ j, j ≤ m → g j = -9999) → f_last g w m = w := by
  intro m
  induction m with
  | zero => intro h; rw [f_last, if_pos (h 0 (by omega))]
  | succ m ih => intro h; rw [f_last, if_pos (h (m + 1) (by omega))]; exact ih (fun j hj => h j (by omega))
theorem B_ends {s t : zz_M} (h : zR s t) (x : Int32) : zOk (mX10_ends x s) (mX11_ends x t) := by
  have h0 := zR_thr h 0
  unfold mX10_ends mX11_ends
  rw [zz_nm_s]
  generalize zz_sF t 19 0 = t0 at h0 ⊢
  obtain ⟨hC, hI, hT, hW⟩ := id h0
  obtain ⟨n, hn, en, en', ec⟩ := zR_n h0
  rw [zc_hasI s x (by omega) en', zr_isItem t0 x (by omega) en, zz_b1_s, zz_b1_s]
  refine zOk_tst Iff.rfl (fun c => ?_) (fun c => zOk_ret h0)
  obtain ⟨i, hi, rfl⟩ := zq_of_in c.1 c.2 (by omega)
  have hi' : i < 10 := by omega
  have hS := hC.1.2.2.1.1 i hi'
  have hg := zi_ms1 hI hi'
  obtain ⟨-, eq, -⟩ := hC.1.2.1.2.1 i (by omega)
  obtain ⟨-, ⟨q, q1, q2, hq⟩, -⟩ := (zi_n hI).choose_spec.2.2.2 i (by have := (zi_n hI).choose_spec.2.2.1; omega)
  have e24 := zc_lastTold hS hg (i := 24) (by omega)
  have eff := zc_firstAt_b2 hS (d_it (dz t0) (3 * i + 1)) 24 0 zz_N (by omega) (by unfold zz_N; omega)
  have eff' : mX6_firstAtLeast i (d_it (dz t0) (3 * i + 1)) s = _ := eff
  have r17 := zr_ends_b17 t0 hi' 24 0 zz_N (by omega) (by unfold zz_N; omega)
  have r17' : mX11_ends_b17 zz_N (nI i) 0 t0 = _ := r17
  have r61 := zr_ends_b61 t0 hi' 24 zz_N (by omega) (by unfold zz_N; omega)
  rw [show nI 24 + (-1 : Int32) = 23 by decide] at r61
  have hff : f_ff (fun m => t0.1 2 (3 * i + 1) ≤ f_done (dz t0) m i) 24 0 = f_ff (fun m => d_it (dz t0) (3 * i + 1) ≤ f_last (fun m => d_ms (dz t0) (10 * m + i)) 0 m) 24 0 := rfl
  have hdl : f_dl (fun m => t0.1 3 (10 * m + i)) = f_dl (fun m => d_ms (dz t0) (10 * m + i)) := rfl
  have e24' : mX6_lastToldAhead (nI i).toNatClampNeg 24 s = some (f_dl (fun m => d_ms (dz t0) (10 * m + i)) 24) := by rw [nI_clamp (show i < 2 ^ 31 by omega)]; exact e24
  rw [zz_ck_of (zq_k i hi' (by decide)), e24', zz_b1_s, zz_ck_of (zq_k i hi' (by decide)), nI_clamp (show i < 2 ^ 31 by omega), zz_nm_s, eq, eff', zz_b1_s, r17', r61, hff, hdl]
  generalize hgg : (fun m => d_ms (dz t0) (10 * m + i)) = g at *
  have hgj : ∀ j, t0.1 3 (10 * j + i) = g j := fun j => by rw [← hgg]; rfl
  have hg' : ∀ j, j < 24 → g j ≠ -1 := fun j hj => by rw [← hgg]; exact hg j hj
  rcases f_dl_in g 24 with ⟨e, hun⟩ | ⟨l, hl, e, hgl⟩
  · have hno : f_ff (fun m => d_it (dz t0) (3 * i + 1) ≤ f_last g 0 m) 24 0 = -1 := by
      rcases f_ff_in (fun m => d_it (dz t0) (3 * i + 1) ≤ f_last g 0 m) 24 0 with ⟨e2, -⟩ | ⟨k, h1, h2, h3, -⟩
      · exact e2
      · exfalso
        rw [f_last_un k (fun j hj => hun j (by omega)), hq, Int32.le_iff_toInt_le, nI_toInt (by omega)] at h3
        have e0 : (0 : Int32).toInt = 0 := rfl
        omega
    unfold mX11_ends_b88
    rw [e, if_pos rfl, hno, if_pos rfl, if_neg (show ¬ (0 : Int32) ≤ -1 by decide)]
    exact zOk_ret h0
  · rw [e, if_neg (nI_not1 (by omega))]
    refine zOk_if Iff.rfl (fun _ => ?_) (fun _ => ?_)
    · have r99 := zr_ends_b99 t0 hi' l l zz_N (by omega) (by unfold zz_N; omega)
      unfold mX11_ends_b88
      rw [zc_pace hS hg' hl hgl, zz_b1_s, if_pos (show (0 : Int32) ≤ nI l from nI_le (a := 0) (by omega) (by omega)), zz_nm_s, nI_sub1, r99, hdl]
      unfold mX11_ends_b126
      rw [zq_10, zz_ck_of (zq_k _ (show 10 * l + i < 240 by omega) (by decide)), zz_nm_s, nI_clamp (show 10 * l + i < 2 ^ 31 by omega), hgj l]
      have key : zOk (if (0 : Int32) < f_pace g l (f_dl g l) then zz_b2 (mX5_start (f_pace g l (f_dl g l)).toInt64 s) (fun r16 z18 => zz_b1 (mX6_latest i (nI l) z18) (fun r19 => zz_ck (¬ f_pace g l (f_dl g l) = (0 : Int32)) (some (nI l + ((((d_it (dz t0) (3 * i + 1) - r19) + f_pace g l (f_dl g l)) - (1 : Int32)) / f_pace g l (f_dl g l)), z18)))) else some ((-3 : Int32), s)) (mX11_ends_b166 (nI i) (nI l) (g l) (f_pace g l (f_dl g l)) t0) := by
        unfold mX11_ends_b166
        refine zOk_if Iff.rfl (fun cp => ?_) (fun _ => zOk_ret h0)
        have hne : ¬ f_pace g l (f_dl g l) = 0 := by
          intro q
          rw [q] at cp
          exact absurd cp (by decide)
        obtain ⟨s1, a1, b1⟩ := zc_start s (f_pace g l (f_dl g l)).toInt64
        have q0 := zr_row0 t0
        obtain ⟨t1, x1, y1⟩ := zr_tell q0 (by simp) (f_pace g l (f_dl g l)).toInt64
        rw [a1, zz_b2_s, zc_latest s1 i hl, zz_b1_s, zz_ck_of hne, b1.1, (hS.1 l hl).2, f_last_told hgl, zz_nm_s, x1, zz_b2_s, zr_quantity t1 hi', zz_b1_s, zz_ck_of hne, y1.1]
        exact zOk_ret (zR_row h0 b1 y1 (by simp))
      rcases f_dl_in g l with ⟨e2, -⟩ | ⟨a, ha, e2, hga⟩
      · have ep : f_pace g l (f_dl g l) = g l := by unfold f_pace; rw [e2, if_pos rfl]
        rw [ep] at key ⊢
        rw [e2, if_neg (show ¬ (0 : Int32) ≤ -1 by decide)]
        exact key
      · have ep : f_pace g l (f_dl g l) = (g l - g a) / (nI l - nI a) := by unfold f_pace; rw [e2, if_neg (nI_not1 (by omega)), nI_clamp (by omega)]
        rw [ep] at key ⊢
        rw [e2, if_pos (show (0 : Int32) ≤ nI a from nI_le (a := 0) (by omega) (by omega)), zq_10, zz_ck_of (zq_k _ (show 10 * a + i < 240 by omega) (by decide)), zz_ck_of (nI_sub_ne ha (by omega)), nI_clamp (show 10 * a + i < 2 ^ 31 by omega), hgj a]
        exact key
    · obtain ⟨s1, a1, b1⟩ := zc_start s 0
      have q0 := zr_row0 t0
      obtain ⟨t1, x1, y1⟩ := zr_tell q0 (by simp) 0
      rw [a1, zz_b2_s, zz_nm_s, x1, zz_b2_s]
      exact zOk_ret (zR_row h0 b1 y1 (by simp))
