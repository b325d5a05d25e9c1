/-! ===== series of months ===== -/
theorem f_told_no {u : Int32} (h : u ≠ -1) : f_told u = -1 ↔ u = -9999 := by
  unfold f_told
  by_cases e : u = -9999
  · rw [if_pos e]; exact ⟨fun _ => e, fun _ => rfl⟩
  · rw [if_neg e]; exact ⟨fun q => absurd q h, fun q => absurd q e⟩
def f_bef (g : Nat → Int32) (w : Int32) : Nat → Int32
  | 0 => w
  | m + 1 => f_last g w m
theorem f_last_bef (g : Nat → Int32) (w : Int32) (m : Nat) : f_last g w m = if g m = -9999 then f_bef g w m else g m := by cases m <;> rfl
theorem zc_isTold (s : zz_M) (k : Nat) {m : Nat} (hm : m < 24) : mX6_isTold k (nI m) s = some (if s.1 (16 + 3 * k + 1) m = -1 then 0 else 1) := by
  unfold mX6_isTold mX6_isTold_b15
  rw [zz_ck_of (zq_k m hm (by decide)), nI_clamp (by omega)]
  by_cases c : s.1 (16 + 3 * k + 1) m = -1
  · rw [if_pos c, if_pos c, zz_ck_of (Or.inl rfl)]
  · rw [if_neg c, if_neg c, zz_ck_of (Or.inr rfl)]
/-- while the standing values are told anew -/
def zTl (k : Nat) (g : Nat → Int32) (w : Int32) (s s1 : zz_M) (m : Nat) : Prop := s1.2 = s.2 ∧ (∀ q, q ≠ 16 + 3 * k + 1 → q ≠ 16 + 3 * k + 2 → s1.1 q = s.1 q) ∧ (∀ j, j < 24 → s1.1 (16 + 3 * k + 1) j = f_told (g j)) ∧ ∀ j, j < m → s1.1 (16 + 3 * k + 2) j = f_last g w j
theorem zTl_w {k : Nat} {g : Nat → Int32} {w : Int32} {s s1 : zz_M} {m : Nat} (hm : m < 24) (h : zTl k g w s s1 m) : zTl k g w s (zz_wI s1 (16 + 3 * k + 2) (nI m) (f_last g w m)) (m + 1) := by
  obtain ⟨a, b, c, e⟩ := h
  refine ⟨a, fun q h1 h2 => ?_, fun j hj => ?_, fun j hj => ?_⟩
  · rw [zw_I_ne _ _ _ h2]; exact b q h1 h2
  · rw [zw_I_ne _ _ _ (by omega)]; exact c j hj
  · by_cases q : j = m
    · subst q; rw [zw_I_same _ _ _ _ (by omega)]
    · rw [zw_I_off _ _ _ (by omega) q]; exact e j (by omega)
theorem zc_tell_loop {k : Nat} {g : Nat → Int32} {w : Int32} {s : zz_M} (hg : ∀ j, j < 24 → g j ≠ -1) : ∀ (j m fuel : Nat) (s1 : zz_M), m + j = 24 → j < fuel → zTl k g w s s1 m → ∃ s2, mX6_tell_b30 k fuel (f_bef g w m) (nI m) s1 = some ((), s2) ∧ zTl k g w s s2 24 := by
  intro j
  induction j with
  | zero =>
    intro m fuel s1 hm hf h
    obtain ⟨f, rfl⟩ : ∃ f, fuel = f + 1 := ⟨fuel - 1, by omega⟩
    have : m = 24 := by omega
    subst this
    refine ⟨s1, ?_, h⟩
    unfold mX6_tell_b30
    rw [if_pos (show (24 : Int32) ≤ nI 24 by decide)]
  | succ j ih =>
    intro m fuel s1 hm hf h
    obtain ⟨f, rfl⟩ : ∃ f, fuel = f + 1 := ⟨fuel - 1, by omega⟩
    have hm' : m < 24 := by omega
    obtain ⟨s2, e2, h2⟩ := ih (m + 1) f _ (by omega) (by omega) (zTl_w hm' h)
    refine ⟨s2, ?_, h2⟩
    unfold mX6_tell_b30 mX6_tell_b54
    have hin := zq_k m hm' (show 24 < 2 ^ 31 by decide)
    rw [if_neg (show ¬ (24 : Int32) ≤ nI m from nI_ge hm' (by decide)), zc_isTold _ _ hm', zz_b1_s, zz_ck_of hin, zz_ck_of hin, zz_nm_s, zz_nm_s, zz_nm_s, zz_ck_of hin, zz_nm_s, zz_nm_s, nI_1, nI_clamp (by omega), h.2.2.1 m hm']
    have e3 : f_bef g w (m + 1) = f_last g w m := rfl
    rw [e3] at e2
    have e4 := f_last_bef g w m
    by_cases c : g m = -9999
    · rw [if_pos ((f_told_no (hg m hm')).mpr c), if_pos rfl]
      rw [if_pos c] at e4
      rw [← e4]
      exact e2
    · rw [if_neg (fun q => c ((f_told_no (hg m hm')).mp q)), if_neg zq_not0]
      rw [if_neg c] at e4
      have e5 : f_told (g m) = f_last g w m := by rw [e4]; unfold f_told; rw [if_neg c]
      rw [e5]
      exact e2
theorem f_last_cg {g g' : Nat → Int32} (w : Int32) : ∀ m : Nat, (∀ j, j ≤ m → g j = g' j) → f_last g w m = f_last g' w m := by
  intro m
  induction m with
  | zero => intro h; unfold f_last; rw [h 0 (by omega)]
  | succ m ih => intro h; unfold f_last; rw [h (m + 1) (by omega), ih (fun j hj => h j (by omega))]
theorem zc_tell {s : zz_M} {k : Nat} {g : Nat → Int32} {w : Int32} (h : zSer s k g w) (hg : ∀ j, j < 24 → g j ≠ -1) {m : Nat} (hm : m < 24) {u : Int32} (hu : u ≠ -1) : ∃ s', mX6_tell k (nI m) (f_told u) s = some ((), s') ∧ zSer s' k (upd g m u) w ∧ s'.2 = s.2 ∧ ∀ q, q ≠ 16 + 3 * k + 1 → q ≠ 16 + 3 * k + 2 → s'.1 q = s.1 q := by
  have hin := zq_k m hm (show 24 < 2 ^ 31 by decide)
  have hT : zTl k (upd g m u) w s (zz_wI s (16 + 3 * k + 1) (nI m) (f_told u)) m := by
    refine ⟨rfl, fun q h1 h2 => zw_I_ne _ _ _ h1, fun j hj => ?_, fun j hj => ?_⟩
    · by_cases q : j = m
      · subst q; rw [zw_I_same _ _ _ _ (by omega), upd_at]
      · rw [zw_I_off _ _ _ (by omega) q, upd_off _ _ q]; exact (h.1 j hj).1
    · rw [zw_I_ne _ _ _ (by omega), (h.1 j (by omega)).2]
      exact f_last_cg w j (fun i hi => (upd_off _ _ (by omega)).symm)
  have hg' : ∀ j, j < 24 → upd g m u j ≠ -1 := by
    intro j hj
    by_cases q : j = m
    · subst q; rw [upd_at]; exact hu
    · rw [upd_off _ _ q]; exact hg j hj
  obtain ⟨s2, e2, h2⟩ := zc_tell_loop hg' (24 - m) m zz_N _ (by omega) (by unfold zz_N; omega) hT
  refine ⟨s2, ?_, ⟨fun j hj => ⟨h2.2.2.1 j hj, h2.2.2.2 j hj⟩, by rw [h2.1]; exact h.2⟩, h2.1, h2.2.1⟩
  unfold mX6_tell mX6_tell_b26
  rw [zz_ck_of hin, zz_nm_s]
  cases m with
  | zero =>
    rw [if_pos (show nI 0 ≤ (0 : Int32) by decide)]
    have e : (zz_wI s (16 + 3 * k + 1) (nI 0) (f_told u)).2.2.1 (64 * (16 + 3 * k) + 2) = w := h.2
    rw [e]
    exact e2
  | succ m =>
    rw [if_neg (show ¬ nI (m + 1) ≤ (0 : Int32) by rw [Int32.le_iff_toInt_le, nI_toInt (by omega)]; have : (0 : Int32).toInt = 0 := rfl; omega)]
    have e1 : nI (m + 1) - (1 : Int32) = nI m := by
      have := zq_sub (a := m + 1) (b := 1) (by omega)
      exact this
    rw [e1, zz_ck_of (zq_k m (show m < 24 by omega) (by decide)), nI_clamp (by omega), zw_I_ne _ _ _ (by omega), (h.1 m (by omega)).2]
    rw [show f_last g w m = f_bef (upd g (m + 1) u) w (m + 1) from f_last_cg w m (fun j hj => (upd_off _ _ (by omega)).symm)]
    exact e2
theorem zc_tellAnew {s : zz_M} {k : Nat} {g : Nat → Int32} {w : Int32} (h : zSer s k g w) (hg : ∀ j, j < 24 → g j ≠ -1) {m : Nat} (hm : m < 24) {v : Int32} (hv : v ≠ -1) (hv2 : v ≠ -9999) : (g m = v → mX10_tellAnew k (nI m) v s = some (-2, s)) ∧ (g m ≠ v → ∃ s', mX10_tellAnew k (nI m) v s = some (f_last g w m, s') ∧ zSer s' k (upd g m v) w ∧ s'.2 = s.2 ∧ ∀ q, q ≠ 16 + 3 * k + 1 → q ≠ 16 + 3 * k + 2 → s'.1 q = s.1 q) := by
  have hfv : f_told v = v := by unfold f_told; rw [if_neg hv2]
  obtain ⟨s', e1, e2⟩ := zc_tell h hg hm hv
  rw [hfv] at e1
  have e4 := f_last_bef g w m
  have eb : mX10_tellAnew_b20 k (nI m) v s = some (f_last g w m, s') := by
    unfold mX10_tellAnew_b20
    rw [zc_latest _ _ hm, zz_b1_s, e1, zz_b2_s, (h.1 m hm).2]
  have et := (f_told_no (hg m hm))
  unfold mX10_tellAnew
  rw [zc_isTold _ _ hm, zz_b1_s, zc_latest _ _ hm, zz_b1_s, eb, (h.1 m hm).1, (h.1 m hm).2]
  constructor
  · intro q
    have c : ¬ g m = -9999 := by rw [q]; exact hv2
    rw [if_neg c] at e4
    rw [if_neg (fun z => c (et.mp z)), if_neg zq_not0, if_pos (by rw [e4]; exact q)]
  · intro q
    refine ⟨s', ?_, e2⟩
    by_cases c : g m = -9999
    · rw [if_pos (et.mpr c), if_pos rfl]
    · rw [if_neg c] at e4
      rw [if_neg (fun z => c (et.mp z)), if_neg zq_not0, if_neg (by rw [e4]; exact q)]
theorem zInv_st {d : zD} (h : zInv d) {m : Nat} {v : Int32} (hv : v = -9999 ∨ ∃ k : Nat, k < 100000 ∧ v = nI k) : zInv (d_wst d (upd (d_st d) m v)) := by
  obtain ⟨a1, a2, a3, a4, a5, a6, a7, a8, a9, b1, b2, b3⟩ := h
  refine ⟨a1, a2, a3, a4, a5, a6, a7, a8, a9, fun j hj => ?_, b2, b3⟩
  by_cases e : j = m
  · subst e
    show upd (d_st d) j v j = _ ∨ ∃ k : Nat, k < 100000 ∧ upd (d_st d) j v j = nI k
    rw [upd_at]; exact hv
  · show upd (d_st d) m v j = _ ∨ ∃ k : Nat, k < 100000 ∧ upd (d_st d) m v j = nI k
    rw [upd_off _ _ e]; exact b1 j hj
theorem zInv_ix {d : zD} (h : zInv d) {m : Nat} {v : Int32} (hv : v = -9999 ∨ ∃ k : Nat, 500 ≤ k ∧ k ≤ 2000 ∧ v = nI k) : zInv (d_wix d (upd (d_ix d) m v)) := by
  obtain ⟨a1, a2, a3, a4, a5, a6, a7, a8, a9, b1, b2, b3⟩ := h
  refine ⟨a1, a2, a3, a4, a5, a6, a7, a8, a9, b1, fun j hj => ?_, b3⟩
  by_cases e : j = m
  · subst e
    show upd (d_ix d) j v j = _ ∨ ∃ k : Nat, 500 ≤ k ∧ k ≤ 2000 ∧ upd (d_ix d) j v j = nI k
    rw [upd_at]; exact hv
  · show upd (d_ix d) m v j = _ ∨ ∃ k : Nat, 500 ≤ k ∧ k ≤ 2000 ∧ upd (d_ix d) m v j = nI k
    rw [upd_off _ _ e]; exact b2 j hj
theorem zInv_ms {d : zD} (h : zInv d) {m i : Nat} (hi : i < (d_n d).toNatClampNeg) (hi2 : i < 10) {v : Int32} (hv : v = -9999 ∨ ∃ k : Nat, k < 2000 ∧ v = nI k) : zInv (d_wms d (upd (d_ms d) (10 * m + i) v)) := by
  obtain ⟨⟨k, k1, k2, k3, k4⟩, a2, a3, a4, a5, a6, a7, a8, a9, b1, b2, b3⟩ := h
  have hik : i < k := by rw [k2, nI_clamp (by omega)] at hi; exact hi
  refine ⟨⟨k, k1, k2, k3, fun m' i' hm' hi' hk' => ?_⟩, a2, a3, a4, a5, a6, a7, a8, fun m' i' hm' hi' => ?_, b1, b2, b3⟩
  · show upd (d_ms d) (10 * m + i) v (10 * m' + i') = _
    rw [upd_off _ _ (by omega)]
    exact k4 m' i' hm' hi' hk'
  · show upd (d_ms d) (10 * m + i) v (10 * m' + i') = _ ∨ ∃ k : Nat, k < 2000 ∧ upd (d_ms d) (10 * m + i) v (10 * m' + i') = nI k
    by_cases e : 10 * m' + i' = 10 * m + i
    · rw [e, upd_at]; exact hv
    · rw [upd_off _ _ e]; exact a9 m' i' hm' hi'
theorem nI_not1 {k : Nat} (h : k < 2 ^ 31) : nI k ≠ -1 := by
  intro e
  have := congrArg Int32.toInt e
  rw [nI_toInt h] at this
  have : (-1 : Int32).toInt = -1 := rfl
  omega
theorem nI_not9 {k : Nat} (h : k < 2 ^ 31) : nI k ≠ -9999 := by
  intro e
  have := congrArg Int32.toInt e
  rw [nI_toInt h] at this
  have : (-9999 : Int32).toInt = -9999 := rfl
  omega
theorem zi_st1 {d : zD} (h : zInv d) : ∀ j, j < 24 → d_st d j ≠ -1 := by
  intro j hj
  rcases h.2.2.2.2.2.2.2.2.2.1 j hj with e | ⟨k, hk, e⟩
  · rw [e]; decide
  · rw [e]; exact nI_not1 (by omega)
theorem zi_ix1 {d : zD} (h : zInv d) : ∀ j, j < 24 → d_ix d j ≠ -1 := by
  intro j hj
  rcases h.2.2.2.2.2.2.2.2.2.2.1 j hj with e | ⟨k, hk, hk2, e⟩
  · rw [e]; decide
  · rw [e]; exact nI_not1 (by omega)
theorem zi_ms1 {d : zD} (h : zInv d) {i : Nat} (hi : i < 10) : ∀ j, j < 24 → d_ms d (10 * j + i) ≠ -1 := by
  intro j hj
  rcases h.2.2.2.2.2.2.2.2.1 j i hj hi with e | ⟨k, hk, e⟩
  · rw [e]; decide
  · rw [e]; exact nI_not1 (by omega)
theorem zC_wst {s s' : zz_M} {d : zD} (h : zC s d) {f : Nat → Int32} (hS : zSer s' 10 f 0) (h3 : s'.2 = s.2) (h1 : ∀ q, q ≠ 16 + 3 * 10 + 1 → q ≠ 16 + 3 * 10 + 2 → s'.1 q = s.1 q) : zC s' (d_wst d f) := by
  obtain ⟨⟨a1, a2, a3, a4, a5, a6⟩, b⟩ := h
  exact ⟨⟨zC_tm_cg a1 (h1 _ (by omega) (by omega)) rfl, zC_it_cg a2 (h1 _ (by omega) (by omega)) (h1 _ (by omega) (by omega)) (h1 _ (by omega) (by omega)) (by rw [h3]) (by rw [h3]) rfl rfl, ⟨fun k hk => zSer_cg (a3.1 k hk) (h1 _ (by omega) (by omega)) (h1 _ (by omega) (by omega)) (by rw [h3]), hS, zSer_cg a3.2.2 (h1 _ (by omega) (by omega)) (h1 _ (by omega) (by omega)) (by rw [h3])⟩, zC_ch_cg a4 (fun q _ _ => h1 _ (by omega) (by omega)) (by rw [h3]) rfl rfl rfl rfl, zC_se_cg a5 (fun q _ _ => h1 _ (by omega) (by omega)) (by rw [h3]) rfl rfl, zC_sc_cg a6 (fun q _ _ => by rw [h3]) rfl rfl rfl rfl⟩, zC_pd_cg b (by rw [h3]) rfl⟩
theorem zC_wix {s s' : zz_M} {d : zD} (h : zC s d) {f : Nat → Int32} (hS : zSer s' 11 f 1000) (h3 : s'.2 = s.2) (h1 : ∀ q, q ≠ 16 + 3 * 11 + 1 → q ≠ 16 + 3 * 11 + 2 → s'.1 q = s.1 q) : zC s' (d_wix d f) := by
  obtain ⟨⟨a1, a2, a3, a4, a5, a6⟩, b⟩ := h
  exact ⟨⟨zC_tm_cg a1 (h1 _ (by omega) (by omega)) rfl, zC_it_cg a2 (h1 _ (by omega) (by omega)) (h1 _ (by omega) (by omega)) (h1 _ (by omega) (by omega)) (by rw [h3]) (by rw [h3]) rfl rfl, ⟨fun k hk => zSer_cg (a3.1 k hk) (h1 _ (by omega) (by omega)) (h1 _ (by omega) (by omega)) (by rw [h3]), zSer_cg a3.2.1 (h1 _ (by omega) (by omega)) (h1 _ (by omega) (by omega)) (by rw [h3]), hS⟩, zC_ch_cg a4 (fun q _ _ => h1 _ (by omega) (by omega)) (by rw [h3]) rfl rfl rfl rfl, zC_se_cg a5 (fun q _ _ => h1 _ (by omega) (by omega)) (by rw [h3]) rfl rfl, zC_sc_cg a6 (fun q _ _ => by rw [h3]) rfl rfl rfl rfl⟩, zC_pd_cg b (by rw [h3]) rfl⟩
theorem zC_wms {s s' : zz_M} {d : zD} (h : zC s d) {m i : Nat} (hi : i < 10) {v : Int32} (hS : zSer s' i (upd (fun j => d_ms d (10 * j + i)) m v) 0) (h3 : s'.2 = s.2) (h1 : ∀ q, q ≠ 16 + 3 * i + 1 → q ≠ 16 + 3 * i + 2 → s'.1 q = s.1 q) : zC s' (d_wms d (upd (d_ms d) (10 * m + i) v)) := by
  obtain ⟨⟨a1, a2, a3, a4, a5, a6⟩, b⟩ := h
  refine ⟨⟨zC_tm_cg a1 (h1 _ (by omega) (by omega)) rfl, zC_it_cg a2 (h1 _ (by omega) (by omega)) (h1 _ (by omega) (by omega)) (h1 _ (by omega) (by omega)) (by rw [h3]) (by rw [h3]) rfl rfl, ⟨fun k hk => ?_, zSer_cg a3.2.1 (h1 _ (by omega) (by omega)) (h1 _ (by omega) (by omega)) (by rw [h3]), zSer_cg a3.2.2 (h1 _ (by omega) (by omega)) (h1 _ (by omega) (by omega)) (by rw [h3])⟩, zC_ch_cg a4 (fun q _ _ => h1 _ (by omega) (by omega)) (by rw [h3]) rfl rfl rfl rfl, zC_se_cg a5 (fun q _ _ => h1 _ (by omega) (by omega)) (by rw [h3]) rfl rfl, zC_sc_cg a6 (fun q _ _ => by rw [h3]) rfl rfl rfl rfl⟩, zC_pd_cg b (by rw [h3]) rfl⟩
  show zSer s' k (fun j => upd (d_ms d) (10 * m + i) v (10 * j + k)) 0
  by_cases e : k = i
  · subst e
    have : (fun j => upd (d_ms d) (10 * m + k) v (10 * j + k)) = upd (fun j => d_ms d (10 * j + k)) m v := by
      funext j
      by_cases q : j = m
      · subst q; rw [upd_at, upd_at]
      · rw [upd_off _ _ q, upd_off _ _ (by omega)]
    rw [this]
    exact hS
  · have : (fun j => upd (d_ms d) (10 * m + i) v (10 * j + k)) = fun j => d_ms d (10 * j + k) := by
      funext j
      rw [upd_off _ _ (by omega)]
    rw [this]
    exact zSer_cg (a3.1 k hk) (h1 _ (by omega) (by omega)) (h1 _ (by omega) (by omega)) (by rw [h3])
theorem dz_wI4 (t : zz_M) {m : Nat} (hm : m < 24) (x : Int32) : dz (zz_wI t 4 (nI m) x) = d_wst (dz t) (upd (d_st (dz t)) m x) := by
  show d_wst (dz t) ((zz_wI t 4 (nI m) x).1 4) = _
  rw [zw_I_eq t 4 x (by omega)]
  rfl
theorem dz_wI7 (t : zz_M) {m : Nat} (hm : m < 24) (x : Int32) : dz (zz_wI t 7 (nI m) x) = d_wix (dz t) (upd (d_ix (dz t)) m x) := by
  show d_wix (dz t) ((zz_wI t 7 (nI m) x).1 7) = _
  rw [zw_I_eq t 7 x (by omega)]
  rfl
theorem dz_wI3 (t : zz_M) {m : Nat} (hm : m < 240) (x : Int32) : dz (zz_wI t 3 (nI m) x) = d_wms (dz t) (upd (d_ms (dz t)) m x) := by
  show d_wms (dz t) ((zz_wI t 3 (nI m) x).1 3) = _
  rw [zw_I_eq t 3 x (by omega)]
  rfl
theorem B_stores {s t : zz_M} (h : zR s t) (x v : Int32) : zOk (mX10_stores x v s) (mX11_stores x v t) := by
  have h0 := zR_thr h 0
  unfold mX10_stores mX11_stores mX10_stores_b17 mX11_stores_b24
  rw [zc_isMonth, zr_isMonth, zc_isWithin, zr_in32]
  simp only [zz_nm_s, zz_b1_s]
  generalize zz_sF t 19 0 = t0 at h0 ⊢
  obtain ⟨hC, hI, hT, hW⟩ := id h0
  refine zOk_tst Iff.rfl (fun c => ?_) (fun c => zOk_ret h0)
  refine zOk_tst Iff.rfl (fun cv => ?_) (fun c => zOk_ret h0)
  obtain ⟨m, hm, rfl⟩ := zq_month c
  have hin := zq_k m hm (show 24 < 2 ^ 31 by decide)
  obtain ⟨k, hk, rfl⟩ := zq_toNat (n := 99999) (x := v) cv.1 cv.2 (by decide)
  obtain ⟨w1, w2⟩ := zc_tellAnew hC.1.2.2.1.2.1 (zi_st1 hI) hm (nI_not1 (show k < 2 ^ 31 by omega)) (nI_not9 (show k < 2 ^ 31 by omega))
  rw [zz_ck_of hin, zr_storedIn t0 hm, zz_b1_s, zz_ck_of hin, nI_clamp (show m < 2 ^ 31 by omega)]
  by_cases e : t0.1 4 m = nI k
  · rw [if_pos e, w1 e, zz_b2_s]
    exact zOk_ret h0
  · obtain ⟨s', e1, e2, e3, e4⟩ := w2 e
    rw [if_neg e, e1, zz_b2_s]
    refine zOk_rete rfl ⟨?_, ?_, zTx_eq hT (by rw [e3]) (e4 2 (by omega) (by omega)) rfl rfl, zRw_eq hW (by rw [e3]) (by rw [e3]) rfl rfl⟩
    · rw [dz_wI4 t0 hm]
      exact zC_wst hC e2 e3 e4
    · rw [dz_wI4 t0 hm]
      exact zInv_st hI (Or.inr ⟨k, by omega, rfl⟩)
