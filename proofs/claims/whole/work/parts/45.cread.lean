/-! ===== what it means that the class's memory holds the data; what its reading methods answer ===== -/
def f_told (v : Int32) : Int32 := if v = -9999 then -1 else v
def zSer (s : zz_M) (k : Nat) (g : Nat → Int32) (w : Int32) : Prop := (∀ m, m < 24 → s.1 (16 + 3 * k + 1) m = f_told (g m) ∧ s.1 (16 + 3 * k + 2) m = f_last g w m) ∧ s.2.2.1 (64 * (16 + 3 * k) + 2) = w
def zC_tm (s : zz_M) (d : zD) : Prop := ∀ j, j < 14 → s.1 14 j = d_tm d j
def zC_it (s : zz_M) (d : zD) : Prop := s.2.2.1 579 = d_n d ∧ (∀ i, i < (d_n d).toNatClampNeg → s.1 10 i = d_it d (3 * i) ∧ s.1 11 i = d_it d (3 * i + 1) ∧ s.1 12 i = d_it d (3 * i + 2)) ∧ (s.2.2.1 580).toInt64 = f_sum d
def zC_ms (s : zz_M) (d : zD) : Prop := (∀ k, k < 10 → zSer s k (fun m => d_ms d (10 * m + k)) 0) ∧ zSer s 10 (d_st d) 0 ∧ zSer s 11 (d_ix d) 1000
def zC_ch (s : zz_M) (d : zD) : Prop := s.2.2.1 3332 = d_cm d ∧ ∀ c, c < (d_cm d).toNatClampNeg → s.1 53 c = d_ch d (4 * c) ∧ s.1 54 c = d_ch d (4 * c + 1) ∧ s.1 55 c = d_ch d (4 * c + 2) ∧ s.1 56 c = f_price d (d_ch d (4 * c + 1)) (d_ch d (4 * c + 3))
def zC_se (s : zz_M) (d : zD) : Prop := s.2.2.1 3653 = d_sm d ∧ ∀ q, q < (d_sm d).toNatClampNeg → s.1 58 q = d_se d (5 * q) ∧ s.1 59 q = d_se d (5 * q + 1) ∧ s.1 60 q = d_se d (5 * q + 2) ∧ s.1 61 q = d_se d (5 * q + 3) ∧ s.1 62 q = d_se d (5 * q + 4)
def zC_sc (s : zz_M) (d : zD) : Prop := s.2.2.1 520 = d_ho d ∧ s.2.2.1 521 = d_la d ∧ s.2.2.1 522 = d_du d ∧ s.2.2.1 523 = d_gr d
def zC_pd (s : zz_M) (d : zD) : Prop := ∀ m, m < 24 → s.2.1 63 m = (d_pd d m).toInt64
/-- all but what was paid -/
def zC0 (s : zz_M) (d : zD) : Prop := zC_tm s d ∧ zC_it s d ∧ zC_ms s d ∧ zC_ch s d ∧ zC_se s d ∧ zC_sc s d
def zC (s : zz_M) (d : zD) : Prop := zC0 s d ∧ zC_pd s d
theorem zC0_eq {s s1 : zz_M} {d : zD} (h1 : s1.1 = s.1) (h2 : s1.2.2.1 = s.2.2.1) (h : zC0 s d) : zC0 s1 d := by
  unfold zC0 zC_tm zC_it zC_ms zC_ch zC_se zC_sc zSer at *
  rw [h1, h2]
  exact h
theorem zi_cm {d : zD} (h : zInv d) : ∃ k : Nat, k ≤ 8 ∧ d_cm d = nI k ∧ (d_cm d).toNatClampNeg = k := by
  obtain ⟨-, ⟨k, h1, h2, -⟩, -⟩ := h
  exact ⟨k, h1, h2, by rw [h2, nI_clamp (by omega)]⟩
theorem zi_sm {d : zD} (h : zInv d) : ∃ k : Nat, k ≤ 6 ∧ d_sm d = nI k ∧ (d_sm d).toNatClampNeg = k := by
  obtain ⟨-, -, ⟨k, h1, h2, -⟩, -⟩ := h
  exact ⟨k, h1, h2, by rw [h2, nI_clamp (by omega)]⟩
theorem zc_th (t : Int32) (v : Int64) : mX10_thousandths t v = some (f_th v t) := by
  unfold mX10_thousandths f_th
  rw [zz_ck_of (by decide)]
theorem zc_of {s : zz_M} {d : zD} (h : zC0 s d) (j : Nat) (hj : j < 14) : mX8_of (OfNat.ofNat j) s = some (d_tm d j) := by
  unfold mX8_of
  rw [zz_ck_of (zq_lit j 14 hj (by decide)), zq_clit (by omega), h.1 j hj]
theorem zc_ofI {s : zz_M} {d : zD} (h : zC0 s d) {j : Nat} (hj : j < 14) : mX8_of (nI j) s = some (d_tm d j) := zc_of h j hj
theorem zc_latest (s : zz_M) (k : Nat) {m : Nat} (hm : m < 24) : mX6_latest k (nI m) s = some (s.1 (16 + 3 * k + 2) m) := by
  unfold mX6_latest
  rw [zz_ck_of (zq_k _ hm (by decide)), nI_clamp (by omega)]
theorem zc_done {s : zz_M} {d : zD} (h : zC0 s d) {m i : Nat} (hm : m < 24) (hi : i < 10) : mX2_done (nI i) (nI m) s = some (f_done d m i) := by
  unfold mX2_done
  rw [zz_ck_of (zq_k _ hi (by decide)), nI_clamp (by omega), zc_latest s i hm, zz_b1_s, ((h.2.2.1.1 i hi).1 m hm).2]
  rfl
theorem zc_cap {s : zz_M} {d : zD} (h : zC0 s d) (hI : zInv d) {i : Nat} (hi : i < (d_n d).toNatClampNeg) : mX2_cap (nI i) s = some (f_cap d i).toInt64 := by
  obtain ⟨k, hk, -, ec, -⟩ := zi_n hI
  unfold mX2_cap
  rw [zz_ck_of (zq_k _ (show i < 10 by omega) (by decide)), nI_clamp (by omega), zz_nm_s, zc_of h 9 (by decide), zz_b1_s, zc_th, zz_b1_s, (h.2.1.2.1 i hi).2.1]
  obtain ⟨e1, e2, e3, e4, e5⟩ := f_cap_eq hI rfl hi
  congr 1
  apply Int64.toInt_inj.mp
  rw [zl_add (by rw [zl_wide]; omega) (by rw [zl_wide]; omega), zl_wide, zl_wide, e1]
theorem zi_ss (a b : Int32) : a - (a - b) = b := by
  apply Int32.toInt_inj.mp
  rw [Int32.toInt_sub, Int32.toInt_sub, Int.sub_bmod_bmod, show a.toInt - (a.toInt - b.toInt) = b.toInt by omega]
  exact zb_32 (by have := Int32.le_toInt b; omega) (by have := Int32.toInt_lt b; omega)
theorem zc_part {s : zz_M} {d : zD} (h : zC0 s d) (hI : zInv d) {m i : Nat} (hm : m < 24) (hi : i < (d_n d).toNatClampNeg) : mX2_part (nI i) (nI m) s = some (f_part d m i) := by
  obtain ⟨k, hk, -, ec, -⟩ := zi_n hI
  have hi10 : i < 10 := by omega
  unfold mX2_part
  rw [zc_done h hm hi10, zz_b1_s, zc_cap h hI hi, zz_b1_s, zz_ck_of (zq_k _ hi10 (by decide)), nI_clamp (by omega), zz_nm_s, zc_of h 10 (by decide), zz_b1_s, zc_th, zz_b1_s, (h.2.1.2.1 i hi).2.2]
  obtain ⟨e1, e2, e3, e4, e5⟩ := f_cap_eq hI rfl hi
  obtain ⟨q, hq, eq⟩ := f_done_in hI hm hi10
  have hD : (f_done d m i).toInt = q := by rw [eq, nI_toInt (by omega)]
  have es : (f_done d m i - f_cap d i).toInt = (f_done d m i).toInt - (f_cap d i).toInt := zi_sub (by omega) (by omega)
  by_cases c : (0 : Int32) < lg_cmp (f_done d m i).toInt64 (f_cap d i).toInt64
  · rw [if_pos c]
    rw [lg_cmp_gt, Int64.lt_iff_toInt_lt, zl_wide, zl_wide] at c
    have ea : f_above d m i = f_done d m i - f_cap d i := by
      unfold f_above
      rw [if_pos (Int32.lt_iff_toInt_lt.mpr (by rw [es]; show (0 : Int) < _; omega))]
    unfold f_part
    rw [ea, zi_ss]
    have e6 : (f_done d m i).toInt64 - (f_cap d i).toInt64 = (f_done d m i - f_cap d i).toInt64 := by
      apply Int64.toInt_inj.mp
      rw [zl_sub (by rw [zl_wide, zl_wide]; omega) (by rw [zl_wide, zl_wide]; omega), zl_wide, zl_wide, zl_wide, es]
    rw [e6]
  · rw [if_neg c]
    rw [lg_cmp_gt, Int64.lt_iff_toInt_lt, zl_wide, zl_wide] at c
    have ea : f_above d m i = 0 := by
      unfold f_above
      rw [if_neg (fun q => by have := Int32.lt_iff_toInt_lt.mp q; rw [es] at this; have e0 : (0 : Int32).toInt = 0 := rfl; omega)]
    unfold f_part
    rw [ea, Int32.sub_zero, show (0 : Int32).toInt64 = 0 from rfl, Int64.zero_mul, Int64.add_zero]
theorem zc_worth {s : zz_M} {d : zD} (h : zC0 s d) (hI : zInv d) {c : Nat} (hc : c < (d_cm d).toNatClampNeg) : mX3_worth (nI c) s = some (f_worth d c) := by
  obtain ⟨k, hk, -, ec⟩ := zi_cm hI
  unfold mX3_worth
  rw [zz_ck_of (zq_k _ (show c < 8 by omega) (by decide)), zz_ck_of (zq_k _ (show c < 8 by omega) (by decide)), nI_clamp (by omega), (h.2.2.2.1.2 c hc).2.2.1, (h.2.2.2.1.2 c hc).2.2.2]
  rfl
theorem zc_worthTill_b5 {s : zz_M} {d : zD} (h : zC0 s d) (hI : zInv d) {k : Nat} (hk : k ≤ 8) (ek : (d_cm d).toNatClampNeg = k) (hn : s.2.2.1 3332 = nI k) (m : Nat) : ∀ (j i fuel : Nat), i + j = k → j < fuel → mX3_worthTill_b5 s fuel (nI m) (f_acc (fun c => if nI m < d_ch d (4 * c) then 0 else f_worth d c) 0 i) (nI i) = some (f_acc (fun c => if nI m < d_ch d (4 * c) then 0 else f_worth d c) 0 k) := by
  intro j
  induction j with
  | zero =>
    intro i fuel hi hf
    obtain ⟨f, rfl⟩ : ∃ q, fuel = q + 1 := ⟨fuel - 1, by omega⟩
    obtain rfl : i = k := by omega
    rw [mX3_worthTill_b5, hn, if_pos (nI_le (Nat.le_refl _) (by omega))]
  | succ j ih =>
    intro i fuel hi hf
    obtain ⟨f, rfl⟩ : ∃ q, fuel = q + 1 := ⟨fuel - 1, by omega⟩
    rw [mX3_worthTill_b5, hn, if_neg (nI_ge (by omega) (by omega)), zz_ck_of (zq_k _ (show i < 8 by omega) (by decide))]
    have h1 := ih (i + 1) f (by omega) (by omega)
    simp only [f_acc] at h1
    simp only [nI_clamp (show i < 2 ^ 31 by omega), zc_worth h hI (show i < (d_cm d).toNatClampNeg by omega), zz_b1_s, zz_nm_s, mX3_worthTill_b34, (h.2.2.2.1.2 i (by omega)).1]
    rw [nI_1]
    by_cases c : nI m < d_ch d (4 * i)
    · rw [if_pos c]
      rw [if_pos c, Int64.add_zero] at h1
      exact h1
    · rw [if_neg c]
      rw [if_neg c] at h1
      exact h1
theorem zc_worthTill {s : zz_M} {d : zD} (h : zC0 s d) (hI : zInv d) (m : Nat) : mX3_worthTill (nI m) s = some (f_varied d m) := by
  obtain ⟨k, hk, en, ec⟩ := zi_cm hI
  unfold mX3_worthTill f_varied
  rw [ec]
  exact zc_worthTill_b5 h hI hk ec (h.2.2.2.1.1.trans en) m k 0 zz_N (by omega) (by unfold zz_N; omega)
theorem zc_work_b12 {s : zz_M} {d : zD} (h : zC0 s d) (hI : zInv d) {k : Nat} (hk : k ≤ 10) (ek : (d_n d).toNatClampNeg = k) (hn : s.2.2.1 579 = nI k) {m : Nat} (hm : m < 24) (s0 : Int64) : ∀ (j i fuel : Nat), i + j = k → j < fuel → mX2_work_b12 s fuel (nI m) (f_acc (fun i => f_part d m i) s0 i) (nI i) = some (f_acc (fun i => f_part d m i) s0 k) := by
  intro j
  induction j with
  | zero =>
    intro i fuel hi hf
    obtain ⟨f, rfl⟩ : ∃ q, fuel = q + 1 := ⟨fuel - 1, by omega⟩
    obtain rfl : i = k := by omega
    rw [mX2_work_b12, hn, if_pos (nI_le (Nat.le_refl _) (by omega))]
  | succ j ih =>
    intro i fuel hi hf
    obtain ⟨f, rfl⟩ : ∃ q, fuel = q + 1 := ⟨fuel - 1, by omega⟩
    rw [mX2_work_b12, hn, if_neg (nI_ge (by omega) (by omega))]
    simp only [zc_part h hI hm (show i < (d_n d).toNatClampNeg by omega), zz_b1_s, zz_nm_s]
    rw [nI_1]
    exact ih (i + 1) f (by omega) (by omega)
theorem zc_work {s : zz_M} {d : zD} (h : zC0 s d) (hI : zInv d) {m : Nat} (hm : m < 24) : mX2_work (nI m) s = some (f_work d m) := by
  obtain ⟨k, hk, en, ec, -⟩ := zi_n hI
  unfold mX2_work f_work
  rw [zc_worthTill h hI, zz_b1_s, ec]
  exact zc_work_b12 h hI hk ec (h.2.1.1.trans en) hm _ k 0 zz_N (by omega) (by unfold zz_N; omega)
theorem zc_materials {s : zz_M} {d : zD} (h : zC0 s d) {m : Nat} (hm : m < 24) : mX2_materials (nI m) s = some (f_mat d m) := by
  unfold mX2_materials mX2_materials_b33
  rw [zc_of h 6 (by decide), zz_b1_s, zc_latest s 10 hm, zz_b1_s, zc_th, zz_b1_s, (h.2.2.1.2.1.1 m hm).2, h.2.2.2.2.2.1]
  unfold f_mat
  by_cases c : nI m < d_ho d
  · rw [if_pos c, if_pos c]; rfl
  · rw [if_neg c, if_neg c]
theorem zc_limit {s : zz_M} {d : zD} (h : zC0 s d) : mX2_limit s = some (f_limit d) := by
  unfold mX2_limit
  rw [zc_of h 1 (by decide), zz_b1_s, zc_th, zz_b1_s, h.2.1.2.2]
  rfl
theorem zc_advanced {s : zz_M} {d : zD} (h : zC0 s d) : mX2_advanced s = some (f_adv d) := by
  unfold mX2_advanced
  rw [zc_of h 3 (by decide), zz_b1_s, zc_th, zz_b1_s, h.2.1.2.2]
  rfl
theorem zc_mostDamages {s : zz_M} {d : zD} (h : zC0 s d) : mX2_mostDamages s = some (f_most d) := by
  unfold mX2_mostDamages
  rw [zc_of h 12 (by decide), zz_b1_s, zc_th, zz_b1_s, h.2.1.2.2]
  rfl
theorem zc_heldIn {s : zz_M} {d : zD} (h : zC0 s d) (hI : zInv d) {q m : Nat} (hq : q < (d_sm d).toNatClampNeg) : mX7_heldIn (nI q) (nI m) s = some (f_held d q m) := by
  obtain ⟨k, hk, -, ec⟩ := zi_sm hI
  obtain ⟨e0, e1, e2, e3, e4⟩ := h.2.2.2.2.1.2 q hq
  unfold mX7_heldIn mX7_heldIn_b60
  simp only [zz_ck_of (zq_k (n := 6) q (by omega) (by decide)), nI_clamp (show q < 2 ^ 31 by omega), zc_th, zz_b1_s, e0, e1, e2, e3, e4]
  unfold f_held
  by_cases h1 : d_se d (5 * q) ≤ nI m
  · rw [if_pos h1, if_pos h1]
    by_cases h2 : nI m < d_se d (5 * q + 3)
    · rw [if_pos h2, if_pos h2]
      by_cases h3 : nI m < d_se d (5 * q + 2)
      · rw [if_pos h3, if_pos h3]
      · rw [if_neg h3, if_neg h3]
    · rw [if_neg h2, if_neg h2]
  · rw [if_neg h1, if_neg h1]
theorem zc_allHeldIn_b5 {s : zz_M} {d : zD} (h : zC0 s d) (hI : zInv d) {k : Nat} (hk : k ≤ 6) (ek : (d_sm d).toNatClampNeg = k) (hn : s.2.2.1 3653 = nI k) (m : Nat) : ∀ (j i fuel : Nat), i + j = k → j < fuel → mX7_allHeldIn_b5 s fuel (nI m) (f_acc (fun q => (f_held d q m).toInt64) 0 i) (nI i) = some (f_acc (fun q => (f_held d q m).toInt64) 0 k) := by
  intro j
  induction j with
  | zero =>
    intro i fuel hi hf
    obtain ⟨f, rfl⟩ : ∃ q, fuel = q + 1 := ⟨fuel - 1, by omega⟩
    obtain rfl : i = k := by omega
    rw [mX7_allHeldIn_b5, hn, if_pos (nI_le (Nat.le_refl _) (by omega))]
  | succ j ih =>
    intro i fuel hi hf
    obtain ⟨f, rfl⟩ : ∃ q, fuel = q + 1 := ⟨fuel - 1, by omega⟩
    rw [mX7_allHeldIn_b5, hn, if_neg (nI_ge (by omega) (by omega))]
    simp only [zc_heldIn h hI (show i < (d_sm d).toNatClampNeg by omega), zz_b1_s, zz_nm_s]
    rw [nI_1]
    exact ih (i + 1) f (by omega) (by omega)
theorem zc_allHeldIn {s : zz_M} {d : zD} (h : zC0 s d) (hI : zInv d) (m : Nat) : mX7_allHeldIn (nI m) s = some (f_set d m) := by
  obtain ⟨k, hk, en, ec⟩ := zi_sm hI
  unfold mX7_allHeldIn f_set
  rw [ec]
  exact zc_allHeldIn_b5 h hI hk ec (h.2.2.2.2.1.1.trans en) m k 0 zz_N (by omega) (by unfold zz_N; omega)
theorem zc_late {s : zz_M} {d : zD} (h : zC0 s d) (m : Nat) : mX2_lateMonths (nI m) s = some (f_late d (d_du d + d_gr d) m) := by
  obtain ⟨e0, e1, e2, e3⟩ := h.2.2.2.2.2
  unfold mX2_lateMonths
  rw [e0, e2, e3]
  rfl
