/-! ===== what the reference's reading methods answer, over its data ===== -/
theorem zz_b1_s {α β : Type} (y : α) (f : α → Option β) : zz_b1 (some y) f = f y := rfl
theorem zz_b2_s {α β : Type} (y : α) (s : zz_M) (f : α → zz_M → Option β) : zz_b2 (some (y, s)) f = f y s := rfl
theorem zz_nm_s {α β : Type} (x : α) (f : α → Option β) : zz_nm x f = f x := rfl
theorem zq_mul (a b : Nat) : nI a * nI b = nI (a * b) := (Int32.ofNat_mul a b).symm
theorem zq_pred (n : Nat) : nI (n + 1) + (-1 : Int32) = nI n := by
  rw [← Int32.sub_eq_add_neg]
  exact nI_pred n
theorem zq_3 (i : Nat) : (3 : Int32) * nI i = nI (3 * i) := zq_mul 3 i
theorem zq_31 (i : Nat) : (3 : Int32) * nI i + (1 : Int32) = nI (3 * i + 1) := by rw [zq_3]; exact nI_1 _
theorem zq_32 (i : Nat) : (3 : Int32) * nI i + (2 : Int32) = nI (3 * i + 2) := by rw [zq_3]; exact nI_add _ 2
theorem zq_10 (m i : Nat) : (10 : Int32) * nI m + nI i = nI (10 * m + i) := by
  rw [show (10 : Int32) * nI m = nI (10 * m) from zq_mul 10 m]; exact nI_add _ _
theorem zq_4 (i : Nat) : (4 : Int32) * nI i = nI (4 * i) := zq_mul 4 i
theorem zq_41 (i : Nat) : (4 : Int32) * nI i + (1 : Int32) = nI (4 * i + 1) := by rw [zq_4]; exact nI_1 _
theorem zq_42 (i : Nat) : (4 : Int32) * nI i + (2 : Int32) = nI (4 * i + 2) := by rw [zq_4]; exact nI_add _ 2
theorem zq_43 (i : Nat) : (4 : Int32) * nI i + (3 : Int32) = nI (4 * i + 3) := by rw [zq_4]; exact nI_add _ 3
theorem zq_5 (i : Nat) : (5 : Int32) * nI i = nI (5 * i) := zq_mul 5 i
theorem zq_k {n : Nat} (k : Nat) (h : k < n) (hn : n < 2 ^ 31) : zz_in (nI k) n := nI_in h hn
/-- tests that stand on numbers that are written down -/
theorem zq_lit (k n : Nat) (h : k < n) (hn : n < 2 ^ 31) : zz_in (OfNat.ofNat k : Int32) n := nI_in h hn
theorem zq_clit {k : Nat} (h : k < 2 ^ 31) : (OfNat.ofNat k : Int32).toNatClampNeg = k := nI_clamp h
theorem zr_in (x a b : Int64) : mX11_in x a b = some (if a ≤ x ∧ x ≤ b then 1 else 0) := by
  unfold mX11_in mX11_in_b17 mX11_in_b18
  by_cases h1 : lg_cmp x a < 0
  · rw [if_pos h1, zz_ck_of (Or.inl rfl), if_neg]
    intro h
    rw [lg_cmp_lt, Int64.lt_iff_toInt_lt] at h1
    have := Int64.le_iff_toInt_le.mp h.1
    omega
  · rw [if_neg h1]
    by_cases h2 : 0 < lg_cmp x b
    · rw [if_pos h2, zz_ck_of (Or.inl rfl), if_neg]
      intro h
      rw [lg_cmp_gt, Int64.lt_iff_toInt_lt] at h2
      have := Int64.le_iff_toInt_le.mp h.2
      omega
    · rw [if_neg h2, zz_ck_of (Or.inr rfl), if_pos]
      rw [lg_cmp_lt, Int64.lt_iff_toInt_lt] at h1
      rw [lg_cmp_gt, Int64.lt_iff_toInt_lt] at h2
      exact ⟨Int64.le_iff_toInt_le.mpr (by omega), Int64.le_iff_toInt_le.mpr (by omega)⟩
theorem zq_b (c : Prop) [Decidable c] : zz_bool (if c then 1 else 0) := by
  by_cases h : c
  · rw [if_pos h]; exact Or.inr rfl
  · rw [if_neg h]; exact Or.inl rfl
theorem zr_isMonth (x : Int32) : mX11_isMonth x = some (if 0 ≤ x.toInt ∧ x.toInt ≤ 23 then 1 else 0) := by
  unfold mX11_isMonth
  rw [zr_in, zz_b1_s, zz_ck_of (zq_b _)]
  congr 1
  have e : ((0 : Int64) ≤ x.toInt64 ∧ x.toInt64 ≤ (23 : Int64)) ↔ (0 ≤ x.toInt ∧ x.toInt ≤ 23) := by
    rw [Int64.le_iff_toInt_le, Int64.le_iff_toInt_le, Int32.toInt_toInt64]
    exact Iff.rfl
  simp only [e]
theorem zr_quantity (z : zz_M) {i : Nat} (hi : i < 10) : mX11_quantity (nI i) z = some (z.1 2 (3 * i + 1)) := by
  unfold mX11_quantity
  rw [zq_31, zz_ck_of (zq_k _ (by omega) (by decide)), nI_clamp (by omega)]
theorem zr_rate (z : zz_M) {i : Nat} (hi : i < 10) : mX11_rate (nI i) z = some (z.1 2 (3 * i + 2)) := by
  unfold mX11_rate
  rw [zq_32, zz_ck_of (zq_k _ (by omega) (by decide)), nI_clamp (by omega)]
theorem zr_kind (z : zz_M) {i : Nat} (hi : i < 10) : mX11_kind (nI i) z = some (z.1 2 (3 * i)) := by
  unfold mX11_kind
  rw [zq_3, zz_ck_of (zq_k _ (by omega) (by decide)), nI_clamp (by omega)]
theorem zr_th (v : Int64) (t : Int32) : mX11_thousandths v t = some (f_th v t) := by
  unfold mX11_thousandths f_th
  rw [zz_ck_of (by decide)]
theorem zr_doneOf_b2 (z : zz_M) {i : Nat} (hi : i < 10) : ∀ (m : Nat), m < 24 → ∀ n, m + 1 < n → mX11_doneOf_b2 z n (nI i) (nI m) = some (f_last (fun k => z.1 3 (10 * k + i)) 0 m) := by
  intro m
  induction m with
  | zero =>
    intro _ n hn
    obtain ⟨n, rfl⟩ : ∃ k, n = k + 2 := ⟨n - 2, by omega⟩
    rw [mX11_doneOf_b2, if_neg (nI_pos (by omega)), zq_10, zz_ck_of (zq_k _ (by omega) (by decide))]
    simp only [nI_clamp (show 10 * 0 + i < 2 ^ 31 by omega)]
    by_cases h : z.1 3 (10 * 0 + i) = -9999
    · rw [if_pos h, zz_nm_s, mX11_doneOf_b2, if_pos (by decide)]
      simp only [f_last, h, if_true]
    · rw [if_neg h, zz_ck_of (zq_k _ (by omega) (by decide))]
      simp only [f_last, h, if_false]
  | succ m ih =>
    intro hm n hn
    obtain ⟨n, rfl⟩ : ∃ k, n = k + 1 := ⟨n - 1, by omega⟩
    rw [mX11_doneOf_b2, if_neg (nI_pos (by omega)), zq_10, zz_ck_of (zq_k _ (by omega) (by decide))]
    simp only [nI_clamp (show 10 * (m + 1) + i < 2 ^ 31 by omega)]
    by_cases h : z.1 3 (10 * (m + 1) + i) = -9999
    · rw [if_pos h, zz_nm_s, zq_pred, ih (by omega) n (by omega)]
      simp only [f_last, h, if_true]
    · rw [if_neg h, zz_ck_of (zq_k _ (by omega) (by decide))]
      simp only [f_last, h, if_false]
theorem zr_doneOf (z : zz_M) {m i : Nat} (hm : m < 24) (hi : i < 10) : mX11_doneOf (nI m) (nI i) z = some (f_done (dz z) m i) := by
  unfold mX11_doneOf
  rw [zr_doneOf_b2 z hi m hm zz_N (by unfold zz_N; omega)]
  rfl
theorem zr_storedIn_b2 (z : zz_M) : ∀ (m : Nat), m < 24 → ∀ n, m + 1 < n → mX11_storedIn_b2 z n (nI m) = some (f_last (z.1 4) 0 m) := by
  intro m
  induction m with
  | zero =>
    intro _ n hn
    obtain ⟨n, rfl⟩ : ∃ k, n = k + 2 := ⟨n - 2, by omega⟩
    rw [mX11_storedIn_b2, if_neg (nI_pos (by omega)), zz_ck_of (zq_k _ (by omega) (by decide))]
    simp only [nI_clamp (show 0 < 2 ^ 31 by omega)]
    by_cases h : z.1 4 0 = -9999
    · rw [if_pos h, zz_nm_s, mX11_storedIn_b2, if_pos (by decide)]
      simp only [f_last, h, if_true]
    · rw [if_neg h, zz_ck_of (zq_k _ (by omega) (by decide))]
      simp only [f_last, h, if_false]
  | succ m ih =>
    intro hm n hn
    obtain ⟨n, rfl⟩ : ∃ k, n = k + 1 := ⟨n - 1, by omega⟩
    rw [mX11_storedIn_b2, if_neg (nI_pos (by omega)), zz_ck_of (zq_k _ (by omega) (by decide))]
    simp only [nI_clamp (show m + 1 < 2 ^ 31 by omega)]
    by_cases h : z.1 4 (m + 1) = -9999
    · rw [if_pos h, zz_nm_s, zq_pred, ih (by omega) n (by omega)]
      simp only [f_last, h, if_true]
    · rw [if_neg h, zz_ck_of (zq_k _ (by omega) (by decide))]
      simp only [f_last, h, if_false]
theorem zr_storedIn (z : zz_M) {m : Nat} (hm : m < 24) : mX11_storedIn (nI m) z = some (f_stored (dz z) m) := by
  unfold mX11_storedIn
  rw [zr_storedIn_b2 z m hm zz_N (by unfold zz_N; omega)]
  rfl
theorem zr_indexIn_b2 (z : zz_M) : ∀ (m : Nat), m < 24 → ∀ n, m + 1 < n → mX11_indexIn_b2 z n (nI m) = some (f_last (z.1 7) 1000 m) := by
  intro m
  induction m with
  | zero =>
    intro _ n hn
    obtain ⟨n, rfl⟩ : ∃ k, n = k + 2 := ⟨n - 2, by omega⟩
    rw [mX11_indexIn_b2, if_neg (nI_pos (by omega)), zz_ck_of (zq_k _ (by omega) (by decide))]
    simp only [nI_clamp (show 0 < 2 ^ 31 by omega)]
    by_cases h : z.1 7 0 = -9999
    · rw [if_pos h, zz_nm_s, mX11_indexIn_b2, if_pos (by decide)]
      simp only [f_last, h, if_true]
    · rw [if_neg h, zz_ck_of (zq_k _ (by omega) (by decide))]
      simp only [f_last, h, if_false]
  | succ m ih =>
    intro hm n hn
    obtain ⟨n, rfl⟩ : ∃ k, n = k + 1 := ⟨n - 1, by omega⟩
    rw [mX11_indexIn_b2, if_neg (nI_pos (by omega)), zz_ck_of (zq_k _ (by omega) (by decide))]
    simp only [nI_clamp (show m + 1 < 2 ^ 31 by omega)]
    by_cases h : z.1 7 (m + 1) = -9999
    · rw [if_pos h, zz_nm_s, zq_pred, ih (by omega) n (by omega)]
      simp only [f_last, h, if_true]
    · rw [if_neg h, zz_ck_of (zq_k _ (by omega) (by decide))]
      simp only [f_last, h, if_false]
theorem zr_indexIn (z : zz_M) {m : Nat} (hm : m < 24) : mX11_indexIn (nI m) z = some (f_index (dz z) m) := by
  unfold mX11_indexIn
  rw [zr_indexIn_b2 z m hm zz_N (by unfold zz_N; omega)]
  rfl
theorem zr_sumNow_b4 (z : zz_M) {k : Nat} (hk : k ≤ 10) (hn : z.2.2.1 2 = nI k) : ∀ (j i fuel : Nat), i + j = k → j < fuel → mX11_sumNow_b4 z fuel (f_acc (fun i => (z.1 2 (3 * i + 1)).toInt64 * (z.1 2 (3 * i + 2)).toInt64) 0 i) (nI i) = some (f_acc (fun i => (z.1 2 (3 * i + 1)).toInt64 * (z.1 2 (3 * i + 2)).toInt64) 0 k) := by
  intro j
  induction j with
  | zero =>
    intro i fuel hi hf
    obtain ⟨f, rfl⟩ : ∃ q, fuel = q + 1 := ⟨fuel - 1, by omega⟩
    obtain rfl : i = k := by omega
    rw [mX11_sumNow_b4, hn, if_pos (nI_le (Nat.le_refl _) (by omega))]
  | succ j ih =>
    intro i fuel hi hf
    obtain ⟨f, rfl⟩ : ∃ q, fuel = q + 1 := ⟨fuel - 1, by omega⟩
    rw [mX11_sumNow_b4, hn, if_neg (nI_ge (by omega) (by omega))]
    simp only [zr_quantity z (show i < 10 by omega), zr_rate z (show i < 10 by omega), zz_b1_s, zz_nm_s]
    rw [nI_1]
    exact ih (i + 1) f (by omega) (by omega)
theorem zr_sumNow (z : zz_M) (h : zInv (dz z)) : mX11_sumNow z = some (f_sum (dz z)) := by
  obtain ⟨⟨k, hk, hn, -, -⟩, -⟩ := h
  have hn' : z.2.2.1 2 = nI k := hn
  unfold mX11_sumNow
  have := zr_sumNow_b4 z hk hn' k 0 zz_N (by omega) (by unfold zz_N; omega)
  refine this.trans ?_
  unfold f_sum
  rw [hn, nI_clamp (by omega)]
  rfl
theorem zr_cap (z : zz_M) {i : Nat} (hi : i < 10) : mX11_cap (nI i) z = some (f_cap (dz z) i) := by
  unfold mX11_cap
  simp only [zr_quantity z hi, zz_b1_s]
  rw [zz_ck_of (zq_lit 9 14 (by decide) (by decide)), zr_th, zz_b1_s]
  rfl
theorem zr_partOf (z : zz_M) {m i : Nat} (hm : m < 24) (hi : i < 10) : mX11_partOf (nI m) (nI i) z = some (f_part (dz z) m i) := by
  unfold mX11_partOf
  simp only [zr_doneOf z hm hi, zr_cap z hi, zr_rate z hi, zz_b1_s, zz_nm_s]
  rw [zz_ck_of (zq_lit 10 14 (by decide) (by decide)), zr_th, zz_b1_s]
  rfl
theorem zr_priceOf_b8 (z : zz_M) {k : Nat} (hk : k ≤ 10) (hn : z.2.2.1 2 = nI k) (kind rate : Int32) : ∀ (j i fuel : Nat), i + j = k → j < fuel → mX11_priceOf_b8 z fuel kind rate (f_all (dz z) kind i) (f_cost (dz z) kind i) (nI i) = some (if f_all (dz z) kind k = 0 then rate else f_cost (dz z) kind k / f_all (dz z) kind k) := by
  intro j
  induction j with
  | zero =>
    intro i fuel hi hf
    obtain ⟨f, rfl⟩ : ∃ q, fuel = q + 1 := ⟨fuel - 1, by omega⟩
    obtain rfl : i = k := by omega
    rw [mX11_priceOf_b8, hn, if_pos (nI_le (Nat.le_refl _) (by omega))]
    unfold mX11_priceOf_b75
    by_cases h : f_all (dz z) kind i = 0
    · rw [if_pos h, if_pos h]
    · rw [if_neg h, if_neg h, zz_ck_of h]
  | succ j ih =>
    intro i fuel hi hf
    obtain ⟨f, rfl⟩ : ∃ q, fuel = q + 1 := ⟨fuel - 1, by omega⟩
    rw [mX11_priceOf_b8, hn, if_neg (nI_ge (by omega) (by omega))]
    simp only [zr_kind z (show i < 10 by omega), zr_quantity z (show i < 10 by omega), zr_rate z (show i < 10 by omega), zz_b1_s, zz_nm_s, mX11_priceOf_b57]
    have h1 := ih (i + 1) f (by omega) (by omega)
    simp only [f_all, f_cost] at h1
    rw [nI_1]
    by_cases h : z.1 2 (3 * i) = kind
    · rw [if_pos h]
      have h2 : d_it (dz z) (3 * i) = kind := h
      rw [if_pos h2, if_pos h2] at h1
      exact h1
    · rw [if_neg h]
      have h2 : ¬ d_it (dz z) (3 * i) = kind := h
      rw [if_neg h2, if_neg h2] at h1
      exact h1
theorem zr_priceOf (z : zz_M) (h : zInv (dz z)) (kind rate : Int32) : mX11_priceOf kind rate z = some (f_price (dz z) kind rate) := by
  obtain ⟨⟨k, hk, hn, -, -⟩, -⟩ := h
  have hn' : z.2.2.1 2 = nI k := hn
  unfold mX11_priceOf
  have := zr_priceOf_b8 z hk hn' kind rate k 0 zz_N (by omega) (by unfold zz_N; omega)
  refine this.trans ?_
  unfold f_price
  rw [hn, nI_clamp (by omega)]
theorem zr_worth (z : zz_M) (h : zInv (dz z)) {c : Nat} (hc : c < 8) : mX11_worth (nI c) z = some (f_worth (dz z) c) := by
  unfold mX11_worth
  rw [zq_41, zq_42, zq_43, zz_ck_of (zq_k _ (by omega) (by decide)), zz_ck_of (zq_k _ (by omega) (by decide)), zz_ck_of (zq_k _ (by omega) (by decide)), zr_priceOf z h, zz_b1_s, nI_clamp (by omega), nI_clamp (by omega), nI_clamp (by omega)]
  rfl
theorem zr_variedIn_b5 (z : zz_M) (h : zInv (dz z)) {k : Nat} (hk : k ≤ 8) (hn : z.2.2.1 6 = nI k) (m : Nat) : ∀ (j i fuel : Nat), i + j = k → j < fuel → mX11_variedIn_b5 z fuel (nI m) (f_acc (fun c => if nI m < d_ch (dz z) (4 * c) then 0 else f_worth (dz z) c) 0 i) (nI i) = some (f_acc (fun c => if nI m < d_ch (dz z) (4 * c) then 0 else f_worth (dz z) c) 0 k) := by
  intro j
  induction j with
  | zero =>
    intro i fuel hi hf
    obtain ⟨f, rfl⟩ : ∃ q, fuel = q + 1 := ⟨fuel - 1, by omega⟩
    obtain rfl : i = k := by omega
    rw [mX11_variedIn_b5, hn, if_pos (nI_le (Nat.le_refl _) (by omega))]
  | succ j ih =>
    intro i fuel hi hf
    obtain ⟨f, rfl⟩ : ∃ q, fuel = q + 1 := ⟨fuel - 1, by omega⟩
    rw [mX11_variedIn_b5, hn, if_neg (nI_ge (by omega) (by omega)), zq_4, zz_ck_of (zq_k _ (by omega) (by decide)), nI_clamp (by omega)]
    have h1 := ih (i + 1) f (by omega) (by omega)
    simp only [f_acc] at h1
    simp only [zr_worth z h (show i < 8 by omega), zz_b1_s, zz_nm_s, mX11_variedIn_b38]
    rw [nI_1]
    by_cases h : nI m < z.1 5 (4 * i)
    · rw [if_pos h]
      have h2 : nI m < d_ch (dz z) (4 * i) := h
      rw [if_pos h2] at h1
      exact h1
    · rw [if_neg h]
      have h2 : ¬ nI m < d_ch (dz z) (4 * i) := h
      rw [if_neg h2] at h1
      exact h1
theorem zr_variedIn (z : zz_M) (h : zInv (dz z)) (m : Nat) : mX11_variedIn (nI m) z = some (f_varied (dz z) m) := by
  obtain ⟨-, ⟨k, hk, hn, -⟩, -⟩ := id h
  have hn' : z.2.2.1 6 = nI k := hn
  unfold mX11_variedIn
  have := zr_variedIn_b5 z h hk hn' m k 0 zz_N (by omega) (by unfold zz_N; omega)
  refine this.trans ?_
  unfold f_varied
  rw [hn, nI_clamp (by omega)]
theorem zr_workIn_b9 (z : zz_M) {k : Nat} (hk : k ≤ 10) (hn : z.2.2.1 2 = nI k) {m : Nat} (hm : m < 24) (s : Int64) : ∀ (j i fuel : Nat), i + j = k → j < fuel → mX11_workIn_b9 z fuel (nI m) (f_acc (fun i => f_part (dz z) m i) s i) (nI i) = some (f_acc (fun i => f_part (dz z) m i) s k) := by
  intro j
  induction j with
  | zero =>
    intro i fuel hi hf
    obtain ⟨f, rfl⟩ : ∃ q, fuel = q + 1 := ⟨fuel - 1, by omega⟩
    obtain rfl : i = k := by omega
    rw [mX11_workIn_b9, hn, if_pos (nI_le (Nat.le_refl _) (by omega))]
  | succ j ih =>
    intro i fuel hi hf
    obtain ⟨f, rfl⟩ : ∃ q, fuel = q + 1 := ⟨fuel - 1, by omega⟩
    rw [mX11_workIn_b9, hn, if_neg (nI_ge (by omega) (by omega))]
    simp only [zr_partOf z hm (show i < 10 by omega), zz_b1_s, zz_nm_s]
    rw [nI_1]
    exact ih (i + 1) f (by omega) (by omega)
theorem zr_workIn (z : zz_M) (h : zInv (dz z)) {m : Nat} (hm : m < 24) : mX11_workIn (nI m) z = some (f_work (dz z) m) := by
  obtain ⟨⟨k, hk, hn, -, -⟩, -⟩ := id h
  have hn' : z.2.2.1 2 = nI k := hn
  unfold mX11_workIn
  rw [zr_variedIn z h, zz_b1_s]
  have := zr_workIn_b9 z hk hn' hm (f_varied (dz z) m) k 0 zz_N (by omega) (by unfold zz_N; omega)
  refine this.trans ?_
  unfold f_work
  rw [hn, nI_clamp (by omega)]
theorem zr_materialsIn (z : zz_M) {m : Nat} (hm : m < 24) : mX11_materialsIn (nI m) z = some (f_mat (dz z) m) := by
  unfold mX11_materialsIn mX11_materialsIn_b28
  rw [zr_storedIn z hm, zz_b1_s, zz_ck_of (zq_lit 6 14 (by decide) (by decide)), zr_th, zz_b1_s]
  unfold f_mat
  by_cases h : nI m < z.2.2.1 9
  · rw [if_pos h, if_pos (show nI m < d_ho (dz z) from h)]; rfl
  · rw [if_neg h, if_neg (show ¬ nI m < d_ho (dz z) from h)]
theorem zr_limitNow (z : zz_M) (h : zInv (dz z)) : mX11_limitNow z = some (f_limit (dz z)) := by
  unfold mX11_limitNow
  rw [zr_sumNow z h, zz_b1_s, zz_ck_of (zq_lit 1 14 (by decide) (by decide)), zr_th, zz_b1_s]
  rfl
theorem zr_advancedNow (z : zz_M) (h : zInv (dz z)) : mX11_advancedNow z = some (f_adv (dz z)) := by
  unfold mX11_advancedNow
  rw [zr_sumNow z h, zz_b1_s, zz_ck_of (zq_lit 3 14 (by decide) (by decide)), zr_th, zz_b1_s]
  rfl
theorem zr_mostDamages (z : zz_M) (h : zInv (dz z)) : mX11_mostDamages z = some (f_most (dz z)) := by
  unfold mX11_mostDamages
  rw [zr_sumNow z h, zz_b1_s, zz_ck_of (zq_lit 12 14 (by decide) (by decide)), zr_th, zz_b1_s]
  rfl
theorem zr_retainedIn (z : zz_M) (h : zInv (dz z)) {m : Nat} (hm : m < 24) : mX11_retainedIn (nI m) z = some (f_ret (dz z) m) := by
  unfold mX11_retainedIn mX11_retainedIn_b60
  rw [zr_limitNow z h, zz_b1_s, zr_workIn z h hm, zz_b1_s, zz_ck_of (zq_lit 0 14 (by decide) (by decide)), zr_th, zz_b1_s, zz_nm_s, zz_ck_of (zq_lit 2 14 (by decide) (by decide)), zr_th, zz_b1_s]
  unfold f_ret
  by_cases h1 : nI m < z.2.2.1 10
  · rw [if_pos h1, if_pos (show nI m < d_la (dz z) from h1)]
    by_cases h2 : nI m < z.2.2.1 9
    · rw [if_pos h2, if_pos (show nI m < d_ho (dz z) from h2)]; rfl
    · rw [if_neg h2, if_neg (show ¬ nI m < d_ho (dz z) from h2)]; rfl
  · rw [if_neg h1, if_neg (show ¬ nI m < d_la (dz z) from h1)]
theorem zr_heldOf (z : zz_M) {s m : Nat} (hs : s < 6) : mX11_heldOf (nI s) (nI m) z = some (f_held (dz z) s m) := by
  unfold mX11_heldOf mX11_heldOf_b74
  rw [zz_nm_s, zq_5, show nI (5 * s) + (1 : Int32) = nI (5 * s + 1) from nI_1 _, show nI (5 * s) + (2 : Int32) = nI (5 * s + 2) from nI_add _ 2, show nI (5 * s) + (3 : Int32) = nI (5 * s + 3) from nI_add _ 3, show nI (5 * s) + (4 : Int32) = nI (5 * s + 4) from nI_add _ 4]
  simp only [zz_ck_of (zq_k (n := 30) (5 * s) (by omega) (by decide)), zz_ck_of (zq_k (n := 30) (5 * s + 1) (by omega) (by decide)), zz_ck_of (zq_k (n := 30) (5 * s + 2) (by omega) (by decide)), zz_ck_of (zq_k (n := 30) (5 * s + 3) (by omega) (by decide)), zz_ck_of (zq_k (n := 30) (5 * s + 4) (by omega) (by decide)), zr_th, zz_b1_s]
  rw [nI_clamp (show 5 * s < 2 ^ 31 by omega), nI_clamp (show 5 * s + 1 < 2 ^ 31 by omega), nI_clamp (show 5 * s + 2 < 2 ^ 31 by omega), nI_clamp (show 5 * s + 3 < 2 ^ 31 by omega), nI_clamp (show 5 * s + 4 < 2 ^ 31 by omega)]
  unfold f_held
  show _ = some (if z.1 6 (5 * s) ≤ nI m then (if nI m < z.1 6 (5 * s + 3) then (if nI m < z.1 6 (5 * s + 2) then z.1 6 (5 * s + 1) else 0) else (f_th (z.1 6 (5 * s + 1)).toInt64 (z.1 6 (5 * s + 4))).toInt32) else 0)
  by_cases h1 : z.1 6 (5 * s) ≤ nI m
  · rw [if_pos h1, if_pos h1]
    by_cases h2 : nI m < z.1 6 (5 * s + 3)
    · rw [if_pos h2, if_pos h2]
      by_cases h3 : nI m < z.1 6 (5 * s + 2)
      · rw [if_pos h3, if_pos h3]
      · rw [if_neg h3, if_neg h3]
    · rw [if_neg h2, if_neg h2]
  · rw [if_neg h1, if_neg h1]
theorem zr_setIn_b5 (z : zz_M) {k : Nat} (hk : k ≤ 6) (hn : z.2.2.1 8 = nI k) (m : Nat) : ∀ (j i fuel : Nat), i + j = k → j < fuel → mX11_setIn_b5 z fuel (nI m) (f_acc (fun s => (f_held (dz z) s m).toInt64) 0 i) (nI i) = some (f_acc (fun s => (f_held (dz z) s m).toInt64) 0 k) := by
  intro j
  induction j with
  | zero =>
    intro i fuel hi hf
    obtain ⟨f, rfl⟩ : ∃ q, fuel = q + 1 := ⟨fuel - 1, by omega⟩
    obtain rfl : i = k := by omega
    rw [mX11_setIn_b5, hn, if_pos (nI_le (Nat.le_refl _) (by omega))]
  | succ j ih =>
    intro i fuel hi hf
    obtain ⟨f, rfl⟩ : ∃ q, fuel = q + 1 := ⟨fuel - 1, by omega⟩
    rw [mX11_setIn_b5, hn, if_neg (nI_ge (by omega) (by omega))]
    simp only [zr_heldOf z (show i < 6 by omega), zz_b1_s, zz_nm_s]
    rw [nI_1]
    exact ih (i + 1) f (by omega) (by omega)
theorem zr_setIn (z : zz_M) (h : zInv (dz z)) (m : Nat) : mX11_setIn (nI m) z = some (f_set (dz z) m) := by
  obtain ⟨-, -, ⟨k, hk, hn, -⟩, -⟩ := id h
  have hn' : z.2.2.1 8 = nI k := hn
  unfold mX11_setIn
  have := zr_setIn_b5 z hk hn' m k 0 zz_N (by omega) (by unfold zz_N; omega)
  refine this.trans ?_
  unfold f_set
  rw [hn, nI_clamp (by omega)]
theorem zr_damagesBy (z : zz_M) (h : zInv (dz z)) (b : Int32) (m : Nat) : mX11_damagesBy b (nI m) z = some (f_damBy (dz z) b m) := by
  unfold mX11_damagesBy
  rw [zr_mostDamages z h, zr_sumNow z h]
  simp only [zz_nm_s, zz_b1_s, zz_ck_of (zq_lit 11 14 (by decide) (by decide)), zr_th]
  unfold f_damBy
  by_cases h1 : z.2.2.1 11 = 24
  · rw [if_pos h1, if_pos (show d_du (dz z) = 24 from h1)]
  · rw [if_neg h1, if_neg (show ¬ d_du (dz z) = 24 from h1)]; rfl
theorem zr_damagesIn (z : zz_M) (h : zInv (dz z)) (m : Nat) : mX11_damagesIn (nI m) z = some (f_dam (dz z) m) := by
  unfold mX11_damagesIn
  rw [zr_damagesBy z h, zz_b1_s]
  rfl
theorem zr_paidTill_b5 (z : zz_M) {m : Nat} (hm : m < 24) : ∀ (j i fuel : Nat), i + j = m + 1 → j < fuel → mX11_paidTill_b5 z fuel (nI m) (f_acc (fun k => (d_pd (dz z) k).toInt64) 0 i) (nI i) = some (f_acc (fun k => (d_pd (dz z) k).toInt64) 0 (m + 1)) := by
  intro j
  induction j with
  | zero =>
    intro i fuel hi hf
    obtain ⟨f, rfl⟩ : ∃ q, fuel = q + 1 := ⟨fuel - 1, by omega⟩
    obtain rfl : i = m + 1 := by omega
    rw [mX11_paidTill_b5, if_pos (nI_lt (by omega) (by omega))]
  | succ j ih =>
    intro i fuel hi hf
    obtain ⟨f, rfl⟩ : ∃ q, fuel = q + 1 := ⟨fuel - 1, by omega⟩
    rw [mX11_paidTill_b5, if_neg (nI_nlt (by omega) (by omega)), zz_ck_of (zq_k _ (by omega) (by decide)), nI_clamp (by omega), zz_nm_s, zz_nm_s, nI_1]
    exact ih (i + 1) f (by omega) (by omega)
theorem zr_paidTill (z : zz_M) {m : Nat} (hm : m < 24) : mX11_paidTill (nI m) z = some (f_paid (dz z) m) := by
  unfold mX11_paidTill
  exact zr_paidTill_b5 z hm (m + 1) 0 zz_N (by omega) (by unfold zz_N; omega)
