/-! ===== item, priced, like, leads, above ===== -/
def f_grow (d : zD) (m i : Nat) : Int64 := match m with
  | 0 => f_part d 0 i - 0
  | k + 1 => f_part d (k + 1) i - f_part d k i
theorem nI_pos_le {m : Nat} (h : m < 2 ^ 31) (h2 : 0 < m) : ¬ nI m ≤ (0 : Int32) := by
  rw [Int32.le_iff_toInt_le, nI_toInt h]
  have : (0 : Int32).toInt = 0 := rfl
  omega
theorem nI_pos_eq {m : Nat} (h : m < 2 ^ 31) (h2 : 0 < m) : ¬ nI m = (0 : Int32) := by
  intro e
  have := congrArg Int32.toInt e
  rw [nI_toInt h] at this
  have : (0 : Int32).toInt = 0 := rfl
  omega
theorem zc_partMore {s : zz_M} {d : zD} (h : zC0 s d) (hI : zInv d) {m i : Nat} (hm : m < 24) (hi : i < (d_n d).toNatClampNeg) : mX2_partMore (nI i) (nI m) s = some (f_grow d m i) := by
  unfold mX2_partMore mX2_partMore_b22
  rw [zc_part h hI hm hi, zz_b1_s]
  cases m with
  | zero => rw [if_pos (show nI 0 ≤ (0 : Int32) by decide)]; rfl
  | succ m =>
    rw [if_neg (nI_pos_le (by omega) (by omega)), nI_pred, zc_part h hI (by omega) hi, zz_b1_s]
    rfl
theorem zr_grown (z : zz_M) {m i : Nat} (hm : m < 24) (hi : i < 10) : mX11_grown (nI m) (nI i) z = some (f_grow (dz z) m i) := by
  unfold mX11_grown mX11_grown_b22
  rw [zr_partOf z hm hi, zz_b1_s]
  cases m with
  | zero => rw [if_pos (show nI 0 = (0 : Int32) from rfl)]; rfl
  | succ m =>
    rw [if_neg (nI_pos_eq (by omega) (by omega)), nI_pred, zr_partOf z (by omega) hi, zz_b1_s]
    rfl
theorem zc_isAboveCap {s : zz_M} {d : zD} (h : zC0 s d) (hI : zInv d) {m i : Nat} (hm : m < 24) (hi : i < (d_n d).toNatClampNeg) : mX2_isAboveCap (nI i) (nI m) s = some (if f_done d m i ≤ f_cap d i then 0 else 1) := by
  obtain ⟨k, hk, e, ec, -⟩ := zi_n hI
  unfold mX2_isAboveCap mX2_isAboveCap_b21
  rw [zc_done h hm (by omega), zz_b1_s, zc_cap h hI hi, zz_b1_s, zz_ck_of (Or.inl rfl), zz_ck_of (Or.inr rfl)]
  have q : lg_cmp (f_done d m i).toInt64 (f_cap d i).toInt64 ≤ 0 ↔ f_done d m i ≤ f_cap d i := by
    rw [lg_cmp_le, Int64.le_iff_toInt_le, zl_wide, zl_wide, Int32.le_iff_toInt_le]
  by_cases c : f_done d m i ≤ f_cap d i
  · rw [if_pos (q.mpr c), if_pos c]
  · rw [if_neg (fun w => c (q.mp w)), if_neg c]
theorem B_item {s t : zz_M} (h : zR s t) (x i : Int32) : zOk (mX10_item x i s) (mX11_item x i t) := by
  have h0 := zR_thr h 0
  unfold mX10_item mX11_item mX10_item_b21 mX11_item_b20 mX10_item_b73 mX11_item_b67
  simp only [zz_nm_s]
  generalize zz_sF t 19 0 = t0 at h0 ⊢
  obtain ⟨hC, hI, hT, hW⟩ := id h0
  obtain ⟨n, hn, en, en', ec⟩ := zR_n h0
  rw [zc_isMonth, zr_isMonth, zc_hasI s i (by omega) en', zr_isItem t0 i (by omega) en, zz_b1_s, zz_b1_s, zz_b1_s, zz_b1_s]
  refine zOk_tst Iff.rfl (fun c => ?_) (fun c => zOk_ret h0)
  refine zOk_tst Iff.rfl (fun ci => ?_) (fun c => zOk_ret h0)
  obtain ⟨m, hm, rfl⟩ := zq_month c
  obtain ⟨i, hi, rfl⟩ := zq_of_in ci.1 ci.2 (by omega)
  have hi' : i < 10 := by omega
  generalize hd : dz t0 = d at *
  obtain ⟨s1, a1, b1⟩ := zc_start s (f_part d m i)
  obtain ⟨s2, a2, b2⟩ := zc_then b1 (by simp) (f_grow d m i)
  obtain ⟨s3, a3, b3⟩ := zc_then b2 (by simp) (0 : Int64)
  obtain ⟨s4, a4, b4⟩ := zc_then b2 (by simp) (1 : Int64)
  have q0 := zr_row0 t0
  obtain ⟨t1, x1, y1⟩ := zr_tell q0 (by simp) (f_part d m i)
  obtain ⟨t2, x2, y2⟩ := zr_tell y1 (by simp) (f_grow d m i)
  obtain ⟨t3, x3, y3⟩ := zr_tell y2 (by simp) (0 : Int64)
  obtain ⟨t4, x4, y4⟩ := zr_tell y2 (by simp) (1 : Int64)
  rw [zc_part hC.1 hI hm (by omega), zz_b1_s, a1, zz_b2_s, zc_partMore (b1.c0 hC.1) hI hm (by omega), zz_b1_s, a2, zz_b2_s, zc_isAboveCap (b2.c0 hC.1) hI hm (by omega), zz_b1_s, zz_tj, a3, a4, zz_b2_s, zz_b2_s, zc_done (b3.c0 hC.1) hm hi', zc_done (b4.c0 hC.1) hm hi', zz_b1_s, zz_b1_s]
  rw [zr_partOf _ hm hi', zz_b1_s, q0.d, hd, x1, zz_b2_s, zr_grown _ hm hi', zz_b1_s, y1.d, hd, x2, zz_b2_s, zr_doneOf _ hm hi', zz_b1_s, zr_cap _ hi', zz_b1_s, y2.d, hd, x3, x4, zz_b2_s, zz_b2_s, zr_doneOf _ hm hi', zr_doneOf _ hm hi', zz_b1_s, zz_b1_s, y3.d, y4.d, hd]
  exact zOk_if Iff.rfl (fun _ => zOk_ret (zR_row h0 b3 y3 (by simp))) (fun _ => zOk_ret (zR_row h0 b4 y4 (by simp)))
/-- the bits of the items of a kind -/
def f_bits (d : zD) (kind : Int32) : Nat → Int32
  | 0 => 0
  | k + 1 => f_bits d kind k ||| (if d_it d (3 * k) = kind then (1 : Int32) <<< (nI k &&& 31) else 0)
theorem f_bits_s (d : zD) (kind : Int32) (k : Nat) : f_bits d kind (k + 1) = f_bits d kind k ||| (if d_it d (3 * k) = kind then (1 : Int32) <<< (nI k &&& 31) else 0) := rfl
theorem zq_bits : ((List.range 10).all fun k => (List.range 1024).all fun b => if b < 2 ^ k then (nI b ||| ((1 : Int32) <<< (nI k &&& 31))) == nI (b + 2 ^ k) else true) = true := by decide +kernel
theorem zq_count : ((List.range 1024).all fun b => mX11_countBits (nI b) == mJ6_bitCount_0f7a4 (nI b) && (mX11_countBits (nI b)).isSome) = true := by decide +kernel
theorem f_bits_in (d : zD) (kind : Int32) : ∀ k, k ≤ 10 → ∃ b : Nat, b < 2 ^ k ∧ f_bits d kind k = nI b := by
  intro k
  induction k with
  | zero => intro _; exact ⟨0, by decide, rfl⟩
  | succ k ih =>
    intro hk
    obtain ⟨b, hb, e⟩ := ih (by omega)
    rw [f_bits_s, e]
    have hp : (2 : Nat) ^ (k + 1) = 2 ^ k + 2 ^ k := by rw [Nat.pow_succ]; omega
    by_cases c : d_it d (3 * k) = kind
    · rw [if_pos c]
      have hb2 : b < 1024 := Nat.lt_of_lt_of_le hb (show 2 ^ k ≤ 2 ^ 10 from Nat.pow_le_pow_right (by decide) (by omega))
      have h1 := List.all_eq_true.mp zq_bits k (List.mem_range.mpr (by omega))
      have h2 := List.all_eq_true.mp h1 b (List.mem_range.mpr hb2)
      rw [if_pos hb] at h2
      exact ⟨b + 2 ^ k, by omega, eq_of_beq h2⟩
    · rw [if_neg c]
      refine ⟨b, by omega, ?_⟩
      simp
theorem zc_likeBits_b4 {s : zz_M} {d : zD} (h : zC0 s d) {k : Nat} (hk : k ≤ 10) (ek : (d_n d).toNatClampNeg = k) (hn : s.2.2.1 579 = nI k) (kind : Int32) : ∀ (j i fuel : Nat), i + j = k → j < fuel → mX0_likeBits_b4 9 s fuel kind (f_bits d kind i) (nI i) = some (f_bits d kind k) := by
  intro j
  induction j with
  | zero =>
    intro i fuel hi hf
    obtain ⟨f, rfl⟩ : ∃ f, fuel = f + 1 := ⟨fuel - 1, by omega⟩
    have : i = k := by omega
    subst this
    unfold mX0_likeBits_b4
    rw [show s.2.2.1 (64 * 9 + 3) = nI i from hn, if_pos (show nI i ≤ nI i from Int32.le_iff_toInt_le.mpr (Int.le_refl _))]
  | succ j ih =>
    intro i fuel hi hf
    obtain ⟨f, rfl⟩ : ∃ f, fuel = f + 1 := ⟨fuel - 1, by omega⟩
    unfold mX0_likeBits_b4 mX0_likeBits_b30
    have hin := zq_k i (show i < 10 by omega) (show 10 < 2 ^ 31 by decide)
    rw [show s.2.2.1 (64 * 9 + 3) = nI k from hn, if_neg (show ¬ nI k ≤ nI i by rw [Int32.le_iff_toInt_le, nI_toInt (by omega), nI_toInt (by omega)]; omega), zz_ck_of hin, zz_nm_s, zz_nm_s, zz_nm_s, zz_nm_s, nI_clamp (by omega), nI_1, show s.1 (9 + 1) i = _ from (h.2.1.2.1 i (by omega)).1]
    have := ih (i + 1) f (by omega) (by omega)
    rw [f_bits_s] at this
    by_cases c : d_it d (3 * i) = kind
    · rw [if_pos c] at this
      rw [if_pos c]
      exact this
    · rw [if_neg c] at this
      rw [if_neg c]
      exact this
theorem zc_likeBits {s : zz_M} {d : zD} (h : zC0 s d) (hI : zInv d) (kind : Int32) : mX0_likeBits 9 kind s = some (f_bits d kind (d_n d).toNatClampNeg) := by
  obtain ⟨k, hk, e, ec, -⟩ := zi_n hI
  have := zc_likeBits_b4 h hk ec (h.2.1.1.trans e) kind k 0 zz_N (by omega) (by unfold zz_N; omega)
  rw [ec]
  unfold mX0_likeBits
  exact this
theorem zr_likeBits_b4 (z : zz_M) {k : Nat} (hk : k ≤ 10) (hn : z.2.2.1 2 = nI k) (kind : Int32) : ∀ (j i fuel : Nat), i + j = k → j < fuel → mX11_likeBits_b4 z fuel kind (f_bits (dz z) kind i) (nI i) = some (f_bits (dz z) kind k) := by
  intro j
  induction j with
  | zero =>
    intro i fuel hi hf
    obtain ⟨f, rfl⟩ : ∃ f, fuel = f + 1 := ⟨fuel - 1, by omega⟩
    have : i = k := by omega
    subst this
    unfold mX11_likeBits_b4
    rw [hn, if_pos (show nI i ≤ nI i from Int32.le_iff_toInt_le.mpr (Int.le_refl _))]
  | succ j ih =>
    intro i fuel hi hf
    obtain ⟨f, rfl⟩ : ∃ f, fuel = f + 1 := ⟨fuel - 1, by omega⟩
    unfold mX11_likeBits_b4 mX11_likeBits_b29
    rw [hn, if_neg (show ¬ nI k ≤ nI i by rw [Int32.le_iff_toInt_le, nI_toInt (by omega), nI_toInt (by omega)]; omega), zr_kind z (show i < 10 by omega), zz_b1_s, zz_nm_s, zz_nm_s, zz_nm_s, zz_nm_s, nI_1]
    have := ih (i + 1) f (by omega) (by omega)
    rw [f_bits_s] at this
    by_cases c : d_it (dz z) (3 * i) = kind
    · rw [if_pos c] at this
      rw [if_pos (show z.1 2 (3 * i) = kind from c)]
      exact this
    · rw [if_neg c] at this
      rw [if_neg (show ¬ z.1 2 (3 * i) = kind from c)]
      exact this
theorem zr_likeBits (z : zz_M) (hI : zInv (dz z)) (kind : Int32) : mX11_likeBits kind z = some (f_bits (dz z) kind (d_n (dz z)).toNatClampNeg) := by
  obtain ⟨k, hk, e, ec, -⟩ := zi_n hI
  have := zr_likeBits_b4 z hk e kind k 0 zz_N (by omega) (by unfold zz_N; omega)
  rw [ec]
  unfold mX11_likeBits
  exact this
theorem z_count {d : zD} (hI : zInv d) (kind : Int32) : ∃ r, mX11_countBits (f_bits d kind (d_n d).toNatClampNeg) = some r ∧ mJ6_bitCount_0f7a4 (f_bits d kind (d_n d).toNatClampNeg) = some r := by
  obtain ⟨k, hk, e, ec, -⟩ := zi_n hI
  obtain ⟨b, hb, eb⟩ := f_bits_in d kind k hk
  have hb2 : b < 1024 := Nat.lt_of_lt_of_le hb (show 2 ^ k ≤ 2 ^ 10 from Nat.pow_le_pow_right (by decide) (by omega))
  have h1 := List.all_eq_true.mp zq_count b (List.mem_range.mpr hb2)
  rw [Bool.and_eq_true] at h1
  rw [ec, eb, ← eq_of_beq h1.1]
  cases hq : mX11_countBits (nI b) with
  | none => rw [hq] at h1; cases h1.2
  | some r => exact ⟨r, rfl, rfl⟩
theorem B_priced {s t : zz_M} (h : zR s t) (x : Int32) : zOk (mX10_priced x s) (mX11_priced x t) := by
  have h0 := zR_thr h 0
  unfold mX10_priced mX11_priced
  simp only [zz_nm_s]
  generalize zz_sF t 19 0 = t0 at h0 ⊢
  obtain ⟨hC, hI, hT, hW⟩ := id h0
  obtain ⟨n, hn, en, en', ec⟩ := zR_cm h0
  rw [zc_hasC s x (by omega) en', zr_isChange t0 x (by omega) en, zz_b1_s, zz_b1_s]
  refine zOk_tst Iff.rfl (fun cx => ?_) (fun c => zOk_ret h0)
  obtain ⟨c, hc, rfl⟩ := zq_of_in cx.1 cx.2 (by omega)
  have ic := zq_k c (show c < 8 by omega) (show 8 < 2 ^ 31 by decide)
  have i0 := zq_k (4 * c) (show 4 * c < 32 by omega) (show 32 < 2 ^ 31 by decide)
  have i1 := zq_k (4 * c + 1) (show 4 * c + 1 < 32 by omega) (show 32 < 2 ^ 31 by decide)
  have i2 := zq_k (4 * c + 2) (show 4 * c + 2 < 32 by omega) (show 32 < 2 ^ 31 by decide)
  have i3 := zq_k (4 * c + 3) (show 4 * c + 3 < 32 by omega) (show 32 < 2 ^ 31 by decide)
  rw [zq_41, zq_42, zq_43, zq_4]
  simp only [zz_ck_of ic, zz_ck_of i0, zz_ck_of i1, zz_ck_of i2, zz_ck_of i3, nI_clamp (show 4 * c < 2 ^ 31 by omega), nI_clamp (show 4 * c + 1 < 2 ^ 31 by omega), nI_clamp (show 4 * c + 2 < 2 ^ 31 by omega), nI_clamp (show 4 * c + 3 < 2 ^ 31 by omega), nI_clamp (show c < 2 ^ 31 by omega)]
  obtain ⟨p0, p1, p2, p3⟩ := hC.1.2.2.2.1.2 c (by omega)
  generalize hd : dz t0 = d at *
  obtain ⟨r, r1, r2⟩ := z_count hI (d_ch d (4 * c + 1))
  obtain ⟨s1, a1, b1⟩ := zc_start s ((d_ch d (4 * c)).toInt64)
  obtain ⟨s2, a2, b2⟩ := zc_then b1 (by simp) ((d_ch d (4 * c + 1)).toInt64)
  obtain ⟨s3, a3, b3⟩ := zc_then b2 (by simp) ((d_ch d (4 * c + 2)).toInt64)
  obtain ⟨s4, a4, b4⟩ := zc_then b3 (by simp) (f_worth d c)
  obtain ⟨s5, a5, b5⟩ := zc_then b4 (by simp) (r.toInt64)
  have q0 := zr_row0 t0
  obtain ⟨t1, x1, y1⟩ := zr_tell q0 (by simp) ((d_ch d (4 * c)).toInt64)
  obtain ⟨t2, x2, y2⟩ := zr_tell y1 (by simp) ((d_ch d (4 * c + 1)).toInt64)
  obtain ⟨t3, x3, y3⟩ := zr_tell y2 (by simp) ((d_ch d (4 * c + 2)).toInt64)
  obtain ⟨t4, x4, y4⟩ := zr_tell y3 (by simp) (f_worth d c)
  obtain ⟨t5, x5, y5⟩ := zr_tell y4 (by simp) (r.toInt64)
  have hI0 : zInv (dz t0) := by rw [hd]; exact hI
  rw [p0, a1, zz_b2_s, p1, a2, zz_b2_s, b2.1, p2, a3, zz_b2_s, zc_worth (b3.c0 hC.1) hI (by omega), zz_b1_s, a4, zz_b2_s, zc_likeBits (b4.c0 hC.1) hI, zz_b1_s, r2, zz_b1_s, a5, zz_b2_s, b5.1, p3]
  have g : t0.1 5 = d_ch d := congrArg d_ch hd
  rw [q0.1, g, x1, zz_b2_s, y1.1, g, x2, zz_b2_s, y2.1, g, x3, zz_b2_s, zr_worth _ (y3.i hI0) (by omega), zz_b1_s, y3.d, hd, x4, zz_b2_s, y4.1, g, zr_likeBits _ (y4.i hI0), zz_b1_s, y4.d, hd, r1, zz_b1_s, x5, zz_b2_s, y5.1, g, zr_priceOf _ (y5.i hI0), zz_b1_s, y5.d, hd]
  exact zOk_ret (zR_row h0 b5 y5 (by simp))
