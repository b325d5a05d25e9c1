/-! ===== both memories hold the same: the relation that every call keeps ===== -/
def zTx (s t : zz_M) : Prop := ∃ n : Nat, n ≤ 120 ∧ s.2.2.1 65 = nI n ∧ t.2.2.1 16 = nI n ∧ ∀ j, j < n → s.1 2 j = (t.1 9 j) &&& 255
def zRw (s t : zz_M) : Prop := ∃ n : Nat, n ≤ 5 ∧ s.2.2.1 6337 = nI n ∧ t.2.2.1 18 = nI n ∧ ∀ j, j < n → s.2.1 100 j = t.2.1 10 j
def zR (s t : zz_M) : Prop := zC s (dz t) ∧ zInv (dz t) ∧ zTx s t ∧ zRw s t
theorem zTx_eq {s s1 t t1 : zz_M} (h : zTx s t) (a : s1.2.2.1 65 = s.2.2.1 65) (b : s1.1 2 = s.1 2) (c : t1.2.2.1 16 = t.2.2.1 16) (d : t1.1 9 = t.1 9) : zTx s1 t1 := by
  unfold zTx at *
  rw [a, b, c, d]
  exact h
theorem zRw_eq {s s1 t t1 : zz_M} (h : zRw s t) (a : s1.2.2.1 6337 = s.2.2.1 6337) (b : s1.2.1 100 = s.2.1 100) (c : t1.2.2.1 18 = t.2.2.1 18) (d : t1.2.1 10 = t.2.1 10) : zRw s1 t1 := by
  unfold zRw at *
  rw [a, b, c, d]
  exact h
/-- the reference's mark of a throw is no part of it -/
theorem zR_thr {s t : zz_M} (h : zR s t) (v : Int32) : zR s (zz_sF t 19 v) := ⟨h.1, h.2.1, zTx_eq h.2.2.1 rfl rfl rfl rfl, zRw_eq h.2.2.2 rfl rfl rfl rfl⟩
theorem zc_isWithin (x a b : Int32) : mX10_isWithin x a b = some (if a.toInt ≤ x.toInt ∧ x.toInt ≤ b.toInt then 1 else 0) := by
  unfold mX10_isWithin mX10_isWithin_b14 mX10_isWithin_b15
  by_cases h1 : x < a
  · rw [if_pos h1, zz_ck_of (Or.inl rfl), if_neg]
    intro h
    have := Int32.lt_iff_toInt_lt.mp h1
    omega
  · rw [if_neg h1]
    by_cases h2 : b < x
    · rw [if_pos h2, zz_ck_of (Or.inl rfl), if_neg]
      intro h
      have := Int32.lt_iff_toInt_lt.mp h2
      omega
    · rw [if_neg h2, zz_ck_of (Or.inr rfl), if_pos]
      rw [Int32.lt_iff_toInt_lt] at h1 h2
      omega
theorem zc_isMonth (x : Int32) : mX10_isMonth x = some (if 0 ≤ x.toInt ∧ x.toInt ≤ 23 then 1 else 0) := by
  unfold mX10_isMonth
  rw [zc_isWithin, zz_b1_s, zz_ck_of (zq_b _)]
  rfl
/-- the reference's test of an int between two longs -/
theorem zr_in32 (x : Int32) (a b : Int64) : mX11_in x.toInt64 a b = some (if a.toInt ≤ x.toInt ∧ x.toInt ≤ b.toInt then 1 else 0) := by
  rw [zr_in]
  have e : (a ≤ x.toInt64 ∧ x.toInt64 ≤ b) ↔ (a.toInt ≤ x.toInt ∧ x.toInt ≤ b.toInt) := by
    rw [Int64.le_iff_toInt_le, Int64.le_iff_toInt_le, zl_wide]
  simp only [e]
theorem zq_not0 : ¬ (1 : Int32) = 0 := by decide
theorem zq_of_in {x : Int32} {n : Nat} (h : 0 ≤ x.toInt) (h2 : x.toInt < n) (hn : n < 2 ^ 31) : ∃ k : Nat, k < n ∧ x = nI k := by
  refine ⟨x.toInt.toNat, by omega, ?_⟩
  apply Int32.toInt_inj.mp
  rw [nI_toInt (by omega)]
  omega
theorem zq_month {x : Int32} (h : 0 ≤ x.toInt ∧ x.toInt ≤ 23) : ∃ k : Nat, k < 24 ∧ x = nI k := zq_of_in h.1 (by omega) (by decide)
/-- the four numbers handover, last, due, granted alone have changed -/
def d_sc (d : zD) (ho la du gr : Int32) : zD := (d_tm d, d_it d, d_ms d, d_st d, d_ch d, d_se d, d_ix d, d_pd d, d_n d, d_cm d, d_sm d, ho, la, du, gr)
theorem zInv_sc {d : zD} (h : zInv d) {ho la du gr : Int32} (h1 : ∃ k : Nat, k ≤ 24 ∧ ho = nI k) (h2 : ∃ k : Nat, k ≤ 24 ∧ la = nI k) (h3 : ∃ k : Nat, k ≤ 24 ∧ du = nI k) (h4 : ∃ k : Nat, k ≤ 40 ∧ gr = nI k) : zInv (d_sc d ho la du gr) := by
  obtain ⟨a, b, c, -, -, -, -, e⟩ := h
  exact ⟨a, b, c, h1, h2, h3, h4, e⟩
theorem f_acc_cg {g g' : Nat → Int64} (s0 : Int64) : ∀ k : Nat, (∀ i, i < k → g i = g' i) → f_acc g s0 k = f_acc g' s0 k := by
  intro k
  induction k with
  | zero => intro _; rfl
  | succ k ih =>
    intro h
    show f_acc g s0 k + g k = f_acc g' s0 k + g' k
    rw [ih (fun i hi => h i (by omega)), h k (by omega)]
theorem f_sum_cg {d d' : zD} (h1 : d_it d' = d_it d) (h2 : d_n d' = d_n d) : f_sum d' = f_sum d := by
  unfold f_sum
  rw [h1, h2]
theorem f_all_cg {d d' : zD} (h1 : d_it d' = d_it d) (k : Int32) : ∀ n, f_all d' k n = f_all d k n := by
  intro n
  induction n with
  | zero => rfl
  | succ n ih => unfold f_all; rw [ih, h1]
theorem f_cost_cg {d d' : zD} (h1 : d_it d' = d_it d) (k : Int32) : ∀ n, f_cost d' k n = f_cost d k n := by
  intro n
  induction n with
  | zero => rfl
  | succ n ih => unfold f_cost; rw [ih, h1]
theorem f_price_cg {d d' : zD} (h1 : d_it d' = d_it d) (h2 : d_n d' = d_n d) (k r : Int32) : f_price d' k r = f_price d k r := by
  unfold f_price
  rw [f_all_cg h1, f_cost_cg h1, h2]
theorem zC_tm_cg {s s' : zz_M} {d d' : zD} (h : zC_tm s d) (a : s'.1 14 = s.1 14) (b : d_tm d' = d_tm d) : zC_tm s' d' := by
  unfold zC_tm at *
  rw [a, b]
  exact h
theorem zC_it_cg {s s' : zz_M} {d d' : zD} (h : zC_it s d) (a : s'.1 10 = s.1 10) (b : s'.1 11 = s.1 11) (c : s'.1 12 = s.1 12) (f : s'.2.2.1 579 = s.2.2.1 579) (g : s'.2.2.1 580 = s.2.2.1 580) (e1 : d_it d' = d_it d) (e2 : d_n d' = d_n d) : zC_it s' d' := by
  unfold zC_it at *
  rw [a, b, c, f, g, f_sum_cg e1 e2, e1, e2]
  exact h
theorem zSer_cg {s s' : zz_M} {k : Nat} {g : Nat → Int32} {w : Int32} (h : zSer s k g w) (a : s'.1 (16 + 3 * k + 1) = s.1 (16 + 3 * k + 1)) (b : s'.1 (16 + 3 * k + 2) = s.1 (16 + 3 * k + 2)) (c : s'.2.2.1 (64 * (16 + 3 * k) + 2) = s.2.2.1 (64 * (16 + 3 * k) + 2)) : zSer s' k g w := by
  unfold zSer at *
  rw [a, b, c]
  exact h
theorem zC_ms_cg {s s' : zz_M} {d d' : zD} (h : zC_ms s d) (a : ∀ q, 17 ≤ q → q ≤ 51 → s'.1 q = s.1 q) (b : ∀ k, k < 12 → s'.2.2.1 (64 * (16 + 3 * k) + 2) = s.2.2.1 (64 * (16 + 3 * k) + 2)) (e1 : d_ms d' = d_ms d) (e2 : d_st d' = d_st d) (e3 : d_ix d' = d_ix d) : zC_ms s' d' := by
  unfold zC_ms at *
  rw [e1, e2, e3]
  exact ⟨fun k hk => zSer_cg (h.1 k hk) (a _ (by omega) (by omega)) (a _ (by omega) (by omega)) (b k (by omega)), zSer_cg h.2.1 (a _ (by omega) (by omega)) (a _ (by omega) (by omega)) (b 10 (by omega)), zSer_cg h.2.2 (a _ (by omega) (by omega)) (a _ (by omega) (by omega)) (b 11 (by omega))⟩
theorem zC_ch_cg {s s' : zz_M} {d d' : zD} (h : zC_ch s d) (a : ∀ q, 53 ≤ q → q ≤ 56 → s'.1 q = s.1 q) (f : s'.2.2.1 3332 = s.2.2.1 3332) (e1 : d_it d' = d_it d) (e2 : d_n d' = d_n d) (e3 : d_ch d' = d_ch d) (e4 : d_cm d' = d_cm d) : zC_ch s' d' := by
  unfold zC_ch at *
  rw [a 53 (by omega) (by omega), a 54 (by omega) (by omega), a 55 (by omega) (by omega), a 56 (by omega) (by omega), f, e3, e4]
  exact ⟨h.1, fun c hc => by rw [f_price_cg e1 e2]; exact h.2 c hc⟩
theorem zC_se_cg {s s' : zz_M} {d d' : zD} (h : zC_se s d) (a : ∀ q, 58 ≤ q → q ≤ 62 → s'.1 q = s.1 q) (f : s'.2.2.1 3653 = s.2.2.1 3653) (e3 : d_se d' = d_se d) (e4 : d_sm d' = d_sm d) : zC_se s' d' := by
  unfold zC_se at *
  rw [a 58 (by omega) (by omega), a 59 (by omega) (by omega), a 60 (by omega) (by omega), a 61 (by omega) (by omega), a 62 (by omega) (by omega), f, e3, e4]
  exact h
theorem zC_sc_cg {s s' : zz_M} {d d' : zD} (h : zC_sc s d) (a : ∀ q, 520 ≤ q → q ≤ 523 → s'.2.2.1 q = s.2.2.1 q) (e1 : d_ho d' = d_ho d) (e2 : d_la d' = d_la d) (e3 : d_du d' = d_du d) (e4 : d_gr d' = d_gr d) : zC_sc s' d' := by
  unfold zC_sc at *
  rw [a 520 (by omega) (by omega), a 521 (by omega) (by omega), a 522 (by omega) (by omega), a 523 (by omega) (by omega), e1, e2, e3, e4]
  exact h
theorem zC_pd_cg {s s' : zz_M} {d d' : zD} (h : zC_pd s d) (a : s'.2.1 63 = s.2.1 63) (b : d_pd d' = d_pd d) : zC_pd s' d' := by
  unfold zC_pd at *
  rw [a, b]
  exact h
/-- what the class's memory may change while it still holds the same -/
theorem zC0_fr {s s' : zz_M} {d : zD} (h : zC0 s d) (h1 : ∀ q, 10 ≤ q → s'.1 q = s.1 q) (hF : ∀ q, 512 ≤ q → q < 6337 → s'.2.2.1 q = s.2.2.1 q) : zC0 s' d := by
  obtain ⟨a1, a2, a3, a4, a5, a6⟩ := h
  exact ⟨zC_tm_cg a1 (h1 _ (by omega)) rfl, zC_it_cg a2 (h1 _ (by omega)) (h1 _ (by omega)) (h1 _ (by omega)) (hF _ (by omega) (by omega)) (hF _ (by omega) (by omega)) rfl rfl, zC_ms_cg a3 (fun q _ _ => h1 q (by omega)) (fun k hk => hF _ (by omega) (by omega)) rfl rfl rfl, zC_ch_cg a4 (fun q _ _ => h1 q (by omega)) (hF _ (by omega) (by omega)) rfl rfl rfl rfl, zC_se_cg a5 (fun q _ _ => h1 q (by omega)) (hF _ (by omega) (by omega)) rfl rfl, zC_sc_cg a6 (fun q _ _ => hF q (by omega) (by omega)) rfl rfl rfl rfl⟩
theorem zC_fr {s s' : zz_M} {d : zD} (h : zC s d) (h1 : ∀ q, 10 ≤ q → s'.1 q = s.1 q) (hF : ∀ q, 512 ≤ q → q < 6337 → s'.2.2.1 q = s.2.2.1 q) (h2 : s'.2.1 63 = s.2.1 63) : zC s' d := ⟨zC0_fr h.1 h1 hF, zC_pd_cg h.2 h2 rfl⟩
theorem zC_scal {s s' : zz_M} {d : zD} (h : zC s d) (h1 : s'.1 = s.1) (h2 : s'.2.1 = s.2.1) (hF : ∀ q, q < 520 ∨ 523 < q → s'.2.2.1 q = s.2.2.1 q) {ho la du gr : Int32} (hsc : s'.2.2.1 520 = ho ∧ s'.2.2.1 521 = la ∧ s'.2.2.1 522 = du ∧ s'.2.2.1 523 = gr) : zC s' (d_sc d ho la du gr) := by
  obtain ⟨⟨a1, a2, a3, a4, a5, a6⟩, b⟩ := h
  exact ⟨⟨zC_tm_cg a1 (by rw [h1]) rfl, zC_it_cg a2 (by rw [h1]) (by rw [h1]) (by rw [h1]) (hF _ (by omega)) (hF _ (by omega)) rfl rfl, zC_ms_cg a3 (fun q _ _ => by rw [h1]) (fun k hk => hF _ (by omega)) rfl rfl rfl, zC_ch_cg a4 (fun q _ _ => by rw [h1]) (hF _ (by omega)) rfl rfl rfl rfl, zC_se_cg a5 (fun q _ _ => by rw [h1]) (hF _ (by omega)) rfl rfl, hsc⟩, zC_pd_cg b (by rw [h2]) rfl⟩
/-- both answer the same and the relation holds again -/
def zOk (x y : Option (Int32 × zz_M)) : Prop := ∃ r s' t', x = some (r, s') ∧ y = some (r, t') ∧ zR s' t'
theorem zOk_ret {s t : zz_M} {r : Int32} (h : zR s t) : zOk (some (r, s)) (some (r, t)) := ⟨r, s, t, rfl, rfl, h⟩
theorem zOk_rete {s t : zz_M} {r r' : Int32} (e : r = r') (h : zR s t) : zOk (some (r, s)) (some (r', t)) := ⟨r, s, t, rfl, by rw [e], h⟩
theorem zOk_if {c c' : Prop} [Decidable c] [Decidable c'] {a b a' b' : Option (Int32 × zz_M)} (e : c ↔ c') (h1 : c → zOk a a') (h2 : ¬ c → zOk b b') : zOk (if c then a else b) (if c' then a' else b') := by
  by_cases hc : c
  · rw [if_pos hc, if_pos (e.mp hc)]; exact h1 hc
  · rw [if_neg hc, if_neg (fun q => hc (e.mpr q))]; exact h2 hc
theorem zOk_tst {c c' : Prop} [Decidable c] [Decidable c'] {a b a' b' : Option (Int32 × zz_M)} (e : c ↔ c') (h1 : c → zOk b b') (h2 : ¬ c → zOk a a') : zOk (if (if c then (1 : Int32) else 0) = 0 then a else b) (if (if c' then (1 : Int32) else 0) = 0 then a' else b') := by
  by_cases hc : c
  · rw [if_pos hc, if_pos (e.mp hc), if_neg zq_not0, if_neg zq_not0]; exact h1 hc
  · rw [if_neg hc, if_neg (fun q => hc (e.mpr q)), if_pos rfl, if_pos rfl]; exact h2 hc
theorem B_due {s t : zz_M} (h : zR s t) (x : Int32) : zOk (mX10_due x s) (mX11_due x t) := by
  have h0 := zR_thr h 0
  unfold mX10_due mX11_due
  rw [zc_isMonth, zr_isMonth]
  simp only [zz_nm_s, zz_b1_s]
  generalize zz_sF t 19 0 = t0 at h0 ⊢
  obtain ⟨hC, hI, hT, hW⟩ := id h0
  obtain ⟨e0, e1, e2, e3⟩ := hC.1.2.2.2.2.2
  refine zOk_tst Iff.rfl (fun c => ?_) (fun c => zOk_ret h0)
  obtain ⟨k, hk, ek⟩ := zq_month c
  refine zOk_if ⟨fun q => q.symm.trans e2, fun q => e2.trans q.symm⟩ (fun _ => zOk_ret h0) (fun _ => ?_)
  refine zOk_rete e2 ⟨?_, ?_, zTx_eq hT rfl rfl rfl rfl, zRw_eq hW rfl rfl rfl rfl⟩
  · exact zC_scal (s' := zz_sF s 522 x) (ho := d_ho (dz t0)) (la := d_la (dz t0)) (du := x) (gr := d_gr (dz t0)) hC rfl rfl (fun q hq => va_up_ne _ _ (by omega)) ⟨e0, e1, rfl, e3⟩
  · obtain ⟨-, -, -, i1, i2, i3, i4, -⟩ := id hI
    exact zInv_sc hI i1 i2 ⟨k, by omega, ek⟩ i4
theorem B_handover {s t : zz_M} (h : zR s t) (x : Int32) : zOk (mX10_handover x s) (mX11_handover x t) := by
  have h0 := zR_thr h 0
  unfold mX10_handover mX11_handover
  rw [zc_isMonth, zr_isMonth]
  simp only [zz_nm_s, zz_b1_s, mX11_handover_b45]
  generalize zz_sF t 19 0 = t0 at h0 ⊢
  obtain ⟨hC, hI, hT, hW⟩ := id h0
  obtain ⟨e0, e1, e2, e3⟩ := hC.1.2.2.2.2.2
  refine zOk_tst Iff.rfl (fun c => ?_) (fun c => zOk_ret h0)
  obtain ⟨k, hk, ek⟩ := zq_month c
  refine zOk_if ⟨fun q => q.symm.trans e0, fun q => e0.trans q.symm⟩ (fun _ => zOk_ret h0) (fun _ => ?_)
  have hE : (if (24 : Int32) ≤ t0.2.2.1 10 then some (t0.2.2.1 9, zz_sF t0 9 x) else if x ≤ t0.2.2.1 10 then some (t0.2.2.1 9, zz_sF t0 9 x) else some (-3, t0)) = if x ≤ t0.2.2.1 10 then some (t0.2.2.1 9, zz_sF t0 9 x) else some (-3, t0) := by
    by_cases c2 : (24 : Int32) ≤ t0.2.2.1 10
    · have c3 : x ≤ t0.2.2.1 10 := by
        rw [Int32.le_iff_toInt_le] at c2 ⊢
        have : (24 : Int32).toInt = 24 := rfl
        omega
      rw [if_pos c2, if_pos c3]
    · rw [if_neg c2]
  rw [hE]
  refine zOk_if (by rw [e1]; exact Iff.rfl) (fun _ => ?_) (fun _ => zOk_ret h0)
  refine zOk_rete e0 ⟨?_, ?_, zTx_eq hT rfl rfl rfl rfl, zRw_eq hW rfl rfl rfl rfl⟩
  · exact zC_scal (s' := zz_sF s 520 x) (ho := x) (la := d_la (dz t0)) (du := d_du (dz t0)) (gr := d_gr (dz t0)) hC rfl rfl (fun q hq => va_up_ne _ _ (by omega)) ⟨rfl, e1, e2, e3⟩
  · obtain ⟨-, -, -, i1, i2, i3, i4, -⟩ := id hI
    exact zInv_sc hI ⟨k, by omega, ek⟩ i2 i3 i4
theorem B_closes {s t : zz_M} (h : zR s t) (x : Int32) : zOk (mX10_closes x s) (mX11_closes x t) := by
  have h0 := zR_thr h 0
  unfold mX10_closes mX11_closes
  rw [zc_isMonth, zr_isMonth]
  simp only [zz_nm_s, zz_b1_s]
  generalize zz_sF t 19 0 = t0 at h0 ⊢
  obtain ⟨hC, hI, hT, hW⟩ := id h0
  obtain ⟨e0, e1, e2, e3⟩ := hC.1.2.2.2.2.2
  refine zOk_tst Iff.rfl (fun c => ?_) (fun c => zOk_ret h0)
  obtain ⟨k, hk, ek⟩ := zq_month c
  refine zOk_if ⟨fun q => q.symm.trans e1, fun q => e1.trans q.symm⟩ (fun _ => zOk_ret h0) (fun _ => ?_)
  refine zOk_if (by rw [e0]; exact Iff.rfl) (fun _ => ?_) (fun _ => zOk_ret h0)
  refine zOk_rete e1 ⟨?_, ?_, zTx_eq hT rfl rfl rfl rfl, zRw_eq hW rfl rfl rfl rfl⟩
  · exact zC_scal (s' := zz_sF s 521 x) (ho := d_ho (dz t0)) (la := x) (du := d_du (dz t0)) (gr := d_gr (dz t0)) hC rfl rfl (fun q hq => va_up_ne _ _ (by omega)) ⟨e0, rfl, e2, e3⟩
  · obtain ⟨-, -, -, i1, i2, i3, i4, -⟩ := id hI
    exact zInv_sc hI i1 ⟨k, by omega, ek⟩ i3 i4
theorem B_grants {s t : zz_M} (h : zR s t) (x : Int32) : zOk (mX10_grants x s) (mX11_grants x t) := by
  have h0 := zR_thr h 0
  unfold mX10_grants mX11_grants
  rw [zc_isWithin, zr_in32]
  simp only [zz_nm_s, zz_b1_s]
  generalize zz_sF t 19 0 = t0 at h0 ⊢
  obtain ⟨hC, hI, hT, hW⟩ := id h0
  obtain ⟨e0, e1, e2, e3⟩ := hC.1.2.2.2.2.2
  refine zOk_tst Iff.rfl (fun c => ?_) (fun c => zOk_ret h0)
  obtain ⟨k, hk, ek⟩ := zq_of_in (n := 13) (x := x) (by have : (1 : Int32).toInt = 1 := rfl; omega) (by have : (12 : Int32).toInt = 12 := rfl; omega) (by decide)
  obtain ⟨-, -, -, i1, i2, i3, ⟨g, hg, eg⟩, -⟩ := id hI
  have e3' : s.2.2.1 523 = nI g := e3.trans eg
  have eg' : t0.2.2.1 12 = nI g := eg
  refine zOk_if (by rw [e2]; exact Iff.rfl) (fun _ => zOk_ret h0) (fun _ => ?_)
  refine zOk_if (by rw [e3]; exact Iff.rfl) (fun c => ?_) (fun _ => zOk_ret h0)
  have es : nI g + x = nI (g + k) := by rw [ek, nI_add]
  refine zOk_rete (show s.2.2.1 523 + x = t0.2.2.1 12 + x by rw [e3', eg']) ⟨?_, ?_, zTx_eq hT rfl rfl rfl rfl, zRw_eq hW rfl rfl rfl rfl⟩
  · exact zC_scal (s' := zz_sF s 523 (s.2.2.1 523 + x)) (ho := d_ho (dz t0)) (la := d_la (dz t0)) (du := d_du (dz t0)) (gr := t0.2.2.1 12 + x) hC rfl rfl (fun q hq => va_up_ne _ _ (by omega)) ⟨e0, e1, e2, show s.2.2.1 523 + x = _ by rw [e3', eg']⟩
  · refine zInv_sc (gr := t0.2.2.1 12 + x) hI i1 i2 i3 ⟨g + k, ?_, by rw [eg', es]⟩
    rw [e3', es, Int32.le_iff_toInt_le, nI_toInt (by omega)] at c
    have : (12 : Int32).toInt = 12 := rfl
    omega
