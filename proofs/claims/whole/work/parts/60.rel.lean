/-! ===== both memories hold the same: the relation that every call keeps ===== -/
def zTx (s t : zz_M) : Prop := ∃ n : Nat, n ≤ 120 ∧ s.2.2.1 65 = nI n ∧ t.2.2.1 16 = nI n ∧ ∀ j, j < n → s.1 2 j = (t.1 9 j) &&& 255
def zRw (s t : zz_M) : Prop := ∃ n : Nat, n ≤ 5 ∧ s.2.2.1 6337 = nI n ∧ t.2.2.1 18 = nI n ∧ ∀ j, j < n → s.2.1 100 j = t.2.1 10 j
def zR (s t : zz_M) : Prop := zC s (dz t) ∧ zInv (dz t) ∧ zTx s t ∧ zRw s t
theorem zTx_eq {s s1 t t1 : zz_M} (h : zTx s t) (a : s1.2.2.1 65 = s.2.2.1 65) (b : s1.1 2 = s.1 2) (c : t1.2.2.1 16 = t.2.2.1 16) (d : t1.1 9 = t.1 9) : zTx s1 t1 := by
  unfold zTx at *
  rw [a, b, c, d]
  exact h
theorem zRw_eq {s s1 t t1 : zz_M} (h : zRw s t) (a : s1.2.2.1 6337 = s.2.2.1 6337) (b : s1.2.1 100 = s.2.1 100) (c : t1.2.2.1 18 = t.2.2.1 18) (d : t1.2.1 10 = t.2.1 10) : zRw s1 t1 := by
  unfold zRw at *
  rw [a, b, c, d]
  exact h
/-- the reference's mark of a throw is no part of it -/
theorem zR_thr {s t : zz_M} (h : zR s t) (v : Int32) : zR s (zz_sF t 19 v) := ⟨h.1, h.2.1, zTx_eq h.2.2.1 rfl rfl rfl rfl, zRw_eq h.2.2.2 rfl rfl rfl rfl⟩
theorem zc_isWithin (x a b : Int32) : mX10_isWithin x a b = some (if a.toInt ≤ x.toInt ∧ x.toInt ≤ b.toInt then 1 else 0) := by
  unfold mX10_isWithin mX10_isWithin_b14 mX10_isWithin_b15
  by_cases h1 : x < a
  · rw [if_pos h1, zz_ck_of (Or.inl rfl), if_neg]
    intro h
    have := Int32.lt_iff_toInt_lt.mp h1
    omega
  · rw [if_neg h1]
    by_cases h2 : b < x
    · rw [if_pos h2, zz_ck_of (Or.inl rfl), if_neg]
      intro h
      have := Int32.lt_iff_toInt_lt.mp h2
      omega
    · rw [if_neg h2, zz_ck_of (Or.inr rfl), if_pos]
      rw [Int32.lt_iff_toInt_lt] at h1 h2
      omega
theorem zc_isMonth (x : Int32) : mX10_isMonth x = some (if 0 ≤ x.toInt ∧ x.toInt ≤ 23 then 1 else 0) := by
  unfold mX10_isMonth
  rw [zc_isWithin, zz_b1_s, zz_ck_of (zq_b _)]
  rfl
/-- the reference's test of an int between two longs -/
theorem zr_in32 (x : Int32) (a b : Int64) : mX11_in x.toInt64 a b = some (if a.toInt ≤ x.toInt ∧ x.toInt ≤ b.toInt then 1 else 0) := by
  rw [zr_in]
  have e : (a ≤ x.toInt64 ∧ x.toInt64 ≤ b) ↔ (a.toInt ≤ x.toInt ∧ x.toInt ≤ b.toInt) := by
    rw [Int64.le_iff_toInt_le, Int64.le_iff_toInt_le, zl_wide]
  simp only [e]
theorem zq_not0 : ¬ (1 : Int32) = 0 := by decide
theorem zq_of_in {x : Int32} {n : Nat} (h : 0 ≤ x.toInt) (h2 : x.toInt < n) (hn : n < 2 ^ 31) : ∃ k : Nat, k < n ∧ x = nI k := by
  refine ⟨x.toInt.toNat, by omega, ?_⟩
  apply Int32.toInt_inj.mp
  rw [nI_toInt (by omega)]
  omega
theorem zq_month {x : Int32} (h : 0 ≤ x.toInt ∧ x.toInt ≤ 23) : ∃ k : Nat, k < 24 ∧ x = nI k := zq_of_in h.1 (by omega) (by decide)
/-- the four numbers handover, last, due, granted alone have changed -/
def d_sc (d : zD) (ho la du gr : Int32) : zD := (d_tm d, d_it d, d_ms d, d_st d, d_ch d, d_se d, d_ix d, d_pd d, d_n d, d_cm d, d_sm d, ho, la, du, gr)
theorem zInv_sc {d : zD} (h : zInv d) {ho la du gr : Int32} (h1 : ∃ k : Nat, k ≤ 24 ∧ ho = nI k) (h2 : ∃ k : Nat, k ≤ 24 ∧ la = nI k) (h3 : ∃ k : Nat, k ≤ 24 ∧ du = nI k) (h4 : ∃ k : Nat, k ≤ 12 ∧ gr = nI k) : zInv (d_sc d ho la du gr) := by
  obtain ⟨a, b, c, -, -, -, -, e⟩ := h
  exact ⟨a, b, c, h1, h2, h3, h4, e⟩
theorem f_sum_sc (d : zD) (ho la du gr : Int32) : f_sum (d_sc d ho la du gr) = f_sum d := rfl
theorem f_all_sc (d : zD) (ho la du gr : Int32) (k : Int32) : ∀ n, f_all (d_sc d ho la du gr) k n = f_all d k n := by
  intro n
  induction n with
  | zero => rfl
  | succ n ih => unfold f_all; rw [ih]; rfl
theorem f_cost_sc (d : zD) (ho la du gr : Int32) (k : Int32) : ∀ n, f_cost (d_sc d ho la du gr) k n = f_cost d k n := by
  intro n
  induction n with
  | zero => rfl
  | succ n ih => unfold f_cost; rw [ih]; rfl
theorem f_price_sc (d : zD) (ho la du gr : Int32) (k r : Int32) : f_price (d_sc d ho la du gr) k r = f_price d k r := by
  unfold f_price
  rw [f_all_sc, f_cost_sc]
  rfl
theorem zC_scal {s s' : zz_M} {d : zD} (h : zC s d) (h1 : s'.1 = s.1) (h2 : s'.2.1 = s.2.1) (hF : ∀ q, q < 520 ∨ 523 < q → s'.2.2.1 q = s.2.2.1 q) {ho la du gr : Int32} (hsc : s'.2.2.1 520 = ho ∧ s'.2.2.1 521 = la ∧ s'.2.2.1 522 = du ∧ s'.2.2.1 523 = gr) : zC s' (d_sc d ho la du gr) := by
  obtain ⟨⟨a1, a2, a3, a4, a5, a6⟩, b⟩ := h
  refine ⟨⟨?_, ?_, ?_, ?_, ?_, hsc⟩, ?_⟩
  · intro j hj
    rw [h1]
    exact a1 j hj
  · refine ⟨by rw [hF 579 (by omega)]; exact a2.1, ?_, by rw [hF 580 (by omega), f_sum_sc]; exact a2.2.2⟩
    rw [h1]
    exact a2.2.1
  · refine ⟨fun k hk => ⟨?_, ?_⟩, ⟨?_, ?_⟩, ⟨?_, ?_⟩⟩
    · rw [h1]; exact (a3.1 k hk).1
    · rw [hF _ (by omega)]; exact (a3.1 k hk).2
    · rw [h1]; exact a3.2.1.1
    · rw [hF _ (by omega)]; exact a3.2.1.2
    · rw [h1]; exact a3.2.2.1
    · rw [hF _ (by omega)]; exact a3.2.2.2
  · refine ⟨by rw [hF 3332 (by omega)]; exact a4.1, fun c hc => ?_⟩
    rw [h1, f_price_sc]
    exact a4.2 c hc
  · refine ⟨by rw [hF 3653 (by omega)]; exact a5.1, ?_⟩
    rw [h1]
    exact a5.2
  · intro m hm
    rw [h2]
    exact b m hm
theorem B_due {s t : zz_M} (h : zR s t) (x : Int32) : ∃ r s' t', mX10_due x s = some (r, s') ∧ mX11_due x t = some (r, t') ∧ zR s' t' := by
  obtain ⟨hC, hI, hT, hW⟩ := id h
  obtain ⟨e0, e1, e2, e3⟩ := hC.1.2.2.2.2.2
  have h0 := zR_thr h 0
  unfold mX10_due mX11_due
  rw [zc_isMonth, zr_isMonth, zz_nm_s, zz_b1_s, zz_b1_s]
  by_cases c : 0 ≤ x.toInt ∧ x.toInt ≤ 23
  · rw [if_pos c, if_neg zq_not0, if_neg zq_not0]
    obtain ⟨k, hk, ek⟩ := zq_month c
    by_cases c2 : s.2.2.1 522 = x
    · rw [if_pos c2, if_pos (show x = t.2.2.1 11 from (c2.symm.trans e2))]
      exact ⟨_, _, _, rfl, rfl, h0⟩
    · rw [if_neg c2, if_neg (show ¬ x = t.2.2.1 11 from fun q => c2 (e2.trans q.symm)), zz_nm_s, zz_nm_s]
      refine ⟨_, _, _, rfl, congrArg (fun q => some (q, _)) e2.symm, ?_, ?_, zTx_eq hT rfl rfl rfl rfl, zRw_eq hW rfl rfl rfl rfl⟩
      · exact zC_scal (ho := d_ho (dz t)) (la := d_la (dz t)) (du := x) (gr := d_gr (dz t)) hC rfl rfl (fun q hq => va_up_ne _ _ (by omega)) ⟨e0, e1, rfl, e3⟩
      · obtain ⟨-, -, -, i1, i2, i3, i4, -⟩ := id hI
        exact zInv_sc hI i1 i2 ⟨k, by omega, ek⟩ i4
  · rw [if_neg c, if_pos rfl, if_pos rfl]
    exact ⟨_, _, _, rfl, rfl, h0⟩
