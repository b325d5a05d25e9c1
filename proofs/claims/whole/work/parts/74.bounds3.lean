/-! ===== bounds of what is certified and owed ===== -/
theorem zl_div {x y : Int64} (hy : y.toInt = 1000) : (x / y).toInt = x.toInt.tdiv 1000 := by
  rw [Int64.toInt_div, hy]
  have h1 := Int64.le_toInt x
  have h2 := Int64.toInt_lt x
  have h3 : (x.toInt.tdiv 1000).natAbs ≤ x.toInt.natAbs := by rw [Int.natAbs_tdiv]; exact Nat.div_le_self _ _
  have h4 : (x.toInt.tdiv 1000).natAbs ≤ 2 ^ 63 / 1000 := by
    rw [Int.natAbs_tdiv]
    exact Nat.div_le_div_right (by omega)
  exact zb_64 (by omega) (by omega)
theorem i_tdivB {x B : Int} (h1 : -B * 1000 ≤ x) (h2 : x ≤ B * 1000) : -B ≤ x.tdiv 1000 ∧ x.tdiv 1000 ≤ B := by
  have h3 : (x.tdiv 1000).natAbs = x.natAbs / 1000 := by rw [Int.natAbs_tdiv]; rfl
  have h4 : x.natAbs / 1000 ≤ B.toNat := by
    have : x.natAbs ≤ B.toNat * 1000 := by omega
    omega
  omega
theorem i_mulAbs {a b A B : Int} (h0 : -A ≤ a) (h1 : a ≤ A) (h2 : -B ≤ b) (h3 : b ≤ B) : -(A * B) ≤ a * b ∧ a * b ≤ A * B := by
  have hA : 0 ≤ A := by omega
  have hB : 0 ≤ B := by omega
  have h4 : (a * b).natAbs ≤ A.natAbs * B.natAbs := by
    rw [Int.natAbs_mul]
    exact Nat.mul_le_mul (by omega) (by omega)
  have h5 : ((A.natAbs * B.natAbs : Nat) : Int) = A * B := by
    rw [Int.natCast_mul, Int.natAbs_of_nonneg hA, Int.natAbs_of_nonneg hB]
  omega
theorem f_th_abs {v : Int64} {t : Int32} {B : Int} (h0 : -B ≤ v.toInt) (h1 : v.toInt ≤ B) (hB : B ≤ 2 ^ 50) (h2 : 0 ≤ t.toInt) (h3 : t.toInt ≤ 1000) : -B ≤ (f_th v t).toInt ∧ (f_th v t).toInt ≤ B := by
  unfold f_th
  have m := i_mulAbs (a := v.toInt) (b := t.toInt) (A := B) (B := 1000) h0 h1 (by omega) h3
  have e : (v * t.toInt64).toInt = v.toInt * t.toInt := by rw [zl_mul (by rw [zl_wide]; omega) (by rw [zl_wide]; omega), zl_wide]
  rw [zl_div (by rfl), e]
  exact i_tdivB (by omega) (by omega)
theorem f_step_bd {d : zD} (h : zInv d) {m : Nat} (hm : m < 24) {a : Int64} (h0 : -30000000 ≤ a.toInt) (h1 : a.toInt ≤ 30000000) : -60000000 ≤ (f_step d m a).toInt ∧ (f_step d m a).toInt ≤ 60000000 := by
  obtain ⟨w1, w2⟩ := f_work_bd h hm
  obtain ⟨k, k1, k2, ek⟩ := f_index_in h hm
  have t := zi_tm h (j := 13) (by decide)
  have es : (f_work d m - a).toInt = (f_work d m).toInt - a.toInt := zl_sub (by omega) (by omega)
  have ei : (f_index d m - 1000).toInt = (k : Int) - 1000 := by
    have e3 : (1000 : Int32).toInt = 1000 := rfl
    have e4 : (f_index d m).toInt = k := by rw [ek, nI_toInt (by omega)]
    rw [zi_sub (by omega) (by omega), e3, e4]
  have m1 := i_mulAbs (a := (f_work d m).toInt - a.toInt) (b := (k : Int) - 1000) (A := 60000000) (B := 1000) (by omega) (by omega) (by omega) (by omega)
  have em : ((f_work d m - a) * (f_index d m - 1000).toInt64).toInt = ((f_work d m).toInt - a.toInt) * ((k : Int) - 1000) := by
    rw [zl_mul (by rw [zl_wide, es, ei]; omega) (by rw [zl_wide, es, ei]; omega), zl_wide, es, ei]
  have d1 := i_tdivB (x := ((f_work d m).toInt - a.toInt) * ((k : Int) - 1000)) (B := 60000000) (by omega) (by omega)
  unfold f_step
  refine f_th_abs ?_ ?_ (by decide) t.1 t.2
  · rw [zl_div (by rfl), em]; exact d1.1
  · rw [zl_div (by rfl), em]; exact d1.2
theorem f_adj_bd {d : zD} (h : zInv d) : ∀ m : Nat, m < 24 → -(60000000 * ((m : Int) + 1)) ≤ (f_adj d m).toInt ∧ (f_adj d m).toInt ≤ 60000000 * ((m : Int) + 1) := by
  intro m
  induction m with
  | zero =>
    intro hm
    have := f_step_bd h hm (a := 0) (by decide) (by decide)
    have e : f_adj d 0 = f_step d 0 0 := by show 0 + f_step d 0 0 = _; simp
    rw [e]
    omega
  | succ m ih =>
    intro hm
    obtain ⟨a1, a2⟩ := ih (by omega)
    have w := f_work_bd h (show m < 24 by omega)
    have s := f_step_bd h hm w.1 w.2
    have e : (f_adj d (m + 1)).toInt = (f_adj d m).toInt + (f_step d (m + 1) (f_work d m)).toInt := by
      show (f_adj d m + f_step d (m + 1) (f_work d m)).toInt = _
      exact zl_add (by omega) (by omega)
    rw [e]
    omega
theorem f_mat_bd {d : zD} (h : zInv d) {m : Nat} (hm : m < 24) : 0 ≤ (f_mat d m).toInt ∧ (f_mat d m).toInt ≤ 99999 := by
  obtain ⟨k, hk, ek⟩ := f_stored_in h hm
  have t := zi_tm h (j := 6) (by decide)
  have e : (f_stored d m).toInt64.toInt = k := by rw [zl_wide, ek, nI_toInt (by omega)]
  have := f_th_le (v := (f_stored d m).toInt64) (t := d_tm d 6) (by omega) (by omega) t.1 t.2
  unfold f_mat
  by_cases c : nI m < d_ho d
  · rw [if_pos c]; omega
  · rw [if_neg c]; decide
theorem f_keepT_bd {d : zD} (h : zInv d) {m : Nat} (hm : m < 24) {t : Int32} (t0 : 0 ≤ t.toInt) (t1 : t.toInt ≤ 1000) : 0 ≤ (f_keepT d t m).toInt ∧ (f_keepT d t m).toInt ≤ 9980010 := by
  obtain ⟨w1, w2⟩ := f_work_bd h hm
  obtain ⟨l1, l2⟩ := f_lim_bd h
  have e0 : (0 : Int64).toInt = 0 := rfl
  have hw : 0 ≤ (if f_work d m < 0 then (0 : Int64) else f_work d m).toInt ∧ (if f_work d m < 0 then (0 : Int64) else f_work d m).toInt ≤ 30000000 := by
    by_cases c : f_work d m < 0
    · rw [if_pos c]; decide
    · rw [if_neg c]
      rw [Int64.lt_iff_toInt_lt, e0] at c
      omega
  have := f_th_le (v := if f_work d m < 0 then (0 : Int64) else f_work d m) (t := t) hw.1 (by omega) t0 t1
  unfold f_keepT
  by_cases c : f_th (if f_work d m < 0 then 0 else f_work d m) t < f_limit d
  · rw [if_pos c]
    rw [Int64.lt_iff_toInt_lt] at c
    omega
  · rw [if_neg c]; omega
theorem f_retT_bd {d : zD} (h : zInv d) {m : Nat} (hm : m < 24) {t : Int32} (t0 : 0 ≤ t.toInt) (t1 : t.toInt ≤ 1000) : 0 ≤ (f_retT d t m).toInt ∧ (f_retT d t m).toInt ≤ 9980010 := by
  obtain ⟨k1, k2⟩ := f_keepT_bd h hm t0 t1
  have ht := zi_tm h (j := 2) (by decide)
  have := f_th_le (v := f_keepT d t m) (t := d_tm d 2) k1 (by omega) ht.1 ht.2
  unfold f_retT
  by_cases c : nI m < d_la d
  · rw [if_pos c]
    by_cases c2 : nI m < d_ho d
    · rw [if_pos c2]; omega
    · rw [if_neg c2, zl_sub (by omega) (by omega)]; omega
  · rw [if_neg c]; decide
theorem f_ret_bd {d : zD} (h : zInv d) {m : Nat} (hm : m < 24) : 0 ≤ (f_ret d m).toInt ∧ (f_ret d m).toInt ≤ 9980010 := by
  have t := zi_tm h (j := 0) (by decide)
  rw [← f_retT_0]
  exact f_retT_bd h hm t.1 t.2
theorem f_rec0_bd {d : zD} (h : zInv d) {m : Nat} (hm : m < 24) : 0 ≤ (f_rec0 d m).toInt ∧ (f_rec0 d m).toInt ≤ 9980010 := by
  obtain ⟨w1, w2⟩ := f_work_bd h hm
  obtain ⟨l1, l2⟩ := f_adv_bd h
  obtain ⟨s1, s2⟩ := f_start_bd h
  have t := zi_tm h (j := 5) (by decide)
  have e0 : (0 : Int64).toInt = 0 := rfl
  have hx : 0 ≤ (if f_th (f_sum d) (d_tm d 4) < f_work d m then f_th (f_work d m - f_th (f_sum d) (d_tm d 4)) (d_tm d 5) else (0 : Int64)).toInt := by
    by_cases c : f_th (f_sum d) (d_tm d 4) < f_work d m
    · rw [if_pos c]
      rw [Int64.lt_iff_toInt_lt] at c
      have es : (f_work d m - f_th (f_sum d) (d_tm d 4)).toInt = (f_work d m).toInt - (f_th (f_sum d) (d_tm d 4)).toInt := zl_sub (by omega) (by omega)
      exact (f_th_le (by omega) (by omega) t.1 t.2).1
    · rw [if_neg c]; decide
  unfold f_rec0
  by_cases c : (if f_th (f_sum d) (d_tm d 4) < f_work d m then f_th (f_work d m - f_th (f_sum d) (d_tm d 4)) (d_tm d 5) else (0 : Int64)) < f_adv d
  · rw [if_pos c]
    rw [Int64.lt_iff_toInt_lt] at c
    omega
  · rw [if_neg c]; omega
theorem f_recB_bd {d : zD} (h : zInv d) {m : Nat} (hm : m < 24) {b : Int64} (h0 : 0 ≤ b.toInt) (h1 : b.toInt ≤ 9980010) : 0 ≤ (f_recB d m b).toInt ∧ (f_recB d m b).toInt ≤ 9980010 := by
  have r := f_rec0_bd h hm
  have a := f_adv_bd h
  unfold f_recB
  by_cases c : nI m < d_la d
  · rw [if_pos c]
    by_cases c2 : f_rec0 d m < b
    · rw [if_pos c2]; exact ⟨h0, h1⟩
    · rw [if_neg c2]; exact r
  · rw [if_neg c]; exact a
theorem f_rec_bd {d : zD} (h : zInv d) : ∀ m : Nat, m < 24 → 0 ≤ (f_rec d m).toInt ∧ (f_rec d m).toInt ≤ 9980010 := by
  intro m
  induction m with
  | zero => intro hm; exact f_recB_bd h hm (by decide) (by decide)
  | succ m ih =>
    intro hm
    have := ih (by omega)
    exact f_recB_bd h hm this.1 this.2
theorem f_held_bd {d : zD} (h : zInv d) {q : Nat} (hq : q < (d_sm d).toNatClampNeg) (m : Nat) : 0 ≤ (f_held d q m).toInt ∧ (f_held d q m).toInt ≤ 99999 := by
  obtain ⟨-, ⟨j, j1, j2, ej⟩, -, -, ⟨u, hu, eu⟩, -⟩ := zi_seB h hq
  have e1 : (d_se d (5 * q + 1)).toInt = j := by rw [ej, nI_toInt (by omega)]
  have e4 : (d_se d (5 * q + 4)).toInt = u := by rw [eu, nI_toInt (by omega)]
  have t := f_th_le (v := (d_se d (5 * q + 1)).toInt64) (t := d_se d (5 * q + 4)) (by rw [zl_wide]; omega) (by rw [zl_wide]; omega) (by omega) (by omega)
  rw [zl_wide, e1] at t
  have n := zi_narrow (x := f_th (d_se d (5 * q + 1)).toInt64 (d_se d (5 * q + 4))) (by omega) (by omega)
  unfold f_held
  split
  · split
    · split
      · omega
      · decide
    · omega
  · decide
theorem f_set_bd {d : zD} (h : zInv d) (m : Nat) : 0 ≤ (f_set d m).toInt ∧ (f_set d m).toInt ≤ 600000 := by
  obtain ⟨k, hk, en, ec⟩ := zi_sm h
  have := f_acc_nn (fun q => (f_held d q m).toInt64) 0 99999 (by decide) (by decide) (by decide) (by decide) k (by omega) (fun i hi => by
    show 0 ≤ (f_held d i m).toInt64.toInt ∧ (f_held d i m).toInt64.toInt ≤ 99999
    rw [zl_wide]
    exact f_held_bd h (by omega) m)
  unfold f_set
  rw [ec]
  have e0 : (0 : Int64).toInt = 0 := rfl
  rw [e0] at this
  omega
theorem f_late_bd {d : zD} (h : zInv d) {m : Nat} (hm : m < 24) {b : Int32} (h0 : 0 ≤ b.toInt) (h1 : b.toInt ≤ 1000) : 0 ≤ (f_late d b m).toInt ∧ (f_late d b m).toInt ≤ 24 := by
  obtain ⟨ho, ho1, eho⟩ := h.2.2.2.1
  have e0 : (0 : Int32).toInt = 0 := rfl
  have e2 : (if d_ho d < nI m then d_ho d else nI m).toInt ≤ 24 ∧ 0 ≤ (if d_ho d < nI m then d_ho d else nI m).toInt := by
    by_cases c2 : d_ho d < nI m
    · rw [if_pos c2, eho, nI_toInt (by omega)]; omega
    · rw [if_neg c2, nI_toInt (by omega)]; omega
  have es : ((if d_ho d < nI m then d_ho d else nI m) - b).toInt = (if d_ho d < nI m then d_ho d else nI m).toInt - b.toInt := zi_sub (by omega) (by omega)
  unfold f_late
  by_cases c : (0 : Int32) < (if d_ho d < nI m then d_ho d else nI m) - b
  · rw [if_pos c]
    rw [Int32.lt_iff_toInt_lt] at c
    omega
  · rw [if_neg c]; decide
theorem f_damBy_bd {d : zD} (h : zInv d) {m : Nat} (hm : m < 24) {b : Int32} (h0 : 0 ≤ b.toInt) (h1 : b.toInt ≤ 1000) : 0 ≤ (f_damBy d b m).toInt ∧ (f_damBy d b m).toInt ≤ 9980010 := by
  obtain ⟨l1, l2⟩ := f_late_bd h hm h0 h1
  obtain ⟨s1, s2⟩ := f_sum_bd h
  obtain ⟨m1, m2⟩ := f_most_bd h
  have t := zi_tm h (j := 11) (by decide)
  have hT := f_th_le (v := f_sum d) (t := d_tm d 11) s1 (by omega) t.1 t.2
  have mm := i_mulB (a := (f_late d b m).toInt) (b := (f_th (f_sum d) (d_tm d 11)).toInt) (A := 24) (B := 9980010) l1 l2 hT.1 (by omega)
  have em : ((f_late d b m).toInt64 * f_th (f_sum d) (d_tm d 11)).toInt = (f_late d b m).toInt * (f_th (f_sum d) (d_tm d 11)).toInt := by
    rw [zl_mul (by rw [zl_wide]; omega) (by rw [zl_wide]; omega), zl_wide]
  unfold f_damBy
  by_cases c : d_du d = 24
  · rw [if_pos c]; decide
  · rw [if_neg c]
    by_cases c2 : (f_late d b m).toInt64 * f_th (f_sum d) (d_tm d 11) < f_most d
    · rw [if_pos c2]
      rw [Int64.lt_iff_toInt_lt] at c2
      omega
    · rw [if_neg c2]; omega
theorem f_dam_bd {d : zD} (h : zInv d) {m : Nat} (hm : m < 24) : 0 ≤ (f_dam d m).toInt ∧ (f_dam d m).toInt ≤ 9980010 := by
  obtain ⟨u, hu, eu⟩ := h.2.2.2.2.2.1
  obtain ⟨g, hg, eg⟩ := h.2.2.2.2.2.2.1
  have e : (d_du d + d_gr d).toInt = u + g := by rw [eu, eg, nI_add, nI_toInt (by omega)]; omega
  exact f_damBy_bd h hm (by omega) (by omega)
theorem f_net_bd {d : zD} (h : zInv d) {m : Nat} (hm : m < 24) : -2000000000 ≤ (f_net d m).toInt ∧ (f_net d m).toInt ≤ 2000000000 := by
  have a1 := f_work_bd h hm
  have a2 := f_mat_bd h hm
  have a3 := f_adv_bd h
  have a4 := f_adj_bd h m hm
  have a5 := f_ret_bd h hm
  have a6 := f_rec_bd h m hm
  have a7 := f_set_bd h m
  have a8 := f_dam_bd h hm
  unfold f_net
  have e1 : (f_work d m + f_mat d m).toInt = (f_work d m).toInt + (f_mat d m).toInt := zl_add (by omega) (by omega)
  have e2 : (f_work d m + f_mat d m + f_adv d).toInt = (f_work d m).toInt + (f_mat d m).toInt + (f_adv d).toInt := by rw [zl_add (by omega) (by omega), e1]
  have e3 : (f_work d m + f_mat d m + f_adv d + f_adj d m).toInt = (f_work d m).toInt + (f_mat d m).toInt + (f_adv d).toInt + (f_adj d m).toInt := by rw [zl_add (by omega) (by omega), e2]
  have e4 : (f_work d m + f_mat d m + f_adv d + f_adj d m - f_ret d m).toInt = (f_work d m).toInt + (f_mat d m).toInt + (f_adv d).toInt + (f_adj d m).toInt - (f_ret d m).toInt := by rw [zl_sub (by omega) (by omega), e3]
  have e5 : (f_work d m + f_mat d m + f_adv d + f_adj d m - f_ret d m - f_rec d m).toInt = (f_work d m).toInt + (f_mat d m).toInt + (f_adv d).toInt + (f_adj d m).toInt - (f_ret d m).toInt - (f_rec d m).toInt := by rw [zl_sub (by omega) (by omega), e4]
  have e6 : (f_work d m + f_mat d m + f_adv d + f_adj d m - f_ret d m - f_rec d m - f_set d m).toInt = (f_work d m).toInt + (f_mat d m).toInt + (f_adv d).toInt + (f_adj d m).toInt - (f_ret d m).toInt - (f_rec d m).toInt - (f_set d m).toInt := by rw [zl_sub (by omega) (by omega), e5]
  rw [zl_sub (by omega) (by omega), e6]
  omega
theorem zl_as (a b : Int64) : a + (b - a) = b := by
  rw [Int64.sub_eq_add_neg, Int64.add_comm b, ← Int64.add_assoc, Int64.add_right_neg, Int64.zero_add]
theorem f_tot_bd {d : zD} (h : zInv d) : ∀ m : Nat, m < 24 → -2000000000 ≤ (f_tot d m).toInt ∧ (f_tot d m).toInt ≤ 2000000000 := by
  intro m
  induction m with
  | zero =>
    intro hm
    have n := f_net_bd h hm
    show -2000000000 ≤ (0 + f_certB d 0 0).toInt ∧ (0 + f_certB d 0 0).toInt ≤ 2000000000
    unfold f_certB
    split
    · decide
    · rw [zl_as]; exact n
  | succ m ih =>
    intro hm
    have n := f_net_bd h hm
    have i := ih (by omega)
    show -2000000000 ≤ (f_tot d m + f_certB d (m + 1) (f_tot d m)).toInt ∧ (f_tot d m + f_certB d (m + 1) (f_tot d m)).toInt ≤ 2000000000
    unfold f_certB
    split
    · rw [Int64.add_zero]; exact i
    · rw [zl_as]; exact n
theorem f_ripe_bd {d : zD} (h : zInv d) {m : Nat} (hm : m < 24) : -2000000000 ≤ (f_ripe d m).toInt ∧ (f_ripe d m).toInt ≤ 2000000000 := by
  unfold f_ripe
  split
  · exact f_tot_bd h _ (by omega)
  · decide
theorem f_paidP_bd {P : Nat → Int64} {B : Int} (hB0 : 0 ≤ B) (hB : B ≤ 2 ^ 40) (hP : ∀ k, k < 24 → 0 ≤ (P k).toInt ∧ (P k).toInt ≤ B) {m : Nat} (hm : m < 24) : 0 ≤ (f_paidP P m).toInt ∧ (f_paidP P m).toInt ≤ 24 * B := by
  have := f_acc_nn P 0 B hB0 hB (by decide) (by decide) (m + 1) (by omega) (fun i hi => hP i (by omega))
  have e0 : (0 : Int64).toInt = 0 := rfl
  rw [e0] at this
  have h2 : ((m + 1 : Nat) : Int) * B ≤ 24 * B := Int.mul_le_mul_of_nonneg_right (by omega) hB0
  unfold f_paidP
  omega
theorem f_owedP_eq2 {d : zD} (h : zInv d) {P : Nat → Int64} {B : Int} (hB0 : 0 ≤ B) (hB : B ≤ 2 ^ 40) (hP : ∀ k, k < 24 → 0 ≤ (P k).toInt ∧ (P k).toInt ≤ B) {m : Nat} (hm : m < 24) : (f_ripe d m - f_paidP P m).toInt = (f_ripe d m).toInt - (f_paidP P m).toInt ∧ (f_owedP d P m).toInt = (if (f_ripe d m).toInt - (f_paidP P m).toInt < 0 then 0 else (f_ripe d m).toInt - (f_paidP P m).toInt) ∧ 0 ≤ (f_owedP d P m).toInt ∧ (f_owedP d P m).toInt ≤ 2000000000 := by
  have r := f_ripe_bd h hm
  have p := f_paidP_bd hB0 hB hP hm
  have e : (f_ripe d m - f_paidP P m).toInt = (f_ripe d m).toInt - (f_paidP P m).toInt := zl_sub (by omega) (by omega)
  have e0 : (0 : Int64).toInt = 0 := rfl
  unfold f_owedP
  refine ⟨e, ?_⟩
  by_cases c : f_ripe d m - f_paidP P m < 0
  · rw [if_pos c]
    rw [Int64.lt_iff_toInt_lt, e, e0] at c
    rw [if_pos c]
    decide
  · rw [if_neg c]
    rw [Int64.lt_iff_toInt_lt, e, e0] at c
    rw [if_neg c, e]
    omega
theorem zi_pd {d : zD} (h : zInv d) : ∀ k, k < 24 → 0 ≤ ((d_pd d k).toInt64).toInt ∧ ((d_pd d k).toInt64).toInt ≤ 999999 := by
  intro k hk
  obtain ⟨j, hj, e⟩ := h.2.2.2.2.2.2.2.2.2.2.2 k hk
  rw [zl_wide, e, nI_toInt (by omega)]
  omega
theorem f_intP_bd {d : zD} (h : zInv d) {P : Nat → Int64} {B : Int} (hB0 : 0 ≤ B) (hB : B ≤ 2 ^ 40) (hP : ∀ k, k < 24 → 0 ≤ (P k).toInt ∧ (P k).toInt ≤ B) {m : Nat} (hm : m < 24) : 0 ≤ (f_intP d P m).toInt ∧ (f_intP d P m).toInt ≤ 2000000000 := by
  have o := (f_owedP_eq2 h hB0 hB hP hm).2.2
  have t := zi_tm h (j := 7) (by decide)
  have := f_th_le (v := f_owedP d P m) (t := d_tm d 7) o.1 (by omega) t.1 t.2
  unfold f_intP
  omega
theorem f_intAll_nn {d : zD} (h : zInv d) : 0 ≤ (f_acc (fun k => f_int d k) 0 24).toInt := by
  have := f_acc_nn (fun k => f_int d k) 0 2000000000 (by decide) (by decide) (by decide) (by decide) 24 (by omega) (fun i hi => f_intP_bd h (P := fun k => (d_pd d k).toInt64) (B := 999999) (by decide) (by decide) (zi_pd h) (show i < 24 by omega))
  have e0 : (0 : Int64).toInt = 0 := rfl
  omega
