/-! ===== bounds of prices, parts, work; the class's methods that rest on them ===== -/
theorem f_all_bd {d : zD} {k : Nat} (hh : ∀ i : Nat, i < k → (∃ j : Nat, j < 5 ∧ d_it d (3 * i) = nI j) ∧ (∃ j : Nat, 1 ≤ j ∧ j < 1000 ∧ d_it d (3 * i + 1) = nI j) ∧ ∃ j : Nat, 1 ≤ j ∧ j < 1000 ∧ d_it d (3 * i + 2) = nI j) (hk : k ≤ 10) (kind : Int32) : ∀ i : Nat, i ≤ k → 0 ≤ (f_all d kind i).toInt ∧ (f_all d kind i).toInt ≤ 999 * i ∧ (f_all d kind i).toInt ≤ (f_cost d kind i).toInt ∧ (f_cost d kind i).toInt ≤ 999 * (f_all d kind i).toInt := by
  intro i
  induction i with
  | zero => intro _; exact ⟨Int.le_refl _, Int.le_refl _, Int.le_refl _, Int.le_refl _⟩
  | succ i ih =>
    intro hi
    obtain ⟨a1, a2, a3, a4⟩ := ih (by omega)
    obtain ⟨-, ⟨q, q1, q2, eq⟩, r, r1, r2, er⟩ := hh i (by omega)
    by_cases c : d_it d (3 * i) = kind
    · have e1 : f_all d kind (i + 1) = f_all d kind i + d_it d (3 * i + 1) := by rw [f_all, if_pos c]
      have e2 : f_cost d kind (i + 1) = f_cost d kind i + d_it d (3 * i + 1) * d_it d (3 * i + 2) := by rw [f_cost, if_pos c]
      have hq : (d_it d (3 * i + 1)).toInt = q := by rw [eq, nI_toInt (by omega)]
      have hr : (d_it d (3 * i + 2)).toInt = r := by rw [er, nI_toInt (by omega)]
      have m1 := i_mulB (a := (q : Int)) (b := (r : Int)) (A := 999) (B := 999) (by omega) (by omega) (by omega) (by omega)
      have m2 : (q : Int) ≤ (q : Int) * r := by
        have := Int.mul_le_mul_of_nonneg_left (a := (1 : Int)) (b := (r : Int)) (c := (q : Int)) (by omega) (by omega)
        omega
      have m3 : (q : Int) * r ≤ 999 * q := by
        have := Int.mul_le_mul_of_nonneg_left (a := (r : Int)) (b := (999 : Int)) (c := (q : Int)) (by omega) (by omega)
        omega
      have em : (d_it d (3 * i + 1) * d_it d (3 * i + 2)).toInt = q * r := by
        rw [zi_mul (by rw [hq, hr]; omega) (by rw [hq, hr]; omega), hq, hr]
      have ea : (f_all d kind (i + 1)).toInt = (f_all d kind i).toInt + q := by
        rw [e1, zi_add (by rw [hq]; omega) (by rw [hq]; omega), hq]
      have ec : (f_cost d kind (i + 1)).toInt = (f_cost d kind i).toInt + q * r := by
        rw [e2, zi_add (by rw [em]; omega) (by rw [em]; omega), em]
      rw [ea, ec]
      omega
    · have e1 : f_all d kind (i + 1) = f_all d kind i := by rw [f_all, if_neg c]
      have e2 : f_cost d kind (i + 1) = f_cost d kind i := by rw [f_cost, if_neg c]
      rw [e1, e2]
      omega
theorem f_price_bd {d : zD} (h : zInv d) (kind : Int32) {rate : Int32} (h0 : 0 ≤ rate.toInt) (h1 : rate.toInt ≤ 999) : 0 ≤ (f_price d kind rate).toInt ∧ (f_price d kind rate).toInt ≤ 999 := by
  obtain ⟨k, hk, -, ec, hh⟩ := zi_n h
  obtain ⟨a1, a2, a3, a4⟩ := f_all_bd hh hk kind k (Nat.le_refl _)
  unfold f_price
  rw [ec]
  by_cases c : f_all d kind k = 0
  · rw [if_pos c]; exact ⟨h0, h1⟩
  · rw [if_neg c]
    have c2 : 0 < (f_all d kind k).toInt := by
      have : (f_all d kind k).toInt ≠ 0 := fun q => c (Int32.toInt_inj.mp q)
      omega
    rw [lg_idiv_nonneg (by omega) c2]
    constructor
    · exact Int.ediv_nonneg (by omega) (by omega)
    · have := Int.ediv_le_ediv (c := (f_all d kind k).toInt) c2 a4
      rw [Int.mul_ediv_cancel _ (by omega)] at this
      exact this
theorem f_worth_bd {d : zD} (h : zInv d) {c : Nat} (hc : c < (d_cm d).toNatClampNeg) : -998001 ≤ (f_worth d c).toInt ∧ (f_worth d c).toInt ≤ 998001 := by
  obtain ⟨-, ⟨k, h1, h2, h3⟩, -⟩ := id h
  rw [h2, nI_clamp (by omega)] at hc
  obtain ⟨-, -, ⟨q1, q2⟩, r, r1, er⟩ := h3 c hc
  have hr : (d_ch d (4 * c + 3)).toInt = r := by rw [er, nI_toInt (by omega)]
  obtain ⟨p1, p2⟩ := f_price_bd h (d_ch d (4 * c + 1)) (rate := d_ch d (4 * c + 3)) (by omega) (by omega)
  have key : -998001 ≤ (d_ch d (4 * c + 2)).toInt * (f_price d (d_ch d (4 * c + 1)) (d_ch d (4 * c + 3))).toInt ∧ (d_ch d (4 * c + 2)).toInt * (f_price d (d_ch d (4 * c + 1)) (d_ch d (4 * c + 3))).toInt ≤ 998001 := by
    rcases Int.le_total 0 (d_ch d (4 * c + 2)).toInt with g | g
    · have := i_mulB g q2 p1 p2
      omega
    · have := i_mulB (a := -(d_ch d (4 * c + 2)).toInt) (A := 999) (by omega) (by omega) p1 p2
      rw [Int.neg_mul] at this
      omega
  unfold f_worth
  rw [zl_mul (by rw [zl_wide, zl_wide]; omega) (by rw [zl_wide, zl_wide]; omega), zl_wide, zl_wide]
  exact key
theorem f_varied_bd {d : zD} (h : zInv d) (m : Nat) : -7984008 ≤ (f_varied d m).toInt ∧ (f_varied d m).toInt ≤ 7984008 := by
  obtain ⟨k, hk, -, ec⟩ := zi_cm h
  have := f_acc_bd (fun c => if nI m < d_ch d (4 * c) then 0 else f_worth d c) 0 998001 (by decide) (by decide) (by decide) (by decide) k (by omega) (fun i hi => by
    show -998001 ≤ (if nI m < d_ch d (4 * i) then (0 : Int64) else f_worth d i).toInt ∧ (if nI m < d_ch d (4 * i) then (0 : Int64) else f_worth d i).toInt ≤ 998001
    by_cases c : nI m < d_ch d (4 * i)
    · rw [if_pos c]; exact ⟨by decide, by decide⟩
    · rw [if_neg c]; exact f_worth_bd h (by omega))
  unfold f_varied
  rw [ec]
  have e0 : (0 : Int64).toInt = 0 := rfl
  rw [e0] at this
  omega
theorem f_part_bd {d : zD} (h : zInv d) {m i : Nat} (hm : m < 24) (hi : i < (d_n d).toNatClampNeg) : 0 ≤ (f_part d m i).toInt ∧ (f_part d m i).toInt ≤ 1997001 := by
  obtain ⟨k, hk, -, ec, hh⟩ := zi_n h
  obtain ⟨-, -, r, r1, r2, er⟩ := hh i (by omega)
  have hr : (d_it d (3 * i + 2)).toInt = r := by rw [er, nI_toInt (by omega)]
  obtain ⟨e1, e2, e3, e4, e5⟩ := f_cap_eq h rfl hi
  obtain ⟨q, hq, eq⟩ := f_done_in h hm (show i < 10 by omega)
  have hD : (f_done d m i).toInt = q := by rw [eq, nI_toInt (by omega)]
  have es : (f_done d m i - f_cap d i).toInt = (f_done d m i).toInt - (f_cap d i).toInt := zi_sub (by omega) (by omega)
  have hA : 0 ≤ (f_above d m i).toInt ∧ (f_above d m i).toInt ≤ q := by
    unfold f_above
    by_cases c : (0 : Int32) < f_done d m i - f_cap d i
    · rw [if_pos c]
      have := Int32.lt_iff_toInt_lt.mp c
      have e0 : (0 : Int32).toInt = 0 := rfl
      omega
    · rw [if_neg c]
      have e0 : (0 : Int32).toInt = 0 := rfl
      omega
  have ht := zi_tm h (j := 10) (by decide)
  have hT := f_th_le (v := (d_it d (3 * i + 2)).toInt64) (t := d_tm d 10) (by rw [zl_wide]; omega) (by rw [zl_wide]; omega) ht.1 ht.2
  rw [zl_wide, hr] at hT
  have esub : (f_done d m i - f_above d m i).toInt = q - (f_above d m i).toInt := by rw [zi_sub (by omega) (by omega), hD]
  obtain ⟨a, ha⟩ : ∃ a, a = (f_above d m i).toInt := ⟨_, rfl⟩
  obtain ⟨t, et⟩ : ∃ t, t = (f_th (d_it d (3 * i + 2)).toInt64 (d_tm d 10)).toInt := ⟨_, rfl⟩
  rw [← ha] at hA esub
  rw [← et] at hT
  have m1 := i_mulB (a := (q : Int) - a) (b := (r : Int)) (A := 1999) (B := 999) (by omega) (by omega) (by omega) (by omega)
  have m2 := i_mulB (a := a) (b := t) (A := a) (B := (r : Int)) hA.1 (Int.le_refl _) hT.1 hT.2
  have m3 := i_mulB (a := (q : Int)) (b := (r : Int)) (A := 1999) (B := 999) (by omega) (by omega) (by omega) (by omega)
  have m4 : ((q : Int) - a) * r + a * r = q * r := by rw [← Int.add_mul]; congr 1; omega
  have x1 : ((f_done d m i - f_above d m i).toInt64 * (d_it d (3 * i + 2)).toInt64).toInt = ((q : Int) - a) * r := by
    rw [zl_mul (by rw [zl_wide, zl_wide, esub, hr]; omega) (by rw [zl_wide, zl_wide, esub, hr]; omega), zl_wide, zl_wide, esub, hr]
  have x2 : ((f_above d m i).toInt64 * f_th (d_it d (3 * i + 2)).toInt64 (d_tm d 10)).toInt = a * t := by
    rw [zl_mul (by rw [zl_wide, ← ha, ← et]; omega) (by rw [zl_wide, ← ha, ← et]; omega), zl_wide, ← ha, ← et]
  unfold f_part
  rw [zl_add (by rw [x1, x2]; omega) (by rw [x1, x2]; omega), x1, x2]
  omega
theorem f_work_bd {d : zD} (h : zInv d) {m : Nat} (hm : m < 24) : -30000000 ≤ (f_work d m).toInt ∧ (f_work d m).toInt ≤ 30000000 := by
  obtain ⟨k, hk, -, ec, -⟩ := zi_n h
  obtain ⟨v1, v2⟩ := f_varied_bd h m
  have := f_acc_nn (fun i => f_part d m i) (f_varied d m) 1997001 (by decide) (by decide) (by omega) (by omega) k (by omega) (fun i hi => f_part_bd h hm (by omega))
  unfold f_work
  rw [ec]
  have h2 : (k : Int) * 1997001 ≤ 10 * 1997001 := by omega
  omega
theorem f_lim_bd {d : zD} (h : zInv d) : 0 ≤ (f_limit d).toInt ∧ (f_limit d).toInt ≤ 9980010 := by
  obtain ⟨a, b⟩ := f_sum_bd h
  have ht := zi_tm h (j := 1) (by decide)
  have := f_th_le (v := f_sum d) (t := d_tm d 1) a (by omega) ht.1 ht.2
  unfold f_limit
  omega
theorem f_adv_bd {d : zD} (h : zInv d) : 0 ≤ (f_adv d).toInt ∧ (f_adv d).toInt ≤ 9980010 := by
  obtain ⟨a, b⟩ := f_sum_bd h
  have ht := zi_tm h (j := 3) (by decide)
  have := f_th_le (v := f_sum d) (t := d_tm d 3) a (by omega) ht.1 ht.2
  unfold f_adv
  omega
theorem f_most_bd {d : zD} (h : zInv d) : 0 ≤ (f_most d).toInt ∧ (f_most d).toInt ≤ 9980010 := by
  obtain ⟨a, b⟩ := f_sum_bd h
  have ht := zi_tm h (j := 12) (by decide)
  have := f_th_le (v := f_sum d) (t := d_tm d 12) a (by omega) ht.1 ht.2
  unfold f_most
  omega
theorem f_th_0 (t : Int32) : f_th 0 t = 0 := by
  unfold f_th
  rw [Int64.zero_mul]
  rfl
/-- the smaller of two, either way -/
theorem zl_min (a b : Int64) : (if a < b then a else b) = if b < a then b else a := by
  by_cases c1 : a < b
  · by_cases c2 : b < a
    · exact absurd c2 (lg_lt_not c1)
    · rw [if_pos c1, if_neg c2]
  · by_cases c2 : b < a
    · rw [if_neg c1, if_pos c2]
    · rw [if_neg c1, if_neg c2]
      rcases lg_tri a b with h | h | h
      · exact absurd h c1
      · exact h.symm
      · exact absurd h c2
theorem zl_min0 {a : Int64} (h : 0 ≤ a.toInt) : (if (0 : Int64) < a then 0 else a) = 0 := by
  by_cases c : (0 : Int64) < a
  · rw [if_pos c]
  · rw [if_neg c]
    apply Int64.toInt_inj.mp
    have : ¬ (0 : Int) < a.toInt := fun q => c (Int64.lt_iff_toInt_lt.mpr q)
    show a.toInt = 0
    omega
/-- what is kept at a rate t -/
def f_keepT (d : zD) (t : Int32) (m : Nat) : Int64 := if f_th (if f_work d m < 0 then 0 else f_work d m) t < f_limit d then f_th (if f_work d m < 0 then 0 else f_work d m) t else f_limit d
def f_retT (d : zD) (t : Int32) (m : Nat) : Int64 := if nI m < d_la d then (if nI m < d_ho d then f_keepT d t m else f_keepT d t m - f_th (f_keepT d t m) (d_tm d 2)) else 0
theorem f_retT_0 (d : zD) (m : Nat) : f_retT d (d_tm d 0) m = f_ret d m := rfl
theorem zi_nlt {a b : Int32} : ¬ a < b ↔ b ≤ a := by
  rw [Int32.lt_iff_toInt_lt, Int32.le_iff_toInt_le]; omega
theorem zi_nle {a b : Int32} : ¬ a ≤ b ↔ b < a := by
  rw [Int32.lt_iff_toInt_lt, Int32.le_iff_toInt_le]; omega
theorem zl_nlt {a b : Int64} : ¬ a < b ↔ b ≤ a := by
  rw [Int64.lt_iff_toInt_lt, Int64.le_iff_toInt_le]; omega
theorem zl_nle {a b : Int64} : ¬ a ≤ b ↔ b < a := by
  rw [Int64.lt_iff_toInt_lt, Int64.le_iff_toInt_le]; omega
theorem zc_retained {s : zz_M} {d : zD} (h : zC0 s d) (hI : zInv d) (t : Int32) (m : Nat) : mX2_retained t (f_work d m) (nI m) s = some (f_retT d t m) := by
  obtain ⟨e0, e1, e2, e3⟩ := h.2.2.2.2.2
  unfold mX2_retained mX2_retained_b15 mX2_retained_b61
  simp only [zc_th, zz_b1_s, zc_limit h, zz_nm_s, zc_of h 2 (by decide), e0, e1]
  unfold f_retT
  by_cases c1 : d_la d ≤ nI m
  · rw [if_pos c1, if_neg (zi_nlt.mpr c1)]
  · rw [if_neg c1, if_pos (zi_nle.mp c1)]
    by_cases c2 : (0 : Int32) ≤ lg_cmp (f_work d m) 0
    · rw [if_pos c2]
      rw [lg_cmp_ge] at c2
      have ew : (if f_work d m < 0 then 0 else f_work d m) = f_work d m := if_neg (zl_nlt.mpr c2)
      have ek : (if f_limit d < f_th (f_work d m) t then f_limit d else f_th (f_work d m) t) = f_keepT d t m := by
        unfold f_keepT
        rw [ew]
        exact zl_min _ _
      rw [ek]
      by_cases c3 : nI m < d_ho d
      · rw [if_pos c3, if_pos c3]
      · rw [if_neg c3, if_neg c3]
    · rw [if_neg c2]
      rw [lg_cmp_ge] at c2
      have ek : f_keepT d t m = 0 := by
        unfold f_keepT
        rw [if_pos (zl_nle.mp c2), f_th_0]
        exact zl_min0 (f_lim_bd hI).1
      rw [ek, f_th_0]
      by_cases c3 : nI m < d_ho d
      · rw [if_pos c3]
      · rw [if_neg c3]; rfl
theorem f_start_bd {d : zD} (h : zInv d) : 0 ≤ (f_th (f_sum d) (d_tm d 4)).toInt ∧ (f_th (f_sum d) (d_tm d 4)).toInt ≤ 9980010 := by
  obtain ⟨a, b⟩ := f_sum_bd h
  have ht := zi_tm h (j := 4) (by decide)
  have := f_th_le (v := f_sum d) (t := d_tm d 4) a (by omega) ht.1 ht.2
  omega
theorem zc_recoveredFor {s : zz_M} {d : zD} (h : zC0 s d) (hI : zInv d) {m : Nat} (hm : m < 24) (before : Int64) : mX2_recoveredFor (f_work d m) before (nI m) s = some (f_recB d m before) := by
  obtain ⟨e0, e1, e2, e3⟩ := h.2.2.2.2.2
  unfold mX2_recoveredFor
  simp only [zc_advanced h, zc_th, zz_b1_s, zz_nm_s, zc_of h 4 (by decide), zc_of h 5 (by decide), e1, h.2.1.2.2]
  obtain ⟨w1, w2⟩ := f_work_bd hI hm
  obtain ⟨s1, s2⟩ := f_start_bd hI
  have es : (f_work d m - f_th (f_sum d) (d_tm d 4)).toInt = (f_work d m).toInt - (f_th (f_sum d) (d_tm d 4)).toInt := zl_sub (by omega) (by omega)
  have ex : f_th (if f_work d m - f_th (f_sum d) (d_tm d 4) < 0 then 0 else f_work d m - f_th (f_sum d) (d_tm d 4)) (d_tm d 5) = (if f_th (f_sum d) (d_tm d 4) < f_work d m then f_th (f_work d m - f_th (f_sum d) (d_tm d 4)) (d_tm d 5) else 0) := by
    by_cases c : f_th (f_sum d) (d_tm d 4) < f_work d m
    · rw [if_pos c, if_neg]
      intro q
      have q1 := Int64.lt_iff_toInt_lt.mp q
      have q2 := Int64.lt_iff_toInt_lt.mp c
      have z0 : (0 : Int64).toInt = 0 := rfl
      omega
    · rw [if_neg c]
      by_cases c2 : f_work d m - f_th (f_sum d) (d_tm d 4) < 0
      · rw [if_pos c2, f_th_0]
      · rw [if_neg c2]
        have : f_work d m - f_th (f_sum d) (d_tm d 4) = 0 := by
          apply Int64.toInt_inj.mp
          have q1 : ¬ (f_th (f_sum d) (d_tm d 4)).toInt < (f_work d m).toInt := fun q => c (Int64.lt_iff_toInt_lt.mpr q)
          have q2 : ¬ (f_work d m - f_th (f_sum d) (d_tm d 4)).toInt < 0 := fun q => c2 (Int64.lt_iff_toInt_lt.mpr q)
          show _ = (0 : Int)
          omega
        rw [this, f_th_0]
  rw [ex]
  unfold f_recB
  by_cases c : nI m < d_la d
  · rw [if_pos c, if_pos c]; rfl
  · rw [if_neg c, if_neg c]
theorem zc_damages {s : zz_M} {d : zD} (h : zC0 s d) (hI : zInv d) {m : Nat} (hm : m < 24) : mX2_damages (nI m) s = some (f_dam d m) := by
  unfold mX2_damages
  simp only [zc_late h, zc_th, zz_b1_s, zz_nm_s, zc_of h 11 (by decide), zc_mostDamages h, h.2.1.2.2]
  unfold f_dam f_damBy
  by_cases c : d_du d = 24
  · rw [if_pos c]
    obtain ⟨-, -, -, ⟨ho, ho1, eho⟩, -, -, ⟨gr, gr1, egr⟩, -⟩ := id hI
    have el : f_late d (d_du d + d_gr d) m = 0 := by
      unfold f_late
      rw [if_neg]
      intro q
      have e1 : d_du d + d_gr d = nI (24 + gr) := by rw [c, egr]; exact nI_add 24 gr
      have e2 : (if d_ho d < nI m then d_ho d else nI m).toInt ≤ 23 ∧ 0 ≤ (if d_ho d < nI m then d_ho d else nI m).toInt := by
        by_cases c2 : d_ho d < nI m
        · rw [if_pos c2]
          have := Int32.lt_iff_toInt_lt.mp c2
          rw [nI_toInt (show m < 2 ^ 31 by omega)] at this
          rw [eho, nI_toInt (by omega)] at this ⊢
          omega
        · rw [if_neg c2, nI_toInt (by omega)]
          omega
      have q1 := Int32.lt_iff_toInt_lt.mp q
      rw [e1, zi_sub (by rw [nI_toInt (by omega)]; omega) (by rw [nI_toInt (by omega)]; omega), nI_toInt (by omega)] at q1
      have z0 : (0 : Int32).toInt = 0 := rfl
      omega
    rw [el, show (0 : Int32).toInt64 = 0 from rfl, Int64.zero_mul]
    congr 1
    rw [← zl_min]
    exact zl_min0 (f_most_bd hI).1
  · rw [if_neg c]
    congr 1
    exact zl_min _ _
theorem zc_adjustedFor {s : zz_M} {d : zD} (h : zC0 s d) {m : Nat} (hm : m < 24) (ahead : Int64) : mX2_adjustedFor (f_work d m - ahead) (nI m) s = some (f_step d m ahead) := by
  unfold mX2_adjustedFor
  rw [zc_latest s 11 hm, zz_b1_s, zz_ck_of (by decide), zz_nm_s, zc_of h 13 (by decide), zz_b1_s, zc_th, zz_b1_s, (h.2.2.1.2.2.1 m hm).2]
  rfl
