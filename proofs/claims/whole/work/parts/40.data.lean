/-! ===== the data that both systems hold, and what follows from them: pure mathematics, no machine ===== -/
/-- terms, items, measured, stored, changes, sets, index, paid; how many items, changes, sets; handover, last, due, granted -/
abbrev zD : Type := (Nat → Int32) × (Nat → Int32) × (Nat → Int32) × (Nat → Int32) × (Nat → Int32) × (Nat → Int32) × (Nat → Int32) × (Nat → Int32) × Int32 × Int32 × Int32 × Int32 × Int32 × Int32 × Int32
abbrev d_tm (d : zD) : Nat → Int32 := d.1
abbrev d_it (d : zD) : Nat → Int32 := d.2.1
abbrev d_ms (d : zD) : Nat → Int32 := d.2.2.1
abbrev d_st (d : zD) : Nat → Int32 := d.2.2.2.1
abbrev d_ch (d : zD) : Nat → Int32 := d.2.2.2.2.1
abbrev d_se (d : zD) : Nat → Int32 := d.2.2.2.2.2.1
abbrev d_ix (d : zD) : Nat → Int32 := d.2.2.2.2.2.2.1
abbrev d_pd (d : zD) : Nat → Int32 := d.2.2.2.2.2.2.2.1
abbrev d_n (d : zD) : Int32 := d.2.2.2.2.2.2.2.2.1
abbrev d_cm (d : zD) : Int32 := d.2.2.2.2.2.2.2.2.2.1
abbrev d_sm (d : zD) : Int32 := d.2.2.2.2.2.2.2.2.2.2.1
abbrev d_ho (d : zD) : Int32 := d.2.2.2.2.2.2.2.2.2.2.2.1
abbrev d_la (d : zD) : Int32 := d.2.2.2.2.2.2.2.2.2.2.2.2.1
abbrev d_du (d : zD) : Int32 := d.2.2.2.2.2.2.2.2.2.2.2.2.2.1
abbrev d_gr (d : zD) : Int32 := d.2.2.2.2.2.2.2.2.2.2.2.2.2.2
/-- the data that the reference's memory holds -/
def dz (t : zz_M) : zD := (t.1 1, t.1 2, t.1 3, t.1 4, t.1 5, t.1 6, t.1 7, t.1 8, t.2.2.1 2, t.2.2.1 6, t.2.2.1 8, t.2.2.1 9, t.2.2.1 10, t.2.2.1 11, t.2.2.1 12)
/-- what holds of the data at any time -/
def zInv (d : zD) : Prop :=
  (∃ k : Nat, k ≤ 10 ∧ d_n d = nI k ∧ (∀ i : Nat, i < k → (∃ j : Nat, j < 5 ∧ d_it d (3 * i) = nI j) ∧ (∃ j : Nat, 1 ≤ j ∧ j < 1000 ∧ d_it d (3 * i + 1) = nI j) ∧ ∃ j : Nat, 1 ≤ j ∧ j < 1000 ∧ d_it d (3 * i + 2) = nI j) ∧ ∀ m i : Nat, m < 24 → i < 10 → k ≤ i → d_ms d (10 * m + i) = -9999) ∧
  (∃ k : Nat, k ≤ 8 ∧ d_cm d = nI k ∧ ∀ i : Nat, i < k → (∃ j : Nat, j < 24 ∧ d_ch d (4 * i) = nI j) ∧ (∃ j : Nat, j < 5 ∧ d_ch d (4 * i + 1) = nI j) ∧ (-999 ≤ (d_ch d (4 * i + 2)).toInt ∧ (d_ch d (4 * i + 2)).toInt ≤ 999) ∧ ∃ j : Nat, j < 1000 ∧ d_ch d (4 * i + 3) = nI j) ∧
  (∃ k : Nat, k ≤ 6 ∧ d_sm d = nI k ∧ ∀ i : Nat, i < k → (∃ j : Nat, j < 24 ∧ d_se d (5 * i) = nI j) ∧ (∃ j : Nat, 1 ≤ j ∧ j < 100000 ∧ d_se d (5 * i + 1) = nI j) ∧ (∃ j : Nat, j ≤ 24 ∧ d_se d (5 * i + 2) = nI j) ∧ (∃ j : Nat, j ≤ 24 ∧ d_se d (5 * i + 3) = nI j) ∧ (∃ j : Nat, j ≤ 1000 ∧ d_se d (5 * i + 4) = nI j) ∧ (d_se d (5 * i + 2) = 24 → d_se d (5 * i + 3) = 24)) ∧
  (∃ k : Nat, k ≤ 24 ∧ d_ho d = nI k) ∧ (∃ k : Nat, k ≤ 24 ∧ d_la d = nI k) ∧ (∃ k : Nat, k ≤ 24 ∧ d_du d = nI k) ∧ (∃ k : Nat, k ≤ 40 ∧ d_gr d = nI k) ∧
  (∀ j : Nat, j < 14 → ∃ k : Nat, d_tm d j = nI k ∧ nI k ≤ zz_great j ∧ k ≤ 1000) ∧
  (∀ m i : Nat, m < 24 → i < 10 → d_ms d (10 * m + i) = -9999 ∨ ∃ k : Nat, k < 2000 ∧ d_ms d (10 * m + i) = nI k) ∧
  (∀ m : Nat, m < 24 → d_st d m = -9999 ∨ ∃ k : Nat, k < 100000 ∧ d_st d m = nI k) ∧
  (∀ m : Nat, m < 24 → d_ix d m = -9999 ∨ ∃ k : Nat, 500 ≤ k ∧ k ≤ 2000 ∧ d_ix d m = nI k) ∧
  (∀ m : Nat, m < 24 → ∃ k : Nat, k < 1000000 ∧ d_pd d m = nI k)
/-- what is told last, up to a month -/
def f_last (g : Nat → Int32) (w : Int32) : Nat → Int32
  | 0 => if g 0 = -9999 then w else g 0
  | m + 1 => if g (m + 1) = -9999 then f_last g w m else g (m + 1)
/-- a sum of longs -/
def f_acc (g : Nat → Int64) (s : Int64) : Nat → Int64
  | 0 => s
  | k + 1 => f_acc g s k + g k
def f_th (v : Int64) (t : Int32) : Int64 := v * t.toInt64 / 1000
def f_done (d : zD) (m i : Nat) : Int32 := f_last (fun k => d_ms d (10 * k + i)) 0 m
def f_stored (d : zD) (m : Nat) : Int32 := f_last (d_st d) 0 m
def f_index (d : zD) (m : Nat) : Int32 := f_last (d_ix d) 1000 m
def f_sum (d : zD) : Int64 := f_acc (fun i => (d_it d (3 * i + 1)).toInt64 * (d_it d (3 * i + 2)).toInt64) 0 (d_n d).toNatClampNeg
def f_cap (d : zD) (i : Nat) : Int32 := d_it d (3 * i + 1) + (f_th (d_it d (3 * i + 1)).toInt64 (d_tm d 9)).toInt32
def f_above (d : zD) (m i : Nat) : Int32 := if (0 : Int32) < f_done d m i - f_cap d i then f_done d m i - f_cap d i else 0
def f_part (d : zD) (m i : Nat) : Int64 := (f_done d m i - f_above d m i).toInt64 * (d_it d (3 * i + 2)).toInt64 + (f_above d m i).toInt64 * f_th (d_it d (3 * i + 2)).toInt64 (d_tm d 10)
/-- quantities, and quantities times rates, of the items of a kind -/
def f_all (d : zD) (kind : Int32) : Nat → Int32
  | 0 => 0
  | k + 1 => if d_it d (3 * k) = kind then f_all d kind k + d_it d (3 * k + 1) else f_all d kind k
def f_cost (d : zD) (kind : Int32) : Nat → Int32
  | 0 => 0
  | k + 1 => if d_it d (3 * k) = kind then f_cost d kind k + d_it d (3 * k + 1) * d_it d (3 * k + 2) else f_cost d kind k
def f_price (d : zD) (kind rate : Int32) : Int32 := if f_all d kind (d_n d).toNatClampNeg = 0 then rate else f_cost d kind (d_n d).toNatClampNeg / f_all d kind (d_n d).toNatClampNeg
def f_worth (d : zD) (c : Nat) : Int64 := (d_ch d (4 * c + 2)).toInt64 * (f_price d (d_ch d (4 * c + 1)) (d_ch d (4 * c + 3))).toInt64
def f_varied (d : zD) (m : Nat) : Int64 := f_acc (fun c => if nI m < d_ch d (4 * c) then 0 else f_worth d c) 0 (d_cm d).toNatClampNeg
def f_work (d : zD) (m : Nat) : Int64 := f_acc (fun i => f_part d m i) (f_varied d m) (d_n d).toNatClampNeg
def f_mat (d : zD) (m : Nat) : Int64 := if nI m < d_ho d then f_th (f_stored d m).toInt64 (d_tm d 6) else 0
def f_limit (d : zD) : Int64 := f_th (f_sum d) (d_tm d 1)
def f_adv (d : zD) : Int64 := f_th (f_sum d) (d_tm d 3)
def f_keep0 (d : zD) (m : Nat) : Int64 := if f_th (if f_work d m < 0 then 0 else f_work d m) (d_tm d 0) < f_limit d then f_th (if f_work d m < 0 then 0 else f_work d m) (d_tm d 0) else f_limit d
def f_ret (d : zD) (m : Nat) : Int64 := if nI m < d_la d then (if nI m < d_ho d then f_keep0 d m else f_keep0 d m - f_th (f_keep0 d m) (d_tm d 2)) else 0
def f_held (d : zD) (s m : Nat) : Int32 := if d_se d (5 * s) ≤ nI m then (if nI m < d_se d (5 * s + 3) then (if nI m < d_se d (5 * s + 2) then d_se d (5 * s + 1) else 0) else (f_th (d_se d (5 * s + 1)).toInt64 (d_se d (5 * s + 4))).toInt32) else 0
def f_set (d : zD) (m : Nat) : Int64 := f_acc (fun s => (f_held d s m).toInt64) 0 (d_sm d).toNatClampNeg
def f_most (d : zD) : Int64 := f_th (f_sum d) (d_tm d 12)
def f_late (d : zD) (by_ : Int32) (m : Nat) : Int32 := if (0 : Int32) < (if d_ho d < nI m then d_ho d else nI m) - by_ then (if d_ho d < nI m then d_ho d else nI m) - by_ else 0
def f_damBy (d : zD) (by_ : Int32) (m : Nat) : Int64 := if d_du d = 24 then 0 else (if (f_late d by_ m).toInt64 * f_th (f_sum d) (d_tm d 11) < f_most d then (f_late d by_ m).toInt64 * f_th (f_sum d) (d_tm d 11) else f_most d)
def f_dam (d : zD) (m : Nat) : Int64 := f_damBy d (d_du d + d_gr d) m
/-- the sums of the months: recovered, adjusted, net, certified, total -/
def f_rec0 (d : zD) (m : Nat) : Int64 := if (if f_th (f_sum d) (d_tm d 4) < f_work d m then f_th (f_work d m - f_th (f_sum d) (d_tm d 4)) (d_tm d 5) else 0) < f_adv d then (if f_th (f_sum d) (d_tm d 4) < f_work d m then f_th (f_work d m - f_th (f_sum d) (d_tm d 4)) (d_tm d 5) else 0) else f_adv d
def f_recB (d : zD) (m : Nat) (before : Int64) : Int64 := if nI m < d_la d then (if f_rec0 d m < before then before else f_rec0 d m) else f_adv d
def f_rec (d : zD) : Nat → Int64
  | 0 => f_recB d 0 0
  | m + 1 => f_recB d (m + 1) (f_rec d m)
def f_step (d : zD) (m : Nat) (ahead : Int64) : Int64 := f_th ((f_work d m - ahead) * (f_index d m - 1000).toInt64 / 1000) (d_tm d 13)
def f_adj (d : zD) : Nat → Int64
  | 0 => 0 + f_step d 0 0
  | m + 1 => f_adj d m + f_step d (m + 1) (f_work d m)
def f_net (d : zD) (m : Nat) : Int64 := f_work d m + f_mat d m + f_adv d + f_adj d m - f_ret d m - f_rec d m - f_set d m - f_dam d m
def f_certB (d : zD) (m : Nat) (sum : Int64) : Int64 := if f_net d m - sum < 0 ∧ nI m < d_la d then 0 else f_net d m - sum
def f_tot (d : zD) : Nat → Int64
  | 0 => 0 + f_certB d 0 0
  | m + 1 => f_tot d m + f_certB d (m + 1) (f_tot d m)
def f_cert (d : zD) : Nat → Int64
  | 0 => f_certB d 0 0
  | m + 1 => f_certB d (m + 1) (f_tot d m)
def f_paid (d : zD) (m : Nat) : Int64 := f_acc (fun k => (d_pd d k).toInt64) 0 (m + 1)
def f_ripe (d : zD) (m : Nat) : Int64 := if d_tm d 8 ≤ nI m then f_tot d (m - (d_tm d 8).toNatClampNeg) else 0
def f_owed (d : zD) (m : Nat) : Int64 := if f_ripe d m - f_paid d m < 0 then 0 else f_ripe d m - f_paid d m
def f_int (d : zD) (m : Nat) : Int64 := f_th (f_owed d m) (d_tm d 7)
def f_intTill (d : zD) (m : Nat) : Int64 := f_acc (fun k => f_int d k) 0 (m + 1)
