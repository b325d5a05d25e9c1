/-! ===== enough: the reference searches by halves, the class divides ===== -/
theorem f_acc_split (P : Nat → Int64) : ∀ k m : Nat, f_acc P 0 (m + k) = f_acc (fun i => P (m + i)) (f_acc P 0 m) k := by
  intro k
  induction k with
  | zero => intro m; rfl
  | succ k ih =>
    intro m
    show f_acc P 0 (m + k) + P (m + k) = f_acc (fun i => P (m + i)) (f_acc P 0 m) k + P (m + k)
    rw [ih]
/-- the payments from a month on: n times what is paid each month -/
theorem f_pp_paid {d : zD} (hI : zInv d) {m k : Nat} (hk : m + k < 24) {v : Nat} (hv : v < 1000000) : (f_paidP (f_pp d m (nI v)) (m + k)).toInt = (f_acc (fun j => (d_pd d j).toInt64) 0 m).toInt + (v : Int) * ((k : Int) + 1) := by
  have hp := zi_pd hI
  have b0 := f_acc_nn (fun j => (d_pd d j).toInt64) 0 999999 (by decide) (by decide) (by decide) (by decide) m (by omega) (fun i hi => hp i (by omega))
  have e0 : (0 : Int64).toInt = 0 := rfl
  rw [e0] at b0
  have e1 : f_acc (f_pp d m (nI v)) 0 m = f_acc (fun j => (d_pd d j).toInt64) 0 m := f_acc_cg 0 m (fun i hi => by
    show (if i < m then d_pd d i else nI v).toInt64 = _
    rw [if_pos hi])
  have e2 : ∀ q : Nat, q ≤ k + 1 → (f_acc (fun i => f_pp d m (nI v) (m + i)) (f_acc (fun j => (d_pd d j).toInt64) 0 m) q).toInt = (f_acc (fun j => (d_pd d j).toInt64) 0 m).toInt + (v : Int) * (q : Int) := by
    intro q
    induction q with
    | zero => intro _; simp [f_acc]
    | succ q ih =>
      intro hq
      have i1 := ih (by omega)
      have ev : f_pp d m (nI v) (m + q) = (nI v).toInt64 := by
        show (if m + q < m then d_pd d (m + q) else nI v).toInt64 = _
        rw [if_neg (by omega)]
      have ev2 : (nI v).toInt64.toInt = v := by rw [zl_wide, nI_toInt (by omega)]
      have hm1 : 0 ≤ (v : Int) * (q : Int) ∧ (v : Int) * (q : Int) ≤ 1000000 * 24 := i_mulB (by omega) (by omega) (by omega) (by omega)
      have hm2 : (v : Int) * ((q + 1 : Nat) : Int) = (v : Int) * (q : Int) + v := by rw [Int.natCast_add, Int.mul_add]; simp
      show (f_acc (fun i => f_pp d m (nI v) (m + i)) (f_acc (fun j => (d_pd d j).toInt64) 0 m) q + f_pp d m (nI v) (m + q)).toInt = _
      rw [ev, zl_add (by rw [i1, ev2]; omega) (by rw [i1, ev2]; omega), i1, ev2, hm2]
      omega
  have e3 : f_paidP (f_pp d m (nI v)) (m + k) = f_acc (f_pp d m (nI v)) 0 (m + (k + 1)) := rfl
  rw [e3, f_acc_split, e1, e2 (k + 1) (Nat.le_refl _)]
  rfl
theorem f_pp_bd {d : zD} (hI : zInv d) {m v : Nat} (hv : v < 1000000) : ∀ k, k < 24 → 0 ≤ (f_pp d m (nI v) k).toInt ∧ (f_pp d m (nI v) k).toInt ≤ 999999 := by
  intro k hk
  show 0 ≤ (if k < m then d_pd d k else nI v).toInt64.toInt ∧ (if k < m then d_pd d k else nI v).toInt64.toInt ≤ 999999
  by_cases c : k < m
  · rw [if_pos c]; exact zi_pd hI k hk
  · rw [if_neg c, zl_wide, nI_toInt (by omega)]; omega
/-- what is owed by 0 a month, as a number -/
def f_o0 (d : zD) (m k : Nat) : Nat := (f_owedP d (f_pp d m (nI 0)) (m + k)).toInt.toNat
theorem f_o0_eq {d : zD} (hI : zInv d) {m k : Nat} (hk : m + k < 24) : (f_owedP d (f_pp d m (nI 0)) (m + k)).toInt = (f_o0 d m k : Int) ∧ f_o0 d m k ≤ 2000000000 := by
  have o := (f_owedP_eq2 hI (P := f_pp d m (nI 0)) (B := 999999) (by decide) (by decide) (f_pp_bd hI (by omega)) hk).2.2
  unfold f_o0
  omega
/-- nothing is owed there if the pace is great enough -/
theorem f_owed_pace {d : zD} (hI : zInv d) {m k : Nat} (hk : m + k < 24) {v : Nat} (hv : v < 1000000) : f_owedP d (f_pp d m (nI v)) (m + k) = 0 ↔ f_o0 d m k ≤ v * (k + 1) := by
  obtain ⟨a1, a2, a3, a4⟩ := f_owedP_eq2 hI (P := f_pp d m (nI v)) (B := 999999) (by decide) (by decide) (f_pp_bd hI hv) hk
  obtain ⟨b1, b2, b3, b4⟩ := f_owedP_eq2 hI (P := f_pp d m (nI 0)) (B := 999999) (by decide) (by decide) (f_pp_bd hI (by omega)) hk
  have p1 := f_pp_paid hI hk hv
  have p0 := f_pp_paid hI hk (v := 0) (by omega)
  have e := (f_o0_eq hI hk).1
  have m0 : ((0 : Nat) : Int) * ((k : Int) + 1) = 0 := by simp
  have mv : (v : Int) * ((k : Int) + 1) = ((v * (k + 1) : Nat) : Int) := by simp
  rw [m0] at p0
  rw [mv] at p1
  have e0 : (0 : Int64).toInt = 0 := rfl
  rw [← Int64.toInt_inj, e0, a2]
  rw [b2] at e
  rw [p1]
  rw [p0] at e
  generalize v * (k + 1) = w
  generalize (f_acc (fun j => (d_pd d j).toInt64) 0 m).toInt = A at e ⊢
  generalize (f_ripe d (m + k)).toInt = R at e ⊢
  by_cases c : R - (A + 0) < 0
  · rw [if_pos c] at e
    rw [if_pos (by omega)]
    omega
  · rw [if_neg c] at e
    by_cases c2 : R - (A + (w : Int)) < 0
    · rw [if_pos c2]; omega
    · rw [if_neg c2]; omega
/-- the least pace for a month -/
def f_q (d : zD) (m k : Nat) : Nat := (f_o0 d m k + k) / (k + 1)
theorem f_q_le (d : zD) (m k v : Nat) : f_q d m k ≤ v ↔ f_o0 d m k ≤ v * (k + 1) := by
  unfold f_q
  rw [Nat.le_iff_lt_add_one, Nat.div_lt_iff_lt_mul (by omega), Nat.add_mul]
  omega
/-- the least pace that does for a month up to one -/
def f_lq (d : zD) (m : Nat) : Nat → Nat
  | 0 => 1000000
  | k + 1 => if f_q d m k < f_lq d m k then f_q d m k else f_lq d m k
theorem f_lq_le (d : zD) (m : Nat) {v : Nat} (hv : v < 1000000) : ∀ n : Nat, f_lq d m n ≤ v ↔ ∃ k, k < n ∧ f_q d m k ≤ v := by
  intro n
  induction n with
  | zero =>
    constructor
    · intro q; exact absurd q (by unfold f_lq; omega)
    · rintro ⟨k, hk, -⟩; omega
  | succ n ih =>
    have e : f_lq d m (n + 1) = if f_q d m n < f_lq d m n then f_q d m n else f_lq d m n := rfl
    rw [e]
    constructor
    · intro q
      by_cases c : f_q d m n < f_lq d m n
      · rw [if_pos c] at q
        exact ⟨n, by omega, q⟩
      · rw [if_neg c] at q
        obtain ⟨k, hk, hq⟩ := ih.mp q
        exact ⟨k, by omega, hq⟩
    · rintro ⟨k, hk, hq⟩
      by_cases c : k < n
      · have := ih.mpr ⟨k, c, hq⟩
        by_cases c2 : f_q d m n < f_lq d m n
        · rw [if_pos c2]; omega
        · rw [if_neg c2]; exact this
      · have hkn : k = n := by omega
        subst hkn
        by_cases c2 : f_q d m k < f_lq d m k
        · rw [if_pos c2]; exact hq
        · rw [if_neg c2]; omega
theorem f_lq_top (d : zD) (m : Nat) : ∀ n : Nat, f_lq d m n ≤ 1000000 := by
  intro n
  induction n with
  | zero => exact Nat.le_refl _
  | succ n ih =>
    show (if f_q d m n < f_lq d m n then f_q d m n else f_lq d m n) ≤ 1000000
    by_cases c : f_q d m n < f_lq d m n
    · rw [if_pos c]; omega
    · rw [if_neg c]; exact ih
def nL (n : Nat) : Int64 := (nI n).toInt64
theorem nL_toInt {n : Nat} (h : n < 2 ^ 31) : (nL n).toInt = n := by
  unfold nL
  rw [zl_wide, nI_toInt h]
theorem zl_ofInt {x : Int64} {n : Nat} (hn : n < 2 ^ 31) (h : x.toInt = n) : x = nL n := Int64.toInt_inj.mp (by rw [h, nL_toInt hn])
/-- the class's division -/
theorem zc_q {d : zD} (hI : zInv d) {m k : Nat} (hk : m + k < 24) : (f_owedP d (f_pp d m (nI 0)) (m + k) + nL (k + 1) - 1) / nL (k + 1) = nL (f_q d m k) ∧ f_q d m k ≤ 2000000000 := by
  obtain ⟨e, eb⟩ := f_o0_eq hI hk
  have n1 : (nL (k + 1)).toInt = ((k + 1 : Nat) : Int) := nL_toInt (by omega)
  have e1 : (1 : Int64).toInt = 1 := rfl
  have s1 : (f_owedP d (f_pp d m (nI 0)) (m + k) + nL (k + 1)).toInt = f_o0 d m k + ((k + 1 : Nat) : Int) := by rw [zl_add (by omega) (by omega), e, n1]
  have s2 : (f_owedP d (f_pp d m (nI 0)) (m + k) + nL (k + 1) - 1).toInt = ((f_o0 d m k + k : Nat) : Int) := by
    rw [zl_sub (by omega) (by omega), s1, e1]
    omega
  have hq : f_q d m k ≤ 2000000000 := by
    unfold f_q
    have h2 : (f_o0 d m k + k) / (k + 1) * (k + 1) ≤ f_o0 d m k + k := Nat.div_mul_le_self _ _
    generalize (f_o0 d m k + k) / (k + 1) = Q at h2 ⊢
    rw [Nat.mul_add] at h2
    by_cases c : Q = 0
    · omega
    · have : k ≤ Q * k := Nat.le_mul_of_pos_left k (Nat.pos_of_ne_zero c)
      omega
  refine ⟨zl_ofInt (by omega) ?_, hq⟩
  rw [lg_ldiv_nonneg (by rw [s2]; omega) (by rw [n1]; omega), s2, n1]
  unfold f_q
  exact (Int.natCast_ediv _ _).symm
theorem zc_enough_b34 {s : zz_M} {d : zD} (hI : zInv d) {m b : Nat} (hb : b < 24) (hmb : m ≤ b) (F : zFg 64 d (f_pp d m (nI 0)) s) : ∀ (j i fuel : Nat), m + i + j = b + 1 → j < fuel → mX10_enough_b34 fuel (nI m) (nI b) (nL (f_lq d m i)) (nI (m + i)) s = if f_lq d m (b + 1 - m) ≤ 999999 then zz_b2 (mX5_start (nL (if 1 < f_lq d m (b + 1 - m) then f_lq d m (b + 1 - m) else 1)) s) (fun r3 z5 => some ((0 : Int32), z5)) else some ((-2 : Int32), s) := by
  intro j
  induction j with
  | zero =>
    intro i fuel hi hf
    obtain ⟨f, rfl⟩ : ∃ f, fuel = f + 1 := ⟨fuel - 1, by omega⟩
    have ei : i = b + 1 - m := by omega
    have top := f_lq_top d m i
    rw [mX10_enough_b34, if_pos (show nI b < nI (m + i) from (nI_ltI (by omega) (by omega)).mpr (by omega)), ← ei]
    have eL : (nL (f_lq d m i)).toInt = f_lq d m i := nL_toInt (by omega)
    have e9 : (999999 : Int64).toInt = 999999 := rfl
    have e1 : (1 : Int64).toInt = 1 := rfl
    by_cases c : f_lq d m i ≤ 999999
    · rw [if_pos c, if_pos (show lg_cmp (nL (f_lq d m i)) 999999 ≤ 0 by rw [lg_cmp_le, Int64.le_iff_toInt_le]; omega)]
      by_cases c2 : 1 < f_lq d m i
      · rw [if_pos c2, if_pos (show (1 : Int64) < nL (f_lq d m i) by rw [Int64.lt_iff_toInt_lt]; omega)]
      · rw [if_neg c2, if_neg (show ¬ (1 : Int64) < nL (f_lq d m i) by rw [Int64.lt_iff_toInt_lt]; omega)]
        rfl
    · rw [if_neg c, if_neg (show ¬ lg_cmp (nL (f_lq d m i)) 999999 ≤ 0 by rw [lg_cmp_le, Int64.le_iff_toInt_le]; omega)]
  | succ j ih =>
    intro i fuel hi hf
    obtain ⟨f, rfl⟩ : ∃ f, fuel = f + 1 := ⟨fuel - 1, by omega⟩
    have hi' : m + i < 24 := by omega
    have e := ih (i + 1) f (by omega) (by omega)
    obtain ⟨q1, q2⟩ := zc_q hI hi'
    have e9 := F.of 9 (by omega) hi'
    rw [show f_fig d (f_pp d m (nI 0)) 9 (m + i) = f_owedP d (f_pp d m (nI 0)) (m + i) from rfl] at e9
    have en : (nI (m + i) - nI m + (1 : Int32)).toInt64 = nL (i + 1) := by
      rw [zq_sub (by omega), nI_1, show m + i - m + 1 = i + 1 by omega]
      rfl
    have hne : ¬ nL (i + 1) = 0 := by
      intro q
      have := congrArg Int64.toInt q
      rw [nL_toInt (by omega)] at this
      have e0 : (0 : Int64).toInt = 0 := rfl
      omega
    have es : f_lq d m (i + 1) = if f_q d m i < f_lq d m i then f_q d m i else f_lq d m i := rfl
    have top := f_lq_top d m i
    rw [mX10_enough_b34, if_neg (show ¬ nI b < nI (m + i) from (not_congr (nI_ltI (by omega) (by omega))).mpr (by omega)), zz_nm_s, show (9 : Int32) = OfNat.ofNat 9 from rfl, e9, zz_b1_s, en, zz_ck_of hne, q1, zz_nm_s, zz_nm_s, nI_1]
    have em : (if nL (f_q d m i) < nL (f_lq d m i) then nL (f_q d m i) else nL (f_lq d m i)) = nL (f_lq d m (i + 1)) := by
      rw [es]
      by_cases c : f_q d m i < f_lq d m i
      · rw [if_pos c, if_pos (show nL (f_q d m i) < nL (f_lq d m i) by rw [Int64.lt_iff_toInt_lt, nL_toInt (by omega), nL_toInt (by omega)]; omega)]
      · rw [if_neg c, if_neg (show ¬ nL (f_q d m i) < nL (f_lq d m i) by rw [Int64.lt_iff_toInt_lt, nL_toInt (by omega), nL_toInt (by omega)]; omega)]
    rw [em]
    exact e
theorem f_ff_in (p : Nat → Prop) [DecidablePred p] : ∀ (j i : Nat), (f_ff p j i = -1 ∧ ∀ k, i ≤ k → k < i + j → ¬ p k) ∨ ∃ k, i ≤ k ∧ k < i + j ∧ p k ∧ f_ff p j i = nI k ∧ ∀ k', i ≤ k' → k' < k → ¬ p k' := by
  intro j
  induction j with
  | zero => intro i; exact Or.inl ⟨rfl, fun k h1 h2 => absurd h2 (by omega)⟩
  | succ j ih =>
    intro i
    unfold f_ff
    by_cases c : p i
    · rw [if_pos c]
      exact Or.inr ⟨i, Nat.le_refl _, by omega, c, rfl, fun k' h1 h2 => absurd h2 (by omega)⟩
    · rw [if_neg c]
      rcases ih (i + 1) with ⟨e, hn⟩ | ⟨k, h1, h2, h3, h4, h5⟩
      · refine Or.inl ⟨e, fun k h1 h2 => ?_⟩
        by_cases q : k = i
        · subst q; exact c
        · exact hn k (by omega) (by omega)
      · refine Or.inr ⟨k, by omega, by omega, h3, h4, fun k' h6 h7 => ?_⟩
        by_cases q : k' = i
        · subst q; exact c
        · exact h5 k' (by omega) h7
/-- a pace is enough if it is not below the least -/
theorem zr_isPaced {t : zz_M} {d : zD} (hd : dz t = d) (hI : zInv d) (ht : ∀ j, j < 24 → t.2.1 16 j = f_tot d j) {m b : Nat} (hb : b < 24) (hmb : m ≤ b) {v : Nat} (hv : v < 1000000) : ∃ t1, mX11_isPaced (nI m) (nI b) (nI v) t = some (if f_lq d m (b + 1 - m) ≤ v then 1 else 0, t1) ∧ zPc d (f_pp d m (nI v)) t t1 := by
  obtain ⟨t1, x1, k1⟩ := zr_paceOf hd hI ht (show m < 24 by omega) (v := nI v) ⟨v, hv, rfl⟩
  refine ⟨t1, ?_, k1⟩
  unfold mX11_isPaced mX11_isPaced_b24 mX11_isPaced_b25
  rw [x1, zz_b2_s, zz_ck_of (Or.inl rfl), zz_ck_of (Or.inr rfl)]
  have hx : ∀ k, m ≤ k → k < 24 → (f_owedP d (f_pp d m (nI v)) k = 0 ↔ f_q d m (k - m) ≤ v) := by
    intro k h1 h2
    have := f_owed_pace hI (m := m) (k := k - m) (by omega) hv
    rw [show m + (k - m) = k by omega] at this
    rw [this, f_q_le]
  rcases f_ff_in (fun k => f_owedP d (f_pp d m (nI v)) k = 0) (24 - m) m with ⟨e, hn⟩ | ⟨k, h1, h2, h3, h4, h5⟩
  · rw [e, if_pos rfl, if_neg]
    intro q
    obtain ⟨k, hk, hq⟩ := (f_lq_le d m hv _).mp q
    refine hn (m + k) (by omega) (by omega) ((hx (m + k) (by omega) (by omega)).mpr ?_)
    rw [show m + k - m = k by omega]
    exact hq
  · rw [h4, if_neg (nI_not1 (by omega))]
    by_cases c : nI b < nI k
    · rw [if_pos c, if_neg]
      rw [nI_ltI (by omega) (by omega)] at c
      intro q
      obtain ⟨k2, hk2, hq⟩ := (f_lq_le d m hv _).mp q
      refine h5 (m + k2) (by omega) (by omega) ((hx (m + k2) (by omega) (by omega)).mpr ?_)
      rw [show m + k2 - m = k2 by omega]
      exact hq
    · rw [if_neg c, if_pos]
      rw [nI_ltI (by omega) (by omega)] at c
      exact (f_lq_le d m hv _).mpr ⟨k - m, by omega, (hx k h1 (by omega)).mp h3⟩
theorem zl_half {a b : Nat} (h : a + b < 2 ^ 30) : (nI a + nI b) / (2 : Int32) = nI ((a + b) / 2) := by
  rw [nI_add]
  apply Int32.toInt_inj.mp
  have e2 : (2 : Int32).toInt = 2 := rfl
  rw [Int32.toInt_div, e2, nI_toInt (by omega), nI_toInt (by omega), Int.tdiv_eq_ediv_of_nonneg (by omega)]
  rw [zb_32 (by omega) (by omega)]
  omega
theorem J_enough {s : zz_M} {d : zD} (hI : zInv d) {m b : Nat} (hb : b < 24) (hmb : m ≤ b) {L : Nat} (eL : L = f_lq d m (b + 1 - m)) : ∀ (k lo hi fuel : Nat) (t : zz_M), zR s t → dz t = d → (∀ j, j < 24 → t.2.1 16 j = f_tot d j) → 1 ≤ lo → lo ≤ (if 1 < L then L else 1) → (if 1 < L then L else 1) ≤ hi → hi < 1000000 → hi - lo < 2 ^ k → k < fuel → zOk (zz_b2 (mX5_start (nL (if 1 < L then L else 1)) s) (fun r3 z5 => some ((0 : Int32), z5))) (mX11_enough_b52 fuel (nI m) (nI b) (nI lo) (nI hi) t) := by
  intro k
  induction k with
  | zero =>
    intro lo hi fuel t h hd ht h1 h2 h3 h4 h5 hf
    obtain ⟨f, rfl⟩ : ∃ f, fuel = f + 1 := ⟨fuel - 1, by omega⟩
    have e1 : lo = hi := by omega
    subst e1
    have e2 : (if 1 < L then L else 1) = lo := by omega
    rw [e2, mX11_enough_b52, if_pos (nI_le_r lo), zz_nm_s]
    obtain ⟨s1, a1, b1⟩ := zc_start s (nL lo)
    have q0 := zr_row0 t
    obtain ⟨t1, x1, y1⟩ := zr_tell q0 (by simp) (nL lo)
    have x1' : mX11_tell (nI lo).toInt64 (zz_sF t 18 0) = some ((), t1) := x1
    rw [a1, zz_b2_s, x1', zz_b2_s]
    exact zOk_ret (zR_row h b1 y1 (by simp))
  | succ k ih =>
    intro lo hi fuel t h hd ht h1 h2 h3 h4 h5 hf
    obtain ⟨f, rfl⟩ : ∃ f, fuel = f + 1 := ⟨fuel - 1, by omega⟩
    by_cases c : hi ≤ lo
    · exact ih lo hi (f + 1) t h hd ht h1 h2 h3 h4 (by have := Nat.two_pow_pos k; omega) (by omega)
    · have hp : 2 ^ (k + 1) = 2 ^ k + 2 ^ k := by rw [Nat.pow_succ]; omega
      obtain ⟨t1, x1, k1⟩ := zr_isPaced hd hI ht hb hmb (v := (lo + hi) / 2) (by omega)
      have h1' := k1.r h
      have hd1 : dz t1 = d := by
        rw [← hd]
        exact dz_cg (fun q _ => k1.2.1 q (by omega)) (fun q _ => by rw [k1.1])
      have ht1 : ∀ j, j < 24 → t1.2.1 16 j = f_tot d j := fun j hj => by rw [k1.2.2.1 16 (by omega) (by omega)]; exact ht j hj
      rw [mX11_enough_b52, if_neg (nI_ge (show lo < hi by omega) (by omega)), zz_ck_of (by decide), zz_nm_s, zl_half (by omega), x1, zz_b2_s, zz_nm_s, nI_1, zz_ti, ← eL]
      unfold mX11_enough_b89
      by_cases c2 : L ≤ (lo + hi) / 2
      · rw [if_pos c2]
        refine ih lo ((lo + hi) / 2) f t1 h1' hd1 ht1 h1 h2 ?_ (by omega) (by omega) (by omega)
        by_cases c3 : 1 < L
        · rw [if_pos c3]; exact c2
        · rw [if_neg c3]; omega
      · rw [if_neg c2]
        refine ih ((lo + hi) / 2 + 1) hi f t1 h1' hd1 ht1 (by omega) ?_ h3 h4 (by omega) (by omega)
        rw [if_pos (show 1 < L by omega)]
        omega
theorem B_enough {s t : zz_M} (h : zR s t) (x v : Int32) : zOk (mX10_enough x v s) (mX11_enough x v t) := by
  have h0 := zR_thr h 0
  unfold mX10_enough mX11_enough mX10_enough_b19 mX11_enough_b24
  rw [zz_nm_s]
  generalize zz_sF t 19 0 = t0 at h0 ⊢
  rw [zc_isMonth, zr_isMonth, zz_b1_s, zz_b1_s, zc_isMonth, zr_isMonth, zz_b1_s, zz_b1_s]
  refine zOk_tst Iff.rfl (fun c => ?_) (fun c => zOk_ret h0)
  refine zOk_tst Iff.rfl (fun cv => ?_) (fun c => zOk_ret h0)
  obtain ⟨m, hm, rfl⟩ := zq_month c
  obtain ⟨b, hb, rfl⟩ := zq_month cv
  refine zOk_if Iff.rfl (fun cb => ?_) (fun c => zOk_ret h0)
  have hmb : m ≤ b := by
    rw [Int32.le_iff_toInt_le, nI_toInt (by omega), nI_toInt (by omega)] at cb
    omega
  obtain ⟨t1, x1, Y⟩ := zr_layMonths t0 h0.2.1
  have hd : dz t1 = dz t0 := dz_eq Y.1 Y.2.1
  have h1 : zR s t1 := zR_ly h0 Y
  have ht : ∀ j, j < 24 → t1.2.1 16 j = f_tot (dz t0) j := fun j hj => (Y.2.2.2 j hj).2.2.2.2.1
  obtain ⟨t2, x2, k2⟩ := zr_isPaced hd h0.2.1 ht hb hmb (v := 999999) (by omega)
  have h2 := k2.r h1
  have hd2 : dz t2 = dz t0 := by
    rw [← hd]
    exact dz_cg (fun q _ => k2.2.1 q (by omega)) (fun q _ => by rw [k2.1])
  have ht2 : ∀ j, j < 24 → t2.2.1 16 j = f_tot (dz t0) j := fun j hj => by rw [k2.2.2.1 16 (by omega) (by omega)]; exact ht j hj
  obtain ⟨s2, a2, c1, c2, c3, F⟩ := zc_payFrom h0.1 h0.2.1 hm (nI 0)
  have h3 : zR s2 t2 := zR_f h2 c1 (by rw [c2]) (fun q hq => c3 q (by omega)) (fun _ _ => rfl) (fun _ _ => rfl) rfl
  have a2' : mX10_payFrom (nI m) 0 s = some ((), s2) := a2
  have x2' : mX11_isPaced (nI m) (nI b) 999999 t1 = _ := x2
  have e := zc_enough_b34 h0.2.1 hb hmb F (b + 1 - m) 0 zz_N (by omega) (by unfold zz_N; omega)
  have e' : mX10_enough_b34 zz_N (nI m) (nI b) 1000000 (nI m) s2 = _ := e
  rw [x1, zz_b2_s, x2', zz_b2_s, a2', zz_b2_s, e', zz_ti]
  refine zOk_if Iff.rfl (fun cl => ?_) (fun _ => zOk_ret h3)
  have := J_enough (s := s2) h0.2.1 hb hmb rfl 20 1 999999 zz_N t2 h3 hd2 ht2 (by omega) (by split <;> omega) (by split <;> omega) (by omega) (by decide) (by unfold zz_N; omega)
  exact this
