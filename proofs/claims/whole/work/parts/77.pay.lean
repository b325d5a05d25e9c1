/-! ===== as if more were paid: clears, paces ===== -/
theorem f_acc_one (P : Nat → Int64) (m : Nat) (x : Int64) : ∀ k : Nat, f_acc (fun j => if j = m then P j + x else P j) 0 k = if m < k then f_acc P 0 k + x else f_acc P 0 k := by
  intro k
  induction k with
  | zero => rw [if_neg (by omega)]; rfl
  | succ k ih =>
    show f_acc (fun j => if j = m then P j + x else P j) 0 k + (if k = m then P k + x else P k) = if m < k + 1 then (f_acc P 0 k + P k) + x else f_acc P 0 k + P k
    rw [ih]
    by_cases c : m < k
    · rw [if_pos c, if_neg (show ¬ k = m by omega), if_pos (show m < k + 1 by omega), Int64.add_assoc, Int64.add_comm x, ← Int64.add_assoc]
    · rw [if_neg c]
      by_cases c2 : k = m
      · rw [if_pos c2, if_pos (show m < k + 1 by omega), Int64.add_assoc]
      · rw [if_neg c2, if_neg (show ¬ m < k + 1 by omega)]
/-- the debt reckoned with other payments: the other figures stay -/
theorem zc_debtFg {d : zD} {P P' : Nat → Int64} {s : zz_M} (hC : zC0 s d) (hI : zInv d) (F : zFg 64 d P s) (hP : ∀ j, j < 24 → s.2.1 98 j = P' j) : ∃ s2, mX4_reckonDebt 64 98 s = some ((), s2) ∧ s2.1 = s.1 ∧ s2.2.2 = s.2.2 ∧ (∀ q, q < 66 ∨ 81 ≤ q → s2.2.1 q = s.2.1 q) ∧ zFg 64 d P' s2 := by
  obtain ⟨s2, a2, b1, b2, b3, b4⟩ := zc_reckonDebt (ff := 64) (gq := 98) (P := P') hC hI hP (fun j hj => F 8 (by omega) j hj) (fun w hw => by omega)
  refine ⟨s2, a2, b1, b2, fun q hq => b3 q (fun w hw => by omega), fun w hw j hj => ?_⟩
  by_cases c : w = 9 ∨ w = 10 ∨ w = 11 ∨ w = 12
  · exact b4 j hj w c
  · rw [b3 (64 + 2 + w) (fun w' hw' => by omega), F w hw j hj]
    have hw2 : w = 0 ∨ w = 1 ∨ w = 2 ∨ w = 3 ∨ w = 4 ∨ w = 5 ∨ w = 6 ∨ w = 7 ∨ w = 8 ∨ w = 13 ∨ w = 14 := by omega
    rcases hw2 with rfl | rfl | rfl | rfl | rfl | rfl | rfl | rfl | rfl | rfl | rfl <;> simp only [f_fig]
theorem zr_lacking (z : zz_M) (h : zInv (dz z)) (ht : ∀ j, j < 24 → z.2.1 16 j = f_tot (dz z) j) {m : Nat} (hm : m < 24) : mX11_lacking (nI m) z = some (f_ripe (dz z) m - f_paid (dz z) m) := by
  obtain ⟨g, hg, eg⟩ := zr_grace h
  have eg' : z.1 1 8 = nI g := eg
  unfold mX11_lacking mX11_lacking_b29
  rw [zz_ck_of (zq_lit 8 14 (by decide) (by decide)), zz_ck_of (zq_lit 8 14 (by decide) (by decide)), zr_paidTill z hm, zz_b1_s, zz_b1_s, zq_clit (k := 8) (by decide), eg']
  unfold f_ripe
  rw [eg]
  by_cases c : nI m < nI g
  · rw [if_pos c, if_neg (zi_nle.mpr c)]
  · have hgm : g ≤ m := by
      have := (not_congr (nI_ltI (a := m) (b := g) (by omega) (by omega))).mp c
      omega
    rw [if_neg c, if_pos (nI_le hgm (by omega)), zq_sub hgm, zz_ck_of (zq_k _ (show m - g < 24 by omega) (by decide)), nI_clamp (by omega), nI_clamp (by omega), ht _ (by omega)]
theorem zl_sa (a b x : Int64) : a - b - x = a - (b + x) := by
  rw [Int64.sub_eq_add_neg, Int64.sub_eq_add_neg, Int64.sub_eq_add_neg, Int64.neg_add, Int64.sub_eq_add_neg, Int64.add_assoc]
theorem zr_clears_b31 (z : zz_M) (hI : zInv (dz z)) {d : zD} (hd : dz z = d) (ht : ∀ j, j < 24 → z.2.1 16 j = f_tot d j) (hi18 : ∀ j, j < 24 → z.2.1 18 j = f_int d j) {m : Nat} (hm : m < 24) (x : Int64) {P' : Nat → Int64} (hP' : P' = fun j => if j = m then (d_pd d j).toInt64 + x else (d_pd d j).toInt64) : ∀ (j i fuel : Nat), i + j = 24 → j < fuel → mX11_clears_b31 fuel (nI m) x (f_acc (fun k => f_intP d P' k) 0 i) (nI i) z = zz_nm (zz_sF z 18 (0 : Int32)) (fun z4 => zz_b2 (mX11_tell x z4) (fun r5 z7 => zz_b2 (mX11_tell (f_acc (fun k => f_intP d P' k) 0 24) z7) (fun r8 z10 => some ((0 : Int32), z10)))) := by
  intro j
  induction j with
  | zero =>
    intro i fuel hi hf
    obtain ⟨f, rfl⟩ : ∃ f, fuel = f + 1 := ⟨fuel - 1, by omega⟩
    have : i = 24 := by omega
    subst this
    unfold mX11_clears_b31
    rw [if_pos (show (24 : Int32) ≤ nI 24 by decide)]
  | succ j ih =>
    intro i fuel hi hf
    obtain ⟨f, rfl⟩ : ∃ f, fuel = f + 1 := ⟨fuel - 1, by omega⟩
    have hi' : i < 24 := by omega
    have e := ih (i + 1) f (by omega) (by omega)
    have es : f_acc (fun k => f_intP d P' k) 0 (i + 1) = f_acc (fun k => f_intP d P' k) 0 i + f_intP d P' i := rfl
    rw [es] at e
    have hpp : f_paidP P' i = if m < i + 1 then f_paid d i + x else f_paid d i := by
      unfold f_paidP f_paid
      rw [hP']
      exact f_acc_one (fun k => (d_pd d k).toInt64) m x (i + 1)
    rw [mX11_clears_b31, if_neg (show ¬ (24 : Int32) ≤ nI i from nI_ge hi' (by decide))]
    unfold mX11_clears_b78
    by_cases c : m ≤ i
    · have lk := zr_lacking z hI (fun j hj => by rw [hd]; exact ht j hj) hi'
      rw [hd] at lk
      have t7 : z.1 1 7 = d_tm d 7 := by rw [← hd]; rfl
      rw [if_pos (nI_le c (by omega)), lk, zz_b1_s, zz_ck_of (zq_lit 7 14 (by decide) (by decide)), zq_clit (k := 7) (by decide), t7, zr_th, zz_b1_s, zz_nm_s, zz_nm_s, nI_1, zl_sa]
      rw [if_pos (show m < i + 1 by omega)] at hpp
      have ei : f_th (if f_ripe d i - (f_paid d i + x) < 0 then 0 else f_ripe d i - (f_paid d i + x)) (d_tm d 7) = f_intP d P' i := by
        unfold f_intP f_owedP
        rw [hpp]
      rw [ei]
      exact e
    · rw [if_neg (nI_ge (show i < m by omega) (by omega)), zz_ck_of (zq_k i hi' (by decide)), nI_clamp (by omega), hi18 i hi', zz_nm_s, zz_nm_s, nI_1]
      rw [if_neg (show ¬ m < i + 1 by omega)] at hpp
      have ei : f_int d i = f_intP d P' i := by
        unfold f_intP f_owedP f_int f_owed
        rw [hpp]
      rw [ei]
      exact e
theorem B_clears {s t : zz_M} (h : zR s t) (x : Int32) : zOk (mX10_clears x s) (mX11_clears x t) := by
  have h0 := zR_thr h 0
  unfold mX10_clears mX11_clears
  rw [zz_nm_s]
  generalize zz_sF t 19 0 = t0 at h0 ⊢
  rw [zc_isMonth, zr_isMonth, zz_b1_s, zz_b1_s]
  refine zOk_tst Iff.rfl (fun c => ?_) (fun c => zOk_ret h0)
  obtain ⟨m, hm, rfl⟩ := zq_month c
  have hin := zq_k m hm (show 24 < 2 ^ 31 by decide)
  obtain ⟨s0, t1, A1, X1, h1, K, Y, hd⟩ := zR_both h0 (ff := 64) (Or.inl rfl)
  have F := K.fg
  rw [A1, X1, zz_b2_s, zz_b2_s, show (9 : Int32) = OfNat.ofNat 9 from rfl, F.of 9 (by omega) hm, zz_b1_s, show f_fig (dz t0) (fun k => (d_pd (dz t0) k).toInt64) 9 m = f_owed (dz t0) m from rfl, zz_nm_s, zz_ck_of hin, zz_ck_of hin, zz_nm_s, zz_ck_of hin, zz_nm_s, nI_clamp (show m < 2 ^ 31 by omega), (Y.2.2.2 m hm).2.2.2.2.2.1]
  generalize hx : f_owed (dz t0) m = x
  generalize hz : zz_wJ (zz_sJ s0 98 (va_cpy (s0.2.1 63) (s0.2.1 98) (0 : Int32).toNatClampNeg (0 : Int32).toNatClampNeg (24 : Int32).toNatClampNeg)) 98 (nI m) ((zz_sJ s0 98 (va_cpy (s0.2.1 63) (s0.2.1 98) (0 : Int32).toNatClampNeg (0 : Int32).toNatClampNeg (24 : Int32).toNatClampNeg)).2.1 98 m + x) = s2
  have z1 : s2.1 = s0.1 := by rw [← hz]; rfl
  have z2 : s2.2.2 = s0.2.2 := by rw [← hz]; rfl
  have z3 : ∀ q, q ≠ 98 → s2.2.1 q = s0.2.1 q := by
    intro q hq
    rw [← hz, zw_J_ne _ _ _ hq]
    show va_up s0.2.1 98 _ q = _
    rw [va_up_ne _ _ hq]
  have zc : ∀ j, j < 24 → (zz_sJ s0 98 (va_cpy (s0.2.1 63) (s0.2.1 98) (0 : Int32).toNatClampNeg (0 : Int32).toNatClampNeg (24 : Int32).toNatClampNeg)).2.1 98 j = (d_pd (dz t0) j).toInt64 := by
    intro j hj
    show va_up s0.2.1 98 _ 98 j = _
    rw [zz_up_at]
    have := pk_cpy_in (f := s0.2.1 63) (g := s0.2.1 98) (sp := 0) (dp := 0) (n := 24) (j := j) (by omega) (by omega)
    refine Eq.trans this ?_
    rw [show 0 + (j - 0) = j by omega]
    have := h1.1.2 j hj
    rw [hd] at this
    exact this
  have z4 : ∀ j, j < 24 → s2.2.1 98 j = (fun j => if j = m then (d_pd (dz t0) j).toInt64 + x else (d_pd (dz t0) j).toInt64) j := by
    intro j hj
    show _ = if j = m then (d_pd (dz t0) j).toInt64 + x else (d_pd (dz t0) j).toInt64
    rw [← hz]
    by_cases e : j = m
    · subst e
      rw [if_pos rfl, zw_J_same _ _ _ _ (by omega), zc j hj]
    · rw [if_neg e, zw_J_off _ _ _ (by omega) e, zc j hj]
  have hC2 : zC0 s2 (dz t0) := by
    have := h1.1.1
    rw [hd] at this
    exact zC0_eq z1 (by rw [z2]) this
  have F2 : zFg 64 (dz t0) (fun k => (d_pd (dz t0) k).toInt64) s2 := by
    intro w hw j hj
    rw [z3 _ (by omega)]
    exact F w hw j hj
  obtain ⟨s3, a3, c1, c2, c3, G⟩ := zc_debtFg hC2 h0.2.1 F2 z4
  have h3 : zR s3 t1 := zR_f h1 (c1.trans z1) (by rw [c2, z2]) (fun q hq => by rw [c3 q (by omega), z3 q (by omega)]) (fun _ _ => rfl) (fun _ _ => rfl) rfl
  obtain ⟨s4, a4, b4⟩ := zc_start s3 x
  obtain ⟨s5, a5, b5⟩ := zc_then b4 (by simp) (f_acc (fun k => f_intP (dz t0) (fun j => if j = m then (d_pd (dz t0) j).toInt64 + x else (d_pd (dz t0) j).toInt64) k) 0 24)
  have q0 := zr_row0 t1
  obtain ⟨u4, x4, y4⟩ := zr_tell q0 (by simp) x
  obtain ⟨u5, x5, y5⟩ := zr_tell y4 (by simp) (f_acc (fun k => f_intP (dz t0) (fun j => if j = m then (d_pd (dz t0) j).toInt64 + x else (d_pd (dz t0) j).toInt64) k) 0 24)
  have e11 := (G.row (Or.inl rfl) b4).of 11 (by omega) (m := 23) (by omega)
  rw [show nI 23 = (23 : Int32) from rfl, show f_fig (dz t0) (fun j => if j = m then (d_pd (dz t0) j).toInt64 + x else (d_pd (dz t0) j).toInt64) 11 23 = f_acc (fun k => f_intP (dz t0) (fun j => if j = m then (d_pd (dz t0) j).toInt64 + x else (d_pd (dz t0) j).toInt64) k) 0 24 from rfl] at e11
  rw [a3, zz_b2_s, a4, zz_b2_s, show (11 : Int32) = OfNat.ofNat 11 from rfl, e11, zz_b1_s, a5, zz_b2_s]
  have L := zr_clears_b31 t1 h1.2.1 hd (fun j hj => (Y.2.2.2 j hj).2.2.2.2.1) (fun j hj => (Y.2.2.2 j hj).2.2.2.2.2.2) hm x rfl 24 0 zz_N (by omega) (by unfold zz_N; omega)
  have L' : mX11_clears_b31 zz_N (nI m) x 0 0 t1 = _ := L
  rw [L', zz_nm_s, x4, zz_b2_s, x5, zz_b2_s]
  exact zOk_ret (zR_row h3 b5 y5 (by simp))
/-- so much paid each month from one on -/
def f_pp (d : zD) (m : Nat) (v : Int32) : Nat → Int64 := fun k => (if k < m then d_pd d k else v).toInt64
def zPf (d : zD) (m : Nat) (v : Int32) (s s1 : zz_M) (i : Nat) : Prop := s1.1 = s.1 ∧ s1.2.2 = s.2.2 ∧ (∀ q, q ≠ 98 → s1.2.1 q = s.2.1 q) ∧ ∀ j, j < i → s1.2.1 98 j = f_pp d m v j
theorem zPf_w {d : zD} {m : Nat} {v : Int32} {s s1 : zz_M} {i : Nat} (hi : i < 24) (h : zPf d m v s s1 i) : zPf d m v s (zz_wJ s1 98 (nI i) (f_pp d m v i)) (i + 1) := by
  obtain ⟨h1, h2, h3, h4⟩ := h
  refine ⟨h1, h2, fun q hq => by rw [zw_J_ne _ _ _ hq]; exact h3 q hq, fun j hj => ?_⟩
  by_cases e : j = i
  · subst e; rw [zw_J_same _ _ _ _ (by omega)]
  · rw [zw_J_off _ _ _ (by omega) e]; exact h4 j (by omega)
theorem zc_payFrom_b2 {d : zD} {m : Nat} (hm : m < 24) {v : Int32} {s : zz_M} (hpd : ∀ j, j < 24 → s.2.1 63 j = (d_pd d j).toInt64) : ∀ (j i fuel : Nat) (s1 : zz_M), i + j = 24 → j < fuel → zPf d m v s s1 i → ∃ s2, mX10_payFrom_b2 fuel (nI m) v (nI i) s1 = zz_b2 (mX4_reckon 64 s2) (fun r5 z7 => zz_b2 (mX4_reckonDebt 64 98 z7) (fun r8 z10 => some ((), z10))) ∧ zPf d m v s s2 24 := by
  intro j
  induction j with
  | zero =>
    intro i fuel s1 hi hf h
    obtain ⟨f, rfl⟩ : ∃ f, fuel = f + 1 := ⟨fuel - 1, by omega⟩
    have : i = 24 := by omega
    subst this
    refine ⟨s1, ?_, h⟩
    rw [mX10_payFrom_b2, if_pos (show (24 : Int32) ≤ nI 24 by decide)]
  | succ j ih =>
    intro i fuel s1 hi hf h
    obtain ⟨f, rfl⟩ : ∃ f, fuel = f + 1 := ⟨fuel - 1, by omega⟩
    have hi' : i < 24 := by omega
    obtain ⟨s2, e2, h2⟩ := ih (i + 1) f _ (by omega) (by omega) (zPf_w hi' h)
    refine ⟨s2, ?_, h2⟩
    have hin := zq_k i hi' (show 24 < 2 ^ 31 by decide)
    rw [mX10_payFrom_b2, if_neg (show ¬ (24 : Int32) ≤ nI i from nI_ge hi' (by decide))]
    unfold mX10_payFrom_b32
    rw [zz_ck_of hin, zz_ck_of hin, zz_ck_of hin, zz_nm_s, zz_nm_s, zz_nm_s, zz_nm_s, nI_1]
    by_cases c : m ≤ i
    · rw [if_pos (nI_le c (by omega))]
      have : f_pp d m v i = v.toInt64 := by
        show (if i < m then d_pd d i else v).toInt64 = _
        rw [if_neg (by omega)]
      rw [this] at e2
      exact e2
    · rw [if_neg (nI_ge (show i < m by omega) (by omega)), nI_clamp (show i < 2 ^ 31 by omega)]
      have : f_pp d m v i = s1.2.1 63 i := by
        show (if i < m then d_pd d i else v).toInt64 = _
        rw [if_pos (by omega), h.2.2.1 63 (by omega), hpd i hi']
      rw [this] at e2
      exact e2
theorem zc_payFrom {s : zz_M} {d : zD} (hC : zC s d) (hI : zInv d) {m : Nat} (hm : m < 24) (v : Int32) : ∃ s', mX10_payFrom (nI m) v s = some ((), s') ∧ s'.1 = s.1 ∧ s'.2.2 = s.2.2 ∧ (∀ q, q < 66 ∨ 98 < q → s'.2.1 q = s.2.1 q) ∧ zFg 64 d (f_pp d m v) s' := by
  obtain ⟨s2, e2, z1, z2, z3, z4⟩ := zc_payFrom_b2 (d := d) hm (v := v) (s := s) hC.2 24 0 zz_N s (by omega) (by unfold zz_N; omega) ⟨rfl, rfl, fun _ _ => rfl, fun j hj => absurd hj (Nat.not_lt_zero j)⟩
  have C2 : zC s2 d := ⟨zC0_eq z1 (by rw [z2]) hC.1, zC_pd_cg hC.2 (z3 63 (by omega)) rfl⟩
  obtain ⟨s3, a3, k3⟩ := zc_reckon (ff := 64) (Or.inl rfl) C2 hI
  have C3 := zC_rk C2 (Or.inl rfl) k3
  obtain ⟨s4, a4, c1, c2, c3, G⟩ := zc_debtFg C3.1 hI k3.fg (P' := f_pp d m v) (fun j hj => by rw [k3.2.2.1 98 (by omega)]; exact z4 j hj)
  refine ⟨s4, ?_, by rw [c1, k3.1, z1], by rw [c2, k3.2.1, z2], fun q hq => ?_, G⟩
  · unfold mX10_payFrom
    refine Eq.trans e2 ?_
    rw [a3, zz_b2_s, a4, zz_b2_s]
  · rw [c3 q (by omega), k3.2.2.1 q (by omega), z3 q (by omega)]
/-- the reference's payments laid aside, written, put back -/
def zLp (t t1 : zz_M) (i : Nat) : Prop := t1.2 = t.2 ∧ (∀ q, q ≠ 19 → t1.1 q = t.1 q) ∧ ∀ j, j < i → t1.1 19 j = t.1 8 j
theorem zr_layPaid_b2 {t : zz_M} : ∀ (j i fuel : Nat) (t1 : zz_M), i + j = 24 → j < fuel → zLp t t1 i → ∃ t2, mX11_layPaid_b2 fuel (nI i) t1 = some ((), t2) ∧ zLp t t2 24 := by
  intro j
  induction j with
  | zero =>
    intro i fuel t1 hi hf h
    obtain ⟨f, rfl⟩ : ∃ f, fuel = f + 1 := ⟨fuel - 1, by omega⟩
    have : i = 24 := by omega
    subst this
    refine ⟨t1, ?_, h⟩
    rw [mX11_layPaid_b2, if_pos (show (24 : Int32) ≤ nI 24 by decide)]
  | succ j ih =>
    intro i fuel t1 hi hf h
    obtain ⟨f, rfl⟩ : ∃ f, fuel = f + 1 := ⟨fuel - 1, by omega⟩
    have hi' : i < 24 := by omega
    obtain ⟨h1, h2, h3⟩ := h
    have hin := zq_k i hi' (show 24 < 2 ^ 31 by decide)
    obtain ⟨t2, e2, r2⟩ := ih (i + 1) f (zz_wI t1 19 (nI i) (t1.1 8 i)) (by omega) (by omega) ⟨h1, fun q hq => by rw [zw_I_ne _ _ _ hq]; exact h2 q hq, fun k hk => by
      by_cases e : k = i
      · subst e; rw [zw_I_same _ _ _ _ (by omega), h2 8 (by omega)]
      · rw [zw_I_off _ _ _ (by omega) e]; exact h3 k (by omega)⟩
    refine ⟨t2, ?_, r2⟩
    rw [mX11_layPaid_b2, if_neg (show ¬ (24 : Int32) ≤ nI i from nI_ge hi' (by decide)), zz_ck_of hin, zz_ck_of hin, zz_nm_s, zz_nm_s, nI_clamp (by omega), nI_1]
    exact e2
def zPa (t t1 : zz_M) (i : Nat) : Prop := t1.2 = t.2 ∧ (∀ q, q ≠ 8 → t1.1 q = t.1 q) ∧ ∀ j, t1.1 8 j = if j < i then t.1 19 j else t.1 8 j
theorem zr_paidAgain_b2 {t : zz_M} : ∀ (j i fuel : Nat) (t1 : zz_M), i + j = 24 → j < fuel → zPa t t1 i → ∃ t2, mX11_paidAgain_b2 fuel (nI i) t1 = some ((), t2) ∧ zPa t t2 24 := by
  intro j
  induction j with
  | zero =>
    intro i fuel t1 hi hf h
    obtain ⟨f, rfl⟩ : ∃ f, fuel = f + 1 := ⟨fuel - 1, by omega⟩
    have : i = 24 := by omega
    subst this
    refine ⟨t1, ?_, h⟩
    rw [mX11_paidAgain_b2, if_pos (show (24 : Int32) ≤ nI 24 by decide)]
  | succ j ih =>
    intro i fuel t1 hi hf h
    obtain ⟨f, rfl⟩ : ∃ f, fuel = f + 1 := ⟨fuel - 1, by omega⟩
    have hi' : i < 24 := by omega
    obtain ⟨h1, h2, h3⟩ := h
    have hin := zq_k i hi' (show 24 < 2 ^ 31 by decide)
    obtain ⟨t2, e2, r2⟩ := ih (i + 1) f (zz_wI t1 8 (nI i) (t1.1 19 i)) (by omega) (by omega) ⟨h1, fun q hq => by rw [zw_I_ne _ _ _ hq]; exact h2 q hq, fun k => by
      by_cases e : k = i
      · subst e; rw [zw_I_same _ _ _ _ (by omega), h2 19 (by omega), if_pos (by omega)]
      · rw [zw_I_off _ _ _ (by omega) e, h3 k]
        by_cases c : k < i
        · rw [if_pos c, if_pos (by omega)]
        · rw [if_neg c, if_neg (by omega)]⟩
    refine ⟨t2, ?_, r2⟩
    rw [mX11_paidAgain_b2, if_neg (show ¬ (24 : Int32) ≤ nI i from nI_ge hi' (by decide)), zz_ck_of hin, zz_ck_of hin, zz_nm_s, zz_nm_s, nI_clamp (by omega), nI_1]
    exact e2
def zPs (m : Nat) (v : Int32) (t t1 : zz_M) (i : Nat) : Prop := t1.2 = t.2 ∧ (∀ q, q ≠ 8 → t1.1 q = t.1 q) ∧ ∀ j, t1.1 8 j = if m ≤ j ∧ j < i then v else t.1 8 j
theorem zr_paceOf_b6 {m : Nat} {v : Int32} {t : zz_M} : ∀ (j i fuel : Nat) (t1 : zz_M), i + j = 24 → m ≤ i → j < fuel → zPs m v t t1 i → ∃ t2, mX11_paceOf_b6 fuel (nI m) v (nI i) t1 = zz_b2 (mX11_layOwed t2) (fun r6 z8 => zz_b2 (mX11_paidAgain z8) (fun r9 z11 => mX11_paceOf_b35 zz_N (nI m) z11)) ∧ zPs m v t t2 24 := by
  intro j
  induction j with
  | zero =>
    intro i fuel t1 hi hmi hf h
    obtain ⟨f, rfl⟩ : ∃ f, fuel = f + 1 := ⟨fuel - 1, by omega⟩
    have : i = 24 := by omega
    subst this
    refine ⟨t1, ?_, h⟩
    rw [mX11_paceOf_b6, if_pos (show (24 : Int32) ≤ nI 24 by decide)]
  | succ j ih =>
    intro i fuel t1 hi hmi hf h
    obtain ⟨f, rfl⟩ : ∃ f, fuel = f + 1 := ⟨fuel - 1, by omega⟩
    have hi' : i < 24 := by omega
    obtain ⟨h1, h2, h3⟩ := h
    have hin := zq_k i hi' (show 24 < 2 ^ 31 by decide)
    obtain ⟨t2, e2, r2⟩ := ih (i + 1) f (zz_wI t1 8 (nI i) v) (by omega) (by omega) (by omega) ⟨h1, fun q hq => by rw [zw_I_ne _ _ _ hq]; exact h2 q hq, fun k => by
      by_cases e : k = i
      · subst e; rw [zw_I_same _ _ _ _ (by omega), if_pos (by omega)]
      · rw [zw_I_off _ _ _ (by omega) e, h3 k]
        by_cases c : m ≤ k ∧ k < i
        · rw [if_pos c, if_pos (by omega)]
        · rw [if_neg c, if_neg (by omega)]⟩
    refine ⟨t2, ?_, r2⟩
    rw [mX11_paceOf_b6, if_neg (show ¬ (24 : Int32) ≤ nI i from nI_ge hi' (by decide)), zz_ck_of hin, zz_nm_s, zz_nm_s, nI_1]
    exact e2
theorem zr_paceOf_b35 {z : zz_M} {g : Nat → Int64} (hg : ∀ j, j < 24 → z.2.1 17 j = g j) : ∀ (j i fuel : Nat), i + j = 24 → j < fuel → mX11_paceOf_b35 fuel (nI i) z = some (f_ff (fun k => g k = 0) j i, z) := by
  intro j
  induction j with
  | zero =>
    intro i fuel hi hf
    obtain ⟨f, rfl⟩ : ∃ f, fuel = f + 1 := ⟨fuel - 1, by omega⟩
    have : i = 24 := by omega
    subst this
    rw [mX11_paceOf_b35, if_pos (show (24 : Int32) ≤ nI 24 by decide)]
    rfl
  | succ j ih =>
    intro i fuel hi hf
    obtain ⟨f, rfl⟩ : ∃ f, fuel = f + 1 := ⟨fuel - 1, by omega⟩
    have hi' : i < 24 := by omega
    rw [mX11_paceOf_b35, if_neg (show ¬ (24 : Int32) ≤ nI i from nI_ge hi' (by decide)), zz_ck_of (zq_k i hi' (by decide)), nI_clamp (by omega), hg i hi', zz_nm_s, nI_1, ih (i + 1) f (by omega) (by omega)]
    conv => rhs; unfold f_ff
    by_cases c : g i = 0
    · rw [if_pos c, if_pos ((lg_cmp_eq _ _).mpr c)]
    · rw [if_neg c, if_neg (fun q => c ((lg_cmp_eq _ _).mp q))]
theorem f_tot_pd (d : zD) (f : Nat → Int32) : ∀ m, f_tot (d_wpd d f) m = f_tot d m :=
  f_tot_cgA (d := d) (d' := d_wpd d f) rfl rfl rfl rfl rfl rfl rfl rfl rfl rfl rfl rfl (fun m => f_damBy_cg (d := d) (d' := d_wpd d f) rfl rfl rfl rfl Iff.rfl _ m)
theorem f_ripe_pd (d : zD) (f : Nat → Int32) (m : Nat) : f_ripe (d_wpd d f) m = f_ripe d m := by
  unfold f_ripe
  rw [f_tot_pd]
  rfl
theorem f_owed_pd (d : zD) {f : Nat → Int32} {P : Nat → Int64} (h : ∀ k, k < 24 → (f k).toInt64 = P k) {m : Nat} (hm : m < 24) : f_owed (d_wpd d f) m = f_owedP d P m := by
  have e : f_paid (d_wpd d f) m = f_paidP P m := f_acc_cg 0 (m + 1) (fun i hi => h i (by omega))
  unfold f_owed f_owedP
  rw [f_ripe_pd, e]
theorem f_int_pd (d : zD) {f : Nat → Int32} {P : Nat → Int64} (h : ∀ k, k < 24 → (f k).toInt64 = P k) {m : Nat} (hm : m < 24) : f_int (d_wpd d f) m = f_intP d P m := by
  unfold f_int f_intP
  rw [f_owed_pd d h hm]
  rfl
/-- what paceOf leaves -/
def zPc (d : zD) (P : Nat → Int64) (t t1 : zz_M) : Prop := t1.2.2 = t.2.2 ∧ (∀ q, q ≠ 19 → t1.1 q = t.1 q) ∧ (∀ q, q ≠ 17 → q ≠ 18 → t1.2.1 q = t.2.1 q) ∧ ∀ j, j < 24 → t1.2.1 18 j = f_intP d P j
theorem zr_paceOf {t : zz_M} {d : zD} (hd : dz t = d) (hI : zInv d) (ht : ∀ j, j < 24 → t.2.1 16 j = f_tot d j) {m : Nat} (hm : m < 24) {v : Int32} (hv : ∃ k : Nat, k < 1000000 ∧ v = nI k) : ∃ t1, mX11_paceOf (nI m) v t = some (f_ff (fun k => f_owedP d (f_pp d m v) k = 0) (24 - m) m, t1) ∧ zPc d (f_pp d m v) t t1 := by
  obtain ⟨t1, x1, y1, y2, y3⟩ := zr_layPaid_b2 (t := t) 24 0 zz_N t (by omega) (by unfold zz_N; omega) ⟨rfl, fun _ _ => rfl, fun j hj => absurd hj (Nat.not_lt_zero j)⟩
  obtain ⟨t2, x2, p1, p2, p3⟩ := zr_paceOf_b6 (m := m) (v := v) (t := t1) (24 - m) m zz_N t1 (by omega) (Nat.le_refl _) (by unfold zz_N; omega) ⟨rfl, fun _ _ => rfl, fun j => by rw [if_neg (by omega)]⟩
  have e8 : ∀ j, t2.1 8 j = if m ≤ j ∧ j < 24 then v else d_pd d j := by
    intro j
    rw [p3 j, y2 8 (by omega), ← hd]
    rfl
  have hd2 : dz t2 = d_wpd d (t2.1 8) := by
    rw [← hd]
    unfold dz d_wpd
    simp only [p1, y1]
    rw [p2 1 (by omega), p2 2 (by omega), p2 3 (by omega), p2 4 (by omega), p2 5 (by omega), p2 6 (by omega), p2 7 (by omega), y2 1 (by omega), y2 2 (by omega), y2 3 (by omega), y2 4 (by omega), y2 5 (by omega), y2 6 (by omega), y2 7 (by omega)]
  have hI2 : zInv (dz t2) := by
    rw [hd2]
    refine zInv_pd hI (fun j hj => ?_)
    rw [e8 j]
    by_cases c : m ≤ j ∧ j < 24
    · rw [if_pos c]; exact hv
    · rw [if_neg c]; exact hI.2.2.2.2.2.2.2.2.2.2.2 j hj
  have hPP : ∀ k, k < 24 → (t2.1 8 k).toInt64 = f_pp d m v k := by
    intro k hk
    rw [e8 k]
    show _ = (if k < m then d_pd d k else v).toInt64
    by_cases c : k < m
    · rw [if_pos c, if_neg (by omega)]
    · rw [if_neg c, if_pos (by omega)]
  obtain ⟨t3, x3, w1, w2, w3, w4⟩ := zr_layOwed t2 hI2 (fun j hj => by rw [hd2, f_tot_pd, p1, y1]; exact ht j hj)
  obtain ⟨t4, x4, r1, r2, r3⟩ := zr_paidAgain_b2 (t := t3) 24 0 zz_N t3 (by omega) (by unfold zz_N; omega) ⟨rfl, fun _ _ => rfl, fun j => by rw [if_neg (by omega)]⟩
  have h17 : ∀ j, j < 24 → t4.2.1 17 j = f_owedP d (f_pp d m v) j := fun j hj => by rw [r1, (w4 j hj).1, hd2, f_owed_pd d hPP hj]
  have x5 := zr_paceOf_b35 h17 (24 - m) m zz_N (by omega) (by unfold zz_N; omega)
  refine ⟨t4, ?_, ?_, fun q hq => ?_, fun q q1 q2 => ?_, fun j hj => ?_⟩
  · unfold mX11_paceOf
    have x1' : mX11_layPaid t = some ((), t1) := x1
    have x4' : mX11_paidAgain t3 = some ((), t4) := x4
    rw [x1', zz_b2_s, x2, x3, zz_b2_s, x4', zz_b2_s, x5]
  · rw [r1, w2, p1, y1]
  · by_cases c : q = 8
    · subst c
      funext j
      rw [r3 j, w1]
      by_cases c2 : j < 24
      · rw [if_pos c2, p2 19 (by omega), y3 j c2]
      · rw [if_neg c2, e8 j, if_neg (by omega), ← hd]
        rfl
    · rw [r2 q c, w1, p2 q c, y2 q hq]
  · rw [r1, w3 q ⟨q1, q2⟩, p1, y1]
  · rw [r1, (w4 j hj).2, hd2, f_int_pd d hPP hj]
theorem zPc.r {s t t1 : zz_M} {d : zD} {P : Nat → Int64} (k : zPc d P t t1) (h : zR s t) : zR s t1 := zR_f h rfl rfl (fun _ _ => rfl) (fun q hq => k.2.1 q (by omega)) (fun q _ => by rw [k.1]) (k.2.2.1 10 (by omega) (by omega))
theorem zc_paces_b27 {s : zz_M} {d : zD} {P : Nat → Int64} (F : zFg 64 d P s) : ∀ (j i fuel : Nat), i + j = 24 → j < fuel → mX10_paces_b27 fuel (nI i) s = if f_ff (fun k => f_owedP d P k = 0) j i = -1 then some (-2, s) else zz_b2 (mX5_start (f_intTillP d P 23) s) (fun r8 z10 => some (f_ff (fun k => f_owedP d P k = 0) j i, z10)) := by
  intro j
  induction j with
  | zero =>
    intro i fuel hi hf
    obtain ⟨f, rfl⟩ : ∃ f, fuel = f + 1 := ⟨fuel - 1, by omega⟩
    have : i = 24 := by omega
    subst this
    rw [mX10_paces_b27, if_pos (show (24 : Int32) ≤ nI 24 by decide), if_pos (show f_ff (fun k => f_owedP d P k = 0) 0 24 = -1 from rfl)]
  | succ j ih =>
    intro i fuel hi hf
    obtain ⟨f, rfl⟩ : ∃ f, fuel = f + 1 := ⟨fuel - 1, by omega⟩
    have hi' : i < 24 := by omega
    have e9 := F.of 9 (by omega) hi'
    have e11 := F.of 11 (by omega) (m := 23) (by omega)
    rw [show nI 23 = (23 : Int32) from rfl, show f_fig d P 11 23 = f_intTillP d P 23 from rfl] at e11
    rw [show f_fig d P 9 i = f_owedP d P i from rfl] at e9
    rw [mX10_paces_b27, if_neg (show ¬ (24 : Int32) ≤ nI i from nI_ge hi' (by decide)), show (9 : Int32) = OfNat.ofNat 9 from rfl, e9, zz_b1_s, show (11 : Int32) = OfNat.ofNat 11 from rfl, e11, zz_b1_s, zz_nm_s, nI_1, ih (i + 1) f (by omega) (by omega)]
    by_cases c : f_owedP d P i = 0
    · have e : f_ff (fun k => f_owedP d P k = 0) (j + 1) i = nI i := by unfold f_ff; rw [if_pos c]
      rw [e, if_pos ((lg_cmp_eq _ _).mpr c), if_neg (nI_not1 (by omega))]
    · have e : f_ff (fun k => f_owedP d P k = 0) (j + 1) i = f_ff (fun k => f_owedP d P k = 0) j (i + 1) := by conv => lhs; unfold f_ff; rw [if_neg c]
      rw [e, if_neg (fun q => c ((lg_cmp_eq _ _).mp q))]
theorem B_paces {s t : zz_M} (h : zR s t) (x v : Int32) : zOk (mX10_paces x v s) (mX11_paces x v t) := by
  have h0 := zR_thr h 0
  unfold mX10_paces mX11_paces mX10_paces_b17 mX11_paces_b24
  rw [zz_nm_s]
  generalize zz_sF t 19 0 = t0 at h0 ⊢
  rw [zc_isMonth, zr_isMonth, zz_b1_s, zz_b1_s, zc_isWithin, zr_in32, zz_b1_s, zz_b1_s]
  refine zOk_tst Iff.rfl (fun c => ?_) (fun c => zOk_ret h0)
  refine zOk_tst Iff.rfl (fun cv => ?_) (fun c => zOk_ret h0)
  obtain ⟨m, hm, rfl⟩ := zq_month c
  have hv : ∃ k : Nat, k < 1000000 ∧ v = nI k := by
    have c1 : 1 ≤ v.toInt ∧ v.toInt ≤ 999999 := cv
    obtain ⟨k, hk, e⟩ := zq_of_in (n := 1000000) (x := v) (by omega) (by omega) (by decide)
    exact ⟨k, hk, e⟩
  obtain ⟨t1, x1, Y⟩ := zr_layMonths t0 h0.2.1
  have hd : dz t1 = dz t0 := dz_eq Y.1 Y.2.1
  have h1 : zR s t1 := zR_ly h0 Y
  obtain ⟨t2, x2, k2⟩ := zr_paceOf hd h0.2.1 (fun j hj => (Y.2.2.2 j hj).2.2.2.2.1) hm hv
  have h2 := k2.r h1
  obtain ⟨s2, a2, c1, c2, c3, F⟩ := zc_payFrom h0.1 h0.2.1 hm v
  have h3 : zR s2 t2 := zR_f h2 c1 (by rw [c2]) (fun q hq => c3 q (by omega)) (fun _ _ => rfl) (fun _ _ => rfl) rfl
  rw [x1, zz_b2_s, x2, zz_b2_s, a2, zz_b2_s, zc_paces_b27 F (24 - m) m zz_N (by omega) (by unfold zz_N; omega)]
  refine zOk_if Iff.rfl (fun _ => zOk_ret h3) (fun _ => ?_)
  obtain ⟨s4, a4, b4⟩ := zc_start s2 (f_intTillP (dz t0) (f_pp (dz t0) m v) 23)
  have q0 := zr_row0 t2
  obtain ⟨t4, x4, y4⟩ := zr_tell q0 (by simp) (f_intTillP (dz t0) (f_pp (dz t0) m v) 23)
  have eI := zr_interestAll (zz_sF t2 18 0) (g := fun j => f_intP (dz t0) (f_pp (dz t0) m v) j) (fun j hj => k2.2.2.2 j hj)
  rw [show f_acc (fun j => f_intP (dz t0) (f_pp (dz t0) m v) j) 0 24 = f_intTillP (dz t0) (f_pp (dz t0) m v) 23 from rfl] at eI
  rw [a4, zz_b2_s, zz_nm_s, eI, zz_b1_s, x4, zz_b2_s]
  exact zOk_ret (zR_row h3 b4 y4 (by simp))
