/-! ===== account, overdue, count, end ===== -/
theorem zr_interestTill_b5 (z : zz_M) {g : Nat → Int64} (hg : ∀ j, j < 24 → z.2.1 18 j = g j) {m : Nat} (hm : m < 24) : ∀ (j i fuel : Nat), i + j = m + 1 → j < fuel → mX11_interestTill_b5 z fuel (nI m) (f_acc g 0 i) (nI i) = some (f_acc g 0 (m + 1)) := by
  intro j
  induction j with
  | zero =>
    intro i fuel hi hf
    obtain ⟨f, rfl⟩ : ∃ f, fuel = f + 1 := ⟨fuel - 1, by omega⟩
    have : i = m + 1 := by omega
    subst this
    unfold mX11_interestTill_b5
    rw [if_pos (show nI m < nI (m + 1) by rw [Int32.lt_iff_toInt_lt, nI_toInt (by omega), nI_toInt (by omega)]; omega)]
  | succ j ih =>
    intro i fuel hi hf
    obtain ⟨f, rfl⟩ : ∃ f, fuel = f + 1 := ⟨fuel - 1, by omega⟩
    unfold mX11_interestTill_b5
    rw [if_neg (show ¬ nI m < nI i by rw [Int32.lt_iff_toInt_lt, nI_toInt (by omega), nI_toInt (by omega)]; omega), zz_ck_of (zq_k i (show i < 24 by omega) (by decide)), zz_nm_s, zz_nm_s, nI_clamp (by omega), hg i (by omega), nI_1]
    exact ih (i + 1) f (by omega) (by omega)
theorem zr_interestTill (z : zz_M) {g : Nat → Int64} (hg : ∀ j, j < 24 → z.2.1 18 j = g j) {m : Nat} (hm : m < 24) : mX11_interestTill (nI m) z = some (f_acc g 0 (m + 1)) := by
  have := zr_interestTill_b5 z hg hm (m + 1) 0 zz_N (by omega) (by unfold zz_N; omega)
  unfold mX11_interestTill
  exact this
theorem zr_interestAll (z : zz_M) {g : Nat → Int64} (hg : ∀ j, j < 24 → z.2.1 18 j = g j) : mX11_interestAll z = some (f_acc g 0 24) := by
  unfold mX11_interestAll
  rw [show (23 : Int32) = nI 23 from rfl, zr_interestTill z hg (by omega), zz_b1_s]
theorem f_intTillP_eq (d : zD) (m : Nat) : f_intTillP d (fun k => (d_pd d k).toInt64) m = f_acc (fun k => f_int d k) 0 (m + 1) := rfl
theorem B_account {s t : zz_M} (h : zR s t) : zOk (mX10_account s) (mX11_account t) := by
  have h0 := zR_thr h 0
  unfold mX10_account mX11_account
  rw [zz_nm_s]
  generalize zz_sF t 19 0 = t0 at h0 ⊢
  obtain ⟨k, hk, ek⟩ := h0.2.1.2.2.2.2.1
  have ek' : t0.2.2.1 10 = nI k := ek
  rw [h0.1.1.2.2.2.2.2.2.1, ek, ek', zc_isMonth, zz_b1_s, zz_ti]
  by_cases c : k = 24
  · subst c
    rw [if_neg (show ¬ (0 ≤ (nI 24).toInt ∧ (nI 24).toInt ≤ 23) by decide), if_pos (show nI 24 = (24 : Int32) from rfl)]
    exact zOk_ret h0
  · have hk' : k < 24 := by omega
    rw [if_pos (show 0 ≤ (nI k).toInt ∧ (nI k).toInt ≤ 23 by rw [nI_toInt (by omega)]; omega), if_neg (show ¬ nI k = (24 : Int32) from fun e => c (by have := congrArg Int32.toInt e; rw [nI_toInt (by omega)] at this; have e2 : (24 : Int32).toInt = 24 := rfl; omega))]
    obtain ⟨s0, t1, A1, X1, h1, K, Y, hd⟩ := zR_both h0 (ff := 64) (Or.inl rfl)
    rw [A1, X1, zz_b2_s, zz_b2_s, zz_nm_s]
    have hI := h0.2.1
    have hI1 : zInv (dz t1) := h1.2.1
    have et : ∀ {L : List Int64} {u : zz_M}, zTr t1 u L → u.2.2.1 10 = nI k := fun y => by rw [y.2.2.2.1 10 (by omega), Y.2.1]; exact ek
    generalize hD : dz t0 = d at *
    have F := K.fg
    have v64 : (64 : Nat) = 64 ∨ (64 : Nat) = 81 := Or.inl rfl
    obtain ⟨s1, a1, b1⟩ := zc_start s0 (f_work d k)
    obtain ⟨s2, a2, b2⟩ := zc_then b1 (by simp) (f_set d k)
    obtain ⟨s3, a3, b3⟩ := zc_then b2 (by simp) (f_paid d k)
    obtain ⟨s4, a4, b4⟩ := zc_then b3 (by simp) (f_tot d k - f_paid d k)
    obtain ⟨s5, a5, b5⟩ := zc_then b4 (by simp) (f_acc (fun k => f_int d k) 0 (k + 1))
    have q0 := zr_row0 t1
    obtain ⟨u1, x1, y1⟩ := zr_tell q0 (by simp) (f_work d k)
    obtain ⟨u2, x2, y2⟩ := zr_tell y1 (by simp) (f_set d k)
    obtain ⟨u3, x3, y3⟩ := zr_tell y2 (by simp) (f_paid d k)
    obtain ⟨u4, x4, y4⟩ := zr_tell y3 (by simp) (f_tot d k - f_paid d k)
    obtain ⟨u5, x5, y5⟩ := zr_tell y4 (by simp) (f_acc (fun k => f_int d k) 0 (k + 1))
    rw [F.of 12 (by omega) hk', zz_b1_s, show f_fig d (fun k => (d_pd d k).toInt64) 12 k = f_paid d k from rfl, F.of 0 (by omega) hk', zz_b1_s, show f_fig d (fun k => (d_pd d k).toInt64) 0 k = f_work d k from rfl, a1, zz_b2_s, (F.row v64 b1).of 5 (by omega) hk', zz_b1_s, show f_fig d (fun k => (d_pd d k).toInt64) 5 k = f_set d k from rfl, a2, zz_b2_s, a3, zz_b2_s, (F.row v64 b3).of 8 (by omega) hk', zz_b1_s, show f_fig d (fun k => (d_pd d k).toInt64) 8 k = f_tot d k from rfl, a4, zz_b2_s, (F.row v64 b4).of 11 (by omega) hk', zz_b1_s, show f_fig d (fun k => (d_pd d k).toInt64) 11 k = f_acc (fun k => f_int d k) 0 (k + 1) from rfl, a5, zz_b2_s]
    have g4 : ∀ j, j < 24 → u4.2.1 18 j = f_int d j := fun j hj => by rw [y4.2.2.1 18 (by omega), (Y.2.2.2 j hj).2.2.2.2.2.2, hD]
    have g3 : u3.2.1 16 k = f_tot d k := by rw [y3.2.2.1 16 (by omega), (Y.2.2.2 k hk').2.2.2.2.1, hD]
    rw [et q0, zr_workIn _ (q0.i hI1) hk', zz_b1_s, q0.d, hd, x1, zz_b2_s, et y1, zr_setIn _ (y1.i hI1), zz_b1_s, y1.d, hd, x2, zz_b2_s, et y2, zr_paidTill _ hk', zz_b1_s, y2.d, hd, x3, zz_b2_s, et y3, zz_ck_of (zq_k k hk' (by decide)), zr_paidTill _ hk', zz_b1_s, y3.d, hd, nI_clamp (by omega), g3, x4, zz_b2_s, et y4, zr_interestTill _ g4 hk', zz_b1_s, x5, zz_b2_s]
    exact zOk_ret (zR_row h1 b5 y5 (by simp))
theorem B_end {s t : zz_M} (h : zR s t) (x : Int32) : zOk (mX10_end x s) (mX11_end x t) := by
  have h0 := zR_thr h 0
  unfold mX10_end mX11_end mX9_cutTo mX9_cutTo_b12
  simp only [zz_nm_s]
  generalize zz_sF t 19 0 = t0 at h0 ⊢
  obtain ⟨hC, hI, ⟨n, hn, e1, e2, e3⟩, hW⟩ := id h0
  rw [zr_in32, zz_b1_s, zz_ti, zl_wide, e1, e2, nI_toInt (by omega)]
  have z0 : (0 : Int32).toInt = 0 := rfl
  have z1 : (0 : Int64).toInt = 0 := rfl
  by_cases c1 : x < 0
  · rw [if_pos c1, zz_b2_s, zz_ck_of (Or.inl rfl), if_neg (by rw [Int32.lt_iff_toInt_lt] at c1; omega)]
    exact zOk_ret h0
  · rw [if_neg c1]
    rw [Int32.lt_iff_toInt_lt] at c1
    by_cases c2 : x ≤ nI n
    · rw [if_pos c2, zz_b2_s, zz_ck_of (Or.inr rfl), if_pos (by rw [Int32.le_iff_toInt_le, nI_toInt (by omega)] at c2; omega)]
      rw [Int32.le_iff_toInt_le, nI_toInt (by omega)] at c2
      obtain ⟨k, hk, rfl⟩ := zq_toNat (n := n) (x := x) (by omega) c2 (by omega)
      refine zOk_ret ⟨zC_fr hC (fun _ _ => rfl) (fun q h1 h2 => va_up_ne _ _ (by omega)) rfl, hI, ⟨k, by omega, rfl, rfl, fun j hj => e3 j (by omega)⟩, zRw_eq hW rfl rfl rfl rfl⟩
    · rw [if_neg c2, zz_b2_s, zz_ck_of (Or.inl rfl), if_neg (by rw [Int32.le_iff_toInt_le, nI_toInt (by omega)] at c2; omega)]
      exact zOk_ret h0
def f_dn (p : Nat → Prop) [DecidablePred p] : Nat → Int32 → Int32
  | 0, v => v
  | i + 1, v => f_dn p i (if p i then nI i else v)
theorem f_dn_cg {p q : Nat → Prop} [DecidablePred p] [DecidablePred q] (h : ∀ i, p i ↔ q i) : ∀ (i : Nat) (v : Int32), f_dn p i v = f_dn q i v := by
  intro i
  induction i with
  | zero => intro v; rfl
  | succ i ih =>
    intro v
    unfold f_dn
    by_cases c : p i
    · rw [if_pos c, if_pos ((h i).mp c)]; exact ih _
    · rw [if_neg c, if_neg (fun w => c ((h i).mpr w))]; exact ih _
theorem f_dn_no {p : Nat → Prop} [DecidablePred p] (h : ∀ i, ¬ p i) : ∀ (i : Nat) (v : Int32), f_dn p i v = v := by
  intro i
  induction i with
  | zero => intro v; rfl
  | succ i ih =>
    intro v
    unfold f_dn
    rw [if_neg (h i)]
    exact ih _
theorem nI_neg1 : nI 0 + (-1 : Int32) = -1 := by decide
theorem nI_nn {i : Nat} (h : i < 2 ^ 31) : ¬ nI i < (0 : Int32) := by
  rw [Int32.lt_iff_toInt_lt, nI_toInt h]
  have : (0 : Int32).toInt = 0 := rfl
  omega
theorem zc_overdue_b29 {s : zz_M} {d : zD} (h : zC0 s d) (hI : zInv d) {most : Int64} (hm : 0 < most) : ∀ (i fuel : Nat) (v : Int32), i ≤ 24 → i < fuel → mX10_overdue_b29 fuel v most (nI i + (-1 : Int32)) s = mX10_overdue_b63 (f_dn (fun m => f_dam d m = most) i v) s := by
  have hc : ¬ lg_cmp most 0 ≤ 0 := by
    rw [lg_cmp_le]
    exact zl_nle.mpr hm
  intro i
  induction i with
  | zero =>
    intro fuel v _ hf
    obtain ⟨f, rfl⟩ : ∃ f, fuel = f + 1 := ⟨fuel - 1, by omega⟩
    unfold mX10_overdue_b29
    rw [nI_neg1, if_pos (show (-1 : Int32) < 0 by decide)]
    rfl
  | succ i ih =>
    intro fuel v hi hf
    obtain ⟨f, rfl⟩ : ∃ f, fuel = f + 1 := ⟨fuel - 1, by omega⟩
    unfold mX10_overdue_b29 mX10_overdue_b57
    rw [zq_pred, if_neg (nI_nn (by omega)), if_neg hc, zc_damages h hI (by omega), zz_b1_s, zz_nm_s, zz_nm_s, ih f _ (by omega) (by omega), ih f _ (by omega) (by omega)]
    conv => rhs; unfold f_dn
    by_cases c : f_dam d i = most
    · rw [if_pos c, if_pos ((lg_cmp_eq _ _).mpr c)]
    · rw [if_neg c, if_neg (fun q => c ((lg_cmp_eq _ _).mp q))]
/-- how many months from i on lie behind B and not behind M -/
def f_cnt (B M i : Nat) : Nat := (M + 1) - (if i < B + 1 then B + 1 else i)
theorem zr_overdue_b24 (z : zz_M) (hI : zInv (dz z)) {B H : Nat} (hB : B < 1000) (hH : H ≤ 24) (eB : z.2.2.1 11 + z.2.2.1 12 = nI B) (eH : z.2.2.1 9 = nI H) : ∀ (i fuel : Nat) (v : Int32), i ≤ 24 → i < fuel → ∃ f, mX11_overdue_b24 fuel (nI (f_cnt B (if H < 23 then H else 23) i)) v (nI i + (-1 : Int32)) z = mX11_overdue_b24 (f + 1) (nI (f_cnt B (if H < 23 then H else 23) 0)) (f_dn (fun m => f_dam (dz z) m = f_most (dz z) ∧ 0 < f_dam (dz z) m) i v) (-1) z := by
  intro i
  induction i with
  | zero =>
    intro fuel v _ hf
    obtain ⟨f, rfl⟩ : ∃ f, fuel = f + 1 := ⟨fuel - 1, by omega⟩
    exact ⟨f, by rw [nI_neg1]; rfl⟩
  | succ i ih =>
    intro fuel v hi hf
    obtain ⟨f, rfl⟩ : ∃ f, fuel = f + 1 := ⟨fuel - 1, by omega⟩
    obtain ⟨f2, e2⟩ := ih f (if f_dam (dz z) i = f_most (dz z) ∧ 0 < f_dam (dz z) i then nI i else v) (by omega) (by omega)
    refine ⟨f2, ?_⟩
    have key : ∀ c : Int32, ∀ a : Int32, a + c = nI (f_cnt B (if H < 23 then H else 23) i) → mX11_overdue_b55 (mX11_overdue_b24 f) v (nI i) c a z = mX11_overdue_b24 (f2 + 1) (nI (f_cnt B (if H < 23 then H else 23) 0)) (f_dn (fun m => f_dam (dz z) m = f_most (dz z) ∧ 0 < f_dam (dz z) m) (i + 1) v) (-1) z := by
      intro c a hca
      unfold mX11_overdue_b55 mX11_overdue_b82
      rw [zz_nm_s, zr_damagesIn z hI, zz_b1_s, zr_mostDamages z hI, zz_b1_s, zz_b1_s, zz_nm_s, zz_nm_s, hca]
      conv => rhs; unfold f_dn
      rw [← e2]
      by_cases c1 : f_dam (dz z) i = f_most (dz z)
      · rw [if_pos ((lg_cmp_eq _ _).mpr c1)]
        by_cases c2 : 0 < f_dam (dz z) i
        · rw [if_neg (show ¬ lg_cmp (f_dam (dz z) i) 0 ≤ 0 by rw [lg_cmp_le]; exact zl_nle.mpr c2), if_pos (show f_dam (dz z) i = f_most (dz z) ∧ 0 < f_dam (dz z) i from ⟨c1, c2⟩)]
        · rw [if_pos (show lg_cmp (f_dam (dz z) i) 0 ≤ 0 by rw [lg_cmp_le]; exact zl_nlt.mp c2), if_neg (show ¬ (f_dam (dz z) i = f_most (dz z) ∧ 0 < f_dam (dz z) i) from fun q => c2 q.2)]
      · rw [if_neg (fun q => c1 ((lg_cmp_eq _ _).mp q)), if_neg (show ¬ (f_dam (dz z) i = f_most (dz z) ∧ 0 < f_dam (dz z) i) from fun q => c1 q.1)]
    conv => lhs; unfold mX11_overdue_b24 mX11_overdue_b54
    rw [zq_pred, if_neg (nI_nn (by omega)), eB, eH]
    have ei : (nI i).toInt = i := nI_toInt (by omega)
    have eBi : (nI B).toInt = B := nI_toInt (by omega)
    have eHi : (nI H).toInt = H := nI_toInt (by omega)
    by_cases c1 : nI i ≤ nI B
    · rw [if_pos c1]
      rw [Int32.le_iff_toInt_le, ei, eBi] at c1
      refine key _ _ ?_
      rw [show ∀ a : Int32, a + 0 = a from fun a => by simp]
      congr 1
      unfold f_cnt
      rw [if_pos (show i < B + 1 by omega)]
      by_cases c3 : i + 1 < B + 1
      · rw [if_pos c3]
      · rw [if_neg c3]; congr 1; omega
    · rw [if_neg c1]
      rw [Int32.le_iff_toInt_le, ei, eBi] at c1
      by_cases c2 : nI H < nI i
      · rw [if_pos c2]
        rw [Int32.lt_iff_toInt_lt, ei, eHi] at c2
        refine key _ _ ?_
        rw [show ∀ a : Int32, a + 0 = a from fun a => by simp]
        congr 1
        unfold f_cnt
        rw [if_neg (show ¬ i < B + 1 by omega), if_neg (show ¬ i + 1 < B + 1 by omega), if_pos (show H < 23 by omega)]
        omega
      · rw [if_neg c2]
        rw [Int32.lt_iff_toInt_lt, ei, eHi] at c2
        refine key _ _ ?_
        rw [nI_1]
        congr 1
        unfold f_cnt
        rw [if_neg (show ¬ i < B + 1 by omega), if_neg (show ¬ i + 1 < B + 1 by omega)]
        by_cases c3 : H < 23
        · rw [if_pos c3]; omega
        · rw [if_neg c3]; omega
theorem f_late_cnt {d : zD} {B H : Nat} (hB : B < 1000) (hH : H ≤ 24) (eB : d_du d + d_gr d = nI B) (eH : d_ho d = nI H) : f_late d (d_du d + d_gr d) 23 = nI (f_cnt B (if H < 23 then H else 23) 0) := by
  unfold f_late f_cnt
  rw [eB, eH, if_pos (show 0 < B + 1 by omega)]
  have e0 : (0 : Int32).toInt = 0 := rfl
  have eBi : (nI B).toInt = B := nI_toInt (by omega)
  have eM : (if nI H < nI 23 then nI H else nI 23) = nI (if H < 23 then H else 23) := by
    by_cases c : H < 23
    · rw [if_pos c, if_pos (show nI H < nI 23 by rw [Int32.lt_iff_toInt_lt, nI_toInt (by omega), nI_toInt (by omega)]; omega)]
    · rw [if_neg c, if_neg (show ¬ nI H < nI 23 by rw [Int32.lt_iff_toInt_lt, nI_toInt (by omega), nI_toInt (by omega)]; omega)]
  rw [eM]
  generalize hM : (if H < 23 then H else 23) = M
  have hM24 : M ≤ 24 := by rw [← hM]; split <;> omega
  have eMi : (nI M).toInt = M := nI_toInt (by omega)
  have es : (nI M - nI B).toInt = (M : Int) - B := by rw [zi_sub (by omega) (by omega), eMi, eBi]
  by_cases c : B < M
  · rw [if_pos (show (0 : Int32) < nI M - nI B by rw [Int32.lt_iff_toInt_lt, es]; omega), zq_sub (by omega)]
    congr 1
    omega
  · rw [if_neg (show ¬ (0 : Int32) < nI M - nI B by rw [Int32.lt_iff_toInt_lt, es]; omega), show M + 1 - (B + 1) = 0 by omega]
    rfl
theorem f_dam_le {d : zD} (m : Nat) (h0 : 0 ≤ (f_most d).toInt) : (f_dam d m).toInt ≤ (f_most d).toInt := by
  unfold f_dam f_damBy
  by_cases c : d_du d = 24
  · rw [if_pos c]; exact h0
  · rw [if_neg c]
    by_cases c2 : (f_late d (d_du d + d_gr d) m).toInt64 * f_th (f_sum d) (d_tm d 11) < f_most d
    · rw [if_pos c2]
      have := Int64.lt_iff_toInt_lt.mp c2
      omega
    · rw [if_neg c2]
      exact Int.le_refl _
theorem B_overdue {s t : zz_M} (h : zR s t) : zOk (mX10_overdue s) (mX11_overdue t) := by
  have h0 := zR_thr h 0
  unfold mX10_overdue mX11_overdue
  rw [zz_nm_s]
  generalize zz_sF t 19 0 = t0 at h0 ⊢
  obtain ⟨hC, hI, hT, hW⟩ := id h0
  obtain ⟨H, hH, eH⟩ := hI.2.2.2.1
  obtain ⟨u, hu, eu⟩ := hI.2.2.2.2.2.1
  obtain ⟨g, hg, eg⟩ := hI.2.2.2.2.2.2.1
  have eB : d_du (dz t0) + d_gr (dz t0) = nI (u + g) := by rw [eu, eg, nI_add]
  refine zOk_if (by rw [hC.1.2.2.2.2.2.2.2.1]; exact Iff.rfl) (fun _ => zOk_ret h0) (fun _ => ?_)
  rw [zc_mostDamages hC.1, zz_b1_s]
  obtain ⟨f, ef⟩ := zr_overdue_b24 t0 hI (B := u + g) (H := H) (by omega) hH eB eH 24 zz_N (-1) (Nat.le_refl _) (by unfold zz_N; omega)
  have e24 : f_cnt (u + g) (if H < 23 then H else 23) 24 = 0 := by
    unfold f_cnt
    split <;> split <;> omega
  rw [e24, nI_0, show nI 24 + (-1 : Int32) = 23 by decide] at ef
  rw [ef]
  unfold mX11_overdue_b24
  rw [if_pos (show (-1 : Int32) < 0 by decide), zz_nm_s]
  have hb := f_most_bd hI
  have hx : mX10_overdue_b29 zz_N (-1) (f_most (dz t0)) 23 s = mX10_overdue_b63 (f_dn (fun m => f_dam (dz t0) m = f_most (dz t0) ∧ 0 < f_dam (dz t0) m) 24 (-1)) s := by
    by_cases c : 0 < f_most (dz t0)
    · have e1 := zc_overdue_b29 hC.1 hI c 24 zz_N (-1) (Nat.le_refl _) (by unfold zz_N; omega)
      rw [show nI 24 + (-1 : Int32) = 23 by decide] at e1
      rw [e1]
      congr 1
      exact f_dn_cg (fun i => ⟨fun q => ⟨q, by rw [q]; exact c⟩, fun q => q.1⟩) 24 (-1)
    · rw [f_dn_no (fun i q => c (by rw [← q.1]; exact q.2)) 24 (-1)]
      unfold zz_N mX10_overdue_b29
      rw [if_neg (show ¬ (23 : Int32) < 0 by decide), if_pos (show lg_cmp (f_most (dz t0)) 0 ≤ 0 by rw [lg_cmp_le]; exact zl_nlt.mp c)]
  rw [hx]
  generalize f_dn (fun m => f_dam (dz t0) m = f_most (dz t0) ∧ 0 < f_dam (dz t0) m) 24 (-1) = v
  unfold mX10_overdue_b63
  obtain ⟨s1, a1, b1⟩ := zc_start s (f_dam (dz t0) 23)
  obtain ⟨s2, a2, b2⟩ := zc_then b1 (by simp) v.toInt64
  have q0 := zr_row0 t0
  obtain ⟨t1, x1, y1⟩ := zr_tell q0 (by simp) (f_dam (dz t0) 23)
  obtain ⟨t2, x2, y2⟩ := zr_tell y1 (by simp) v.toInt64
  rw [show (23 : Int32) = nI 23 from rfl, zc_damages hC.1 hI (by omega), zz_b1_s, a1, zz_b2_s, a2, zz_b2_s, zc_late (b2.c0 hC.1) 23, zz_b1_s, zr_damagesIn _ (q0.i hI), zz_b1_s, q0.d, x1, zz_b2_s, x2, zz_b2_s]
  exact zOk_rete (f_late_cnt (by omega) hH eB eH) (zR_row h0 b2 y2 (by simp))
