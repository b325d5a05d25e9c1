/-! ===== what is reckoned: lines, recovered, limited, reaches, worst, account ===== -/
theorem zR_f {s s1 t t1 : zz_M} (h : zR s t) (a1 : s1.1 = s.1) (a2 : s1.2.2.1 = s.2.2.1) (a3 : ∀ q, q < 64 ∨ 98 < q → s1.2.1 q = s.2.1 q) (b1 : ∀ q, q ≤ 9 → t1.1 q = t.1 q) (b2 : ∀ q, q ≤ 18 → t1.2.2.1 q = t.2.2.1 q) (b3 : t1.2.1 10 = t.2.1 10) : zR s1 t1 := by
  obtain ⟨hC, hI, hT, hW⟩ := h
  have hd : dz t1 = dz t := dz_cg (fun q hq => b1 q (by omega)) (fun q hq => b2 q (by omega))
  refine ⟨?_, by rw [hd]; exact hI, zTx_eq hT (by rw [a2]) (by rw [a1]) (b2 16 (by omega)) (b1 9 (by omega)), zRw_eq hW (by rw [a2]) (a3 100 (by omega)) (b2 18 (by omega)) b3⟩
  rw [hd]
  exact zC_fr hC (fun q _ => by rw [a1]) (fun q _ _ => by rw [a2]) (a3 63 (by omega))
theorem zR_rk {s s1 t : zz_M} (h : zR s t) {ff : Nat} (hff : ff = 64 ∨ ff = 81) {d : zD} {P : Nat → Int64} (k : zRk ff d P s s1) : zR s1 t := zR_f h k.1 (by rw [k.2.1]) (fun q hq => k.2.2.1 q (by rcases hff with e | e <;> subst e <;> omega)) (fun _ _ => rfl) (fun _ _ => rfl) rfl
theorem zR_ly {s t t1 : zz_M} (h : zR s t) (k : zLay t t1) : zR s t1 := zR_f h rfl rfl (fun _ _ => rfl) (fun _ _ => by rw [k.1]) (fun _ _ => by rw [k.2.1]) (k.2.2.1 10 (by omega))
/-- the figures lie in the rows of a family -/
def zFg (ff : Nat) (d : zD) (P : Nat → Int64) (z : zz_M) : Prop := ∀ w, w < 15 → ∀ j, j < 24 → z.2.1 (ff + 2 + w) j = f_fig d P w j
theorem zRk.fg {ff : Nat} {d : zD} {P : Nat → Int64} {s s1 : zz_M} (k : zRk ff d P s s1) : zFg ff d P s1 := k.2.2.2
theorem zFg.row {ff : Nat} (hff : ff = 64 ∨ ff = 81) {d : zD} {P : Nat → Int64} {z z1 : zz_M} {L : List Int64} (h : zFg ff d P z) (b : zCr z z1 L) : zFg ff d P z1 := by
  intro w hw j hj
  rw [b.2.2.1 _ (by rcases hff with e | e <;> subst e <;> omega)]
  exact h w hw j hj
theorem zFg.of {ff : Nat} {d : zD} {P : Nat → Int64} {z : zz_M} (h : zFg ff d P z) (w : Nat) (hw : w < 15) {m : Nat} (hm : m < 24) : mX4_of ff (OfNat.ofNat w) (nI m) z = some (f_fig d P w m) := by
  rw [zc_row z ff w hw hm, h w hw m hm]
theorem zFg.fresh {ff : Nat} {d : zD} {P : Nat → Int64} {z : zz_M} (h : zFg ff d P z) (w : Nat) (hw : w < 15) {m : Nat} (hm : m < 24) : mX4_fresh ff (OfNat.ofNat w) (nI m) z = some (f_fig d P w m - f_prev (fun j => f_fig d P w j) m) := by
  rw [zc_fresh z ff w hw hm, h w hw m hm]
  congr 2
  exact f_prev_eq (fun j hj => h w hw j (by omega))
/-- both sides reckon -/
theorem zR_both {s t : zz_M} (h : zR s t) {ff : Nat} (hff : ff = 64 ∨ ff = 81) : ∃ s1 t1, mX4_reckon ff s = some ((), s1) ∧ mX11_layMonths t = some ((), t1) ∧ zR s1 t1 ∧ zRk ff (dz t) (fun k => (d_pd (dz t) k).toInt64) s s1 ∧ zLay t t1 ∧ dz t1 = dz t := by
  obtain ⟨s1, a1, b1⟩ := zc_reckon hff h.1 h.2.1
  obtain ⟨t1, x1, y1⟩ := zr_layMonths t h.2.1
  exact ⟨s1, t1, a1, x1, zR_ly (zR_rk h hff b1) y1, b1, y1, dz_eq y1.1 y1.2.1⟩
theorem f_sub0 (x : Int64) : x - 0 = x := by simp
theorem B_lines {s t : zz_M} (h : zR s t) (x : Int32) : zOk (mX10_lines x s) (mX11_lines x t) := by
  have h0 := zR_thr h 0
  unfold mX10_lines mX11_lines
  rw [zz_nm_s]
  generalize zz_sF t 19 0 = t0 at h0 ⊢
  rw [zc_isMonth, zr_isMonth, zz_b1_s, zz_b1_s]
  refine zOk_tst Iff.rfl (fun c => ?_) (fun c => zOk_ret h0)
  obtain ⟨m, hm, rfl⟩ := zq_month c
  obtain ⟨s0, t1, A1, X1, h1, K, Y, hd⟩ := zR_both h0 (ff := 64) (Or.inl rfl)
  rw [A1, X1, zz_b2_s, zz_b2_s]
  have hI := h0.2.1
  generalize hD : dz t0 = d at *
  have F := K.fg
  have v64 : (64 : Nat) = 64 ∨ (64 : Nat) = 81 := Or.inl rfl
  obtain ⟨s1, a1, b1⟩ := zc_start s0 (f_work d m - f_prev (f_work d) m)
  obtain ⟨s2, a2, b2⟩ := zc_then b1 (by simp) (f_mat d m - f_prev (f_mat d) m)
  obtain ⟨s3, a3, b3⟩ := zc_then b2 (by simp) (f_ret d m - f_prev (f_ret d) m)
  obtain ⟨s4, a4, b4⟩ := zc_then b3 (by simp) (f_rec d m - f_prev (f_rec d) m)
  obtain ⟨s5, a5, b5⟩ := zc_then b4 (by simp) (f_set d m - f_prev (f_set d) m)
  have q0 := zr_row0 t1
  obtain ⟨u1, x1, y1⟩ := zr_tell q0 (by simp) (f_work d m - f_prev (f_work d) m)
  obtain ⟨u2, x2, y2⟩ := zr_tell y1 (by simp) (f_mat d m - f_prev (f_mat d) m)
  obtain ⟨u3, x3, y3⟩ := zr_tell y2 (by simp) (f_ret d m - f_prev (f_ret d) m)
  obtain ⟨u4, x4, y4⟩ := zr_tell y3 (by simp) (f_rec d m - f_prev (f_rec d) m)
  obtain ⟨u5, x5, y5⟩ := zr_tell y4 (by simp) (f_set d m - f_prev (f_set d) m)
  rw [F.fresh 0 (by omega) hm, zz_b1_s, show f_fig d (fun k => (d_pd d k).toInt64) 0 m - f_prev (fun j => f_fig d (fun k => (d_pd d k).toInt64) 0 j) m = f_work d m - f_prev (f_work d) m from rfl, a1, zz_b2_s]
  rw [(F.row v64 b1).fresh 2 (by omega) hm, zz_b1_s, show f_fig d (fun k => (d_pd d k).toInt64) 2 m - f_prev (fun j => f_fig d (fun k => (d_pd d k).toInt64) 2 j) m = f_mat d m - f_prev (f_mat d) m from rfl, a2, zz_b2_s]
  rw [(F.row v64 b2).fresh 3 (by omega) hm, zz_b1_s, show f_fig d (fun k => (d_pd d k).toInt64) 3 m - f_prev (fun j => f_fig d (fun k => (d_pd d k).toInt64) 3 j) m = f_ret d m - f_prev (f_ret d) m from rfl, a3, zz_b2_s]
  rw [(F.row v64 b3).fresh 4 (by omega) hm, zz_b1_s, show f_fig d (fun k => (d_pd d k).toInt64) 4 m - f_prev (fun j => f_fig d (fun k => (d_pd d k).toInt64) 4 j) m = f_rec d m - f_prev (f_rec d) m from rfl, a4, zz_b2_s]
  rw [(F.row v64 b4).fresh 5 (by omega) hm, zz_b1_s, show f_fig d (fun k => (d_pd d k).toInt64) 5 m - f_prev (fun j => f_fig d (fun k => (d_pd d k).toInt64) 5 j) m = f_set d m - f_prev (f_set d) m from rfl, a5, zz_b2_s]
  have hI1 : zInv (dz t1) := h1.2.1
  have g3 : u3.2.1 13 m = f_rec d m := by
    rw [y3.2.2.1 13 (by omega), (Y.2.2.2 m hm).2.1, hD]
  cases m with
  | zero =>
    simp only [f_prev] at x1 x2 x3 x4 x5
    rw [if_pos (show nI 0 = (0 : Int32) from rfl)]
    unfold mX11_lines_b27 mX11_lines_b54 mX11_lines_b79 mX11_lines_b104 mX11_lines_b131 mX11_lines_b156
    rw [zz_nm_s, zr_workIn _ (q0.i hI1) hm, zz_b1_s, if_neg zq_not0, q0.d, hd, x1, zz_b2_s, zr_materialsIn _ hm, zz_b1_s, if_neg zq_not0, y1.d, hd, x2, zz_b2_s, zr_retainedIn _ (y2.i hI1) hm, zz_b1_s, if_neg zq_not0, y2.d, hd, x3, zz_b2_s, zz_ck_of (zq_k 0 hm (by decide)), if_neg zq_not0, nI_clamp (by omega), g3, x4, zz_b2_s, zr_setIn _ (y4.i hI1), zz_b1_s, if_neg zq_not0, y4.d, hd, x5, zz_b2_s]
    exact zOk_ret (zR_row h1 b5 y5 (by simp))
  | succ m =>
    have g3' : u3.2.1 13 m = f_rec d m := by
      rw [y3.2.2.1 13 (by omega), (Y.2.2.2 m (by omega)).2.1, hD]
    simp only [f_prev] at x1 x2 x3 x4 x5
    rw [if_neg (nI_pos_eq (by omega) (by omega))]
    unfold mX11_lines_b27 mX11_lines_b54 mX11_lines_b79 mX11_lines_b104 mX11_lines_b131 mX11_lines_b156
    rw [zz_nm_s, nI_pred, zr_workIn _ (q0.i hI1) hm, zz_b1_s, if_pos rfl, zr_workIn _ (q0.i hI1) (show m < 24 by omega), zz_b1_s, q0.d, hd, x1, zz_b2_s, zr_materialsIn _ hm, zz_b1_s, if_pos rfl, zr_materialsIn _ (show m < 24 by omega), zz_b1_s, y1.d, hd, x2, zz_b2_s, zr_retainedIn _ (y2.i hI1) hm, zz_b1_s, if_pos rfl, zr_retainedIn _ (y2.i hI1) (show m < 24 by omega), zz_b1_s, y2.d, hd, x3, zz_b2_s, zz_ck_of (zq_k (m + 1) hm (by decide)), if_pos rfl, zz_ck_of (zq_k m (show m < 24 by omega) (by decide)), nI_clamp (show m < 2 ^ 31 by omega), nI_clamp (show m + 1 < 2 ^ 31 by omega), g3, g3', x4, zz_b2_s, zr_setIn _ (y4.i hI1), zz_b1_s, if_pos rfl, zr_setIn _ (y4.i hI1), zz_b1_s, y4.d, hd, x5, zz_b2_s]
    exact zOk_ret (zR_row h1 b5 y5 (by simp))
def f_ff (p : Nat → Prop) [DecidablePred p] : Nat → Nat → Int32
  | 0, _ => -1
  | j + 1, i => if p i then nI i else f_ff p j (i + 1)
theorem zc_firstOf_b3 {ff : Nat} {d : zD} {P : Nat → Int64} {z : zz_M} (h : zFg ff d P z) (w : Nat) (hw : w < 15) (v : Int64) {b : Nat} (hb : b ≤ 24) : ∀ (j i fuel : Nat), i + j = b → j < fuel → mX4_firstOf_b3 ff z fuel (OfNat.ofNat w) v (nI b) (nI i) = some (f_ff (fun m => f_fig d P w m = v) j i) := by
  intro j
  induction j with
  | zero =>
    intro i fuel hi hf
    obtain ⟨f, rfl⟩ : ∃ f, fuel = f + 1 := ⟨fuel - 1, by omega⟩
    have : i = b := by omega
    subst this
    unfold mX4_firstOf_b3 mX4_firstOf_b38 f_ff
    by_cases c : (24 : Int32) ≤ nI i
    · rw [if_pos c]
    · rw [if_neg c, if_pos (nI_le_r i)]
  | succ j ih =>
    intro i fuel hi hf
    obtain ⟨f, rfl⟩ : ∃ f, fuel = f + 1 := ⟨fuel - 1, by omega⟩
    unfold mX4_firstOf_b3 mX4_firstOf_b38
    rw [if_neg (show ¬ (24 : Int32) ≤ nI i from nI_ge (show i < 24 by omega) (by decide)), if_neg (nI_lt_n (by omega) (by omega)), h.of w hw (by omega), zz_b1_s, zz_nm_s, nI_1, ih (i + 1) f (by omega) (by omega)]
    conv => rhs; unfold f_ff
    by_cases c : f_fig d P w i = v
    · rw [if_pos c, if_pos ((lg_cmp_eq _ _).mpr c)]
    · rw [if_neg c, if_neg (fun q => c ((lg_cmp_eq _ _).mp q))]
theorem zc_orNotThere (x : Int32) : mX10_orNotThere x = some (if x = -1 then -2 else x) := by
  unfold mX10_orNotThere mX10_orNotThere_b11
  by_cases c : x = -1
  · rw [if_pos c, if_pos c]
  · rw [if_neg c, if_neg c]
theorem f_ff_cg {p q : Nat → Prop} [DecidablePred p] [DecidablePred q] : ∀ (j i : Nat), (∀ k, i ≤ k → k < i + j → (p k ↔ q k)) → f_ff p j i = f_ff q j i := by
  intro j
  induction j with
  | zero => intro i _; rfl
  | succ j ih =>
    intro i hk
    unfold f_ff
    have e := hk i (Nat.le_refl _) (by omega)
    by_cases c : p i
    · rw [if_pos c, if_pos (e.mp c)]
    · rw [if_neg c, if_neg (fun w => c (e.mpr w))]
      exact ih (i + 1) (fun k h1 h2 => hk k (by omega) (by omega))
theorem zr_recovered_b11 (z : zz_M) (hI : zInv (dz z)) {d : zD} (hd : dz z = d) (hr : ∀ j, j < 24 → z.2.1 13 j = f_rec d j) : ∀ (j i fuel : Nat), i + j = 24 → j < fuel → mX11_recovered_b11 fuel (nI i) z = some (if f_ff (fun m => f_rec d m = f_adv d) j i = -1 then -2 else f_ff (fun m => f_rec d m = f_adv d) j i, z) := by
  intro j
  induction j with
  | zero =>
    intro i fuel hi hf
    obtain ⟨f, rfl⟩ : ∃ f, fuel = f + 1 := ⟨fuel - 1, by omega⟩
    have : i = 24 := by omega
    subst this
    unfold mX11_recovered_b11
    rw [if_pos (show (24 : Int32) ≤ nI 24 by decide)]
    rfl
  | succ j ih =>
    intro i fuel hi hf
    obtain ⟨f, rfl⟩ : ∃ f, fuel = f + 1 := ⟨fuel - 1, by omega⟩
    unfold mX11_recovered_b11
    rw [if_neg (show ¬ (24 : Int32) ≤ nI i from nI_ge (show i < 24 by omega) (by decide)), zz_ck_of (zq_k i (show i < 24 by omega) (by decide)), zr_advancedNow z hI, zz_b1_s, nI_clamp (by omega), hr i (by omega), hd, zz_nm_s, nI_1, ih (i + 1) f (by omega) (by omega)]
    conv => rhs; unfold f_ff
    by_cases c : f_rec d i = f_adv d
    · rw [if_pos c, if_pos ((lg_cmp_eq _ _).mpr c), if_neg (nI_not1 (by omega))]
    · rw [if_neg c, if_neg (fun q => c ((lg_cmp_eq _ _).mp q))]
theorem B_recovered {s t : zz_M} (h : zR s t) : zOk (mX10_recovered s) (mX11_recovered t) := by
  have h0 := zR_thr h 0
  unfold mX10_recovered mX11_recovered
  rw [zz_nm_s]
  generalize zz_sF t 19 0 = t0 at h0 ⊢
  obtain ⟨s0, t1, A1, X1, h1, K, Y, hd⟩ := zR_both h0 (ff := 64) (Or.inl rfl)
  have e1 := zr_recovered_b11 t1 h1.2.1 hd (fun j hj => (Y.2.2.2 j hj).2.1) 24 0 zz_N (by omega) (by unfold zz_N; omega)
  have e2 := zc_firstOf_b3 K.fg 4 (by omega) (f_adv (dz t0)) (Nat.le_refl 24) 24 0 zz_N (by omega) (by unfold zz_N; omega)
  rw [nI_0] at e1 e2
  rw [A1, X1, zz_b2_s, zz_b2_s, e1, zc_advanced h1.1.1, zz_b1_s, hd]
  unfold mX4_firstOf
  rw [show (24 : Int32) = nI 24 from rfl, show (4 : Int32) = OfNat.ofNat 4 from rfl, e2, zz_b1_s, zc_orNotThere, zz_b1_s]
  exact zOk_ret h1
theorem zr_limited_b12 (z : zz_M) (hI : zInv (dz z)) {b : Nat} (hb : b ≤ 24) (eb : z.2.2.1 9 = nI b) {v : Int64} (hv : 0 < v) : ∀ (j i fuel : Nat), i + j = b → j < fuel → mX11_limited_b12 fuel v (nI i) z = some (if f_ff (fun m => f_ret (dz z) m = v) j i = -1 then -2 else f_ff (fun m => f_ret (dz z) m = v) j i, z) := by
  intro j
  have hc : ¬ lg_cmp v 0 ≤ 0 := by
    rw [lg_cmp_le]
    exact zl_nle.mpr hv
  induction j with
  | zero =>
    intro i fuel hi hf
    obtain ⟨f, rfl⟩ : ∃ f, fuel = f + 1 := ⟨fuel - 1, by omega⟩
    have : i = b := by omega
    subst this
    unfold mX11_limited_b12 mX11_limited_b44
    rw [eb, if_pos (nI_le_r i)]
    rfl
  | succ j ih =>
    intro i fuel hi hf
    obtain ⟨f, rfl⟩ : ∃ f, fuel = f + 1 := ⟨fuel - 1, by omega⟩
    unfold mX11_limited_b12 mX11_limited_b44
    rw [eb, if_neg (nI_lt_n (by omega) (by omega)), if_neg hc, zr_retainedIn z hI (by omega), zz_b1_s, zz_nm_s, nI_1, ih (i + 1) f (by omega) (by omega)]
    conv => rhs; unfold f_ff
    by_cases c : f_ret (dz z) i = v
    · rw [if_pos c, if_pos ((lg_cmp_eq _ _).mpr c), if_neg (nI_not1 (by omega))]
    · rw [if_neg c, if_neg (fun q => c ((lg_cmp_eq _ _).mp q))]
theorem B_limited {s t : zz_M} (h : zR s t) : zOk (mX10_limited s) (mX11_limited t) := by
  have h0 := zR_thr h 0
  unfold mX10_limited mX11_limited
  rw [zz_nm_s]
  generalize zz_sF t 19 0 = t0 at h0 ⊢
  obtain ⟨hC, hI, hT, hW⟩ := id h0
  rw [zc_limit hC.1, zr_limitNow _ hI, zz_b1_s, zz_b1_s]
  obtain ⟨b, hb, eb⟩ := hI.2.2.2.1
  by_cases c : 0 < lg_cmp (f_limit (dz t0)) 0
  · rw [if_pos c]
    rw [lg_cmp_gt] at c
    obtain ⟨s1, a1, b1⟩ := zc_reckon (ff := 64) (Or.inl rfl) hC hI
    have h1 := zR_rk h0 (Or.inl rfl) b1
    have e1 := zr_limited_b12 t0 hI hb eb c b 0 zz_N (by omega) (by unfold zz_N; omega)
    have e2 := zc_firstOf_b3 b1.fg 3 (by omega) (f_limit (dz t0)) hb b 0 zz_N (by omega) (by unfold zz_N; omega)
    rw [nI_0] at e1 e2
    rw [a1, zz_b2_s, h1.1.1.2.2.2.2.2.1, eb, e1]
    unfold mX4_firstOf
    rw [show (3 : Int32) = OfNat.ofNat 3 from rfl, e2, zz_b1_s, zc_orNotThere, zz_b1_s]
    exact zOk_ret h1
  · rw [if_neg c]
    have c2 : lg_cmp (f_limit (dz t0)) 0 ≤ 0 := zi_nlt.mp c
    unfold zz_N mX11_limited_b12 mX11_limited_b44
    by_cases c3 : t0.2.2.1 9 ≤ (0 : Int32)
    · rw [if_pos c3]
      exact zOk_ret h0
    · rw [if_neg c3, if_pos c2]
      exact zOk_ret h0
theorem J_reaches {s t : zz_M} (h : zR s t) {d : zD} {P : Nat → Int64} (F : zFg 64 d P s) (ht : ∀ j, j < 24 → t.2.1 16 j = f_tot d j) (v : Int64) : ∀ (j i fuel : Nat), i + j = 24 → j < fuel → zOk (mX10_reaches_b21 fuel v (nI i) s) (mX11_reaches_b19 fuel v (nI i) t) := by
  intro j
  induction j with
  | zero =>
    intro i fuel hi hf
    obtain ⟨f, rfl⟩ : ∃ f, fuel = f + 1 := ⟨fuel - 1, by omega⟩
    have : i = 24 := by omega
    subst this
    unfold mX10_reaches_b21 mX11_reaches_b19
    rw [if_pos (show (24 : Int32) ≤ nI 24 by decide), if_pos (show (24 : Int32) ≤ nI 24 by decide)]
    exact zOk_ret h
  | succ j ih =>
    intro i fuel hi hf
    obtain ⟨f, rfl⟩ : ∃ f, fuel = f + 1 := ⟨fuel - 1, by omega⟩
    have hi' : i < 24 := by omega
    have h24 : ¬ (24 : Int32) ≤ nI i := nI_ge hi' (by decide)
    obtain ⟨s1, a1, b1⟩ := zc_start s (f_tot d i)
    have q0 := zr_row0 t
    obtain ⟨t1, x1, y1⟩ := zr_tell q0 (by simp) (f_tot d i)
    have hk := zq_k i hi' (show 24 < 2 ^ 31 by decide)
    unfold mX10_reaches_b21 mX11_reaches_b19
    rw [if_neg h24, if_neg h24, show (8 : Int32) = OfNat.ofNat 8 from rfl, F.of 8 (by omega) hi', zz_b1_s, zz_b1_s, show f_fig d P 8 i = f_tot d i from rfl, a1, zz_b2_s, zz_nm_s, zz_nm_s, zz_ck_of hk, zz_ck_of hk, zz_nm_s, nI_clamp (show i < 2 ^ 31 by omega), q0.2.2.1 16 (by omega), ht i hi', x1, zz_b2_s, nI_1]
    by_cases c : f_tot d i < v
    · rw [if_pos ((lg_cmp_lt _ _).mpr c), if_neg (fun q => (zl_nlt.mpr ((lg_cmp_ge _ _).mp q)) c)]
      exact ih (i + 1) f (by omega) (by omega)
    · rw [if_neg (fun q => c ((lg_cmp_lt _ _).mp q)), if_pos ((lg_cmp_ge _ _).mpr (zl_nlt.mp c))]
      exact zOk_ret (zR_row h b1 y1 (by simp))
theorem B_reaches {s t : zz_M} (h : zR s t) (v : Int64) : zOk (mX10_reaches v s) (mX11_reaches v t) := by
  have h0 := zR_thr h 0
  unfold mX10_reaches mX11_reaches
  rw [zz_nm_s]
  generalize zz_sF t 19 0 = t0 at h0 ⊢
  refine zOk_if Iff.rfl (fun _ => ?_) (fun _ => zOk_ret h0)
  obtain ⟨s0, t1, A1, X1, h1, K, Y, hd⟩ := zR_both h0 (ff := 64) (Or.inl rfl)
  rw [A1, X1, zz_b2_s, zz_b2_s]
  have := J_reaches h1 K.fg (fun j hj => (Y.2.2.2 j hj).2.2.2.2.1) v 24 0 zz_N (by omega) (by unfold zz_N; omega)
  rw [nI_0] at this
  exact this
theorem f_owedP_eq (d : zD) (m : Nat) : f_owedP d (fun k => (d_pd d k).toInt64) m = f_owed d m := rfl
theorem J_worst {s t : zz_M} (h : zR s t) {d : zD} {P : Nat → Int64} (F : zFg 64 d P s) (ht : ∀ j, j < 24 → t.2.1 17 j = f_owedP d P j) : ∀ (j i fuel best : Nat) (many : Int32), best < 24 → i + j = 24 → j < fuel → zOk (mX10_worst_b17 fuel (nI best) many (nI i) s) (mX11_worst_b15 fuel (nI best) many (nI i) t) := by
  intro j
  induction j with
  | zero =>
    intro i fuel best many hb hi hf
    obtain ⟨f, rfl⟩ : ∃ f, fuel = f + 1 := ⟨fuel - 1, by omega⟩
    have : i = 24 := by omega
    subst this
    obtain ⟨s1, a1, b1⟩ := zc_start s (f_owedP d P best)
    obtain ⟨s2, a2, b2⟩ := zc_then b1 (by simp) many.toInt64
    have q0 := zr_row0 t
    obtain ⟨t1, x1, y1⟩ := zr_tell q0 (by simp) (f_owedP d P best)
    obtain ⟨t2, x2, y2⟩ := zr_tell y1 (by simp) many.toInt64
    unfold mX10_worst_b17 mX11_worst_b15
    rw [if_pos (show (24 : Int32) ≤ nI 24 by decide), if_pos (show (24 : Int32) ≤ nI 24 by decide), show (9 : Int32) = OfNat.ofNat 9 from rfl, F.of 9 (by omega) hb, zz_b1_s, show f_fig d P 9 best = f_owedP d P best from rfl, a1, zz_b2_s, a2, zz_b2_s, zz_nm_s, zz_ck_of (zq_k best hb (by decide)), nI_clamp (show best < 2 ^ 31 by omega), q0.2.2.1 17 (by omega), ht best hb, x1, zz_b2_s, x2, zz_b2_s]
    exact zOk_ret (zR_row h b2 y2 (by simp))
  | succ j ih =>
    intro i fuel best many hb hi hf
    obtain ⟨f, rfl⟩ : ∃ f, fuel = f + 1 := ⟨fuel - 1, by omega⟩
    have hi' : i < 24 := by omega
    have h24 : ¬ (24 : Int32) ≤ nI i := nI_ge hi' (by decide)
    have hk := zq_k i hi' (show 24 < 2 ^ 31 by decide)
    have key : ∀ b2 : Nat, b2 < 24 → zOk (mX10_worst_b49 (mX10_worst_b17 f) (nI b2) many (nI i) s) (mX11_worst_b39 (mX11_worst_b15 f) (nI b2) many (nI i) t) := by
      intro b2 hb2
      unfold mX10_worst_b49 mX11_worst_b39 mX10_worst_b67 mX11_worst_b56
      rw [show (9 : Int32) = OfNat.ofNat 9 from rfl, F.of 9 (by omega) hi', zz_b1_s, show f_fig d P 9 i = f_owedP d P i from rfl, zz_ck_of hk, nI_clamp (show i < 2 ^ 31 by omega), ht i hi', zz_nm_s, zz_nm_s, zz_nm_s, zz_nm_s, zz_nm_s, zz_nm_s, zz_nm_s, nI_1, show many + 0 = many by simp]
      exact zOk_if Iff.rfl (fun _ => ih (i + 1) f b2 many hb2 (by omega) (by omega)) (fun _ => ih (i + 1) f b2 (many + 1) hb2 (by omega) (by omega))
    unfold mX10_worst_b17 mX11_worst_b15
    rw [if_neg h24, if_neg h24, show (9 : Int32) = OfNat.ofNat 9 from rfl, F.of 9 (by omega) hi', F.of 9 (by omega) hb, zz_b1_s, zz_b1_s, zz_ck_of hk, zz_ck_of (zq_k best hb (by decide)), nI_clamp (show i < 2 ^ 31 by omega), nI_clamp (show best < 2 ^ 31 by omega), ht i hi', ht best hb]
    exact zOk_if Iff.rfl (fun _ => key best hb) (fun _ => key i hi')
theorem B_worst {s t : zz_M} (h : zR s t) : zOk (mX10_worst s) (mX11_worst t) := by
  have h0 := zR_thr h 0
  unfold mX10_worst mX11_worst
  rw [zz_nm_s]
  generalize zz_sF t 19 0 = t0 at h0 ⊢
  obtain ⟨s0, t1, A1, X1, h1, K, Y, hd⟩ := zR_both h0 (ff := 64) (Or.inl rfl)
  rw [A1, X1, zz_b2_s, zz_b2_s]
  have := J_worst h1 K.fg (fun j hj => (Y.2.2.2 j hj).2.2.2.2.2.1) 24 0 zz_N 0 0 (by omega) (by omega) (by unfold zz_N; omega)
  rw [nI_0] at this
  exact this
