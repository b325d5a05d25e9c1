/-! ===== the class reckons: the loops ===== -/
/-- the rows of the months below m, but for those of the debt -/
def zFr (ff : Nat) (d : zD) (s s1 : zz_M) (m : Nat) : Prop := s1.1 = s.1 ∧ s1.2.2 = s.2.2 ∧ (∀ q, q < ff + 2 ∨ ff + 17 ≤ q → s1.2.1 q = s.2.1 q) ∧ ∀ j, j < m → ∀ w, w < 9 ∨ w = 13 ∨ w = 14 → s1.2.1 (ff + 2 + w) j = f_fig d (fun _ => 0) w j
theorem zFr_w {ff : Nat} {d : zD} {s s1 : zz_M} {m : Nat} (hm : m < 24) (h : zFr ff d s s1 m) (w : Nat) (hw : w < 15) (x : Int64) : zFr ff d s (zz_wJ s1 (ff + 2 + w) (nI m) x) m := by
  obtain ⟨h1, h2, h3, h4⟩ := h
  refine ⟨h1, h2, fun q hq => ?_, fun j hj w' hw' => ?_⟩
  · rw [zw_O s1 ff w m x (by omega)]; exact h3 q hq
  · rw [zw_R s1 ff w m x hm, if_neg (by omega)]; exact h4 j hj w' hw'
theorem zC0_w {s : zz_M} {d : zD} (h : zC0 s d) (q : Nat) (i : Int32) (x : Int64) : zC0 (zz_wJ s q i x) d := zC0_eq rfl rfl h
theorem zc_reckon_step {ff : Nat} {d : zD} {s s1 : zz_M} (hC : zC0 s d) (hI : zInv d) {m : Nat} (hm : m < 24) (h : zFr ff d s s1 m) (f : Nat) : ∃ s2, mX4_reckon_b2 ff (f + 1) (nI m) s1 = mX4_reckon_b2 ff f (nI (m + 1)) s2 ∧ zFr ff d s s2 (m + 1) := by
  have hC1 : zC0 s1 d := zC0_eq h.1 (by rw [h.2.1]) hC
  rw [mX4_reckon_b2, if_neg (show ¬ (24 : Int32) ≤ nI m from nI_ge hm (by decide)), zz_ck_of (zq_lit 0 15 (by decide) (by decide)), zc_work hC1 hI hm, zz_b1_s, zz_ck_of (zq_k _ hm (by decide)), zz_nm_s]
  have hA : zFr ff d s (zz_wJ s1 (ff + 2 + 0) (nI m) (f_work d m)) m := zFr_w hm h 0 (by decide) _
  have hCA : zC0 (zz_wJ s1 (ff + 2 + 0) (nI m) (f_work d m)) d := zC0_w hC1 _ _ _
  have eA : zz_wJ s1 (ff + 2 + (0 : Int32).toNatClampNeg) (nI m) (f_work d m) = zz_wJ s1 (ff + 2 + 0) (nI m) (f_work d m) := rfl
  rw [eA, zz_ck_of (zq_lit 1 15 (by decide) (by decide)), zc_worthTill hCA hI, zz_b1_s, zz_ck_of (zq_k _ hm (by decide)), zz_nm_s]
  have eB : zz_wJ (zz_wJ s1 (ff + 2 + 0) (nI m) (f_work d m)) (ff + 2 + (1 : Int32).toNatClampNeg) (nI m) (f_varied d m) = zz_wJ (zz_wJ s1 (ff + 2 + 0) (nI m) (f_work d m)) (ff + 2 + 1) (nI m) (f_varied d m) := rfl
  rw [eB]
  have hB : zFr ff d s (zz_wJ (zz_wJ s1 (ff + 2 + 0) (nI m) (f_work d m)) (ff + 2 + 1) (nI m) (f_varied d m)) m := zFr_w hm hA 1 (by decide) _
  have hCB : zC0 (zz_wJ (zz_wJ s1 (ff + 2 + 0) (nI m) (f_work d m)) (ff + 2 + 1) (nI m) (f_varied d m)) d := zC0_w hCA _ _ _
  have eN := zc_reckonNet hCB hI hm ff (by rw [zw_R _ ff 1 m _ hm, if_neg (by omega), zw_R _ ff 0 m _ hm, if_pos ⟨rfl, rfl⟩]) (fun j hj => ⟨hB.2.2.2 j (by omega) 0 (by omega), hB.2.2.2 j (by omega) 14 (by omega), hB.2.2.2 j (by omega) 4 (by omega)⟩)
  rw [eN, zz_b2_s]
  have hN : zFr ff d s (zW7 (zz_wJ (zz_wJ s1 (ff + 2 + 0) (nI m) (f_work d m)) (ff + 2 + 1) (nI m) (f_varied d m)) ff m (f_mat d m) (f_adj d m) (f_ret d m) (f_rec d m) (f_set d m) (f_dam d m) (f_net d m)) m := by
    unfold zW7
    exact zFr_w hm (zFr_w hm (zFr_w hm (zFr_w hm (zFr_w hm (zFr_w hm (zFr_w hm hB 2 (by decide) _) 14 (by decide) _) 3 (by decide) _) 4 (by decide) _) 5 (by decide) _) 13 (by decide) _) 6 (by decide) _
  have hCN : zC0 (zW7 (zz_wJ (zz_wJ s1 (ff + 2 + 0) (nI m) (f_work d m)) (ff + 2 + 1) (nI m) (f_varied d m)) ff m (f_mat d m) (f_adj d m) (f_ret d m) (f_rec d m) (f_set d m) (f_dam d m) (f_net d m)) d := by
    unfold zW7
    exact zC0_w (zC0_w (zC0_w (zC0_w (zC0_w (zC0_w (zC0_w hCB _ _ _) _ _ _) _ _ _) _ _ _) _ _ _) _ _ _) _ _ _
  rw [zc_reckonCertified hCN hm ff (by unfold zW7; rw [zw_R _ ff 6 m _ hm, if_pos ⟨rfl, rfl⟩]) (fun j hj => hN.2.2.2 j (by omega) 8 (by omega)), zz_b2_s, zz_nm_s, nI_1]
  refine ⟨_, rfl, ?_⟩
  have hZ := zFr_w hm (zFr_w hm hN 7 (by decide) (f_cert d m)) 8 (by decide) (f_tot d m)
  refine ⟨hZ.1, hZ.2.1, hZ.2.2.1, fun j hj w hw => ?_⟩
  by_cases c : j = m
  · subst c
    unfold zW7
    have hw2 : w = 0 ∨ w = 1 ∨ w = 2 ∨ w = 3 ∨ w = 4 ∨ w = 5 ∨ w = 6 ∨ w = 7 ∨ w = 8 ∨ w = 13 ∨ w = 14 := by omega
    rcases hw2 with rfl | rfl | rfl | rfl | rfl | rfl | rfl | rfl | rfl | rfl | rfl <;>
      simp only [zw_R _ ff _ j _ hm, and_true, if_true, if_false, reduceCtorEq, Nat.reduceEqDiff, f_fig]
  · exact hZ.2.2.2 j (by omega) w hw
theorem zc_reckon_loop {ff : Nat} {d : zD} {s : zz_M} (hC : zC0 s d) (hI : zInv d) : ∀ (j m fuel : Nat) (s1 : zz_M), m + j = 24 → j < fuel → zFr ff d s s1 m → ∃ s2, mX4_reckon_b2 ff fuel (nI m) s1 = zz_b2 (mX4_reckonDebt ff 63 s2) (fun _ z4 => some ((), z4)) ∧ zFr ff d s s2 24 := by
  intro j
  induction j with
  | zero =>
    intro m fuel s1 hm hf hL
    obtain ⟨f, rfl⟩ : ∃ q, fuel = q + 1 := ⟨fuel - 1, by omega⟩
    obtain rfl : m = 24 := by omega
    refine ⟨s1, ?_, hL⟩
    rw [mX4_reckon_b2, if_pos (show (24 : Int32) ≤ nI 24 from nI_le (Nat.le_refl _) (by decide))]
  | succ j ih =>
    intro m fuel s1 hm hf hL
    obtain ⟨f, rfl⟩ : ∃ q, fuel = q + 1 := ⟨fuel - 1, by omega⟩
    obtain ⟨s2, e2, h2⟩ := zc_reckon_step hC hI (show m < 24 by omega) hL f
    obtain ⟨s3, e3, h3⟩ := ih (m + 1) f s2 (by omega) (by omega) h2
    exact ⟨s3, e2.trans e3, h3⟩
/-- the rows of the debt -/
def zDb (ff : Nat) (d : zD) (P : Nat → Int64) (s s1 : zz_M) (m : Nat) : Prop := s1.1 = s.1 ∧ s1.2.2 = s.2.2 ∧ (∀ q, (∀ w, w = 9 ∨ w = 10 ∨ w = 11 ∨ w = 12 → q ≠ ff + 2 + w) → s1.2.1 q = s.2.1 q) ∧ ∀ j, j < m → ∀ w, w = 9 ∨ w = 10 ∨ w = 11 ∨ w = 12 → s1.2.1 (ff + 2 + w) j = f_fig d P w j
theorem zDb_w {ff : Nat} {d : zD} {P : Nat → Int64} {s s1 : zz_M} {m : Nat} (hm : m < 24) (h : zDb ff d P s s1 m) (w : Nat) (hw : w = 9 ∨ w = 10 ∨ w = 11 ∨ w = 12) (x : Int64) : zDb ff d P s (zz_wJ s1 (ff + 2 + w) (nI m) x) m := by
  obtain ⟨h1, h2, h3, h4⟩ := h
  refine ⟨h1, h2, fun q hq => ?_, fun j hj w' hw' => ?_⟩
  · rw [zw_O s1 ff w m x (hq w hw)]; exact h3 q hq
  · rw [zw_R s1 ff w m x hm, if_neg (by omega)]; exact h4 j hj w' hw'
theorem f_prev_acc (P : Nat → Int64) (m : Nat) : f_prev (fun j => f_acc P 0 (j + 1)) m = f_acc P 0 m := by cases m <;> rfl
theorem zc_debt71 {ff gq : Nat} {d : zD} {P : Nat → Int64} {s s1 : zz_M} (hC : zC0 s d) {m : Nat} (hm : m < 24) (h : zDb ff d P s s1 m) (k : Int32 → Int32 → zz_M → Option (Unit × zz_M)) (v3 : Int32) (t0 : Int64) (ht : t0 = f_ripe d m) (h12 : s1.2.1 (ff + 2 + 12) m = f_paidP P m) : ∃ s2, mX4_reckonDebt_b71 ff gq k v3 (nI m) t0 s1 = k v3 (nI (m + 1)) s2 ∧ zDb ff d P s s2 (m + 1) := by
  have hC1 : zC0 s1 d := zC0_eq h.1 (by rw [h.2.1]) hC
  unfold mX4_reckonDebt_b71
  rw [zz_ck_of (zq_lit 9 15 (by decide) (by decide)), zc_row s1 ff 12 (by decide) hm, zz_b1_s, zz_ck_of (zq_k _ hm (by decide)), zz_nm_s, h12, ht]
  have eO : (if f_ripe d m - f_paidP P m < 0 then 0 else f_ripe d m - f_paidP P m) = f_owedP d P m := rfl
  rw [eO]
  have e9 : zz_wJ s1 (ff + 2 + (9 : Int32).toNatClampNeg) (nI m) (f_owedP d P m) = zz_wJ s1 (ff + 2 + 9) (nI m) (f_owedP d P m) := rfl
  rw [e9]
  have h9 := zDb_w hm h 9 (by omega) (f_owedP d P m)
  have hC9 : zC0 (zz_wJ s1 (ff + 2 + 9) (nI m) (f_owedP d P m)) d := zC0_eq rfl rfl hC1
  rw [zz_ck_of (zq_lit 10 15 (by decide) (by decide)), zc_of hC9 7 (by decide), zz_b1_s, zc_row _ ff 9 (by decide) hm, zz_b1_s, zw_R _ ff 9 m _ hm, if_pos ⟨rfl, rfl⟩, zc_th, zz_b1_s, zz_ck_of (zq_k _ hm (by decide)), zz_nm_s]
  have e10 : zz_wJ (zz_wJ s1 (ff + 2 + 9) (nI m) (f_owedP d P m)) (ff + 2 + (10 : Int32).toNatClampNeg) (nI m) (f_th (f_owedP d P m) (d_tm d 7)) = zz_wJ (zz_wJ s1 (ff + 2 + 9) (nI m) (f_owedP d P m)) (ff + 2 + 10) (nI m) (f_intP d P m) := rfl
  rw [e10]
  have h10 := zDb_w hm h9 10 (by omega) (f_intP d P m)
  rw [zz_ck_of (zq_lit 11 15 (by decide) (by decide)), zc_ahead _ ff 11 (by decide) hm, zz_b1_s, zc_row _ ff 10 (by decide) hm, zz_b1_s, zw_R _ ff 10 m _ hm, if_pos ⟨rfl, rfl⟩, zz_ck_of (zq_k _ hm (by decide)), zz_nm_s, zz_nm_s, nI_1]
  have p11 : f_prev (fun j => (zz_wJ (zz_wJ s1 (ff + 2 + 9) (nI m) (f_owedP d P m)) (ff + 2 + 10) (nI m) (f_intP d P m)).2.1 (ff + 2 + 11) j) m = f_acc (fun k => f_intP d P k) 0 m := by
    rw [← f_prev_acc]
    exact f_prev_eq (fun j hj => h10.2.2.2 j (by omega) 11 (by omega))
  rw [p11]
  have hZ := zDb_w hm h10 11 (by omega) (f_acc (fun k => f_intP d P k) 0 m + f_intP d P m)
  refine ⟨zz_wJ (zz_wJ (zz_wJ s1 (ff + 2 + 9) (nI m) (f_owedP d P m)) (ff + 2 + 10) (nI m) (f_intP d P m)) (ff + 2 + 11) (nI m) (f_acc (fun k => f_intP d P k) 0 m + f_intP d P m), rfl, hZ.1, hZ.2.1, hZ.2.2.1, fun j hj w hw => ?_⟩
  by_cases c : j = m
  · subst c
    rcases hw with rfl | rfl | rfl | rfl
    · rw [zw_R _ ff 11 j _ hm, if_neg (by omega), zw_R _ ff 10 j _ hm, if_neg (by omega), zw_R _ ff 9 j _ hm, if_pos ⟨rfl, rfl⟩]; rfl
    · rw [zw_R _ ff 11 j _ hm, if_neg (by omega), zw_R _ ff 10 j _ hm, if_pos ⟨rfl, rfl⟩]; rfl
    · rw [zw_R _ ff 11 j _ hm, if_pos ⟨rfl, rfl⟩]; rfl
    · rw [zw_R _ ff 11 j _ hm, if_neg (by omega), zw_R _ ff 10 j _ hm, if_neg (by omega), zw_R _ ff 9 j _ hm, if_neg (by omega)]; exact h12
  · exact hZ.2.2.2 j (by omega) w hw
theorem zc_debt_loop {ff gq : Nat} {d : zD} {P : Nat → Int64} {s : zz_M} (hC : zC0 s d) (hI : zInv d) {g : Nat} (hg : g ≤ 6) (eg : d_tm d 8 = nI g) (hP : ∀ j, j < 24 → s.2.1 gq j = P j) (hT : ∀ j, j < 24 → s.2.1 (ff + 2 + 8) j = f_tot d j) (hq : ∀ w, w < 15 → gq ≠ ff + 2 + w) : ∀ (j m fuel : Nat) (s1 : zz_M), m + j = 24 → j < fuel → zDb ff d P s s1 m → ∃ s2, mX4_reckonDebt_b10 ff gq fuel (nI g) (nI m) s1 = some ((), s2) ∧ zDb ff d P s s2 24 := by
  intro j
  induction j with
  | zero =>
    intro m fuel s1 hm hf hL
    obtain ⟨f, rfl⟩ : ∃ q, fuel = q + 1 := ⟨fuel - 1, by omega⟩
    obtain rfl : m = 24 := by omega
    refine ⟨s1, ?_, hL⟩
    rw [mX4_reckonDebt_b10, if_pos (show (24 : Int32) ≤ nI 24 from nI_le (Nat.le_refl _) (by decide))]
    rfl
  | succ j ih =>
    intro m fuel s1 hm hf hL
    obtain ⟨f, rfl⟩ : ∃ q, fuel = q + 1 := ⟨fuel - 1, by omega⟩
    have hm' : m < 24 := by omega
    rw [mX4_reckonDebt_b10, if_neg (show ¬ (24 : Int32) ≤ nI m from nI_ge hm' (by decide)), if_neg (show ¬ (24 : Int32) ≤ nI m from nI_ge hm' (by decide)), zz_ck_of (zq_lit 12 15 (by decide) (by decide)), zc_ahead _ ff 12 (by decide) hm', zz_b1_s, zz_ck_of (zq_k _ hm' (by decide)), zz_ck_of (zq_k _ hm' (by decide)), zz_nm_s, nI_clamp (by omega)]
    have p12 : f_prev (fun j => s1.2.1 (ff + 2 + 12) j) m = f_acc P 0 m := by
      rw [← f_prev_acc]
      exact f_prev_eq (fun j hj => hL.2.2.2 j (by omega) 12 (by omega))
    have eP : s1.2.1 gq m = P m := by rw [hL.2.2.1 gq (fun w hw => hq w (by omega))]; exact hP m hm'
    rw [p12, eP]
    have e12 : zz_wJ s1 (ff + 2 + (12 : Int32).toNatClampNeg) (nI m) (f_acc P 0 m + P m) = zz_wJ s1 (ff + 2 + 12) (nI m) (f_paidP P m) := rfl
    rw [e12]
    have h12 := zDb_w hm' hL 12 (by omega) (f_paidP P m)
    have r12 : (zz_wJ s1 (ff + 2 + 12) (nI m) (f_paidP P m)).2.1 (ff + 2 + 12) m = f_paidP P m := by rw [zw_R _ ff 12 m _ hm', if_pos ⟨rfl, rfl⟩]
    have key : ∀ t0, t0 = f_ripe d m → ∃ s2, mX4_reckonDebt_b71 ff gq (mX4_reckonDebt_b10 ff gq f) (nI g) (nI m) t0 (zz_wJ s1 (ff + 2 + 12) (nI m) (f_paidP P m)) = some ((), s2) ∧ zDb ff d P s s2 24 := by
      intro t0 e0
      obtain ⟨s2, e2, h2⟩ := zc_debt71 (gq := gq) hC hm' h12 (mX4_reckonDebt_b10 ff gq f) (nI g) t0 e0 r12
      obtain ⟨s3, e3, h3⟩ := ih (m + 1) f s2 (by omega) (by omega) h2
      exact ⟨s3, e2.trans e3, h3⟩
    by_cases c : nI m < nI g
    · rw [if_pos c]
      refine key 0 ?_
      unfold f_ripe
      rw [eg, if_neg (zi_nle.mpr c)]
    · rw [if_neg c, if_neg (nI_pos (by omega))]
      have hgm : g ≤ m := by
        have := (not_congr (nI_ltI (a := m) (b := g) (by omega) (by omega))).mp c
        omega
      rw [zq_sub hgm, zc_row _ ff 8 (by decide) (show m - g < 24 by omega), zz_b1_s]
      refine key _ ?_
      unfold f_ripe
      rw [eg, if_pos (nI_le hgm (by omega)), nI_clamp (by omega), h12.2.2.1 (ff + 2 + 8) (fun w hw => by omega)]
      exact hT _ (by omega)
theorem zc_reckonDebt {ff gq : Nat} {d : zD} {P : Nat → Int64} {s : zz_M} (hC : zC0 s d) (hI : zInv d) (hP : ∀ j, j < 24 → s.2.1 gq j = P j) (hT : ∀ j, j < 24 → s.2.1 (ff + 2 + 8) j = f_tot d j) (hq : ∀ w, w < 15 → gq ≠ ff + 2 + w) : ∃ s2, mX4_reckonDebt ff gq s = some ((), s2) ∧ zDb ff d P s s2 24 := by
  obtain ⟨g, hg, eg⟩ := zr_grace hI
  unfold mX4_reckonDebt
  rw [zc_of hC 8 (by decide), zz_b1_s, eg]
  exact zc_debt_loop hC hI hg eg hP hT hq 24 0 zz_N s (by omega) (by unfold zz_N; omega) ⟨rfl, rfl, fun _ _ => rfl, fun j hj => absurd hj (Nat.not_lt_zero j)⟩
/-- what reckon leaves: all rows of these figures; nothing else is changed -/
def zRk (ff : Nat) (d : zD) (P : Nat → Int64) (s s1 : zz_M) : Prop := s1.1 = s.1 ∧ s1.2.2 = s.2.2 ∧ (∀ q, q < ff + 2 ∨ ff + 17 ≤ q → s1.2.1 q = s.2.1 q) ∧ ∀ w, w < 15 → ∀ j, j < 24 → s1.2.1 (ff + 2 + w) j = f_fig d P w j
theorem zc_reckon {ff : Nat} {d : zD} {s : zz_M} (hff : ff = 64 ∨ ff = 81) (hC : zC s d) (hI : zInv d) : ∃ s1, mX4_reckon ff s = some ((), s1) ∧ zRk ff d (fun k => (d_pd d k).toInt64) s s1 := by
  unfold mX4_reckon
  obtain ⟨s2, e2, A1, A2, A3, A4⟩ := zc_reckon_loop (ff := ff) hC.1 hI 24 0 zz_N s (by omega) (by unfold zz_N; omega) ⟨rfl, rfl, fun _ _ => rfl, fun j hj => absurd hj (Nat.not_lt_zero j)⟩
  have hC2 : zC0 s2 d := zC0_eq A1 (by rw [A2]) hC.1
  obtain ⟨s3, e3, B1, B2, B3, B4⟩ := zc_reckonDebt (ff := ff) (gq := 63) (P := fun k => (d_pd d k).toInt64) hC2 hI (fun j hj => by rw [A3 63 (by omega)]; exact hC.2 j hj) (fun j hj => A4 j hj 8 (by omega)) (fun w hw => by omega)
  refine ⟨s3, ?_, B1.trans A1, B2.trans A2, fun q hq => ?_, fun w hw j hj => ?_⟩
  · refine Eq.trans e2 ?_
    rw [e3]
    rfl
  · rw [B3 q (fun w hw => by omega)]
    exact A3 q hq
  · by_cases c : w = 9 ∨ w = 10 ∨ w = 11 ∨ w = 12
    · exact B4 j hj w c
    · rw [B3 (ff + 2 + w) (fun w' hw' => by omega), A4 j hj w (by omega)]
      have hw2 : w = 0 ∨ w = 1 ∨ w = 2 ∨ w = 3 ∨ w = 4 ∨ w = 5 ∨ w = 6 ∨ w = 7 ∨ w = 8 ∨ w = 13 ∨ w = 14 := by omega
      rcases hw2 with rfl | rfl | rfl | rfl | rfl | rfl | rfl | rfl | rfl | rfl | rfl <;> simp only [f_fig]
