/-! ===== the reference lays the months: the loops ===== -/
def f_prev (g : Nat → Int64) : Nat → Int64
  | 0 => 0
  | m + 1 => g m
def zLr (z z1 : zz_M) (m : Nat) : Prop := z1.1 = z.1 ∧ z1.2.2 = z.2.2 ∧ (∀ q, q < 12 ∨ 16 < q → z1.2.1 q = z.2.1 q) ∧ ∀ j, j < m → z1.2.1 12 j = f_adj (dz z) j ∧ z1.2.1 13 j = f_rec (dz z) j ∧ z1.2.1 14 j = f_net (dz z) j ∧ z1.2.1 15 j = f_cert (dz z) j ∧ z1.2.1 16 j = f_tot (dz z) j
theorem dz_eq {z z1 : zz_M} (h1 : z1.1 = z.1) (h2 : z1.2.2 = z.2.2) : dz z1 = dz z := by
  unfold dz
  rw [h1, h2]
theorem zq_sub {a b : Nat} (h : b ≤ a) : nI a - nI b = nI (a - b) := by
  have e : nI a = nI (a - b) + nI b := by rw [nI_add, Nat.sub_add_cancel h]
  rw [e, Int32.add_sub_cancel]
theorem zr_recB (d : zD) (m : Nat) : f_recB d m (f_prev (f_rec d) m) = f_rec d m := by cases m <;> rfl
theorem zr_adjB (d : zD) (m : Nat) : f_prev (f_adj d) m + f_step d m (f_prev (f_work d) m) = f_adj d m := by cases m <;> rfl
theorem zr_certB (d : zD) (m : Nat) : f_certOf d m (f_net d m) (f_prev (f_tot d) m) = f_cert d m := by cases m <;> rfl
theorem zr_totB (d : zD) (m : Nat) : f_prev (f_tot d) m + f_cert d m = f_tot d m := by cases m <;> rfl
theorem zr_netB (d : zD) (m : Nat) : f_netOf d m (f_adj d m) (f_rec d m) = f_net d m := rfl
theorem zLr_step {z z1 : zz_M} {m : Nat} (hm : m < 24) (h : zLr z z1 m) : zLr z (zW5 z1 m (f_rec (dz z) m) (f_adj (dz z) m) (f_net (dz z) m) (f_cert (dz z) m) (f_tot (dz z) m)) (m + 1) := by
  obtain ⟨h1, h2, h3, h4⟩ := h
  have hb : m < 2 ^ 31 := by omega
  refine ⟨h1, h2, fun q hq => ?_, fun j hj => ?_⟩
  · unfold zW5
    rw [zw_J_ne _ _ _ (by omega), zw_J_ne _ _ _ (by omega), zw_J_ne _ _ _ (by omega), zw_J_ne _ _ _ (by omega), zw_J_ne _ _ _ (by omega)]
    exact h3 q hq
  · unfold zW5
    by_cases e : j = m
    · subst e
      refine ⟨?_, ?_, ?_, ?_, ?_⟩
      · rw [zw_J_ne _ _ _ (by decide), zw_J_ne _ _ _ (by decide), zw_J_ne _ _ _ (by decide), zw_J_same _ _ _ _ hb]
      · rw [zw_J_ne _ _ _ (by decide), zw_J_ne _ _ _ (by decide), zw_J_ne _ _ _ (by decide), zw_J_ne _ _ _ (by decide), zw_J_same _ _ _ _ hb]
      · rw [zw_J_ne _ _ _ (by decide), zw_J_ne _ _ _ (by decide), zw_J_same _ _ _ _ hb]
      · rw [zw_J_ne _ _ _ (by decide), zw_J_same _ _ _ _ hb]
      · rw [zw_J_same _ _ _ _ hb]
    · obtain ⟨g1, g2, g3, g4, g5⟩ := h4 j (by omega)
      refine ⟨?_, ?_, ?_, ?_, ?_⟩
      · rw [zw_J_ne _ _ _ (by decide), zw_J_ne _ _ _ (by decide), zw_J_ne _ _ _ (by decide), zw_J_off _ _ _ hb e, zw_J_ne _ _ _ (by decide)]; exact g1
      · rw [zw_J_ne _ _ _ (by decide), zw_J_ne _ _ _ (by decide), zw_J_ne _ _ _ (by decide), zw_J_ne _ _ _ (by decide), zw_J_off _ _ _ hb e]; exact g2
      · rw [zw_J_ne _ _ _ (by decide), zw_J_ne _ _ _ (by decide), zw_J_off _ _ _ hb e, zw_J_ne _ _ _ (by decide), zw_J_ne _ _ _ (by decide)]; exact g3
      · rw [zw_J_ne _ _ _ (by decide), zw_J_off _ _ _ hb e, zw_J_ne _ _ _ (by decide), zw_J_ne _ _ _ (by decide), zw_J_ne _ _ _ (by decide)]; exact g4
      · rw [zw_J_off _ _ _ hb e, zw_J_ne _ _ _ (by decide), zw_J_ne _ _ _ (by decide), zw_J_ne _ _ _ (by decide), zw_J_ne _ _ _ (by decide)]; exact g5
theorem zr_lay_loop (z : zz_M) (h : zInv (dz z)) : ∀ (j m fuel : Nat) (z1 : zz_M), m + j = 24 → j < fuel → zLr z z1 m → ∃ z2, mX11_layMonths_b25 fuel (f_th (f_sum (dz z)) (d_tm (dz z) 4)) (f_prev (f_rec (dz z)) m) (f_prev (f_work (dz z)) m) (f_prev (f_tot (dz z)) m) (nI m) z1 = zz_b2 (mX11_layOwed z2) (fun _ z44 => some ((), z44)) ∧ zLr z z2 24 := by
  intro j
  induction j with
  | zero =>
    intro m fuel z1 hm hf hL
    obtain ⟨f, rfl⟩ : ∃ q, fuel = q + 1 := ⟨fuel - 1, by omega⟩
    obtain rfl : m = 24 := by omega
    refine ⟨z1, ?_, hL⟩
    rw [mX11_layMonths_b25, if_pos (show (24 : Int32) ≤ nI 24 from nI_le (Nat.le_refl _) (by decide))]
  | succ j ih =>
    intro m fuel z1 hm hf hL
    obtain ⟨f, rfl⟩ : ∃ q, fuel = q + 1 := ⟨fuel - 1, by omega⟩
    have e : dz z1 = dz z := dz_eq hL.1 hL.2.1
    have h1 : zInv (dz z1) := by rw [e]; exact h
    have hs := zr_lay_step z1 h1 (show m < 24 by omega) f (f_prev (f_rec (dz z)) m) (f_prev (f_work (dz z)) m) (f_prev (f_tot (dz z)) m) (f_prev (f_adj (dz z)) m) (by
      cases m with
      | zero => exact Or.inl ⟨rfl, rfl⟩
      | succ m => exact Or.inr ⟨m, rfl, ((hL.2.2.2 m (by omega)).1).symm⟩)
    rw [e, zr_recB, zr_adjB, zr_netB, zr_certB, zr_totB] at hs
    obtain ⟨z2, e2, L2⟩ := ih (m + 1) f _ (by omega) (by omega) (zLr_step (show m < 24 by omega) hL)
    refine ⟨z2, ?_, L2⟩
    rw [hs]
    exact e2
/-- behind layOwed: owed and interest of the months below m -/
def zLo (z z1 : zz_M) (m : Nat) : Prop := z1.1 = z.1 ∧ z1.2.2 = z.2.2 ∧ (∀ q, q ≠ 17 ∧ q ≠ 18 → z1.2.1 q = z.2.1 q) ∧ ∀ j, j < m → z1.2.1 17 j = f_owed (dz z) j ∧ z1.2.1 18 j = f_int (dz z) j
theorem zr_grace {d : zD} (h : zInv d) : ∃ g : Nat, g ≤ 6 ∧ d_tm d 8 = nI g := by
  obtain ⟨-, -, -, -, -, -, -, ht, -⟩ := h
  obtain ⟨k, e, h2, h3⟩ := ht 8 (by decide)
  refine ⟨k, ?_, e⟩
  have h4 : nI k ≤ nI 6 := h2
  exact (nI_leI (by omega) (by omega)).mp h4
theorem zr_owed37 (z : zz_M) {m : Nat} (hm : m < 24) (k : Int32 → zz_M → Option (Unit × zz_M)) (t0 : Int64) : mX11_layOwed_b37 k (nI m) t0 z = k (nI (m + 1)) (zz_wJ (zz_wJ z 17 (nI m) (if t0 - f_paid (dz z) m < 0 then 0 else t0 - f_paid (dz z) m)) 18 (nI m) (f_th (if t0 - f_paid (dz z) m < 0 then 0 else t0 - f_paid (dz z) m) (d_tm (dz z) 7))) := by
  unfold mX11_layOwed_b37
  simp only [zr_paidTill z hm, zz_b1_s, zz_ck_of (zq_k (n := 24) m hm (by decide)), zz_nm_s, zz_ck_of (zq_lit 7 14 (by decide) (by decide)), zr_th, nI_clamp (show m < 2 ^ 31 by omega), zw_J_same _ 17 m _ (show m < 2 ^ 31 by omega), nI_1]
  rfl
theorem zr_owed_loop (z : zz_M) (h : zInv (dz z)) (ht : ∀ j, j < 24 → z.2.1 16 j = f_tot (dz z) j) : ∀ (j m fuel : Nat) (z1 : zz_M), m + j = 24 → j < fuel → zLo z z1 m → ∃ z2, mX11_layOwed_b2 fuel (nI m) z1 = some ((), z2) ∧ zLo z z2 24 := by
  intro j
  induction j with
  | zero =>
    intro m fuel z1 hm hf hL
    obtain ⟨f, rfl⟩ : ∃ q, fuel = q + 1 := ⟨fuel - 1, by omega⟩
    obtain rfl : m = 24 := by omega
    refine ⟨z1, ?_, hL⟩
    rw [mX11_layOwed_b2, if_pos (show (24 : Int32) ≤ nI 24 from nI_le (Nat.le_refl _) (by decide))]
  | succ j ih =>
    intro m fuel z1 hm hf hL
    obtain ⟨f, rfl⟩ : ∃ q, fuel = q + 1 := ⟨fuel - 1, by omega⟩
    have e : dz z1 = dz z := dz_eq hL.1 hL.2.1
    have hb : m < 2 ^ 31 := by omega
    obtain ⟨g, hg, eg⟩ := zr_grace h
    have key : ∀ t0, t0 = f_ripe (dz z) m → ∃ z2, mX11_layOwed_b37 (mX11_layOwed_b2 f) (nI m) t0 z1 = some ((), z2) ∧ zLo z z2 24 := by
      intro t0 e0
      rw [zr_owed37 z1 (by omega), e, e0]
      refine ih (m + 1) f _ (by omega) (by omega) ⟨hL.1, hL.2.1, fun q hq => ?_, fun i hi => ?_⟩
      · rw [zw_J_ne _ _ _ hq.2, zw_J_ne _ _ _ hq.1]
        exact hL.2.2.1 q hq
      · by_cases ei : i = m
        · subst ei
          exact ⟨by rw [zw_J_ne _ _ _ (by decide), zw_J_same _ _ _ _ hb]; rfl, by rw [zw_J_same _ _ _ _ hb]; rfl⟩
        · obtain ⟨g1, g2⟩ := hL.2.2.2 i (by omega)
          exact ⟨by rw [zw_J_ne _ _ _ (by decide), zw_J_off _ _ _ hb ei]; exact g1, by rw [zw_J_off _ _ _ hb ei, zw_J_ne _ _ _ (by decide)]; exact g2⟩
    rw [mX11_layOwed_b2, if_neg (show ¬ (24 : Int32) ≤ nI m from nI_ge (show m < 24 by omega) (by decide)), zz_ck_of (zq_lit 8 14 (by decide) (by decide))]
    have eT : z1.1 1 (8 : Int32).toNatClampNeg = nI g := by rw [hL.1]; exact eg
    simp only [eT]
    by_cases c : nI m < nI g
    · rw [if_pos c]
      refine key 0 ?_
      unfold f_ripe
      rw [eg, if_neg]
      intro q
      have h1 := Int32.lt_iff_toInt_lt.mp c
      have h2 := Int32.le_iff_toInt_le.mp q
      omega
    · rw [if_neg c]
      have hgm : g ≤ m := by
        have := (not_congr (nI_ltI (a := m) (b := g) (by omega) (by omega))).mp c
        omega
      rw [zz_ck_of (zq_lit 8 14 (by decide) (by decide)), zq_sub hgm, zz_ck_of (zq_k _ (by omega) (by decide)), nI_clamp (by omega)]
      refine key _ ?_
      unfold f_ripe
      rw [eg, if_pos (nI_le hgm (by omega)), nI_clamp (by omega), hL.2.2.1 16 ⟨by decide, by decide⟩]
      exact ht _ (by omega)
/-- what layMonths leaves: the data as they were, and all the sums of the months -/
def zLay (z z1 : zz_M) : Prop := z1.1 = z.1 ∧ z1.2.2 = z.2.2 ∧ (∀ q, q < 12 ∨ 18 < q → z1.2.1 q = z.2.1 q) ∧ ∀ j, j < 24 → z1.2.1 12 j = f_adj (dz z) j ∧ z1.2.1 13 j = f_rec (dz z) j ∧ z1.2.1 14 j = f_net (dz z) j ∧ z1.2.1 15 j = f_cert (dz z) j ∧ z1.2.1 16 j = f_tot (dz z) j ∧ z1.2.1 17 j = f_owed (dz z) j ∧ z1.2.1 18 j = f_int (dz z) j
theorem zr_layOwed (z : zz_M) (h : zInv (dz z)) (ht : ∀ j, j < 24 → z.2.1 16 j = f_tot (dz z) j) : ∃ z2, mX11_layOwed z = some ((), z2) ∧ zLo z z2 24 := by
  unfold mX11_layOwed
  exact zr_owed_loop z h ht 24 0 zz_N z (by omega) (by unfold zz_N; omega) ⟨rfl, rfl, fun _ _ => rfl, fun j hj => absurd hj (Nat.not_lt_zero j)⟩
theorem zr_layMonths (z : zz_M) (h : zInv (dz z)) : ∃ z1, mX11_layMonths z = some ((), z1) ∧ zLay z z1 := by
  unfold mX11_layMonths
  rw [zr_sumNow z h, zz_b1_s, zz_ck_of (zq_lit 4 14 (by decide) (by decide)), zr_th, zz_b1_s]
  obtain ⟨z2, e2, L1, L2, L3, L4⟩ := zr_lay_loop z h 24 0 zz_N z (by omega) (by unfold zz_N; omega) ⟨rfl, rfl, fun _ _ => rfl, fun j hj => absurd hj (Nat.not_lt_zero j)⟩
  have e : dz z2 = dz z := dz_eq L1 L2
  obtain ⟨z3, e3, M1, M2, M3, M4⟩ := zr_layOwed z2 (by rw [e]; exact h) (fun j hj => by rw [e]; exact (L4 j hj).2.2.2.2)
  refine ⟨z3, ?_, M1.trans L1, M2.trans L2, fun q hq => ?_, fun j hj => ?_⟩
  · refine Eq.trans e2 ?_
    rw [e3]
    rfl
  · rw [M3 q (by omega)]
    exact L3 q (by omega)
  · obtain ⟨a1, a2, a3, a4, a5⟩ := L4 j hj
    obtain ⟨b1, b2⟩ := M4 j hj
    rw [e] at b1 b2
    exact ⟨by rw [M3 12 (by decide)]; exact a1, by rw [M3 13 (by decide)]; exact a2, by rw [M3 14 (by decide)]; exact a3, by rw [M3 15 (by decide)]; exact a4, by rw [M3 16 (by decide)]; exact a5, b1, b2⟩
