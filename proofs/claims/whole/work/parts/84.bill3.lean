/-! ===== bill: all items read by both ===== -/
theorem f_sg_cg {g g' : Nat → Int32} {n : Nat} (h : ∀ j, j < n → g j = g' j) : f_sg g n = f_sg g' n := by
  funext p
  unfold f_sg
  by_cases c : p < n
  · rw [if_pos c, if_pos c, h p c]
  · rw [if_neg c, if_neg c]
theorem f_nk_cg {g g' : Nat → Int32} {n : Nat} (h : f_sg g n = f_sg g' n) (p : Nat) : f_nk g n p = f_nk g' n p := by
  unfold f_nk f_D
  rw [h]
theorem f_nv_cg {g g' : Nat → Int32} {n : Nat} (h : f_sg g n = f_sg g' n) (p : Nat) : f_nv g n p = f_nv g' n p := by
  unfold f_nv f_dv f_D
  rw [h]
theorem f_nf_cg {g g' : Nat → Int32} {n : Nat} (h : f_sg g n = f_sg g' n) (p : Nat) : f_nf g n p = f_nf g' n p := by
  unfold f_nf
  rw [f_nk_cg h]
theorem f_p2_cg {g g' : Nat → Int32} {n : Nat} (h : f_sg g n = f_sg g' n) (p : Nat) : f_p2 g n p = f_p2 g' n p := by
  unfold f_p2
  rw [f_nk_cg h]
theorem f_ie_cg {g g' : Nat → Int32} {n : Nat} (h : f_sg g n = f_sg g' n) (p : Nat) : f_ie g n p = f_ie g' n p := by
  unfold f_ie
  rw [f_p2_cg h, f_nk_cg h]
theorem f_kd_cg {g g' : Nat → Int32} {n : Nat} (h : f_sg g n = f_sg g' n) (p : Nat) : f_kd g n p = f_kd g' n p := by
  unfold f_kd
  rw [h]
theorem f_N_cg {g g' : Nat → Int32} {n : Nat} (h : f_sg g n = f_sg g' n) (p : Nat) : f_N g n p = f_N g' n p := by
  unfold f_N
  rw [f_nk_cg h, f_nv_cg h]
theorem f_iok_cg {g g' : Nat → Int32} {n : Nat} (h : f_sg g n = f_sg g' n) (p : Nat) : f_iok g n p = f_iok g' n p := by
  unfold f_iok f_K
  rw [f_N_cg h, f_N_cg h, f_p2_cg h, h]
theorem f_if_cg {g g' : Nat → Int32} {n : Nat} (h : f_sg g n = f_sg g' n) (p : Nat) : f_if g n p = f_if g' n p := by
  have hK : f_K g n p = f_K g' n p := by unfold f_K; rw [h]
  have hN := f_N_cg h (p + 2)
  have h1 : f_sg g n (p + 1) = f_sg g' n (p + 1) := by rw [h]
  have h2 : f_sg g n (f_p2 g n p) = f_sg g' n (f_p2 g' n p) := by rw [h, f_p2_cg h]
  unfold f_if
  rw [f_nf_cg h, f_nf_cg h, f_p2_cg h]
  simp only [hK, hN, h1, f_p2_cg h, h]
/-- the items that both have read -/
def zIt (k : Nat) (s z : zz_M) : Prop := ∀ i, i < k → s.1 5 i = z.1 11 (3 * i) ∧ s.1 6 i = z.1 11 (3 * i + 1) ∧ s.1 7 i = z.1 11 (3 * i + 2) ∧ (∃ j : Nat, j < 5 ∧ z.1 11 (3 * i) = nI j) ∧ (∃ j : Nat, 1 ≤ j ∧ j < 1000 ∧ z.1 11 (3 * i + 1) = nI j) ∧ ∃ j : Nat, 1 ≤ j ∧ j < 1000 ∧ z.1 11 (3 * i + 2) = nI j
theorem zr_b180F {z : zz_M} {F : Nat} (hF : F < 1000) (h : z.2.2.1 22 = nI F) (v : Int32) : mX11_bill_b180 v z = some (-1 - nI F, z) := by
  unfold mX11_bill_b180
  rw [h, if_neg (nI_n1 (by omega))]
theorem zr_b30F {z : zz_M} {F : Nat} (hF : F < 1000) (h : z.2.2.1 22 = nI F) (f : Nat) (v : Int32) : mX11_bill_b30 (f + 1) v z = some (-1 - nI F, z) := by
  rw [mX11_bill_b30, h, if_neg (nI_n1 (by omega))]
  exact zr_b180F hF h v
theorem J_read {n : Nat} (hn : n ≤ 120) : ∀ (j k p fuel fuel' : Nat) (s z : zz_M), k + j = 10 → 0 < j → j < fuel → j + 2 < fuel' → p ≤ n → s.2.2.1 65 = nI n → s.2.2.1 193 = nI p → s.2.2.1 259 = nI k → z.2.2.1 20 = nI n → z.2.2.1 21 = nI p → z.2.2.1 22 = -1 → (∀ i, i < n → s.1 2 i = f_tx z i) → zIt k s z →
    (∃ F s' z', F ≤ n ∧ mX1_read_b23 fuel (nI k) s = some (-1 - nI F, s') ∧ mX11_bill_b73 (mX11_bill_b30 fuel') (nI k) z = some (-1 - nI F, z') ∧ zBc s s' ∧ zBr 0 z z') ∨
    (∃ K s' z', K ≤ 10 ∧ mX1_read_b23 fuel (nI k) s = some (nI K, s') ∧ mX11_bill_b73 (mX11_bill_b30 fuel') (nI k) z = mX11_bill_b180 (nI K) z' ∧ z'.2.2.1 22 = -1 ∧ zBc s s' ∧ zBr 0 z z' ∧ s'.2.2.1 259 = nI K ∧ zIt K s' z') := by
  intro j
  induction j with
  | zero => intro k p fuel fuel' s z _ h0; exact absurd h0 (by omega)
  | succ j ih =>
    intro k p fuel fuel' s z hk _ hf hf' hp e65 e193 e259 e20 e21 e22 htx hit
    obtain ⟨f, rfl⟩ : ∃ f, fuel = f + 1 := ⟨fuel - 1, by omega⟩
    obtain ⟨f', rfl⟩ : ∃ f', fuel' = f' + 1 := ⟨fuel' - 1, by omega⟩
    have hk10 : k < 10 := by omega
    have hcg : f_sg (s.1 2) n = f_sg (f_tx z) n := f_sg_cg htx
    obtain ⟨r, s1, a1, a2, a3, a4⟩ := zc_readItem (s := s) rfl hn e65 hp e193 hk10 e259
    rw [f_iok_cg hcg, f_ie_cg hcg, f_kd_cg hcg, f_nv_cg hcg, f_p2_cg hcg, f_nv_cg hcg] at a3
    rw [f_iok_cg hcg, f_if_cg hcg] at a4
    have hDc : ∀ q, f_D (s.1 2) n q = f_D (f_tx z) n q := fun q => by unfold f_D; rw [hcg]
    rw [hDc] at a4
    obtain ⟨z1, b1, b2, b3, b4⟩ := zr_item (K := mX11_bill_b30 (f' + 1)) hk10 (z := z) rfl hn e20 hp e21 e22
    have s65 : s1.2.2.1 65 = nI n := by rw [a2.2.2.2 65 (by omega) (by omega) (by omega)]; exact e65
    have s2 : s1.1 2 = s.1 2 := a2.2.2.1 2 (by omega)
    have z20 : z1.2.2.1 20 = nI n := by rw [b2.2.2.2.2 20 (by omega) (by omega)]; exact e20
    have ztx : f_tx z1 = f_tx z := b2.tx
    have hr0 : zBr 0 z z1 := zBr.tr (by omega) (zBr.rf 0 z) b2
    rw [mX1_read_b23, if_neg (show ¬ (10 : Int32) ≤ nI k from nI_ge hk10 (by decide)), a1, zz_b2_s, b1]
    by_cases c : f_iok (f_tx z) n p
    · obtain ⟨r1, r2, r3, r4, r5, r6⟩ := a3 c
      obtain ⟨w1, w2, w3, w4, w5⟩ := b3 c
      have le := f_ie_le c
      have hit1 : zIt (k + 1) s1 z1 := by
        intro i hi
        by_cases q : i = k
        · subst q
          rw [r4, r5, r6, upd_at, upd_at, upd_at, w3, w4, w5]
          have k5 := (f_K_sg c.1).2
          have n1 := f_nv_bd (f_tx z) n (p + 2)
          have n2 := f_nv_bd (f_tx z) n (f_p2 (f_tx z) n p + 1)
          have m1 := c.2.2.1.2.2
          have m2 := c.2.2.2.2.2.2
          exact ⟨rfl, rfl, rfl, ⟨_, k5, rfl⟩, ⟨_, by omega, by omega, rfl⟩, ⟨_, by omega, by omega, rfl⟩⟩
        · rw [r4, r5, r6, upd_off _ _ q, upd_off _ _ q, upd_off _ _ q, b2.2.2.2.1 (3 * i) (by omega), b2.2.2.2.1 (3 * i + 1) (by omega), b2.2.2.2.1 (3 * i + 2) (by omega)]
          exact hit i (by omega)
      rw [r1, if_neg zq_not0, r2, s65, r3]
      by_cases c2 : f_ie (f_tx z) n p = n
      · rw [c2, if_pos rfl]
        refine Or.inr ⟨k + 1, s1, z1, by omega, rfl, ?_, w1, a2, hr0, r3, hit1⟩
        rw [mX11_bill_b30, if_pos w1, z20, w2, c2, if_pos (nI_le_r n)]
      · have hne : ¬ nI (f_ie (f_tx z) n p) = nI n := by
          intro q
          have := congrArg Int32.toInt q
          rw [nI_toInt (by omega), nI_toInt (by omega)] at this
          omega
        rw [if_neg hne, mX11_bill_b30, if_pos w1, z20, w2, if_neg (nI_lt_n (by omega) (by omega)), if_neg (nI_pos_le (by omega) (by omega))]
        unfold mX1_read_b79 mX11_bill_b67
        by_cases c9 : k = 9
        · subst c9
          have hF : (zz_sF z1 22 (nI (f_ie (f_tx z) n p))).2.2.1 22 = nI (f_ie (f_tx z) n p) := zsF_at _ _ _
          have hFn : ¬ (zz_sF z1 22 (nI (f_ie (f_tx z) n p))).2.2.1 22 = -1 := by rw [hF]; exact nI_n1 (by omega)
          rw [if_pos (show nI 9 = (9 : Int32) from rfl), if_pos (show nI (9 + 1) = (10 : Int32) from rfl), zr_fault0 w1, zz_b2_s, zr_expectF hFn, zz_b2_s, r2]
          unfold mX11_bill_b73
          rw [if_neg hFn]
          obtain ⟨f2, rfl⟩ : ∃ f2, f' = f2 + 1 := ⟨f' - 1, by omega⟩
          refine Or.inl ⟨f_ie (f_tx z) n p, s1, zz_sF z1 22 (nI (f_ie (f_tx z) n p)), le.1, rfl, ?_, a2, zBr.tr (Nat.le_refl _) hr0 (((zBn.rf _).b _).br _)⟩
          exact zr_b30F (by omega) hF f2 _
        · have h9 : ¬ nI k = (9 : Int32) := by
            intro q
            have := congrArg Int32.toInt q
            rw [nI_toInt (by omega)] at this
            have e9 : (9 : Int32).toInt = 9 := rfl
            omega
          have h10 : ¬ nI (k + 1) = (10 : Int32) := by
            intro q
            have := congrArg Int32.toInt q
            rw [nI_toInt (by omega)] at this
            have e9 : (10 : Int32).toInt = 10 := rfl
            omega
          rw [if_neg h9, if_neg h10, zc_pass hn s65 (p := f_ie (f_tx z) n p) (by omega) r2, s2, hcg, zr_expect hn z20 (p := f_ie (f_tx z) n p) (by omega) w2 w1, zz_b2_s, ztx]
          by_cases c3 : f_sg (f_tx z) n (f_ie (f_tx z) n p) = 59
          · have l3 := f_sg_lt (by decide) c3
            rw [if_pos c3, if_pos c3, zz_b2_s, if_neg zq_not0, zz_nm_s, nI_1]
            have hb2 : zBr 0 z (zz_sF z1 21 (nI (f_ie (f_tx z) n p + 1))) := zBr.tr (Nat.le_refl _) hr0 (((zBn.rf _).a _).br _)
            have ha2 : zBc s (zz_sF s1 193 (nI (f_ie (f_tx z) n p + 1))) := a2.a _
            rcases ih (k + 1) (f_ie (f_tx z) n p + 1) f f' (zz_sF s1 193 (nI (f_ie (f_tx z) n p + 1))) (zz_sF z1 21 (nI (f_ie (f_tx z) n p + 1))) (by omega) (by omega) (by omega) (by omega) (by omega) (by rw [zsF_ne _ _ (by omega)]; exact s65) (zsF_at _ _ _) (by rw [zsF_ne _ _ (by omega)]; exact r3) (by rw [zsF_ne _ _ (by omega)]; exact z20) (zsF_at _ _ _) (by rw [zsF_ne _ _ (by omega)]; exact w1) (fun i hi => by
              show s1.1 2 i = f_tx z1 i
              rw [s2, ztx]
              exact htx i hi) hit1 with ⟨F, s', z', q1, q2, q3, q4, q5⟩ | ⟨K, s', z', q1, q2, q3, q4, q5, q6, q7, q8⟩
            · exact Or.inl ⟨F, s', z', q1, q2, q3, ha2.tr q4, zBr.tr (Nat.le_refl _) hb2 q5⟩
            · exact Or.inr ⟨K, s', z', q1, q2, q3, q4, ha2.tr q5, zBr.tr (Nat.le_refl _) hb2 q6, q7, q8⟩
          · rw [if_neg c3, if_neg c3, zz_b2_s, if_pos rfl, r2]
            have hF : (zz_sF (zz_sF z1 22 (nI (f_ie (f_tx z) n p))) 21 (nI (f_ie (f_tx z) n p + 1))).2.2.1 22 = nI (f_ie (f_tx z) n p) := by rw [zsF_ne _ _ (by omega), zsF_at]
            have hFn : ¬ (zz_sF (zz_sF z1 22 (nI (f_ie (f_tx z) n p))) 21 (nI (f_ie (f_tx z) n p + 1))).2.2.1 22 = -1 := by rw [hF]; exact nI_n1 (by omega)
            unfold mX11_bill_b73
            rw [if_neg hFn]
            obtain ⟨f2, rfl⟩ : ∃ f2, f' = f2 + 1 := ⟨f' - 1, by omega⟩
            refine Or.inl ⟨f_ie (f_tx z) n p, s1, zz_sF (zz_sF z1 22 (nI (f_ie (f_tx z) n p))) 21 (nI (f_ie (f_tx z) n p + 1)), le.1, rfl, ?_, a2, zBr.tr (Nat.le_refl _) hr0 ((((zBn.rf _).b _).a _).br _)⟩
            exact zr_b30F (by omega) hF f2 _
    · obtain ⟨r2, r3⟩ := a4 c
      have w1 := b4 c
      have le := f_if_le (g := f_tx z) hp
      refine Or.inl ⟨f_if (f_tx z) n p, s1, z1, le, ?_, zr_b30F (by omega) w1 f' _, a2, hr0⟩
      rcases r3 with r3 | ⟨r3, r4⟩
      · rw [r3, if_pos rfl, r2]
      · have l4 := f_D_lt r4
        have hne : ¬ nI (f_if (f_tx z) n p) = nI n := by
          intro q
          have := congrArg Int32.toInt q
          rw [nI_toInt (by omega), nI_toInt (by omega)] at this
          omega
        rw [r3, if_neg zq_not0, r2, s65, if_neg hne]
        unfold mX1_read_b79
        rw [r2]
        by_cases c9 : nI k = (9 : Int32)
        · rw [if_pos c9]
        · rw [if_neg c9, zc_pass hn s65 (p := f_if (f_tx z) n p) (by omega) r2, s2, hcg, if_neg (f_D_not r4 (by decide)), zz_b2_s, if_pos rfl, r2]
