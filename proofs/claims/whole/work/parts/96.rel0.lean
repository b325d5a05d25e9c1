/-! ===== at the start both hold the same ===== -/
theorem zs_tm : ∀ j, j < 14 → zz_z0.1 14 j = zz_t0.1 1 j := by decide +kernel
theorem zs_tm2 : ∀ j, j < 14 → zz_t0.1 1 j = nI (zz_first j).toNatClampNeg ∧ nI (zz_first j).toNatClampNeg ≤ zz_great j ∧ (zz_first j).toNatClampNeg ≤ 1000 := by decide +kernel
theorem zs_ser : ∀ k, k < 12 → ∀ m, m < 24 → zz_z0.1 (16 + 3 * k + 1) m = -1 ∧ zz_z0.1 (16 + 3 * k + 2) m = (if k = 11 then 1000 else 0) := by decide +kernel
theorem zs_serF : ∀ k, k < 12 → zz_z0.2.2.1 (64 * (16 + 3 * k) + 2) = (if k = 11 then 1000 else 0) := by decide +kernel
theorem zR_start {zt : zz_M} (h : mX11_forget zz_t0 = some ((), zt)) : zR zz_z0 zt := by
  obtain ⟨z1, f1, F1, F2, F3, F4, F5, F6⟩ := zr_forget zz_t0
  have e9 : zt = z1 := (Prod.mk.inj (Option.some.inj (h.symm.trans f1))).2
  rw [e9]
  clear e9 h f1 zt
  have tF : ∀ q, z1.2.2.1 q = zFgF (fun _ => 0) q := fun q => by rw [F3]; rfl
  have n2 : d_n (dz z1) = 0 := by show z1.2.2.1 2 = _; rw [tF]; rfl
  have n6 : d_cm (dz z1) = 0 := by show z1.2.2.1 6 = _; rw [tF]; rfl
  have n8 : d_sm (dz z1) = 0 := by show z1.2.2.1 8 = _; rw [tF]; rfl
  have n9 : d_ho (dz z1) = 24 := by show z1.2.2.1 9 = _; rw [tF]; rfl
  have n10 : d_la (dz z1) = 24 := by show z1.2.2.1 10 = _; rw [tF]; rfl
  have n11 : d_du (dz z1) = 24 := by show z1.2.2.1 11 = _; rw [tF]; rfl
  have n12 : d_gr (dz z1) = 0 := by show z1.2.2.1 12 = _; rw [tF]; rfl
  have n1 : d_tm (dz z1) = zz_t0.1 1 := F4 1 (by omega)
  have nK : (d_n (dz z1)).toNatClampNeg = 0 := by rw [n2]; rfl
  have t3 : ∀ j, j < 240 → d_ms (dz z1) j = -9999 := F5
  have t4 : ∀ j, j < 24 → d_st (dz z1) j = -9999 ∧ d_ix (dz z1) j = -9999 ∧ d_pd (dz z1) j = 0 := F6
  have ser : ∀ k, k < 12 → ∀ (g : Nat → Int32) (w : Int32), (∀ m, m < 24 → g m = -9999) → w = (if k = 11 then 1000 else 0) → zSer zz_z0 k g w := by
    intro k hk g w hg hw
    refine ⟨fun m hm => ⟨?_, ?_⟩, ?_⟩
    · rw [(zs_ser k hk m hm).1, hg m hm]
      rfl
    · rw [(zs_ser k hk m hm).2, ← hw, f_last_un m (fun j hj => hg j (by omega))]
    · rw [zs_serF k hk, hw]
  refine ⟨⟨⟨?_, ⟨?_, ?_, ?_⟩, ⟨?_, ?_, ?_⟩, ⟨?_, ?_⟩, ⟨?_, ?_⟩, ?_, ?_, ?_, ?_⟩, ?_⟩, ?_, ?_, ?_⟩
  · intro j hj
    rw [n1]
    exact zs_tm j hj
  · rw [n2]; rfl
  · rw [nK]
    intro i hi
    exact absurd hi (Nat.not_lt_zero i)
  · unfold f_sum
    rw [nK]
    rfl
  · intro k hk
    exact ser k (by omega) _ 0 (fun m hm => t3 _ (by omega)) (by rw [if_neg (by omega)])
  · exact ser 10 (by omega) _ 0 (fun m hm => (t4 m hm).1) rfl
  · exact ser 11 (by omega) _ 1000 (fun m hm => (t4 m hm).2.1) rfl
  · rw [n6]; rfl
  · rw [n6]
    intro c hc
    exact absurd hc (Nat.not_lt_zero c)
  · rw [n8]; rfl
  · rw [n8]
    intro c hc
    exact absurd hc (Nat.not_lt_zero c)
  · rw [n9]; rfl
  · rw [n10]; rfl
  · rw [n11]; rfl
  · rw [n12]; rfl
  · intro m hm
    rw [(t4 m hm).2.2]
    rfl
  · refine ⟨⟨0, by omega, n2, fun i hi => absurd hi (Nat.not_lt_zero i), fun m i hm hi _ => t3 _ (by omega)⟩, ⟨0, by omega, n6, fun i hi => absurd hi (Nat.not_lt_zero i)⟩, ⟨0, by omega, n8, fun i hi => absurd hi (Nat.not_lt_zero i)⟩, ⟨24, by omega, n9⟩, ⟨24, by omega, n10⟩, ⟨24, by omega, n11⟩, ⟨0, by omega, n12⟩, ?_, fun m i hm hi => Or.inl (t3 _ (by omega)), fun m hm => Or.inl (t4 m hm).1, fun m hm => Or.inl (t4 m hm).2.1, fun m hm => ⟨0, by omega, (t4 m hm).2.2⟩⟩
    intro j hj
    rw [n1]
    exact ⟨_, zs_tm2 j hj⟩
  · refine ⟨0, by omega, rfl, ?_, fun j hj => absurd hj (Nat.not_lt_zero j)⟩
    rw [tF]; rfl
  · refine ⟨0, by omega, rfl, ?_, fun j hj => absurd hj (Nat.not_lt_zero j)⟩
    rw [tF]; rfl
