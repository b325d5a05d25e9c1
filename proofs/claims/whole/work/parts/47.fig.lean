/-! ===== the class reckons its figures ===== -/
def f_paidP (P : Nat → Int64) (m : Nat) : Int64 := f_acc P 0 (m + 1)
def f_owedP (d : zD) (P : Nat → Int64) (m : Nat) : Int64 := if f_ripe d m - f_paidP P m < 0 then 0 else f_ripe d m - f_paidP P m
def f_intP (d : zD) (P : Nat → Int64) (m : Nat) : Int64 := f_th (f_owedP d P m) (d_tm d 7)
def f_intTillP (d : zD) (P : Nat → Int64) (m : Nat) : Int64 := f_acc (fun k => f_intP d P k) 0 (m + 1)
def f_fig (d : zD) (P : Nat → Int64) (w m : Nat) : Int64 := match w with
  | 0 => f_work d m
  | 1 => f_varied d m
  | 2 => f_mat d m
  | 3 => f_ret d m
  | 4 => f_rec d m
  | 5 => f_set d m
  | 6 => f_net d m
  | 7 => f_cert d m
  | 8 => f_tot d m
  | 9 => f_owedP d P m
  | 10 => f_intP d P m
  | 11 => f_intTillP d P m
  | 12 => f_paidP P m
  | 13 => f_dam d m
  | _ => f_adj d m
theorem zc_row (s : zz_M) (ff w : Nat) (hw : w < 15) {m : Nat} (hm : m < 24) : mX4_of ff (OfNat.ofNat w) (nI m) s = some (s.2.1 (ff + 2 + w) m) := by
  unfold mX4_of
  rw [zz_ck_of (zq_lit w 15 hw (by decide)), zz_ck_of (zq_k _ hm (by decide)), zq_clit (by omega), nI_clamp (by omega)]
theorem zc_ahead (s : zz_M) (ff w : Nat) (hw : w < 15) {m : Nat} (hm : m < 24) : mX4_ahead ff (OfNat.ofNat w) (nI m) s = some (f_prev (fun j => s.2.1 (ff + 2 + w) j) m) := by
  unfold mX4_ahead mX4_ahead_b18
  cases m with
  | zero => rw [if_pos (show nI 0 ≤ 0 from nI_le (a := 0) (b := 0) (Nat.le_refl _) (by decide))]; rfl
  | succ m =>
    rw [if_neg (nI_nle (by omega) (by omega)), zz_ck_of (zq_lit w 15 hw (by decide)), nI_pred, zz_ck_of (zq_k _ (show m < 24 by omega) (by decide)), zq_clit (by omega), nI_clamp (by omega)]
    rfl
theorem zc_fresh (s : zz_M) (ff w : Nat) (hw : w < 15) {m : Nat} (hm : m < 24) : mX4_fresh ff (OfNat.ofNat w) (nI m) s = some (s.2.1 (ff + 2 + w) m - f_prev (fun j => s.2.1 (ff + 2 + w) j) m) := by
  unfold mX4_fresh
  rw [zc_row s ff w hw hm, zz_b1_s, zc_ahead s ff w hw hm, zz_b1_s]
theorem zw_R (s : zz_M) (ff w m : Nat) (x : Int64) (hm : m < 24) (w' j : Nat) : (zz_wJ s (ff + 2 + w) (nI m) x).2.1 (ff + 2 + w') j = if w' = w ∧ j = m then x else s.2.1 (ff + 2 + w') j := by
  by_cases c : w' = w
  · subst c
    by_cases c2 : j = m
    · subst c2
      rw [zw_J_same _ _ _ _ (by omega), if_pos ⟨rfl, rfl⟩]
    · rw [zw_J_off _ _ _ (by omega) c2, if_neg (fun q => c2 q.2)]
  · rw [zw_J_ne _ _ _ (by omega), if_neg (fun q => c q.1)]
theorem zw_O (s : zz_M) (ff w m : Nat) (x : Int64) {q : Nat} (hq : q ≠ ff + 2 + w) : (zz_wJ s (ff + 2 + w) (nI m) x).2.1 q = s.2.1 q := zw_J_ne s _ x hq
theorem f_prev_eq {g g' : Nat → Int64} {m : Nat} (h : ∀ j, m = j + 1 → g j = g' j) : f_prev g m = f_prev g' m := by
  cases m with
  | zero => rfl
  | succ m => exact h m rfl
def zW7 (s : zz_M) (ff m : Nat) (a b c e f g h : Int64) : zz_M := zz_wJ (zz_wJ (zz_wJ (zz_wJ (zz_wJ (zz_wJ (zz_wJ s (ff + 2 + 2) (nI m) a) (ff + 2 + 14) (nI m) b) (ff + 2 + 3) (nI m) c) (ff + 2 + 4) (nI m) e) (ff + 2 + 5) (nI m) f) (ff + 2 + 13) (nI m) g) (ff + 2 + 6) (nI m) h
theorem zc_reckonNet {s : zz_M} {d : zD} (h : zC0 s d) (hI : zInv d) {m : Nat} (hm : m < 24) (ff : Nat) (h0 : s.2.1 (ff + 2 + 0) m = f_work d m) (h1 : ∀ j, m = j + 1 → s.2.1 (ff + 2 + 0) j = f_work d j ∧ s.2.1 (ff + 2 + 14) j = f_adj d j ∧ s.2.1 (ff + 2 + 4) j = f_rec d j) :
    mX4_reckonNet ff (nI m) s = some ((), zW7 s ff m (f_mat d m) (f_adj d m) (f_ret d m) (f_rec d m) (f_set d m) (f_dam d m) (f_net d m)) := by
  have p0 : f_prev (fun j => s.2.1 (ff + 2 + 0) j) m = f_prev (f_work d) m := f_prev_eq (fun j hj => (h1 j hj).1)
  have p14 : f_prev (fun j => s.2.1 (ff + 2 + 14) j) m = f_prev (f_adj d) m := f_prev_eq (fun j hj => (h1 j hj).2.1)
  have p4 : f_prev (fun j => s.2.1 (ff + 2 + 4) j) m = f_prev (f_rec d) m := f_prev_eq (fun j hj => (h1 j hj).2.2)
  have k0 := zc_of h 0 (by decide)
  have kr := zc_retained h hI (d_tm d 0) m
  have h6 : ∀ (s1 : zz_M) (q : Nat) (x : Int64), zC0 s1 d → zC0 (zz_wJ s1 q (nI m) x) d := fun s1 q x g => zC0_eq rfl rfl g
  unfold mX4_reckonNet
  rw [zc_row s ff 0 (by decide) hm, zz_b1_s, zc_materials h hm, zz_b1_s, zc_ahead s ff 14 (by decide) hm, zz_b1_s, zc_fresh s ff 0 (by decide) hm, zz_b1_s, h0, p0, p14, zc_adjustedFor h hm, zz_b1_s, zz_nm_s, k0, zz_b1_s, kr, zz_b1_s, zc_ahead s ff 4 (by decide) hm, zz_b1_s, p4, zc_recoveredFor h hI hm, zz_b1_s, zc_allHeldIn h hI, zz_b1_s, zc_damages h hI hm, zz_b1_s, zr_recB, zr_adjB, f_retT_0]
  have ga := zc_advanced (h6 _ (ff + 2 + 13) (f_dam d m) (h6 _ (ff + 2 + 5) (f_set d m) (h6 _ (ff + 2 + 4) (f_rec d m) (h6 _ (ff + 2 + 3) (f_ret d m) (h6 _ (ff + 2 + 14) (f_adj d m) (h6 _ (ff + 2 + 2) (f_mat d m) h))))))
  simp only [zz_ck_of (zq_k (n := 24) m hm (by decide)), zz_ck_of (zq_lit 2 15 (by decide) (by decide)), zz_ck_of (zq_lit 14 15 (by decide) (by decide)), zz_ck_of (zq_lit 3 15 (by decide) (by decide)), zz_ck_of (zq_lit 4 15 (by decide) (by decide)), zz_ck_of (zq_lit 5 15 (by decide) (by decide)), zz_ck_of (zq_lit 13 15 (by decide) (by decide)), zz_ck_of (zq_lit 6 15 (by decide) (by decide)), zz_nm_s]
  refine (congrArg (fun q => zz_b1 q _) ga).trans ?_
  rfl
theorem zc_cert32 (s : zz_M) (ff : Nat) {m : Nat} (hm : m < 24) (v : Int64) : mX4_reckonCertified_b32 ff (nI m) v s = some ((), zz_wJ (zz_wJ s (ff + 2 + 7) (nI m) v) (ff + 2 + 8) (nI m) (f_prev (fun j => s.2.1 (ff + 2 + 8) j) m + v)) := by
  unfold mX4_reckonCertified_b32
  rw [zz_ck_of (zq_lit 7 15 (by decide) (by decide)), zz_ck_of (zq_k _ hm (by decide)), zz_nm_s, zz_ck_of (zq_lit 8 15 (by decide) (by decide)), zc_ahead _ ff 8 (by decide) hm, zz_b1_s, zz_ck_of (zq_k _ hm (by decide)), zz_nm_s]
  have e : (fun j => (zz_wJ s (ff + 2 + (7 : Int32).toNatClampNeg) (nI m) v).2.1 (ff + 2 + 8) j) = fun j => s.2.1 (ff + 2 + 8) j := by
    funext j
    exact congrFun (zw_O s ff 7 m v (show ff + 2 + 8 ≠ ff + 2 + 7 by omega)) j
  rw [e]
  rfl
theorem zc_reckonCertified {s : zz_M} {d : zD} (h : zC0 s d) {m : Nat} (hm : m < 24) (ff : Nat) (h0 : s.2.1 (ff + 2 + 6) m = f_net d m) (h1 : ∀ j, m = j + 1 → s.2.1 (ff + 2 + 8) j = f_tot d j) :
    mX4_reckonCertified ff (nI m) s = some ((), zz_wJ (zz_wJ s (ff + 2 + 7) (nI m) (f_cert d m)) (ff + 2 + 8) (nI m) (f_tot d m)) := by
  have p8 : f_prev (fun j => s.2.1 (ff + 2 + 8) j) m = f_prev (f_tot d) m := f_prev_eq h1
  obtain ⟨e0, e1, e2, e3⟩ := h.2.2.2.2.2
  unfold mX4_reckonCertified
  rw [zc_row s ff 6 (by decide) hm, zz_b1_s, zc_ahead s ff 8 (by decide) hm, zz_b1_s, zz_nm_s, h0, p8, e1]
  have key : ∀ v, v = f_cert d m → mX4_reckonCertified_b32 ff (nI m) v s = some ((), zz_wJ (zz_wJ s (ff + 2 + 7) (nI m) (f_cert d m)) (ff + 2 + 8) (nI m) (f_tot d m)) := by
    intro v ev
    rw [zc_cert32 s ff hm, p8, ev, zr_totB]
  by_cases c1 : (0 : Int32) ≤ lg_cmp (f_net d m - f_prev (f_tot d) m) 0
  · rw [if_pos c1]
    rw [lg_cmp_ge] at c1
    refine key _ ?_
    rw [← zr_certB]
    unfold f_certOf
    rw [if_neg (fun q => zl_nlt.mpr c1 q.1)]
  · rw [if_neg c1]
    rw [lg_cmp_ge] at c1
    by_cases c2 : d_la d ≤ nI m
    · rw [if_pos c2]
      refine key _ ?_
      rw [← zr_certB]
      unfold f_certOf
      rw [if_neg (fun q => zi_nlt.mpr c2 q.2)]
    · rw [if_neg c2]
      refine key _ ?_
      rw [← zr_certB]
      unfold f_certOf
      rw [if_pos ⟨zl_nle.mp c1, zi_nle.mp c2⟩]
