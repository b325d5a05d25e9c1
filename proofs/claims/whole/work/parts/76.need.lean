/-! ===== needed ===== -/
theorem zz_up_at {α : Type} (f : Nat → α) (k : Nat) (v : α) : va_up f k v k = v := by simp [va_up]
theorem zsF_2 (z : zz_M) (q : Nat) (a b : Int32) : zz_sF (zz_sF z q a) q b = zz_sF z q b := by
  unfold zz_sF
  have : va_up (va_up z.2.2.1 q a) q b = va_up z.2.2.1 q b := by
    funext j
    by_cases e : j = q
    · subst e; rw [zz_up_at, zz_up_at]
    · rw [va_up_ne _ _ e, va_up_ne _ _ e, va_up_ne _ _ e]
  rw [this]
theorem zsF_self (z : zz_M) {q : Nat} {a : Int32} (h : z.2.2.1 q = a) : zz_sF z q a = z := by
  unfold zz_sF
  have : va_up z.2.2.1 q a = z.2.2.1 := by
    funext j
    by_cases e : j = q
    · subst e; rw [zz_up_at, h]
    · rw [va_up_ne _ _ e]
  rw [this]
theorem zsF_at (z : zz_M) (q : Nat) (a : Int32) : (zz_sF z q a).2.2.1 q = a := zz_up_at _ _ _
theorem zsF_ne (z : zz_M) {q p : Nat} (a : Int32) (h : p ≠ q) : (zz_sF z q a).2.2.1 p = z.2.2.1 p := va_up_ne _ _ h
theorem f_damBy_0 {d : zD} (h : zInv d) {B : Nat} (hB : 23 ≤ B) (hB2 : B < 1000) : (f_damBy d (nI B) 23).toInt ≤ 0 := by
  obtain ⟨ho, ho1, eho⟩ := h.2.2.2.1
  have e0 : (0 : Int32).toInt = 0 := rfl
  have e2 : (if d_ho d < nI 23 then d_ho d else nI 23).toInt ≤ 23 ∧ 0 ≤ (if d_ho d < nI 23 then d_ho d else nI 23).toInt := by
    by_cases c2 : d_ho d < nI 23
    · rw [if_pos c2]
      rw [Int32.lt_iff_toInt_lt, nI_toInt (show 23 < 2 ^ 31 by omega)] at c2
      rw [eho, nI_toInt (by omega)] at c2 ⊢
      omega
    · rw [if_neg c2, nI_toInt (by omega)]; omega
  have el : f_late d (nI B) 23 = 0 := by
    unfold f_late
    rw [if_neg]
    intro q
    rw [Int32.lt_iff_toInt_lt, zi_sub (by rw [nI_toInt (by omega)]; omega) (by rw [nI_toInt (by omega)]; omega), nI_toInt (by omega)] at q
    omega
  unfold f_damBy
  by_cases c : d_du d = 24
  · rw [if_pos c]; decide
  · rw [if_neg c, el, show (0 : Int32).toInt64 = 0 from rfl, Int64.zero_mul, zl_min0 (f_most_bd h).1]
    decide
theorem f_adj_cg {d d' : zD} (h1 : ∀ m, f_work d' m = f_work d m) (h2 : d_ix d' = d_ix d) (h3 : d_tm d' 13 = d_tm d 13) : ∀ m, f_adj d' m = f_adj d m := by
  have hs : ∀ m a, f_step d' m a = f_step d m a := by
    intro m a
    unfold f_step f_index
    rw [h1, h2, h3]
  intro m
  induction m with
  | zero =>
    show 0 + f_step d' 0 0 = 0 + f_step d 0 0
    rw [hs]
  | succ m ih =>
    show f_adj d' m + f_step d' (m + 1) (f_work d' m) = f_adj d m + f_step d (m + 1) (f_work d m)
    rw [ih, hs, h1]
theorem f_rec_cg {d d' : zD} (h1 : ∀ m b, f_recB d' m b = f_recB d m b) : ∀ m, f_rec d' m = f_rec d m := by
  intro m
  induction m with
  | zero =>
    show f_recB d' 0 0 = f_recB d 0 0
    rw [h1]
  | succ m ih =>
    show f_recB d' (m + 1) (f_rec d' m) = f_recB d (m + 1) (f_rec d m)
    rw [ih, h1]
theorem f_net_cg {d d' : zD} {m : Nat} (a1 : f_work d' m = f_work d m) (a2 : f_mat d' m = f_mat d m) (a3 : f_adv d' = f_adv d) (a4 : f_adj d' m = f_adj d m) (a5 : f_ret d' m = f_ret d m) (a6 : f_rec d' m = f_rec d m) (a7 : f_set d' m = f_set d m) (a8 : f_dam d' m = f_dam d m) : f_net d' m = f_net d m := by
  unfold f_net
  rw [a1, a2, a3, a4, a5, a6, a7, a8]
theorem f_tot_cg {d d' : zD} (h1 : ∀ m, f_net d' m = f_net d m) (h2 : d_la d' = d_la d) : ∀ m, f_tot d' m = f_tot d m := by
  have hs : ∀ m a, f_certB d' m a = f_certB d m a := by
    intro m a
    unfold f_certB
    rw [h1, h2]
  intro m
  induction m with
  | zero =>
    show 0 + f_certB d' 0 0 = 0 + f_certB d 0 0
    rw [hs]
  | succ m ih =>
    show f_tot d' m + f_certB d' (m + 1) (f_tot d' m) = f_tot d m + f_certB d (m + 1) (f_tot d m)
    rw [ih, hs]
theorem f_damBy_cg {d d' : zD} (h1 : d_it d' = d_it d) (h2 : d_n d' = d_n d) (h3 : d_ho d' = d_ho d) (h4 : d_tm d' = d_tm d) (h5 : d_du d' = 24 ↔ d_du d = 24) (b : Int32) (m : Nat) : f_damBy d' b m = f_damBy d b m := by
  have hs := f_sum_cg h1 h2
  have hl : f_late d' b m = f_late d b m := by
    unfold f_late
    rw [h3]
  have hm : f_most d' = f_most d := by
    unfold f_most
    rw [hs, h4]
  unfold f_damBy
  rw [hl, hs, hm, h4]
  by_cases c : d_du d = 24
  · rw [if_pos c, if_pos (h5.mpr c)]
  · rw [if_neg c, if_neg (fun q => c (h5.mp q))]
theorem f_tot_cgA {d d' : zD} (h1 : d_it d' = d_it d) (h2 : d_n d' = d_n d) (h3 : d_ms d' = d_ms d) (h4 : d_ch d' = d_ch d) (h5 : d_cm d' = d_cm d) (h6 : d_tm d' = d_tm d) (h7 : d_st d' = d_st d) (h8 : d_se d' = d_se d) (h9 : d_sm d' = d_sm d) (h10 : d_ix d' = d_ix d) (h11 : d_ho d' = d_ho d) (h12 : d_la d' = d_la d) (h13 : ∀ m, f_dam d' m = f_dam d m) : ∀ m, f_tot d' m = f_tot d m := by
  have hw : ∀ m, f_work d' m = f_work d m := fun m => f_work_cg h1 h2 h3 h4 h5 (by rw [h6]) (by rw [h6]) m
  have hs := f_sum_cg h1 h2
  have hmat : ∀ m, f_mat d' m = f_mat d m := fun m => by
    unfold f_mat f_stored
    rw [h11, h7, h6]
  have hadv : f_adv d' = f_adv d := by
    unfold f_adv
    rw [hs, h6]
  have hlim : f_limit d' = f_limit d := by
    unfold f_limit
    rw [hs, h6]
  have hret : ∀ m, f_ret d' m = f_ret d m := fun m => by
    unfold f_ret f_keep0
    rw [hw, hlim, h6, h11, h12]
  have hrecB : ∀ m b, f_recB d' m b = f_recB d m b := fun m b => by
    unfold f_recB f_rec0
    rw [hw, hs, hadv, h6, h12]
  have hheld : ∀ s m, f_held d' s m = f_held d s m := fun s m => by
    unfold f_held
    rw [h8]
  have hset : ∀ m, f_set d' m = f_set d m := fun m => by
    unfold f_set
    rw [h9]
    simp only [hheld]
  have hadj := f_adj_cg hw h10 (by rw [h6])
  have hrec := f_rec_cg hrecB
  exact f_tot_cg (fun m => f_net_cg (hw m) (hmat m) hadv (hadj m) (hret m) (hrec m) (hset m) (h13 m)) h12
theorem f_damBy_sc {d : zD} {ho la a b a' b' : Int32} (h : a = 24 ↔ a' = 24) (x : Int32) (m : Nat) : f_damBy (d_sc d ho la a b) x m = f_damBy (d_sc d ho la a' b') x m :=
  f_damBy_cg (d := d_sc d ho la a' b') (d' := d_sc d ho la a b) rfl rfl rfl rfl h x m
theorem f_tot_scv {d : zD} {ho la a b a' b' : Int32} (h : ∀ m, f_dam (d_sc d ho la a b) m = f_dam (d_sc d ho la a' b') m) : ∀ m : Nat, f_tot (d_sc d ho la a b) m = f_tot (d_sc d ho la a' b') m :=
  f_tot_cgA (d := d_sc d ho la a' b') (d' := d_sc d ho la a b) rfl rfl rfl rfl rfl rfl rfl rfl rfl rfl rfl rfl h
theorem f_dam_scv (d : zD) (ho la a b : Int32) (m : Nat) : f_dam (d_sc d ho la a b) m = f_damBy (d_sc d ho la a b) (a + b) m := rfl
theorem f_dam_sc {d : zD} {ho la : Int32} {u g i : Nat} (hu : u + i < 24) (hu2 : u < 24) (m : Nat) : f_dam (d_sc d ho la (nI (u + i)) (nI g)) m = f_dam (d_sc d ho la (nI u) (nI (g + i))) m := by
  rw [f_dam_scv, f_dam_scv, nI_add, nI_add, show u + i + g = u + (g + i) by omega]
  exact f_damBy_sc ⟨fun q => absurd q (nI_not24 hu), fun q => absurd q (nI_not24 hu2)⟩ _ m
theorem f_tot_sc {d : zD} {ho la : Int32} {u g i : Nat} (hu : u + i < 24) (hu2 : u < 24) (m : Nat) : f_tot (d_sc d ho la (nI (u + i)) (nI g)) m = f_tot (d_sc d ho la (nI u) (nI (g + i))) m :=
  f_tot_scv (fun m => f_dam_sc hu hu2 m) m
/-- the class's memory, but for what is granted -/
def zNd (s s1 : zz_M) : Prop := s1.1 = s.1 ∧ s1.2.1 = s.2.1 ∧ s1.2.2.2 = s.2.2.2 ∧ ∀ q, q ≠ 523 → s1.2.2.1 q = s.2.2.1 q
theorem zNd_C {s s1 : zz_M} {d : zD} (h : zC s d) (k : zNd s s1) {v : Int32} (e : s1.2.2.1 523 = v) : zC s1 (d_sc d (d_ho d) (d_la d) (d_du d) v) := by
  obtain ⟨e0, e1, e2, e3⟩ := h.1.2.2.2.2.2
  exact zC_scal h k.1 k.2.1 (fun q hq => k.2.2.2 q (by omega)) ⟨by rw [k.2.2.2 520 (by omega)]; exact e0, by rw [k.2.2.2 521 (by omega)]; exact e1, by rw [k.2.2.2 522 (by omega)]; exact e2, e⟩
theorem J_needed {s t : zz_M} (h : zR s t) (F : zFg 64 (dz t) (fun k => (d_pd (dz t) k).toInt64) s) {u g : Nat} (hu : u < 24) (hg : g ≤ 40) (eu : d_du (dz t) = nI u) (eg : d_gr (dz t) = nI g) : ∀ (j i fuel : Nat) (s1 : zz_M), zNd s s1 → s1.2.2.1 523 = nI (g + i) → (i = 0 ∨ u + g + i ≤ 23) → i + j = 24 → j < fuel → zOk (mX10_needed_b36 fuel (nI g) (nI i) s1) (mX11_needed_b19 fuel (nI i) t) := by
  obtain ⟨hC, hI, hT, hW⟩ := id h
  obtain ⟨-, -, -, i1, i2, i3, i4, -⟩ := id hI
  have key : ∀ (i : Nat) (s1 : zz_M), zNd s s1 → s1.2.2.1 523 = nI (g + i) → (i = 0 ∨ u + g + i ≤ 23) → i ≤ 24 → zOk (mX10_needed_b72 (nI g) (nI i) s1) (zz_b2 (mX11_layAside t) (fun r13 z15 => zz_nm (zz_sF z15 11 ((z15.2.2.1 11) + nI i)) (fun z16 => if (z16.2.2.1 11) = (24 : Int32) then (zz_nm (zz_sF z16 11 ((z16.2.2.1 11) + (1 : Int32))) (fun z18 => mX11_needed_b85 (nI i) (t.2.2.1 11) z18)) else (mX11_needed_b85 (nI i) (t.2.2.1 11) z16)))) := by
    intro i s1 k1 e1 hi hi24
    have hui : u + i < 24 := by omega
    have C1 := zNd_C hC k1 e1
    have I1 : zInv (d_sc (dz t) (d_ho (dz t)) (d_la (dz t)) (d_du (dz t)) (nI (g + i))) := zInv_sc hI i1 i2 i3 ⟨g + i, by omega, rfl⟩
    obtain ⟨s2, a2, k2⟩ := zc_reckon (ff := 81) (Or.inr rfl) C1 I1
    obtain ⟨t1, x1, y1⟩ := zr_layAside t hI
    have e11 : t1.2.2.1 11 = nI u := by rw [y1.2.1]; exact eu
    have hd2 : dz (zz_sF t1 11 (nI (u + i))) = d_sc (dz t) (d_ho (dz t)) (d_la (dz t)) (nI (u + i)) (nI g) := by
      have : dz (zz_sF t1 11 (nI (u + i))) = d_sc (dz t1) (d_ho (dz t1)) (d_la (dz t1)) (nI (u + i)) (d_gr (dz t1)) := rfl
      rw [this, y1.d, eg]
    have ID2 : zInv (dz (zz_sF t1 11 (nI (u + i)))) := by
      rw [hd2]
      exact zInv_sc hI i1 i2 ⟨u + i, by omega, rfl⟩ ⟨g, hg, rfl⟩
    obtain ⟨t3, x3, y3⟩ := zr_layMonths _ ID2
    have eT : f_tot (d_sc (dz t) (d_ho (dz t)) (d_la (dz t)) (nI (u + i)) (nI g)) 23 = f_tot (d_sc (dz t) (d_ho (dz t)) (d_la (dz t)) (d_du (dz t)) (nI (g + i))) 23 := by
      rw [eu]
      exact f_tot_sc hui hu 23
    have G4 : zFg 81 (d_sc (dz t) (d_ho (dz t)) (d_la (dz t)) (d_du (dz t)) (nI (g + i))) (fun k => (d_pd (dz t) k).toInt64) (zz_sF s2 523 (nI g)) := k2.fg.eq rfl
    have F4 : zFg 64 (dz t) (fun k => (d_pd (dz t) k).toInt64) (zz_sF s2 523 (nI g)) := ((F.eq (z1 := s1) k1.2.1).rk k2).eq rfl
    have eM := zc_moreAsIf F4 G4 8 (by omega) (m := 23) (by omega)
    rw [show nI 23 = (23 : Int32) from rfl, show f_fig (d_sc (dz t) (d_ho (dz t)) (d_la (dz t)) (d_du (dz t)) (nI (g + i))) (fun k => (d_pd (dz t) k).toInt64) 8 23 - f_fig (dz t) (fun k => (d_pd (dz t) k).toInt64) 8 23 = f_tot (d_sc (dz t) (d_ho (dz t)) (d_la (dz t)) (d_du (dz t)) (nI (g + i))) 23 - f_tot (dz t) 23 from rfl] at eM
    obtain ⟨s5, a5, b5⟩ := zc_start (zz_sF s2 523 (nI g)) (f_tot (d_sc (dz t) (d_ho (dz t)) (d_la (dz t)) (d_du (dz t)) (nI (g + i))) 23 - f_tot (dz t) 23)
    have q0 := zr_row0 (zz_sF t3 11 (t.2.2.1 11))
    obtain ⟨u5, x5, y5⟩ := zr_tell q0 (by simp) (f_tot (d_sc (dz t) (d_ho (dz t)) (d_la (dz t)) (d_du (dz t)) (nI (g + i))) 23 - f_tot (dz t) 23)
    have g16 : (zz_sF (zz_sF t3 11 (t.2.2.1 11)) 18 0).2.1 16 23 = f_tot (d_sc (dz t) (d_ho (dz t)) (d_la (dz t)) (d_du (dz t)) (nI (g + i))) 23 := by
      show t3.2.1 16 23 = _
      rw [(y3.2.2.2 23 (by omega)).2.2.2.2.1, hd2, eT]
    have g33 : (zz_sF (zz_sF t3 11 (t.2.2.1 11)) 18 0).2.2.2 33 = f_tot (dz t) 23 := by
      show t3.2.2.2 33 = _
      rw [y3.2.1]
      exact y1.2.2.2.2.1
    unfold mX10_needed_b72
    rw [a2, zz_b2_s, zz_nm_s, show (8 : Int32) = OfNat.ofNat 8 from rfl, eM, zz_b1_s, a5, zz_b2_s, x1, zz_b2_s, zz_nm_s, e11, nI_add]
    have e24 : ¬ (zz_sF t1 11 (nI (u + i))).2.2.1 11 = (24 : Int32) := nI_not24 hui
    rw [if_neg e24]
    unfold mX11_needed_b85
    rw [x3, zz_b2_s, zz_nm_s, zz_nm_s, zz_ck_of (zq_lit 23 24 (by decide) (by decide)), zq_clit (k := 23) (by decide), g16, g33, x5, zz_b2_s]
    have hd5 : dz u5 = dz t := by
      rw [y5.d]
      have : dz (zz_sF t3 11 (t.2.2.1 11)) = d_sc (dz t3) (d_ho (dz t3)) (d_la (dz t3)) (t.2.2.1 11) (d_gr (dz t3)) := rfl
      rw [this, dz_eq y3.1 y3.2.1, hd2, ← eg]
      rfl
    have C5 : zC (zz_sF s2 523 (nI g)) (dz t) := by
      have C2 := zC_rk C1 (Or.inr rfl) k2
      obtain ⟨e0, e1, e2, e3⟩ := C2.1.2.2.2.2.2
      have := zC_scal (s' := zz_sF s2 523 (nI g)) (ho := d_ho (dz t)) (la := d_la (dz t)) (du := d_du (dz t)) (gr := nI g) C2 rfl rfl (fun q hq => va_up_ne _ _ (by omega)) ⟨e0, e1, e2, rfl⟩
      have e : d_sc (d_sc (dz t) (d_ho (dz t)) (d_la (dz t)) (d_du (dz t)) (nI (g + i))) (d_ho (dz t)) (d_la (dz t)) (d_du (dz t)) (nI g) = dz t := by
        rw [← eg]
        rfl
      rw [e] at this
      exact this
    refine zOk_ret (zR_fin h (by rw [hd5]; exact b5.c C5) (by rw [hd5]; exact hI) ?_ ?_ ?_ ?_ (by simp) b5.2.2.2.2.1 b5.2.2.2.2.2 y5.2.2.2.2.1 y5.2.2.2.2.2)
    · rw [b5.2.2.2.1 65 (by omega)]
      rw [zsF_ne _ _ (by omega), k2.2.1]
      exact k1.2.2.2 65 (by omega)
    · rw [b5.1]
      show s2.1 2 = _
      rw [k2.1, k1.1]
    · rw [y5.2.2.2.1 16 (by omega)]
      rw [zsF_ne _ _ (by omega), y3.2.1, zsF_ne _ _ (by omega), y1.2.1]
    · rw [y5.1]
      show t3.1 9 = _
      rw [y3.1]
      show t1.1 9 = _
      rw [y1.1]
  intro j
  induction j with
  | zero =>
    intro i fuel s1 k1 e1 hi hj hf
    obtain ⟨f, rfl⟩ : ∃ f, fuel = f + 1 := ⟨fuel - 1, by omega⟩
    exact absurd hj (by omega)
  | succ j ih =>
    intro i fuel s1 k1 e1 hi hj hf
    obtain ⟨f, rfl⟩ : ∃ f, fuel = f + 1 := ⟨fuel - 1, by omega⟩
    have C1 := zNd_C hC k1 e1
    have I1 : zInv (d_sc (dz t) (d_ho (dz t)) (d_la (dz t)) (d_du (dz t)) (nI (g + i))) := zInv_sc hI i1 i2 i3 ⟨g + i, by omega, rfl⟩
    have eD : f_dam (d_sc (dz t) (d_ho (dz t)) (d_la (dz t)) (d_du (dz t)) (nI (g + i))) 23 = f_damBy (dz t) (nI (u + g + i)) 23 := by
      show f_damBy _ (d_du (dz t) + nI (g + i)) 23 = _
      rw [eu, nI_add, show u + (g + i) = u + g + i by omega]
      exact f_damBy_cg (d := dz t) (d' := d_sc (dz t) (d_ho (dz t)) (d_la (dz t)) (nI u) (nI (g + i))) rfl rfl rfl rfl (by rw [eu]; exact Iff.rfl) _ 23
    have eB : (t.2.2.1 11 + t.2.2.1 12) + nI i = nI (u + g + i) := by
      have a1 : t.2.2.1 11 = nI u := eu
      have a2 : t.2.2.1 12 = nI g := eg
      rw [a1, a2, nI_add, nI_add]
    have cd := zc_damages C1.1 I1 (m := 23) (by omega)
    rw [eD, show nI 23 = (23 : Int32) from rfl] at cd
    have rd := zr_damagesBy t hI (nI (u + g + i)) 23
    rw [show nI 23 = (23 : Int32) from rfl] at rd
    rw [mX10_needed_b36, mX11_needed_b19, eB, rd, zz_b1_s, if_neg (show ¬ (24 : Int32) ≤ nI i from nI_ge (show i < 24 by omega) (by decide)), cd, zz_b1_s, zz_nm_s, zz_nm_s, zz_nm_s]
    refine zOk_if Iff.rfl (fun _ => key i s1 k1 e1 hi (by omega)) (fun c => ?_)
    have hb : u + g + i < 23 := by
      refine Nat.lt_of_not_le (fun q => c ?_)
      rw [lg_cmp_le, Int64.le_iff_toInt_le]
      exact f_damBy_0 hI q (by omega)
    rw [nI_1, nI_add]
    exact ih (i + 1) f (zz_sF s1 523 (nI (g + (i + 1)))) ⟨k1.1, k1.2.1, k1.2.2.1, fun q hq => by
      rw [zsF_ne _ _ hq]
      exact k1.2.2.2 q hq⟩ (zsF_at _ _ _) (Or.inr (by omega)) (by omega) (by omega)
theorem B_needed {s t : zz_M} (h : zR s t) : zOk (mX10_needed s) (mX11_needed t) := by
  have h0 := zR_thr h 0
  unfold mX10_needed mX11_needed
  rw [zz_nm_s]
  generalize zz_sF t 19 0 = t0 at h0 ⊢
  obtain ⟨hC, hI, hT, hW⟩ := id h0
  obtain ⟨u, hu, eu⟩ := hI.2.2.2.2.2.1
  obtain ⟨g, hg, eg⟩ := hI.2.2.2.2.2.2.1
  refine zOk_if (by rw [hC.1.2.2.2.2.2.2.2.1]; exact Iff.rfl) (fun _ => zOk_ret h0) (fun c => ?_)
  have hu' : u < 24 := by
    refine Nat.lt_of_le_of_ne hu (fun e => c ?_)
    rw [hC.1.2.2.2.2.2.2.2.1, eu, e]
    rfl
  obtain ⟨s1, a1, k1⟩ := zc_reckon (ff := 64) (Or.inl rfl) hC hI
  have h1 := zR_rk h0 (Or.inl rfl) k1
  have e523 : s1.2.2.1 523 = nI g := h1.1.1.2.2.2.2.2.2.2.2.trans eg
  rw [a1, zz_b2_s, e523]
  have := J_needed h1 k1.fg hu' hg eu eg 24 0 zz_N s1 ⟨rfl, rfl, rfl, fun _ _ => rfl⟩ e523 (Or.inl rfl) (by omega) (by unfold zz_N; omega)
  rw [nI_0] at this
  exact this
