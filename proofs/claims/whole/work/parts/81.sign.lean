/-! ===== sign ===== -/
/-! the rows of bits, from the kit's rows to paste -/
def bt (x : Int32) (i : Nat) : Bool := x.toBitVec.getLsbD i
theorem b_ext {x y : Int32} (h : ∀ i, i < 32 → bt x i = bt y i) : x = y := Int32.toBitVec_inj.mp (BitVec.eq_of_getLsbD_eq (fun i hi => h i hi))
theorem b_and (x y : Int32) (i : Nat) : bt (x &&& y) i = (bt x i && bt y i) := by unfold bt; rw [Int32.toBitVec_and, BitVec.getLsbD_and]
theorem b_big {x : Int32} {i : Nat} (h : 32 ≤ i) : bt x i = false := BitVec.getLsbD_of_ge _ _ h
theorem b_255 (i : Nat) : bt 255 i = decide (i < 8) := by
  rcases Nat.lt_or_ge i 32 with h | h
  · exact (by decide +kernel : ∀ i, i < 32 → bt 255 i = decide (i < 8)) i h
  · rw [b_big h, decide_eq_false (by omega)]
theorem s_l : ∀ n, n < 32 → ((nI n &&& 31).toBitVec.smod 32).toNat = n := by decide +kernel
theorem s_u : ∀ n, n < 32 → (((nI n).toUInt32 &&& Int32.toUInt32 31).toBitVec % 32).toNat = n := by decide +kernel
theorem b_ushr (n : Nat) (hn : n < 32) (x : Int32) (i : Nat) : bt ((x.toUInt32 >>> ((nI n).toUInt32 &&& Int32.toUInt32 31)).toInt32) i = bt x (n + i) := by
  show (x.toUInt32 >>> ((nI n).toUInt32 &&& Int32.toUInt32 31)).toBitVec.getLsbD i = x.toUInt32.toBitVec.getLsbD (n + i)
  rw [UInt32.toBitVec_shiftRight]
  show (x.toUInt32.toBitVec >>> (((nI n).toUInt32 &&& Int32.toUInt32 31).toBitVec % 32).toNat).getLsbD i = _
  rw [s_u n hn, BitVec.getLsbD_ushiftRight]
theorem b_sshr (n : Nat) (hn : n < 32) (x : Int32) {i : Nat} (hi : i < 32) : bt (x >>> (nI n &&& 31)) i = if n + i < 32 then bt x (n + i) else bt x 31 := by
  unfold bt
  rw [Int32.toBitVec_shiftRight]
  show (x.toBitVec.sshiftRight ((nI n &&& 31).toBitVec.smod 32).toNat).getLsbD i = _
  rw [s_l n hn, BitVec.getLsbD_sshiftRight, BitVec.msb_eq_getLsbD_last]
  simp [hi]
theorem bp_b (x : Int32) : x.toInt8.toInt32 &&& 255 = x &&& 255 := by
  apply Int32.toBitVec_inj.mp
  rw [Int32.toBitVec_and, Int32.toBitVec_and, Int8.toBitVec_toInt32, Int32.toBitVec_toInt8]
  apply BitVec.eq_of_getLsbD_eq
  intro i hi
  rw [BitVec.getLsbD_and, BitVec.getLsbD_and]
  have hm : ∀ i < 32, 8 ≤ i → (255 : Int32).toBitVec.getLsbD i = false := by decide
  rcases Nat.lt_or_ge i 8 with z | z
  · rw [BitVec.getLsbD_signExtend, BitVec.getLsbD_signExtend, if_pos z, if_pos hi]
    simp only [z, hi, decide_true, Bool.true_and]
  · rw [hm i hi z]; simp
/-- a byte of an int, told both ways -/
theorem zb_sign (v : Int32) {q : Nat} (hq : q < 4) : ((v.toUInt32 >>> ((nI (8 * q)).toUInt32 &&& Int32.toUInt32 31)).toInt32 &&& (255 : Int32)) = (vp_nar .byte ((v >>> (nI (8 * q) &&& 31)).toInt8.toInt32)) &&& 255 := by
  rw [vp_nar_byte, bp_b, bp_b]
  refine b_ext (fun i hi => ?_)
  rw [b_and, b_and, b_255, b_ushr _ (by omega), b_sshr _ (by omega) _ hi]
  by_cases c : i < 8
  · rw [if_pos (by omega)]
  · rw [decide_eq_false c, Bool.and_false, Bool.and_false]
def zTn (n : Nat) (s t : zz_M) : Prop := n ≤ 120 ∧ s.2.2.1 65 = nI n ∧ t.2.2.1 16 = nI n ∧ ∀ j, j < n → s.1 2 j = (t.1 9 j) &&& 255
theorem J_sign (v : Int32) : ∀ (j fuel n : Nat) (s t : zz_M), j ≤ 4 → n + j ≤ 120 → j < fuel → zC s (dz t) → zInv (dz t) → zTn n s t → zRw s t → ∃ s' t', mX9_append_b14 fuel v (nI (8 * j) + (-8 : Int32)) s = some ((1 : Int32), s') ∧ mX11_sign_b20 fuel v (nI j + (-1 : Int32)) t = some (nI (n + j), t') ∧ s'.2.2.1 65 = nI (n + j) ∧ zR s' t' := by
  intro j
  induction j with
  | zero =>
    intro fuel n s t hj hn hf hC hI hT hW
    obtain ⟨f, rfl⟩ : ∃ f, fuel = f + 1 := ⟨fuel - 1, by omega⟩
    refine ⟨s, t, ?_, ?_, hT.2.1, hC, hI, ⟨n, hT⟩, hW⟩
    · rw [mX9_append_b14, if_pos (show nI (8 * 0) + (-8 : Int32) < 0 by decide)]
    · rw [mX11_sign_b20, if_pos (show nI 0 + (-1 : Int32) < 0 by decide), hT.2.2.1]
      rfl
  | succ j ih =>
    intro fuel n s t hj hn hf hC hI hT hW
    obtain ⟨f, rfl⟩ : ∃ f, fuel = f + 1 := ⟨fuel - 1, by omega⟩
    obtain ⟨h1, h2, h3, h4⟩ := hT
    have e8 : nI (8 * (j + 1)) + (-8 : Int32) = nI (8 * j) := by
      rw [show 8 * (j + 1) = 8 * j + 8 by omega, ← nI_add, Int32.add_assoc, show nI 8 + (-8 : Int32) = 0 by decide, Int32.add_zero]
    have em : (8 : Int32) * nI j = nI (8 * j) := zq_mul 8 j
    have hin := zq_k n (show n < 120 by omega) (show 120 < 2 ^ 31 by decide)
    obtain ⟨s', t', a1, a2, a3, a4⟩ := ih f (n + 1) (zz_sF (zz_wI s 2 (nI n) ((v.toUInt32 >>> ((nI (8 * j)).toUInt32 &&& Int32.toUInt32 31)).toInt32 &&& (255 : Int32))) 65 (nI (n + 1))) (zz_wB (zz_sF t 16 (nI (n + 1))) 9 (nI n) ((v >>> (nI (8 * j) &&& 31)).toInt8.toInt32)) (by omega) (by omega) (by omega)
      (by
        have hd : dz (zz_wB (zz_sF t 16 (nI (n + 1))) 9 (nI n) ((v >>> (nI (8 * j) &&& 31)).toInt8.toInt32)) = dz t := rfl
        rw [hd]
        exact zC_fr hC (fun q hq => zw_I_ne _ _ _ (by omega)) (fun q q1 q2 => va_up_ne _ _ (by omega)) rfl)
      hI
      (by
        refine ⟨by omega, rfl, rfl, fun k hk => ?_⟩
        show (zz_wI s 2 (nI n) _).1 2 k = (zz_wI (zz_sF t 16 (nI (n + 1))) 9 (nI n) (vp_nar .byte _)).1 9 k &&& 255
        by_cases e : k = n
        · subst e
          rw [zw_I_same _ _ _ _ (by omega), zw_I_same _ _ _ _ (by omega)]
          exact zb_sign v (by omega)
        · rw [zw_I_off _ _ _ (by omega) e, zw_I_off _ _ _ (by omega) e]
          exact h4 k (by omega))
      (zRw_eq hW (by rw [zsF_ne _ _ (by omega)]; rfl) rfl (by show (zz_sF t 16 (nI (n + 1))).2.2.1 18 = _; rw [zsF_ne _ _ (by omega)]) rfl)
    refine ⟨s', t', ?_, ?_, by rw [a3]; congr 1; omega, a4⟩
    · rw [mX9_append_b14, e8, if_neg (nI_nn (by omega)), h2, zz_ck_of hin, zz_nm_s, zz_nm_s, zz_nm_s]
      show mX9_append_b14 f v (nI (8 * j) + -8) (zz_sF (zz_wI s 2 (nI n) _) 65 (s.2.2.1 65 + 1)) = _
      rw [h2, nI_1]
      exact a1
    · rw [mX11_sign_b20, zq_pred, if_neg (nI_nn (by omega)), h3, zz_nm_s, zz_ck_of hin, zz_nm_s, zz_nm_s, em, nI_1]
      rw [show n + (j + 1) = n + 1 + j by omega]
      exact a2
theorem B_sign {s t : zz_M} (h : zR s t) (x : Int32) : zOk (mX10_sign x s) (mX11_sign x t) := by
  have h0 := zR_thr h 0
  unfold mX10_sign mX11_sign mX10_sign_b22 mX9_append
  rw [zz_nm_s]
  generalize zz_sF t 19 0 = t0 at h0 ⊢
  obtain ⟨hC, hI, ⟨n, hT⟩, hW⟩ := id h0
  obtain ⟨hn, e1, e2, e3⟩ := id hT
  have e4 : nI n + (4 : Int32) = nI (n + 4) := nI_add n 4
  rw [e1, e2, e4]
  have i116 : (116 : Int32).toInt = 116 := rfl
  have i120 : (120 : Int32).toInt = 120 := rfl
  by_cases c : n ≤ 116
  · rw [if_pos (show nI n ≤ (116 : Int32) by rw [Int32.le_iff_toInt_le, nI_toInt (by omega)]; omega), if_pos (show nI (n + 4) ≤ (120 : Int32) by rw [Int32.le_iff_toInt_le, nI_toInt (by omega)]; omega)]
    obtain ⟨s', t', a1, a2, a3, a4⟩ := J_sign x 4 zz_N n s t0 (by omega) (by omega) (by unfold zz_N; omega) hC hI hT hW
    rw [show nI (8 * 4) + (-8 : Int32) = 24 by decide] at a1
    rw [show nI 4 + (-1 : Int32) = 3 by decide] at a2
    rw [a1, a2, zz_b2_s, if_neg zq_not0, a3]
    exact zOk_ret a4
  · rw [if_neg (show ¬ nI n ≤ (116 : Int32) by rw [Int32.le_iff_toInt_le, nI_toInt (by omega)]; omega), if_neg (show ¬ nI (n + 4) ≤ (120 : Int32) by rw [Int32.le_iff_toInt_le, nI_toInt (by omega)]; omega), zz_b2_s, if_pos rfl]
    exact zOk_ret h0
