/-! ===== bill: the text read ===== -/
/-- the sign at a place; -1 behind the end -/
def f_sg (g : Nat → Int32) (n p : Nat) : Int32 := if p < n then g p else -1
abbrev f_D (g : Nat → Int32) (n p : Nat) : Prop := 48 ≤ (f_sg g n p).toInt ∧ (f_sg g n p).toInt ≤ 57
def f_dv (g : Nat → Int32) (n p : Nat) : Nat := ((f_sg g n p).toInt - 48).toNat
theorem f_D_lt {g : Nat → Int32} {n p : Nat} (h : f_D g n p) : p < n := by
  rcases Nat.lt_or_ge p n with q | q
  · exact q
  · have e : f_sg g n p = -1 := if_neg (by omega)
    rw [f_D, e] at h
    exact absurd h (by decide)
theorem f_D_sg {g : Nat → Int32} {n p : Nat} (h : f_D g n p) : f_sg g n p = nI (48 + f_dv g n p) ∧ f_dv g n p ≤ 9 := by
  have h2 : f_dv g n p ≤ 9 := by unfold f_dv; omega
  refine ⟨Int32.toInt_inj.mp ?_, h2⟩
  rw [nI_toInt (by omega)]
  unfold f_dv
  omega
theorem zq_digit {g : Nat → Int32} {n p : Nat} (h : f_D g n p) (v : Nat) : ((10 : Int32) * nI v + f_sg g n p) - (48 : Int32) = nI (10 * v + f_dv g n p) := by
  rw [(f_D_sg h).1, show (10 : Int32) * nI v = nI (10 * v) from zq_mul 10 v, nI_add, show (48 : Int32) = nI 48 from rfl, zq_sub (by omega)]
  congr 1
  omega
/-- how many digits stand there, four at most; what the first three say -/
def f_nk (g : Nat → Int32) (n p : Nat) : Nat := if f_D g n p then (if f_D g n (p + 1) then (if f_D g n (p + 2) then (if f_D g n (p + 3) then 4 else 3) else 2) else 1) else 0
def f_nv (g : Nat → Int32) (n p : Nat) : Nat := if f_D g n p then (if f_D g n (p + 1) then (if f_D g n (p + 2) then 10 * (10 * f_dv g n p + f_dv g n (p + 1)) + f_dv g n (p + 2) else 10 * f_dv g n p + f_dv g n (p + 1)) else f_dv g n p) else 0
def f_nok (g : Nat → Int32) (n p : Nat) : Prop := 1 ≤ f_nk g n p ∧ f_nk g n p ≤ 3 ∧ f_nv g n p ≠ 0
/-- where a number's fault stands -/
def f_nf (g : Nat → Int32) (n p : Nat) : Nat := if f_nk g n p = 0 then p else if f_nk g n p = 4 then p + 3 else p + f_nk g n p - 1
theorem f_nv_bd (g : Nat → Int32) (n p : Nat) : f_nv g n p ≤ 999 := by
  unfold f_nv
  split
  · rename_i h
    have := (f_D_sg h).2
    split
    · rename_i h1
      have := (f_D_sg h1).2
      split
      · rename_i h2
        have := (f_D_sg h2).2
        omega
      · omega
    · omega
  · omega
theorem f_nk4 {g : Nat → Int32} {n p : Nat} (h : f_nk g n p = 4) : f_D g n (p + 3) := by
  unfold f_nk at h
  split at h
  · split at h
    · split at h
      · split at h
        · assumption
        · omega
      · omega
    · omega
  · omega
theorem f_nk_le {g : Nat → Int32} {n p : Nat} (h : f_nok g n p) : p + f_nk g n p ≤ n ∧ p < n := by
  unfold f_nok f_nk at h
  unfold f_nk
  split at h
  · rename_i d0
    have l0 := f_D_lt d0
    rw [if_pos d0]
    split at h
    · rename_i d1
      have l1 := f_D_lt d1
      rw [if_pos d1]
      split at h
      · rename_i d2
        have l2 := f_D_lt d2
        rw [if_pos d2]
        split at h
        · omega
        · rename_i d3
          rw [if_neg d3]
          omega
      · rename_i d2
        rw [if_neg d2]
        omega
    · rename_i d1
      rw [if_neg d1]
      omega
  · omega
theorem f_nf_lt {g : Nat → Int32} {n p : Nat} (hp : p ≤ n) : f_nf g n p ≤ n := by
  unfold f_nf
  by_cases c0 : f_nk g n p = 0
  · rw [if_pos c0]; exact hp
  · rw [if_neg c0]
    by_cases c4 : f_nk g n p = 4
    · rw [if_pos c4]
      have := f_D_lt (f_nk4 c4)
      omega
    · rw [if_neg c4]
      have hk : p + f_nk g n p ≤ n := by
        unfold f_nk at c0 c4 ⊢
        by_cases d0 : f_D g n p
        · have l0 := f_D_lt d0
          rw [if_pos d0] at c0 c4 ⊢
          by_cases d1 : f_D g n (p + 1)
          · have l1 := f_D_lt d1
            rw [if_pos d1] at c0 c4 ⊢
            by_cases d2 : f_D g n (p + 2)
            · have l2 := f_D_lt d2
              rw [if_pos d2] at c0 c4 ⊢
              by_cases d3 : f_D g n (p + 3)
              · rw [if_pos d3] at c4
                exact absurd rfl c4
              · rw [if_neg d3]
                omega
            · rw [if_neg d2]
              omega
          · rw [if_neg d1]
            omega
        · rw [if_neg d0] at c0
          exact absurd rfl c0
      omega
/-! the class reads -/
theorem zc_signAt {z : zz_M} {n : Nat} (hn : n ≤ 120) (e : z.2.2.1 65 = nI n) {p : Nat} (hp : p < 1000) : mX9_signAt (nI p) z = some (f_sg (z.1 2) n p) := by
  unfold mX9_signAt mX9_signAt_b21 mX9_signAt_b22 f_sg
  rw [if_neg (nI_nn (by omega)), e]
  by_cases c : p < n
  · rw [if_neg (nI_lt_n (by omega) c), if_pos c, zz_ck_of (zq_k p (show p < 120 by omega) (by decide)), nI_clamp (by omega)]
  · rw [if_pos (nI_le (by omega) (by omega)), if_neg c]
theorem zc_isDigit {z : zz_M} {n : Nat} (hn : n ≤ 120) (e : z.2.2.1 65 = nI n) {p : Nat} (hp : p < 1000) (ea : z.2.2.1 193 = nI p) : mX1_isDigit z = some (if f_D (z.1 2) n p then 1 else 0) := by
  unfold mX1_isDigit
  rw [ea, zc_signAt hn e hp, zz_b1_s, zc_isWithin, zz_b1_s, zz_ck_of (zq_b _)]
  rfl
theorem zc_pass {z : zz_M} {n : Nat} (hn : n ≤ 120) (e : z.2.2.1 65 = nI n) {p : Nat} (hp : p < 1000) (ea : z.2.2.1 193 = nI p) (x : Int32) : mX1_pass x z = if f_sg (z.1 2) n p = x then some (1, zz_sF z 193 (nI (p + 1))) else some (0, z) := by
  unfold mX1_pass
  rw [ea, zc_signAt hn e hp, zz_b1_s, zz_nm_s, nI_1]
theorem zc_num_step {z : zz_M} {n : Nat} (hn : n ≤ 120) (e : z.2.2.1 65 = nI n) {p : Nat} (hp : p < 1000) (ea : z.2.2.1 193 = nI p) {d : Nat} (hd : d < 3) (v f : Nat) : mX1_readNumber_b4 (f + 1) (nI v) (nI d) z = if f_D (z.1 2) n p then mX1_readNumber_b4 f (nI (10 * v + f_dv (z.1 2) n p)) (nI (d + 1)) (zz_sF z 193 (nI (p + 1))) else mX1_readNumber_b50 (nI v) (nI d) z := by
  rw [mX1_readNumber_b4, if_neg (show ¬ (3 : Int32) ≤ nI d from nI_ge hd (by decide)), zc_isDigit hn e hp ea, zz_b1_s, zz_ti, ea, zc_signAt hn e hp, zz_b1_s, zz_nm_s, zz_nm_s, zz_nm_s, nI_1, nI_1]
  by_cases c : f_D (z.1 2) n p
  · rw [if_pos c, if_pos c, zq_digit c]
  · rw [if_neg c, if_neg c]
theorem zc_num_50 {z : zz_M} {n : Nat} (hn : n ≤ 120) (e : z.2.2.1 65 = nI n) {p : Nat} (hp : p < 1000) (ea : z.2.2.1 193 = nI p) (hD : ¬ f_D (z.1 2) n p) {v d : Nat} (hv : v < 1000) (hd : d ≤ 3) (hd0 : 0 < d) (hpd : 0 < p) : mX1_readNumber_b50 (nI v) (nI d) z = some (nI v, zz_sF z 193 (nI (if v = 0 then p - 1 else p))) := by
  unfold mX1_readNumber_b50 mX1_readNumber_b76
  rw [if_neg (nI_pos_le (by omega) hd0), zc_isDigit hn e hp ea, zz_b1_s, if_neg hD, if_pos rfl, zz_nm_s, ea]
  by_cases c : v = 0
  · subst c
    rw [if_pos nI_0, if_pos rfl]
    obtain ⟨q, rfl⟩ : ∃ q, p = q + 1 := ⟨p - 1, by omega⟩
    rw [nI_pred]
    rfl
  · rw [if_neg (nI_pos_eq (by omega) (by omega)), if_neg c, zsF_self z ea]
theorem zc_readNumber {z : zz_M} {n : Nat} (hn : n ≤ 120) (e : z.2.2.1 65 = nI n) {p : Nat} (hp : p < 500) (ea : z.2.2.1 193 = nI p) (hp0 : 0 < p) : mX1_readNumber z = some (nI (f_nv (z.1 2) n p), zz_sF z 193 (nI (if 1 ≤ f_nk (z.1 2) n p ∧ f_nk (z.1 2) n p ≤ 3 ∧ f_nv (z.1 2) n p ≠ 0 then p + f_nk (z.1 2) n p else f_nf (z.1 2) n p))) := by
  have s0 := zc_num_step hn e (by omega) ea (d := 0) (by omega) 0 299
  have s0' : mX1_readNumber z = _ := s0
  rw [s0']
  unfold f_nf
  by_cases d0 : f_D (z.1 2) n p
  · rw [if_pos d0, zc_num_step (z := zz_sF z 193 (nI (p + 1))) (p := p + 1) hn (by rw [zsF_ne _ _ (by omega)]; exact e) (by omega) (zsF_at _ _ _) (d := 1) (by omega)]
    have b0 := (f_D_sg d0).2
    show (if f_D (z.1 2) n (p + 1) then _ else _) = _
    by_cases d1 : f_D (z.1 2) n (p + 1)
    · rw [if_pos d1, zsF_2, zc_num_step (z := zz_sF z 193 (nI (p + 1 + 1))) (p := p + 1 + 1) hn (by rw [zsF_ne _ _ (by omega)]; exact e) (by omega) (zsF_at _ _ _) (d := 2) (by omega)]
      have b1 := (f_D_sg d1).2
      show (if f_D (z.1 2) n (p + 2) then _ else _) = _
      by_cases d2 : f_D (z.1 2) n (p + 2)
      · have b2 := (f_D_sg d2).2
        rw [if_pos d2, zsF_2, mX1_readNumber_b4, if_pos (show (3 : Int32) ≤ nI (2 + 1) by decide)]
        have ev : f_nv (z.1 2) n p = 10 * (10 * f_dv (z.1 2) n p + f_dv (z.1 2) n (p + 1)) + f_dv (z.1 2) n (p + 2) := by unfold f_nv; rw [if_pos d0, if_pos d1, if_pos d2]
        show mX1_readNumber_b50 (nI (10 * (10 * (10 * 0 + f_dv (z.1 2) n p) + f_dv (z.1 2) n (p + 1)) + f_dv (z.1 2) n (p + 2))) (nI 3) (zz_sF z 193 (nI (p + 3))) = _
        rw [show 10 * (10 * (10 * 0 + f_dv (z.1 2) n p) + f_dv (z.1 2) n (p + 1)) + f_dv (z.1 2) n (p + 2) = f_nv (z.1 2) n p by rw [ev]; omega]
        have hbd := f_nv_bd (z.1 2) n p
        by_cases d3 : f_D (z.1 2) n (p + 3)
        · have ek : f_nk (z.1 2) n p = 4 := by unfold f_nk; rw [if_pos d0, if_pos d1, if_pos d2, if_pos d3]
          rw [ek, if_neg (show ¬ (1 ≤ 4 ∧ 4 ≤ 3 ∧ f_nv (z.1 2) n p ≠ 0) by omega), if_neg (show ¬ (4 = 0) by omega), if_pos rfl]
          unfold mX1_readNumber_b50 mX1_readNumber_b76
          have dg := zc_isDigit (z := zz_sF z 193 (nI (p + 3))) (p := p + 3) hn (by rw [zsF_ne _ _ (by omega)]; exact e) (by omega) (zsF_at _ _ _)
          have dg' : mX1_isDigit (zz_sF z 193 (nI (p + 3))) = some (if f_D (z.1 2) n (p + 3) then 1 else 0) := dg
          rw [if_neg (nI_pos_le (by omega) (by omega)), dg', zz_b1_s, if_pos d3, if_neg zq_not0]
          by_cases c : nI (f_nv (z.1 2) n p) = 0
          · rw [if_pos c]
          · rw [if_neg c]
        · have ek : f_nk (z.1 2) n p = 3 := by unfold f_nk; rw [if_pos d0, if_pos d1, if_pos d2, if_neg d3]
          rw [zc_num_50 (z := zz_sF z 193 (nI (p + 3))) (p := p + 3) hn (by rw [zsF_ne _ _ (by omega)]; exact e) (by omega) (zsF_at _ _ _) d3 (by omega) (by omega) (by omega) (by omega), zsF_2, ek]
          congr 3
          by_cases c : f_nv (z.1 2) n p = 0
          · rw [if_pos c, if_neg (by omega), if_neg (by omega), if_neg (by omega)]
          · rw [if_neg c, if_pos (by omega)]
      · have ev : f_nv (z.1 2) n p = 10 * f_dv (z.1 2) n p + f_dv (z.1 2) n (p + 1) := by unfold f_nv; rw [if_pos d0, if_pos d1, if_neg d2]
        have ek : f_nk (z.1 2) n p = 2 := by unfold f_nk; rw [if_pos d0, if_pos d1, if_neg d2]
        rw [if_neg d2]
        show mX1_readNumber_b50 (nI (10 * (10 * 0 + f_dv (z.1 2) n p) + f_dv (z.1 2) n (p + 1))) (nI 2) (zz_sF z 193 (nI (p + 2))) = _
        rw [show 10 * (10 * 0 + f_dv (z.1 2) n p) + f_dv (z.1 2) n (p + 1) = f_nv (z.1 2) n p by rw [ev]; omega]
        have hbd := f_nv_bd (z.1 2) n p
        rw [zc_num_50 (z := zz_sF z 193 (nI (p + 2))) (p := p + 2) hn (by rw [zsF_ne _ _ (by omega)]; exact e) (by omega) (zsF_at _ _ _) d2 (by omega) (by omega) (by omega) (by omega), zsF_2, ek]
        congr 3
        by_cases c : f_nv (z.1 2) n p = 0
        · rw [if_pos c, if_neg (by omega), if_neg (by omega), if_neg (by omega)]
        · rw [if_neg c, if_pos (by omega)]
    · have ev : f_nv (z.1 2) n p = f_dv (z.1 2) n p := by unfold f_nv; rw [if_pos d0, if_neg d1]
      have ek : f_nk (z.1 2) n p = 1 := by unfold f_nk; rw [if_pos d0, if_neg d1]
      rw [if_neg d1]
      show mX1_readNumber_b50 (nI (10 * 0 + f_dv (z.1 2) n p)) (nI 1) (zz_sF z 193 (nI (p + 1))) = _
      rw [show 10 * 0 + f_dv (z.1 2) n p = f_nv (z.1 2) n p by rw [ev]; omega]
      have hbd := f_nv_bd (z.1 2) n p
      rw [zc_num_50 (z := zz_sF z 193 (nI (p + 1))) (p := p + 1) hn (by rw [zsF_ne _ _ (by omega)]; exact e) (by omega) (zsF_at _ _ _) d1 (by omega) (by omega) (by omega) (by omega), zsF_2, ek]
      congr 3
      by_cases c : f_nv (z.1 2) n p = 0
      · rw [if_pos c, if_neg (by omega), if_neg (by omega), if_neg (by omega)]
      · rw [if_neg c, if_pos (by omega)]
  · have ev : f_nv (z.1 2) n p = 0 := by unfold f_nv; rw [if_neg d0]
    have ek : f_nk (z.1 2) n p = 0 := by unfold f_nk; rw [if_neg d0]
    rw [if_neg d0, ev, ek, if_neg (by omega), if_pos rfl, zsF_self z ea]
    unfold mX1_readNumber_b50 mX1_readNumber_b76
    rw [if_pos (show nI 0 ≤ (0 : Int32) by decide)]
/-! the reference reads -/
abbrev f_tx (z : zz_M) : Nat → Int32 := fun j => z.1 9 j &&& 255
theorem zr_here {z : zz_M} {n : Nat} (hn : n ≤ 120) (e : z.2.2.1 20 = nI n) {p : Nat} (hp : p < 1000) (ea : z.2.2.1 21 = nI p) : mX11_here z = some (f_sg (f_tx z) n p) := by
  unfold mX11_here mX11_here_b28 f_sg
  rw [e, ea]
  by_cases c : p < n
  · rw [if_neg (nI_lt_n (by omega) c), if_pos c, zz_ck_of (zq_k p (show p < 120 by omega) (by decide)), nI_clamp (by omega)]
  · rw [if_pos (nI_le (by omega) (by omega)), if_neg c]
theorem zr_fault0 {z : zz_M} (h : z.2.2.1 22 = -1) (x : Int32) : mX11_fault x z = some ((), zz_sF z 22 x) := by
  unfold mX11_fault mX11_fault_b13
  rw [if_pos h, zz_nm_s]
theorem zr_fault1 {z : zz_M} (h : ¬ z.2.2.1 22 = -1) (x : Int32) : mX11_fault x z = some ((), z) := by
  unfold mX11_fault mX11_fault_b13
  rw [if_neg h]
theorem zr_expectF {z : zz_M} (h : ¬ z.2.2.1 22 = -1) (x : Int32) : mX11_expect x z = some ((), z) := by
  unfold mX11_expect
  rw [if_neg h]
theorem zr_expect {z : zz_M} {n : Nat} (hn : n ≤ 120) (e : z.2.2.1 20 = nI n) {p : Nat} (hp : p < 1000) (ea : z.2.2.1 21 = nI p) (h : z.2.2.1 22 = -1) (x : Int32) : mX11_expect x z = some ((), if f_sg (f_tx z) n p = x then zz_sF z 21 (nI (p + 1)) else zz_sF (zz_sF z 22 (nI p)) 21 (nI (p + 1))) := by
  unfold mX11_expect mX11_expect_b25
  rw [if_pos h, zr_here hn e hp ea, zz_b1_s, ea, zr_fault0 h, zz_b2_s, zz_nm_s, zz_nm_s, nI_1]
  by_cases c : f_sg (f_tx z) n p = x
  · rw [if_pos c, if_pos c]
  · rw [if_neg c, if_neg c, zsF_ne _ _ (by omega), ea, nI_1]
theorem zr_numberF {z : zz_M} (h : ¬ z.2.2.1 22 = -1) : mX11_number z = some (0, z) := by
  have : mX11_number z = mX11_number_b4 (299 + 1) 0 0 z := rfl
  rw [this, mX11_number_b4, if_neg h]
  unfold mX11_number_b71 mX11_number_b83 mX11_number_b97
  rw [if_pos rfl, zr_fault1 h, zz_b2_s, if_pos rfl, zr_fault1 h, zz_b2_s]
theorem zr_num_step {z : zz_M} {n : Nat} (hn : n ≤ 120) (e : z.2.2.1 20 = nI n) {p : Nat} (hp : p < 1000) (ea : z.2.2.1 21 = nI p) (h : z.2.2.1 22 = -1) {d : Nat} (hd : d < 3) (v f : Nat) : mX11_number_b4 (f + 1) (nI v) (nI d) z = if f_D (f_tx z) n p then mX11_number_b4 f (nI (10 * v + f_dv (f_tx z) n p)) (nI (d + 1)) (zz_sF z 21 (nI (p + 1))) else mX11_number_b71 (nI v) (nI d) z := by
  have hne : ¬ nI d = (3 : Int32) := by
    intro q
    have := congrArg Int32.toInt q
    rw [nI_toInt (by omega)] at this
    have e3 : (3 : Int32).toInt = 3 := rfl
    omega
  rw [mX11_number_b4, if_pos h, zr_here hn e hp ea, zz_b1_s, zr_in32, zz_b1_s, zz_ti, if_neg hne]
  unfold mX11_number_b42
  rw [zr_here hn e hp ea, zz_b1_s, zz_nm_s, zz_nm_s, zz_nm_s, ea, nI_1, nI_1]
  by_cases c : f_D (f_tx z) n p
  · rw [if_pos c, if_pos (show (48 : Int64).toInt ≤ (f_sg (f_tx z) n p).toInt ∧ (f_sg (f_tx z) n p).toInt ≤ (57 : Int64).toInt from c), zq_digit c]
  · rw [if_neg c, if_neg (show ¬ ((48 : Int64).toInt ≤ (f_sg (f_tx z) n p).toInt ∧ (f_sg (f_tx z) n p).toInt ≤ (57 : Int64).toInt) from c)]
/-- what a number, an expected sign leave of the reference's memory -/
def zBn (z z1 : zz_M) : Prop := z1.1 = z.1 ∧ z1.2.1 = z.2.1 ∧ z1.2.2.2 = z.2.2.2 ∧ ∀ q, q ≠ 21 → q ≠ 22 → z1.2.2.1 q = z.2.2.1 q
theorem zBn.rf (z : zz_M) : zBn z z := ⟨rfl, rfl, rfl, fun _ _ _ => rfl⟩
theorem zBn.a {z z1 : zz_M} (h : zBn z z1) (v : Int32) : zBn z (zz_sF z1 21 v) := ⟨h.1, h.2.1, h.2.2.1, fun q q1 q2 => by rw [zsF_ne _ _ q1]; exact h.2.2.2 q q1 q2⟩
theorem zBn.b {z z1 : zz_M} (h : zBn z z1) (v : Int32) : zBn z (zz_sF z1 22 v) := ⟨h.1, h.2.1, h.2.2.1, fun q q1 q2 => by rw [zsF_ne _ _ q2]; exact h.2.2.2 q q1 q2⟩
theorem zBn.tr {z z1 z2 : zz_M} (h : zBn z z1) (k : zBn z1 z2) : zBn z z2 := ⟨k.1.trans h.1, k.2.1.trans h.2.1, k.2.2.1.trans h.2.2.1, fun q q1 q2 => (k.2.2.2 q q1 q2).trans (h.2.2.2 q q1 q2)⟩
theorem zr_num_71 {z : zz_M} {p : Nat} (hp : p < 1000) (ea : z.2.2.1 21 = nI p) (h : z.2.2.1 22 = -1) {v d : Nat} (hv : v < 1000) (hd : d ≤ 4) (hd0 : 0 < d) (hp0 : 0 < p) : mX11_number_b71 (nI v) (nI d) z = some (nI v, if v = 0 then zz_sF z 22 (nI (p - 1)) else z) := by
  unfold mX11_number_b71 mX11_number_b83 mX11_number_b97
  rw [if_neg (nI_pos_eq (by omega) hd0), ea]
  by_cases c : v = 0
  · subst c
    obtain ⟨q, rfl⟩ : ∃ q, p = q + 1 := ⟨p - 1, by omega⟩
    rw [if_pos nI_0, if_pos rfl, zr_fault0 h, zz_b2_s, nI_pred]
    rfl
  · rw [if_neg (nI_pos_eq (by omega) (by omega)), if_neg c]
theorem nI_n1 {k : Nat} (h : k < 2 ^ 31) : ¬ nI k = (-1 : Int32) := nI_not1 h
theorem zr_number {z : zz_M} {n : Nat} (hn : n ≤ 120) (e : z.2.2.1 20 = nI n) {p : Nat} (hp : p < 500) (ea : z.2.2.1 21 = nI p) (hp0 : 0 < p) (h : z.2.2.1 22 = -1) :
    ∃ V z', mX11_number z = some (V, z') ∧ zBn z z' ∧ (1 ≤ f_nk (f_tx z) n p ∧ f_nk (f_tx z) n p ≤ 3 ∧ f_nv (f_tx z) n p ≠ 0 → V = nI (f_nv (f_tx z) n p) ∧ z'.2.2.1 22 = -1 ∧ z'.2.2.1 21 = nI (p + f_nk (f_tx z) n p)) ∧ (¬ (1 ≤ f_nk (f_tx z) n p ∧ f_nk (f_tx z) n p ≤ 3 ∧ f_nv (f_tx z) n p ≠ 0) → z'.2.2.1 22 = nI (f_nf (f_tx z) n p)) := by
  have s0 := zr_num_step hn e (by omega) ea h (d := 0) (by omega) 0 299
  have s0' : mX11_number z = _ := s0
  rw [s0']
  unfold f_nf
  have hbd := f_nv_bd (f_tx z) n p
  by_cases d0 : f_D (f_tx z) n p
  · have b0 := (f_D_sg d0).2
    rw [if_pos d0, zr_num_step (z := zz_sF z 21 (nI (p + 1))) (p := p + 1) hn (by rw [zsF_ne _ _ (by omega)]; exact e) (by omega) (zsF_at _ _ _) (by rw [zsF_ne _ _ (by omega)]; exact h) (d := 1) (by omega)]
    show ∃ V z', (if f_D (f_tx z) n (p + 1) then _ else _) = some (V, z') ∧ _
    by_cases d1 : f_D (f_tx z) n (p + 1)
    · have b1 := (f_D_sg d1).2
      rw [if_pos d1, zsF_2, zr_num_step (z := zz_sF z 21 (nI (p + 1 + 1))) (p := p + 1 + 1) hn (by rw [zsF_ne _ _ (by omega)]; exact e) (by omega) (zsF_at _ _ _) (by rw [zsF_ne _ _ (by omega)]; exact h) (d := 2) (by omega)]
      show ∃ V z', (if f_D (f_tx z) n (p + 2) then _ else _) = some (V, z') ∧ _
      by_cases d2 : f_D (f_tx z) n (p + 2)
      · have b2 := (f_D_sg d2).2
        have ev : f_nv (f_tx z) n p = 10 * (10 * f_dv (f_tx z) n p + f_dv (f_tx z) n (p + 1)) + f_dv (f_tx z) n (p + 2) := by unfold f_nv; rw [if_pos d0, if_pos d1, if_pos d2]
        rw [if_pos d2, zsF_2]
        show ∃ V z', mX11_number_b4 297 (nI (10 * (10 * (10 * 0 + f_dv (f_tx z) n p) + f_dv (f_tx z) n (p + 1)) + f_dv (f_tx z) n (p + 2))) (nI 3) (zz_sF z 21 (nI (p + 3))) = some (V, z') ∧ _
        rw [show 10 * (10 * (10 * 0 + f_dv (f_tx z) n p) + f_dv (f_tx z) n (p + 1)) + f_dv (f_tx z) n (p + 2) = f_nv (f_tx z) n p by rw [ev]; omega]
        have hre := zr_here (z := zz_sF z 21 (nI (p + 3))) (n := n) (p := p + 3) hn (by rw [zsF_ne _ _ (by omega)]; exact e) (by omega) (zsF_at _ _ _)
        have hre' : mX11_here (zz_sF z 21 (nI (p + 3))) = some (f_sg (f_tx z) n (p + 3)) := hre
        have h22 : (zz_sF z 21 (nI (p + 3))).2.2.1 22 = -1 := by rw [zsF_ne _ _ (by omega)]; exact h
        rw [mX11_number_b4, if_pos h22, hre', zz_b1_s, zr_in32, zz_b1_s, zz_ti, if_pos (show nI 3 = (3 : Int32) from rfl)]
        by_cases d3 : f_D (f_tx z) n (p + 3)
        · have ek : f_nk (f_tx z) n p = 4 := by unfold f_nk; rw [if_pos d0, if_pos d1, if_pos d2, if_pos d3]
          rw [if_pos (show (48 : Int64).toInt ≤ (f_sg (f_tx z) n (p + 3)).toInt ∧ (f_sg (f_tx z) n (p + 3)).toInt ≤ (57 : Int64).toInt from d3), zr_fault0 h22, zz_b2_s, zsF_at]
          have hre2 := zr_here (z := zz_sF (zz_sF z 21 (nI (p + 3))) 22 (nI (p + 3))) (n := n) (p := p + 3) hn (by rw [zsF_ne _ _ (by omega), zsF_ne _ _ (by omega)]; exact e) (by omega) (by rw [zsF_ne _ _ (by omega)]; exact zsF_at _ _ _)
          unfold mX11_number_b42
          rw [hre2, zz_b1_s, zz_nm_s, zz_nm_s, zz_nm_s]
          have hF : ¬ (zz_sF (zz_sF (zz_sF z 21 (nI (p + 3))) 22 (nI (p + 3))) 21 ((zz_sF (zz_sF z 21 (nI (p + 3))) 22 (nI (p + 3))).2.2.1 21 + 1)).2.2.1 22 = -1 := by
            rw [zsF_ne _ _ (by omega), zsF_at]
            exact nI_n1 (by omega)
          rw [mX11_number_b4, if_neg hF]
          unfold mX11_number_b71 mX11_number_b83 mX11_number_b97
          rw [zr_fault1 hF, zz_b2_s, zr_fault1 hF, zz_b2_s, ite_self, ite_self]
          refine ⟨_, _, rfl, (((zBn.rf z).a _).b _).a _, fun q => absurd q (by omega), fun _ => ?_⟩
          rw [zsF_ne _ _ (by omega), zsF_at, ek, if_neg (by omega), if_pos rfl]
        · have ek : f_nk (f_tx z) n p = 3 := by unfold f_nk; rw [if_pos d0, if_pos d1, if_pos d2, if_neg d3]
          rw [if_neg (show ¬ ((48 : Int64).toInt ≤ (f_sg (f_tx z) n (p + 3)).toInt ∧ (f_sg (f_tx z) n (p + 3)).toInt ≤ (57 : Int64).toInt) from d3), zr_num_71 (p := p + 3) (by omega) (zsF_at _ _ _) h22 (by omega) (by omega) (by omega) (by omega), ek]
          refine ⟨_, _, rfl, ?_, fun q => ?_, fun q => ?_⟩
          · split
            · exact ((zBn.rf z).a _).b _
            · exact (zBn.rf z).a _
          · rw [if_neg q.2.2]
            exact ⟨rfl, h22, zsF_at _ _ _⟩
          · rw [if_pos (by omega), zsF_at, if_neg (by omega), if_neg (by omega)]
      · have ev : f_nv (f_tx z) n p = 10 * f_dv (f_tx z) n p + f_dv (f_tx z) n (p + 1) := by unfold f_nv; rw [if_pos d0, if_pos d1, if_neg d2]
        have ek : f_nk (f_tx z) n p = 2 := by unfold f_nk; rw [if_pos d0, if_pos d1, if_neg d2]
        rw [if_neg d2]
        show ∃ V z', mX11_number_b71 (nI (10 * (10 * 0 + f_dv (f_tx z) n p) + f_dv (f_tx z) n (p + 1))) (nI 2) (zz_sF z 21 (nI (p + 2))) = some (V, z') ∧ _
        rw [show 10 * (10 * 0 + f_dv (f_tx z) n p) + f_dv (f_tx z) n (p + 1) = f_nv (f_tx z) n p by rw [ev]; omega]
        have h22 : (zz_sF z 21 (nI (p + 2))).2.2.1 22 = -1 := by rw [zsF_ne _ _ (by omega)]; exact h
        rw [zr_num_71 (p := p + 2) (by omega) (zsF_at _ _ _) h22 (by omega) (by omega) (by omega) (by omega), ek]
        refine ⟨_, _, rfl, ?_, fun q => ?_, fun q => ?_⟩
        · split
          · exact ((zBn.rf z).a _).b _
          · exact (zBn.rf z).a _
        · rw [if_neg q.2.2]
          exact ⟨rfl, h22, zsF_at _ _ _⟩
        · rw [if_pos (by omega), zsF_at, if_neg (by omega), if_neg (by omega)]
    · have ev : f_nv (f_tx z) n p = f_dv (f_tx z) n p := by unfold f_nv; rw [if_pos d0, if_neg d1]
      have ek : f_nk (f_tx z) n p = 1 := by unfold f_nk; rw [if_pos d0, if_neg d1]
      rw [if_neg d1]
      show ∃ V z', mX11_number_b71 (nI (10 * 0 + f_dv (f_tx z) n p)) (nI 1) (zz_sF z 21 (nI (p + 1))) = some (V, z') ∧ _
      rw [show 10 * 0 + f_dv (f_tx z) n p = f_nv (f_tx z) n p by rw [ev]; omega]
      have h22 : (zz_sF z 21 (nI (p + 1))).2.2.1 22 = -1 := by rw [zsF_ne _ _ (by omega)]; exact h
      rw [zr_num_71 (p := p + 1) (by omega) (zsF_at _ _ _) h22 (by omega) (by omega) (by omega) (by omega), ek]
      refine ⟨_, _, rfl, ?_, fun q => ?_, fun q => ?_⟩
      · split
        · exact ((zBn.rf z).a _).b _
        · exact (zBn.rf z).a _
      · rw [if_neg q.2.2]
        exact ⟨rfl, h22, zsF_at _ _ _⟩
      · rw [if_pos (by omega), zsF_at, if_neg (by omega), if_neg (by omega)]
  · have ev : f_nv (f_tx z) n p = 0 := by unfold f_nv; rw [if_neg d0]
    have ek : f_nk (f_tx z) n p = 0 := by unfold f_nk; rw [if_neg d0]
    rw [if_neg d0, ek]
    unfold mX11_number_b71 mX11_number_b83 mX11_number_b97
    rw [if_pos nI_0, ea, zr_fault0 h, zz_b2_s, if_pos nI_0]
    have hF : ¬ (zz_sF z 22 (nI p)).2.2.1 22 = -1 := by rw [zsF_at]; exact nI_n1 (by omega)
    rw [zr_fault1 hF, zz_b2_s]
    exact ⟨_, _, rfl, (zBn.rf z).b _, fun q => absurd q (by omega), fun _ => by rw [zsF_at, if_pos rfl]⟩
