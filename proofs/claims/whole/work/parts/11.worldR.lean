/-- the reference's object: its fields, and its world: the object, then its arrays in the order of the fields -/
def fR (a : Nat → Nat) (z : zz_M) : List Value := [.ref (a 1), .ref (a 2), .int (z.2.2.1 2), .ref (a 3), .ref (a 4), .ref (a 5), .int (z.2.2.1 6), .ref (a 6), .int (z.2.2.1 8), .int (z.2.2.1 9), .int (z.2.2.1 10), .int (z.2.2.1 11), .int (z.2.2.1 12), .ref (a 7), .ref (a 8), .ref (a 9), .int (z.2.2.1 16), .ref (a 10), .int (z.2.2.1 18), .int (z.2.2.1 19), .int (z.2.2.1 20), .int (z.2.2.1 21), .int (z.2.2.1 22), .ref (a 11), .ref (a 12), .ref (a 13), .ref (a 14), .ref (a 15), .ref (a 16), .ref (a 17), .ref (a 18), .ref (a 19), .ref (a 20), .long (z.2.2.2 33), .long (z.2.2.2 34)]
def wR (y : Nat → ClassId) (a : Nat → Nat) (z : zz_M) : va_W := [(a 0, .inr (11, fR a z)), (a 1, .inl ((y 0), 14, .inl (z.1 1))), (a 2, .inl ((y 0), 30, .inl (z.1 2))), (a 3, .inl ((y 0), 240, .inl (z.1 3))), (a 4, .inl ((y 0), 24, .inl (z.1 4))), (a 5, .inl ((y 0), 32, .inl (z.1 5))), (a 6, .inl ((y 0), 30, .inl (z.1 6))), (a 7, .inl ((y 0), 24, .inl (z.1 7))), (a 8, .inl ((y 0), 24, .inl (z.1 8))), (a 9, .inl ((y 2), 120, .inl (z.1 9))), (a 10, .inl ((y 1), 32, .inr (.inl (z.2.1 10)))), (a 11, .inl ((y 0), 30, .inl (z.1 11))), (a 12, .inl ((y 1), 24, .inr (.inl (z.2.1 12)))), (a 13, .inl ((y 1), 24, .inr (.inl (z.2.1 13)))), (a 14, .inl ((y 1), 24, .inr (.inl (z.2.1 14)))), (a 15, .inl ((y 1), 24, .inr (.inl (z.2.1 15)))), (a 16, .inl ((y 1), 24, .inr (.inl (z.2.1 16)))), (a 17, .inl ((y 1), 24, .inr (.inl (z.2.1 17)))), (a 18, .inl ((y 1), 24, .inr (.inl (z.2.1 18)))), (a 19, .inl ((y 0), 24, .inl (z.1 19))), (a 20, .inl ((y 1), 24, .inr (.inl (z.2.1 20))))]
theorem wR_0 (y : Nat → ClassId) (a : Nat → Nat) (z : zz_M) : (wR y a z)[0]? = some (a 0, .inr (11, fR a z)) := rfl
theorem wR_1 (y : Nat → ClassId) (a : Nat → Nat) (z : zz_M) : (wR y a z)[1]? = some (a 1, .inl ((y 0), 14, .inl (z.1 1))) := rfl
theorem wR_w1 (y : Nat → ClassId) (a : Nat → Nat) (z : zz_M) (i x : Int32) : (wR y a z).set 1 (a 1, .inl ((y 0), 14, .inl (upd (z.1 1) i.toNatClampNeg x))) = wR y a (zz_wI z 1 i x) := rfl
theorem wR_2 (y : Nat → ClassId) (a : Nat → Nat) (z : zz_M) : (wR y a z)[2]? = some (a 2, .inl ((y 0), 30, .inl (z.1 2))) := rfl
theorem wR_w2 (y : Nat → ClassId) (a : Nat → Nat) (z : zz_M) (i x : Int32) : (wR y a z).set 2 (a 2, .inl ((y 0), 30, .inl (upd (z.1 2) i.toNatClampNeg x))) = wR y a (zz_wI z 2 i x) := rfl
theorem wR_3 (y : Nat → ClassId) (a : Nat → Nat) (z : zz_M) : (wR y a z)[3]? = some (a 3, .inl ((y 0), 240, .inl (z.1 3))) := rfl
theorem wR_w3 (y : Nat → ClassId) (a : Nat → Nat) (z : zz_M) (i x : Int32) : (wR y a z).set 3 (a 3, .inl ((y 0), 240, .inl (upd (z.1 3) i.toNatClampNeg x))) = wR y a (zz_wI z 3 i x) := rfl
theorem wR_4 (y : Nat → ClassId) (a : Nat → Nat) (z : zz_M) : (wR y a z)[4]? = some (a 4, .inl ((y 0), 24, .inl (z.1 4))) := rfl
theorem wR_w4 (y : Nat → ClassId) (a : Nat → Nat) (z : zz_M) (i x : Int32) : (wR y a z).set 4 (a 4, .inl ((y 0), 24, .inl (upd (z.1 4) i.toNatClampNeg x))) = wR y a (zz_wI z 4 i x) := rfl
theorem wR_5 (y : Nat → ClassId) (a : Nat → Nat) (z : zz_M) : (wR y a z)[5]? = some (a 5, .inl ((y 0), 32, .inl (z.1 5))) := rfl
theorem wR_w5 (y : Nat → ClassId) (a : Nat → Nat) (z : zz_M) (i x : Int32) : (wR y a z).set 5 (a 5, .inl ((y 0), 32, .inl (upd (z.1 5) i.toNatClampNeg x))) = wR y a (zz_wI z 5 i x) := rfl
theorem wR_6 (y : Nat → ClassId) (a : Nat → Nat) (z : zz_M) : (wR y a z)[6]? = some (a 6, .inl ((y 0), 30, .inl (z.1 6))) := rfl
theorem wR_w6 (y : Nat → ClassId) (a : Nat → Nat) (z : zz_M) (i x : Int32) : (wR y a z).set 6 (a 6, .inl ((y 0), 30, .inl (upd (z.1 6) i.toNatClampNeg x))) = wR y a (zz_wI z 6 i x) := rfl
theorem wR_7 (y : Nat → ClassId) (a : Nat → Nat) (z : zz_M) : (wR y a z)[7]? = some (a 7, .inl ((y 0), 24, .inl (z.1 7))) := rfl
theorem wR_w7 (y : Nat → ClassId) (a : Nat → Nat) (z : zz_M) (i x : Int32) : (wR y a z).set 7 (a 7, .inl ((y 0), 24, .inl (upd (z.1 7) i.toNatClampNeg x))) = wR y a (zz_wI z 7 i x) := rfl
theorem wR_8 (y : Nat → ClassId) (a : Nat → Nat) (z : zz_M) : (wR y a z)[8]? = some (a 8, .inl ((y 0), 24, .inl (z.1 8))) := rfl
theorem wR_w8 (y : Nat → ClassId) (a : Nat → Nat) (z : zz_M) (i x : Int32) : (wR y a z).set 8 (a 8, .inl ((y 0), 24, .inl (upd (z.1 8) i.toNatClampNeg x))) = wR y a (zz_wI z 8 i x) := rfl
theorem wR_9 (y : Nat → ClassId) (a : Nat → Nat) (z : zz_M) : (wR y a z)[9]? = some (a 9, .inl ((y 2), 120, .inl (z.1 9))) := rfl
theorem wR_w9 (y : Nat → ClassId) (a : Nat → Nat) (z : zz_M) (i x : Int32) : (wR y a z).set 9 (a 9, .inl ((y 2), 120, .inl (upd (z.1 9) i.toNatClampNeg (vp_nar .byte x)))) = wR y a (zz_wB z 9 i x) := rfl
theorem wR_10 (y : Nat → ClassId) (a : Nat → Nat) (z : zz_M) : (wR y a z)[10]? = some (a 10, .inl ((y 1), 32, .inr (.inl (z.2.1 10)))) := rfl
theorem wR_w10 (y : Nat → ClassId) (a : Nat → Nat) (z : zz_M) (i : Int32) (x : Int64) : (wR y a z).set 10 (a 10, .inl ((y 1), 32, .inr (.inl (vp_updL (z.2.1 10) i.toNatClampNeg x)))) = wR y a (zz_wJ z 10 i x) := rfl
theorem wR_11 (y : Nat → ClassId) (a : Nat → Nat) (z : zz_M) : (wR y a z)[11]? = some (a 11, .inl ((y 0), 30, .inl (z.1 11))) := rfl
theorem wR_w11 (y : Nat → ClassId) (a : Nat → Nat) (z : zz_M) (i x : Int32) : (wR y a z).set 11 (a 11, .inl ((y 0), 30, .inl (upd (z.1 11) i.toNatClampNeg x))) = wR y a (zz_wI z 11 i x) := rfl
theorem wR_12 (y : Nat → ClassId) (a : Nat → Nat) (z : zz_M) : (wR y a z)[12]? = some (a 12, .inl ((y 1), 24, .inr (.inl (z.2.1 12)))) := rfl
theorem wR_w12 (y : Nat → ClassId) (a : Nat → Nat) (z : zz_M) (i : Int32) (x : Int64) : (wR y a z).set 12 (a 12, .inl ((y 1), 24, .inr (.inl (vp_updL (z.2.1 12) i.toNatClampNeg x)))) = wR y a (zz_wJ z 12 i x) := rfl
theorem wR_13 (y : Nat → ClassId) (a : Nat → Nat) (z : zz_M) : (wR y a z)[13]? = some (a 13, .inl ((y 1), 24, .inr (.inl (z.2.1 13)))) := rfl
theorem wR_w13 (y : Nat → ClassId) (a : Nat → Nat) (z : zz_M) (i : Int32) (x : Int64) : (wR y a z).set 13 (a 13, .inl ((y 1), 24, .inr (.inl (vp_updL (z.2.1 13) i.toNatClampNeg x)))) = wR y a (zz_wJ z 13 i x) := rfl
theorem wR_14 (y : Nat → ClassId) (a : Nat → Nat) (z : zz_M) : (wR y a z)[14]? = some (a 14, .inl ((y 1), 24, .inr (.inl (z.2.1 14)))) := rfl
theorem wR_w14 (y : Nat → ClassId) (a : Nat → Nat) (z : zz_M) (i : Int32) (x : Int64) : (wR y a z).set 14 (a 14, .inl ((y 1), 24, .inr (.inl (vp_updL (z.2.1 14) i.toNatClampNeg x)))) = wR y a (zz_wJ z 14 i x) := rfl
theorem wR_15 (y : Nat → ClassId) (a : Nat → Nat) (z : zz_M) : (wR y a z)[15]? = some (a 15, .inl ((y 1), 24, .inr (.inl (z.2.1 15)))) := rfl
theorem wR_w15 (y : Nat → ClassId) (a : Nat → Nat) (z : zz_M) (i : Int32) (x : Int64) : (wR y a z).set 15 (a 15, .inl ((y 1), 24, .inr (.inl (vp_updL (z.2.1 15) i.toNatClampNeg x)))) = wR y a (zz_wJ z 15 i x) := rfl
theorem wR_16 (y : Nat → ClassId) (a : Nat → Nat) (z : zz_M) : (wR y a z)[16]? = some (a 16, .inl ((y 1), 24, .inr (.inl (z.2.1 16)))) := rfl
theorem wR_w16 (y : Nat → ClassId) (a : Nat → Nat) (z : zz_M) (i : Int32) (x : Int64) : (wR y a z).set 16 (a 16, .inl ((y 1), 24, .inr (.inl (vp_updL (z.2.1 16) i.toNatClampNeg x)))) = wR y a (zz_wJ z 16 i x) := rfl
theorem wR_17 (y : Nat → ClassId) (a : Nat → Nat) (z : zz_M) : (wR y a z)[17]? = some (a 17, .inl ((y 1), 24, .inr (.inl (z.2.1 17)))) := rfl
theorem wR_w17 (y : Nat → ClassId) (a : Nat → Nat) (z : zz_M) (i : Int32) (x : Int64) : (wR y a z).set 17 (a 17, .inl ((y 1), 24, .inr (.inl (vp_updL (z.2.1 17) i.toNatClampNeg x)))) = wR y a (zz_wJ z 17 i x) := rfl
theorem wR_18 (y : Nat → ClassId) (a : Nat → Nat) (z : zz_M) : (wR y a z)[18]? = some (a 18, .inl ((y 1), 24, .inr (.inl (z.2.1 18)))) := rfl
theorem wR_w18 (y : Nat → ClassId) (a : Nat → Nat) (z : zz_M) (i : Int32) (x : Int64) : (wR y a z).set 18 (a 18, .inl ((y 1), 24, .inr (.inl (vp_updL (z.2.1 18) i.toNatClampNeg x)))) = wR y a (zz_wJ z 18 i x) := rfl
theorem wR_19 (y : Nat → ClassId) (a : Nat → Nat) (z : zz_M) : (wR y a z)[19]? = some (a 19, .inl ((y 0), 24, .inl (z.1 19))) := rfl
theorem wR_w19 (y : Nat → ClassId) (a : Nat → Nat) (z : zz_M) (i x : Int32) : (wR y a z).set 19 (a 19, .inl ((y 0), 24, .inl (upd (z.1 19) i.toNatClampNeg x))) = wR y a (zz_wI z 19 i x) := rfl
theorem wR_20 (y : Nat → ClassId) (a : Nat → Nat) (z : zz_M) : (wR y a z)[20]? = some (a 20, .inl ((y 1), 24, .inr (.inl (z.2.1 20)))) := rfl
theorem wR_w20 (y : Nat → ClassId) (a : Nat → Nat) (z : zz_M) (i : Int32) (x : Int64) : (wR y a z).set 20 (a 20, .inl ((y 1), 24, .inr (.inl (vp_updL (z.2.1 20) i.toNatClampNeg x)))) = wR y a (zz_wJ z 20 i x) := rfl
theorem wR_f2 (y : Nat → ClassId) (a : Nat → Nat) (z : zz_M) (v : Int32) : (wR y a z).set 0 (a 0, .inr (11, (fR a z).set 2 (.int v))) = wR y a (zz_sF z 2 v) := rfl
theorem wR_f6 (y : Nat → ClassId) (a : Nat → Nat) (z : zz_M) (v : Int32) : (wR y a z).set 0 (a 0, .inr (11, (fR a z).set 6 (.int v))) = wR y a (zz_sF z 6 v) := rfl
theorem wR_f8 (y : Nat → ClassId) (a : Nat → Nat) (z : zz_M) (v : Int32) : (wR y a z).set 0 (a 0, .inr (11, (fR a z).set 8 (.int v))) = wR y a (zz_sF z 8 v) := rfl
theorem wR_f9 (y : Nat → ClassId) (a : Nat → Nat) (z : zz_M) (v : Int32) : (wR y a z).set 0 (a 0, .inr (11, (fR a z).set 9 (.int v))) = wR y a (zz_sF z 9 v) := rfl
theorem wR_f10 (y : Nat → ClassId) (a : Nat → Nat) (z : zz_M) (v : Int32) : (wR y a z).set 0 (a 0, .inr (11, (fR a z).set 10 (.int v))) = wR y a (zz_sF z 10 v) := rfl
theorem wR_f11 (y : Nat → ClassId) (a : Nat → Nat) (z : zz_M) (v : Int32) : (wR y a z).set 0 (a 0, .inr (11, (fR a z).set 11 (.int v))) = wR y a (zz_sF z 11 v) := rfl
theorem wR_f12 (y : Nat → ClassId) (a : Nat → Nat) (z : zz_M) (v : Int32) : (wR y a z).set 0 (a 0, .inr (11, (fR a z).set 12 (.int v))) = wR y a (zz_sF z 12 v) := rfl
theorem wR_f16 (y : Nat → ClassId) (a : Nat → Nat) (z : zz_M) (v : Int32) : (wR y a z).set 0 (a 0, .inr (11, (fR a z).set 16 (.int v))) = wR y a (zz_sF z 16 v) := rfl
theorem wR_f18 (y : Nat → ClassId) (a : Nat → Nat) (z : zz_M) (v : Int32) : (wR y a z).set 0 (a 0, .inr (11, (fR a z).set 18 (.int v))) = wR y a (zz_sF z 18 v) := rfl
theorem wR_f19 (y : Nat → ClassId) (a : Nat → Nat) (z : zz_M) (v : Int32) : (wR y a z).set 0 (a 0, .inr (11, (fR a z).set 19 (.int v))) = wR y a (zz_sF z 19 v) := rfl
theorem wR_f20 (y : Nat → ClassId) (a : Nat → Nat) (z : zz_M) (v : Int32) : (wR y a z).set 0 (a 0, .inr (11, (fR a z).set 20 (.int v))) = wR y a (zz_sF z 20 v) := rfl
theorem wR_f21 (y : Nat → ClassId) (a : Nat → Nat) (z : zz_M) (v : Int32) : (wR y a z).set 0 (a 0, .inr (11, (fR a z).set 21 (.int v))) = wR y a (zz_sF z 21 v) := rfl
theorem wR_f22 (y : Nat → ClassId) (a : Nat → Nat) (z : zz_M) (v : Int32) : (wR y a z).set 0 (a 0, .inr (11, (fR a z).set 22 (.int v))) = wR y a (zz_sF z 22 v) := rfl
theorem wR_f33 (y : Nat → ClassId) (a : Nat → Nat) (z : zz_M) (v : Int64) : (wR y a z).set 0 (a 0, .inr (11, (fR a z).set 33 (.long v))) = wR y a (zz_sG z 33 v) := rfl
theorem wR_f34 (y : Nat → ClassId) (a : Nat → Nat) (z : zz_M) (v : Int64) : (wR y a z).set 0 (a 0, .inr (11, (fR a z).set 34 (.long v))) = wR y a (zz_sG z 34 v) := rfl
