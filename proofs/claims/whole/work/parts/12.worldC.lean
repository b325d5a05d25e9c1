/-- the class's objects: their fields -/
def fBill (b : Nat) (a : Nat → Nat) (z : zz_M) : List Value := [.ref (a (b + 1)), .ref (a (b + 2)), .ref (a (b + 3)), .int (z.2.2.1 (64 * b + 3)), .int (z.2.2.1 (64 * b + 4))]
def fSer (p : Nat) (a : Nat → Nat) (z : zz_M) : List Value := [.ref (a (p + 1)), .ref (a (p + 2)), .int (z.2.2.1 (64 * p + 2))]
def fFig (f : Nat) (a : Nat → Nat) (z : zz_M) : List Value := [.ref (a (f + 1))]
def fC0 (a : Nat → Nat) (z : zz_M) : List Value := [.ref (a 1), .ref (a 3), .ref (a 8), .ref (a 64), .ref (a 81), .ref (a 98), .ref (a 99)]
def fC1 (a : Nat → Nat) (z : zz_M) : List Value := [.ref (a 2), .int (z.2.2.1 65)]
def fC3 (a : Nat → Nat) (z : zz_M) : List Value := [.ref (a 4), .int (z.2.2.1 193)]
def fC8 (a : Nat → Nat) (z : zz_M) : List Value := [.ref (a 9), .ref (a 13), .ref (a 15), .ref (a 46), .ref (a 49), .ref (a 52), .ref (a 57), .ref (a 63), .int (z.2.2.1 520), .int (z.2.2.1 521), .int (z.2.2.1 522), .int (z.2.2.1 523)]
def fC13 (a : Nat → Nat) (z : zz_M) : List Value := [.ref (a 14)]
def fC52 (a : Nat → Nat) (z : zz_M) : List Value := [.ref (a 53), .ref (a 54), .ref (a 55), .ref (a 56), .int (z.2.2.1 3332)]
def fC57 (a : Nat → Nat) (z : zz_M) : List Value := [.ref (a 58), .ref (a 59), .ref (a 60), .ref (a 61), .ref (a 62), .int (z.2.2.1 3653)]
def fC99 (a : Nat → Nat) (z : zz_M) : List Value := [.ref (a 100), .int (z.2.2.1 6337)]
/-- the class's world -/
def wC (y : Nat → ClassId) (a : Nat → Nat) (z : zz_M) : va_W := [(a 0, .inr (10, fC0 a z)), (a 1, .inr (9, fC1 a z)), (a 2, .inl (y 0, 120, .inl (z.1 2))), (a 3, .inr (1, fC3 a z)), (a 4, .inr (0, fBill 4 a z)), (a 5, .inl (y 0, 10, .inl (z.1 5))), (a 6, .inl (y 0, 10, .inl (z.1 6))), (a 7, .inl (y 0, 10, .inl (z.1 7))), (a 8, .inr (2, fC8 a z)), (a 9, .inr (0, fBill 9 a z)), (a 10, .inl (y 0, 10, .inl (z.1 10))), (a 11, .inl (y 0, 10, .inl (z.1 11))), (a 12, .inl (y 0, 10, .inl (z.1 12))), (a 13, .inr (8, fC13 a z)), (a 14, .inl (y 0, 14, .inl (z.1 14))), (a 15, .inl (y 3, 10, .inr (.inr (.inr (.inr (fun j => some (a (16 + 3 * j)))))))), (a 16, .inr (6, fSer 16 a z)), (a 17, .inl (y 0, 24, .inl (z.1 17))), (a 18, .inl (y 0, 24, .inl (z.1 18))), (a 19, .inr (6, fSer 19 a z)), (a 20, .inl (y 0, 24, .inl (z.1 20))), (a 21, .inl (y 0, 24, .inl (z.1 21))), (a 22, .inr (6, fSer 22 a z)), (a 23, .inl (y 0, 24, .inl (z.1 23))), (a 24, .inl (y 0, 24, .inl (z.1 24))), (a 25, .inr (6, fSer 25 a z)), (a 26, .inl (y 0, 24, .inl (z.1 26))), (a 27, .inl (y 0, 24, .inl (z.1 27))), (a 28, .inr (6, fSer 28 a z)), (a 29, .inl (y 0, 24, .inl (z.1 29))), (a 30, .inl (y 0, 24, .inl (z.1 30))), (a 31, .inr (6, fSer 31 a z)), (a 32, .inl (y 0, 24, .inl (z.1 32))), (a 33, .inl (y 0, 24, .inl (z.1 33))), (a 34, .inr (6, fSer 34 a z)), (a 35, .inl (y 0, 24, .inl (z.1 35))), (a 36, .inl (y 0, 24, .inl (z.1 36))), (a 37, .inr (6, fSer 37 a z)), (a 38, .inl (y 0, 24, .inl (z.1 38))), (a 39, .inl (y 0, 24, .inl (z.1 39))), (a 40, .inr (6, fSer 40 a z)), (a 41, .inl (y 0, 24, .inl (z.1 41))), (a 42, .inl (y 0, 24, .inl (z.1 42))), (a 43, .inr (6, fSer 43 a z)), (a 44, .inl (y 0, 24, .inl (z.1 44))), (a 45, .inl (y 0, 24, .inl (z.1 45))), (a 46, .inr (6, fSer 46 a z)), (a 47, .inl (y 0, 24, .inl (z.1 47))), (a 48, .inl (y 0, 24, .inl (z.1 48))), (a 49, .inr (6, fSer 49 a z)), (a 50, .inl (y 0, 24, .inl (z.1 50))), (a 51, .inl (y 0, 24, .inl (z.1 51))), (a 52, .inr (3, fC52 a z)), (a 53, .inl (y 0, 8, .inl (z.1 53))), (a 54, .inl (y 0, 8, .inl (z.1 54))), (a 55, .inl (y 0, 8, .inl (z.1 55))), (a 56, .inl (y 0, 8, .inl (z.1 56))), (a 57, .inr (7, fC57 a z)), (a 58, .inl (y 0, 6, .inl (z.1 58))), (a 59, .inl (y 0, 6, .inl (z.1 59))), (a 60, .inl (y 0, 6, .inl (z.1 60))), (a 61, .inl (y 0, 6, .inl (z.1 61))), (a 62, .inl (y 0, 6, .inl (z.1 62))), (a 63, .inl (y 1, 24, .inr (.inl (z.2.1 63)))), (a 64, .inr (4, fFig 64 a z)), (a 65, .inl (y 4, 15, .inr (.inr (.inr (.inr (fun j => some (a (64 + 2 + j)))))))), (a 66, .inl (y 1, 24, .inr (.inl (z.2.1 66)))), (a 67, .inl (y 1, 24, .inr (.inl (z.2.1 67)))), (a 68, .inl (y 1, 24, .inr (.inl (z.2.1 68)))), (a 69, .inl (y 1, 24, .inr (.inl (z.2.1 69)))), (a 70, .inl (y 1, 24, .inr (.inl (z.2.1 70)))), (a 71, .inl (y 1, 24, .inr (.inl (z.2.1 71)))), (a 72, .inl (y 1, 24, .inr (.inl (z.2.1 72)))), (a 73, .inl (y 1, 24, .inr (.inl (z.2.1 73)))), (a 74, .inl (y 1, 24, .inr (.inl (z.2.1 74)))), (a 75, .inl (y 1, 24, .inr (.inl (z.2.1 75)))), (a 76, .inl (y 1, 24, .inr (.inl (z.2.1 76)))), (a 77, .inl (y 1, 24, .inr (.inl (z.2.1 77)))), (a 78, .inl (y 1, 24, .inr (.inl (z.2.1 78)))), (a 79, .inl (y 1, 24, .inr (.inl (z.2.1 79)))), (a 80, .inl (y 1, 24, .inr (.inl (z.2.1 80)))), (a 81, .inr (4, fFig 81 a z)), (a 82, .inl (y 4, 15, .inr (.inr (.inr (.inr (fun j => some (a (81 + 2 + j)))))))), (a 83, .inl (y 1, 24, .inr (.inl (z.2.1 83)))), (a 84, .inl (y 1, 24, .inr (.inl (z.2.1 84)))), (a 85, .inl (y 1, 24, .inr (.inl (z.2.1 85)))), (a 86, .inl (y 1, 24, .inr (.inl (z.2.1 86)))), (a 87, .inl (y 1, 24, .inr (.inl (z.2.1 87)))), (a 88, .inl (y 1, 24, .inr (.inl (z.2.1 88)))), (a 89, .inl (y 1, 24, .inr (.inl (z.2.1 89)))), (a 90, .inl (y 1, 24, .inr (.inl (z.2.1 90)))), (a 91, .inl (y 1, 24, .inr (.inl (z.2.1 91)))), (a 92, .inl (y 1, 24, .inr (.inl (z.2.1 92)))), (a 93, .inl (y 1, 24, .inr (.inl (z.2.1 93)))), (a 94, .inl (y 1, 24, .inr (.inl (z.2.1 94)))), (a 95, .inl (y 1, 24, .inr (.inl (z.2.1 95)))), (a 96, .inl (y 1, 24, .inr (.inl (z.2.1 96)))), (a 97, .inl (y 1, 24, .inr (.inl (z.2.1 97)))), (a 98, .inl (y 1, 24, .inr (.inl (z.2.1 98)))), (a 99, .inr (5, fC99 a z)), (a 100, .inl (y 1, 5, .inr (.inl (z.2.1 100))))]
theorem wC_0 (y : Nat → ClassId) (a : Nat → Nat) (z : zz_M) : (wC y a z)[0]? = some (a 0, .inr (10, fC0 a z)) := rfl
theorem wC_1 (y : Nat → ClassId) (a : Nat → Nat) (z : zz_M) : (wC y a z)[1]? = some (a 1, .inr (9, fC1 a z)) := rfl
theorem wC_f1_1 (y : Nat → ClassId) (a : Nat → Nat) (z : zz_M) (v : Int32) : (wC y a z).set 1 (a 1, .inr (9, (fC1 a z).set 1 (.int v))) = wC y a (zz_sF z 65 v) := rfl
theorem wC_3 (y : Nat → ClassId) (a : Nat → Nat) (z : zz_M) : (wC y a z)[3]? = some (a 3, .inr (1, fC3 a z)) := rfl
theorem wC_f3_1 (y : Nat → ClassId) (a : Nat → Nat) (z : zz_M) (v : Int32) : (wC y a z).set 3 (a 3, .inr (1, (fC3 a z).set 1 (.int v))) = wC y a (zz_sF z 193 v) := rfl
theorem wC_8 (y : Nat → ClassId) (a : Nat → Nat) (z : zz_M) : (wC y a z)[8]? = some (a 8, .inr (2, fC8 a z)) := rfl
theorem wC_f8_8 (y : Nat → ClassId) (a : Nat → Nat) (z : zz_M) (v : Int32) : (wC y a z).set 8 (a 8, .inr (2, (fC8 a z).set 8 (.int v))) = wC y a (zz_sF z 520 v) := rfl
theorem wC_f8_9 (y : Nat → ClassId) (a : Nat → Nat) (z : zz_M) (v : Int32) : (wC y a z).set 8 (a 8, .inr (2, (fC8 a z).set 9 (.int v))) = wC y a (zz_sF z 521 v) := rfl
theorem wC_f8_10 (y : Nat → ClassId) (a : Nat → Nat) (z : zz_M) (v : Int32) : (wC y a z).set 8 (a 8, .inr (2, (fC8 a z).set 10 (.int v))) = wC y a (zz_sF z 522 v) := rfl
theorem wC_f8_11 (y : Nat → ClassId) (a : Nat → Nat) (z : zz_M) (v : Int32) : (wC y a z).set 8 (a 8, .inr (2, (fC8 a z).set 11 (.int v))) = wC y a (zz_sF z 523 v) := rfl
theorem wC_13 (y : Nat → ClassId) (a : Nat → Nat) (z : zz_M) : (wC y a z)[13]? = some (a 13, .inr (8, fC13 a z)) := rfl
theorem wC_52 (y : Nat → ClassId) (a : Nat → Nat) (z : zz_M) : (wC y a z)[52]? = some (a 52, .inr (3, fC52 a z)) := rfl
theorem wC_f52_4 (y : Nat → ClassId) (a : Nat → Nat) (z : zz_M) (v : Int32) : (wC y a z).set 52 (a 52, .inr (3, (fC52 a z).set 4 (.int v))) = wC y a (zz_sF z 3332 v) := rfl
theorem wC_57 (y : Nat → ClassId) (a : Nat → Nat) (z : zz_M) : (wC y a z)[57]? = some (a 57, .inr (7, fC57 a z)) := rfl
theorem wC_f57_5 (y : Nat → ClassId) (a : Nat → Nat) (z : zz_M) (v : Int32) : (wC y a z).set 57 (a 57, .inr (7, (fC57 a z).set 5 (.int v))) = wC y a (zz_sF z 3653 v) := rfl
theorem wC_99 (y : Nat → ClassId) (a : Nat → Nat) (z : zz_M) : (wC y a z)[99]? = some (a 99, .inr (5, fC99 a z)) := rfl
theorem wC_f99_1 (y : Nat → ClassId) (a : Nat → Nat) (z : zz_M) (v : Int32) : (wC y a z).set 99 (a 99, .inr (5, (fC99 a z).set 1 (.int v))) = wC y a (zz_sF z 6337 v) := rfl
theorem wC_2 (y : Nat → ClassId) (a : Nat → Nat) (z : zz_M) : (wC y a z)[2]? = some (a 2, .inl (y 0, 120, .inl (z.1 2))) := rfl
theorem wC_w2 (y : Nat → ClassId) (a : Nat → Nat) (z : zz_M) (i x : Int32) : (wC y a z).set 2 (a 2, .inl (y 0, 120, .inl (upd (z.1 2) i.toNatClampNeg x))) = wC y a (zz_wI z 2 i x) := rfl
theorem wC_14 (y : Nat → ClassId) (a : Nat → Nat) (z : zz_M) : (wC y a z)[14]? = some (a 14, .inl (y 0, 14, .inl (z.1 14))) := rfl
theorem wC_w14 (y : Nat → ClassId) (a : Nat → Nat) (z : zz_M) (i x : Int32) : (wC y a z).set 14 (a 14, .inl (y 0, 14, .inl (upd (z.1 14) i.toNatClampNeg x))) = wC y a (zz_wI z 14 i x) := rfl
theorem wC_53 (y : Nat → ClassId) (a : Nat → Nat) (z : zz_M) : (wC y a z)[53]? = some (a 53, .inl (y 0, 8, .inl (z.1 53))) := rfl
theorem wC_w53 (y : Nat → ClassId) (a : Nat → Nat) (z : zz_M) (i x : Int32) : (wC y a z).set 53 (a 53, .inl (y 0, 8, .inl (upd (z.1 53) i.toNatClampNeg x))) = wC y a (zz_wI z 53 i x) := rfl
theorem wC_54 (y : Nat → ClassId) (a : Nat → Nat) (z : zz_M) : (wC y a z)[54]? = some (a 54, .inl (y 0, 8, .inl (z.1 54))) := rfl
theorem wC_w54 (y : Nat → ClassId) (a : Nat → Nat) (z : zz_M) (i x : Int32) : (wC y a z).set 54 (a 54, .inl (y 0, 8, .inl (upd (z.1 54) i.toNatClampNeg x))) = wC y a (zz_wI z 54 i x) := rfl
theorem wC_55 (y : Nat → ClassId) (a : Nat → Nat) (z : zz_M) : (wC y a z)[55]? = some (a 55, .inl (y 0, 8, .inl (z.1 55))) := rfl
theorem wC_w55 (y : Nat → ClassId) (a : Nat → Nat) (z : zz_M) (i x : Int32) : (wC y a z).set 55 (a 55, .inl (y 0, 8, .inl (upd (z.1 55) i.toNatClampNeg x))) = wC y a (zz_wI z 55 i x) := rfl
theorem wC_56 (y : Nat → ClassId) (a : Nat → Nat) (z : zz_M) : (wC y a z)[56]? = some (a 56, .inl (y 0, 8, .inl (z.1 56))) := rfl
theorem wC_w56 (y : Nat → ClassId) (a : Nat → Nat) (z : zz_M) (i x : Int32) : (wC y a z).set 56 (a 56, .inl (y 0, 8, .inl (upd (z.1 56) i.toNatClampNeg x))) = wC y a (zz_wI z 56 i x) := rfl
theorem wC_58 (y : Nat → ClassId) (a : Nat → Nat) (z : zz_M) : (wC y a z)[58]? = some (a 58, .inl (y 0, 6, .inl (z.1 58))) := rfl
theorem wC_w58 (y : Nat → ClassId) (a : Nat → Nat) (z : zz_M) (i x : Int32) : (wC y a z).set 58 (a 58, .inl (y 0, 6, .inl (upd (z.1 58) i.toNatClampNeg x))) = wC y a (zz_wI z 58 i x) := rfl
theorem wC_59 (y : Nat → ClassId) (a : Nat → Nat) (z : zz_M) : (wC y a z)[59]? = some (a 59, .inl (y 0, 6, .inl (z.1 59))) := rfl
theorem wC_w59 (y : Nat → ClassId) (a : Nat → Nat) (z : zz_M) (i x : Int32) : (wC y a z).set 59 (a 59, .inl (y 0, 6, .inl (upd (z.1 59) i.toNatClampNeg x))) = wC y a (zz_wI z 59 i x) := rfl
theorem wC_60 (y : Nat → ClassId) (a : Nat → Nat) (z : zz_M) : (wC y a z)[60]? = some (a 60, .inl (y 0, 6, .inl (z.1 60))) := rfl
theorem wC_w60 (y : Nat → ClassId) (a : Nat → Nat) (z : zz_M) (i x : Int32) : (wC y a z).set 60 (a 60, .inl (y 0, 6, .inl (upd (z.1 60) i.toNatClampNeg x))) = wC y a (zz_wI z 60 i x) := rfl
theorem wC_61 (y : Nat → ClassId) (a : Nat → Nat) (z : zz_M) : (wC y a z)[61]? = some (a 61, .inl (y 0, 6, .inl (z.1 61))) := rfl
theorem wC_w61 (y : Nat → ClassId) (a : Nat → Nat) (z : zz_M) (i x : Int32) : (wC y a z).set 61 (a 61, .inl (y 0, 6, .inl (upd (z.1 61) i.toNatClampNeg x))) = wC y a (zz_wI z 61 i x) := rfl
theorem wC_62 (y : Nat → ClassId) (a : Nat → Nat) (z : zz_M) : (wC y a z)[62]? = some (a 62, .inl (y 0, 6, .inl (z.1 62))) := rfl
theorem wC_w62 (y : Nat → ClassId) (a : Nat → Nat) (z : zz_M) (i x : Int32) : (wC y a z).set 62 (a 62, .inl (y 0, 6, .inl (upd (z.1 62) i.toNatClampNeg x))) = wC y a (zz_wI z 62 i x) := rfl
theorem wC_63 (y : Nat → ClassId) (a : Nat → Nat) (z : zz_M) : (wC y a z)[63]? = some (a 63, .inl (y 1, 24, .inr (.inl (z.2.1 63)))) := rfl
theorem wC_w63 (y : Nat → ClassId) (a : Nat → Nat) (z : zz_M) (i : Int32) (x : Int64) : (wC y a z).set 63 (a 63, .inl (y 1, 24, .inr (.inl (vp_updL (z.2.1 63) i.toNatClampNeg x)))) = wC y a (zz_wJ z 63 i x) := rfl
theorem wC_s63 (y : Nat → ClassId) (a : Nat → Nat) (z : zz_M) (f : Nat → Int64) : (wC y a z).set 63 (a 63, .inl (y 1, 24, .inr (.inl f))) = wC y a (zz_sJ z 63 f) := rfl
theorem wC_98 (y : Nat → ClassId) (a : Nat → Nat) (z : zz_M) : (wC y a z)[98]? = some (a 98, .inl (y 1, 24, .inr (.inl (z.2.1 98)))) := rfl
theorem wC_w98 (y : Nat → ClassId) (a : Nat → Nat) (z : zz_M) (i : Int32) (x : Int64) : (wC y a z).set 98 (a 98, .inl (y 1, 24, .inr (.inl (vp_updL (z.2.1 98) i.toNatClampNeg x)))) = wC y a (zz_wJ z 98 i x) := rfl
theorem wC_s98 (y : Nat → ClassId) (a : Nat → Nat) (z : zz_M) (f : Nat → Int64) : (wC y a z).set 98 (a 98, .inl (y 1, 24, .inr (.inl f))) = wC y a (zz_sJ z 98 f) := rfl
theorem wC_100 (y : Nat → ClassId) (a : Nat → Nat) (z : zz_M) : (wC y a z)[100]? = some (a 100, .inl (y 1, 5, .inr (.inl (z.2.1 100)))) := rfl
theorem wC_w100 (y : Nat → ClassId) (a : Nat → Nat) (z : zz_M) (i : Int32) (x : Int64) : (wC y a z).set 100 (a 100, .inl (y 1, 5, .inr (.inl (vp_updL (z.2.1 100) i.toNatClampNeg x)))) = wC y a (zz_wJ z 100 i x) := rfl
theorem wC_s100 (y : Nat → ClassId) (a : Nat → Nat) (z : zz_M) (f : Nat → Int64) : (wC y a z).set 100 (a 100, .inl (y 1, 5, .inr (.inl f))) = wC y a (zz_sJ z 100 f) := rfl
theorem wC_15 (y : Nat → ClassId) (a : Nat → Nat) (z : zz_M) : (wC y a z)[15]? = some (a 15, .inl (y 3, 10, .inr (.inr (.inr (.inr (fun j => some (a (16 + 3 * j)))))))) := rfl
theorem wC_bill (y : Nat → ClassId) (a : Nat → Nat) (z : zz_M) (b : Nat) (h : b = 4 ∨ b = 9) : (wC y a z)[b]? = some (a b, .inr (0, fBill b a z)) := by rcases h with h | h <;> subst h <;> rfl
theorem wC_billA1 (y : Nat → ClassId) (a : Nat → Nat) (z : zz_M) (b : Nat) (h : b = 4 ∨ b = 9) : (wC y a z)[b + 1]? = some (a (b + 1), .inl (y 0, 10, .inl (z.1 (b + 1)))) := by rcases h with h | h <;> subst h <;> rfl
theorem wC_billW1 (y : Nat → ClassId) (a : Nat → Nat) (z : zz_M) (i x : Int32) (b : Nat) (h : b = 4 ∨ b = 9) : (wC y a z).set (b + 1) (a (b + 1), .inl (y 0, 10, .inl (upd (z.1 (b + 1)) i.toNatClampNeg x))) = wC y a (zz_wI z (b + 1) i x) := by rcases h with h | h <;> subst h <;> rfl
theorem wC_billA2 (y : Nat → ClassId) (a : Nat → Nat) (z : zz_M) (b : Nat) (h : b = 4 ∨ b = 9) : (wC y a z)[b + 2]? = some (a (b + 2), .inl (y 0, 10, .inl (z.1 (b + 2)))) := by rcases h with h | h <;> subst h <;> rfl
theorem wC_billW2 (y : Nat → ClassId) (a : Nat → Nat) (z : zz_M) (i x : Int32) (b : Nat) (h : b = 4 ∨ b = 9) : (wC y a z).set (b + 2) (a (b + 2), .inl (y 0, 10, .inl (upd (z.1 (b + 2)) i.toNatClampNeg x))) = wC y a (zz_wI z (b + 2) i x) := by rcases h with h | h <;> subst h <;> rfl
theorem wC_billA3 (y : Nat → ClassId) (a : Nat → Nat) (z : zz_M) (b : Nat) (h : b = 4 ∨ b = 9) : (wC y a z)[b + 3]? = some (a (b + 3), .inl (y 0, 10, .inl (z.1 (b + 3)))) := by rcases h with h | h <;> subst h <;> rfl
theorem wC_billW3 (y : Nat → ClassId) (a : Nat → Nat) (z : zz_M) (i x : Int32) (b : Nat) (h : b = 4 ∨ b = 9) : (wC y a z).set (b + 3) (a (b + 3), .inl (y 0, 10, .inl (upd (z.1 (b + 3)) i.toNatClampNeg x))) = wC y a (zz_wI z (b + 3) i x) := by rcases h with h | h <;> subst h <;> rfl
theorem wC_billF3 (y : Nat → ClassId) (a : Nat → Nat) (z : zz_M) (v : Int32) (b : Nat) (h : b = 4 ∨ b = 9) : (wC y a z).set b (a b, .inr (0, (fBill b a z).set 3 (.int v))) = wC y a (zz_sF z (64 * b + 3) v) := by rcases h with h | h <;> subst h <;> rfl
theorem wC_billF4 (y : Nat → ClassId) (a : Nat → Nat) (z : zz_M) (v : Int32) (b : Nat) (h : b = 4 ∨ b = 9) : (wC y a z).set b (a b, .inr (0, (fBill b a z).set 4 (.int v))) = wC y a (zz_sF z (64 * b + 4) v) := by rcases h with h | h <;> subst h <;> rfl
theorem wC_ser (y : Nat → ClassId) (a : Nat → Nat) (z : zz_M) (k : Nat) (h : k < 12) : (wC y a z)[16 + 3 * k]? = some (a (16 + 3 * k), .inr (6, fSer (16 + 3 * k) a z)) := by
  match k, h with
  | 0, _ => rfl
  | 1, _ => rfl
  | 2, _ => rfl
  | 3, _ => rfl
  | 4, _ => rfl
  | 5, _ => rfl
  | 6, _ => rfl
  | 7, _ => rfl
  | 8, _ => rfl
  | 9, _ => rfl
  | 10, _ => rfl
  | 11, _ => rfl
theorem wC_serA1 (y : Nat → ClassId) (a : Nat → Nat) (z : zz_M) (k : Nat) (h : k < 12) : (wC y a z)[16 + 3 * k + 1]? = some (a (16 + 3 * k + 1), .inl (y 0, 24, .inl (z.1 (16 + 3 * k + 1)))) := by
  match k, h with
  | 0, _ => rfl
  | 1, _ => rfl
  | 2, _ => rfl
  | 3, _ => rfl
  | 4, _ => rfl
  | 5, _ => rfl
  | 6, _ => rfl
  | 7, _ => rfl
  | 8, _ => rfl
  | 9, _ => rfl
  | 10, _ => rfl
  | 11, _ => rfl
theorem wC_serW1 (y : Nat → ClassId) (a : Nat → Nat) (z : zz_M) (i x : Int32) (k : Nat) (h : k < 12) : (wC y a z).set (16 + 3 * k + 1) (a (16 + 3 * k + 1), .inl (y 0, 24, .inl (upd (z.1 (16 + 3 * k + 1)) i.toNatClampNeg x))) = wC y a (zz_wI z (16 + 3 * k + 1) i x) := by
  match k, h with
  | 0, _ => rfl
  | 1, _ => rfl
  | 2, _ => rfl
  | 3, _ => rfl
  | 4, _ => rfl
  | 5, _ => rfl
  | 6, _ => rfl
  | 7, _ => rfl
  | 8, _ => rfl
  | 9, _ => rfl
  | 10, _ => rfl
  | 11, _ => rfl
theorem wC_serA2 (y : Nat → ClassId) (a : Nat → Nat) (z : zz_M) (k : Nat) (h : k < 12) : (wC y a z)[16 + 3 * k + 2]? = some (a (16 + 3 * k + 2), .inl (y 0, 24, .inl (z.1 (16 + 3 * k + 2)))) := by
  match k, h with
  | 0, _ => rfl
  | 1, _ => rfl
  | 2, _ => rfl
  | 3, _ => rfl
  | 4, _ => rfl
  | 5, _ => rfl
  | 6, _ => rfl
  | 7, _ => rfl
  | 8, _ => rfl
  | 9, _ => rfl
  | 10, _ => rfl
  | 11, _ => rfl
theorem wC_serW2 (y : Nat → ClassId) (a : Nat → Nat) (z : zz_M) (i x : Int32) (k : Nat) (h : k < 12) : (wC y a z).set (16 + 3 * k + 2) (a (16 + 3 * k + 2), .inl (y 0, 24, .inl (upd (z.1 (16 + 3 * k + 2)) i.toNatClampNeg x))) = wC y a (zz_wI z (16 + 3 * k + 2) i x) := by
  match k, h with
  | 0, _ => rfl
  | 1, _ => rfl
  | 2, _ => rfl
  | 3, _ => rfl
  | 4, _ => rfl
  | 5, _ => rfl
  | 6, _ => rfl
  | 7, _ => rfl
  | 8, _ => rfl
  | 9, _ => rfl
  | 10, _ => rfl
  | 11, _ => rfl
theorem wC_fig (y : Nat → ClassId) (a : Nat → Nat) (z : zz_M) (f : Nat) (h : f = 64 ∨ f = 81) : (wC y a z)[f]? = some (a f, .inr (4, fFig f a z)) := by rcases h with h | h <;> subst h <;> rfl
theorem wC_figR (y : Nat → ClassId) (a : Nat → Nat) (z : zz_M) (f : Nat) (h : f = 64 ∨ f = 81) : (wC y a z)[f + 1]? = some (a (f + 1), .inl (y 4, 15, .inr (.inr (.inr (.inr (fun j => some (a (f + 2 + j)))))))) := by rcases h with h | h <;> subst h <;> rfl
theorem wC_row (y : Nat → ClassId) (a : Nat → Nat) (z : zz_M) (f k : Nat) (h : f = 64 ∨ f = 81) (hk : k < 15) : (wC y a z)[f + 2 + k]? = some (a (f + 2 + k), .inl (y 1, 24, .inr (.inl (z.2.1 (f + 2 + k))))) := by
  rcases h with h | h <;> subst h
  · match k, hk with
    | 0, _ => rfl
    | 1, _ => rfl
    | 2, _ => rfl
    | 3, _ => rfl
    | 4, _ => rfl
    | 5, _ => rfl
    | 6, _ => rfl
    | 7, _ => rfl
    | 8, _ => rfl
    | 9, _ => rfl
    | 10, _ => rfl
    | 11, _ => rfl
    | 12, _ => rfl
    | 13, _ => rfl
    | 14, _ => rfl
  · match k, hk with
    | 0, _ => rfl
    | 1, _ => rfl
    | 2, _ => rfl
    | 3, _ => rfl
    | 4, _ => rfl
    | 5, _ => rfl
    | 6, _ => rfl
    | 7, _ => rfl
    | 8, _ => rfl
    | 9, _ => rfl
    | 10, _ => rfl
    | 11, _ => rfl
    | 12, _ => rfl
    | 13, _ => rfl
    | 14, _ => rfl
theorem wC_roww (y : Nat → ClassId) (a : Nat → Nat) (z : zz_M) (i : Int32) (x : Int64) (f k : Nat) (h : f = 64 ∨ f = 81) (hk : k < 15) : (wC y a z).set (f + 2 + k) (a (f + 2 + k), .inl (y 1, 24, .inr (.inl (vp_updL (z.2.1 (f + 2 + k)) i.toNatClampNeg x)))) = wC y a (zz_wJ z (f + 2 + k) i x) := by
  rcases h with h | h <;> subst h
  · match k, hk with
    | 0, _ => rfl
    | 1, _ => rfl
    | 2, _ => rfl
    | 3, _ => rfl
    | 4, _ => rfl
    | 5, _ => rfl
    | 6, _ => rfl
    | 7, _ => rfl
    | 8, _ => rfl
    | 9, _ => rfl
    | 10, _ => rfl
    | 11, _ => rfl
    | 12, _ => rfl
    | 13, _ => rfl
    | 14, _ => rfl
  · match k, hk with
    | 0, _ => rfl
    | 1, _ => rfl
    | 2, _ => rfl
    | 3, _ => rfl
    | 4, _ => rfl
    | 5, _ => rfl
    | 6, _ => rfl
    | 7, _ => rfl
    | 8, _ => rfl
    | 9, _ => rfl
    | 10, _ => rfl
    | 11, _ => rfl
    | 12, _ => rfl
    | 13, _ => rfl
    | 14, _ => rfl
theorem wC_la (y : Nat → ClassId) (a : Nat → Nat) (z : zz_M) (q : Nat) (h : q = 63 ∨ q = 98) : (wC y a z)[q]? = some (a q, .inl (y 1, 24, .inr (.inl (z.2.1 q)))) := by rcases h with h | h <;> subst h <;> rfl
theorem wC_law (y : Nat → ClassId) (a : Nat → Nat) (z : zz_M) (i : Int32) (x : Int64) (q : Nat) (h : q = 63 ∨ q = 98) : (wC y a z).set q (a q, .inl (y 1, 24, .inr (.inl (vp_updL (z.2.1 q) i.toNatClampNeg x)))) = wC y a (zz_wJ z q i x) := by rcases h with h | h <;> subst h <;> rfl
