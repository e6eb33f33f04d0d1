/-! ===== pure: numbers, cells of a row ===== -/
theorem inB_n {k n : Nat} (h : k < n) (hn : n < 2 ^ 31) : inB (nI k) n = true := by
  simp only [inB, nI_toInt (Nat.lt_trans h hn), Bool.and_eq_true, decide_eq_true_eq]
  omega
theorem upd_s {f : Nat → Int32} {k : Nat} {x : Int32} : upd f k x k = x := pk_us
theorem upd_n {f : Nat → Int32} {k j : Nat} {x : Int32} (h : j ≠ k) : upd f k x j = f j := pk_un h
theorem bS {α β : Type} {a : α} {f : α → Option β} : (some a).bind f = f a := rfl
theorem cT {α : Type} {b : Bool} {x y : α} (h : b = true) : (bif b then x else y) = x := by rw [h]; rfl
/-- the cell of a member -/
theorem ix_c {m w : Nat} : ((13 : Int32) + (nI m * (7 : Int32))) + nI w = nI (13 + 7 * m + w) := by
  rw [show (13 : Int32) = nI 13 from rfl, show (7 : Int32) = nI 7 from rfl, pk_mul, nI_add, nI_add, Nat.mul_comm m 7]
theorem ix_m {m w : Nat} : ((13 : Int32) + ((7 : Int32) * nI m)) + nI w = nI (13 + 7 * m + w) := by
  rw [show (13 : Int32) = nI 13 from rfl, show (7 : Int32) = nI 7 from rfl, pk_mul, nI_add, nI_add]
theorem x0_of {row : Nat → Int32} {m w : Nat} (hm : m < 6) (hw : w < 7) : f_X0_of row (nI m) (nI w) = some (row (13 + 7 * m + w), ()) := by
  rw [f_X0_of, if_neg (nI_pos (by omega)), if_neg (show ¬ (6 : Int32) ≤ nI m from nI_ge hm (by decide)), if_neg (nI_pos (by omega)), if_neg (show ¬ (7 : Int32) ≤ nI w from nI_ge hw (by decide)), ix_c, cT (inB_n (by omega) (by decide)), nI_clamp (by omega)]
theorem x0_setOf {row : Nat → Int32} {m w : Nat} {v : Int32} (hm : m < 6) (hw : w < 7) : f_X0_setOf row (nI m) (nI w) v = some (upd row (13 + 7 * m + w) v) := by
  rw [f_X0_setOf, if_neg (nI_pos (by omega)), if_neg (show ¬ (6 : Int32) ≤ nI m from nI_ge hm (by decide)), if_neg (nI_pos (by omega)), if_neg (show ¬ (7 : Int32) ≤ nI w from nI_ge hw (by decide)), ix_c, cT (inB_n (by omega) (by decide)), nI_clamp (by omega)]
theorem x0_get {row : Nat → Int32} {k : Nat} (hk : k < 13) : f_X0_get row (nI k) = some (row k, ()) := by
  rw [f_X0_get, if_neg (nI_pos (by omega)), if_neg (show ¬ (13 : Int32) ≤ nI k from nI_ge hk (by decide)), cT (inB_n (by omega) (by decide)), nI_clamp (by omega)]
theorem x0_set {row : Nat → Int32} {k : Nat} {v : Int32} (hk : k < 13) : f_X0_set row (nI k) v = some (upd row k v) := by
  rw [f_X0_set, if_neg (nI_pos (by omega)), if_neg (show ¬ (13 : Int32) ≤ nI k from nI_ge hk (by decide)), cT (inB_n (by omega) (by decide)), nI_clamp (by omega)]
theorem x0_add {row : Nat → Int32} {k : Nat} {v : Int32} (hk : k < 13) : f_X0_add row (nI k) v = some (upd row k (row k + v)) := by
  rw [f_X0_add, x0_get hk, bS, x0_set hk, bS]
theorem x0_addOf {row : Nat → Int32} {m w : Nat} {v : Int32} (hm : m < 6) (hw : w < 7) : f_X0_addOf row (nI m) (nI w) v = some (upd row (13 + 7 * m + w) (row (13 + 7 * m + w) + v)) := by
  rw [f_X0_addOf, x0_of hm hw, bS, x0_setOf hm hw, bS]
theorem x8_of {nN : Nat → Int32} {m w : Nat} (hm : m < 6) (hw : w < 7) : f_X8_of nN (nI m) (nI w) = some (nN (13 + 7 * m + w), ()) := by
  rw [f_X8_of, ix_m, cT (inB_n (by omega) (by decide)), nI_clamp (by omega)]
theorem x8_sets {nN : Nat → Int32} {m w : Nat} {v : Int32} (hm : m < 6) (hw : w < 7) : f_X8_sets nN (nI m) (nI w) v = some (upd nN (13 + 7 * m + w) v) := by
  rw [f_X8_sets, ix_m, cT (inB_n (by omega) (by decide)), nI_clamp (by omega)]
theorem x0_of0 {row : Nat → Int32} {m : Nat} (hm : m < 6) : f_X0_of row (nI m) (0 : Int32) = some (row (13 + 7 * m + 0), ()) := x0_of hm (w := 0) (by decide)
theorem x0_setOf0 {row : Nat → Int32} {m : Nat} {v : Int32} (hm : m < 6) : f_X0_setOf row (nI m) (0 : Int32) v = some (upd row (13 + 7 * m + 0) v) := x0_setOf hm (w := 0) (by decide)
theorem x0_addOf0 {row : Nat → Int32} {m : Nat} {v : Int32} (hm : m < 6) : f_X0_addOf row (nI m) (0 : Int32) v = some (upd row (13 + 7 * m + 0) (row (13 + 7 * m + 0) + v)) := x0_addOf hm (w := 0) (by decide)
theorem x8_of0 {nN : Nat → Int32} {m : Nat} (hm : m < 6) : f_X8_of nN (nI m) (0 : Int32) = some (nN (13 + 7 * m + 0), ()) := x8_of hm (w := 0) (by decide)
theorem x8_sets0 {nN : Nat → Int32} {m : Nat} {v : Int32} (hm : m < 6) : f_X8_sets nN (nI m) (0 : Int32) v = some (upd nN (13 + 7 * m + 0) v) := x8_sets hm (w := 0) (by decide)
theorem x0_of1 {row : Nat → Int32} {m : Nat} (hm : m < 6) : f_X0_of row (nI m) (1 : Int32) = some (row (13 + 7 * m + 1), ()) := x0_of hm (w := 1) (by decide)
theorem x0_setOf1 {row : Nat → Int32} {m : Nat} {v : Int32} (hm : m < 6) : f_X0_setOf row (nI m) (1 : Int32) v = some (upd row (13 + 7 * m + 1) v) := x0_setOf hm (w := 1) (by decide)
theorem x0_addOf1 {row : Nat → Int32} {m : Nat} {v : Int32} (hm : m < 6) : f_X0_addOf row (nI m) (1 : Int32) v = some (upd row (13 + 7 * m + 1) (row (13 + 7 * m + 1) + v)) := x0_addOf hm (w := 1) (by decide)
theorem x8_of1 {nN : Nat → Int32} {m : Nat} (hm : m < 6) : f_X8_of nN (nI m) (1 : Int32) = some (nN (13 + 7 * m + 1), ()) := x8_of hm (w := 1) (by decide)
theorem x8_sets1 {nN : Nat → Int32} {m : Nat} {v : Int32} (hm : m < 6) : f_X8_sets nN (nI m) (1 : Int32) v = some (upd nN (13 + 7 * m + 1) v) := x8_sets hm (w := 1) (by decide)
theorem x0_of2 {row : Nat → Int32} {m : Nat} (hm : m < 6) : f_X0_of row (nI m) (2 : Int32) = some (row (13 + 7 * m + 2), ()) := x0_of hm (w := 2) (by decide)
theorem x0_setOf2 {row : Nat → Int32} {m : Nat} {v : Int32} (hm : m < 6) : f_X0_setOf row (nI m) (2 : Int32) v = some (upd row (13 + 7 * m + 2) v) := x0_setOf hm (w := 2) (by decide)
theorem x0_addOf2 {row : Nat → Int32} {m : Nat} {v : Int32} (hm : m < 6) : f_X0_addOf row (nI m) (2 : Int32) v = some (upd row (13 + 7 * m + 2) (row (13 + 7 * m + 2) + v)) := x0_addOf hm (w := 2) (by decide)
theorem x8_of2 {nN : Nat → Int32} {m : Nat} (hm : m < 6) : f_X8_of nN (nI m) (2 : Int32) = some (nN (13 + 7 * m + 2), ()) := x8_of hm (w := 2) (by decide)
theorem x8_sets2 {nN : Nat → Int32} {m : Nat} {v : Int32} (hm : m < 6) : f_X8_sets nN (nI m) (2 : Int32) v = some (upd nN (13 + 7 * m + 2) v) := x8_sets hm (w := 2) (by decide)
theorem x0_of3 {row : Nat → Int32} {m : Nat} (hm : m < 6) : f_X0_of row (nI m) (3 : Int32) = some (row (13 + 7 * m + 3), ()) := x0_of hm (w := 3) (by decide)
theorem x0_setOf3 {row : Nat → Int32} {m : Nat} {v : Int32} (hm : m < 6) : f_X0_setOf row (nI m) (3 : Int32) v = some (upd row (13 + 7 * m + 3) v) := x0_setOf hm (w := 3) (by decide)
theorem x0_addOf3 {row : Nat → Int32} {m : Nat} {v : Int32} (hm : m < 6) : f_X0_addOf row (nI m) (3 : Int32) v = some (upd row (13 + 7 * m + 3) (row (13 + 7 * m + 3) + v)) := x0_addOf hm (w := 3) (by decide)
theorem x8_of3 {nN : Nat → Int32} {m : Nat} (hm : m < 6) : f_X8_of nN (nI m) (3 : Int32) = some (nN (13 + 7 * m + 3), ()) := x8_of hm (w := 3) (by decide)
theorem x8_sets3 {nN : Nat → Int32} {m : Nat} {v : Int32} (hm : m < 6) : f_X8_sets nN (nI m) (3 : Int32) v = some (upd nN (13 + 7 * m + 3) v) := x8_sets hm (w := 3) (by decide)
theorem x0_of4 {row : Nat → Int32} {m : Nat} (hm : m < 6) : f_X0_of row (nI m) (4 : Int32) = some (row (13 + 7 * m + 4), ()) := x0_of hm (w := 4) (by decide)
theorem x0_setOf4 {row : Nat → Int32} {m : Nat} {v : Int32} (hm : m < 6) : f_X0_setOf row (nI m) (4 : Int32) v = some (upd row (13 + 7 * m + 4) v) := x0_setOf hm (w := 4) (by decide)
theorem x0_addOf4 {row : Nat → Int32} {m : Nat} {v : Int32} (hm : m < 6) : f_X0_addOf row (nI m) (4 : Int32) v = some (upd row (13 + 7 * m + 4) (row (13 + 7 * m + 4) + v)) := x0_addOf hm (w := 4) (by decide)
theorem x8_of4 {nN : Nat → Int32} {m : Nat} (hm : m < 6) : f_X8_of nN (nI m) (4 : Int32) = some (nN (13 + 7 * m + 4), ()) := x8_of hm (w := 4) (by decide)
theorem x8_sets4 {nN : Nat → Int32} {m : Nat} {v : Int32} (hm : m < 6) : f_X8_sets nN (nI m) (4 : Int32) v = some (upd nN (13 + 7 * m + 4) v) := x8_sets hm (w := 4) (by decide)
theorem x0_of5 {row : Nat → Int32} {m : Nat} (hm : m < 6) : f_X0_of row (nI m) (5 : Int32) = some (row (13 + 7 * m + 5), ()) := x0_of hm (w := 5) (by decide)
theorem x0_setOf5 {row : Nat → Int32} {m : Nat} {v : Int32} (hm : m < 6) : f_X0_setOf row (nI m) (5 : Int32) v = some (upd row (13 + 7 * m + 5) v) := x0_setOf hm (w := 5) (by decide)
theorem x0_addOf5 {row : Nat → Int32} {m : Nat} {v : Int32} (hm : m < 6) : f_X0_addOf row (nI m) (5 : Int32) v = some (upd row (13 + 7 * m + 5) (row (13 + 7 * m + 5) + v)) := x0_addOf hm (w := 5) (by decide)
theorem x8_of5 {nN : Nat → Int32} {m : Nat} (hm : m < 6) : f_X8_of nN (nI m) (5 : Int32) = some (nN (13 + 7 * m + 5), ()) := x8_of hm (w := 5) (by decide)
theorem x8_sets5 {nN : Nat → Int32} {m : Nat} {v : Int32} (hm : m < 6) : f_X8_sets nN (nI m) (5 : Int32) v = some (upd nN (13 + 7 * m + 5) v) := x8_sets hm (w := 5) (by decide)
theorem x0_of6 {row : Nat → Int32} {m : Nat} (hm : m < 6) : f_X0_of row (nI m) (6 : Int32) = some (row (13 + 7 * m + 6), ()) := x0_of hm (w := 6) (by decide)
theorem x0_setOf6 {row : Nat → Int32} {m : Nat} {v : Int32} (hm : m < 6) : f_X0_setOf row (nI m) (6 : Int32) v = some (upd row (13 + 7 * m + 6) v) := x0_setOf hm (w := 6) (by decide)
theorem x0_addOf6 {row : Nat → Int32} {m : Nat} {v : Int32} (hm : m < 6) : f_X0_addOf row (nI m) (6 : Int32) v = some (upd row (13 + 7 * m + 6) (row (13 + 7 * m + 6) + v)) := x0_addOf hm (w := 6) (by decide)
theorem x8_of6 {nN : Nat → Int32} {m : Nat} (hm : m < 6) : f_X8_of nN (nI m) (6 : Int32) = some (nN (13 + 7 * m + 6), ()) := x8_of hm (w := 6) (by decide)
theorem x8_sets6 {nN : Nat → Int32} {m : Nat} {v : Int32} (hm : m < 6) : f_X8_sets nN (nI m) (6 : Int32) v = some (upd nN (13 + 7 * m + 6) v) := x8_sets hm (w := 6) (by decide)
theorem x0_get0 {row : Nat → Int32} : f_X0_get row (0 : Int32) = some (row 0, ()) := x0_get (k := 0) (by decide)
theorem x0_set0 {row : Nat → Int32} {v : Int32} : f_X0_set row (0 : Int32) v = some (upd row 0 v) := x0_set (k := 0) (by decide)
theorem x0_add0 {row : Nat → Int32} {v : Int32} : f_X0_add row (0 : Int32) v = some (upd row 0 (row 0 + v)) := x0_add (k := 0) (by decide)
theorem cl0 : (0 : Int32).toNatClampNeg = 0 := rfl
theorem x0_get1 {row : Nat → Int32} : f_X0_get row (1 : Int32) = some (row 1, ()) := x0_get (k := 1) (by decide)
theorem x0_set1 {row : Nat → Int32} {v : Int32} : f_X0_set row (1 : Int32) v = some (upd row 1 v) := x0_set (k := 1) (by decide)
theorem x0_add1 {row : Nat → Int32} {v : Int32} : f_X0_add row (1 : Int32) v = some (upd row 1 (row 1 + v)) := x0_add (k := 1) (by decide)
theorem cl1 : (1 : Int32).toNatClampNeg = 1 := rfl
theorem x0_get2 {row : Nat → Int32} : f_X0_get row (2 : Int32) = some (row 2, ()) := x0_get (k := 2) (by decide)
theorem x0_set2 {row : Nat → Int32} {v : Int32} : f_X0_set row (2 : Int32) v = some (upd row 2 v) := x0_set (k := 2) (by decide)
theorem x0_add2 {row : Nat → Int32} {v : Int32} : f_X0_add row (2 : Int32) v = some (upd row 2 (row 2 + v)) := x0_add (k := 2) (by decide)
theorem cl2 : (2 : Int32).toNatClampNeg = 2 := rfl
theorem x0_get3 {row : Nat → Int32} : f_X0_get row (3 : Int32) = some (row 3, ()) := x0_get (k := 3) (by decide)
theorem x0_set3 {row : Nat → Int32} {v : Int32} : f_X0_set row (3 : Int32) v = some (upd row 3 v) := x0_set (k := 3) (by decide)
theorem x0_add3 {row : Nat → Int32} {v : Int32} : f_X0_add row (3 : Int32) v = some (upd row 3 (row 3 + v)) := x0_add (k := 3) (by decide)
theorem cl3 : (3 : Int32).toNatClampNeg = 3 := rfl
theorem x0_get4 {row : Nat → Int32} : f_X0_get row (4 : Int32) = some (row 4, ()) := x0_get (k := 4) (by decide)
theorem x0_set4 {row : Nat → Int32} {v : Int32} : f_X0_set row (4 : Int32) v = some (upd row 4 v) := x0_set (k := 4) (by decide)
theorem x0_add4 {row : Nat → Int32} {v : Int32} : f_X0_add row (4 : Int32) v = some (upd row 4 (row 4 + v)) := x0_add (k := 4) (by decide)
theorem cl4 : (4 : Int32).toNatClampNeg = 4 := rfl
theorem x0_get5 {row : Nat → Int32} : f_X0_get row (5 : Int32) = some (row 5, ()) := x0_get (k := 5) (by decide)
theorem x0_set5 {row : Nat → Int32} {v : Int32} : f_X0_set row (5 : Int32) v = some (upd row 5 v) := x0_set (k := 5) (by decide)
theorem x0_add5 {row : Nat → Int32} {v : Int32} : f_X0_add row (5 : Int32) v = some (upd row 5 (row 5 + v)) := x0_add (k := 5) (by decide)
theorem cl5 : (5 : Int32).toNatClampNeg = 5 := rfl
theorem x0_get6 {row : Nat → Int32} : f_X0_get row (6 : Int32) = some (row 6, ()) := x0_get (k := 6) (by decide)
theorem x0_set6 {row : Nat → Int32} {v : Int32} : f_X0_set row (6 : Int32) v = some (upd row 6 v) := x0_set (k := 6) (by decide)
theorem x0_add6 {row : Nat → Int32} {v : Int32} : f_X0_add row (6 : Int32) v = some (upd row 6 (row 6 + v)) := x0_add (k := 6) (by decide)
theorem cl6 : (6 : Int32).toNatClampNeg = 6 := rfl
theorem x0_get7 {row : Nat → Int32} : f_X0_get row (7 : Int32) = some (row 7, ()) := x0_get (k := 7) (by decide)
theorem x0_set7 {row : Nat → Int32} {v : Int32} : f_X0_set row (7 : Int32) v = some (upd row 7 v) := x0_set (k := 7) (by decide)
theorem x0_add7 {row : Nat → Int32} {v : Int32} : f_X0_add row (7 : Int32) v = some (upd row 7 (row 7 + v)) := x0_add (k := 7) (by decide)
theorem cl7 : (7 : Int32).toNatClampNeg = 7 := rfl
theorem x0_get8 {row : Nat → Int32} : f_X0_get row (8 : Int32) = some (row 8, ()) := x0_get (k := 8) (by decide)
theorem x0_set8 {row : Nat → Int32} {v : Int32} : f_X0_set row (8 : Int32) v = some (upd row 8 v) := x0_set (k := 8) (by decide)
theorem x0_add8 {row : Nat → Int32} {v : Int32} : f_X0_add row (8 : Int32) v = some (upd row 8 (row 8 + v)) := x0_add (k := 8) (by decide)
theorem cl8 : (8 : Int32).toNatClampNeg = 8 := rfl
theorem x0_get9 {row : Nat → Int32} : f_X0_get row (9 : Int32) = some (row 9, ()) := x0_get (k := 9) (by decide)
theorem x0_set9 {row : Nat → Int32} {v : Int32} : f_X0_set row (9 : Int32) v = some (upd row 9 v) := x0_set (k := 9) (by decide)
theorem x0_add9 {row : Nat → Int32} {v : Int32} : f_X0_add row (9 : Int32) v = some (upd row 9 (row 9 + v)) := x0_add (k := 9) (by decide)
theorem cl9 : (9 : Int32).toNatClampNeg = 9 := rfl
theorem x0_get10 {row : Nat → Int32} : f_X0_get row (10 : Int32) = some (row 10, ()) := x0_get (k := 10) (by decide)
theorem x0_set10 {row : Nat → Int32} {v : Int32} : f_X0_set row (10 : Int32) v = some (upd row 10 v) := x0_set (k := 10) (by decide)
theorem x0_add10 {row : Nat → Int32} {v : Int32} : f_X0_add row (10 : Int32) v = some (upd row 10 (row 10 + v)) := x0_add (k := 10) (by decide)
theorem cl10 : (10 : Int32).toNatClampNeg = 10 := rfl
theorem x0_get11 {row : Nat → Int32} : f_X0_get row (11 : Int32) = some (row 11, ()) := x0_get (k := 11) (by decide)
theorem x0_set11 {row : Nat → Int32} {v : Int32} : f_X0_set row (11 : Int32) v = some (upd row 11 v) := x0_set (k := 11) (by decide)
theorem x0_add11 {row : Nat → Int32} {v : Int32} : f_X0_add row (11 : Int32) v = some (upd row 11 (row 11 + v)) := x0_add (k := 11) (by decide)
theorem cl11 : (11 : Int32).toNatClampNeg = 11 := rfl
theorem x0_get12 {row : Nat → Int32} : f_X0_get row (12 : Int32) = some (row 12, ()) := x0_get (k := 12) (by decide)
theorem x0_set12 {row : Nat → Int32} {v : Int32} : f_X0_set row (12 : Int32) v = some (upd row 12 v) := x0_set (k := 12) (by decide)
theorem x0_add12 {row : Nat → Int32} {v : Int32} : f_X0_add row (12 : Int32) v = some (upd row 12 (row 12 + v)) := x0_add (k := 12) (by decide)
theorem cl12 : (12 : Int32).toNatClampNeg = 12 := rfl

