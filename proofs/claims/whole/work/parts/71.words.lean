/-! the words, letter by letter -/
theorem LN_116_12 (d : Nat) (L : Nat) (xs : Nat → Int32) (s : Nat → Int → Int32) (O : Nat → Int64) (c : Bool × Nat × Nat) (x1 : Int) (x2 : Int) (x3 : Int) (x4 : Int) (x5 : Int) (y1 : Int) : EV (d + 8) 116 12 [.ref 2, .int (q_I x1), .int (q_I x2), .int (q_I x3), .int (q_I x4), .int (q_I x5)] [.ref 1000000, .int (q_I y1)] (q_h L xs s O c) = EV (d + 8) 116 15 [.ref 2, .int (q_I x1), .int (q_I x2), .int (q_I x3), .int (q_I x4), .int (q_I x5)] [.int (q_I 94), .int (q_I y1)] (q_h L xs s O c) := by
  rw [show d + 8 = d + 7 + 1 from rfl, C_116_12 (d + 7) L xs s O c x1 x2 x3 x4 x5 y1, if_neg (by omega)]
  rfl
theorem LN_116_22 (d : Nat) (L : Nat) (xs : Nat → Int32) (s : Nat → Int → Int32) (O : Nat → Int64) (c : Bool × Nat × Nat) (x1 : Int) (x2 : Int) (x3 : Int) (x4 : Int) (x5 : Int) (y1 : Int) : EV (d + 8) 116 22 [.ref 2, .int (q_I x1), .int (q_I x2), .int (q_I x3), .int (q_I x4), .int (q_I x5)] [.ref 1000000, .int (q_I y1)] (q_h L xs s O c) = EV (d + 8) 116 25 [.ref 2, .int (q_I x1), .int (q_I x2), .int (q_I x3), .int (q_I x4), .int (q_I x5)] [.int (q_I 94), .int (q_I y1)] (q_h L xs s O c) := by
  rw [show d + 8 = d + 7 + 1 from rfl, C_116_22 (d + 7) L xs s O c x1 x2 x3 x4 x5 y1, if_neg (by omega)]
  rfl
theorem CH_116_32_0 (d : Nat) (L : Nat) (xs : Nat → Int32) (s : Nat → Int → Int32) (O : Nat → Int64) (c : Bool × Nat × Nat) (x1 : Int) (x2 : Int) (x3 : Int) (x4 : Int) (x5 : Int) : EV (d + 8) 116 32 [.ref 2, .int (q_I x1), .int (q_I x2), .int (q_I x3), .int (q_I x4), .int (q_I x5)] [.int (q_I 0), .ref 1000000] (q_h L xs s O c) = EV (d + 8) 116 35 [.ref 2, .int (q_I x1), .int (q_I x2), .int (q_I x3), .int (q_I x4), .int (q_I x5)] [.int (q_I 112)] (q_h L xs s O c) := by
  rw [show d + 8 = d + 7 + 1 from rfl, C_116_32 (d + 7) L xs s O c x1 x2 x3 x4 x5 (0 : Int), if_neg (by omega)]
  rfl
theorem CH_116_32_1 (d : Nat) (L : Nat) (xs : Nat → Int32) (s : Nat → Int → Int32) (O : Nat → Int64) (c : Bool × Nat × Nat) (x1 : Int) (x2 : Int) (x3 : Int) (x4 : Int) (x5 : Int) : EV (d + 8) 116 32 [.ref 2, .int (q_I x1), .int (q_I x2), .int (q_I x3), .int (q_I x4), .int (q_I x5)] [.int (q_I 1), .ref 1000000] (q_h L xs s O c) = EV (d + 8) 116 35 [.ref 2, .int (q_I x1), .int (q_I x2), .int (q_I x3), .int (q_I x4), .int (q_I x5)] [.int (q_I 117)] (q_h L xs s O c) := by
  rw [show d + 8 = d + 7 + 1 from rfl, C_116_32 (d + 7) L xs s O c x1 x2 x3 x4 x5 (1 : Int), if_neg (by omega)]
  rfl
theorem CH_116_32_2 (d : Nat) (L : Nat) (xs : Nat → Int32) (s : Nat → Int → Int32) (O : Nat → Int64) (c : Bool × Nat × Nat) (x1 : Int) (x2 : Int) (x3 : Int) (x4 : Int) (x5 : Int) : EV (d + 8) 116 32 [.ref 2, .int (q_I x1), .int (q_I x2), .int (q_I x3), .int (q_I x4), .int (q_I x5)] [.int (q_I 2), .ref 1000000] (q_h L xs s O c) = EV (d + 8) 116 35 [.ref 2, .int (q_I x1), .int (q_I x2), .int (q_I x3), .int (q_I x4), .int (q_I x5)] [.int (q_I 116)] (q_h L xs s O c) := by
  rw [show d + 8 = d + 7 + 1 from rfl, C_116_32 (d + 7) L xs s O c x1 x2 x3 x4 x5 (2 : Int), if_neg (by omega)]
  rfl
theorem CH_116_32_3 (d : Nat) (L : Nat) (xs : Nat → Int32) (s : Nat → Int → Int32) (O : Nat → Int64) (c : Bool × Nat × Nat) (x1 : Int) (x2 : Int) (x3 : Int) (x4 : Int) (x5 : Int) : EV (d + 8) 116 32 [.ref 2, .int (q_I x1), .int (q_I x2), .int (q_I x3), .int (q_I x4), .int (q_I x5)] [.int (q_I 3), .ref 1000000] (q_h L xs s O c) = EV (d + 8) 116 35 [.ref 2, .int (q_I x1), .int (q_I x2), .int (q_I x3), .int (q_I x4), .int (q_I x5)] [.int (q_I 32)] (q_h L xs s O c) := by
  rw [show d + 8 = d + 7 + 1 from rfl, C_116_32 (d + 7) L xs s O c x1 x2 x3 x4 x5 (3 : Int), if_neg (by omega)]
  rfl
theorem CH_116_32_4 (d : Nat) (L : Nat) (xs : Nat → Int32) (s : Nat → Int → Int32) (O : Nat → Int64) (c : Bool × Nat × Nat) (x1 : Int) (x2 : Int) (x3 : Int) (x4 : Int) (x5 : Int) : EV (d + 8) 116 32 [.ref 2, .int (q_I x1), .int (q_I x2), .int (q_I x3), .int (q_I x4), .int (q_I x5)] [.int (q_I 4), .ref 1000000] (q_h L xs s O c) = EV (d + 8) 116 35 [.ref 2, .int (q_I x1), .int (q_I x2), .int (q_I x3), .int (q_I x4), .int (q_I x5)] [.int (q_I 100)] (q_h L xs s O c) := by
  rw [show d + 8 = d + 7 + 1 from rfl, C_116_32 (d + 7) L xs s O c x1 x2 x3 x4 x5 (4 : Int), if_neg (by omega)]
  rfl
theorem CH_116_32_5 (d : Nat) (L : Nat) (xs : Nat → Int32) (s : Nat → Int → Int32) (O : Nat → Int64) (c : Bool × Nat × Nat) (x1 : Int) (x2 : Int) (x3 : Int) (x4 : Int) (x5 : Int) : EV (d + 8) 116 32 [.ref 2, .int (q_I x1), .int (q_I x2), .int (q_I x3), .int (q_I x4), .int (q_I x5)] [.int (q_I 5), .ref 1000000] (q_h L xs s O c) = EV (d + 8) 116 35 [.ref 2, .int (q_I x1), .int (q_I x2), .int (q_I x3), .int (q_I x4), .int (q_I x5)] [.int (q_I 114)] (q_h L xs s O c) := by
  rw [show d + 8 = d + 7 + 1 from rfl, C_116_32 (d + 7) L xs s O c x1 x2 x3 x4 x5 (5 : Int), if_neg (by omega)]
  rfl
theorem CH_116_32_6 (d : Nat) (L : Nat) (xs : Nat → Int32) (s : Nat → Int → Int32) (O : Nat → Int64) (c : Bool × Nat × Nat) (x1 : Int) (x2 : Int) (x3 : Int) (x4 : Int) (x5 : Int) : EV (d + 8) 116 32 [.ref 2, .int (q_I x1), .int (q_I x2), .int (q_I x3), .int (q_I x4), .int (q_I x5)] [.int (q_I 6), .ref 1000000] (q_h L xs s O c) = EV (d + 8) 116 35 [.ref 2, .int (q_I x1), .int (q_I x2), .int (q_I x3), .int (q_I x4), .int (q_I x5)] [.int (q_I 111)] (q_h L xs s O c) := by
  rw [show d + 8 = d + 7 + 1 from rfl, C_116_32 (d + 7) L xs s O c x1 x2 x3 x4 x5 (6 : Int), if_neg (by omega)]
  rfl
theorem CH_116_32_7 (d : Nat) (L : Nat) (xs : Nat → Int32) (s : Nat → Int → Int32) (O : Nat → Int64) (c : Bool × Nat × Nat) (x1 : Int) (x2 : Int) (x3 : Int) (x4 : Int) (x5 : Int) : EV (d + 8) 116 32 [.ref 2, .int (q_I x1), .int (q_I x2), .int (q_I x3), .int (q_I x4), .int (q_I x5)] [.int (q_I 7), .ref 1000000] (q_h L xs s O c) = EV (d + 8) 116 35 [.ref 2, .int (q_I x1), .int (q_I x2), .int (q_I x3), .int (q_I x4), .int (q_I x5)] [.int (q_I 112)] (q_h L xs s O c) := by
  rw [show d + 8 = d + 7 + 1 from rfl, C_116_32 (d + 7) L xs s O c x1 x2 x3 x4 x5 (7 : Int), if_neg (by omega)]
  rfl
theorem CH_116_32_8 (d : Nat) (L : Nat) (xs : Nat → Int32) (s : Nat → Int → Int32) (O : Nat → Int64) (c : Bool × Nat × Nat) (x1 : Int) (x2 : Int) (x3 : Int) (x4 : Int) (x5 : Int) : EV (d + 8) 116 32 [.ref 2, .int (q_I x1), .int (q_I x2), .int (q_I x3), .int (q_I x4), .int (q_I x5)] [.int (q_I 8), .ref 1000000] (q_h L xs s O c) = EV (d + 8) 116 35 [.ref 2, .int (q_I x1), .int (q_I x2), .int (q_I x3), .int (q_I x4), .int (q_I x5)] [.int (q_I 32)] (q_h L xs s O c) := by
  rw [show d + 8 = d + 7 + 1 from rfl, C_116_32 (d + 7) L xs s O c x1 x2 x3 x4 x5 (8 : Int), if_neg (by omega)]
  rfl
theorem CH_116_32_9 (d : Nat) (L : Nat) (xs : Nat → Int32) (s : Nat → Int → Int32) (O : Nat → Int64) (c : Bool × Nat × Nat) (x1 : Int) (x2 : Int) (x3 : Int) (x4 : Int) (x5 : Int) : EV (d + 8) 116 32 [.ref 2, .int (q_I x1), .int (q_I x2), .int (q_I x3), .int (q_I x4), .int (q_I x5)] [.int (q_I 9), .ref 1000000] (q_h L xs s O c) = EV (d + 8) 116 35 [.ref 2, .int (q_I x1), .int (q_I x2), .int (q_I x3), .int (q_I x4), .int (q_I x5)] [.int (q_I 114)] (q_h L xs s O c) := by
  rw [show d + 8 = d + 7 + 1 from rfl, C_116_32 (d + 7) L xs s O c x1 x2 x3 x4 x5 (9 : Int), if_neg (by omega)]
  rfl
theorem CH_116_32_10 (d : Nat) (L : Nat) (xs : Nat → Int32) (s : Nat → Int → Int32) (O : Nat → Int64) (c : Bool × Nat × Nat) (x1 : Int) (x2 : Int) (x3 : Int) (x4 : Int) (x5 : Int) : EV (d + 8) 116 32 [.ref 2, .int (q_I x1), .int (q_I x2), .int (q_I x3), .int (q_I x4), .int (q_I x5)] [.int (q_I 10), .ref 1000000] (q_h L xs s O c) = EV (d + 8) 116 35 [.ref 2, .int (q_I x1), .int (q_I x2), .int (q_I x3), .int (q_I x4), .int (q_I x5)] [.int (q_I 105)] (q_h L xs s O c) := by
  rw [show d + 8 = d + 7 + 1 from rfl, C_116_32 (d + 7) L xs s O c x1 x2 x3 x4 x5 (10 : Int), if_neg (by omega)]
  rfl
theorem CH_116_32_11 (d : Nat) (L : Nat) (xs : Nat → Int32) (s : Nat → Int → Int32) (O : Nat → Int64) (c : Bool × Nat × Nat) (x1 : Int) (x2 : Int) (x3 : Int) (x4 : Int) (x5 : Int) : EV (d + 8) 116 32 [.ref 2, .int (q_I x1), .int (q_I x2), .int (q_I x3), .int (q_I x4), .int (q_I x5)] [.int (q_I 11), .ref 1000000] (q_h L xs s O c) = EV (d + 8) 116 35 [.ref 2, .int (q_I x1), .int (q_I x2), .int (q_I x3), .int (q_I x4), .int (q_I x5)] [.int (q_I 115)] (q_h L xs s O c) := by
  rw [show d + 8 = d + 7 + 1 from rfl, C_116_32 (d + 7) L xs s O c x1 x2 x3 x4 x5 (11 : Int), if_neg (by omega)]
  rfl
theorem CH_116_32_12 (d : Nat) (L : Nat) (xs : Nat → Int32) (s : Nat → Int → Int32) (O : Nat → Int64) (c : Bool × Nat × Nat) (x1 : Int) (x2 : Int) (x3 : Int) (x4 : Int) (x5 : Int) : EV (d + 8) 116 32 [.ref 2, .int (q_I x1), .int (q_I x2), .int (q_I x3), .int (q_I x4), .int (q_I x5)] [.int (q_I 12), .ref 1000000] (q_h L xs s O c) = EV (d + 8) 116 35 [.ref 2, .int (q_I x1), .int (q_I x2), .int (q_I x3), .int (q_I x4), .int (q_I x5)] [.int (q_I 107)] (q_h L xs s O c) := by
  rw [show d + 8 = d + 7 + 1 from rfl, C_116_32 (d + 7) L xs s O c x1 x2 x3 x4 x5 (12 : Int), if_neg (by omega)]
  rfl
theorem CH_116_32_13 (d : Nat) (L : Nat) (xs : Nat → Int32) (s : Nat → Int → Int32) (O : Nat → Int64) (c : Bool × Nat × Nat) (x1 : Int) (x2 : Int) (x3 : Int) (x4 : Int) (x5 : Int) : EV (d + 8) 116 32 [.ref 2, .int (q_I x1), .int (q_I x2), .int (q_I x3), .int (q_I x4), .int (q_I x5)] [.int (q_I 13), .ref 1000000] (q_h L xs s O c) = EV (d + 8) 116 35 [.ref 2, .int (q_I x1), .int (q_I x2), .int (q_I x3), .int (q_I x4), .int (q_I x5)] [.int (q_I 32)] (q_h L xs s O c) := by
  rw [show d + 8 = d + 7 + 1 from rfl, C_116_32 (d + 7) L xs s O c x1 x2 x3 x4 x5 (13 : Int), if_neg (by omega)]
  rfl
theorem CH_116_32_14 (d : Nat) (L : Nat) (xs : Nat → Int32) (s : Nat → Int → Int32) (O : Nat → Int64) (c : Bool × Nat × Nat) (x1 : Int) (x2 : Int) (x3 : Int) (x4 : Int) (x5 : Int) : EV (d + 8) 116 32 [.ref 2, .int (q_I x1), .int (q_I x2), .int (q_I x3), .int (q_I x4), .int (q_I x5)] [.int (q_I 14), .ref 1000000] (q_h L xs s O c) = EV (d + 8) 116 35 [.ref 2, .int (q_I x1), .int (q_I x2), .int (q_I x3), .int (q_I x4), .int (q_I x5)] [.int (q_I 115)] (q_h L xs s O c) := by
  rw [show d + 8 = d + 7 + 1 from rfl, C_116_32 (d + 7) L xs s O c x1 x2 x3 x4 x5 (14 : Int), if_neg (by omega)]
  rfl
theorem CH_116_32_15 (d : Nat) (L : Nat) (xs : Nat → Int32) (s : Nat → Int → Int32) (O : Nat → Int64) (c : Bool × Nat × Nat) (x1 : Int) (x2 : Int) (x3 : Int) (x4 : Int) (x5 : Int) : EV (d + 8) 116 32 [.ref 2, .int (q_I x1), .int (q_I x2), .int (q_I x3), .int (q_I x4), .int (q_I x5)] [.int (q_I 15), .ref 1000000] (q_h L xs s O c) = EV (d + 8) 116 35 [.ref 2, .int (q_I x1), .int (q_I x2), .int (q_I x3), .int (q_I x4), .int (q_I x5)] [.int (q_I 112)] (q_h L xs s O c) := by
  rw [show d + 8 = d + 7 + 1 from rfl, C_116_32 (d + 7) L xs s O c x1 x2 x3 x4 x5 (15 : Int), if_neg (by omega)]
  rfl
theorem CH_116_32_16 (d : Nat) (L : Nat) (xs : Nat → Int32) (s : Nat → Int → Int32) (O : Nat → Int64) (c : Bool × Nat × Nat) (x1 : Int) (x2 : Int) (x3 : Int) (x4 : Int) (x5 : Int) : EV (d + 8) 116 32 [.ref 2, .int (q_I x1), .int (q_I x2), .int (q_I x3), .int (q_I x4), .int (q_I x5)] [.int (q_I 16), .ref 1000000] (q_h L xs s O c) = EV (d + 8) 116 35 [.ref 2, .int (q_I x1), .int (q_I x2), .int (q_I x3), .int (q_I x4), .int (q_I x5)] [.int (q_I 97)] (q_h L xs s O c) := by
  rw [show d + 8 = d + 7 + 1 from rfl, C_116_32 (d + 7) L xs s O c x1 x2 x3 x4 x5 (16 : Int), if_neg (by omega)]
  rfl
theorem CH_116_32_17 (d : Nat) (L : Nat) (xs : Nat → Int32) (s : Nat → Int → Int32) (O : Nat → Int64) (c : Bool × Nat × Nat) (x1 : Int) (x2 : Int) (x3 : Int) (x4 : Int) (x5 : Int) : EV (d + 8) 116 32 [.ref 2, .int (q_I x1), .int (q_I x2), .int (q_I x3), .int (q_I x4), .int (q_I x5)] [.int (q_I 17), .ref 1000000] (q_h L xs s O c) = EV (d + 8) 116 35 [.ref 2, .int (q_I x1), .int (q_I x2), .int (q_I x3), .int (q_I x4), .int (q_I x5)] [.int (q_I 114)] (q_h L xs s O c) := by
  rw [show d + 8 = d + 7 + 1 from rfl, C_116_32 (d + 7) L xs s O c x1 x2 x3 x4 x5 (17 : Int), if_neg (by omega)]
  rfl
theorem CH_116_32_18 (d : Nat) (L : Nat) (xs : Nat → Int32) (s : Nat → Int → Int32) (O : Nat → Int64) (c : Bool × Nat × Nat) (x1 : Int) (x2 : Int) (x3 : Int) (x4 : Int) (x5 : Int) : EV (d + 8) 116 32 [.ref 2, .int (q_I x1), .int (q_I x2), .int (q_I x3), .int (q_I x4), .int (q_I x5)] [.int (q_I 18), .ref 1000000] (q_h L xs s O c) = EV (d + 8) 116 35 [.ref 2, .int (q_I x1), .int (q_I x2), .int (q_I x3), .int (q_I x4), .int (q_I x5)] [.int (q_I 101)] (q_h L xs s O c) := by
  rw [show d + 8 = d + 7 + 1 from rfl, C_116_32 (d + 7) L xs s O c x1 x2 x3 x4 x5 (18 : Int), if_neg (by omega)]
  rfl
theorem CH_116_32_19 (d : Nat) (L : Nat) (xs : Nat → Int32) (s : Nat → Int → Int32) (O : Nat → Int64) (c : Bool × Nat × Nat) (x1 : Int) (x2 : Int) (x3 : Int) (x4 : Int) (x5 : Int) : EV (d + 8) 116 32 [.ref 2, .int (q_I x1), .int (q_I x2), .int (q_I x3), .int (q_I x4), .int (q_I x5)] [.int (q_I 19), .ref 1000000] (q_h L xs s O c) = EV (d + 8) 116 35 [.ref 2, .int (q_I x1), .int (q_I x2), .int (q_I x3), .int (q_I x4), .int (q_I x5)] [.int (q_I 32)] (q_h L xs s O c) := by
  rw [show d + 8 = d + 7 + 1 from rfl, C_116_32 (d + 7) L xs s O c x1 x2 x3 x4 x5 (19 : Int), if_neg (by omega)]
  rfl
theorem CH_116_32_20 (d : Nat) (L : Nat) (xs : Nat → Int32) (s : Nat → Int → Int32) (O : Nat → Int64) (c : Bool × Nat × Nat) (x1 : Int) (x2 : Int) (x3 : Int) (x4 : Int) (x5 : Int) : EV (d + 8) 116 32 [.ref 2, .int (q_I x1), .int (q_I x2), .int (q_I x3), .int (q_I x4), .int (q_I x5)] [.int (q_I 20), .ref 1000000] (q_h L xs s O c) = EV (d + 8) 116 35 [.ref 2, .int (q_I x1), .int (q_I x2), .int (q_I x3), .int (q_I x4), .int (q_I x5)] [.int (q_I 99)] (q_h L xs s O c) := by
  rw [show d + 8 = d + 7 + 1 from rfl, C_116_32 (d + 7) L xs s O c x1 x2 x3 x4 x5 (20 : Int), if_neg (by omega)]
  rfl
theorem CH_116_32_21 (d : Nat) (L : Nat) (xs : Nat → Int32) (s : Nat → Int → Int32) (O : Nat → Int64) (c : Bool × Nat × Nat) (x1 : Int) (x2 : Int) (x3 : Int) (x4 : Int) (x5 : Int) : EV (d + 8) 116 32 [.ref 2, .int (q_I x1), .int (q_I x2), .int (q_I x3), .int (q_I x4), .int (q_I x5)] [.int (q_I 21), .ref 1000000] (q_h L xs s O c) = EV (d + 8) 116 35 [.ref 2, .int (q_I x1), .int (q_I x2), .int (q_I x3), .int (q_I x4), .int (q_I x5)] [.int (q_I 111)] (q_h L xs s O c) := by
  rw [show d + 8 = d + 7 + 1 from rfl, C_116_32 (d + 7) L xs s O c x1 x2 x3 x4 x5 (21 : Int), if_neg (by omega)]
  rfl
theorem CH_116_32_22 (d : Nat) (L : Nat) (xs : Nat → Int32) (s : Nat → Int → Int32) (O : Nat → Int64) (c : Bool × Nat × Nat) (x1 : Int) (x2 : Int) (x3 : Int) (x4 : Int) (x5 : Int) : EV (d + 8) 116 32 [.ref 2, .int (q_I x1), .int (q_I x2), .int (q_I x3), .int (q_I x4), .int (q_I x5)] [.int (q_I 22), .ref 1000000] (q_h L xs s O c) = EV (d + 8) 116 35 [.ref 2, .int (q_I x1), .int (q_I x2), .int (q_I x3), .int (q_I x4), .int (q_I x5)] [.int (q_I 115)] (q_h L xs s O c) := by
  rw [show d + 8 = d + 7 + 1 from rfl, C_116_32 (d + 7) L xs s O c x1 x2 x3 x4 x5 (22 : Int), if_neg (by omega)]
  rfl
theorem CH_116_32_23 (d : Nat) (L : Nat) (xs : Nat → Int32) (s : Nat → Int → Int32) (O : Nat → Int64) (c : Bool × Nat × Nat) (x1 : Int) (x2 : Int) (x3 : Int) (x4 : Int) (x5 : Int) : EV (d + 8) 116 32 [.ref 2, .int (q_I x1), .int (q_I x2), .int (q_I x3), .int (q_I x4), .int (q_I x5)] [.int (q_I 23), .ref 1000000] (q_h L xs s O c) = EV (d + 8) 116 35 [.ref 2, .int (q_I x1), .int (q_I x2), .int (q_I x3), .int (q_I x4), .int (q_I x5)] [.int (q_I 116)] (q_h L xs s O c) := by
  rw [show d + 8 = d + 7 + 1 from rfl, C_116_32 (d + 7) L xs s O c x1 x2 x3 x4 x5 (23 : Int), if_neg (by omega)]
  rfl
theorem CH_116_32_24 (d : Nat) (L : Nat) (xs : Nat → Int32) (s : Nat → Int → Int32) (O : Nat → Int64) (c : Bool × Nat × Nat) (x1 : Int) (x2 : Int) (x3 : Int) (x4 : Int) (x5 : Int) : EV (d + 8) 116 32 [.ref 2, .int (q_I x1), .int (q_I x2), .int (q_I x3), .int (q_I x4), .int (q_I x5)] [.int (q_I 24), .ref 1000000] (q_h L xs s O c) = EV (d + 8) 116 35 [.ref 2, .int (q_I x1), .int (q_I x2), .int (q_I x3), .int (q_I x4), .int (q_I x5)] [.int (q_I 32)] (q_h L xs s O c) := by
  rw [show d + 8 = d + 7 + 1 from rfl, C_116_32 (d + 7) L xs s O c x1 x2 x3 x4 x5 (24 : Int), if_neg (by omega)]
  rfl
theorem CH_116_32_25 (d : Nat) (L : Nat) (xs : Nat → Int32) (s : Nat → Int → Int32) (O : Nat → Int64) (c : Bool × Nat × Nat) (x1 : Int) (x2 : Int) (x3 : Int) (x4 : Int) (x5 : Int) : EV (d + 8) 116 32 [.ref 2, .int (q_I x1), .int (q_I x2), .int (q_I x3), .int (q_I x4), .int (q_I x5)] [.int (q_I 25), .ref 1000000] (q_h L xs s O c) = EV (d + 8) 116 35 [.ref 2, .int (q_I x1), .int (q_I x2), .int (q_I x3), .int (q_I x4), .int (q_I x5)] [.int (q_I 105)] (q_h L xs s O c) := by
  rw [show d + 8 = d + 7 + 1 from rfl, C_116_32 (d + 7) L xs s O c x1 x2 x3 x4 x5 (25 : Int), if_neg (by omega)]
  rfl
theorem CH_116_32_26 (d : Nat) (L : Nat) (xs : Nat → Int32) (s : Nat → Int → Int32) (O : Nat → Int64) (c : Bool × Nat × Nat) (x1 : Int) (x2 : Int) (x3 : Int) (x4 : Int) (x5 : Int) : EV (d + 8) 116 32 [.ref 2, .int (q_I x1), .int (q_I x2), .int (q_I x3), .int (q_I x4), .int (q_I x5)] [.int (q_I 26), .ref 1000000] (q_h L xs s O c) = EV (d + 8) 116 35 [.ref 2, .int (q_I x1), .int (q_I x2), .int (q_I x3), .int (q_I x4), .int (q_I x5)] [.int (q_I 102)] (q_h L xs s O c) := by
  rw [show d + 8 = d + 7 + 1 from rfl, C_116_32 (d + 7) L xs s O c x1 x2 x3 x4 x5 (26 : Int), if_neg (by omega)]
  rfl
theorem CH_116_32_27 (d : Nat) (L : Nat) (xs : Nat → Int32) (s : Nat → Int → Int32) (O : Nat → Int64) (c : Bool × Nat × Nat) (x1 : Int) (x2 : Int) (x3 : Int) (x4 : Int) (x5 : Int) : EV (d + 8) 116 32 [.ref 2, .int (q_I x1), .int (q_I x2), .int (q_I x3), .int (q_I x4), .int (q_I x5)] [.int (q_I 27), .ref 1000000] (q_h L xs s O c) = EV (d + 8) 116 35 [.ref 2, .int (q_I x1), .int (q_I x2), .int (q_I x3), .int (q_I x4), .int (q_I x5)] [.int (q_I 32)] (q_h L xs s O c) := by
  rw [show d + 8 = d + 7 + 1 from rfl, C_116_32 (d + 7) L xs s O c x1 x2 x3 x4 x5 (27 : Int), if_neg (by omega)]
  rfl
theorem CH_116_32_28 (d : Nat) (L : Nat) (xs : Nat → Int32) (s : Nat → Int → Int32) (O : Nat → Int64) (c : Bool × Nat × Nat) (x1 : Int) (x2 : Int) (x3 : Int) (x4 : Int) (x5 : Int) : EV (d + 8) 116 32 [.ref 2, .int (q_I x1), .int (q_I x2), .int (q_I x3), .int (q_I x4), .int (q_I x5)] [.int (q_I 28), .ref 1000000] (q_h L xs s O c) = EV (d + 8) 116 35 [.ref 2, .int (q_I x1), .int (q_I x2), .int (q_I x3), .int (q_I x4), .int (q_I x5)] [.int (q_I 111)] (q_h L xs s O c) := by
  rw [show d + 8 = d + 7 + 1 from rfl, C_116_32 (d + 7) L xs s O c x1 x2 x3 x4 x5 (28 : Int), if_neg (by omega)]
  rfl
theorem CH_116_32_29 (d : Nat) (L : Nat) (xs : Nat → Int32) (s : Nat → Int → Int32) (O : Nat → Int64) (c : Bool × Nat × Nat) (x1 : Int) (x2 : Int) (x3 : Int) (x4 : Int) (x5 : Int) : EV (d + 8) 116 32 [.ref 2, .int (q_I x1), .int (q_I x2), .int (q_I x3), .int (q_I x4), .int (q_I x5)] [.int (q_I 29), .ref 1000000] (q_h L xs s O c) = EV (d + 8) 116 35 [.ref 2, .int (q_I x1), .int (q_I x2), .int (q_I x3), .int (q_I x4), .int (q_I x5)] [.int (q_I 114)] (q_h L xs s O c) := by
  rw [show d + 8 = d + 7 + 1 from rfl, C_116_32 (d + 7) L xs s O c x1 x2 x3 x4 x5 (29 : Int), if_neg (by omega)]
  rfl
theorem CH_116_32_30 (d : Nat) (L : Nat) (xs : Nat → Int32) (s : Nat → Int → Int32) (O : Nat → Int64) (c : Bool × Nat × Nat) (x1 : Int) (x2 : Int) (x3 : Int) (x4 : Int) (x5 : Int) : EV (d + 8) 116 32 [.ref 2, .int (q_I x1), .int (q_I x2), .int (q_I x3), .int (q_I x4), .int (q_I x5)] [.int (q_I 30), .ref 1000000] (q_h L xs s O c) = EV (d + 8) 116 35 [.ref 2, .int (q_I x1), .int (q_I x2), .int (q_I x3), .int (q_I x4), .int (q_I x5)] [.int (q_I 32)] (q_h L xs s O c) := by
  rw [show d + 8 = d + 7 + 1 from rfl, C_116_32 (d + 7) L xs s O c x1 x2 x3 x4 x5 (30 : Int), if_neg (by omega)]
  rfl
theorem CH_116_32_31 (d : Nat) (L : Nat) (xs : Nat → Int32) (s : Nat → Int → Int32) (O : Nat → Int64) (c : Bool × Nat × Nat) (x1 : Int) (x2 : Int) (x3 : Int) (x4 : Int) (x5 : Int) : EV (d + 8) 116 32 [.ref 2, .int (q_I x1), .int (q_I x2), .int (q_I x3), .int (q_I x4), .int (q_I x5)] [.int (q_I 31), .ref 1000000] (q_h L xs s O c) = EV (d + 8) 116 35 [.ref 2, .int (q_I x1), .int (q_I x2), .int (q_I x3), .int (q_I x4), .int (q_I x5)] [.int (q_I 97)] (q_h L xs s O c) := by
  rw [show d + 8 = d + 7 + 1 from rfl, C_116_32 (d + 7) L xs s O c x1 x2 x3 x4 x5 (31 : Int), if_neg (by omega)]
  rfl
theorem CH_116_32_32 (d : Nat) (L : Nat) (xs : Nat → Int32) (s : Nat → Int → Int32) (O : Nat → Int64) (c : Bool × Nat × Nat) (x1 : Int) (x2 : Int) (x3 : Int) (x4 : Int) (x5 : Int) : EV (d + 8) 116 32 [.ref 2, .int (q_I x1), .int (q_I x2), .int (q_I x3), .int (q_I x4), .int (q_I x5)] [.int (q_I 32), .ref 1000000] (q_h L xs s O c) = EV (d + 8) 116 35 [.ref 2, .int (q_I x1), .int (q_I x2), .int (q_I x3), .int (q_I x4), .int (q_I x5)] [.int (q_I 110)] (q_h L xs s O c) := by
  rw [show d + 8 = d + 7 + 1 from rfl, C_116_32 (d + 7) L xs s O c x1 x2 x3 x4 x5 (32 : Int), if_neg (by omega)]
  rfl
theorem CH_116_32_33 (d : Nat) (L : Nat) (xs : Nat → Int32) (s : Nat → Int → Int32) (O : Nat → Int64) (c : Bool × Nat × Nat) (x1 : Int) (x2 : Int) (x3 : Int) (x4 : Int) (x5 : Int) : EV (d + 8) 116 32 [.ref 2, .int (q_I x1), .int (q_I x2), .int (q_I x3), .int (q_I x4), .int (q_I x5)] [.int (q_I 33), .ref 1000000] (q_h L xs s O c) = EV (d + 8) 116 35 [.ref 2, .int (q_I x1), .int (q_I x2), .int (q_I x3), .int (q_I x4), .int (q_I x5)] [.int (q_I 100)] (q_h L xs s O c) := by
  rw [show d + 8 = d + 7 + 1 from rfl, C_116_32 (d + 7) L xs s O c x1 x2 x3 x4 x5 (33 : Int), if_neg (by omega)]
  rfl
theorem CH_116_32_34 (d : Nat) (L : Nat) (xs : Nat → Int32) (s : Nat → Int → Int32) (O : Nat → Int64) (c : Bool × Nat × Nat) (x1 : Int) (x2 : Int) (x3 : Int) (x4 : Int) (x5 : Int) : EV (d + 8) 116 32 [.ref 2, .int (q_I x1), .int (q_I x2), .int (q_I x3), .int (q_I x4), .int (q_I x5)] [.int (q_I 34), .ref 1000000] (q_h L xs s O c) = EV (d + 8) 116 35 [.ref 2, .int (q_I x1), .int (q_I x2), .int (q_I x3), .int (q_I x4), .int (q_I x5)] [.int (q_I 32)] (q_h L xs s O c) := by
  rw [show d + 8 = d + 7 + 1 from rfl, C_116_32 (d + 7) L xs s O c x1 x2 x3 x4 x5 (34 : Int), if_neg (by omega)]
  rfl
theorem CH_116_32_35 (d : Nat) (L : Nat) (xs : Nat → Int32) (s : Nat → Int → Int32) (O : Nat → Int64) (c : Bool × Nat × Nat) (x1 : Int) (x2 : Int) (x3 : Int) (x4 : Int) (x5 : Int) : EV (d + 8) 116 32 [.ref 2, .int (q_I x1), .int (q_I x2), .int (q_I x3), .int (q_I x4), .int (q_I x5)] [.int (q_I 35), .ref 1000000] (q_h L xs s O c) = EV (d + 8) 116 35 [.ref 2, .int (q_I x1), .int (q_I x2), .int (q_I x3), .int (q_I x4), .int (q_I x5)] [.int (q_I 110)] (q_h L xs s O c) := by
  rw [show d + 8 = d + 7 + 1 from rfl, C_116_32 (d + 7) L xs s O c x1 x2 x3 x4 x5 (35 : Int), if_neg (by omega)]
  rfl
theorem CH_116_32_36 (d : Nat) (L : Nat) (xs : Nat → Int32) (s : Nat → Int → Int32) (O : Nat → Int64) (c : Bool × Nat × Nat) (x1 : Int) (x2 : Int) (x3 : Int) (x4 : Int) (x5 : Int) : EV (d + 8) 116 32 [.ref 2, .int (q_I x1), .int (q_I x2), .int (q_I x3), .int (q_I x4), .int (q_I x5)] [.int (q_I 36), .ref 1000000] (q_h L xs s O c) = EV (d + 8) 116 35 [.ref 2, .int (q_I x1), .int (q_I x2), .int (q_I x3), .int (q_I x4), .int (q_I x5)] [.int (q_I 111)] (q_h L xs s O c) := by
  rw [show d + 8 = d + 7 + 1 from rfl, C_116_32 (d + 7) L xs s O c x1 x2 x3 x4 x5 (36 : Int), if_neg (by omega)]
  rfl
theorem CH_116_32_37 (d : Nat) (L : Nat) (xs : Nat → Int32) (s : Nat → Int → Int32) (O : Nat → Int64) (c : Bool × Nat × Nat) (x1 : Int) (x2 : Int) (x3 : Int) (x4 : Int) (x5 : Int) : EV (d + 8) 116 32 [.ref 2, .int (q_I x1), .int (q_I x2), .int (q_I x3), .int (q_I x4), .int (q_I x5)] [.int (q_I 37), .ref 1000000] (q_h L xs s O c) = EV (d + 8) 116 35 [.ref 2, .int (q_I x1), .int (q_I x2), .int (q_I x3), .int (q_I x4), .int (q_I x5)] [.int (q_I 116)] (q_h L xs s O c) := by
  rw [show d + 8 = d + 7 + 1 from rfl, C_116_32 (d + 7) L xs s O c x1 x2 x3 x4 x5 (37 : Int), if_neg (by omega)]
  rfl
theorem CH_116_32_38 (d : Nat) (L : Nat) (xs : Nat → Int32) (s : Nat → Int → Int32) (O : Nat → Int64) (c : Bool × Nat × Nat) (x1 : Int) (x2 : Int) (x3 : Int) (x4 : Int) (x5 : Int) : EV (d + 8) 116 32 [.ref 2, .int (q_I x1), .int (q_I x2), .int (q_I x3), .int (q_I x4), .int (q_I x5)] [.int (q_I 38), .ref 1000000] (q_h L xs s O c) = EV (d + 8) 116 35 [.ref 2, .int (q_I x1), .int (q_I x2), .int (q_I x3), .int (q_I x4), .int (q_I x5)] [.int (q_I 32)] (q_h L xs s O c) := by
  rw [show d + 8 = d + 7 + 1 from rfl, C_116_32 (d + 7) L xs s O c x1 x2 x3 x4 x5 (38 : Int), if_neg (by omega)]
  rfl
theorem CH_116_32_39 (d : Nat) (L : Nat) (xs : Nat → Int32) (s : Nat → Int → Int32) (O : Nat → Int64) (c : Bool × Nat × Nat) (x1 : Int) (x2 : Int) (x3 : Int) (x4 : Int) (x5 : Int) : EV (d + 8) 116 32 [.ref 2, .int (q_I x1), .int (q_I x2), .int (q_I x3), .int (q_I x4), .int (q_I x5)] [.int (q_I 39), .ref 1000000] (q_h L xs s O c) = EV (d + 8) 116 35 [.ref 2, .int (q_I x1), .int (q_I x2), .int (q_I x3), .int (q_I x4), .int (q_I x5)] [.int (q_I 104)] (q_h L xs s O c) := by
  rw [show d + 8 = d + 7 + 1 from rfl, C_116_32 (d + 7) L xs s O c x1 x2 x3 x4 x5 (39 : Int), if_neg (by omega)]
  rfl
theorem CH_116_32_40 (d : Nat) (L : Nat) (xs : Nat → Int32) (s : Nat → Int → Int32) (O : Nat → Int64) (c : Bool × Nat × Nat) (x1 : Int) (x2 : Int) (x3 : Int) (x4 : Int) (x5 : Int) : EV (d + 8) 116 32 [.ref 2, .int (q_I x1), .int (q_I x2), .int (q_I x3), .int (q_I x4), .int (q_I x5)] [.int (q_I 40), .ref 1000000] (q_h L xs s O c) = EV (d + 8) 116 35 [.ref 2, .int (q_I x1), .int (q_I x2), .int (q_I x3), .int (q_I x4), .int (q_I x5)] [.int (q_I 101)] (q_h L xs s O c) := by
  rw [show d + 8 = d + 7 + 1 from rfl, C_116_32 (d + 7) L xs s O c x1 x2 x3 x4 x5 (40 : Int), if_neg (by omega)]
  rfl
theorem CH_116_32_41 (d : Nat) (L : Nat) (xs : Nat → Int32) (s : Nat → Int → Int32) (O : Nat → Int64) (c : Bool × Nat × Nat) (x1 : Int) (x2 : Int) (x3 : Int) (x4 : Int) (x5 : Int) : EV (d + 8) 116 32 [.ref 2, .int (q_I x1), .int (q_I x2), .int (q_I x3), .int (q_I x4), .int (q_I x5)] [.int (q_I 41), .ref 1000000] (q_h L xs s O c) = EV (d + 8) 116 35 [.ref 2, .int (q_I x1), .int (q_I x2), .int (q_I x3), .int (q_I x4), .int (q_I x5)] [.int (q_I 97)] (q_h L xs s O c) := by
  rw [show d + 8 = d + 7 + 1 from rfl, C_116_32 (d + 7) L xs s O c x1 x2 x3 x4 x5 (41 : Int), if_neg (by omega)]
  rfl
theorem CH_116_32_42 (d : Nat) (L : Nat) (xs : Nat → Int32) (s : Nat → Int → Int32) (O : Nat → Int64) (c : Bool × Nat × Nat) (x1 : Int) (x2 : Int) (x3 : Int) (x4 : Int) (x5 : Int) : EV (d + 8) 116 32 [.ref 2, .int (q_I x1), .int (q_I x2), .int (q_I x3), .int (q_I x4), .int (q_I x5)] [.int (q_I 42), .ref 1000000] (q_h L xs s O c) = EV (d + 8) 116 35 [.ref 2, .int (q_I x1), .int (q_I x2), .int (q_I x3), .int (q_I x4), .int (q_I x5)] [.int (q_I 100)] (q_h L xs s O c) := by
  rw [show d + 8 = d + 7 + 1 from rfl, C_116_32 (d + 7) L xs s O c x1 x2 x3 x4 x5 (42 : Int), if_neg (by omega)]
  rfl
theorem CH_116_32_43 (d : Nat) (L : Nat) (xs : Nat → Int32) (s : Nat → Int → Int32) (O : Nat → Int64) (c : Bool × Nat × Nat) (x1 : Int) (x2 : Int) (x3 : Int) (x4 : Int) (x5 : Int) : EV (d + 8) 116 32 [.ref 2, .int (q_I x1), .int (q_I x2), .int (q_I x3), .int (q_I x4), .int (q_I x5)] [.int (q_I 43), .ref 1000000] (q_h L xs s O c) = EV (d + 8) 116 35 [.ref 2, .int (q_I x1), .int (q_I x2), .int (q_I x3), .int (q_I x4), .int (q_I x5)] [.int (q_I 32)] (q_h L xs s O c) := by
  rw [show d + 8 = d + 7 + 1 from rfl, C_116_32 (d + 7) L xs s O c x1 x2 x3 x4 x5 (43 : Int), if_neg (by omega)]
  rfl
theorem CH_116_32_44 (d : Nat) (L : Nat) (xs : Nat → Int32) (s : Nat → Int → Int32) (O : Nat → Int64) (c : Bool × Nat × Nat) (x1 : Int) (x2 : Int) (x3 : Int) (x4 : Int) (x5 : Int) : EV (d + 8) 116 32 [.ref 2, .int (q_I x1), .int (q_I x2), .int (q_I x3), .int (q_I x4), .int (q_I x5)] [.int (q_I 44), .ref 1000000] (q_h L xs s O c) = EV (d + 8) 116 35 [.ref 2, .int (q_I x1), .int (q_I x2), .int (q_I x3), .int (q_I x4), .int (q_I x5)] [.int (q_I 115)] (q_h L xs s O c) := by
  rw [show d + 8 = d + 7 + 1 from rfl, C_116_32 (d + 7) L xs s O c x1 x2 x3 x4 x5 (44 : Int), if_neg (by omega)]
  rfl
theorem CH_116_32_45 (d : Nat) (L : Nat) (xs : Nat → Int32) (s : Nat → Int → Int32) (O : Nat → Int64) (c : Bool × Nat × Nat) (x1 : Int) (x2 : Int) (x3 : Int) (x4 : Int) (x5 : Int) : EV (d + 8) 116 32 [.ref 2, .int (q_I x1), .int (q_I x2), .int (q_I x3), .int (q_I x4), .int (q_I x5)] [.int (q_I 45), .ref 1000000] (q_h L xs s O c) = EV (d + 8) 116 35 [.ref 2, .int (q_I x1), .int (q_I x2), .int (q_I x3), .int (q_I x4), .int (q_I x5)] [.int (q_I 108)] (q_h L xs s O c) := by
  rw [show d + 8 = d + 7 + 1 from rfl, C_116_32 (d + 7) L xs s O c x1 x2 x3 x4 x5 (45 : Int), if_neg (by omega)]
  rfl
theorem CH_116_32_46 (d : Nat) (L : Nat) (xs : Nat → Int32) (s : Nat → Int → Int32) (O : Nat → Int64) (c : Bool × Nat × Nat) (x1 : Int) (x2 : Int) (x3 : Int) (x4 : Int) (x5 : Int) : EV (d + 8) 116 32 [.ref 2, .int (q_I x1), .int (q_I x2), .int (q_I x3), .int (q_I x4), .int (q_I x5)] [.int (q_I 46), .ref 1000000] (q_h L xs s O c) = EV (d + 8) 116 35 [.ref 2, .int (q_I x1), .int (q_I x2), .int (q_I x3), .int (q_I x4), .int (q_I x5)] [.int (q_I 105)] (q_h L xs s O c) := by
  rw [show d + 8 = d + 7 + 1 from rfl, C_116_32 (d + 7) L xs s O c x1 x2 x3 x4 x5 (46 : Int), if_neg (by omega)]
  rfl
theorem CH_116_32_47 (d : Nat) (L : Nat) (xs : Nat → Int32) (s : Nat → Int → Int32) (O : Nat → Int64) (c : Bool × Nat × Nat) (x1 : Int) (x2 : Int) (x3 : Int) (x4 : Int) (x5 : Int) : EV (d + 8) 116 32 [.ref 2, .int (q_I x1), .int (q_I x2), .int (q_I x3), .int (q_I x4), .int (q_I x5)] [.int (q_I 47), .ref 1000000] (q_h L xs s O c) = EV (d + 8) 116 35 [.ref 2, .int (q_I x1), .int (q_I x2), .int (q_I x3), .int (q_I x4), .int (q_I x5)] [.int (q_I 112)] (q_h L xs s O c) := by
  rw [show d + 8 = d + 7 + 1 from rfl, C_116_32 (d + 7) L xs s O c x1 x2 x3 x4 x5 (47 : Int), if_neg (by omega)]
  rfl
theorem CH_116_32_48 (d : Nat) (L : Nat) (xs : Nat → Int32) (s : Nat → Int → Int32) (O : Nat → Int64) (c : Bool × Nat × Nat) (x1 : Int) (x2 : Int) (x3 : Int) (x4 : Int) (x5 : Int) : EV (d + 8) 116 32 [.ref 2, .int (q_I x1), .int (q_I x2), .int (q_I x3), .int (q_I x4), .int (q_I x5)] [.int (q_I 48), .ref 1000000] (q_h L xs s O c) = EV (d + 8) 116 35 [.ref 2, .int (q_I x1), .int (q_I x2), .int (q_I x3), .int (q_I x4), .int (q_I x5)] [.int (q_I 32)] (q_h L xs s O c) := by
  rw [show d + 8 = d + 7 + 1 from rfl, C_116_32 (d + 7) L xs s O c x1 x2 x3 x4 x5 (48 : Int), if_neg (by omega)]
  rfl
theorem CH_116_32_49 (d : Nat) (L : Nat) (xs : Nat → Int32) (s : Nat → Int → Int32) (O : Nat → Int64) (c : Bool × Nat × Nat) (x1 : Int) (x2 : Int) (x3 : Int) (x4 : Int) (x5 : Int) : EV (d + 8) 116 32 [.ref 2, .int (q_I x1), .int (q_I x2), .int (q_I x3), .int (q_I x4), .int (q_I x5)] [.int (q_I 49), .ref 1000000] (q_h L xs s O c) = EV (d + 8) 116 35 [.ref 2, .int (q_I x1), .int (q_I x2), .int (q_I x3), .int (q_I x4), .int (q_I x5)] [.int (q_I 101)] (q_h L xs s O c) := by
  rw [show d + 8 = d + 7 + 1 from rfl, C_116_32 (d + 7) L xs s O c x1 x2 x3 x4 x5 (49 : Int), if_neg (by omega)]
  rfl
theorem CH_116_32_50 (d : Nat) (L : Nat) (xs : Nat → Int32) (s : Nat → Int → Int32) (O : Nat → Int64) (c : Bool × Nat × Nat) (x1 : Int) (x2 : Int) (x3 : Int) (x4 : Int) (x5 : Int) : EV (d + 8) 116 32 [.ref 2, .int (q_I x1), .int (q_I x2), .int (q_I x3), .int (q_I x4), .int (q_I x5)] [.int (q_I 50), .ref 1000000] (q_h L xs s O c) = EV (d + 8) 116 35 [.ref 2, .int (q_I x1), .int (q_I x2), .int (q_I x3), .int (q_I x4), .int (q_I x5)] [.int (q_I 118)] (q_h L xs s O c) := by
  rw [show d + 8 = d + 7 + 1 from rfl, C_116_32 (d + 7) L xs s O c x1 x2 x3 x4 x5 (50 : Int), if_neg (by omega)]
  rfl
theorem CH_116_32_51 (d : Nat) (L : Nat) (xs : Nat → Int32) (s : Nat → Int → Int32) (O : Nat → Int64) (c : Bool × Nat × Nat) (x1 : Int) (x2 : Int) (x3 : Int) (x4 : Int) (x5 : Int) : EV (d + 8) 116 32 [.ref 2, .int (q_I x1), .int (q_I x2), .int (q_I x3), .int (q_I x4), .int (q_I x5)] [.int (q_I 51), .ref 1000000] (q_h L xs s O c) = EV (d + 8) 116 35 [.ref 2, .int (q_I x1), .int (q_I x2), .int (q_I x3), .int (q_I x4), .int (q_I x5)] [.int (q_I 101)] (q_h L xs s O c) := by
  rw [show d + 8 = d + 7 + 1 from rfl, C_116_32 (d + 7) L xs s O c x1 x2 x3 x4 x5 (51 : Int), if_neg (by omega)]
  rfl
theorem CH_116_32_52 (d : Nat) (L : Nat) (xs : Nat → Int32) (s : Nat → Int → Int32) (O : Nat → Int64) (c : Bool × Nat × Nat) (x1 : Int) (x2 : Int) (x3 : Int) (x4 : Int) (x5 : Int) : EV (d + 8) 116 32 [.ref 2, .int (q_I x1), .int (q_I x2), .int (q_I x3), .int (q_I x4), .int (q_I x5)] [.int (q_I 52), .ref 1000000] (q_h L xs s O c) = EV (d + 8) 116 35 [.ref 2, .int (q_I x1), .int (q_I x2), .int (q_I x3), .int (q_I x4), .int (q_I x5)] [.int (q_I 110)] (q_h L xs s O c) := by
  rw [show d + 8 = d + 7 + 1 from rfl, C_116_32 (d + 7) L xs s O c x1 x2 x3 x4 x5 (52 : Int), if_neg (by omega)]
  rfl
theorem CH_116_32_53 (d : Nat) (L : Nat) (xs : Nat → Int32) (s : Nat → Int → Int32) (O : Nat → Int64) (c : Bool × Nat × Nat) (x1 : Int) (x2 : Int) (x3 : Int) (x4 : Int) (x5 : Int) : EV (d + 8) 116 32 [.ref 2, .int (q_I x1), .int (q_I x2), .int (q_I x3), .int (q_I x4), .int (q_I x5)] [.int (q_I 53), .ref 1000000] (q_h L xs s O c) = EV (d + 8) 116 35 [.ref 2, .int (q_I x1), .int (q_I x2), .int (q_I x3), .int (q_I x4), .int (q_I x5)] [.int (q_I 32)] (q_h L xs s O c) := by
  rw [show d + 8 = d + 7 + 1 from rfl, C_116_32 (d + 7) L xs s O c x1 x2 x3 x4 x5 (53 : Int), if_neg (by omega)]
  rfl
theorem CH_116_32_54 (d : Nat) (L : Nat) (xs : Nat → Int32) (s : Nat → Int → Int32) (O : Nat → Int64) (c : Bool × Nat × Nat) (x1 : Int) (x2 : Int) (x3 : Int) (x4 : Int) (x5 : Int) : EV (d + 8) 116 32 [.ref 2, .int (q_I x1), .int (q_I x2), .int (q_I x3), .int (q_I x4), .int (q_I x5)] [.int (q_I 54), .ref 1000000] (q_h L xs s O c) = EV (d + 8) 116 35 [.ref 2, .int (q_I x1), .int (q_I x2), .int (q_I x3), .int (q_I x4), .int (q_I x5)] [.int (q_I 112)] (q_h L xs s O c) := by
  rw [show d + 8 = d + 7 + 1 from rfl, C_116_32 (d + 7) L xs s O c x1 x2 x3 x4 x5 (54 : Int), if_neg (by omega)]
  rfl
theorem CH_116_32_55 (d : Nat) (L : Nat) (xs : Nat → Int32) (s : Nat → Int → Int32) (O : Nat → Int64) (c : Bool × Nat × Nat) (x1 : Int) (x2 : Int) (x3 : Int) (x4 : Int) (x5 : Int) : EV (d + 8) 116 32 [.ref 2, .int (q_I x1), .int (q_I x2), .int (q_I x3), .int (q_I x4), .int (q_I x5)] [.int (q_I 55), .ref 1000000] (q_h L xs s O c) = EV (d + 8) 116 35 [.ref 2, .int (q_I x1), .int (q_I x2), .int (q_I x3), .int (q_I x4), .int (q_I x5)] [.int (q_I 97)] (q_h L xs s O c) := by
  rw [show d + 8 = d + 7 + 1 from rfl, C_116_32 (d + 7) L xs s O c x1 x2 x3 x4 x5 (55 : Int), if_neg (by omega)]
  rfl
theorem CH_116_32_56 (d : Nat) (L : Nat) (xs : Nat → Int32) (s : Nat → Int → Int32) (O : Nat → Int64) (c : Bool × Nat × Nat) (x1 : Int) (x2 : Int) (x3 : Int) (x4 : Int) (x5 : Int) : EV (d + 8) 116 32 [.ref 2, .int (q_I x1), .int (q_I x2), .int (q_I x3), .int (q_I x4), .int (q_I x5)] [.int (q_I 56), .ref 1000000] (q_h L xs s O c) = EV (d + 8) 116 35 [.ref 2, .int (q_I x1), .int (q_I x2), .int (q_I x3), .int (q_I x4), .int (q_I x5)] [.int (q_I 103)] (q_h L xs s O c) := by
  rw [show d + 8 = d + 7 + 1 from rfl, C_116_32 (d + 7) L xs s O c x1 x2 x3 x4 x5 (56 : Int), if_neg (by omega)]
  rfl
theorem CH_116_32_57 (d : Nat) (L : Nat) (xs : Nat → Int32) (s : Nat → Int → Int32) (O : Nat → Int64) (c : Bool × Nat × Nat) (x1 : Int) (x2 : Int) (x3 : Int) (x4 : Int) (x5 : Int) : EV (d + 8) 116 32 [.ref 2, .int (q_I x1), .int (q_I x2), .int (q_I x3), .int (q_I x4), .int (q_I x5)] [.int (q_I 57), .ref 1000000] (q_h L xs s O c) = EV (d + 8) 116 35 [.ref 2, .int (q_I x1), .int (q_I x2), .int (q_I x3), .int (q_I x4), .int (q_I x5)] [.int (q_I 101)] (q_h L xs s O c) := by
  rw [show d + 8 = d + 7 + 1 from rfl, C_116_32 (d + 7) L xs s O c x1 x2 x3 x4 x5 (57 : Int), if_neg (by omega)]
  rfl
theorem CH_116_32_58 (d : Nat) (L : Nat) (xs : Nat → Int32) (s : Nat → Int → Int32) (O : Nat → Int64) (c : Bool × Nat × Nat) (x1 : Int) (x2 : Int) (x3 : Int) (x4 : Int) (x5 : Int) : EV (d + 8) 116 32 [.ref 2, .int (q_I x1), .int (q_I x2), .int (q_I x3), .int (q_I x4), .int (q_I x5)] [.int (q_I 58), .ref 1000000] (q_h L xs s O c) = EV (d + 8) 116 35 [.ref 2, .int (q_I x1), .int (q_I x2), .int (q_I x3), .int (q_I x4), .int (q_I x5)] [.int (q_I 32)] (q_h L xs s O c) := by
  rw [show d + 8 = d + 7 + 1 from rfl, C_116_32 (d + 7) L xs s O c x1 x2 x3 x4 x5 (58 : Int), if_neg (by omega)]
  rfl
theorem CH_116_32_59 (d : Nat) (L : Nat) (xs : Nat → Int32) (s : Nat → Int → Int32) (O : Nat → Int64) (c : Bool × Nat × Nat) (x1 : Int) (x2 : Int) (x3 : Int) (x4 : Int) (x5 : Int) : EV (d + 8) 116 32 [.ref 2, .int (q_I x1), .int (q_I x2), .int (q_I x3), .int (q_I x4), .int (q_I x5)] [.int (q_I 59), .ref 1000000] (q_h L xs s O c) = EV (d + 8) 116 35 [.ref 2, .int (q_I x1), .int (q_I x2), .int (q_I x3), .int (q_I x4), .int (q_I x5)] [.int (q_I 107)] (q_h L xs s O c) := by
  rw [show d + 8 = d + 7 + 1 from rfl, C_116_32 (d + 7) L xs s O c x1 x2 x3 x4 x5 (59 : Int), if_neg (by omega)]
  rfl
theorem CH_116_32_60 (d : Nat) (L : Nat) (xs : Nat → Int32) (s : Nat → Int → Int32) (O : Nat → Int64) (c : Bool × Nat × Nat) (x1 : Int) (x2 : Int) (x3 : Int) (x4 : Int) (x5 : Int) : EV (d + 8) 116 32 [.ref 2, .int (q_I x1), .int (q_I x2), .int (q_I x3), .int (q_I x4), .int (q_I x5)] [.int (q_I 60), .ref 1000000] (q_h L xs s O c) = EV (d + 8) 116 35 [.ref 2, .int (q_I x1), .int (q_I x2), .int (q_I x3), .int (q_I x4), .int (q_I x5)] [.int (q_I 105)] (q_h L xs s O c) := by
  rw [show d + 8 = d + 7 + 1 from rfl, C_116_32 (d + 7) L xs s O c x1 x2 x3 x4 x5 (60 : Int), if_neg (by omega)]
  rfl
theorem CH_116_32_61 (d : Nat) (L : Nat) (xs : Nat → Int32) (s : Nat → Int → Int32) (O : Nat → Int64) (c : Bool × Nat × Nat) (x1 : Int) (x2 : Int) (x3 : Int) (x4 : Int) (x5 : Int) : EV (d + 8) 116 32 [.ref 2, .int (q_I x1), .int (q_I x2), .int (q_I x3), .int (q_I x4), .int (q_I x5)] [.int (q_I 61), .ref 1000000] (q_h L xs s O c) = EV (d + 8) 116 35 [.ref 2, .int (q_I x1), .int (q_I x2), .int (q_I x3), .int (q_I x4), .int (q_I x5)] [.int (q_I 110)] (q_h L xs s O c) := by
  rw [show d + 8 = d + 7 + 1 from rfl, C_116_32 (d + 7) L xs s O c x1 x2 x3 x4 x5 (61 : Int), if_neg (by omega)]
  rfl
theorem CH_116_32_62 (d : Nat) (L : Nat) (xs : Nat → Int32) (s : Nat → Int → Int32) (O : Nat → Int64) (c : Bool × Nat × Nat) (x1 : Int) (x2 : Int) (x3 : Int) (x4 : Int) (x5 : Int) : EV (d + 8) 116 32 [.ref 2, .int (q_I x1), .int (q_I x2), .int (q_I x3), .int (q_I x4), .int (q_I x5)] [.int (q_I 62), .ref 1000000] (q_h L xs s O c) = EV (d + 8) 116 35 [.ref 2, .int (q_I x1), .int (q_I x2), .int (q_I x3), .int (q_I x4), .int (q_I x5)] [.int (q_I 100)] (q_h L xs s O c) := by
  rw [show d + 8 = d + 7 + 1 from rfl, C_116_32 (d + 7) L xs s O c x1 x2 x3 x4 x5 (62 : Int), if_neg (by omega)]
  rfl
theorem CH_116_32_63 (d : Nat) (L : Nat) (xs : Nat → Int32) (s : Nat → Int → Int32) (O : Nat → Int64) (c : Bool × Nat × Nat) (x1 : Int) (x2 : Int) (x3 : Int) (x4 : Int) (x5 : Int) : EV (d + 8) 116 32 [.ref 2, .int (q_I x1), .int (q_I x2), .int (q_I x3), .int (q_I x4), .int (q_I x5)] [.int (q_I 63), .ref 1000000] (q_h L xs s O c) = EV (d + 8) 116 35 [.ref 2, .int (q_I x1), .int (q_I x2), .int (q_I x3), .int (q_I x4), .int (q_I x5)] [.int (q_I 32)] (q_h L xs s O c) := by
  rw [show d + 8 = d + 7 + 1 from rfl, C_116_32 (d + 7) L xs s O c x1 x2 x3 x4 x5 (63 : Int), if_neg (by omega)]
  rfl
theorem CH_116_32_64 (d : Nat) (L : Nat) (xs : Nat → Int32) (s : Nat → Int → Int32) (O : Nat → Int64) (c : Bool × Nat × Nat) (x1 : Int) (x2 : Int) (x3 : Int) (x4 : Int) (x5 : Int) : EV (d + 8) 116 32 [.ref 2, .int (q_I x1), .int (q_I x2), .int (q_I x3), .int (q_I x4), .int (q_I x5)] [.int (q_I 64), .ref 1000000] (q_h L xs s O c) = EV (d + 8) 116 35 [.ref 2, .int (q_I x1), .int (q_I x2), .int (q_I x3), .int (q_I x4), .int (q_I x5)] [.int (q_I 119)] (q_h L xs s O c) := by
  rw [show d + 8 = d + 7 + 1 from rfl, C_116_32 (d + 7) L xs s O c x1 x2 x3 x4 x5 (64 : Int), if_neg (by omega)]
  rfl
theorem CH_116_32_65 (d : Nat) (L : Nat) (xs : Nat → Int32) (s : Nat → Int → Int32) (O : Nat → Int64) (c : Bool × Nat × Nat) (x1 : Int) (x2 : Int) (x3 : Int) (x4 : Int) (x5 : Int) : EV (d + 8) 116 32 [.ref 2, .int (q_I x1), .int (q_I x2), .int (q_I x3), .int (q_I x4), .int (q_I x5)] [.int (q_I 65), .ref 1000000] (q_h L xs s O c) = EV (d + 8) 116 35 [.ref 2, .int (q_I x1), .int (q_I x2), .int (q_I x3), .int (q_I x4), .int (q_I x5)] [.int (q_I 101)] (q_h L xs s O c) := by
  rw [show d + 8 = d + 7 + 1 from rfl, C_116_32 (d + 7) L xs s O c x1 x2 x3 x4 x5 (65 : Int), if_neg (by omega)]
  rfl
theorem CH_116_32_66 (d : Nat) (L : Nat) (xs : Nat → Int32) (s : Nat → Int → Int32) (O : Nat → Int64) (c : Bool × Nat × Nat) (x1 : Int) (x2 : Int) (x3 : Int) (x4 : Int) (x5 : Int) : EV (d + 8) 116 32 [.ref 2, .int (q_I x1), .int (q_I x2), .int (q_I x3), .int (q_I x4), .int (q_I x5)] [.int (q_I 66), .ref 1000000] (q_h L xs s O c) = EV (d + 8) 116 35 [.ref 2, .int (q_I x1), .int (q_I x2), .int (q_I x3), .int (q_I x4), .int (q_I x5)] [.int (q_I 97)] (q_h L xs s O c) := by
  rw [show d + 8 = d + 7 + 1 from rfl, C_116_32 (d + 7) L xs s O c x1 x2 x3 x4 x5 (66 : Int), if_neg (by omega)]
  rfl
theorem CH_116_32_67 (d : Nat) (L : Nat) (xs : Nat → Int32) (s : Nat → Int → Int32) (O : Nat → Int64) (c : Bool × Nat × Nat) (x1 : Int) (x2 : Int) (x3 : Int) (x4 : Int) (x5 : Int) : EV (d + 8) 116 32 [.ref 2, .int (q_I x1), .int (q_I x2), .int (q_I x3), .int (q_I x4), .int (q_I x5)] [.int (q_I 67), .ref 1000000] (q_h L xs s O c) = EV (d + 8) 116 35 [.ref 2, .int (q_I x1), .int (q_I x2), .int (q_I x3), .int (q_I x4), .int (q_I x5)] [.int (q_I 114)] (q_h L xs s O c) := by
  rw [show d + 8 = d + 7 + 1 from rfl, C_116_32 (d + 7) L xs s O c x1 x2 x3 x4 x5 (67 : Int), if_neg (by omega)]
  rfl
theorem CH_116_32_68 (d : Nat) (L : Nat) (xs : Nat → Int32) (s : Nat → Int → Int32) (O : Nat → Int64) (c : Bool × Nat × Nat) (x1 : Int) (x2 : Int) (x3 : Int) (x4 : Int) (x5 : Int) : EV (d + 8) 116 32 [.ref 2, .int (q_I x1), .int (q_I x2), .int (q_I x3), .int (q_I x4), .int (q_I x5)] [.int (q_I 68), .ref 1000000] (q_h L xs s O c) = EV (d + 8) 116 35 [.ref 2, .int (q_I x1), .int (q_I x2), .int (q_I x3), .int (q_I x4), .int (q_I x5)] [.int (q_I 32)] (q_h L xs s O c) := by
  rw [show d + 8 = d + 7 + 1 from rfl, C_116_32 (d + 7) L xs s O c x1 x2 x3 x4 x5 (68 : Int), if_neg (by omega)]
  rfl
theorem CH_116_32_69 (d : Nat) (L : Nat) (xs : Nat → Int32) (s : Nat → Int → Int32) (O : Nat → Int64) (c : Bool × Nat × Nat) (x1 : Int) (x2 : Int) (x3 : Int) (x4 : Int) (x5 : Int) : EV (d + 8) 116 32 [.ref 2, .int (q_I x1), .int (q_I x2), .int (q_I x3), .int (q_I x4), .int (q_I x5)] [.int (q_I 69), .ref 1000000] (q_h L xs s O c) = EV (d + 8) 116 35 [.ref 2, .int (q_I x1), .int (q_I x2), .int (q_I x3), .int (q_I x4), .int (q_I x5)] [.int (q_I 114)] (q_h L xs s O c) := by
  rw [show d + 8 = d + 7 + 1 from rfl, C_116_32 (d + 7) L xs s O c x1 x2 x3 x4 x5 (69 : Int), if_neg (by omega)]
  rfl
theorem CH_116_32_70 (d : Nat) (L : Nat) (xs : Nat → Int32) (s : Nat → Int → Int32) (O : Nat → Int64) (c : Bool × Nat × Nat) (x1 : Int) (x2 : Int) (x3 : Int) (x4 : Int) (x5 : Int) : EV (d + 8) 116 32 [.ref 2, .int (q_I x1), .int (q_I x2), .int (q_I x3), .int (q_I x4), .int (q_I x5)] [.int (q_I 70), .ref 1000000] (q_h L xs s O c) = EV (d + 8) 116 35 [.ref 2, .int (q_I x1), .int (q_I x2), .int (q_I x3), .int (q_I x4), .int (q_I x5)] [.int (q_I 111)] (q_h L xs s O c) := by
  rw [show d + 8 = d + 7 + 1 from rfl, C_116_32 (d + 7) L xs s O c x1 x2 x3 x4 x5 (70 : Int), if_neg (by omega)]
  rfl
theorem CH_116_32_71 (d : Nat) (L : Nat) (xs : Nat → Int32) (s : Nat → Int → Int32) (O : Nat → Int64) (c : Bool × Nat × Nat) (x1 : Int) (x2 : Int) (x3 : Int) (x4 : Int) (x5 : Int) : EV (d + 8) 116 32 [.ref 2, .int (q_I x1), .int (q_I x2), .int (q_I x3), .int (q_I x4), .int (q_I x5)] [.int (q_I 71), .ref 1000000] (q_h L xs s O c) = EV (d + 8) 116 35 [.ref 2, .int (q_I x1), .int (q_I x2), .int (q_I x3), .int (q_I x4), .int (q_I x5)] [.int (q_I 119)] (q_h L xs s O c) := by
  rw [show d + 8 = d + 7 + 1 from rfl, C_116_32 (d + 7) L xs s O c x1 x2 x3 x4 x5 (71 : Int), if_neg (by omega)]
  rfl
theorem CH_116_32_72 (d : Nat) (L : Nat) (xs : Nat → Int32) (s : Nat → Int → Int32) (O : Nat → Int64) (c : Bool × Nat × Nat) (x1 : Int) (x2 : Int) (x3 : Int) (x4 : Int) (x5 : Int) : EV (d + 8) 116 32 [.ref 2, .int (q_I x1), .int (q_I x2), .int (q_I x3), .int (q_I x4), .int (q_I x5)] [.int (q_I 72), .ref 1000000] (q_h L xs s O c) = EV (d + 8) 116 35 [.ref 2, .int (q_I x1), .int (q_I x2), .int (q_I x3), .int (q_I x4), .int (q_I x5)] [.int (q_I 115)] (q_h L xs s O c) := by
  rw [show d + 8 = d + 7 + 1 from rfl, C_116_32 (d + 7) L xs s O c x1 x2 x3 x4 x5 (72 : Int), if_neg (by omega)]
  rfl
theorem CH_116_32_73 (d : Nat) (L : Nat) (xs : Nat → Int32) (s : Nat → Int → Int32) (O : Nat → Int64) (c : Bool × Nat × Nat) (x1 : Int) (x2 : Int) (x3 : Int) (x4 : Int) (x5 : Int) : EV (d + 8) 116 32 [.ref 2, .int (q_I x1), .int (q_I x2), .int (q_I x3), .int (q_I x4), .int (q_I x5)] [.int (q_I 73), .ref 1000000] (q_h L xs s O c) = EV (d + 8) 116 35 [.ref 2, .int (q_I x1), .int (q_I x2), .int (q_I x3), .int (q_I x4), .int (q_I x5)] [.int (q_I 32)] (q_h L xs s O c) := by
  rw [show d + 8 = d + 7 + 1 from rfl, C_116_32 (d + 7) L xs s O c x1 x2 x3 x4 x5 (73 : Int), if_neg (by omega)]
  rfl
theorem CH_116_32_74 (d : Nat) (L : Nat) (xs : Nat → Int32) (s : Nat → Int → Int32) (O : Nat → Int64) (c : Bool × Nat × Nat) (x1 : Int) (x2 : Int) (x3 : Int) (x4 : Int) (x5 : Int) : EV (d + 8) 116 32 [.ref 2, .int (q_I x1), .int (q_I x2), .int (q_I x3), .int (q_I x4), .int (q_I x5)] [.int (q_I 74), .ref 1000000] (q_h L xs s O c) = EV (d + 8) 116 35 [.ref 2, .int (q_I x1), .int (q_I x2), .int (q_I x3), .int (q_I x4), .int (q_I x5)] [.int (q_I 118)] (q_h L xs s O c) := by
  rw [show d + 8 = d + 7 + 1 from rfl, C_116_32 (d + 7) L xs s O c x1 x2 x3 x4 x5 (74 : Int), if_neg (by omega)]
  rfl
theorem CH_116_32_75 (d : Nat) (L : Nat) (xs : Nat → Int32) (s : Nat → Int → Int32) (O : Nat → Int64) (c : Bool × Nat × Nat) (x1 : Int) (x2 : Int) (x3 : Int) (x4 : Int) (x5 : Int) : EV (d + 8) 116 32 [.ref 2, .int (q_I x1), .int (q_I x2), .int (q_I x3), .int (q_I x4), .int (q_I x5)] [.int (q_I 75), .ref 1000000] (q_h L xs s O c) = EV (d + 8) 116 35 [.ref 2, .int (q_I x1), .int (q_I x2), .int (q_I x3), .int (q_I x4), .int (q_I x5)] [.int (q_I 101)] (q_h L xs s O c) := by
  rw [show d + 8 = d + 7 + 1 from rfl, C_116_32 (d + 7) L xs s O c x1 x2 x3 x4 x5 (75 : Int), if_neg (by omega)]
  rfl
theorem CH_116_32_76 (d : Nat) (L : Nat) (xs : Nat → Int32) (s : Nat → Int → Int32) (O : Nat → Int64) (c : Bool × Nat × Nat) (x1 : Int) (x2 : Int) (x3 : Int) (x4 : Int) (x5 : Int) : EV (d + 8) 116 32 [.ref 2, .int (q_I x1), .int (q_I x2), .int (q_I x3), .int (q_I x4), .int (q_I x5)] [.int (q_I 76), .ref 1000000] (q_h L xs s O c) = EV (d + 8) 116 35 [.ref 2, .int (q_I x1), .int (q_I x2), .int (q_I x3), .int (q_I x4), .int (q_I x5)] [.int (q_I 114)] (q_h L xs s O c) := by
  rw [show d + 8 = d + 7 + 1 from rfl, C_116_32 (d + 7) L xs s O c x1 x2 x3 x4 x5 (76 : Int), if_neg (by omega)]
  rfl
theorem CH_116_32_77 (d : Nat) (L : Nat) (xs : Nat → Int32) (s : Nat → Int → Int32) (O : Nat → Int64) (c : Bool × Nat × Nat) (x1 : Int) (x2 : Int) (x3 : Int) (x4 : Int) (x5 : Int) : EV (d + 8) 116 32 [.ref 2, .int (q_I x1), .int (q_I x2), .int (q_I x3), .int (q_I x4), .int (q_I x5)] [.int (q_I 77), .ref 1000000] (q_h L xs s O c) = EV (d + 8) 116 35 [.ref 2, .int (q_I x1), .int (q_I x2), .int (q_I x3), .int (q_I x4), .int (q_I x5)] [.int (q_I 115)] (q_h L xs s O c) := by
  rw [show d + 8 = d + 7 + 1 from rfl, C_116_32 (d + 7) L xs s O c x1 x2 x3 x4 x5 (77 : Int), if_neg (by omega)]
  rfl
theorem CH_116_32_78 (d : Nat) (L : Nat) (xs : Nat → Int32) (s : Nat → Int → Int32) (O : Nat → Int64) (c : Bool × Nat × Nat) (x1 : Int) (x2 : Int) (x3 : Int) (x4 : Int) (x5 : Int) : EV (d + 8) 116 32 [.ref 2, .int (q_I x1), .int (q_I x2), .int (q_I x3), .int (q_I x4), .int (q_I x5)] [.int (q_I 78), .ref 1000000] (q_h L xs s O c) = EV (d + 8) 116 35 [.ref 2, .int (q_I x1), .int (q_I x2), .int (q_I x3), .int (q_I x4), .int (q_I x5)] [.int (q_I 105)] (q_h L xs s O c) := by
  rw [show d + 8 = d + 7 + 1 from rfl, C_116_32 (d + 7) L xs s O c x1 x2 x3 x4 x5 (78 : Int), if_neg (by omega)]
  rfl
theorem CH_116_32_79 (d : Nat) (L : Nat) (xs : Nat → Int32) (s : Nat → Int → Int32) (O : Nat → Int64) (c : Bool × Nat × Nat) (x1 : Int) (x2 : Int) (x3 : Int) (x4 : Int) (x5 : Int) : EV (d + 8) 116 32 [.ref 2, .int (q_I x1), .int (q_I x2), .int (q_I x3), .int (q_I x4), .int (q_I x5)] [.int (q_I 79), .ref 1000000] (q_h L xs s O c) = EV (d + 8) 116 35 [.ref 2, .int (q_I x1), .int (q_I x2), .int (q_I x3), .int (q_I x4), .int (q_I x5)] [.int (q_I 111)] (q_h L xs s O c) := by
  rw [show d + 8 = d + 7 + 1 from rfl, C_116_32 (d + 7) L xs s O c x1 x2 x3 x4 x5 (79 : Int), if_neg (by omega)]
  rfl
theorem CH_116_32_80 (d : Nat) (L : Nat) (xs : Nat → Int32) (s : Nat → Int → Int32) (O : Nat → Int64) (c : Bool × Nat × Nat) (x1 : Int) (x2 : Int) (x3 : Int) (x4 : Int) (x5 : Int) : EV (d + 8) 116 32 [.ref 2, .int (q_I x1), .int (q_I x2), .int (q_I x3), .int (q_I x4), .int (q_I x5)] [.int (q_I 80), .ref 1000000] (q_h L xs s O c) = EV (d + 8) 116 35 [.ref 2, .int (q_I x1), .int (q_I x2), .int (q_I x3), .int (q_I x4), .int (q_I x5)] [.int (q_I 110)] (q_h L xs s O c) := by
  rw [show d + 8 = d + 7 + 1 from rfl, C_116_32 (d + 7) L xs s O c x1 x2 x3 x4 x5 (80 : Int), if_neg (by omega)]
  rfl
theorem CH_116_32_81 (d : Nat) (L : Nat) (xs : Nat → Int32) (s : Nat → Int → Int32) (O : Nat → Int64) (c : Bool × Nat × Nat) (x1 : Int) (x2 : Int) (x3 : Int) (x4 : Int) (x5 : Int) : EV (d + 8) 116 32 [.ref 2, .int (q_I x1), .int (q_I x2), .int (q_I x3), .int (q_I x4), .int (q_I x5)] [.int (q_I 81), .ref 1000000] (q_h L xs s O c) = EV (d + 8) 116 35 [.ref 2, .int (q_I x1), .int (q_I x2), .int (q_I x3), .int (q_I x4), .int (q_I x5)] [.int (q_I 32)] (q_h L xs s O c) := by
  rw [show d + 8 = d + 7 + 1 from rfl, C_116_32 (d + 7) L xs s O c x1 x2 x3 x4 x5 (81 : Int), if_neg (by omega)]
  rfl
theorem CH_116_32_82 (d : Nat) (L : Nat) (xs : Nat → Int32) (s : Nat → Int → Int32) (O : Nat → Int64) (c : Bool × Nat × Nat) (x1 : Int) (x2 : Int) (x3 : Int) (x4 : Int) (x5 : Int) : EV (d + 8) 116 32 [.ref 2, .int (q_I x1), .int (q_I x2), .int (q_I x3), .int (q_I x4), .int (q_I x5)] [.int (q_I 82), .ref 1000000] (q_h L xs s O c) = EV (d + 8) 116 35 [.ref 2, .int (q_I x1), .int (q_I x2), .int (q_I x3), .int (q_I x4), .int (q_I x5)] [.int (q_I 114)] (q_h L xs s O c) := by
  rw [show d + 8 = d + 7 + 1 from rfl, C_116_32 (d + 7) L xs s O c x1 x2 x3 x4 x5 (82 : Int), if_neg (by omega)]
  rfl
theorem CH_116_32_83 (d : Nat) (L : Nat) (xs : Nat → Int32) (s : Nat → Int → Int32) (O : Nat → Int64) (c : Bool × Nat × Nat) (x1 : Int) (x2 : Int) (x3 : Int) (x4 : Int) (x5 : Int) : EV (d + 8) 116 32 [.ref 2, .int (q_I x1), .int (q_I x2), .int (q_I x3), .int (q_I x4), .int (q_I x5)] [.int (q_I 83), .ref 1000000] (q_h L xs s O c) = EV (d + 8) 116 35 [.ref 2, .int (q_I x1), .int (q_I x2), .int (q_I x3), .int (q_I x4), .int (q_I x5)] [.int (q_I 101)] (q_h L xs s O c) := by
  rw [show d + 8 = d + 7 + 1 from rfl, C_116_32 (d + 7) L xs s O c x1 x2 x3 x4 x5 (83 : Int), if_neg (by omega)]
  rfl
theorem CH_116_32_84 (d : Nat) (L : Nat) (xs : Nat → Int32) (s : Nat → Int → Int32) (O : Nat → Int64) (c : Bool × Nat × Nat) (x1 : Int) (x2 : Int) (x3 : Int) (x4 : Int) (x5 : Int) : EV (d + 8) 116 32 [.ref 2, .int (q_I x1), .int (q_I x2), .int (q_I x3), .int (q_I x4), .int (q_I x5)] [.int (q_I 84), .ref 1000000] (q_h L xs s O c) = EV (d + 8) 116 35 [.ref 2, .int (q_I x1), .int (q_I x2), .int (q_I x3), .int (q_I x4), .int (q_I x5)] [.int (q_I 97)] (q_h L xs s O c) := by
  rw [show d + 8 = d + 7 + 1 from rfl, C_116_32 (d + 7) L xs s O c x1 x2 x3 x4 x5 (84 : Int), if_neg (by omega)]
  rfl
theorem CH_116_32_85 (d : Nat) (L : Nat) (xs : Nat → Int32) (s : Nat → Int → Int32) (O : Nat → Int64) (c : Bool × Nat × Nat) (x1 : Int) (x2 : Int) (x3 : Int) (x4 : Int) (x5 : Int) : EV (d + 8) 116 32 [.ref 2, .int (q_I x1), .int (q_I x2), .int (q_I x3), .int (q_I x4), .int (q_I x5)] [.int (q_I 85), .ref 1000000] (q_h L xs s O c) = EV (d + 8) 116 35 [.ref 2, .int (q_I x1), .int (q_I x2), .int (q_I x3), .int (q_I x4), .int (q_I x5)] [.int (q_I 100)] (q_h L xs s O c) := by
  rw [show d + 8 = d + 7 + 1 from rfl, C_116_32 (d + 7) L xs s O c x1 x2 x3 x4 x5 (85 : Int), if_neg (by omega)]
  rfl
theorem CH_116_32_86 (d : Nat) (L : Nat) (xs : Nat → Int32) (s : Nat → Int → Int32) (O : Nat → Int64) (c : Bool × Nat × Nat) (x1 : Int) (x2 : Int) (x3 : Int) (x4 : Int) (x5 : Int) : EV (d + 8) 116 32 [.ref 2, .int (q_I x1), .int (q_I x2), .int (q_I x3), .int (q_I x4), .int (q_I x5)] [.int (q_I 86), .ref 1000000] (q_h L xs s O c) = EV (d + 8) 116 35 [.ref 2, .int (q_I x1), .int (q_I x2), .int (q_I x3), .int (q_I x4), .int (q_I x5)] [.int (q_I 101)] (q_h L xs s O c) := by
  rw [show d + 8 = d + 7 + 1 from rfl, C_116_32 (d + 7) L xs s O c x1 x2 x3 x4 x5 (86 : Int), if_neg (by omega)]
  rfl
theorem CH_116_32_87 (d : Nat) (L : Nat) (xs : Nat → Int32) (s : Nat → Int → Int32) (O : Nat → Int64) (c : Bool × Nat × Nat) (x1 : Int) (x2 : Int) (x3 : Int) (x4 : Int) (x5 : Int) : EV (d + 8) 116 32 [.ref 2, .int (q_I x1), .int (q_I x2), .int (q_I x3), .int (q_I x4), .int (q_I x5)] [.int (q_I 87), .ref 1000000] (q_h L xs s O c) = EV (d + 8) 116 35 [.ref 2, .int (q_I x1), .int (q_I x2), .int (q_I x3), .int (q_I x4), .int (q_I x5)] [.int (q_I 114)] (q_h L xs s O c) := by
  rw [show d + 8 = d + 7 + 1 from rfl, C_116_32 (d + 7) L xs s O c x1 x2 x3 x4 x5 (87 : Int), if_neg (by omega)]
  rfl
theorem CH_116_32_88 (d : Nat) (L : Nat) (xs : Nat → Int32) (s : Nat → Int → Int32) (O : Nat → Int64) (c : Bool × Nat × Nat) (x1 : Int) (x2 : Int) (x3 : Int) (x4 : Int) (x5 : Int) : EV (d + 8) 116 32 [.ref 2, .int (q_I x1), .int (q_I x2), .int (q_I x3), .int (q_I x4), .int (q_I x5)] [.int (q_I 88), .ref 1000000] (q_h L xs s O c) = EV (d + 8) 116 35 [.ref 2, .int (q_I x1), .int (q_I x2), .int (q_I x3), .int (q_I x4), .int (q_I x5)] [.int (q_I 115)] (q_h L xs s O c) := by
  rw [show d + 8 = d + 7 + 1 from rfl, C_116_32 (d + 7) L xs s O c x1 x2 x3 x4 x5 (88 : Int), if_neg (by omega)]
  rfl
theorem CH_116_32_89 (d : Nat) (L : Nat) (xs : Nat → Int32) (s : Nat → Int → Int32) (O : Nat → Int64) (c : Bool × Nat × Nat) (x1 : Int) (x2 : Int) (x3 : Int) (x4 : Int) (x5 : Int) : EV (d + 8) 116 32 [.ref 2, .int (q_I x1), .int (q_I x2), .int (q_I x3), .int (q_I x4), .int (q_I x5)] [.int (q_I 89), .ref 1000000] (q_h L xs s O c) = EV (d + 8) 116 35 [.ref 2, .int (q_I x1), .int (q_I x2), .int (q_I x3), .int (q_I x4), .int (q_I x5)] [.int (q_I 32)] (q_h L xs s O c) := by
  rw [show d + 8 = d + 7 + 1 from rfl, C_116_32 (d + 7) L xs s O c x1 x2 x3 x4 x5 (89 : Int), if_neg (by omega)]
  rfl
theorem CH_116_32_90 (d : Nat) (L : Nat) (xs : Nat → Int32) (s : Nat → Int → Int32) (O : Nat → Int64) (c : Bool × Nat × Nat) (x1 : Int) (x2 : Int) (x3 : Int) (x4 : Int) (x5 : Int) : EV (d + 8) 116 32 [.ref 2, .int (q_I x1), .int (q_I x2), .int (q_I x3), .int (q_I x4), .int (q_I x5)] [.int (q_I 90), .ref 1000000] (q_h L xs s O c) = EV (d + 8) 116 35 [.ref 2, .int (q_I x1), .int (q_I x2), .int (q_I x3), .int (q_I x4), .int (q_I x5)] [.int (q_I 116)] (q_h L xs s O c) := by
  rw [show d + 8 = d + 7 + 1 from rfl, C_116_32 (d + 7) L xs s O c x1 x2 x3 x4 x5 (90 : Int), if_neg (by omega)]
  rfl
theorem CH_116_32_91 (d : Nat) (L : Nat) (xs : Nat → Int32) (s : Nat → Int → Int32) (O : Nat → Int64) (c : Bool × Nat × Nat) (x1 : Int) (x2 : Int) (x3 : Int) (x4 : Int) (x5 : Int) : EV (d + 8) 116 32 [.ref 2, .int (q_I x1), .int (q_I x2), .int (q_I x3), .int (q_I x4), .int (q_I x5)] [.int (q_I 91), .ref 1000000] (q_h L xs s O c) = EV (d + 8) 116 35 [.ref 2, .int (q_I x1), .int (q_I x2), .int (q_I x3), .int (q_I x4), .int (q_I x5)] [.int (q_I 105)] (q_h L xs s O c) := by
  rw [show d + 8 = d + 7 + 1 from rfl, C_116_32 (d + 7) L xs s O c x1 x2 x3 x4 x5 (91 : Int), if_neg (by omega)]
  rfl
theorem CH_116_32_92 (d : Nat) (L : Nat) (xs : Nat → Int32) (s : Nat → Int → Int32) (O : Nat → Int64) (c : Bool × Nat × Nat) (x1 : Int) (x2 : Int) (x3 : Int) (x4 : Int) (x5 : Int) : EV (d + 8) 116 32 [.ref 2, .int (q_I x1), .int (q_I x2), .int (q_I x3), .int (q_I x4), .int (q_I x5)] [.int (q_I 92), .ref 1000000] (q_h L xs s O c) = EV (d + 8) 116 35 [.ref 2, .int (q_I x1), .int (q_I x2), .int (q_I x3), .int (q_I x4), .int (q_I x5)] [.int (q_I 99)] (q_h L xs s O c) := by
  rw [show d + 8 = d + 7 + 1 from rfl, C_116_32 (d + 7) L xs s O c x1 x2 x3 x4 x5 (92 : Int), if_neg (by omega)]
  rfl
theorem CH_116_32_93 (d : Nat) (L : Nat) (xs : Nat → Int32) (s : Nat → Int → Int32) (O : Nat → Int64) (c : Bool × Nat × Nat) (x1 : Int) (x2 : Int) (x3 : Int) (x4 : Int) (x5 : Int) : EV (d + 8) 116 32 [.ref 2, .int (q_I x1), .int (q_I x2), .int (q_I x3), .int (q_I x4), .int (q_I x5)] [.int (q_I 93), .ref 1000000] (q_h L xs s O c) = EV (d + 8) 116 35 [.ref 2, .int (q_I x1), .int (q_I x2), .int (q_I x3), .int (q_I x4), .int (q_I x5)] [.int (q_I 107)] (q_h L xs s O c) := by
  rw [show d + 8 = d + 7 + 1 from rfl, C_116_32 (d + 7) L xs s O c x1 x2 x3 x4 x5 (93 : Int), if_neg (by omega)]
  rfl
theorem CH_117_24_0 (d : Nat) (L : Nat) (xs : Nat → Int32) (s : Nat → Int → Int32) (O : Nat → Int64) (c : Bool × Nat × Nat) (x1 : Int) (x2 : Int) (x3 : Int) (x4 : Int) (y2 : Int) : EV (d + 8) 117 24 [.ref 2, .int (q_I x1), .int (q_I x2), .int (q_I x3), .int (q_I x4)] [.int (q_I 0), .ref 1000000, .int (q_I y2)] (q_h L xs s O c) = EV (d + 8) 117 27 [.ref 2, .int (q_I x1), .int (q_I x2), .int (q_I x3), .int (q_I x4)] [.int (q_I 112), .int (q_I y2)] (q_h L xs s O c) := by
  rw [show d + 8 = d + 7 + 1 from rfl, C_117_24 (d + 7) L xs s O c x1 x2 x3 x4 (0 : Int) y2, if_neg (by omega)]
  rfl
theorem CH_117_24_1 (d : Nat) (L : Nat) (xs : Nat → Int32) (s : Nat → Int → Int32) (O : Nat → Int64) (c : Bool × Nat × Nat) (x1 : Int) (x2 : Int) (x3 : Int) (x4 : Int) (y2 : Int) : EV (d + 8) 117 24 [.ref 2, .int (q_I x1), .int (q_I x2), .int (q_I x3), .int (q_I x4)] [.int (q_I 1), .ref 1000000, .int (q_I y2)] (q_h L xs s O c) = EV (d + 8) 117 27 [.ref 2, .int (q_I x1), .int (q_I x2), .int (q_I x3), .int (q_I x4)] [.int (q_I 117), .int (q_I y2)] (q_h L xs s O c) := by
  rw [show d + 8 = d + 7 + 1 from rfl, C_117_24 (d + 7) L xs s O c x1 x2 x3 x4 (1 : Int) y2, if_neg (by omega)]
  rfl
theorem CH_117_24_2 (d : Nat) (L : Nat) (xs : Nat → Int32) (s : Nat → Int → Int32) (O : Nat → Int64) (c : Bool × Nat × Nat) (x1 : Int) (x2 : Int) (x3 : Int) (x4 : Int) (y2 : Int) : EV (d + 8) 117 24 [.ref 2, .int (q_I x1), .int (q_I x2), .int (q_I x3), .int (q_I x4)] [.int (q_I 2), .ref 1000000, .int (q_I y2)] (q_h L xs s O c) = EV (d + 8) 117 27 [.ref 2, .int (q_I x1), .int (q_I x2), .int (q_I x3), .int (q_I x4)] [.int (q_I 116), .int (q_I y2)] (q_h L xs s O c) := by
  rw [show d + 8 = d + 7 + 1 from rfl, C_117_24 (d + 7) L xs s O c x1 x2 x3 x4 (2 : Int) y2, if_neg (by omega)]
  rfl
theorem CH_117_24_3 (d : Nat) (L : Nat) (xs : Nat → Int32) (s : Nat → Int → Int32) (O : Nat → Int64) (c : Bool × Nat × Nat) (x1 : Int) (x2 : Int) (x3 : Int) (x4 : Int) (y2 : Int) : EV (d + 8) 117 24 [.ref 2, .int (q_I x1), .int (q_I x2), .int (q_I x3), .int (q_I x4)] [.int (q_I 3), .ref 1000000, .int (q_I y2)] (q_h L xs s O c) = EV (d + 8) 117 27 [.ref 2, .int (q_I x1), .int (q_I x2), .int (q_I x3), .int (q_I x4)] [.int (q_I 32), .int (q_I y2)] (q_h L xs s O c) := by
  rw [show d + 8 = d + 7 + 1 from rfl, C_117_24 (d + 7) L xs s O c x1 x2 x3 x4 (3 : Int) y2, if_neg (by omega)]
  rfl
theorem CH_117_24_4 (d : Nat) (L : Nat) (xs : Nat → Int32) (s : Nat → Int → Int32) (O : Nat → Int64) (c : Bool × Nat × Nat) (x1 : Int) (x2 : Int) (x3 : Int) (x4 : Int) (y2 : Int) : EV (d + 8) 117 24 [.ref 2, .int (q_I x1), .int (q_I x2), .int (q_I x3), .int (q_I x4)] [.int (q_I 4), .ref 1000000, .int (q_I y2)] (q_h L xs s O c) = EV (d + 8) 117 27 [.ref 2, .int (q_I x1), .int (q_I x2), .int (q_I x3), .int (q_I x4)] [.int (q_I 100), .int (q_I y2)] (q_h L xs s O c) := by
  rw [show d + 8 = d + 7 + 1 from rfl, C_117_24 (d + 7) L xs s O c x1 x2 x3 x4 (4 : Int) y2, if_neg (by omega)]
  rfl
theorem CH_117_24_5 (d : Nat) (L : Nat) (xs : Nat → Int32) (s : Nat → Int → Int32) (O : Nat → Int64) (c : Bool × Nat × Nat) (x1 : Int) (x2 : Int) (x3 : Int) (x4 : Int) (y2 : Int) : EV (d + 8) 117 24 [.ref 2, .int (q_I x1), .int (q_I x2), .int (q_I x3), .int (q_I x4)] [.int (q_I 5), .ref 1000000, .int (q_I y2)] (q_h L xs s O c) = EV (d + 8) 117 27 [.ref 2, .int (q_I x1), .int (q_I x2), .int (q_I x3), .int (q_I x4)] [.int (q_I 114), .int (q_I y2)] (q_h L xs s O c) := by
  rw [show d + 8 = d + 7 + 1 from rfl, C_117_24 (d + 7) L xs s O c x1 x2 x3 x4 (5 : Int) y2, if_neg (by omega)]
  rfl
theorem CH_117_24_6 (d : Nat) (L : Nat) (xs : Nat → Int32) (s : Nat → Int → Int32) (O : Nat → Int64) (c : Bool × Nat × Nat) (x1 : Int) (x2 : Int) (x3 : Int) (x4 : Int) (y2 : Int) : EV (d + 8) 117 24 [.ref 2, .int (q_I x1), .int (q_I x2), .int (q_I x3), .int (q_I x4)] [.int (q_I 6), .ref 1000000, .int (q_I y2)] (q_h L xs s O c) = EV (d + 8) 117 27 [.ref 2, .int (q_I x1), .int (q_I x2), .int (q_I x3), .int (q_I x4)] [.int (q_I 111), .int (q_I y2)] (q_h L xs s O c) := by
  rw [show d + 8 = d + 7 + 1 from rfl, C_117_24 (d + 7) L xs s O c x1 x2 x3 x4 (6 : Int) y2, if_neg (by omega)]
  rfl
theorem CH_117_24_7 (d : Nat) (L : Nat) (xs : Nat → Int32) (s : Nat → Int → Int32) (O : Nat → Int64) (c : Bool × Nat × Nat) (x1 : Int) (x2 : Int) (x3 : Int) (x4 : Int) (y2 : Int) : EV (d + 8) 117 24 [.ref 2, .int (q_I x1), .int (q_I x2), .int (q_I x3), .int (q_I x4)] [.int (q_I 7), .ref 1000000, .int (q_I y2)] (q_h L xs s O c) = EV (d + 8) 117 27 [.ref 2, .int (q_I x1), .int (q_I x2), .int (q_I x3), .int (q_I x4)] [.int (q_I 112), .int (q_I y2)] (q_h L xs s O c) := by
  rw [show d + 8 = d + 7 + 1 from rfl, C_117_24 (d + 7) L xs s O c x1 x2 x3 x4 (7 : Int) y2, if_neg (by omega)]
  rfl
theorem CH_117_24_8 (d : Nat) (L : Nat) (xs : Nat → Int32) (s : Nat → Int → Int32) (O : Nat → Int64) (c : Bool × Nat × Nat) (x1 : Int) (x2 : Int) (x3 : Int) (x4 : Int) (y2 : Int) : EV (d + 8) 117 24 [.ref 2, .int (q_I x1), .int (q_I x2), .int (q_I x3), .int (q_I x4)] [.int (q_I 8), .ref 1000000, .int (q_I y2)] (q_h L xs s O c) = EV (d + 8) 117 27 [.ref 2, .int (q_I x1), .int (q_I x2), .int (q_I x3), .int (q_I x4)] [.int (q_I 32), .int (q_I y2)] (q_h L xs s O c) := by
  rw [show d + 8 = d + 7 + 1 from rfl, C_117_24 (d + 7) L xs s O c x1 x2 x3 x4 (8 : Int) y2, if_neg (by omega)]
  rfl
theorem CH_117_24_9 (d : Nat) (L : Nat) (xs : Nat → Int32) (s : Nat → Int → Int32) (O : Nat → Int64) (c : Bool × Nat × Nat) (x1 : Int) (x2 : Int) (x3 : Int) (x4 : Int) (y2 : Int) : EV (d + 8) 117 24 [.ref 2, .int (q_I x1), .int (q_I x2), .int (q_I x3), .int (q_I x4)] [.int (q_I 9), .ref 1000000, .int (q_I y2)] (q_h L xs s O c) = EV (d + 8) 117 27 [.ref 2, .int (q_I x1), .int (q_I x2), .int (q_I x3), .int (q_I x4)] [.int (q_I 114), .int (q_I y2)] (q_h L xs s O c) := by
  rw [show d + 8 = d + 7 + 1 from rfl, C_117_24 (d + 7) L xs s O c x1 x2 x3 x4 (9 : Int) y2, if_neg (by omega)]
  rfl
theorem CH_117_24_10 (d : Nat) (L : Nat) (xs : Nat → Int32) (s : Nat → Int → Int32) (O : Nat → Int64) (c : Bool × Nat × Nat) (x1 : Int) (x2 : Int) (x3 : Int) (x4 : Int) (y2 : Int) : EV (d + 8) 117 24 [.ref 2, .int (q_I x1), .int (q_I x2), .int (q_I x3), .int (q_I x4)] [.int (q_I 10), .ref 1000000, .int (q_I y2)] (q_h L xs s O c) = EV (d + 8) 117 27 [.ref 2, .int (q_I x1), .int (q_I x2), .int (q_I x3), .int (q_I x4)] [.int (q_I 105), .int (q_I y2)] (q_h L xs s O c) := by
  rw [show d + 8 = d + 7 + 1 from rfl, C_117_24 (d + 7) L xs s O c x1 x2 x3 x4 (10 : Int) y2, if_neg (by omega)]
  rfl
theorem CH_117_24_11 (d : Nat) (L : Nat) (xs : Nat → Int32) (s : Nat → Int → Int32) (O : Nat → Int64) (c : Bool × Nat × Nat) (x1 : Int) (x2 : Int) (x3 : Int) (x4 : Int) (y2 : Int) : EV (d + 8) 117 24 [.ref 2, .int (q_I x1), .int (q_I x2), .int (q_I x3), .int (q_I x4)] [.int (q_I 11), .ref 1000000, .int (q_I y2)] (q_h L xs s O c) = EV (d + 8) 117 27 [.ref 2, .int (q_I x1), .int (q_I x2), .int (q_I x3), .int (q_I x4)] [.int (q_I 115), .int (q_I y2)] (q_h L xs s O c) := by
  rw [show d + 8 = d + 7 + 1 from rfl, C_117_24 (d + 7) L xs s O c x1 x2 x3 x4 (11 : Int) y2, if_neg (by omega)]
  rfl
theorem CH_117_24_12 (d : Nat) (L : Nat) (xs : Nat → Int32) (s : Nat → Int → Int32) (O : Nat → Int64) (c : Bool × Nat × Nat) (x1 : Int) (x2 : Int) (x3 : Int) (x4 : Int) (y2 : Int) : EV (d + 8) 117 24 [.ref 2, .int (q_I x1), .int (q_I x2), .int (q_I x3), .int (q_I x4)] [.int (q_I 12), .ref 1000000, .int (q_I y2)] (q_h L xs s O c) = EV (d + 8) 117 27 [.ref 2, .int (q_I x1), .int (q_I x2), .int (q_I x3), .int (q_I x4)] [.int (q_I 107), .int (q_I y2)] (q_h L xs s O c) := by
  rw [show d + 8 = d + 7 + 1 from rfl, C_117_24 (d + 7) L xs s O c x1 x2 x3 x4 (12 : Int) y2, if_neg (by omega)]
  rfl
theorem CH_117_24_13 (d : Nat) (L : Nat) (xs : Nat → Int32) (s : Nat → Int → Int32) (O : Nat → Int64) (c : Bool × Nat × Nat) (x1 : Int) (x2 : Int) (x3 : Int) (x4 : Int) (y2 : Int) : EV (d + 8) 117 24 [.ref 2, .int (q_I x1), .int (q_I x2), .int (q_I x3), .int (q_I x4)] [.int (q_I 13), .ref 1000000, .int (q_I y2)] (q_h L xs s O c) = EV (d + 8) 117 27 [.ref 2, .int (q_I x1), .int (q_I x2), .int (q_I x3), .int (q_I x4)] [.int (q_I 32), .int (q_I y2)] (q_h L xs s O c) := by
  rw [show d + 8 = d + 7 + 1 from rfl, C_117_24 (d + 7) L xs s O c x1 x2 x3 x4 (13 : Int) y2, if_neg (by omega)]
  rfl
theorem CH_117_24_14 (d : Nat) (L : Nat) (xs : Nat → Int32) (s : Nat → Int → Int32) (O : Nat → Int64) (c : Bool × Nat × Nat) (x1 : Int) (x2 : Int) (x3 : Int) (x4 : Int) (y2 : Int) : EV (d + 8) 117 24 [.ref 2, .int (q_I x1), .int (q_I x2), .int (q_I x3), .int (q_I x4)] [.int (q_I 14), .ref 1000000, .int (q_I y2)] (q_h L xs s O c) = EV (d + 8) 117 27 [.ref 2, .int (q_I x1), .int (q_I x2), .int (q_I x3), .int (q_I x4)] [.int (q_I 115), .int (q_I y2)] (q_h L xs s O c) := by
  rw [show d + 8 = d + 7 + 1 from rfl, C_117_24 (d + 7) L xs s O c x1 x2 x3 x4 (14 : Int) y2, if_neg (by omega)]
  rfl
theorem CH_117_24_15 (d : Nat) (L : Nat) (xs : Nat → Int32) (s : Nat → Int → Int32) (O : Nat → Int64) (c : Bool × Nat × Nat) (x1 : Int) (x2 : Int) (x3 : Int) (x4 : Int) (y2 : Int) : EV (d + 8) 117 24 [.ref 2, .int (q_I x1), .int (q_I x2), .int (q_I x3), .int (q_I x4)] [.int (q_I 15), .ref 1000000, .int (q_I y2)] (q_h L xs s O c) = EV (d + 8) 117 27 [.ref 2, .int (q_I x1), .int (q_I x2), .int (q_I x3), .int (q_I x4)] [.int (q_I 112), .int (q_I y2)] (q_h L xs s O c) := by
  rw [show d + 8 = d + 7 + 1 from rfl, C_117_24 (d + 7) L xs s O c x1 x2 x3 x4 (15 : Int) y2, if_neg (by omega)]
  rfl
theorem CH_117_24_16 (d : Nat) (L : Nat) (xs : Nat → Int32) (s : Nat → Int → Int32) (O : Nat → Int64) (c : Bool × Nat × Nat) (x1 : Int) (x2 : Int) (x3 : Int) (x4 : Int) (y2 : Int) : EV (d + 8) 117 24 [.ref 2, .int (q_I x1), .int (q_I x2), .int (q_I x3), .int (q_I x4)] [.int (q_I 16), .ref 1000000, .int (q_I y2)] (q_h L xs s O c) = EV (d + 8) 117 27 [.ref 2, .int (q_I x1), .int (q_I x2), .int (q_I x3), .int (q_I x4)] [.int (q_I 97), .int (q_I y2)] (q_h L xs s O c) := by
  rw [show d + 8 = d + 7 + 1 from rfl, C_117_24 (d + 7) L xs s O c x1 x2 x3 x4 (16 : Int) y2, if_neg (by omega)]
  rfl
theorem CH_117_24_17 (d : Nat) (L : Nat) (xs : Nat → Int32) (s : Nat → Int → Int32) (O : Nat → Int64) (c : Bool × Nat × Nat) (x1 : Int) (x2 : Int) (x3 : Int) (x4 : Int) (y2 : Int) : EV (d + 8) 117 24 [.ref 2, .int (q_I x1), .int (q_I x2), .int (q_I x3), .int (q_I x4)] [.int (q_I 17), .ref 1000000, .int (q_I y2)] (q_h L xs s O c) = EV (d + 8) 117 27 [.ref 2, .int (q_I x1), .int (q_I x2), .int (q_I x3), .int (q_I x4)] [.int (q_I 114), .int (q_I y2)] (q_h L xs s O c) := by
  rw [show d + 8 = d + 7 + 1 from rfl, C_117_24 (d + 7) L xs s O c x1 x2 x3 x4 (17 : Int) y2, if_neg (by omega)]
  rfl
theorem CH_117_24_18 (d : Nat) (L : Nat) (xs : Nat → Int32) (s : Nat → Int → Int32) (O : Nat → Int64) (c : Bool × Nat × Nat) (x1 : Int) (x2 : Int) (x3 : Int) (x4 : Int) (y2 : Int) : EV (d + 8) 117 24 [.ref 2, .int (q_I x1), .int (q_I x2), .int (q_I x3), .int (q_I x4)] [.int (q_I 18), .ref 1000000, .int (q_I y2)] (q_h L xs s O c) = EV (d + 8) 117 27 [.ref 2, .int (q_I x1), .int (q_I x2), .int (q_I x3), .int (q_I x4)] [.int (q_I 101), .int (q_I y2)] (q_h L xs s O c) := by
  rw [show d + 8 = d + 7 + 1 from rfl, C_117_24 (d + 7) L xs s O c x1 x2 x3 x4 (18 : Int) y2, if_neg (by omega)]
  rfl
theorem CH_117_24_19 (d : Nat) (L : Nat) (xs : Nat → Int32) (s : Nat → Int → Int32) (O : Nat → Int64) (c : Bool × Nat × Nat) (x1 : Int) (x2 : Int) (x3 : Int) (x4 : Int) (y2 : Int) : EV (d + 8) 117 24 [.ref 2, .int (q_I x1), .int (q_I x2), .int (q_I x3), .int (q_I x4)] [.int (q_I 19), .ref 1000000, .int (q_I y2)] (q_h L xs s O c) = EV (d + 8) 117 27 [.ref 2, .int (q_I x1), .int (q_I x2), .int (q_I x3), .int (q_I x4)] [.int (q_I 32), .int (q_I y2)] (q_h L xs s O c) := by
  rw [show d + 8 = d + 7 + 1 from rfl, C_117_24 (d + 7) L xs s O c x1 x2 x3 x4 (19 : Int) y2, if_neg (by omega)]
  rfl
theorem CH_117_24_20 (d : Nat) (L : Nat) (xs : Nat → Int32) (s : Nat → Int → Int32) (O : Nat → Int64) (c : Bool × Nat × Nat) (x1 : Int) (x2 : Int) (x3 : Int) (x4 : Int) (y2 : Int) : EV (d + 8) 117 24 [.ref 2, .int (q_I x1), .int (q_I x2), .int (q_I x3), .int (q_I x4)] [.int (q_I 20), .ref 1000000, .int (q_I y2)] (q_h L xs s O c) = EV (d + 8) 117 27 [.ref 2, .int (q_I x1), .int (q_I x2), .int (q_I x3), .int (q_I x4)] [.int (q_I 99), .int (q_I y2)] (q_h L xs s O c) := by
  rw [show d + 8 = d + 7 + 1 from rfl, C_117_24 (d + 7) L xs s O c x1 x2 x3 x4 (20 : Int) y2, if_neg (by omega)]
  rfl
theorem CH_117_24_21 (d : Nat) (L : Nat) (xs : Nat → Int32) (s : Nat → Int → Int32) (O : Nat → Int64) (c : Bool × Nat × Nat) (x1 : Int) (x2 : Int) (x3 : Int) (x4 : Int) (y2 : Int) : EV (d + 8) 117 24 [.ref 2, .int (q_I x1), .int (q_I x2), .int (q_I x3), .int (q_I x4)] [.int (q_I 21), .ref 1000000, .int (q_I y2)] (q_h L xs s O c) = EV (d + 8) 117 27 [.ref 2, .int (q_I x1), .int (q_I x2), .int (q_I x3), .int (q_I x4)] [.int (q_I 111), .int (q_I y2)] (q_h L xs s O c) := by
  rw [show d + 8 = d + 7 + 1 from rfl, C_117_24 (d + 7) L xs s O c x1 x2 x3 x4 (21 : Int) y2, if_neg (by omega)]
  rfl
theorem CH_117_24_22 (d : Nat) (L : Nat) (xs : Nat → Int32) (s : Nat → Int → Int32) (O : Nat → Int64) (c : Bool × Nat × Nat) (x1 : Int) (x2 : Int) (x3 : Int) (x4 : Int) (y2 : Int) : EV (d + 8) 117 24 [.ref 2, .int (q_I x1), .int (q_I x2), .int (q_I x3), .int (q_I x4)] [.int (q_I 22), .ref 1000000, .int (q_I y2)] (q_h L xs s O c) = EV (d + 8) 117 27 [.ref 2, .int (q_I x1), .int (q_I x2), .int (q_I x3), .int (q_I x4)] [.int (q_I 115), .int (q_I y2)] (q_h L xs s O c) := by
  rw [show d + 8 = d + 7 + 1 from rfl, C_117_24 (d + 7) L xs s O c x1 x2 x3 x4 (22 : Int) y2, if_neg (by omega)]
  rfl
theorem CH_117_24_23 (d : Nat) (L : Nat) (xs : Nat → Int32) (s : Nat → Int → Int32) (O : Nat → Int64) (c : Bool × Nat × Nat) (x1 : Int) (x2 : Int) (x3 : Int) (x4 : Int) (y2 : Int) : EV (d + 8) 117 24 [.ref 2, .int (q_I x1), .int (q_I x2), .int (q_I x3), .int (q_I x4)] [.int (q_I 23), .ref 1000000, .int (q_I y2)] (q_h L xs s O c) = EV (d + 8) 117 27 [.ref 2, .int (q_I x1), .int (q_I x2), .int (q_I x3), .int (q_I x4)] [.int (q_I 116), .int (q_I y2)] (q_h L xs s O c) := by
  rw [show d + 8 = d + 7 + 1 from rfl, C_117_24 (d + 7) L xs s O c x1 x2 x3 x4 (23 : Int) y2, if_neg (by omega)]
  rfl
theorem CH_117_24_24 (d : Nat) (L : Nat) (xs : Nat → Int32) (s : Nat → Int → Int32) (O : Nat → Int64) (c : Bool × Nat × Nat) (x1 : Int) (x2 : Int) (x3 : Int) (x4 : Int) (y2 : Int) : EV (d + 8) 117 24 [.ref 2, .int (q_I x1), .int (q_I x2), .int (q_I x3), .int (q_I x4)] [.int (q_I 24), .ref 1000000, .int (q_I y2)] (q_h L xs s O c) = EV (d + 8) 117 27 [.ref 2, .int (q_I x1), .int (q_I x2), .int (q_I x3), .int (q_I x4)] [.int (q_I 32), .int (q_I y2)] (q_h L xs s O c) := by
  rw [show d + 8 = d + 7 + 1 from rfl, C_117_24 (d + 7) L xs s O c x1 x2 x3 x4 (24 : Int) y2, if_neg (by omega)]
  rfl
theorem CH_117_24_25 (d : Nat) (L : Nat) (xs : Nat → Int32) (s : Nat → Int → Int32) (O : Nat → Int64) (c : Bool × Nat × Nat) (x1 : Int) (x2 : Int) (x3 : Int) (x4 : Int) (y2 : Int) : EV (d + 8) 117 24 [.ref 2, .int (q_I x1), .int (q_I x2), .int (q_I x3), .int (q_I x4)] [.int (q_I 25), .ref 1000000, .int (q_I y2)] (q_h L xs s O c) = EV (d + 8) 117 27 [.ref 2, .int (q_I x1), .int (q_I x2), .int (q_I x3), .int (q_I x4)] [.int (q_I 105), .int (q_I y2)] (q_h L xs s O c) := by
  rw [show d + 8 = d + 7 + 1 from rfl, C_117_24 (d + 7) L xs s O c x1 x2 x3 x4 (25 : Int) y2, if_neg (by omega)]
  rfl
theorem CH_117_24_26 (d : Nat) (L : Nat) (xs : Nat → Int32) (s : Nat → Int → Int32) (O : Nat → Int64) (c : Bool × Nat × Nat) (x1 : Int) (x2 : Int) (x3 : Int) (x4 : Int) (y2 : Int) : EV (d + 8) 117 24 [.ref 2, .int (q_I x1), .int (q_I x2), .int (q_I x3), .int (q_I x4)] [.int (q_I 26), .ref 1000000, .int (q_I y2)] (q_h L xs s O c) = EV (d + 8) 117 27 [.ref 2, .int (q_I x1), .int (q_I x2), .int (q_I x3), .int (q_I x4)] [.int (q_I 102), .int (q_I y2)] (q_h L xs s O c) := by
  rw [show d + 8 = d + 7 + 1 from rfl, C_117_24 (d + 7) L xs s O c x1 x2 x3 x4 (26 : Int) y2, if_neg (by omega)]
  rfl
theorem CH_117_24_27 (d : Nat) (L : Nat) (xs : Nat → Int32) (s : Nat → Int → Int32) (O : Nat → Int64) (c : Bool × Nat × Nat) (x1 : Int) (x2 : Int) (x3 : Int) (x4 : Int) (y2 : Int) : EV (d + 8) 117 24 [.ref 2, .int (q_I x1), .int (q_I x2), .int (q_I x3), .int (q_I x4)] [.int (q_I 27), .ref 1000000, .int (q_I y2)] (q_h L xs s O c) = EV (d + 8) 117 27 [.ref 2, .int (q_I x1), .int (q_I x2), .int (q_I x3), .int (q_I x4)] [.int (q_I 32), .int (q_I y2)] (q_h L xs s O c) := by
  rw [show d + 8 = d + 7 + 1 from rfl, C_117_24 (d + 7) L xs s O c x1 x2 x3 x4 (27 : Int) y2, if_neg (by omega)]
  rfl
theorem CH_117_24_28 (d : Nat) (L : Nat) (xs : Nat → Int32) (s : Nat → Int → Int32) (O : Nat → Int64) (c : Bool × Nat × Nat) (x1 : Int) (x2 : Int) (x3 : Int) (x4 : Int) (y2 : Int) : EV (d + 8) 117 24 [.ref 2, .int (q_I x1), .int (q_I x2), .int (q_I x3), .int (q_I x4)] [.int (q_I 28), .ref 1000000, .int (q_I y2)] (q_h L xs s O c) = EV (d + 8) 117 27 [.ref 2, .int (q_I x1), .int (q_I x2), .int (q_I x3), .int (q_I x4)] [.int (q_I 111), .int (q_I y2)] (q_h L xs s O c) := by
  rw [show d + 8 = d + 7 + 1 from rfl, C_117_24 (d + 7) L xs s O c x1 x2 x3 x4 (28 : Int) y2, if_neg (by omega)]
  rfl
theorem CH_117_24_29 (d : Nat) (L : Nat) (xs : Nat → Int32) (s : Nat → Int → Int32) (O : Nat → Int64) (c : Bool × Nat × Nat) (x1 : Int) (x2 : Int) (x3 : Int) (x4 : Int) (y2 : Int) : EV (d + 8) 117 24 [.ref 2, .int (q_I x1), .int (q_I x2), .int (q_I x3), .int (q_I x4)] [.int (q_I 29), .ref 1000000, .int (q_I y2)] (q_h L xs s O c) = EV (d + 8) 117 27 [.ref 2, .int (q_I x1), .int (q_I x2), .int (q_I x3), .int (q_I x4)] [.int (q_I 114), .int (q_I y2)] (q_h L xs s O c) := by
  rw [show d + 8 = d + 7 + 1 from rfl, C_117_24 (d + 7) L xs s O c x1 x2 x3 x4 (29 : Int) y2, if_neg (by omega)]
  rfl
theorem CH_117_24_30 (d : Nat) (L : Nat) (xs : Nat → Int32) (s : Nat → Int → Int32) (O : Nat → Int64) (c : Bool × Nat × Nat) (x1 : Int) (x2 : Int) (x3 : Int) (x4 : Int) (y2 : Int) : EV (d + 8) 117 24 [.ref 2, .int (q_I x1), .int (q_I x2), .int (q_I x3), .int (q_I x4)] [.int (q_I 30), .ref 1000000, .int (q_I y2)] (q_h L xs s O c) = EV (d + 8) 117 27 [.ref 2, .int (q_I x1), .int (q_I x2), .int (q_I x3), .int (q_I x4)] [.int (q_I 32), .int (q_I y2)] (q_h L xs s O c) := by
  rw [show d + 8 = d + 7 + 1 from rfl, C_117_24 (d + 7) L xs s O c x1 x2 x3 x4 (30 : Int) y2, if_neg (by omega)]
  rfl
theorem CH_117_24_31 (d : Nat) (L : Nat) (xs : Nat → Int32) (s : Nat → Int → Int32) (O : Nat → Int64) (c : Bool × Nat × Nat) (x1 : Int) (x2 : Int) (x3 : Int) (x4 : Int) (y2 : Int) : EV (d + 8) 117 24 [.ref 2, .int (q_I x1), .int (q_I x2), .int (q_I x3), .int (q_I x4)] [.int (q_I 31), .ref 1000000, .int (q_I y2)] (q_h L xs s O c) = EV (d + 8) 117 27 [.ref 2, .int (q_I x1), .int (q_I x2), .int (q_I x3), .int (q_I x4)] [.int (q_I 97), .int (q_I y2)] (q_h L xs s O c) := by
  rw [show d + 8 = d + 7 + 1 from rfl, C_117_24 (d + 7) L xs s O c x1 x2 x3 x4 (31 : Int) y2, if_neg (by omega)]
  rfl
theorem CH_117_24_32 (d : Nat) (L : Nat) (xs : Nat → Int32) (s : Nat → Int → Int32) (O : Nat → Int64) (c : Bool × Nat × Nat) (x1 : Int) (x2 : Int) (x3 : Int) (x4 : Int) (y2 : Int) : EV (d + 8) 117 24 [.ref 2, .int (q_I x1), .int (q_I x2), .int (q_I x3), .int (q_I x4)] [.int (q_I 32), .ref 1000000, .int (q_I y2)] (q_h L xs s O c) = EV (d + 8) 117 27 [.ref 2, .int (q_I x1), .int (q_I x2), .int (q_I x3), .int (q_I x4)] [.int (q_I 110), .int (q_I y2)] (q_h L xs s O c) := by
  rw [show d + 8 = d + 7 + 1 from rfl, C_117_24 (d + 7) L xs s O c x1 x2 x3 x4 (32 : Int) y2, if_neg (by omega)]
  rfl
theorem CH_117_24_33 (d : Nat) (L : Nat) (xs : Nat → Int32) (s : Nat → Int → Int32) (O : Nat → Int64) (c : Bool × Nat × Nat) (x1 : Int) (x2 : Int) (x3 : Int) (x4 : Int) (y2 : Int) : EV (d + 8) 117 24 [.ref 2, .int (q_I x1), .int (q_I x2), .int (q_I x3), .int (q_I x4)] [.int (q_I 33), .ref 1000000, .int (q_I y2)] (q_h L xs s O c) = EV (d + 8) 117 27 [.ref 2, .int (q_I x1), .int (q_I x2), .int (q_I x3), .int (q_I x4)] [.int (q_I 100), .int (q_I y2)] (q_h L xs s O c) := by
  rw [show d + 8 = d + 7 + 1 from rfl, C_117_24 (d + 7) L xs s O c x1 x2 x3 x4 (33 : Int) y2, if_neg (by omega)]
  rfl
theorem CH_117_24_34 (d : Nat) (L : Nat) (xs : Nat → Int32) (s : Nat → Int → Int32) (O : Nat → Int64) (c : Bool × Nat × Nat) (x1 : Int) (x2 : Int) (x3 : Int) (x4 : Int) (y2 : Int) : EV (d + 8) 117 24 [.ref 2, .int (q_I x1), .int (q_I x2), .int (q_I x3), .int (q_I x4)] [.int (q_I 34), .ref 1000000, .int (q_I y2)] (q_h L xs s O c) = EV (d + 8) 117 27 [.ref 2, .int (q_I x1), .int (q_I x2), .int (q_I x3), .int (q_I x4)] [.int (q_I 32), .int (q_I y2)] (q_h L xs s O c) := by
  rw [show d + 8 = d + 7 + 1 from rfl, C_117_24 (d + 7) L xs s O c x1 x2 x3 x4 (34 : Int) y2, if_neg (by omega)]
  rfl
theorem CH_117_24_35 (d : Nat) (L : Nat) (xs : Nat → Int32) (s : Nat → Int → Int32) (O : Nat → Int64) (c : Bool × Nat × Nat) (x1 : Int) (x2 : Int) (x3 : Int) (x4 : Int) (y2 : Int) : EV (d + 8) 117 24 [.ref 2, .int (q_I x1), .int (q_I x2), .int (q_I x3), .int (q_I x4)] [.int (q_I 35), .ref 1000000, .int (q_I y2)] (q_h L xs s O c) = EV (d + 8) 117 27 [.ref 2, .int (q_I x1), .int (q_I x2), .int (q_I x3), .int (q_I x4)] [.int (q_I 110), .int (q_I y2)] (q_h L xs s O c) := by
  rw [show d + 8 = d + 7 + 1 from rfl, C_117_24 (d + 7) L xs s O c x1 x2 x3 x4 (35 : Int) y2, if_neg (by omega)]
  rfl
theorem CH_117_24_36 (d : Nat) (L : Nat) (xs : Nat → Int32) (s : Nat → Int → Int32) (O : Nat → Int64) (c : Bool × Nat × Nat) (x1 : Int) (x2 : Int) (x3 : Int) (x4 : Int) (y2 : Int) : EV (d + 8) 117 24 [.ref 2, .int (q_I x1), .int (q_I x2), .int (q_I x3), .int (q_I x4)] [.int (q_I 36), .ref 1000000, .int (q_I y2)] (q_h L xs s O c) = EV (d + 8) 117 27 [.ref 2, .int (q_I x1), .int (q_I x2), .int (q_I x3), .int (q_I x4)] [.int (q_I 111), .int (q_I y2)] (q_h L xs s O c) := by
  rw [show d + 8 = d + 7 + 1 from rfl, C_117_24 (d + 7) L xs s O c x1 x2 x3 x4 (36 : Int) y2, if_neg (by omega)]
  rfl
theorem CH_117_24_37 (d : Nat) (L : Nat) (xs : Nat → Int32) (s : Nat → Int → Int32) (O : Nat → Int64) (c : Bool × Nat × Nat) (x1 : Int) (x2 : Int) (x3 : Int) (x4 : Int) (y2 : Int) : EV (d + 8) 117 24 [.ref 2, .int (q_I x1), .int (q_I x2), .int (q_I x3), .int (q_I x4)] [.int (q_I 37), .ref 1000000, .int (q_I y2)] (q_h L xs s O c) = EV (d + 8) 117 27 [.ref 2, .int (q_I x1), .int (q_I x2), .int (q_I x3), .int (q_I x4)] [.int (q_I 116), .int (q_I y2)] (q_h L xs s O c) := by
  rw [show d + 8 = d + 7 + 1 from rfl, C_117_24 (d + 7) L xs s O c x1 x2 x3 x4 (37 : Int) y2, if_neg (by omega)]
  rfl
theorem CH_117_24_38 (d : Nat) (L : Nat) (xs : Nat → Int32) (s : Nat → Int → Int32) (O : Nat → Int64) (c : Bool × Nat × Nat) (x1 : Int) (x2 : Int) (x3 : Int) (x4 : Int) (y2 : Int) : EV (d + 8) 117 24 [.ref 2, .int (q_I x1), .int (q_I x2), .int (q_I x3), .int (q_I x4)] [.int (q_I 38), .ref 1000000, .int (q_I y2)] (q_h L xs s O c) = EV (d + 8) 117 27 [.ref 2, .int (q_I x1), .int (q_I x2), .int (q_I x3), .int (q_I x4)] [.int (q_I 32), .int (q_I y2)] (q_h L xs s O c) := by
  rw [show d + 8 = d + 7 + 1 from rfl, C_117_24 (d + 7) L xs s O c x1 x2 x3 x4 (38 : Int) y2, if_neg (by omega)]
  rfl
theorem CH_117_24_39 (d : Nat) (L : Nat) (xs : Nat → Int32) (s : Nat → Int → Int32) (O : Nat → Int64) (c : Bool × Nat × Nat) (x1 : Int) (x2 : Int) (x3 : Int) (x4 : Int) (y2 : Int) : EV (d + 8) 117 24 [.ref 2, .int (q_I x1), .int (q_I x2), .int (q_I x3), .int (q_I x4)] [.int (q_I 39), .ref 1000000, .int (q_I y2)] (q_h L xs s O c) = EV (d + 8) 117 27 [.ref 2, .int (q_I x1), .int (q_I x2), .int (q_I x3), .int (q_I x4)] [.int (q_I 104), .int (q_I y2)] (q_h L xs s O c) := by
  rw [show d + 8 = d + 7 + 1 from rfl, C_117_24 (d + 7) L xs s O c x1 x2 x3 x4 (39 : Int) y2, if_neg (by omega)]
  rfl
theorem CH_117_24_40 (d : Nat) (L : Nat) (xs : Nat → Int32) (s : Nat → Int → Int32) (O : Nat → Int64) (c : Bool × Nat × Nat) (x1 : Int) (x2 : Int) (x3 : Int) (x4 : Int) (y2 : Int) : EV (d + 8) 117 24 [.ref 2, .int (q_I x1), .int (q_I x2), .int (q_I x3), .int (q_I x4)] [.int (q_I 40), .ref 1000000, .int (q_I y2)] (q_h L xs s O c) = EV (d + 8) 117 27 [.ref 2, .int (q_I x1), .int (q_I x2), .int (q_I x3), .int (q_I x4)] [.int (q_I 101), .int (q_I y2)] (q_h L xs s O c) := by
  rw [show d + 8 = d + 7 + 1 from rfl, C_117_24 (d + 7) L xs s O c x1 x2 x3 x4 (40 : Int) y2, if_neg (by omega)]
  rfl
theorem CH_117_24_41 (d : Nat) (L : Nat) (xs : Nat → Int32) (s : Nat → Int → Int32) (O : Nat → Int64) (c : Bool × Nat × Nat) (x1 : Int) (x2 : Int) (x3 : Int) (x4 : Int) (y2 : Int) : EV (d + 8) 117 24 [.ref 2, .int (q_I x1), .int (q_I x2), .int (q_I x3), .int (q_I x4)] [.int (q_I 41), .ref 1000000, .int (q_I y2)] (q_h L xs s O c) = EV (d + 8) 117 27 [.ref 2, .int (q_I x1), .int (q_I x2), .int (q_I x3), .int (q_I x4)] [.int (q_I 97), .int (q_I y2)] (q_h L xs s O c) := by
  rw [show d + 8 = d + 7 + 1 from rfl, C_117_24 (d + 7) L xs s O c x1 x2 x3 x4 (41 : Int) y2, if_neg (by omega)]
  rfl
theorem CH_117_24_42 (d : Nat) (L : Nat) (xs : Nat → Int32) (s : Nat → Int → Int32) (O : Nat → Int64) (c : Bool × Nat × Nat) (x1 : Int) (x2 : Int) (x3 : Int) (x4 : Int) (y2 : Int) : EV (d + 8) 117 24 [.ref 2, .int (q_I x1), .int (q_I x2), .int (q_I x3), .int (q_I x4)] [.int (q_I 42), .ref 1000000, .int (q_I y2)] (q_h L xs s O c) = EV (d + 8) 117 27 [.ref 2, .int (q_I x1), .int (q_I x2), .int (q_I x3), .int (q_I x4)] [.int (q_I 100), .int (q_I y2)] (q_h L xs s O c) := by
  rw [show d + 8 = d + 7 + 1 from rfl, C_117_24 (d + 7) L xs s O c x1 x2 x3 x4 (42 : Int) y2, if_neg (by omega)]
  rfl
theorem CH_117_24_43 (d : Nat) (L : Nat) (xs : Nat → Int32) (s : Nat → Int → Int32) (O : Nat → Int64) (c : Bool × Nat × Nat) (x1 : Int) (x2 : Int) (x3 : Int) (x4 : Int) (y2 : Int) : EV (d + 8) 117 24 [.ref 2, .int (q_I x1), .int (q_I x2), .int (q_I x3), .int (q_I x4)] [.int (q_I 43), .ref 1000000, .int (q_I y2)] (q_h L xs s O c) = EV (d + 8) 117 27 [.ref 2, .int (q_I x1), .int (q_I x2), .int (q_I x3), .int (q_I x4)] [.int (q_I 32), .int (q_I y2)] (q_h L xs s O c) := by
  rw [show d + 8 = d + 7 + 1 from rfl, C_117_24 (d + 7) L xs s O c x1 x2 x3 x4 (43 : Int) y2, if_neg (by omega)]
  rfl
theorem CH_117_24_44 (d : Nat) (L : Nat) (xs : Nat → Int32) (s : Nat → Int → Int32) (O : Nat → Int64) (c : Bool × Nat × Nat) (x1 : Int) (x2 : Int) (x3 : Int) (x4 : Int) (y2 : Int) : EV (d + 8) 117 24 [.ref 2, .int (q_I x1), .int (q_I x2), .int (q_I x3), .int (q_I x4)] [.int (q_I 44), .ref 1000000, .int (q_I y2)] (q_h L xs s O c) = EV (d + 8) 117 27 [.ref 2, .int (q_I x1), .int (q_I x2), .int (q_I x3), .int (q_I x4)] [.int (q_I 115), .int (q_I y2)] (q_h L xs s O c) := by
  rw [show d + 8 = d + 7 + 1 from rfl, C_117_24 (d + 7) L xs s O c x1 x2 x3 x4 (44 : Int) y2, if_neg (by omega)]
  rfl
theorem CH_117_24_45 (d : Nat) (L : Nat) (xs : Nat → Int32) (s : Nat → Int → Int32) (O : Nat → Int64) (c : Bool × Nat × Nat) (x1 : Int) (x2 : Int) (x3 : Int) (x4 : Int) (y2 : Int) : EV (d + 8) 117 24 [.ref 2, .int (q_I x1), .int (q_I x2), .int (q_I x3), .int (q_I x4)] [.int (q_I 45), .ref 1000000, .int (q_I y2)] (q_h L xs s O c) = EV (d + 8) 117 27 [.ref 2, .int (q_I x1), .int (q_I x2), .int (q_I x3), .int (q_I x4)] [.int (q_I 108), .int (q_I y2)] (q_h L xs s O c) := by
  rw [show d + 8 = d + 7 + 1 from rfl, C_117_24 (d + 7) L xs s O c x1 x2 x3 x4 (45 : Int) y2, if_neg (by omega)]
  rfl
theorem CH_117_24_46 (d : Nat) (L : Nat) (xs : Nat → Int32) (s : Nat → Int → Int32) (O : Nat → Int64) (c : Bool × Nat × Nat) (x1 : Int) (x2 : Int) (x3 : Int) (x4 : Int) (y2 : Int) : EV (d + 8) 117 24 [.ref 2, .int (q_I x1), .int (q_I x2), .int (q_I x3), .int (q_I x4)] [.int (q_I 46), .ref 1000000, .int (q_I y2)] (q_h L xs s O c) = EV (d + 8) 117 27 [.ref 2, .int (q_I x1), .int (q_I x2), .int (q_I x3), .int (q_I x4)] [.int (q_I 105), .int (q_I y2)] (q_h L xs s O c) := by
  rw [show d + 8 = d + 7 + 1 from rfl, C_117_24 (d + 7) L xs s O c x1 x2 x3 x4 (46 : Int) y2, if_neg (by omega)]
  rfl
theorem CH_117_24_47 (d : Nat) (L : Nat) (xs : Nat → Int32) (s : Nat → Int → Int32) (O : Nat → Int64) (c : Bool × Nat × Nat) (x1 : Int) (x2 : Int) (x3 : Int) (x4 : Int) (y2 : Int) : EV (d + 8) 117 24 [.ref 2, .int (q_I x1), .int (q_I x2), .int (q_I x3), .int (q_I x4)] [.int (q_I 47), .ref 1000000, .int (q_I y2)] (q_h L xs s O c) = EV (d + 8) 117 27 [.ref 2, .int (q_I x1), .int (q_I x2), .int (q_I x3), .int (q_I x4)] [.int (q_I 112), .int (q_I y2)] (q_h L xs s O c) := by
  rw [show d + 8 = d + 7 + 1 from rfl, C_117_24 (d + 7) L xs s O c x1 x2 x3 x4 (47 : Int) y2, if_neg (by omega)]
  rfl
theorem CH_117_24_48 (d : Nat) (L : Nat) (xs : Nat → Int32) (s : Nat → Int → Int32) (O : Nat → Int64) (c : Bool × Nat × Nat) (x1 : Int) (x2 : Int) (x3 : Int) (x4 : Int) (y2 : Int) : EV (d + 8) 117 24 [.ref 2, .int (q_I x1), .int (q_I x2), .int (q_I x3), .int (q_I x4)] [.int (q_I 48), .ref 1000000, .int (q_I y2)] (q_h L xs s O c) = EV (d + 8) 117 27 [.ref 2, .int (q_I x1), .int (q_I x2), .int (q_I x3), .int (q_I x4)] [.int (q_I 32), .int (q_I y2)] (q_h L xs s O c) := by
  rw [show d + 8 = d + 7 + 1 from rfl, C_117_24 (d + 7) L xs s O c x1 x2 x3 x4 (48 : Int) y2, if_neg (by omega)]
  rfl
theorem CH_117_24_49 (d : Nat) (L : Nat) (xs : Nat → Int32) (s : Nat → Int → Int32) (O : Nat → Int64) (c : Bool × Nat × Nat) (x1 : Int) (x2 : Int) (x3 : Int) (x4 : Int) (y2 : Int) : EV (d + 8) 117 24 [.ref 2, .int (q_I x1), .int (q_I x2), .int (q_I x3), .int (q_I x4)] [.int (q_I 49), .ref 1000000, .int (q_I y2)] (q_h L xs s O c) = EV (d + 8) 117 27 [.ref 2, .int (q_I x1), .int (q_I x2), .int (q_I x3), .int (q_I x4)] [.int (q_I 101), .int (q_I y2)] (q_h L xs s O c) := by
  rw [show d + 8 = d + 7 + 1 from rfl, C_117_24 (d + 7) L xs s O c x1 x2 x3 x4 (49 : Int) y2, if_neg (by omega)]
  rfl
theorem CH_117_24_50 (d : Nat) (L : Nat) (xs : Nat → Int32) (s : Nat → Int → Int32) (O : Nat → Int64) (c : Bool × Nat × Nat) (x1 : Int) (x2 : Int) (x3 : Int) (x4 : Int) (y2 : Int) : EV (d + 8) 117 24 [.ref 2, .int (q_I x1), .int (q_I x2), .int (q_I x3), .int (q_I x4)] [.int (q_I 50), .ref 1000000, .int (q_I y2)] (q_h L xs s O c) = EV (d + 8) 117 27 [.ref 2, .int (q_I x1), .int (q_I x2), .int (q_I x3), .int (q_I x4)] [.int (q_I 118), .int (q_I y2)] (q_h L xs s O c) := by
  rw [show d + 8 = d + 7 + 1 from rfl, C_117_24 (d + 7) L xs s O c x1 x2 x3 x4 (50 : Int) y2, if_neg (by omega)]
  rfl
theorem CH_117_24_51 (d : Nat) (L : Nat) (xs : Nat → Int32) (s : Nat → Int → Int32) (O : Nat → Int64) (c : Bool × Nat × Nat) (x1 : Int) (x2 : Int) (x3 : Int) (x4 : Int) (y2 : Int) : EV (d + 8) 117 24 [.ref 2, .int (q_I x1), .int (q_I x2), .int (q_I x3), .int (q_I x4)] [.int (q_I 51), .ref 1000000, .int (q_I y2)] (q_h L xs s O c) = EV (d + 8) 117 27 [.ref 2, .int (q_I x1), .int (q_I x2), .int (q_I x3), .int (q_I x4)] [.int (q_I 101), .int (q_I y2)] (q_h L xs s O c) := by
  rw [show d + 8 = d + 7 + 1 from rfl, C_117_24 (d + 7) L xs s O c x1 x2 x3 x4 (51 : Int) y2, if_neg (by omega)]
  rfl
theorem CH_117_24_52 (d : Nat) (L : Nat) (xs : Nat → Int32) (s : Nat → Int → Int32) (O : Nat → Int64) (c : Bool × Nat × Nat) (x1 : Int) (x2 : Int) (x3 : Int) (x4 : Int) (y2 : Int) : EV (d + 8) 117 24 [.ref 2, .int (q_I x1), .int (q_I x2), .int (q_I x3), .int (q_I x4)] [.int (q_I 52), .ref 1000000, .int (q_I y2)] (q_h L xs s O c) = EV (d + 8) 117 27 [.ref 2, .int (q_I x1), .int (q_I x2), .int (q_I x3), .int (q_I x4)] [.int (q_I 110), .int (q_I y2)] (q_h L xs s O c) := by
  rw [show d + 8 = d + 7 + 1 from rfl, C_117_24 (d + 7) L xs s O c x1 x2 x3 x4 (52 : Int) y2, if_neg (by omega)]
  rfl
theorem CH_117_24_53 (d : Nat) (L : Nat) (xs : Nat → Int32) (s : Nat → Int → Int32) (O : Nat → Int64) (c : Bool × Nat × Nat) (x1 : Int) (x2 : Int) (x3 : Int) (x4 : Int) (y2 : Int) : EV (d + 8) 117 24 [.ref 2, .int (q_I x1), .int (q_I x2), .int (q_I x3), .int (q_I x4)] [.int (q_I 53), .ref 1000000, .int (q_I y2)] (q_h L xs s O c) = EV (d + 8) 117 27 [.ref 2, .int (q_I x1), .int (q_I x2), .int (q_I x3), .int (q_I x4)] [.int (q_I 32), .int (q_I y2)] (q_h L xs s O c) := by
  rw [show d + 8 = d + 7 + 1 from rfl, C_117_24 (d + 7) L xs s O c x1 x2 x3 x4 (53 : Int) y2, if_neg (by omega)]
  rfl
theorem CH_117_24_54 (d : Nat) (L : Nat) (xs : Nat → Int32) (s : Nat → Int → Int32) (O : Nat → Int64) (c : Bool × Nat × Nat) (x1 : Int) (x2 : Int) (x3 : Int) (x4 : Int) (y2 : Int) : EV (d + 8) 117 24 [.ref 2, .int (q_I x1), .int (q_I x2), .int (q_I x3), .int (q_I x4)] [.int (q_I 54), .ref 1000000, .int (q_I y2)] (q_h L xs s O c) = EV (d + 8) 117 27 [.ref 2, .int (q_I x1), .int (q_I x2), .int (q_I x3), .int (q_I x4)] [.int (q_I 112), .int (q_I y2)] (q_h L xs s O c) := by
  rw [show d + 8 = d + 7 + 1 from rfl, C_117_24 (d + 7) L xs s O c x1 x2 x3 x4 (54 : Int) y2, if_neg (by omega)]
  rfl
theorem CH_117_24_55 (d : Nat) (L : Nat) (xs : Nat → Int32) (s : Nat → Int → Int32) (O : Nat → Int64) (c : Bool × Nat × Nat) (x1 : Int) (x2 : Int) (x3 : Int) (x4 : Int) (y2 : Int) : EV (d + 8) 117 24 [.ref 2, .int (q_I x1), .int (q_I x2), .int (q_I x3), .int (q_I x4)] [.int (q_I 55), .ref 1000000, .int (q_I y2)] (q_h L xs s O c) = EV (d + 8) 117 27 [.ref 2, .int (q_I x1), .int (q_I x2), .int (q_I x3), .int (q_I x4)] [.int (q_I 97), .int (q_I y2)] (q_h L xs s O c) := by
  rw [show d + 8 = d + 7 + 1 from rfl, C_117_24 (d + 7) L xs s O c x1 x2 x3 x4 (55 : Int) y2, if_neg (by omega)]
  rfl
theorem CH_117_24_56 (d : Nat) (L : Nat) (xs : Nat → Int32) (s : Nat → Int → Int32) (O : Nat → Int64) (c : Bool × Nat × Nat) (x1 : Int) (x2 : Int) (x3 : Int) (x4 : Int) (y2 : Int) : EV (d + 8) 117 24 [.ref 2, .int (q_I x1), .int (q_I x2), .int (q_I x3), .int (q_I x4)] [.int (q_I 56), .ref 1000000, .int (q_I y2)] (q_h L xs s O c) = EV (d + 8) 117 27 [.ref 2, .int (q_I x1), .int (q_I x2), .int (q_I x3), .int (q_I x4)] [.int (q_I 103), .int (q_I y2)] (q_h L xs s O c) := by
  rw [show d + 8 = d + 7 + 1 from rfl, C_117_24 (d + 7) L xs s O c x1 x2 x3 x4 (56 : Int) y2, if_neg (by omega)]
  rfl
theorem CH_117_24_57 (d : Nat) (L : Nat) (xs : Nat → Int32) (s : Nat → Int → Int32) (O : Nat → Int64) (c : Bool × Nat × Nat) (x1 : Int) (x2 : Int) (x3 : Int) (x4 : Int) (y2 : Int) : EV (d + 8) 117 24 [.ref 2, .int (q_I x1), .int (q_I x2), .int (q_I x3), .int (q_I x4)] [.int (q_I 57), .ref 1000000, .int (q_I y2)] (q_h L xs s O c) = EV (d + 8) 117 27 [.ref 2, .int (q_I x1), .int (q_I x2), .int (q_I x3), .int (q_I x4)] [.int (q_I 101), .int (q_I y2)] (q_h L xs s O c) := by
  rw [show d + 8 = d + 7 + 1 from rfl, C_117_24 (d + 7) L xs s O c x1 x2 x3 x4 (57 : Int) y2, if_neg (by omega)]
  rfl
theorem CH_117_24_58 (d : Nat) (L : Nat) (xs : Nat → Int32) (s : Nat → Int → Int32) (O : Nat → Int64) (c : Bool × Nat × Nat) (x1 : Int) (x2 : Int) (x3 : Int) (x4 : Int) (y2 : Int) : EV (d + 8) 117 24 [.ref 2, .int (q_I x1), .int (q_I x2), .int (q_I x3), .int (q_I x4)] [.int (q_I 58), .ref 1000000, .int (q_I y2)] (q_h L xs s O c) = EV (d + 8) 117 27 [.ref 2, .int (q_I x1), .int (q_I x2), .int (q_I x3), .int (q_I x4)] [.int (q_I 32), .int (q_I y2)] (q_h L xs s O c) := by
  rw [show d + 8 = d + 7 + 1 from rfl, C_117_24 (d + 7) L xs s O c x1 x2 x3 x4 (58 : Int) y2, if_neg (by omega)]
  rfl
theorem CH_117_24_59 (d : Nat) (L : Nat) (xs : Nat → Int32) (s : Nat → Int → Int32) (O : Nat → Int64) (c : Bool × Nat × Nat) (x1 : Int) (x2 : Int) (x3 : Int) (x4 : Int) (y2 : Int) : EV (d + 8) 117 24 [.ref 2, .int (q_I x1), .int (q_I x2), .int (q_I x3), .int (q_I x4)] [.int (q_I 59), .ref 1000000, .int (q_I y2)] (q_h L xs s O c) = EV (d + 8) 117 27 [.ref 2, .int (q_I x1), .int (q_I x2), .int (q_I x3), .int (q_I x4)] [.int (q_I 107), .int (q_I y2)] (q_h L xs s O c) := by
  rw [show d + 8 = d + 7 + 1 from rfl, C_117_24 (d + 7) L xs s O c x1 x2 x3 x4 (59 : Int) y2, if_neg (by omega)]
  rfl
theorem CH_117_24_60 (d : Nat) (L : Nat) (xs : Nat → Int32) (s : Nat → Int → Int32) (O : Nat → Int64) (c : Bool × Nat × Nat) (x1 : Int) (x2 : Int) (x3 : Int) (x4 : Int) (y2 : Int) : EV (d + 8) 117 24 [.ref 2, .int (q_I x1), .int (q_I x2), .int (q_I x3), .int (q_I x4)] [.int (q_I 60), .ref 1000000, .int (q_I y2)] (q_h L xs s O c) = EV (d + 8) 117 27 [.ref 2, .int (q_I x1), .int (q_I x2), .int (q_I x3), .int (q_I x4)] [.int (q_I 105), .int (q_I y2)] (q_h L xs s O c) := by
  rw [show d + 8 = d + 7 + 1 from rfl, C_117_24 (d + 7) L xs s O c x1 x2 x3 x4 (60 : Int) y2, if_neg (by omega)]
  rfl
theorem CH_117_24_61 (d : Nat) (L : Nat) (xs : Nat → Int32) (s : Nat → Int → Int32) (O : Nat → Int64) (c : Bool × Nat × Nat) (x1 : Int) (x2 : Int) (x3 : Int) (x4 : Int) (y2 : Int) : EV (d + 8) 117 24 [.ref 2, .int (q_I x1), .int (q_I x2), .int (q_I x3), .int (q_I x4)] [.int (q_I 61), .ref 1000000, .int (q_I y2)] (q_h L xs s O c) = EV (d + 8) 117 27 [.ref 2, .int (q_I x1), .int (q_I x2), .int (q_I x3), .int (q_I x4)] [.int (q_I 110), .int (q_I y2)] (q_h L xs s O c) := by
  rw [show d + 8 = d + 7 + 1 from rfl, C_117_24 (d + 7) L xs s O c x1 x2 x3 x4 (61 : Int) y2, if_neg (by omega)]
  rfl
theorem CH_117_24_62 (d : Nat) (L : Nat) (xs : Nat → Int32) (s : Nat → Int → Int32) (O : Nat → Int64) (c : Bool × Nat × Nat) (x1 : Int) (x2 : Int) (x3 : Int) (x4 : Int) (y2 : Int) : EV (d + 8) 117 24 [.ref 2, .int (q_I x1), .int (q_I x2), .int (q_I x3), .int (q_I x4)] [.int (q_I 62), .ref 1000000, .int (q_I y2)] (q_h L xs s O c) = EV (d + 8) 117 27 [.ref 2, .int (q_I x1), .int (q_I x2), .int (q_I x3), .int (q_I x4)] [.int (q_I 100), .int (q_I y2)] (q_h L xs s O c) := by
  rw [show d + 8 = d + 7 + 1 from rfl, C_117_24 (d + 7) L xs s O c x1 x2 x3 x4 (62 : Int) y2, if_neg (by omega)]
  rfl
theorem CH_117_24_63 (d : Nat) (L : Nat) (xs : Nat → Int32) (s : Nat → Int → Int32) (O : Nat → Int64) (c : Bool × Nat × Nat) (x1 : Int) (x2 : Int) (x3 : Int) (x4 : Int) (y2 : Int) : EV (d + 8) 117 24 [.ref 2, .int (q_I x1), .int (q_I x2), .int (q_I x3), .int (q_I x4)] [.int (q_I 63), .ref 1000000, .int (q_I y2)] (q_h L xs s O c) = EV (d + 8) 117 27 [.ref 2, .int (q_I x1), .int (q_I x2), .int (q_I x3), .int (q_I x4)] [.int (q_I 32), .int (q_I y2)] (q_h L xs s O c) := by
  rw [show d + 8 = d + 7 + 1 from rfl, C_117_24 (d + 7) L xs s O c x1 x2 x3 x4 (63 : Int) y2, if_neg (by omega)]
  rfl
theorem CH_117_24_64 (d : Nat) (L : Nat) (xs : Nat → Int32) (s : Nat → Int → Int32) (O : Nat → Int64) (c : Bool × Nat × Nat) (x1 : Int) (x2 : Int) (x3 : Int) (x4 : Int) (y2 : Int) : EV (d + 8) 117 24 [.ref 2, .int (q_I x1), .int (q_I x2), .int (q_I x3), .int (q_I x4)] [.int (q_I 64), .ref 1000000, .int (q_I y2)] (q_h L xs s O c) = EV (d + 8) 117 27 [.ref 2, .int (q_I x1), .int (q_I x2), .int (q_I x3), .int (q_I x4)] [.int (q_I 119), .int (q_I y2)] (q_h L xs s O c) := by
  rw [show d + 8 = d + 7 + 1 from rfl, C_117_24 (d + 7) L xs s O c x1 x2 x3 x4 (64 : Int) y2, if_neg (by omega)]
  rfl
theorem CH_117_24_65 (d : Nat) (L : Nat) (xs : Nat → Int32) (s : Nat → Int → Int32) (O : Nat → Int64) (c : Bool × Nat × Nat) (x1 : Int) (x2 : Int) (x3 : Int) (x4 : Int) (y2 : Int) : EV (d + 8) 117 24 [.ref 2, .int (q_I x1), .int (q_I x2), .int (q_I x3), .int (q_I x4)] [.int (q_I 65), .ref 1000000, .int (q_I y2)] (q_h L xs s O c) = EV (d + 8) 117 27 [.ref 2, .int (q_I x1), .int (q_I x2), .int (q_I x3), .int (q_I x4)] [.int (q_I 101), .int (q_I y2)] (q_h L xs s O c) := by
  rw [show d + 8 = d + 7 + 1 from rfl, C_117_24 (d + 7) L xs s O c x1 x2 x3 x4 (65 : Int) y2, if_neg (by omega)]
  rfl
theorem CH_117_24_66 (d : Nat) (L : Nat) (xs : Nat → Int32) (s : Nat → Int → Int32) (O : Nat → Int64) (c : Bool × Nat × Nat) (x1 : Int) (x2 : Int) (x3 : Int) (x4 : Int) (y2 : Int) : EV (d + 8) 117 24 [.ref 2, .int (q_I x1), .int (q_I x2), .int (q_I x3), .int (q_I x4)] [.int (q_I 66), .ref 1000000, .int (q_I y2)] (q_h L xs s O c) = EV (d + 8) 117 27 [.ref 2, .int (q_I x1), .int (q_I x2), .int (q_I x3), .int (q_I x4)] [.int (q_I 97), .int (q_I y2)] (q_h L xs s O c) := by
  rw [show d + 8 = d + 7 + 1 from rfl, C_117_24 (d + 7) L xs s O c x1 x2 x3 x4 (66 : Int) y2, if_neg (by omega)]
  rfl
theorem CH_117_24_67 (d : Nat) (L : Nat) (xs : Nat → Int32) (s : Nat → Int → Int32) (O : Nat → Int64) (c : Bool × Nat × Nat) (x1 : Int) (x2 : Int) (x3 : Int) (x4 : Int) (y2 : Int) : EV (d + 8) 117 24 [.ref 2, .int (q_I x1), .int (q_I x2), .int (q_I x3), .int (q_I x4)] [.int (q_I 67), .ref 1000000, .int (q_I y2)] (q_h L xs s O c) = EV (d + 8) 117 27 [.ref 2, .int (q_I x1), .int (q_I x2), .int (q_I x3), .int (q_I x4)] [.int (q_I 114), .int (q_I y2)] (q_h L xs s O c) := by
  rw [show d + 8 = d + 7 + 1 from rfl, C_117_24 (d + 7) L xs s O c x1 x2 x3 x4 (67 : Int) y2, if_neg (by omega)]
  rfl
theorem CH_117_24_68 (d : Nat) (L : Nat) (xs : Nat → Int32) (s : Nat → Int → Int32) (O : Nat → Int64) (c : Bool × Nat × Nat) (x1 : Int) (x2 : Int) (x3 : Int) (x4 : Int) (y2 : Int) : EV (d + 8) 117 24 [.ref 2, .int (q_I x1), .int (q_I x2), .int (q_I x3), .int (q_I x4)] [.int (q_I 68), .ref 1000000, .int (q_I y2)] (q_h L xs s O c) = EV (d + 8) 117 27 [.ref 2, .int (q_I x1), .int (q_I x2), .int (q_I x3), .int (q_I x4)] [.int (q_I 32), .int (q_I y2)] (q_h L xs s O c) := by
  rw [show d + 8 = d + 7 + 1 from rfl, C_117_24 (d + 7) L xs s O c x1 x2 x3 x4 (68 : Int) y2, if_neg (by omega)]
  rfl
theorem CH_117_24_69 (d : Nat) (L : Nat) (xs : Nat → Int32) (s : Nat → Int → Int32) (O : Nat → Int64) (c : Bool × Nat × Nat) (x1 : Int) (x2 : Int) (x3 : Int) (x4 : Int) (y2 : Int) : EV (d + 8) 117 24 [.ref 2, .int (q_I x1), .int (q_I x2), .int (q_I x3), .int (q_I x4)] [.int (q_I 69), .ref 1000000, .int (q_I y2)] (q_h L xs s O c) = EV (d + 8) 117 27 [.ref 2, .int (q_I x1), .int (q_I x2), .int (q_I x3), .int (q_I x4)] [.int (q_I 114), .int (q_I y2)] (q_h L xs s O c) := by
  rw [show d + 8 = d + 7 + 1 from rfl, C_117_24 (d + 7) L xs s O c x1 x2 x3 x4 (69 : Int) y2, if_neg (by omega)]
  rfl
theorem CH_117_24_70 (d : Nat) (L : Nat) (xs : Nat → Int32) (s : Nat → Int → Int32) (O : Nat → Int64) (c : Bool × Nat × Nat) (x1 : Int) (x2 : Int) (x3 : Int) (x4 : Int) (y2 : Int) : EV (d + 8) 117 24 [.ref 2, .int (q_I x1), .int (q_I x2), .int (q_I x3), .int (q_I x4)] [.int (q_I 70), .ref 1000000, .int (q_I y2)] (q_h L xs s O c) = EV (d + 8) 117 27 [.ref 2, .int (q_I x1), .int (q_I x2), .int (q_I x3), .int (q_I x4)] [.int (q_I 111), .int (q_I y2)] (q_h L xs s O c) := by
  rw [show d + 8 = d + 7 + 1 from rfl, C_117_24 (d + 7) L xs s O c x1 x2 x3 x4 (70 : Int) y2, if_neg (by omega)]
  rfl
theorem CH_117_24_71 (d : Nat) (L : Nat) (xs : Nat → Int32) (s : Nat → Int → Int32) (O : Nat → Int64) (c : Bool × Nat × Nat) (x1 : Int) (x2 : Int) (x3 : Int) (x4 : Int) (y2 : Int) : EV (d + 8) 117 24 [.ref 2, .int (q_I x1), .int (q_I x2), .int (q_I x3), .int (q_I x4)] [.int (q_I 71), .ref 1000000, .int (q_I y2)] (q_h L xs s O c) = EV (d + 8) 117 27 [.ref 2, .int (q_I x1), .int (q_I x2), .int (q_I x3), .int (q_I x4)] [.int (q_I 119), .int (q_I y2)] (q_h L xs s O c) := by
  rw [show d + 8 = d + 7 + 1 from rfl, C_117_24 (d + 7) L xs s O c x1 x2 x3 x4 (71 : Int) y2, if_neg (by omega)]
  rfl
theorem CH_117_24_72 (d : Nat) (L : Nat) (xs : Nat → Int32) (s : Nat → Int → Int32) (O : Nat → Int64) (c : Bool × Nat × Nat) (x1 : Int) (x2 : Int) (x3 : Int) (x4 : Int) (y2 : Int) : EV (d + 8) 117 24 [.ref 2, .int (q_I x1), .int (q_I x2), .int (q_I x3), .int (q_I x4)] [.int (q_I 72), .ref 1000000, .int (q_I y2)] (q_h L xs s O c) = EV (d + 8) 117 27 [.ref 2, .int (q_I x1), .int (q_I x2), .int (q_I x3), .int (q_I x4)] [.int (q_I 115), .int (q_I y2)] (q_h L xs s O c) := by
  rw [show d + 8 = d + 7 + 1 from rfl, C_117_24 (d + 7) L xs s O c x1 x2 x3 x4 (72 : Int) y2, if_neg (by omega)]
  rfl
theorem CH_117_24_73 (d : Nat) (L : Nat) (xs : Nat → Int32) (s : Nat → Int → Int32) (O : Nat → Int64) (c : Bool × Nat × Nat) (x1 : Int) (x2 : Int) (x3 : Int) (x4 : Int) (y2 : Int) : EV (d + 8) 117 24 [.ref 2, .int (q_I x1), .int (q_I x2), .int (q_I x3), .int (q_I x4)] [.int (q_I 73), .ref 1000000, .int (q_I y2)] (q_h L xs s O c) = EV (d + 8) 117 27 [.ref 2, .int (q_I x1), .int (q_I x2), .int (q_I x3), .int (q_I x4)] [.int (q_I 32), .int (q_I y2)] (q_h L xs s O c) := by
  rw [show d + 8 = d + 7 + 1 from rfl, C_117_24 (d + 7) L xs s O c x1 x2 x3 x4 (73 : Int) y2, if_neg (by omega)]
  rfl
theorem CH_117_24_74 (d : Nat) (L : Nat) (xs : Nat → Int32) (s : Nat → Int → Int32) (O : Nat → Int64) (c : Bool × Nat × Nat) (x1 : Int) (x2 : Int) (x3 : Int) (x4 : Int) (y2 : Int) : EV (d + 8) 117 24 [.ref 2, .int (q_I x1), .int (q_I x2), .int (q_I x3), .int (q_I x4)] [.int (q_I 74), .ref 1000000, .int (q_I y2)] (q_h L xs s O c) = EV (d + 8) 117 27 [.ref 2, .int (q_I x1), .int (q_I x2), .int (q_I x3), .int (q_I x4)] [.int (q_I 118), .int (q_I y2)] (q_h L xs s O c) := by
  rw [show d + 8 = d + 7 + 1 from rfl, C_117_24 (d + 7) L xs s O c x1 x2 x3 x4 (74 : Int) y2, if_neg (by omega)]
  rfl
theorem CH_117_24_75 (d : Nat) (L : Nat) (xs : Nat → Int32) (s : Nat → Int → Int32) (O : Nat → Int64) (c : Bool × Nat × Nat) (x1 : Int) (x2 : Int) (x3 : Int) (x4 : Int) (y2 : Int) : EV (d + 8) 117 24 [.ref 2, .int (q_I x1), .int (q_I x2), .int (q_I x3), .int (q_I x4)] [.int (q_I 75), .ref 1000000, .int (q_I y2)] (q_h L xs s O c) = EV (d + 8) 117 27 [.ref 2, .int (q_I x1), .int (q_I x2), .int (q_I x3), .int (q_I x4)] [.int (q_I 101), .int (q_I y2)] (q_h L xs s O c) := by
  rw [show d + 8 = d + 7 + 1 from rfl, C_117_24 (d + 7) L xs s O c x1 x2 x3 x4 (75 : Int) y2, if_neg (by omega)]
  rfl
theorem CH_117_24_76 (d : Nat) (L : Nat) (xs : Nat → Int32) (s : Nat → Int → Int32) (O : Nat → Int64) (c : Bool × Nat × Nat) (x1 : Int) (x2 : Int) (x3 : Int) (x4 : Int) (y2 : Int) : EV (d + 8) 117 24 [.ref 2, .int (q_I x1), .int (q_I x2), .int (q_I x3), .int (q_I x4)] [.int (q_I 76), .ref 1000000, .int (q_I y2)] (q_h L xs s O c) = EV (d + 8) 117 27 [.ref 2, .int (q_I x1), .int (q_I x2), .int (q_I x3), .int (q_I x4)] [.int (q_I 114), .int (q_I y2)] (q_h L xs s O c) := by
  rw [show d + 8 = d + 7 + 1 from rfl, C_117_24 (d + 7) L xs s O c x1 x2 x3 x4 (76 : Int) y2, if_neg (by omega)]
  rfl
theorem CH_117_24_77 (d : Nat) (L : Nat) (xs : Nat → Int32) (s : Nat → Int → Int32) (O : Nat → Int64) (c : Bool × Nat × Nat) (x1 : Int) (x2 : Int) (x3 : Int) (x4 : Int) (y2 : Int) : EV (d + 8) 117 24 [.ref 2, .int (q_I x1), .int (q_I x2), .int (q_I x3), .int (q_I x4)] [.int (q_I 77), .ref 1000000, .int (q_I y2)] (q_h L xs s O c) = EV (d + 8) 117 27 [.ref 2, .int (q_I x1), .int (q_I x2), .int (q_I x3), .int (q_I x4)] [.int (q_I 115), .int (q_I y2)] (q_h L xs s O c) := by
  rw [show d + 8 = d + 7 + 1 from rfl, C_117_24 (d + 7) L xs s O c x1 x2 x3 x4 (77 : Int) y2, if_neg (by omega)]
  rfl
theorem CH_117_24_78 (d : Nat) (L : Nat) (xs : Nat → Int32) (s : Nat → Int → Int32) (O : Nat → Int64) (c : Bool × Nat × Nat) (x1 : Int) (x2 : Int) (x3 : Int) (x4 : Int) (y2 : Int) : EV (d + 8) 117 24 [.ref 2, .int (q_I x1), .int (q_I x2), .int (q_I x3), .int (q_I x4)] [.int (q_I 78), .ref 1000000, .int (q_I y2)] (q_h L xs s O c) = EV (d + 8) 117 27 [.ref 2, .int (q_I x1), .int (q_I x2), .int (q_I x3), .int (q_I x4)] [.int (q_I 105), .int (q_I y2)] (q_h L xs s O c) := by
  rw [show d + 8 = d + 7 + 1 from rfl, C_117_24 (d + 7) L xs s O c x1 x2 x3 x4 (78 : Int) y2, if_neg (by omega)]
  rfl
theorem CH_117_24_79 (d : Nat) (L : Nat) (xs : Nat → Int32) (s : Nat → Int → Int32) (O : Nat → Int64) (c : Bool × Nat × Nat) (x1 : Int) (x2 : Int) (x3 : Int) (x4 : Int) (y2 : Int) : EV (d + 8) 117 24 [.ref 2, .int (q_I x1), .int (q_I x2), .int (q_I x3), .int (q_I x4)] [.int (q_I 79), .ref 1000000, .int (q_I y2)] (q_h L xs s O c) = EV (d + 8) 117 27 [.ref 2, .int (q_I x1), .int (q_I x2), .int (q_I x3), .int (q_I x4)] [.int (q_I 111), .int (q_I y2)] (q_h L xs s O c) := by
  rw [show d + 8 = d + 7 + 1 from rfl, C_117_24 (d + 7) L xs s O c x1 x2 x3 x4 (79 : Int) y2, if_neg (by omega)]
  rfl
theorem CH_117_24_80 (d : Nat) (L : Nat) (xs : Nat → Int32) (s : Nat → Int → Int32) (O : Nat → Int64) (c : Bool × Nat × Nat) (x1 : Int) (x2 : Int) (x3 : Int) (x4 : Int) (y2 : Int) : EV (d + 8) 117 24 [.ref 2, .int (q_I x1), .int (q_I x2), .int (q_I x3), .int (q_I x4)] [.int (q_I 80), .ref 1000000, .int (q_I y2)] (q_h L xs s O c) = EV (d + 8) 117 27 [.ref 2, .int (q_I x1), .int (q_I x2), .int (q_I x3), .int (q_I x4)] [.int (q_I 110), .int (q_I y2)] (q_h L xs s O c) := by
  rw [show d + 8 = d + 7 + 1 from rfl, C_117_24 (d + 7) L xs s O c x1 x2 x3 x4 (80 : Int) y2, if_neg (by omega)]
  rfl
theorem CH_117_24_81 (d : Nat) (L : Nat) (xs : Nat → Int32) (s : Nat → Int → Int32) (O : Nat → Int64) (c : Bool × Nat × Nat) (x1 : Int) (x2 : Int) (x3 : Int) (x4 : Int) (y2 : Int) : EV (d + 8) 117 24 [.ref 2, .int (q_I x1), .int (q_I x2), .int (q_I x3), .int (q_I x4)] [.int (q_I 81), .ref 1000000, .int (q_I y2)] (q_h L xs s O c) = EV (d + 8) 117 27 [.ref 2, .int (q_I x1), .int (q_I x2), .int (q_I x3), .int (q_I x4)] [.int (q_I 32), .int (q_I y2)] (q_h L xs s O c) := by
  rw [show d + 8 = d + 7 + 1 from rfl, C_117_24 (d + 7) L xs s O c x1 x2 x3 x4 (81 : Int) y2, if_neg (by omega)]
  rfl
theorem CH_117_24_82 (d : Nat) (L : Nat) (xs : Nat → Int32) (s : Nat → Int → Int32) (O : Nat → Int64) (c : Bool × Nat × Nat) (x1 : Int) (x2 : Int) (x3 : Int) (x4 : Int) (y2 : Int) : EV (d + 8) 117 24 [.ref 2, .int (q_I x1), .int (q_I x2), .int (q_I x3), .int (q_I x4)] [.int (q_I 82), .ref 1000000, .int (q_I y2)] (q_h L xs s O c) = EV (d + 8) 117 27 [.ref 2, .int (q_I x1), .int (q_I x2), .int (q_I x3), .int (q_I x4)] [.int (q_I 114), .int (q_I y2)] (q_h L xs s O c) := by
  rw [show d + 8 = d + 7 + 1 from rfl, C_117_24 (d + 7) L xs s O c x1 x2 x3 x4 (82 : Int) y2, if_neg (by omega)]
  rfl
theorem CH_117_24_83 (d : Nat) (L : Nat) (xs : Nat → Int32) (s : Nat → Int → Int32) (O : Nat → Int64) (c : Bool × Nat × Nat) (x1 : Int) (x2 : Int) (x3 : Int) (x4 : Int) (y2 : Int) : EV (d + 8) 117 24 [.ref 2, .int (q_I x1), .int (q_I x2), .int (q_I x3), .int (q_I x4)] [.int (q_I 83), .ref 1000000, .int (q_I y2)] (q_h L xs s O c) = EV (d + 8) 117 27 [.ref 2, .int (q_I x1), .int (q_I x2), .int (q_I x3), .int (q_I x4)] [.int (q_I 101), .int (q_I y2)] (q_h L xs s O c) := by
  rw [show d + 8 = d + 7 + 1 from rfl, C_117_24 (d + 7) L xs s O c x1 x2 x3 x4 (83 : Int) y2, if_neg (by omega)]
  rfl
theorem CH_117_24_84 (d : Nat) (L : Nat) (xs : Nat → Int32) (s : Nat → Int → Int32) (O : Nat → Int64) (c : Bool × Nat × Nat) (x1 : Int) (x2 : Int) (x3 : Int) (x4 : Int) (y2 : Int) : EV (d + 8) 117 24 [.ref 2, .int (q_I x1), .int (q_I x2), .int (q_I x3), .int (q_I x4)] [.int (q_I 84), .ref 1000000, .int (q_I y2)] (q_h L xs s O c) = EV (d + 8) 117 27 [.ref 2, .int (q_I x1), .int (q_I x2), .int (q_I x3), .int (q_I x4)] [.int (q_I 97), .int (q_I y2)] (q_h L xs s O c) := by
  rw [show d + 8 = d + 7 + 1 from rfl, C_117_24 (d + 7) L xs s O c x1 x2 x3 x4 (84 : Int) y2, if_neg (by omega)]
  rfl
theorem CH_117_24_85 (d : Nat) (L : Nat) (xs : Nat → Int32) (s : Nat → Int → Int32) (O : Nat → Int64) (c : Bool × Nat × Nat) (x1 : Int) (x2 : Int) (x3 : Int) (x4 : Int) (y2 : Int) : EV (d + 8) 117 24 [.ref 2, .int (q_I x1), .int (q_I x2), .int (q_I x3), .int (q_I x4)] [.int (q_I 85), .ref 1000000, .int (q_I y2)] (q_h L xs s O c) = EV (d + 8) 117 27 [.ref 2, .int (q_I x1), .int (q_I x2), .int (q_I x3), .int (q_I x4)] [.int (q_I 100), .int (q_I y2)] (q_h L xs s O c) := by
  rw [show d + 8 = d + 7 + 1 from rfl, C_117_24 (d + 7) L xs s O c x1 x2 x3 x4 (85 : Int) y2, if_neg (by omega)]
  rfl
theorem CH_117_24_86 (d : Nat) (L : Nat) (xs : Nat → Int32) (s : Nat → Int → Int32) (O : Nat → Int64) (c : Bool × Nat × Nat) (x1 : Int) (x2 : Int) (x3 : Int) (x4 : Int) (y2 : Int) : EV (d + 8) 117 24 [.ref 2, .int (q_I x1), .int (q_I x2), .int (q_I x3), .int (q_I x4)] [.int (q_I 86), .ref 1000000, .int (q_I y2)] (q_h L xs s O c) = EV (d + 8) 117 27 [.ref 2, .int (q_I x1), .int (q_I x2), .int (q_I x3), .int (q_I x4)] [.int (q_I 101), .int (q_I y2)] (q_h L xs s O c) := by
  rw [show d + 8 = d + 7 + 1 from rfl, C_117_24 (d + 7) L xs s O c x1 x2 x3 x4 (86 : Int) y2, if_neg (by omega)]
  rfl
theorem CH_117_24_87 (d : Nat) (L : Nat) (xs : Nat → Int32) (s : Nat → Int → Int32) (O : Nat → Int64) (c : Bool × Nat × Nat) (x1 : Int) (x2 : Int) (x3 : Int) (x4 : Int) (y2 : Int) : EV (d + 8) 117 24 [.ref 2, .int (q_I x1), .int (q_I x2), .int (q_I x3), .int (q_I x4)] [.int (q_I 87), .ref 1000000, .int (q_I y2)] (q_h L xs s O c) = EV (d + 8) 117 27 [.ref 2, .int (q_I x1), .int (q_I x2), .int (q_I x3), .int (q_I x4)] [.int (q_I 114), .int (q_I y2)] (q_h L xs s O c) := by
  rw [show d + 8 = d + 7 + 1 from rfl, C_117_24 (d + 7) L xs s O c x1 x2 x3 x4 (87 : Int) y2, if_neg (by omega)]
  rfl
theorem CH_117_24_88 (d : Nat) (L : Nat) (xs : Nat → Int32) (s : Nat → Int → Int32) (O : Nat → Int64) (c : Bool × Nat × Nat) (x1 : Int) (x2 : Int) (x3 : Int) (x4 : Int) (y2 : Int) : EV (d + 8) 117 24 [.ref 2, .int (q_I x1), .int (q_I x2), .int (q_I x3), .int (q_I x4)] [.int (q_I 88), .ref 1000000, .int (q_I y2)] (q_h L xs s O c) = EV (d + 8) 117 27 [.ref 2, .int (q_I x1), .int (q_I x2), .int (q_I x3), .int (q_I x4)] [.int (q_I 115), .int (q_I y2)] (q_h L xs s O c) := by
  rw [show d + 8 = d + 7 + 1 from rfl, C_117_24 (d + 7) L xs s O c x1 x2 x3 x4 (88 : Int) y2, if_neg (by omega)]
  rfl
theorem CH_117_24_89 (d : Nat) (L : Nat) (xs : Nat → Int32) (s : Nat → Int → Int32) (O : Nat → Int64) (c : Bool × Nat × Nat) (x1 : Int) (x2 : Int) (x3 : Int) (x4 : Int) (y2 : Int) : EV (d + 8) 117 24 [.ref 2, .int (q_I x1), .int (q_I x2), .int (q_I x3), .int (q_I x4)] [.int (q_I 89), .ref 1000000, .int (q_I y2)] (q_h L xs s O c) = EV (d + 8) 117 27 [.ref 2, .int (q_I x1), .int (q_I x2), .int (q_I x3), .int (q_I x4)] [.int (q_I 32), .int (q_I y2)] (q_h L xs s O c) := by
  rw [show d + 8 = d + 7 + 1 from rfl, C_117_24 (d + 7) L xs s O c x1 x2 x3 x4 (89 : Int) y2, if_neg (by omega)]
  rfl
theorem CH_117_24_90 (d : Nat) (L : Nat) (xs : Nat → Int32) (s : Nat → Int → Int32) (O : Nat → Int64) (c : Bool × Nat × Nat) (x1 : Int) (x2 : Int) (x3 : Int) (x4 : Int) (y2 : Int) : EV (d + 8) 117 24 [.ref 2, .int (q_I x1), .int (q_I x2), .int (q_I x3), .int (q_I x4)] [.int (q_I 90), .ref 1000000, .int (q_I y2)] (q_h L xs s O c) = EV (d + 8) 117 27 [.ref 2, .int (q_I x1), .int (q_I x2), .int (q_I x3), .int (q_I x4)] [.int (q_I 116), .int (q_I y2)] (q_h L xs s O c) := by
  rw [show d + 8 = d + 7 + 1 from rfl, C_117_24 (d + 7) L xs s O c x1 x2 x3 x4 (90 : Int) y2, if_neg (by omega)]
  rfl
theorem CH_117_24_91 (d : Nat) (L : Nat) (xs : Nat → Int32) (s : Nat → Int → Int32) (O : Nat → Int64) (c : Bool × Nat × Nat) (x1 : Int) (x2 : Int) (x3 : Int) (x4 : Int) (y2 : Int) : EV (d + 8) 117 24 [.ref 2, .int (q_I x1), .int (q_I x2), .int (q_I x3), .int (q_I x4)] [.int (q_I 91), .ref 1000000, .int (q_I y2)] (q_h L xs s O c) = EV (d + 8) 117 27 [.ref 2, .int (q_I x1), .int (q_I x2), .int (q_I x3), .int (q_I x4)] [.int (q_I 105), .int (q_I y2)] (q_h L xs s O c) := by
  rw [show d + 8 = d + 7 + 1 from rfl, C_117_24 (d + 7) L xs s O c x1 x2 x3 x4 (91 : Int) y2, if_neg (by omega)]
  rfl
theorem CH_117_24_92 (d : Nat) (L : Nat) (xs : Nat → Int32) (s : Nat → Int → Int32) (O : Nat → Int64) (c : Bool × Nat × Nat) (x1 : Int) (x2 : Int) (x3 : Int) (x4 : Int) (y2 : Int) : EV (d + 8) 117 24 [.ref 2, .int (q_I x1), .int (q_I x2), .int (q_I x3), .int (q_I x4)] [.int (q_I 92), .ref 1000000, .int (q_I y2)] (q_h L xs s O c) = EV (d + 8) 117 27 [.ref 2, .int (q_I x1), .int (q_I x2), .int (q_I x3), .int (q_I x4)] [.int (q_I 99), .int (q_I y2)] (q_h L xs s O c) := by
  rw [show d + 8 = d + 7 + 1 from rfl, C_117_24 (d + 7) L xs s O c x1 x2 x3 x4 (92 : Int) y2, if_neg (by omega)]
  rfl
theorem CH_117_24_93 (d : Nat) (L : Nat) (xs : Nat → Int32) (s : Nat → Int → Int32) (O : Nat → Int64) (c : Bool × Nat × Nat) (x1 : Int) (x2 : Int) (x3 : Int) (x4 : Int) (y2 : Int) : EV (d + 8) 117 24 [.ref 2, .int (q_I x1), .int (q_I x2), .int (q_I x3), .int (q_I x4)] [.int (q_I 93), .ref 1000000, .int (q_I y2)] (q_h L xs s O c) = EV (d + 8) 117 27 [.ref 2, .int (q_I x1), .int (q_I x2), .int (q_I x3), .int (q_I x4)] [.int (q_I 107), .int (q_I y2)] (q_h L xs s O c) := by
  rw [show d + 8 = d + 7 + 1 from rfl, C_117_24 (d + 7) L xs s O c x1 x2 x3 x4 (93 : Int) y2, if_neg (by omega)]
  rfl
