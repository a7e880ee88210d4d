/-! THE REFERENCE: words -/
theorem LM_45_1 (d : Nat) (L : Nat) (xs : Nat → Int32) (s : Nat → Int → Int32) (O : Nat → Int64) (c : Bool × Nat × Nat) (x2 : Int) (x3 : Value) (y1 : Int) : EV (d + 8) 231 45 [.ref 285, .ref 1000001, .int (q_I x2), x3] [.ref 1000001, .int (q_I y1)] (q_h L xs s O c) = EV (d + 8) 231 48 [.ref 285, .ref 1000001, .int (q_I x2), x3] [.int (q_I 4), .int (q_I y1)] (q_h L xs s O c) := by
  rw [show d + 8 = d + 7 + 1 from rfl, C_231_45, if_neg (by omega)]
  rfl
theorem LM_57_1 (d : Nat) (L : Nat) (xs : Nat → Int32) (s : Nat → Int → Int32) (O : Nat → Int64) (c : Bool × Nat × Nat) (x2 x3 y1 : Int) : EV (d + 8) 231 57 [.ref 285, .ref 1000001, .int (q_I x2), .int (q_I x3)] [.ref 1000001, .int (q_I y1)] (q_h L xs s O c) = EV (d + 8) 231 60 [.ref 285, .ref 1000001, .int (q_I x2), .int (q_I x3)] [.int (q_I 4), .int (q_I y1)] (q_h L xs s O c) := by
  rw [show d + 8 = d + 7 + 1 from rfl, C_231_57, if_neg (by omega)]
  rfl
theorem CM_75_1_0 (d : Nat) (L : Nat) (xs : Nat → Int32) (s : Nat → Int → Int32) (O : Nat → Int64) (c : Bool × Nat × Nat) (x2 x3 y2 : Int) : EV (d + 8) 231 75 [.ref 285, .ref 1000001, .int (q_I x2), .int (q_I x3)] [.int (q_I 0), .ref 1000001, .int (q_I y2)] (q_h L xs s O c) = EV (d + 8) 231 78 [.ref 285, .ref 1000001, .int (q_I x2), .int (q_I x3)] [.int (q_I 114), .int (q_I y2)] (q_h L xs s O c) := by
  rw [show d + 8 = d + 7 + 1 from rfl, C_231_75, if_neg (by omega)]
  rfl
theorem CM_75_1_1 (d : Nat) (L : Nat) (xs : Nat → Int32) (s : Nat → Int → Int32) (O : Nat → Int64) (c : Bool × Nat × Nat) (x2 x3 y2 : Int) : EV (d + 8) 231 75 [.ref 285, .ref 1000001, .int (q_I x2), .int (q_I x3)] [.int (q_I 1), .ref 1000001, .int (q_I y2)] (q_h L xs s O c) = EV (d + 8) 231 78 [.ref 285, .ref 1000001, .int (q_I x2), .int (q_I x3)] [.int (q_I 105), .int (q_I y2)] (q_h L xs s O c) := by
  rw [show d + 8 = d + 7 + 1 from rfl, C_231_75, if_neg (by omega)]
  rfl
theorem CM_75_1_2 (d : Nat) (L : Nat) (xs : Nat → Int32) (s : Nat → Int → Int32) (O : Nat → Int64) (c : Bool × Nat × Nat) (x2 x3 y2 : Int) : EV (d + 8) 231 75 [.ref 285, .ref 1000001, .int (q_I x2), .int (q_I x3)] [.int (q_I 2), .ref 1000001, .int (q_I y2)] (q_h L xs s O c) = EV (d + 8) 231 78 [.ref 285, .ref 1000001, .int (q_I x2), .int (q_I x3)] [.int (q_I 115), .int (q_I y2)] (q_h L xs s O c) := by
  rw [show d + 8 = d + 7 + 1 from rfl, C_231_75, if_neg (by omega)]
  rfl
theorem CM_75_1_3 (d : Nat) (L : Nat) (xs : Nat → Int32) (s : Nat → Int → Int32) (O : Nat → Int64) (c : Bool × Nat × Nat) (x2 x3 y2 : Int) : EV (d + 8) 231 75 [.ref 285, .ref 1000001, .int (q_I x2), .int (q_I x3)] [.int (q_I 3), .ref 1000001, .int (q_I y2)] (q_h L xs s O c) = EV (d + 8) 231 78 [.ref 285, .ref 1000001, .int (q_I x2), .int (q_I x3)] [.int (q_I 107), .int (q_I y2)] (q_h L xs s O c) := by
  rw [show d + 8 = d + 7 + 1 from rfl, C_231_75, if_neg (by omega)]
  rfl
theorem LM_45_2 (d : Nat) (L : Nat) (xs : Nat → Int32) (s : Nat → Int → Int32) (O : Nat → Int64) (c : Bool × Nat × Nat) (x2 : Int) (x3 : Value) (y1 : Int) : EV (d + 8) 231 45 [.ref 285, .ref 1000002, .int (q_I x2), x3] [.ref 1000002, .int (q_I y1)] (q_h L xs s O c) = EV (d + 8) 231 48 [.ref 285, .ref 1000002, .int (q_I x2), x3] [.int (q_I 5), .int (q_I y1)] (q_h L xs s O c) := by
  rw [show d + 8 = d + 7 + 1 from rfl, C_231_45, if_neg (by omega)]
  rfl
theorem LM_57_2 (d : Nat) (L : Nat) (xs : Nat → Int32) (s : Nat → Int → Int32) (O : Nat → Int64) (c : Bool × Nat × Nat) (x2 x3 y1 : Int) : EV (d + 8) 231 57 [.ref 285, .ref 1000002, .int (q_I x2), .int (q_I x3)] [.ref 1000002, .int (q_I y1)] (q_h L xs s O c) = EV (d + 8) 231 60 [.ref 285, .ref 1000002, .int (q_I x2), .int (q_I x3)] [.int (q_I 5), .int (q_I y1)] (q_h L xs s O c) := by
  rw [show d + 8 = d + 7 + 1 from rfl, C_231_57, if_neg (by omega)]
  rfl
theorem CM_75_2_0 (d : Nat) (L : Nat) (xs : Nat → Int32) (s : Nat → Int → Int32) (O : Nat → Int64) (c : Bool × Nat × Nat) (x2 x3 y2 : Int) : EV (d + 8) 231 75 [.ref 285, .ref 1000002, .int (q_I x2), .int (q_I x3)] [.int (q_I 0), .ref 1000002, .int (q_I y2)] (q_h L xs s O c) = EV (d + 8) 231 78 [.ref 285, .ref 1000002, .int (q_I x2), .int (q_I x3)] [.int (q_I 115), .int (q_I y2)] (q_h L xs s O c) := by
  rw [show d + 8 = d + 7 + 1 from rfl, C_231_75, if_neg (by omega)]
  rfl
theorem CM_75_2_1 (d : Nat) (L : Nat) (xs : Nat → Int32) (s : Nat → Int → Int32) (O : Nat → Int64) (c : Bool × Nat × Nat) (x2 x3 y2 : Int) : EV (d + 8) 231 75 [.ref 285, .ref 1000002, .int (q_I x2), .int (q_I x3)] [.int (q_I 1), .ref 1000002, .int (q_I y2)] (q_h L xs s O c) = EV (d + 8) 231 78 [.ref 285, .ref 1000002, .int (q_I x2), .int (q_I x3)] [.int (q_I 112), .int (q_I y2)] (q_h L xs s O c) := by
  rw [show d + 8 = d + 7 + 1 from rfl, C_231_75, if_neg (by omega)]
  rfl
theorem CM_75_2_2 (d : Nat) (L : Nat) (xs : Nat → Int32) (s : Nat → Int → Int32) (O : Nat → Int64) (c : Bool × Nat × Nat) (x2 x3 y2 : Int) : EV (d + 8) 231 75 [.ref 285, .ref 1000002, .int (q_I x2), .int (q_I x3)] [.int (q_I 2), .ref 1000002, .int (q_I y2)] (q_h L xs s O c) = EV (d + 8) 231 78 [.ref 285, .ref 1000002, .int (q_I x2), .int (q_I x3)] [.int (q_I 97), .int (q_I y2)] (q_h L xs s O c) := by
  rw [show d + 8 = d + 7 + 1 from rfl, C_231_75, if_neg (by omega)]
  rfl
theorem CM_75_2_3 (d : Nat) (L : Nat) (xs : Nat → Int32) (s : Nat → Int → Int32) (O : Nat → Int64) (c : Bool × Nat × Nat) (x2 x3 y2 : Int) : EV (d + 8) 231 75 [.ref 285, .ref 1000002, .int (q_I x2), .int (q_I x3)] [.int (q_I 3), .ref 1000002, .int (q_I y2)] (q_h L xs s O c) = EV (d + 8) 231 78 [.ref 285, .ref 1000002, .int (q_I x2), .int (q_I x3)] [.int (q_I 114), .int (q_I y2)] (q_h L xs s O c) := by
  rw [show d + 8 = d + 7 + 1 from rfl, C_231_75, if_neg (by omega)]
  rfl
theorem CM_75_2_4 (d : Nat) (L : Nat) (xs : Nat → Int32) (s : Nat → Int → Int32) (O : Nat → Int64) (c : Bool × Nat × Nat) (x2 x3 y2 : Int) : EV (d + 8) 231 75 [.ref 285, .ref 1000002, .int (q_I x2), .int (q_I x3)] [.int (q_I 4), .ref 1000002, .int (q_I y2)] (q_h L xs s O c) = EV (d + 8) 231 78 [.ref 285, .ref 1000002, .int (q_I x2), .int (q_I x3)] [.int (q_I 101), .int (q_I y2)] (q_h L xs s O c) := by
  rw [show d + 8 = d + 7 + 1 from rfl, C_231_75, if_neg (by omega)]
  rfl
theorem LM_45_3 (d : Nat) (L : Nat) (xs : Nat → Int32) (s : Nat → Int → Int32) (O : Nat → Int64) (c : Bool × Nat × Nat) (x2 : Int) (x3 : Value) (y1 : Int) : EV (d + 8) 231 45 [.ref 285, .ref 1000003, .int (q_I x2), x3] [.ref 1000003, .int (q_I y1)] (q_h L xs s O c) = EV (d + 8) 231 48 [.ref 285, .ref 1000003, .int (q_I x2), x3] [.int (q_I 4), .int (q_I y1)] (q_h L xs s O c) := by
  rw [show d + 8 = d + 7 + 1 from rfl, C_231_45, if_neg (by omega)]
  rfl
theorem LM_57_3 (d : Nat) (L : Nat) (xs : Nat → Int32) (s : Nat → Int → Int32) (O : Nat → Int64) (c : Bool × Nat × Nat) (x2 x3 y1 : Int) : EV (d + 8) 231 57 [.ref 285, .ref 1000003, .int (q_I x2), .int (q_I x3)] [.ref 1000003, .int (q_I y1)] (q_h L xs s O c) = EV (d + 8) 231 60 [.ref 285, .ref 1000003, .int (q_I x2), .int (q_I x3)] [.int (q_I 4), .int (q_I y1)] (q_h L xs s O c) := by
  rw [show d + 8 = d + 7 + 1 from rfl, C_231_57, if_neg (by omega)]
  rfl
theorem CM_75_3_0 (d : Nat) (L : Nat) (xs : Nat → Int32) (s : Nat → Int → Int32) (O : Nat → Int64) (c : Bool × Nat × Nat) (x2 x3 y2 : Int) : EV (d + 8) 231 75 [.ref 285, .ref 1000003, .int (q_I x2), .int (q_I x3)] [.int (q_I 0), .ref 1000003, .int (q_I y2)] (q_h L xs s O c) = EV (d + 8) 231 78 [.ref 285, .ref 1000003, .int (q_I x2), .int (q_I x3)] [.int (q_I 99), .int (q_I y2)] (q_h L xs s O c) := by
  rw [show d + 8 = d + 7 + 1 from rfl, C_231_75, if_neg (by omega)]
  rfl
theorem CM_75_3_1 (d : Nat) (L : Nat) (xs : Nat → Int32) (s : Nat → Int → Int32) (O : Nat → Int64) (c : Bool × Nat × Nat) (x2 x3 y2 : Int) : EV (d + 8) 231 75 [.ref 285, .ref 1000003, .int (q_I x2), .int (q_I x3)] [.int (q_I 1), .ref 1000003, .int (q_I y2)] (q_h L xs s O c) = EV (d + 8) 231 78 [.ref 285, .ref 1000003, .int (q_I x2), .int (q_I x3)] [.int (q_I 111), .int (q_I y2)] (q_h L xs s O c) := by
  rw [show d + 8 = d + 7 + 1 from rfl, C_231_75, if_neg (by omega)]
  rfl
theorem CM_75_3_2 (d : Nat) (L : Nat) (xs : Nat → Int32) (s : Nat → Int → Int32) (O : Nat → Int64) (c : Bool × Nat × Nat) (x2 x3 y2 : Int) : EV (d + 8) 231 75 [.ref 285, .ref 1000003, .int (q_I x2), .int (q_I x3)] [.int (q_I 2), .ref 1000003, .int (q_I y2)] (q_h L xs s O c) = EV (d + 8) 231 78 [.ref 285, .ref 1000003, .int (q_I x2), .int (q_I x3)] [.int (q_I 115), .int (q_I y2)] (q_h L xs s O c) := by
  rw [show d + 8 = d + 7 + 1 from rfl, C_231_75, if_neg (by omega)]
  rfl
theorem CM_75_3_3 (d : Nat) (L : Nat) (xs : Nat → Int32) (s : Nat → Int → Int32) (O : Nat → Int64) (c : Bool × Nat × Nat) (x2 x3 y2 : Int) : EV (d + 8) 231 75 [.ref 285, .ref 1000003, .int (q_I x2), .int (q_I x3)] [.int (q_I 3), .ref 1000003, .int (q_I y2)] (q_h L xs s O c) = EV (d + 8) 231 78 [.ref 285, .ref 1000003, .int (q_I x2), .int (q_I x3)] [.int (q_I 116), .int (q_I y2)] (q_h L xs s O c) := by
  rw [show d + 8 = d + 7 + 1 from rfl, C_231_75, if_neg (by omega)]
  rfl
theorem LM_45_4 (d : Nat) (L : Nat) (xs : Nat → Int32) (s : Nat → Int → Int32) (O : Nat → Int64) (c : Bool × Nat × Nat) (x2 : Int) (x3 : Value) (y1 : Int) : EV (d + 8) 231 45 [.ref 285, .ref 1000004, .int (q_I x2), x3] [.ref 1000004, .int (q_I y1)] (q_h L xs s O c) = EV (d + 8) 231 48 [.ref 285, .ref 1000004, .int (q_I x2), x3] [.int (q_I 2), .int (q_I y1)] (q_h L xs s O c) := by
  rw [show d + 8 = d + 7 + 1 from rfl, C_231_45, if_neg (by omega)]
  rfl
theorem LM_57_4 (d : Nat) (L : Nat) (xs : Nat → Int32) (s : Nat → Int → Int32) (O : Nat → Int64) (c : Bool × Nat × Nat) (x2 x3 y1 : Int) : EV (d + 8) 231 57 [.ref 285, .ref 1000004, .int (q_I x2), .int (q_I x3)] [.ref 1000004, .int (q_I y1)] (q_h L xs s O c) = EV (d + 8) 231 60 [.ref 285, .ref 1000004, .int (q_I x2), .int (q_I x3)] [.int (q_I 2), .int (q_I y1)] (q_h L xs s O c) := by
  rw [show d + 8 = d + 7 + 1 from rfl, C_231_57, if_neg (by omega)]
  rfl
theorem CM_75_4_0 (d : Nat) (L : Nat) (xs : Nat → Int32) (s : Nat → Int → Int32) (O : Nat → Int64) (c : Bool × Nat × Nat) (x2 x3 y2 : Int) : EV (d + 8) 231 75 [.ref 285, .ref 1000004, .int (q_I x2), .int (q_I x3)] [.int (q_I 0), .ref 1000004, .int (q_I y2)] (q_h L xs s O c) = EV (d + 8) 231 78 [.ref 285, .ref 1000004, .int (q_I x2), .int (q_I x3)] [.int (q_I 105), .int (q_I y2)] (q_h L xs s O c) := by
  rw [show d + 8 = d + 7 + 1 from rfl, C_231_75, if_neg (by omega)]
  rfl
theorem CM_75_4_1 (d : Nat) (L : Nat) (xs : Nat → Int32) (s : Nat → Int → Int32) (O : Nat → Int64) (c : Bool × Nat × Nat) (x2 x3 y2 : Int) : EV (d + 8) 231 75 [.ref 285, .ref 1000004, .int (q_I x2), .int (q_I x3)] [.int (q_I 1), .ref 1000004, .int (q_I y2)] (q_h L xs s O c) = EV (d + 8) 231 78 [.ref 285, .ref 1000004, .int (q_I x2), .int (q_I x3)] [.int (q_I 102), .int (q_I y2)] (q_h L xs s O c) := by
  rw [show d + 8 = d + 7 + 1 from rfl, C_231_75, if_neg (by omega)]
  rfl
theorem LM_45_5 (d : Nat) (L : Nat) (xs : Nat → Int32) (s : Nat → Int → Int32) (O : Nat → Int64) (c : Bool × Nat × Nat) (x2 : Int) (x3 : Value) (y1 : Int) : EV (d + 8) 231 45 [.ref 285, .ref 1000005, .int (q_I x2), x3] [.ref 1000005, .int (q_I y1)] (q_h L xs s O c) = EV (d + 8) 231 48 [.ref 285, .ref 1000005, .int (q_I x2), x3] [.int (q_I 3), .int (q_I y1)] (q_h L xs s O c) := by
  rw [show d + 8 = d + 7 + 1 from rfl, C_231_45, if_neg (by omega)]
  rfl
theorem LM_57_5 (d : Nat) (L : Nat) (xs : Nat → Int32) (s : Nat → Int → Int32) (O : Nat → Int64) (c : Bool × Nat × Nat) (x2 x3 y1 : Int) : EV (d + 8) 231 57 [.ref 285, .ref 1000005, .int (q_I x2), .int (q_I x3)] [.ref 1000005, .int (q_I y1)] (q_h L xs s O c) = EV (d + 8) 231 60 [.ref 285, .ref 1000005, .int (q_I x2), .int (q_I x3)] [.int (q_I 3), .int (q_I y1)] (q_h L xs s O c) := by
  rw [show d + 8 = d + 7 + 1 from rfl, C_231_57, if_neg (by omega)]
  rfl
theorem CM_75_5_0 (d : Nat) (L : Nat) (xs : Nat → Int32) (s : Nat → Int → Int32) (O : Nat → Int64) (c : Bool × Nat × Nat) (x2 x3 y2 : Int) : EV (d + 8) 231 75 [.ref 285, .ref 1000005, .int (q_I x2), .int (q_I x3)] [.int (q_I 0), .ref 1000005, .int (q_I y2)] (q_h L xs s O c) = EV (d + 8) 231 78 [.ref 285, .ref 1000005, .int (q_I x2), .int (q_I x3)] [.int (q_I 110), .int (q_I y2)] (q_h L xs s O c) := by
  rw [show d + 8 = d + 7 + 1 from rfl, C_231_75, if_neg (by omega)]
  rfl
theorem CM_75_5_1 (d : Nat) (L : Nat) (xs : Nat → Int32) (s : Nat → Int → Int32) (O : Nat → Int64) (c : Bool × Nat × Nat) (x2 x3 y2 : Int) : EV (d + 8) 231 75 [.ref 285, .ref 1000005, .int (q_I x2), .int (q_I x3)] [.int (q_I 1), .ref 1000005, .int (q_I y2)] (q_h L xs s O c) = EV (d + 8) 231 78 [.ref 285, .ref 1000005, .int (q_I x2), .int (q_I x3)] [.int (q_I 111), .int (q_I y2)] (q_h L xs s O c) := by
  rw [show d + 8 = d + 7 + 1 from rfl, C_231_75, if_neg (by omega)]
  rfl
theorem CM_75_5_2 (d : Nat) (L : Nat) (xs : Nat → Int32) (s : Nat → Int → Int32) (O : Nat → Int64) (c : Bool × Nat × Nat) (x2 x3 y2 : Int) : EV (d + 8) 231 75 [.ref 285, .ref 1000005, .int (q_I x2), .int (q_I x3)] [.int (q_I 2), .ref 1000005, .int (q_I y2)] (q_h L xs s O c) = EV (d + 8) 231 78 [.ref 285, .ref 1000005, .int (q_I x2), .int (q_I x3)] [.int (q_I 116), .int (q_I y2)] (q_h L xs s O c) := by
  rw [show d + 8 = d + 7 + 1 from rfl, C_231_75, if_neg (by omega)]
  rfl
theorem LM_45_6 (d : Nat) (L : Nat) (xs : Nat → Int32) (s : Nat → Int → Int32) (O : Nat → Int64) (c : Bool × Nat × Nat) (x2 : Int) (x3 : Value) (y1 : Int) : EV (d + 8) 231 45 [.ref 285, .ref 1000006, .int (q_I x2), x3] [.ref 1000006, .int (q_I y1)] (q_h L xs s O c) = EV (d + 8) 231 48 [.ref 285, .ref 1000006, .int (q_I x2), x3] [.int (q_I 4), .int (q_I y1)] (q_h L xs s O c) := by
  rw [show d + 8 = d + 7 + 1 from rfl, C_231_45, if_neg (by omega)]
  rfl
theorem LM_57_6 (d : Nat) (L : Nat) (xs : Nat → Int32) (s : Nat → Int → Int32) (O : Nat → Int64) (c : Bool × Nat × Nat) (x2 x3 y1 : Int) : EV (d + 8) 231 57 [.ref 285, .ref 1000006, .int (q_I x2), .int (q_I x3)] [.ref 1000006, .int (q_I y1)] (q_h L xs s O c) = EV (d + 8) 231 60 [.ref 285, .ref 1000006, .int (q_I x2), .int (q_I x3)] [.int (q_I 4), .int (q_I y1)] (q_h L xs s O c) := by
  rw [show d + 8 = d + 7 + 1 from rfl, C_231_57, if_neg (by omega)]
  rfl
theorem CM_75_6_0 (d : Nat) (L : Nat) (xs : Nat → Int32) (s : Nat → Int → Int32) (O : Nat → Int64) (c : Bool × Nat × Nat) (x2 x3 y2 : Int) : EV (d + 8) 231 75 [.ref 285, .ref 1000006, .int (q_I x2), .int (q_I x3)] [.int (q_I 0), .ref 1000006, .int (q_I y2)] (q_h L xs s O c) = EV (d + 8) 231 78 [.ref 285, .ref 1000006, .int (q_I x2), .int (q_I x3)] [.int (q_I 104), .int (q_I y2)] (q_h L xs s O c) := by
  rw [show d + 8 = d + 7 + 1 from rfl, C_231_75, if_neg (by omega)]
  rfl
theorem CM_75_6_1 (d : Nat) (L : Nat) (xs : Nat → Int32) (s : Nat → Int → Int32) (O : Nat → Int64) (c : Bool × Nat × Nat) (x2 x3 y2 : Int) : EV (d + 8) 231 75 [.ref 285, .ref 1000006, .int (q_I x2), .int (q_I x3)] [.int (q_I 1), .ref 1000006, .int (q_I y2)] (q_h L xs s O c) = EV (d + 8) 231 78 [.ref 285, .ref 1000006, .int (q_I x2), .int (q_I x3)] [.int (q_I 101), .int (q_I y2)] (q_h L xs s O c) := by
  rw [show d + 8 = d + 7 + 1 from rfl, C_231_75, if_neg (by omega)]
  rfl
theorem CM_75_6_2 (d : Nat) (L : Nat) (xs : Nat → Int32) (s : Nat → Int → Int32) (O : Nat → Int64) (c : Bool × Nat × Nat) (x2 x3 y2 : Int) : EV (d + 8) 231 75 [.ref 285, .ref 1000006, .int (q_I x2), .int (q_I x3)] [.int (q_I 2), .ref 1000006, .int (q_I y2)] (q_h L xs s O c) = EV (d + 8) 231 78 [.ref 285, .ref 1000006, .int (q_I x2), .int (q_I x3)] [.int (q_I 97), .int (q_I y2)] (q_h L xs s O c) := by
  rw [show d + 8 = d + 7 + 1 from rfl, C_231_75, if_neg (by omega)]
  rfl
theorem CM_75_6_3 (d : Nat) (L : Nat) (xs : Nat → Int32) (s : Nat → Int → Int32) (O : Nat → Int64) (c : Bool × Nat × Nat) (x2 x3 y2 : Int) : EV (d + 8) 231 75 [.ref 285, .ref 1000006, .int (q_I x2), .int (q_I x3)] [.int (q_I 3), .ref 1000006, .int (q_I y2)] (q_h L xs s O c) = EV (d + 8) 231 78 [.ref 285, .ref 1000006, .int (q_I x2), .int (q_I x3)] [.int (q_I 100), .int (q_I y2)] (q_h L xs s O c) := by
  rw [show d + 8 = d + 7 + 1 from rfl, C_231_75, if_neg (by omega)]
  rfl
theorem LM_45_7 (d : Nat) (L : Nat) (xs : Nat → Int32) (s : Nat → Int → Int32) (O : Nat → Int64) (c : Bool × Nat × Nat) (x2 : Int) (x3 : Value) (y1 : Int) : EV (d + 8) 231 45 [.ref 285, .ref 1000007, .int (q_I x2), x3] [.ref 1000007, .int (q_I y1)] (q_h L xs s O c) = EV (d + 8) 231 48 [.ref 285, .ref 1000007, .int (q_I x2), x3] [.int (q_I 4), .int (q_I y1)] (q_h L xs s O c) := by
  rw [show d + 8 = d + 7 + 1 from rfl, C_231_45, if_neg (by omega)]
  rfl
theorem LM_57_7 (d : Nat) (L : Nat) (xs : Nat → Int32) (s : Nat → Int → Int32) (O : Nat → Int64) (c : Bool × Nat × Nat) (x2 x3 y1 : Int) : EV (d + 8) 231 57 [.ref 285, .ref 1000007, .int (q_I x2), .int (q_I x3)] [.ref 1000007, .int (q_I y1)] (q_h L xs s O c) = EV (d + 8) 231 60 [.ref 285, .ref 1000007, .int (q_I x2), .int (q_I x3)] [.int (q_I 4), .int (q_I y1)] (q_h L xs s O c) := by
  rw [show d + 8 = d + 7 + 1 from rfl, C_231_57, if_neg (by omega)]
  rfl
theorem CM_75_7_0 (d : Nat) (L : Nat) (xs : Nat → Int32) (s : Nat → Int → Int32) (O : Nat → Int64) (c : Bool × Nat × Nat) (x2 x3 y2 : Int) : EV (d + 8) 231 75 [.ref 285, .ref 1000007, .int (q_I x2), .int (q_I x3)] [.int (q_I 0), .ref 1000007, .int (q_I y2)] (q_h L xs s O c) = EV (d + 8) 231 78 [.ref 285, .ref 1000007, .int (q_I x2), .int (q_I x3)] [.int (q_I 115), .int (q_I y2)] (q_h L xs s O c) := by
  rw [show d + 8 = d + 7 + 1 from rfl, C_231_75, if_neg (by omega)]
  rfl
theorem CM_75_7_1 (d : Nat) (L : Nat) (xs : Nat → Int32) (s : Nat → Int → Int32) (O : Nat → Int64) (c : Bool × Nat × Nat) (x2 x3 y2 : Int) : EV (d + 8) 231 75 [.ref 285, .ref 1000007, .int (q_I x2), .int (q_I x3)] [.int (q_I 1), .ref 1000007, .int (q_I y2)] (q_h L xs s O c) = EV (d + 8) 231 78 [.ref 285, .ref 1000007, .int (q_I x2), .int (q_I x3)] [.int (q_I 108), .int (q_I y2)] (q_h L xs s O c) := by
  rw [show d + 8 = d + 7 + 1 from rfl, C_231_75, if_neg (by omega)]
  rfl
theorem CM_75_7_2 (d : Nat) (L : Nat) (xs : Nat → Int32) (s : Nat → Int → Int32) (O : Nat → Int64) (c : Bool × Nat × Nat) (x2 x3 y2 : Int) : EV (d + 8) 231 75 [.ref 285, .ref 1000007, .int (q_I x2), .int (q_I x3)] [.int (q_I 2), .ref 1000007, .int (q_I y2)] (q_h L xs s O c) = EV (d + 8) 231 78 [.ref 285, .ref 1000007, .int (q_I x2), .int (q_I x3)] [.int (q_I 105), .int (q_I y2)] (q_h L xs s O c) := by
  rw [show d + 8 = d + 7 + 1 from rfl, C_231_75, if_neg (by omega)]
  rfl
theorem CM_75_7_3 (d : Nat) (L : Nat) (xs : Nat → Int32) (s : Nat → Int → Int32) (O : Nat → Int64) (c : Bool × Nat × Nat) (x2 x3 y2 : Int) : EV (d + 8) 231 75 [.ref 285, .ref 1000007, .int (q_I x2), .int (q_I x3)] [.int (q_I 3), .ref 1000007, .int (q_I y2)] (q_h L xs s O c) = EV (d + 8) 231 78 [.ref 285, .ref 1000007, .int (q_I x2), .int (q_I x3)] [.int (q_I 112), .int (q_I y2)] (q_h L xs s O c) := by
  rw [show d + 8 = d + 7 + 1 from rfl, C_231_75, if_neg (by omega)]
  rfl
theorem LM_45_8 (d : Nat) (L : Nat) (xs : Nat → Int32) (s : Nat → Int → Int32) (O : Nat → Int64) (c : Bool × Nat × Nat) (x2 : Int) (x3 : Value) (y1 : Int) : EV (d + 8) 231 45 [.ref 285, .ref 1000008, .int (q_I x2), x3] [.ref 1000008, .int (q_I y1)] (q_h L xs s O c) = EV (d + 8) 231 48 [.ref 285, .ref 1000008, .int (q_I x2), x3] [.int (q_I 4), .int (q_I y1)] (q_h L xs s O c) := by
  rw [show d + 8 = d + 7 + 1 from rfl, C_231_45, if_neg (by omega)]
  rfl
theorem LM_57_8 (d : Nat) (L : Nat) (xs : Nat → Int32) (s : Nat → Int → Int32) (O : Nat → Int64) (c : Bool × Nat × Nat) (x2 x3 y1 : Int) : EV (d + 8) 231 57 [.ref 285, .ref 1000008, .int (q_I x2), .int (q_I x3)] [.ref 1000008, .int (q_I y1)] (q_h L xs s O c) = EV (d + 8) 231 60 [.ref 285, .ref 1000008, .int (q_I x2), .int (q_I x3)] [.int (q_I 4), .int (q_I y1)] (q_h L xs s O c) := by
  rw [show d + 8 = d + 7 + 1 from rfl, C_231_57, if_neg (by omega)]
  rfl
theorem CM_75_8_0 (d : Nat) (L : Nat) (xs : Nat → Int32) (s : Nat → Int → Int32) (O : Nat → Int64) (c : Bool × Nat × Nat) (x2 x3 y2 : Int) : EV (d + 8) 231 75 [.ref 285, .ref 1000008, .int (q_I x2), .int (q_I x3)] [.int (q_I 0), .ref 1000008, .int (q_I y2)] (q_h L xs s O c) = EV (d + 8) 231 78 [.ref 285, .ref 1000008, .int (q_I x2), .int (q_I x3)] [.int (q_I 101), .int (q_I y2)] (q_h L xs s O c) := by
  rw [show d + 8 = d + 7 + 1 from rfl, C_231_75, if_neg (by omega)]
  rfl
theorem CM_75_8_1 (d : Nat) (L : Nat) (xs : Nat → Int32) (s : Nat → Int → Int32) (O : Nat → Int64) (c : Bool × Nat × Nat) (x2 x3 y2 : Int) : EV (d + 8) 231 75 [.ref 285, .ref 1000008, .int (q_I x2), .int (q_I x3)] [.int (q_I 1), .ref 1000008, .int (q_I y2)] (q_h L xs s O c) = EV (d + 8) 231 78 [.ref 285, .ref 1000008, .int (q_I x2), .int (q_I x3)] [.int (q_I 118), .int (q_I y2)] (q_h L xs s O c) := by
  rw [show d + 8 = d + 7 + 1 from rfl, C_231_75, if_neg (by omega)]
  rfl
theorem CM_75_8_2 (d : Nat) (L : Nat) (xs : Nat → Int32) (s : Nat → Int → Int32) (O : Nat → Int64) (c : Bool × Nat × Nat) (x2 x3 y2 : Int) : EV (d + 8) 231 75 [.ref 285, .ref 1000008, .int (q_I x2), .int (q_I x3)] [.int (q_I 2), .ref 1000008, .int (q_I y2)] (q_h L xs s O c) = EV (d + 8) 231 78 [.ref 285, .ref 1000008, .int (q_I x2), .int (q_I x3)] [.int (q_I 101), .int (q_I y2)] (q_h L xs s O c) := by
  rw [show d + 8 = d + 7 + 1 from rfl, C_231_75, if_neg (by omega)]
  rfl
theorem CM_75_8_3 (d : Nat) (L : Nat) (xs : Nat → Int32) (s : Nat → Int → Int32) (O : Nat → Int64) (c : Bool × Nat × Nat) (x2 x3 y2 : Int) : EV (d + 8) 231 75 [.ref 285, .ref 1000008, .int (q_I x2), .int (q_I x3)] [.int (q_I 3), .ref 1000008, .int (q_I y2)] (q_h L xs s O c) = EV (d + 8) 231 78 [.ref 285, .ref 1000008, .int (q_I x2), .int (q_I x3)] [.int (q_I 110), .int (q_I y2)] (q_h L xs s O c) := by
  rw [show d + 8 = d + 7 + 1 from rfl, C_231_75, if_neg (by omega)]
  rfl
theorem LM_45_9 (d : Nat) (L : Nat) (xs : Nat → Int32) (s : Nat → Int → Int32) (O : Nat → Int64) (c : Bool × Nat × Nat) (x2 : Int) (x3 : Value) (y1 : Int) : EV (d + 8) 231 45 [.ref 285, .ref 1000009, .int (q_I x2), x3] [.ref 1000009, .int (q_I y1)] (q_h L xs s O c) = EV (d + 8) 231 48 [.ref 285, .ref 1000009, .int (q_I x2), x3] [.int (q_I 4), .int (q_I y1)] (q_h L xs s O c) := by
  rw [show d + 8 = d + 7 + 1 from rfl, C_231_45, if_neg (by omega)]
  rfl
theorem LM_57_9 (d : Nat) (L : Nat) (xs : Nat → Int32) (s : Nat → Int → Int32) (O : Nat → Int64) (c : Bool × Nat × Nat) (x2 x3 y1 : Int) : EV (d + 8) 231 57 [.ref 285, .ref 1000009, .int (q_I x2), .int (q_I x3)] [.ref 1000009, .int (q_I y1)] (q_h L xs s O c) = EV (d + 8) 231 60 [.ref 285, .ref 1000009, .int (q_I x2), .int (q_I x3)] [.int (q_I 4), .int (q_I y1)] (q_h L xs s O c) := by
  rw [show d + 8 = d + 7 + 1 from rfl, C_231_57, if_neg (by omega)]
  rfl
theorem CM_75_9_0 (d : Nat) (L : Nat) (xs : Nat → Int32) (s : Nat → Int → Int32) (O : Nat → Int64) (c : Bool × Nat × Nat) (x2 x3 y2 : Int) : EV (d + 8) 231 75 [.ref 285, .ref 1000009, .int (q_I x2), .int (q_I x3)] [.int (q_I 0), .ref 1000009, .int (q_I y2)] (q_h L xs s O c) = EV (d + 8) 231 78 [.ref 285, .ref 1000009, .int (q_I x2), .int (q_I x3)] [.int (q_I 112), .int (q_I y2)] (q_h L xs s O c) := by
  rw [show d + 8 = d + 7 + 1 from rfl, C_231_75, if_neg (by omega)]
  rfl
theorem CM_75_9_1 (d : Nat) (L : Nat) (xs : Nat → Int32) (s : Nat → Int → Int32) (O : Nat → Int64) (c : Bool × Nat × Nat) (x2 x3 y2 : Int) : EV (d + 8) 231 75 [.ref 285, .ref 1000009, .int (q_I x2), .int (q_I x3)] [.int (q_I 1), .ref 1000009, .int (q_I y2)] (q_h L xs s O c) = EV (d + 8) 231 78 [.ref 285, .ref 1000009, .int (q_I x2), .int (q_I x3)] [.int (q_I 97), .int (q_I y2)] (q_h L xs s O c) := by
  rw [show d + 8 = d + 7 + 1 from rfl, C_231_75, if_neg (by omega)]
  rfl
theorem CM_75_9_2 (d : Nat) (L : Nat) (xs : Nat → Int32) (s : Nat → Int → Int32) (O : Nat → Int64) (c : Bool × Nat × Nat) (x2 x3 y2 : Int) : EV (d + 8) 231 75 [.ref 285, .ref 1000009, .int (q_I x2), .int (q_I x3)] [.int (q_I 2), .ref 1000009, .int (q_I y2)] (q_h L xs s O c) = EV (d + 8) 231 78 [.ref 285, .ref 1000009, .int (q_I x2), .int (q_I x3)] [.int (q_I 103), .int (q_I y2)] (q_h L xs s O c) := by
  rw [show d + 8 = d + 7 + 1 from rfl, C_231_75, if_neg (by omega)]
  rfl
theorem CM_75_9_3 (d : Nat) (L : Nat) (xs : Nat → Int32) (s : Nat → Int → Int32) (O : Nat → Int64) (c : Bool × Nat × Nat) (x2 x3 y2 : Int) : EV (d + 8) 231 75 [.ref 285, .ref 1000009, .int (q_I x2), .int (q_I x3)] [.int (q_I 3), .ref 1000009, .int (q_I y2)] (q_h L xs s O c) = EV (d + 8) 231 78 [.ref 285, .ref 1000009, .int (q_I x2), .int (q_I x3)] [.int (q_I 101), .int (q_I y2)] (q_h L xs s O c) := by
  rw [show d + 8 = d + 7 + 1 from rfl, C_231_75, if_neg (by omega)]
  rfl
theorem LM_45_10 (d : Nat) (L : Nat) (xs : Nat → Int32) (s : Nat → Int → Int32) (O : Nat → Int64) (c : Bool × Nat × Nat) (x2 : Int) (x3 : Value) (y1 : Int) : EV (d + 8) 231 45 [.ref 285, .ref 1000010, .int (q_I x2), x3] [.ref 1000010, .int (q_I y1)] (q_h L xs s O c) = EV (d + 8) 231 48 [.ref 285, .ref 1000010, .int (q_I x2), x3] [.int (q_I 4), .int (q_I y1)] (q_h L xs s O c) := by
  rw [show d + 8 = d + 7 + 1 from rfl, C_231_45, if_neg (by omega)]
  rfl
theorem LM_57_10 (d : Nat) (L : Nat) (xs : Nat → Int32) (s : Nat → Int → Int32) (O : Nat → Int64) (c : Bool × Nat × Nat) (x2 x3 y1 : Int) : EV (d + 8) 231 57 [.ref 285, .ref 1000010, .int (q_I x2), .int (q_I x3)] [.ref 1000010, .int (q_I y1)] (q_h L xs s O c) = EV (d + 8) 231 60 [.ref 285, .ref 1000010, .int (q_I x2), .int (q_I x3)] [.int (q_I 4), .int (q_I y1)] (q_h L xs s O c) := by
  rw [show d + 8 = d + 7 + 1 from rfl, C_231_57, if_neg (by omega)]
  rfl
theorem CM_75_10_0 (d : Nat) (L : Nat) (xs : Nat → Int32) (s : Nat → Int → Int32) (O : Nat → Int64) (c : Bool × Nat × Nat) (x2 x3 y2 : Int) : EV (d + 8) 231 75 [.ref 285, .ref 1000010, .int (q_I x2), .int (q_I x3)] [.int (q_I 0), .ref 1000010, .int (q_I y2)] (q_h L xs s O c) = EV (d + 8) 231 78 [.ref 285, .ref 1000010, .int (q_I x2), .int (q_I x3)] [.int (q_I 107), .int (q_I y2)] (q_h L xs s O c) := by
  rw [show d + 8 = d + 7 + 1 from rfl, C_231_75, if_neg (by omega)]
  rfl
theorem CM_75_10_1 (d : Nat) (L : Nat) (xs : Nat → Int32) (s : Nat → Int → Int32) (O : Nat → Int64) (c : Bool × Nat × Nat) (x2 x3 y2 : Int) : EV (d + 8) 231 75 [.ref 285, .ref 1000010, .int (q_I x2), .int (q_I x3)] [.int (q_I 1), .ref 1000010, .int (q_I y2)] (q_h L xs s O c) = EV (d + 8) 231 78 [.ref 285, .ref 1000010, .int (q_I x2), .int (q_I x3)] [.int (q_I 105), .int (q_I y2)] (q_h L xs s O c) := by
  rw [show d + 8 = d + 7 + 1 from rfl, C_231_75, if_neg (by omega)]
  rfl
theorem CM_75_10_2 (d : Nat) (L : Nat) (xs : Nat → Int32) (s : Nat → Int → Int32) (O : Nat → Int64) (c : Bool × Nat × Nat) (x2 x3 y2 : Int) : EV (d + 8) 231 75 [.ref 285, .ref 1000010, .int (q_I x2), .int (q_I x3)] [.int (q_I 2), .ref 1000010, .int (q_I y2)] (q_h L xs s O c) = EV (d + 8) 231 78 [.ref 285, .ref 1000010, .int (q_I x2), .int (q_I x3)] [.int (q_I 110), .int (q_I y2)] (q_h L xs s O c) := by
  rw [show d + 8 = d + 7 + 1 from rfl, C_231_75, if_neg (by omega)]
  rfl
theorem CM_75_10_3 (d : Nat) (L : Nat) (xs : Nat → Int32) (s : Nat → Int → Int32) (O : Nat → Int64) (c : Bool × Nat × Nat) (x2 x3 y2 : Int) : EV (d + 8) 231 75 [.ref 285, .ref 1000010, .int (q_I x2), .int (q_I x3)] [.int (q_I 3), .ref 1000010, .int (q_I y2)] (q_h L xs s O c) = EV (d + 8) 231 78 [.ref 285, .ref 1000010, .int (q_I x2), .int (q_I x3)] [.int (q_I 100), .int (q_I y2)] (q_h L xs s O c) := by
  rw [show d + 8 = d + 7 + 1 from rfl, C_231_75, if_neg (by omega)]
  rfl
theorem LM_45_11 (d : Nat) (L : Nat) (xs : Nat → Int32) (s : Nat → Int → Int32) (O : Nat → Int64) (c : Bool × Nat × Nat) (x2 : Int) (x3 : Value) (y1 : Int) : EV (d + 8) 231 45 [.ref 285, .ref 1000011, .int (q_I x2), x3] [.ref 1000011, .int (q_I y1)] (q_h L xs s O c) = EV (d + 8) 231 48 [.ref 285, .ref 1000011, .int (q_I x2), x3] [.int (q_I 4), .int (q_I y1)] (q_h L xs s O c) := by
  rw [show d + 8 = d + 7 + 1 from rfl, C_231_45, if_neg (by omega)]
  rfl
theorem LM_57_11 (d : Nat) (L : Nat) (xs : Nat → Int32) (s : Nat → Int → Int32) (O : Nat → Int64) (c : Bool × Nat × Nat) (x2 x3 y1 : Int) : EV (d + 8) 231 57 [.ref 285, .ref 1000011, .int (q_I x2), .int (q_I x3)] [.ref 1000011, .int (q_I y1)] (q_h L xs s O c) = EV (d + 8) 231 60 [.ref 285, .ref 1000011, .int (q_I x2), .int (q_I x3)] [.int (q_I 4), .int (q_I y1)] (q_h L xs s O c) := by
  rw [show d + 8 = d + 7 + 1 from rfl, C_231_57, if_neg (by omega)]
  rfl
theorem CM_75_11_0 (d : Nat) (L : Nat) (xs : Nat → Int32) (s : Nat → Int → Int32) (O : Nat → Int64) (c : Bool × Nat × Nat) (x2 x3 y2 : Int) : EV (d + 8) 231 75 [.ref 285, .ref 1000011, .int (q_I x2), .int (q_I x3)] [.int (q_I 0), .ref 1000011, .int (q_I y2)] (q_h L xs s O c) = EV (d + 8) 231 78 [.ref 285, .ref 1000011, .int (q_I x2), .int (q_I x3)] [.int (q_I 119), .int (q_I y2)] (q_h L xs s O c) := by
  rw [show d + 8 = d + 7 + 1 from rfl, C_231_75, if_neg (by omega)]
  rfl
theorem CM_75_11_1 (d : Nat) (L : Nat) (xs : Nat → Int32) (s : Nat → Int → Int32) (O : Nat → Int64) (c : Bool × Nat × Nat) (x2 x3 y2 : Int) : EV (d + 8) 231 75 [.ref 285, .ref 1000011, .int (q_I x2), .int (q_I x3)] [.int (q_I 1), .ref 1000011, .int (q_I y2)] (q_h L xs s O c) = EV (d + 8) 231 78 [.ref 285, .ref 1000011, .int (q_I x2), .int (q_I x3)] [.int (q_I 101), .int (q_I y2)] (q_h L xs s O c) := by
  rw [show d + 8 = d + 7 + 1 from rfl, C_231_75, if_neg (by omega)]
  rfl
theorem CM_75_11_2 (d : Nat) (L : Nat) (xs : Nat → Int32) (s : Nat → Int → Int32) (O : Nat → Int64) (c : Bool × Nat × Nat) (x2 x3 y2 : Int) : EV (d + 8) 231 75 [.ref 285, .ref 1000011, .int (q_I x2), .int (q_I x3)] [.int (q_I 2), .ref 1000011, .int (q_I y2)] (q_h L xs s O c) = EV (d + 8) 231 78 [.ref 285, .ref 1000011, .int (q_I x2), .int (q_I x3)] [.int (q_I 97), .int (q_I y2)] (q_h L xs s O c) := by
  rw [show d + 8 = d + 7 + 1 from rfl, C_231_75, if_neg (by omega)]
  rfl
theorem CM_75_11_3 (d : Nat) (L : Nat) (xs : Nat → Int32) (s : Nat → Int → Int32) (O : Nat → Int64) (c : Bool × Nat × Nat) (x2 x3 y2 : Int) : EV (d + 8) 231 75 [.ref 285, .ref 1000011, .int (q_I x2), .int (q_I x3)] [.int (q_I 3), .ref 1000011, .int (q_I y2)] (q_h L xs s O c) = EV (d + 8) 231 78 [.ref 285, .ref 1000011, .int (q_I x2), .int (q_I x3)] [.int (q_I 114), .int (q_I y2)] (q_h L xs s O c) := by
  rw [show d + 8 = d + 7 + 1 from rfl, C_231_75, if_neg (by omega)]
  rfl
theorem LM_45_12 (d : Nat) (L : Nat) (xs : Nat → Int32) (s : Nat → Int → Int32) (O : Nat → Int64) (c : Bool × Nat × Nat) (x2 : Int) (x3 : Value) (y1 : Int) : EV (d + 8) 231 45 [.ref 285, .ref 1000012, .int (q_I x2), x3] [.ref 1000012, .int (q_I y1)] (q_h L xs s O c) = EV (d + 8) 231 48 [.ref 285, .ref 1000012, .int (q_I x2), x3] [.int (q_I 4), .int (q_I y1)] (q_h L xs s O c) := by
  rw [show d + 8 = d + 7 + 1 from rfl, C_231_45, if_neg (by omega)]
  rfl
theorem LM_57_12 (d : Nat) (L : Nat) (xs : Nat → Int32) (s : Nat → Int → Int32) (O : Nat → Int64) (c : Bool × Nat × Nat) (x2 x3 y1 : Int) : EV (d + 8) 231 57 [.ref 285, .ref 1000012, .int (q_I x2), .int (q_I x3)] [.ref 1000012, .int (q_I y1)] (q_h L xs s O c) = EV (d + 8) 231 60 [.ref 285, .ref 1000012, .int (q_I x2), .int (q_I x3)] [.int (q_I 4), .int (q_I y1)] (q_h L xs s O c) := by
  rw [show d + 8 = d + 7 + 1 from rfl, C_231_57, if_neg (by omega)]
  rfl
theorem CM_75_12_0 (d : Nat) (L : Nat) (xs : Nat → Int32) (s : Nat → Int → Int32) (O : Nat → Int64) (c : Bool × Nat × Nat) (x2 x3 y2 : Int) : EV (d + 8) 231 75 [.ref 285, .ref 1000012, .int (q_I x2), .int (q_I x3)] [.int (q_I 0), .ref 1000012, .int (q_I y2)] (q_h L xs s O c) = EV (d + 8) 231 78 [.ref 285, .ref 1000012, .int (q_I x2), .int (q_I x3)] [.int (q_I 114), .int (q_I y2)] (q_h L xs s O c) := by
  rw [show d + 8 = d + 7 + 1 from rfl, C_231_75, if_neg (by omega)]
  rfl
theorem CM_75_12_1 (d : Nat) (L : Nat) (xs : Nat → Int32) (s : Nat → Int → Int32) (O : Nat → Int64) (c : Bool × Nat × Nat) (x2 x3 y2 : Int) : EV (d + 8) 231 75 [.ref 285, .ref 1000012, .int (q_I x2), .int (q_I x3)] [.int (q_I 1), .ref 1000012, .int (q_I y2)] (q_h L xs s O c) = EV (d + 8) 231 78 [.ref 285, .ref 1000012, .int (q_I x2), .int (q_I x3)] [.int (q_I 111), .int (q_I y2)] (q_h L xs s O c) := by
  rw [show d + 8 = d + 7 + 1 from rfl, C_231_75, if_neg (by omega)]
  rfl
theorem CM_75_12_2 (d : Nat) (L : Nat) (xs : Nat → Int32) (s : Nat → Int → Int32) (O : Nat → Int64) (c : Bool × Nat × Nat) (x2 x3 y2 : Int) : EV (d + 8) 231 75 [.ref 285, .ref 1000012, .int (q_I x2), .int (q_I x3)] [.int (q_I 2), .ref 1000012, .int (q_I y2)] (q_h L xs s O c) = EV (d + 8) 231 78 [.ref 285, .ref 1000012, .int (q_I x2), .int (q_I x3)] [.int (q_I 119), .int (q_I y2)] (q_h L xs s O c) := by
  rw [show d + 8 = d + 7 + 1 from rfl, C_231_75, if_neg (by omega)]
  rfl
theorem CM_75_12_3 (d : Nat) (L : Nat) (xs : Nat → Int32) (s : Nat → Int → Int32) (O : Nat → Int64) (c : Bool × Nat × Nat) (x2 x3 y2 : Int) : EV (d + 8) 231 75 [.ref 285, .ref 1000012, .int (q_I x2), .int (q_I x3)] [.int (q_I 3), .ref 1000012, .int (q_I y2)] (q_h L xs s O c) = EV (d + 8) 231 78 [.ref 285, .ref 1000012, .int (q_I x2), .int (q_I x3)] [.int (q_I 115), .int (q_I y2)] (q_h L xs s O c) := by
  rw [show d + 8 = d + 7 + 1 from rfl, C_231_75, if_neg (by omega)]
  rfl
theorem LM_45_13 (d : Nat) (L : Nat) (xs : Nat → Int32) (s : Nat → Int → Int32) (O : Nat → Int64) (c : Bool × Nat × Nat) (x2 : Int) (x3 : Value) (y1 : Int) : EV (d + 8) 231 45 [.ref 285, .ref 1000013, .int (q_I x2), x3] [.ref 1000013, .int (q_I y1)] (q_h L xs s O c) = EV (d + 8) 231 48 [.ref 285, .ref 1000013, .int (q_I x2), x3] [.int (q_I 7), .int (q_I y1)] (q_h L xs s O c) := by
  rw [show d + 8 = d + 7 + 1 from rfl, C_231_45, if_neg (by omega)]
  rfl
theorem LM_57_13 (d : Nat) (L : Nat) (xs : Nat → Int32) (s : Nat → Int → Int32) (O : Nat → Int64) (c : Bool × Nat × Nat) (x2 x3 y1 : Int) : EV (d + 8) 231 57 [.ref 285, .ref 1000013, .int (q_I x2), .int (q_I x3)] [.ref 1000013, .int (q_I y1)] (q_h L xs s O c) = EV (d + 8) 231 60 [.ref 285, .ref 1000013, .int (q_I x2), .int (q_I x3)] [.int (q_I 7), .int (q_I y1)] (q_h L xs s O c) := by
  rw [show d + 8 = d + 7 + 1 from rfl, C_231_57, if_neg (by omega)]
  rfl
theorem CM_75_13_0 (d : Nat) (L : Nat) (xs : Nat → Int32) (s : Nat → Int → Int32) (O : Nat → Int64) (c : Bool × Nat × Nat) (x2 x3 y2 : Int) : EV (d + 8) 231 75 [.ref 285, .ref 1000013, .int (q_I x2), .int (q_I x3)] [.int (q_I 0), .ref 1000013, .int (q_I y2)] (q_h L xs s O c) = EV (d + 8) 231 78 [.ref 285, .ref 1000013, .int (q_I x2), .int (q_I x3)] [.int (q_I 118), .int (q_I y2)] (q_h L xs s O c) := by
  rw [show d + 8 = d + 7 + 1 from rfl, C_231_75, if_neg (by omega)]
  rfl
theorem CM_75_13_1 (d : Nat) (L : Nat) (xs : Nat → Int32) (s : Nat → Int → Int32) (O : Nat → Int64) (c : Bool × Nat × Nat) (x2 x3 y2 : Int) : EV (d + 8) 231 75 [.ref 285, .ref 1000013, .int (q_I x2), .int (q_I x3)] [.int (q_I 1), .ref 1000013, .int (q_I y2)] (q_h L xs s O c) = EV (d + 8) 231 78 [.ref 285, .ref 1000013, .int (q_I x2), .int (q_I x3)] [.int (q_I 101), .int (q_I y2)] (q_h L xs s O c) := by
  rw [show d + 8 = d + 7 + 1 from rfl, C_231_75, if_neg (by omega)]
  rfl
theorem CM_75_13_2 (d : Nat) (L : Nat) (xs : Nat → Int32) (s : Nat → Int → Int32) (O : Nat → Int64) (c : Bool × Nat × Nat) (x2 x3 y2 : Int) : EV (d + 8) 231 75 [.ref 285, .ref 1000013, .int (q_I x2), .int (q_I x3)] [.int (q_I 2), .ref 1000013, .int (q_I y2)] (q_h L xs s O c) = EV (d + 8) 231 78 [.ref 285, .ref 1000013, .int (q_I x2), .int (q_I x3)] [.int (q_I 114), .int (q_I y2)] (q_h L xs s O c) := by
  rw [show d + 8 = d + 7 + 1 from rfl, C_231_75, if_neg (by omega)]
  rfl
theorem CM_75_13_3 (d : Nat) (L : Nat) (xs : Nat → Int32) (s : Nat → Int → Int32) (O : Nat → Int64) (c : Bool × Nat × Nat) (x2 x3 y2 : Int) : EV (d + 8) 231 75 [.ref 285, .ref 1000013, .int (q_I x2), .int (q_I x3)] [.int (q_I 3), .ref 1000013, .int (q_I y2)] (q_h L xs s O c) = EV (d + 8) 231 78 [.ref 285, .ref 1000013, .int (q_I x2), .int (q_I x3)] [.int (q_I 115), .int (q_I y2)] (q_h L xs s O c) := by
  rw [show d + 8 = d + 7 + 1 from rfl, C_231_75, if_neg (by omega)]
  rfl
theorem CM_75_13_4 (d : Nat) (L : Nat) (xs : Nat → Int32) (s : Nat → Int → Int32) (O : Nat → Int64) (c : Bool × Nat × Nat) (x2 x3 y2 : Int) : EV (d + 8) 231 75 [.ref 285, .ref 1000013, .int (q_I x2), .int (q_I x3)] [.int (q_I 4), .ref 1000013, .int (q_I y2)] (q_h L xs s O c) = EV (d + 8) 231 78 [.ref 285, .ref 1000013, .int (q_I x2), .int (q_I x3)] [.int (q_I 105), .int (q_I y2)] (q_h L xs s O c) := by
  rw [show d + 8 = d + 7 + 1 from rfl, C_231_75, if_neg (by omega)]
  rfl
theorem CM_75_13_5 (d : Nat) (L : Nat) (xs : Nat → Int32) (s : Nat → Int → Int32) (O : Nat → Int64) (c : Bool × Nat × Nat) (x2 x3 y2 : Int) : EV (d + 8) 231 75 [.ref 285, .ref 1000013, .int (q_I x2), .int (q_I x3)] [.int (q_I 5), .ref 1000013, .int (q_I y2)] (q_h L xs s O c) = EV (d + 8) 231 78 [.ref 285, .ref 1000013, .int (q_I x2), .int (q_I x3)] [.int (q_I 111), .int (q_I y2)] (q_h L xs s O c) := by
  rw [show d + 8 = d + 7 + 1 from rfl, C_231_75, if_neg (by omega)]
  rfl
theorem CM_75_13_6 (d : Nat) (L : Nat) (xs : Nat → Int32) (s : Nat → Int → Int32) (O : Nat → Int64) (c : Bool × Nat × Nat) (x2 x3 y2 : Int) : EV (d + 8) 231 75 [.ref 285, .ref 1000013, .int (q_I x2), .int (q_I x3)] [.int (q_I 6), .ref 1000013, .int (q_I y2)] (q_h L xs s O c) = EV (d + 8) 231 78 [.ref 285, .ref 1000013, .int (q_I x2), .int (q_I x3)] [.int (q_I 110), .int (q_I y2)] (q_h L xs s O c) := by
  rw [show d + 8 = d + 7 + 1 from rfl, C_231_75, if_neg (by omega)]
  rfl
theorem LM_45_14 (d : Nat) (L : Nat) (xs : Nat → Int32) (s : Nat → Int → Int32) (O : Nat → Int64) (c : Bool × Nat × Nat) (x2 : Int) (x3 : Value) (y1 : Int) : EV (d + 8) 231 45 [.ref 285, .ref 1000014, .int (q_I x2), x3] [.ref 1000014, .int (q_I y1)] (q_h L xs s O c) = EV (d + 8) 231 48 [.ref 285, .ref 1000014, .int (q_I x2), x3] [.int (q_I 7), .int (q_I y1)] (q_h L xs s O c) := by
  rw [show d + 8 = d + 7 + 1 from rfl, C_231_45, if_neg (by omega)]
  rfl
theorem LM_57_14 (d : Nat) (L : Nat) (xs : Nat → Int32) (s : Nat → Int → Int32) (O : Nat → Int64) (c : Bool × Nat × Nat) (x2 x3 y1 : Int) : EV (d + 8) 231 57 [.ref 285, .ref 1000014, .int (q_I x2), .int (q_I x3)] [.ref 1000014, .int (q_I y1)] (q_h L xs s O c) = EV (d + 8) 231 60 [.ref 285, .ref 1000014, .int (q_I x2), .int (q_I x3)] [.int (q_I 7), .int (q_I y1)] (q_h L xs s O c) := by
  rw [show d + 8 = d + 7 + 1 from rfl, C_231_57, if_neg (by omega)]
  rfl
theorem CM_75_14_0 (d : Nat) (L : Nat) (xs : Nat → Int32) (s : Nat → Int → Int32) (O : Nat → Int64) (c : Bool × Nat × Nat) (x2 x3 y2 : Int) : EV (d + 8) 231 75 [.ref 285, .ref 1000014, .int (q_I x2), .int (q_I x3)] [.int (q_I 0), .ref 1000014, .int (q_I y2)] (q_h L xs s O c) = EV (d + 8) 231 78 [.ref 285, .ref 1000014, .int (q_I x2), .int (q_I x3)] [.int (q_I 114), .int (q_I y2)] (q_h L xs s O c) := by
  rw [show d + 8 = d + 7 + 1 from rfl, C_231_75, if_neg (by omega)]
  rfl
theorem CM_75_14_1 (d : Nat) (L : Nat) (xs : Nat → Int32) (s : Nat → Int → Int32) (O : Nat → Int64) (c : Bool × Nat × Nat) (x2 x3 y2 : Int) : EV (d + 8) 231 75 [.ref 285, .ref 1000014, .int (q_I x2), .int (q_I x3)] [.int (q_I 1), .ref 1000014, .int (q_I y2)] (q_h L xs s O c) = EV (d + 8) 231 78 [.ref 285, .ref 1000014, .int (q_I x2), .int (q_I x3)] [.int (q_I 101), .int (q_I y2)] (q_h L xs s O c) := by
  rw [show d + 8 = d + 7 + 1 from rfl, C_231_75, if_neg (by omega)]
  rfl
theorem CM_75_14_2 (d : Nat) (L : Nat) (xs : Nat → Int32) (s : Nat → Int → Int32) (O : Nat → Int64) (c : Bool × Nat × Nat) (x2 x3 y2 : Int) : EV (d + 8) 231 75 [.ref 285, .ref 1000014, .int (q_I x2), .int (q_I x3)] [.int (q_I 2), .ref 1000014, .int (q_I y2)] (q_h L xs s O c) = EV (d + 8) 231 78 [.ref 285, .ref 1000014, .int (q_I x2), .int (q_I x3)] [.int (q_I 97), .int (q_I y2)] (q_h L xs s O c) := by
  rw [show d + 8 = d + 7 + 1 from rfl, C_231_75, if_neg (by omega)]
  rfl
theorem CM_75_14_3 (d : Nat) (L : Nat) (xs : Nat → Int32) (s : Nat → Int → Int32) (O : Nat → Int64) (c : Bool × Nat × Nat) (x2 x3 y2 : Int) : EV (d + 8) 231 75 [.ref 285, .ref 1000014, .int (q_I x2), .int (q_I x3)] [.int (q_I 3), .ref 1000014, .int (q_I y2)] (q_h L xs s O c) = EV (d + 8) 231 78 [.ref 285, .ref 1000014, .int (q_I x2), .int (q_I x3)] [.int (q_I 100), .int (q_I y2)] (q_h L xs s O c) := by
  rw [show d + 8 = d + 7 + 1 from rfl, C_231_75, if_neg (by omega)]
  rfl
theorem CM_75_14_4 (d : Nat) (L : Nat) (xs : Nat → Int32) (s : Nat → Int → Int32) (O : Nat → Int64) (c : Bool × Nat × Nat) (x2 x3 y2 : Int) : EV (d + 8) 231 75 [.ref 285, .ref 1000014, .int (q_I x2), .int (q_I x3)] [.int (q_I 4), .ref 1000014, .int (q_I y2)] (q_h L xs s O c) = EV (d + 8) 231 78 [.ref 285, .ref 1000014, .int (q_I x2), .int (q_I x3)] [.int (q_I 101), .int (q_I y2)] (q_h L xs s O c) := by
  rw [show d + 8 = d + 7 + 1 from rfl, C_231_75, if_neg (by omega)]
  rfl
theorem CM_75_14_5 (d : Nat) (L : Nat) (xs : Nat → Int32) (s : Nat → Int → Int32) (O : Nat → Int64) (c : Bool × Nat × Nat) (x2 x3 y2 : Int) : EV (d + 8) 231 75 [.ref 285, .ref 1000014, .int (q_I x2), .int (q_I x3)] [.int (q_I 5), .ref 1000014, .int (q_I y2)] (q_h L xs s O c) = EV (d + 8) 231 78 [.ref 285, .ref 1000014, .int (q_I x2), .int (q_I x3)] [.int (q_I 114), .int (q_I y2)] (q_h L xs s O c) := by
  rw [show d + 8 = d + 7 + 1 from rfl, C_231_75, if_neg (by omega)]
  rfl
theorem CM_75_14_6 (d : Nat) (L : Nat) (xs : Nat → Int32) (s : Nat → Int → Int32) (O : Nat → Int64) (c : Bool × Nat × Nat) (x2 x3 y2 : Int) : EV (d + 8) 231 75 [.ref 285, .ref 1000014, .int (q_I x2), .int (q_I x3)] [.int (q_I 6), .ref 1000014, .int (q_I y2)] (q_h L xs s O c) = EV (d + 8) 231 78 [.ref 285, .ref 1000014, .int (q_I x2), .int (q_I x3)] [.int (q_I 115), .int (q_I y2)] (q_h L xs s O c) := by
  rw [show d + 8 = d + 7 + 1 from rfl, C_231_75, if_neg (by omega)]
  rfl
theorem LM_45_15 (d : Nat) (L : Nat) (xs : Nat → Int32) (s : Nat → Int → Int32) (O : Nat → Int64) (c : Bool × Nat × Nat) (x2 : Int) (x3 : Value) (y1 : Int) : EV (d + 8) 231 45 [.ref 285, .ref 1000015, .int (q_I x2), x3] [.ref 1000015, .int (q_I y1)] (q_h L xs s O c) = EV (d + 8) 231 48 [.ref 285, .ref 1000015, .int (q_I x2), x3] [.int (q_I 4), .int (q_I y1)] (q_h L xs s O c) := by
  rw [show d + 8 = d + 7 + 1 from rfl, C_231_45, if_neg (by omega)]
  rfl
theorem LM_57_15 (d : Nat) (L : Nat) (xs : Nat → Int32) (s : Nat → Int → Int32) (O : Nat → Int64) (c : Bool × Nat × Nat) (x2 x3 y1 : Int) : EV (d + 8) 231 57 [.ref 285, .ref 1000015, .int (q_I x2), .int (q_I x3)] [.ref 1000015, .int (q_I y1)] (q_h L xs s O c) = EV (d + 8) 231 60 [.ref 285, .ref 1000015, .int (q_I x2), .int (q_I x3)] [.int (q_I 4), .int (q_I y1)] (q_h L xs s O c) := by
  rw [show d + 8 = d + 7 + 1 from rfl, C_231_57, if_neg (by omega)]
  rfl
theorem CM_75_15_0 (d : Nat) (L : Nat) (xs : Nat → Int32) (s : Nat → Int → Int32) (O : Nat → Int64) (c : Bool × Nat × Nat) (x2 x3 y2 : Int) : EV (d + 8) 231 75 [.ref 285, .ref 1000015, .int (q_I x2), .int (q_I x3)] [.int (q_I 0), .ref 1000015, .int (q_I y2)] (q_h L xs s O c) = EV (d + 8) 231 78 [.ref 285, .ref 1000015, .int (q_I x2), .int (q_I x3)] [.int (q_I 116), .int (q_I y2)] (q_h L xs s O c) := by
  rw [show d + 8 = d + 7 + 1 from rfl, C_231_75, if_neg (by omega)]
  rfl
theorem CM_75_15_1 (d : Nat) (L : Nat) (xs : Nat → Int32) (s : Nat → Int → Int32) (O : Nat → Int64) (c : Bool × Nat × Nat) (x2 x3 y2 : Int) : EV (d + 8) 231 75 [.ref 285, .ref 1000015, .int (q_I x2), .int (q_I x3)] [.int (q_I 1), .ref 1000015, .int (q_I y2)] (q_h L xs s O c) = EV (d + 8) 231 78 [.ref 285, .ref 1000015, .int (q_I x2), .int (q_I x3)] [.int (q_I 105), .int (q_I y2)] (q_h L xs s O c) := by
  rw [show d + 8 = d + 7 + 1 from rfl, C_231_75, if_neg (by omega)]
  rfl
theorem CM_75_15_2 (d : Nat) (L : Nat) (xs : Nat → Int32) (s : Nat → Int → Int32) (O : Nat → Int64) (c : Bool × Nat × Nat) (x2 x3 y2 : Int) : EV (d + 8) 231 75 [.ref 285, .ref 1000015, .int (q_I x2), .int (q_I x3)] [.int (q_I 2), .ref 1000015, .int (q_I y2)] (q_h L xs s O c) = EV (d + 8) 231 78 [.ref 285, .ref 1000015, .int (q_I x2), .int (q_I x3)] [.int (q_I 99), .int (q_I y2)] (q_h L xs s O c) := by
  rw [show d + 8 = d + 7 + 1 from rfl, C_231_75, if_neg (by omega)]
  rfl
theorem CM_75_15_3 (d : Nat) (L : Nat) (xs : Nat → Int32) (s : Nat → Int → Int32) (O : Nat → Int64) (c : Bool × Nat × Nat) (x2 x3 y2 : Int) : EV (d + 8) 231 75 [.ref 285, .ref 1000015, .int (q_I x2), .int (q_I x3)] [.int (q_I 3), .ref 1000015, .int (q_I y2)] (q_h L xs s O c) = EV (d + 8) 231 78 [.ref 285, .ref 1000015, .int (q_I x2), .int (q_I x3)] [.int (q_I 107), .int (q_I y2)] (q_h L xs s O c) := by
  rw [show d + 8 = d + 7 + 1 from rfl, C_231_75, if_neg (by omega)]
  rfl
theorem LM_45_16 (d : Nat) (L : Nat) (xs : Nat → Int32) (s : Nat → Int → Int32) (O : Nat → Int64) (c : Bool × Nat × Nat) (x2 : Int) (x3 : Value) (y1 : Int) : EV (d + 8) 231 45 [.ref 285, .ref 1000016, .int (q_I x2), x3] [.ref 1000016, .int (q_I y1)] (q_h L xs s O c) = EV (d + 8) 231 48 [.ref 285, .ref 1000016, .int (q_I x2), x3] [.int (q_I 3), .int (q_I y1)] (q_h L xs s O c) := by
  rw [show d + 8 = d + 7 + 1 from rfl, C_231_45, if_neg (by omega)]
  rfl
theorem LM_57_16 (d : Nat) (L : Nat) (xs : Nat → Int32) (s : Nat → Int → Int32) (O : Nat → Int64) (c : Bool × Nat × Nat) (x2 x3 y1 : Int) : EV (d + 8) 231 57 [.ref 285, .ref 1000016, .int (q_I x2), .int (q_I x3)] [.ref 1000016, .int (q_I y1)] (q_h L xs s O c) = EV (d + 8) 231 60 [.ref 285, .ref 1000016, .int (q_I x2), .int (q_I x3)] [.int (q_I 3), .int (q_I y1)] (q_h L xs s O c) := by
  rw [show d + 8 = d + 7 + 1 from rfl, C_231_57, if_neg (by omega)]
  rfl
theorem CM_75_16_0 (d : Nat) (L : Nat) (xs : Nat → Int32) (s : Nat → Int → Int32) (O : Nat → Int64) (c : Bool × Nat × Nat) (x2 x3 y2 : Int) : EV (d + 8) 231 75 [.ref 285, .ref 1000016, .int (q_I x2), .int (q_I x3)] [.int (q_I 0), .ref 1000016, .int (q_I y2)] (q_h L xs s O c) = EV (d + 8) 231 78 [.ref 285, .ref 1000016, .int (q_I x2), .int (q_I x3)] [.int (q_I 97), .int (q_I y2)] (q_h L xs s O c) := by
  rw [show d + 8 = d + 7 + 1 from rfl, C_231_75, if_neg (by omega)]
  rfl
theorem CM_75_16_1 (d : Nat) (L : Nat) (xs : Nat → Int32) (s : Nat → Int → Int32) (O : Nat → Int64) (c : Bool × Nat × Nat) (x2 x3 y2 : Int) : EV (d + 8) 231 75 [.ref 285, .ref 1000016, .int (q_I x2), .int (q_I x3)] [.int (q_I 1), .ref 1000016, .int (q_I y2)] (q_h L xs s O c) = EV (d + 8) 231 78 [.ref 285, .ref 1000016, .int (q_I x2), .int (q_I x3)] [.int (q_I 110), .int (q_I y2)] (q_h L xs s O c) := by
  rw [show d + 8 = d + 7 + 1 from rfl, C_231_75, if_neg (by omega)]
  rfl
theorem CM_75_16_2 (d : Nat) (L : Nat) (xs : Nat → Int32) (s : Nat → Int → Int32) (O : Nat → Int64) (c : Bool × Nat × Nat) (x2 x3 y2 : Int) : EV (d + 8) 231 75 [.ref 285, .ref 1000016, .int (q_I x2), .int (q_I x3)] [.int (q_I 2), .ref 1000016, .int (q_I y2)] (q_h L xs s O c) = EV (d + 8) 231 78 [.ref 285, .ref 1000016, .int (q_I x2), .int (q_I x3)] [.int (q_I 100), .int (q_I y2)] (q_h L xs s O c) := by
  rw [show d + 8 = d + 7 + 1 from rfl, C_231_75, if_neg (by omega)]
  rfl
theorem LM_45_17 (d : Nat) (L : Nat) (xs : Nat → Int32) (s : Nat → Int → Int32) (O : Nat → Int64) (c : Bool × Nat × Nat) (x2 : Int) (x3 : Value) (y1 : Int) : EV (d + 8) 231 45 [.ref 285, .ref 1000017, .int (q_I x2), x3] [.ref 1000017, .int (q_I y1)] (q_h L xs s O c) = EV (d + 8) 231 48 [.ref 285, .ref 1000017, .int (q_I x2), x3] [.int (q_I 2), .int (q_I y1)] (q_h L xs s O c) := by
  rw [show d + 8 = d + 7 + 1 from rfl, C_231_45, if_neg (by omega)]
  rfl
theorem LM_57_17 (d : Nat) (L : Nat) (xs : Nat → Int32) (s : Nat → Int → Int32) (O : Nat → Int64) (c : Bool × Nat × Nat) (x2 x3 y1 : Int) : EV (d + 8) 231 57 [.ref 285, .ref 1000017, .int (q_I x2), .int (q_I x3)] [.ref 1000017, .int (q_I y1)] (q_h L xs s O c) = EV (d + 8) 231 60 [.ref 285, .ref 1000017, .int (q_I x2), .int (q_I x3)] [.int (q_I 2), .int (q_I y1)] (q_h L xs s O c) := by
  rw [show d + 8 = d + 7 + 1 from rfl, C_231_57, if_neg (by omega)]
  rfl
theorem CM_75_17_0 (d : Nat) (L : Nat) (xs : Nat → Int32) (s : Nat → Int → Int32) (O : Nat → Int64) (c : Bool × Nat × Nat) (x2 x3 y2 : Int) : EV (d + 8) 231 75 [.ref 285, .ref 1000017, .int (q_I x2), .int (q_I x3)] [.int (q_I 0), .ref 1000017, .int (q_I y2)] (q_h L xs s O c) = EV (d + 8) 231 78 [.ref 285, .ref 1000017, .int (q_I x2), .int (q_I x3)] [.int (q_I 111), .int (q_I y2)] (q_h L xs s O c) := by
  rw [show d + 8 = d + 7 + 1 from rfl, C_231_75, if_neg (by omega)]
  rfl
theorem CM_75_17_1 (d : Nat) (L : Nat) (xs : Nat → Int32) (s : Nat → Int → Int32) (O : Nat → Int64) (c : Bool × Nat × Nat) (x2 x3 y2 : Int) : EV (d + 8) 231 75 [.ref 285, .ref 1000017, .int (q_I x2), .int (q_I x3)] [.int (q_I 1), .ref 1000017, .int (q_I y2)] (q_h L xs s O c) = EV (d + 8) 231 78 [.ref 285, .ref 1000017, .int (q_I x2), .int (q_I x3)] [.int (q_I 114), .int (q_I y2)] (q_h L xs s O c) := by
  rw [show d + 8 = d + 7 + 1 from rfl, C_231_75, if_neg (by omega)]
  rfl
theorem LM_45_18 (d : Nat) (L : Nat) (xs : Nat → Int32) (s : Nat → Int → Int32) (O : Nat → Int64) (c : Bool × Nat × Nat) (x2 : Int) (x3 : Value) (y1 : Int) : EV (d + 8) 231 45 [.ref 285, .ref 1000018, .int (q_I x2), x3] [.ref 1000018, .int (q_I y1)] (q_h L xs s O c) = EV (d + 8) 231 48 [.ref 285, .ref 1000018, .int (q_I x2), x3] [.int (q_I 3), .int (q_I y1)] (q_h L xs s O c) := by
  rw [show d + 8 = d + 7 + 1 from rfl, C_231_45, if_neg (by omega)]
  rfl
theorem LM_57_18 (d : Nat) (L : Nat) (xs : Nat → Int32) (s : Nat → Int → Int32) (O : Nat → Int64) (c : Bool × Nat × Nat) (x2 x3 y1 : Int) : EV (d + 8) 231 57 [.ref 285, .ref 1000018, .int (q_I x2), .int (q_I x3)] [.ref 1000018, .int (q_I y1)] (q_h L xs s O c) = EV (d + 8) 231 60 [.ref 285, .ref 1000018, .int (q_I x2), .int (q_I x3)] [.int (q_I 3), .int (q_I y1)] (q_h L xs s O c) := by
  rw [show d + 8 = d + 7 + 1 from rfl, C_231_57, if_neg (by omega)]
  rfl
theorem CM_75_18_0 (d : Nat) (L : Nat) (xs : Nat → Int32) (s : Nat → Int → Int32) (O : Nat → Int64) (c : Bool × Nat × Nat) (x2 x3 y2 : Int) : EV (d + 8) 231 75 [.ref 285, .ref 1000018, .int (q_I x2), .int (q_I x3)] [.int (q_I 0), .ref 1000018, .int (q_I y2)] (q_h L xs s O c) = EV (d + 8) 231 78 [.ref 285, .ref 1000018, .int (q_I x2), .int (q_I x3)] [.int (q_I 112), .int (q_I y2)] (q_h L xs s O c) := by
  rw [show d + 8 = d + 7 + 1 from rfl, C_231_75, if_neg (by omega)]
  rfl
theorem CM_75_18_1 (d : Nat) (L : Nat) (xs : Nat → Int32) (s : Nat → Int → Int32) (O : Nat → Int64) (c : Bool × Nat × Nat) (x2 x3 y2 : Int) : EV (d + 8) 231 75 [.ref 285, .ref 1000018, .int (q_I x2), .int (q_I x3)] [.int (q_I 1), .ref 1000018, .int (q_I y2)] (q_h L xs s O c) = EV (d + 8) 231 78 [.ref 285, .ref 1000018, .int (q_I x2), .int (q_I x3)] [.int (q_I 117), .int (q_I y2)] (q_h L xs s O c) := by
  rw [show d + 8 = d + 7 + 1 from rfl, C_231_75, if_neg (by omega)]
  rfl
theorem CM_75_18_2 (d : Nat) (L : Nat) (xs : Nat → Int32) (s : Nat → Int → Int32) (O : Nat → Int64) (c : Bool × Nat × Nat) (x2 x3 y2 : Int) : EV (d + 8) 231 75 [.ref 285, .ref 1000018, .int (q_I x2), .int (q_I x3)] [.int (q_I 2), .ref 1000018, .int (q_I y2)] (q_h L xs s O c) = EV (d + 8) 231 78 [.ref 285, .ref 1000018, .int (q_I x2), .int (q_I x3)] [.int (q_I 116), .int (q_I y2)] (q_h L xs s O c) := by
  rw [show d + 8 = d + 7 + 1 from rfl, C_231_75, if_neg (by omega)]
  rfl
theorem LM_45_19 (d : Nat) (L : Nat) (xs : Nat → Int32) (s : Nat → Int → Int32) (O : Nat → Int64) (c : Bool × Nat × Nat) (x2 : Int) (x3 : Value) (y1 : Int) : EV (d + 8) 231 45 [.ref 285, .ref 1000019, .int (q_I x2), x3] [.ref 1000019, .int (q_I y1)] (q_h L xs s O c) = EV (d + 8) 231 48 [.ref 285, .ref 1000019, .int (q_I x2), x3] [.int (q_I 4), .int (q_I y1)] (q_h L xs s O c) := by
  rw [show d + 8 = d + 7 + 1 from rfl, C_231_45, if_neg (by omega)]
  rfl
theorem LM_57_19 (d : Nat) (L : Nat) (xs : Nat → Int32) (s : Nat → Int → Int32) (O : Nat → Int64) (c : Bool × Nat × Nat) (x2 x3 y1 : Int) : EV (d + 8) 231 57 [.ref 285, .ref 1000019, .int (q_I x2), .int (q_I x3)] [.ref 1000019, .int (q_I y1)] (q_h L xs s O c) = EV (d + 8) 231 60 [.ref 285, .ref 1000019, .int (q_I x2), .int (q_I x3)] [.int (q_I 4), .int (q_I y1)] (q_h L xs s O c) := by
  rw [show d + 8 = d + 7 + 1 from rfl, C_231_57, if_neg (by omega)]
  rfl
theorem CM_75_19_0 (d : Nat) (L : Nat) (xs : Nat → Int32) (s : Nat → Int → Int32) (O : Nat → Int64) (c : Bool × Nat × Nat) (x2 x3 y2 : Int) : EV (d + 8) 231 75 [.ref 285, .ref 1000019, .int (q_I x2), .int (q_I x3)] [.int (q_I 0), .ref 1000019, .int (q_I y2)] (q_h L xs s O c) = EV (d + 8) 231 78 [.ref 285, .ref 1000019, .int (q_I x2), .int (q_I x3)] [.int (q_I 100), .int (q_I y2)] (q_h L xs s O c) := by
  rw [show d + 8 = d + 7 + 1 from rfl, C_231_75, if_neg (by omega)]
  rfl
theorem CM_75_19_1 (d : Nat) (L : Nat) (xs : Nat → Int32) (s : Nat → Int → Int32) (O : Nat → Int64) (c : Bool × Nat × Nat) (x2 x3 y2 : Int) : EV (d + 8) 231 75 [.ref 285, .ref 1000019, .int (q_I x2), .int (q_I x3)] [.int (q_I 1), .ref 1000019, .int (q_I y2)] (q_h L xs s O c) = EV (d + 8) 231 78 [.ref 285, .ref 1000019, .int (q_I x2), .int (q_I x3)] [.int (q_I 114), .int (q_I y2)] (q_h L xs s O c) := by
  rw [show d + 8 = d + 7 + 1 from rfl, C_231_75, if_neg (by omega)]
  rfl
theorem CM_75_19_2 (d : Nat) (L : Nat) (xs : Nat → Int32) (s : Nat → Int → Int32) (O : Nat → Int64) (c : Bool × Nat × Nat) (x2 x3 y2 : Int) : EV (d + 8) 231 75 [.ref 285, .ref 1000019, .int (q_I x2), .int (q_I x3)] [.int (q_I 2), .ref 1000019, .int (q_I y2)] (q_h L xs s O c) = EV (d + 8) 231 78 [.ref 285, .ref 1000019, .int (q_I x2), .int (q_I x3)] [.int (q_I 111), .int (q_I y2)] (q_h L xs s O c) := by
  rw [show d + 8 = d + 7 + 1 from rfl, C_231_75, if_neg (by omega)]
  rfl
theorem CM_75_19_3 (d : Nat) (L : Nat) (xs : Nat → Int32) (s : Nat → Int → Int32) (O : Nat → Int64) (c : Bool × Nat × Nat) (x2 x3 y2 : Int) : EV (d + 8) 231 75 [.ref 285, .ref 1000019, .int (q_I x2), .int (q_I x3)] [.int (q_I 3), .ref 1000019, .int (q_I y2)] (q_h L xs s O c) = EV (d + 8) 231 78 [.ref 285, .ref 1000019, .int (q_I x2), .int (q_I x3)] [.int (q_I 112), .int (q_I y2)] (q_h L xs s O c) := by
  rw [show d + 8 = d + 7 + 1 from rfl, C_231_75, if_neg (by omega)]
  rfl
section HAS
variable {d L : Nat} {xs : Nat → Int32} {s : Nat → Int → Int32} {O : Nat → Int64} {c : Bool × Nat × Nat} {T : Int → Int} {E i : Int}
theorem mm_hasL {x1 : Nat} {x3 : Value} (h : TxM T E s) (E1 : E ≤ 400) (hr : ∀ j, 0 ≤ j → j < E → 0 ≤ T j ∧ T j ≤ 255) : ∀ (n : Nat) {k : Int}, E - k ≤ n → 0 ≤ k → k ≤ 1000 → EV (d + 1) 231 9 [.ref 285, .ref x1, .int (q_I k), x3] [] (q_h L xs s O c) = EV (d + 1) 231 38 [.ref 285, .ref x1, .int (q_I (run 97 122 T E k)), x3] [] (q_h L xs s O c)
  | n, k, hn, k0, k1 => by
    have er : -2147483648 ≤ E := by
      rw [← h.1]
      exact (q_g_rg s 285 10).1
    by_cases c1 : k < E
    · have tr := hr k k0 c1
      cases n with
      | zero => omega
      | succ n =>
        by_cases c2 : 97 ≤ T k ∧ T k ≤ 122
        · have ih := mm_hasL (x1 := x1) (x3 := x3) h E1 hr n (k := k + 1) (by omega) (by omega) (by omega)
          rw [run_yes c1 c2.1 c2.2, R_231_9]
          simp (disch := first | omega | exact q_b_01 _) only [↓reduceIte, q_bk0, q_bk1, q_bk2, q_sg_b, q_b_0, q_b_n0, q_b_1, q_b_n1, q_b_T, q_b_F, q_sg_g, q_sg_sg, q_sg_xs, q_sg_id, q_gu_ne, q_gu_eq, q_g_fne, q_g_cpe, q_w_f, q_v_f, q_u_f, q_fn_f, q_cp_f, q_sg_pg, q_sg_hc, q_lt_t, q_lt_f, q_le_t, q_le_f, q_eq_t, q_eq_f, ne_eq, eq_self, Bool.false_eq_true, Bool.true_eq_false, not_true_eq_false, not_false_eq_true, true_and, and_true, false_and, and_false, true_or, or_true, false_or, or_false, if_true, if_false, Int.reduceAdd, Int.reduceMul, Int.reduceSub, Int.reduceNeg, h.1, R_231_0, R_231_4, R_231_17, R_231_22, R_231_29, R_231_32, R_231_48, R_231_51, R_231_53, R_231_55, R_231_60, R_231_63, R_231_73, R_231_78, R_231_81, R_231_83, R_231_89, R_231_94, C_231_1, C_231_19, C_231_26, C_231_70, mm_letter h E1, mm_isIn, ih]
        · rw [run_no (fun x => c2 x.2), R_231_9]
          simp (disch := first | omega | exact q_b_01 _) only [↓reduceIte, q_bk0, q_bk1, q_bk2, q_sg_b, q_b_0, q_b_n0, q_b_1, q_b_n1, q_b_T, q_b_F, q_sg_g, q_sg_sg, q_sg_xs, q_sg_id, q_gu_ne, q_gu_eq, q_g_fne, q_g_cpe, q_w_f, q_v_f, q_u_f, q_fn_f, q_cp_f, q_sg_pg, q_sg_hc, q_lt_t, q_lt_f, q_le_t, q_le_f, q_eq_t, q_eq_f, ne_eq, eq_self, Bool.false_eq_true, Bool.true_eq_false, not_true_eq_false, not_false_eq_true, true_and, and_true, false_and, and_false, true_or, or_true, false_or, or_false, if_true, if_false, Int.reduceAdd, Int.reduceMul, Int.reduceSub, Int.reduceNeg, h.1, c2, R_231_0, R_231_4, R_231_17, R_231_22, R_231_29, R_231_32, R_231_48, R_231_51, R_231_53, R_231_55, R_231_60, R_231_63, R_231_73, R_231_78, R_231_81, R_231_83, R_231_89, R_231_94, C_231_1, C_231_19, C_231_26, C_231_70, mm_letter h E1, mm_isIn]
    · rw [run_no (by omega), R_231_9]
      simp (disch := first | omega | exact q_b_01 _) only [↓reduceIte, q_bk0, q_bk1, q_bk2, q_sg_b, q_b_0, q_b_n0, q_b_1, q_b_n1, q_b_T, q_b_F, q_sg_g, q_sg_sg, q_sg_xs, q_sg_id, q_gu_ne, q_gu_eq, q_g_fne, q_g_cpe, q_w_f, q_v_f, q_u_f, q_fn_f, q_cp_f, q_sg_pg, q_sg_hc, q_lt_t, q_lt_f, q_le_t, q_le_f, q_eq_t, q_eq_f, ne_eq, eq_self, Bool.false_eq_true, Bool.true_eq_false, not_true_eq_false, not_false_eq_true, true_and, and_true, false_and, and_false, true_or, or_true, false_or, or_false, if_true, if_false, Int.reduceAdd, Int.reduceMul, Int.reduceSub, Int.reduceNeg, h.1, R_231_0, R_231_4, R_231_17, R_231_22, R_231_29, R_231_32, R_231_48, R_231_51, R_231_53, R_231_55, R_231_60, R_231_63, R_231_73, R_231_78, R_231_81, R_231_83, R_231_89, R_231_94, C_231_1, C_231_19, C_231_26, C_231_70]
theorem hs_1 (h : TxM T E s) (E1 : E ≤ 400) (hr : ∀ j, 0 ≤ j → j < E → 0 ≤ T j ∧ T j ≤ 255) (ha : q_g s 285 11 = i) (i0 : 0 ≤ i) (i1 : i ≤ 1000) {b e : Int} (hb : sk T E i = b) (he : run 97 122 T E b = e) : EV (d + 9) 231 0 [.ref 285, .ref 1000001, .null, .null] [] (q_h L xs s O c) = some (.inl (some (.int (q_I (q_b (e - b = 4 ∧ eqw T b [114, 105, 115, 107] = true))))), q_h L xs (q_u s 285 11 (if e - b = 4 ∧ eqw T b [114, 105, 115, 107] = true then e else b)) O c) := by
  have g := sk_rg T E1 i0 i1
  rw [hb] at g
  have h' : TxM T E (q_u s 285 11 b) := TxM_u h (by omega)
  have g11 : q_g (q_u s 285 11 b) 285 11 = b := by rw [q_gu_eq rfl, q_sg_id (by omega) (by omega)]
  have ge := run_ge 97 122 T E b
  rw [he] at ge
  have le : e ≤ 1000 := by
    by_cases x : b ≤ E
    · have := run_le (lo := 97) (hi := 122) (T := T) x
      rw [he] at this
      omega
    · have : e = b := by rw [← he]; exact run_no (by omega)
      omega
  have sk' := mm_skip (d := d + 7) (L := L) (xs := xs) (O := O) (c := c) h E1 hr ha i0 i1
  rw [hb] at sk'
  have lp := mm_hasL (d := d + 8) (L := L) (xs := xs) (O := O) (c := c) (x1 := 1000001) (x3 := .null) h' E1 hr (E - b).toNat (k := b) (by omega) (by omega) (by omega)
  rw [he] at lp
  have st : EV (d + 9) 231 0 [.ref 285, .ref 1000001, .null, .null] [] (q_h L xs s O c) = EV (d + 8 + 1) 231 38 [.ref 285, .ref 1000001, .int (q_I e), .null] [] (q_h L xs (q_u s 285 11 b) O c) := by
    rw [← lp]
    simp (disch := first | omega | exact q_b_01 _) only [↓reduceIte, q_bk0, q_bk1, q_bk2, q_sg_b, q_b_0, q_b_n0, q_b_1, q_b_n1, q_b_T, q_b_F, q_sg_g, q_sg_sg, q_sg_xs, q_sg_id, q_gu_ne, q_gu_eq, q_g_fne, q_g_cpe, q_w_f, q_v_f, q_u_f, q_fn_f, q_cp_f, q_sg_pg, q_sg_hc, q_lt_t, q_lt_f, q_le_t, q_le_f, q_eq_t, q_eq_f, ne_eq, eq_self, Bool.false_eq_true, Bool.true_eq_false, not_true_eq_false, not_false_eq_true, true_and, and_true, false_and, and_false, true_or, or_true, false_or, or_false, if_true, if_false, Int.reduceAdd, Int.reduceMul, Int.reduceSub, Int.reduceNeg, g11, R_231_0, R_231_4, R_231_17, R_231_22, R_231_29, R_231_32, R_231_38, R_231_48, R_231_51, R_231_53, R_231_55, R_231_60, R_231_63, R_231_73, R_231_78, R_231_81, R_231_83, R_231_89, R_231_94, C_231_1, C_231_19, C_231_26, C_231_70, sk']
  rw [st]
  by_cases cl : e - b = 4
  · have eE : e ≤ E := by
      by_cases x : b ≤ E
      · have := run_le (lo := 97) (hi := 122) (T := T) x
        rw [he] at this
        exact this
      · have : e = b := by rw [← he]; exact run_no (by omega)
        omega
    have t0 : EV (d + 8) 228 0 [.ref 285, .int (q_I (b + 0))] [] (q_h L xs (q_u s 285 11 b) O c) = some (.inl (some (.int (q_I (T b)))), q_h L xs (q_u s 285 11 b) O c) := by
      rw [mm_letter h' E1 (by omega) (by omega)]
      rw [Int.add_zero]
    have t1 : EV (d + 8) 228 0 [.ref 285, .int (q_I (b + 1))] [] (q_h L xs (q_u s 285 11 b) O c) = some (.inl (some (.int (q_I (T (b + 1))))), q_h L xs (q_u s 285 11 b) O c) := by
      rw [mm_letter h' E1 (by omega) (by omega)]
    have t2 : EV (d + 8) 228 0 [.ref 285, .int (q_I (b + 2))] [] (q_h L xs (q_u s 285 11 b) O c) = some (.inl (some (.int (q_I (T (b + 1 + 1))))), q_h L xs (q_u s 285 11 b) O c) := by
      rw [mm_letter h' E1 (by omega) (by omega)]
      rw [show b + 1 + 1 = b + 2 by omega]
    have t3 : EV (d + 8) 228 0 [.ref 285, .int (q_I (b + 3))] [] (q_h L xs (q_u s 285 11 b) O c) = some (.inl (some (.int (q_I (T (b + 1 + 1 + 1))))), q_h L xs (q_u s 285 11 b) O c) := by
      rw [mm_letter h' E1 (by omega) (by omega)]
      rw [show b + 1 + 1 + 1 = b + 3 by omega]
    have r0 := hr (b + 0) (by omega) (by omega)
    rw [Int.add_zero] at r0
    have r1 := hr (b + 1) (by omega) (by omega)
    have r2 := hr (b + 2) (by omega) (by omega)
    rw [show b + 2 = b + 1 + 1 by omega] at r2
    have r3 := hr (b + 3) (by omega) (by omega)
    rw [show b + 3 = b + 1 + 1 + 1 by omega] at r3
    by_cases c0 : T b = 114
    · skip
      by_cases c1 : T (b + 1) = 105
      · skip
        by_cases c2 : T (b + 1 + 1) = 115
        · skip
          by_cases c3 : T (b + 1 + 1 + 1) = 107
          · have ew : eqw T b [114, 105, 115, 107] = true := by simp only [eqw, c0, c1, c2, c3, decide_true, Bool.and_self, Bool.and_true]
            rw [if_pos ⟨cl, ew⟩, q_bt ⟨cl, ew⟩]
            simp (disch := first | omega | exact q_b_01 _) only [↓reduceIte, q_bk0, q_bk1, q_bk2, q_sg_b, q_b_0, q_b_n0, q_b_1, q_b_n1, q_b_T, q_b_F, q_sg_g, q_sg_sg, q_sg_xs, q_sg_id, q_gu_ne, q_gu_eq, q_g_fne, q_g_cpe, q_w_f, q_v_f, q_u_f, q_fn_f, q_cp_f, q_sg_pg, q_sg_hc, q_lt_t, q_lt_f, q_le_t, q_le_f, q_eq_t, q_eq_f, ne_eq, eq_self, Bool.false_eq_true, Bool.true_eq_false, not_true_eq_false, not_false_eq_true, true_and, and_true, false_and, and_false, true_or, or_true, false_or, or_false, if_true, if_false, Int.reduceAdd, Int.reduceMul, Int.reduceSub, Int.reduceNeg, g11, q_uu_eq, t0, t1, t2, t3, c0, c1, c2, c3, R_231_0, R_231_4, R_231_17, R_231_22, R_231_29, R_231_32, R_231_38, R_231_48, R_231_51, R_231_53, R_231_55, R_231_60, R_231_63, R_231_73, R_231_78, R_231_81, R_231_83, R_231_89, R_231_94, C_231_1, C_231_19, C_231_26, C_231_70, LM_45_1, LM_57_1, CM_75_1_0, CM_75_1_1, CM_75_1_2, CM_75_1_3]
          · have ew : ¬ eqw T b [114, 105, 115, 107] = true := by simp only [eqw, c0, c1, c2, c3, decide_true, decide_false, Bool.false_and, Bool.and_false, Bool.true_and, Bool.false_eq_true, not_false_eq_true]
            rw [if_neg (fun x => ew x.2), q_bf (fun x => ew x.2)]
            simp (disch := first | omega | exact q_b_01 _) only [↓reduceIte, q_bk0, q_bk1, q_bk2, q_sg_b, q_b_0, q_b_n0, q_b_1, q_b_n1, q_b_T, q_b_F, q_sg_g, q_sg_sg, q_sg_xs, q_sg_id, q_gu_ne, q_gu_eq, q_g_fne, q_g_cpe, q_w_f, q_v_f, q_u_f, q_fn_f, q_cp_f, q_sg_pg, q_sg_hc, q_lt_t, q_lt_f, q_le_t, q_le_f, q_eq_t, q_eq_f, ne_eq, eq_self, Bool.false_eq_true, Bool.true_eq_false, not_true_eq_false, not_false_eq_true, true_and, and_true, false_and, and_false, true_or, or_true, false_or, or_false, if_true, if_false, Int.reduceAdd, Int.reduceMul, Int.reduceSub, Int.reduceNeg, g11, t0, t1, t2, t3, c0, c1, c2, c3, R_231_0, R_231_4, R_231_17, R_231_22, R_231_29, R_231_32, R_231_38, R_231_48, R_231_51, R_231_53, R_231_55, R_231_60, R_231_63, R_231_73, R_231_78, R_231_81, R_231_83, R_231_89, R_231_94, C_231_1, C_231_19, C_231_26, C_231_70, LM_45_1, LM_57_1, CM_75_1_0, CM_75_1_1, CM_75_1_2, CM_75_1_3]
        · have ew : ¬ eqw T b [114, 105, 115, 107] = true := by simp only [eqw, c0, c1, c2, decide_true, decide_false, Bool.false_and, Bool.and_false, Bool.true_and, Bool.false_eq_true, not_false_eq_true]
          rw [if_neg (fun x => ew x.2), q_bf (fun x => ew x.2)]
          simp (disch := first | omega | exact q_b_01 _) only [↓reduceIte, q_bk0, q_bk1, q_bk2, q_sg_b, q_b_0, q_b_n0, q_b_1, q_b_n1, q_b_T, q_b_F, q_sg_g, q_sg_sg, q_sg_xs, q_sg_id, q_gu_ne, q_gu_eq, q_g_fne, q_g_cpe, q_w_f, q_v_f, q_u_f, q_fn_f, q_cp_f, q_sg_pg, q_sg_hc, q_lt_t, q_lt_f, q_le_t, q_le_f, q_eq_t, q_eq_f, ne_eq, eq_self, Bool.false_eq_true, Bool.true_eq_false, not_true_eq_false, not_false_eq_true, true_and, and_true, false_and, and_false, true_or, or_true, false_or, or_false, if_true, if_false, Int.reduceAdd, Int.reduceMul, Int.reduceSub, Int.reduceNeg, g11, t0, t1, t2, c0, c1, c2, R_231_0, R_231_4, R_231_17, R_231_22, R_231_29, R_231_32, R_231_38, R_231_48, R_231_51, R_231_53, R_231_55, R_231_60, R_231_63, R_231_73, R_231_78, R_231_81, R_231_83, R_231_89, R_231_94, C_231_1, C_231_19, C_231_26, C_231_70, LM_45_1, LM_57_1, CM_75_1_0, CM_75_1_1, CM_75_1_2]
      · have ew : ¬ eqw T b [114, 105, 115, 107] = true := by simp only [eqw, c0, c1, decide_true, decide_false, Bool.false_and, Bool.and_false, Bool.true_and, Bool.false_eq_true, not_false_eq_true]
        rw [if_neg (fun x => ew x.2), q_bf (fun x => ew x.2)]
        simp (disch := first | omega | exact q_b_01 _) only [↓reduceIte, q_bk0, q_bk1, q_bk2, q_sg_b, q_b_0, q_b_n0, q_b_1, q_b_n1, q_b_T, q_b_F, q_sg_g, q_sg_sg, q_sg_xs, q_sg_id, q_gu_ne, q_gu_eq, q_g_fne, q_g_cpe, q_w_f, q_v_f, q_u_f, q_fn_f, q_cp_f, q_sg_pg, q_sg_hc, q_lt_t, q_lt_f, q_le_t, q_le_f, q_eq_t, q_eq_f, ne_eq, eq_self, Bool.false_eq_true, Bool.true_eq_false, not_true_eq_false, not_false_eq_true, true_and, and_true, false_and, and_false, true_or, or_true, false_or, or_false, if_true, if_false, Int.reduceAdd, Int.reduceMul, Int.reduceSub, Int.reduceNeg, g11, t0, t1, c0, c1, R_231_0, R_231_4, R_231_17, R_231_22, R_231_29, R_231_32, R_231_38, R_231_48, R_231_51, R_231_53, R_231_55, R_231_60, R_231_63, R_231_73, R_231_78, R_231_81, R_231_83, R_231_89, R_231_94, C_231_1, C_231_19, C_231_26, C_231_70, LM_45_1, LM_57_1, CM_75_1_0, CM_75_1_1]
    · have ew : ¬ eqw T b [114, 105, 115, 107] = true := by simp only [eqw, c0, decide_true, decide_false, Bool.false_and, Bool.and_false, Bool.true_and, Bool.false_eq_true, not_false_eq_true]
      rw [if_neg (fun x => ew x.2), q_bf (fun x => ew x.2)]
      simp (disch := first | omega | exact q_b_01 _) only [↓reduceIte, q_bk0, q_bk1, q_bk2, q_sg_b, q_b_0, q_b_n0, q_b_1, q_b_n1, q_b_T, q_b_F, q_sg_g, q_sg_sg, q_sg_xs, q_sg_id, q_gu_ne, q_gu_eq, q_g_fne, q_g_cpe, q_w_f, q_v_f, q_u_f, q_fn_f, q_cp_f, q_sg_pg, q_sg_hc, q_lt_t, q_lt_f, q_le_t, q_le_f, q_eq_t, q_eq_f, ne_eq, eq_self, Bool.false_eq_true, Bool.true_eq_false, not_true_eq_false, not_false_eq_true, true_and, and_true, false_and, and_false, true_or, or_true, false_or, or_false, if_true, if_false, Int.reduceAdd, Int.reduceMul, Int.reduceSub, Int.reduceNeg, g11, t0, c0, R_231_0, R_231_4, R_231_17, R_231_22, R_231_29, R_231_32, R_231_38, R_231_48, R_231_51, R_231_53, R_231_55, R_231_60, R_231_63, R_231_73, R_231_78, R_231_81, R_231_83, R_231_89, R_231_94, C_231_1, C_231_19, C_231_26, C_231_70, LM_45_1, LM_57_1, CM_75_1_0]
  · rw [if_neg (fun x => cl x.1), q_bf (fun x => cl x.1)]
    simp (disch := first | omega | exact q_b_01 _) only [↓reduceIte, q_bk0, q_bk1, q_bk2, q_sg_b, q_b_0, q_b_n0, q_b_1, q_b_n1, q_b_T, q_b_F, q_sg_g, q_sg_sg, q_sg_xs, q_sg_id, q_gu_ne, q_gu_eq, q_g_fne, q_g_cpe, q_w_f, q_v_f, q_u_f, q_fn_f, q_cp_f, q_sg_pg, q_sg_hc, q_lt_t, q_lt_f, q_le_t, q_le_f, q_eq_t, q_eq_f, ne_eq, eq_self, Bool.false_eq_true, Bool.true_eq_false, not_true_eq_false, not_false_eq_true, true_and, and_true, false_and, and_false, true_or, or_true, false_or, or_false, if_true, if_false, Int.reduceAdd, Int.reduceMul, Int.reduceSub, Int.reduceNeg, g11, R_231_0, R_231_4, R_231_17, R_231_22, R_231_29, R_231_32, R_231_38, R_231_48, R_231_51, R_231_53, R_231_55, R_231_60, R_231_63, R_231_73, R_231_78, R_231_81, R_231_83, R_231_89, R_231_94, C_231_1, C_231_19, C_231_26, C_231_70, LM_45_1, LM_57_1]
theorem hs_2 (h : TxM T E s) (E1 : E ≤ 400) (hr : ∀ j, 0 ≤ j → j < E → 0 ≤ T j ∧ T j ≤ 255) (ha : q_g s 285 11 = i) (i0 : 0 ≤ i) (i1 : i ≤ 1000) {b e : Int} (hb : sk T E i = b) (he : run 97 122 T E b = e) : EV (d + 9) 231 0 [.ref 285, .ref 1000002, .null, .null] [] (q_h L xs s O c) = some (.inl (some (.int (q_I (q_b (e - b = 5 ∧ eqw T b [115, 112, 97, 114, 101] = true))))), q_h L xs (q_u s 285 11 (if e - b = 5 ∧ eqw T b [115, 112, 97, 114, 101] = true then e else b)) O c) := by
  have g := sk_rg T E1 i0 i1
  rw [hb] at g
  have h' : TxM T E (q_u s 285 11 b) := TxM_u h (by omega)
  have g11 : q_g (q_u s 285 11 b) 285 11 = b := by rw [q_gu_eq rfl, q_sg_id (by omega) (by omega)]
  have ge := run_ge 97 122 T E b
  rw [he] at ge
  have le : e ≤ 1000 := by
    by_cases x : b ≤ E
    · have := run_le (lo := 97) (hi := 122) (T := T) x
      rw [he] at this
      omega
    · have : e = b := by rw [← he]; exact run_no (by omega)
      omega
  have sk' := mm_skip (d := d + 7) (L := L) (xs := xs) (O := O) (c := c) h E1 hr ha i0 i1
  rw [hb] at sk'
  have lp := mm_hasL (d := d + 8) (L := L) (xs := xs) (O := O) (c := c) (x1 := 1000002) (x3 := .null) h' E1 hr (E - b).toNat (k := b) (by omega) (by omega) (by omega)
  rw [he] at lp
  have st : EV (d + 9) 231 0 [.ref 285, .ref 1000002, .null, .null] [] (q_h L xs s O c) = EV (d + 8 + 1) 231 38 [.ref 285, .ref 1000002, .int (q_I e), .null] [] (q_h L xs (q_u s 285 11 b) O c) := by
    rw [← lp]
    simp (disch := first | omega | exact q_b_01 _) only [↓reduceIte, q_bk0, q_bk1, q_bk2, q_sg_b, q_b_0, q_b_n0, q_b_1, q_b_n1, q_b_T, q_b_F, q_sg_g, q_sg_sg, q_sg_xs, q_sg_id, q_gu_ne, q_gu_eq, q_g_fne, q_g_cpe, q_w_f, q_v_f, q_u_f, q_fn_f, q_cp_f, q_sg_pg, q_sg_hc, q_lt_t, q_lt_f, q_le_t, q_le_f, q_eq_t, q_eq_f, ne_eq, eq_self, Bool.false_eq_true, Bool.true_eq_false, not_true_eq_false, not_false_eq_true, true_and, and_true, false_and, and_false, true_or, or_true, false_or, or_false, if_true, if_false, Int.reduceAdd, Int.reduceMul, Int.reduceSub, Int.reduceNeg, g11, R_231_0, R_231_4, R_231_17, R_231_22, R_231_29, R_231_32, R_231_38, R_231_48, R_231_51, R_231_53, R_231_55, R_231_60, R_231_63, R_231_73, R_231_78, R_231_81, R_231_83, R_231_89, R_231_94, C_231_1, C_231_19, C_231_26, C_231_70, sk']
  rw [st]
  by_cases cl : e - b = 5
  · have eE : e ≤ E := by
      by_cases x : b ≤ E
      · have := run_le (lo := 97) (hi := 122) (T := T) x
        rw [he] at this
        exact this
      · have : e = b := by rw [← he]; exact run_no (by omega)
        omega
    have t0 : EV (d + 8) 228 0 [.ref 285, .int (q_I (b + 0))] [] (q_h L xs (q_u s 285 11 b) O c) = some (.inl (some (.int (q_I (T b)))), q_h L xs (q_u s 285 11 b) O c) := by
      rw [mm_letter h' E1 (by omega) (by omega)]
      rw [Int.add_zero]
    have t1 : EV (d + 8) 228 0 [.ref 285, .int (q_I (b + 1))] [] (q_h L xs (q_u s 285 11 b) O c) = some (.inl (some (.int (q_I (T (b + 1))))), q_h L xs (q_u s 285 11 b) O c) := by
      rw [mm_letter h' E1 (by omega) (by omega)]
    have t2 : EV (d + 8) 228 0 [.ref 285, .int (q_I (b + 2))] [] (q_h L xs (q_u s 285 11 b) O c) = some (.inl (some (.int (q_I (T (b + 1 + 1))))), q_h L xs (q_u s 285 11 b) O c) := by
      rw [mm_letter h' E1 (by omega) (by omega)]
      rw [show b + 1 + 1 = b + 2 by omega]
    have t3 : EV (d + 8) 228 0 [.ref 285, .int (q_I (b + 3))] [] (q_h L xs (q_u s 285 11 b) O c) = some (.inl (some (.int (q_I (T (b + 1 + 1 + 1))))), q_h L xs (q_u s 285 11 b) O c) := by
      rw [mm_letter h' E1 (by omega) (by omega)]
      rw [show b + 1 + 1 + 1 = b + 3 by omega]
    have t4 : EV (d + 8) 228 0 [.ref 285, .int (q_I (b + 4))] [] (q_h L xs (q_u s 285 11 b) O c) = some (.inl (some (.int (q_I (T (b + 1 + 1 + 1 + 1))))), q_h L xs (q_u s 285 11 b) O c) := by
      rw [mm_letter h' E1 (by omega) (by omega)]
      rw [show b + 1 + 1 + 1 + 1 = b + 4 by omega]
    have r0 := hr (b + 0) (by omega) (by omega)
    rw [Int.add_zero] at r0
    have r1 := hr (b + 1) (by omega) (by omega)
    have r2 := hr (b + 2) (by omega) (by omega)
    rw [show b + 2 = b + 1 + 1 by omega] at r2
    have r3 := hr (b + 3) (by omega) (by omega)
    rw [show b + 3 = b + 1 + 1 + 1 by omega] at r3
    have r4 := hr (b + 4) (by omega) (by omega)
    rw [show b + 4 = b + 1 + 1 + 1 + 1 by omega] at r4
    by_cases c0 : T b = 115
    · skip
      by_cases c1 : T (b + 1) = 112
      · skip
        by_cases c2 : T (b + 1 + 1) = 97
        · skip
          by_cases c3 : T (b + 1 + 1 + 1) = 114
          · skip
            by_cases c4 : T (b + 1 + 1 + 1 + 1) = 101
            · have ew : eqw T b [115, 112, 97, 114, 101] = true := by simp only [eqw, c0, c1, c2, c3, c4, decide_true, Bool.and_self, Bool.and_true]
              rw [if_pos ⟨cl, ew⟩, q_bt ⟨cl, ew⟩]
              simp (disch := first | omega | exact q_b_01 _) only [↓reduceIte, q_bk0, q_bk1, q_bk2, q_sg_b, q_b_0, q_b_n0, q_b_1, q_b_n1, q_b_T, q_b_F, q_sg_g, q_sg_sg, q_sg_xs, q_sg_id, q_gu_ne, q_gu_eq, q_g_fne, q_g_cpe, q_w_f, q_v_f, q_u_f, q_fn_f, q_cp_f, q_sg_pg, q_sg_hc, q_lt_t, q_lt_f, q_le_t, q_le_f, q_eq_t, q_eq_f, ne_eq, eq_self, Bool.false_eq_true, Bool.true_eq_false, not_true_eq_false, not_false_eq_true, true_and, and_true, false_and, and_false, true_or, or_true, false_or, or_false, if_true, if_false, Int.reduceAdd, Int.reduceMul, Int.reduceSub, Int.reduceNeg, g11, q_uu_eq, t0, t1, t2, t3, t4, c0, c1, c2, c3, c4, R_231_0, R_231_4, R_231_17, R_231_22, R_231_29, R_231_32, R_231_38, R_231_48, R_231_51, R_231_53, R_231_55, R_231_60, R_231_63, R_231_73, R_231_78, R_231_81, R_231_83, R_231_89, R_231_94, C_231_1, C_231_19, C_231_26, C_231_70, LM_45_2, LM_57_2, CM_75_2_0, CM_75_2_1, CM_75_2_2, CM_75_2_3, CM_75_2_4]
            · have ew : ¬ eqw T b [115, 112, 97, 114, 101] = true := by simp only [eqw, c0, c1, c2, c3, c4, decide_true, decide_false, Bool.false_and, Bool.and_false, Bool.true_and, Bool.false_eq_true, not_false_eq_true]
              rw [if_neg (fun x => ew x.2), q_bf (fun x => ew x.2)]
              simp (disch := first | omega | exact q_b_01 _) only [↓reduceIte, q_bk0, q_bk1, q_bk2, q_sg_b, q_b_0, q_b_n0, q_b_1, q_b_n1, q_b_T, q_b_F, q_sg_g, q_sg_sg, q_sg_xs, q_sg_id, q_gu_ne, q_gu_eq, q_g_fne, q_g_cpe, q_w_f, q_v_f, q_u_f, q_fn_f, q_cp_f, q_sg_pg, q_sg_hc, q_lt_t, q_lt_f, q_le_t, q_le_f, q_eq_t, q_eq_f, ne_eq, eq_self, Bool.false_eq_true, Bool.true_eq_false, not_true_eq_false, not_false_eq_true, true_and, and_true, false_and, and_false, true_or, or_true, false_or, or_false, if_true, if_false, Int.reduceAdd, Int.reduceMul, Int.reduceSub, Int.reduceNeg, g11, t0, t1, t2, t3, t4, c0, c1, c2, c3, c4, R_231_0, R_231_4, R_231_17, R_231_22, R_231_29, R_231_32, R_231_38, R_231_48, R_231_51, R_231_53, R_231_55, R_231_60, R_231_63, R_231_73, R_231_78, R_231_81, R_231_83, R_231_89, R_231_94, C_231_1, C_231_19, C_231_26, C_231_70, LM_45_2, LM_57_2, CM_75_2_0, CM_75_2_1, CM_75_2_2, CM_75_2_3, CM_75_2_4]
          · have ew : ¬ eqw T b [115, 112, 97, 114, 101] = true := by simp only [eqw, c0, c1, c2, c3, decide_true, decide_false, Bool.false_and, Bool.and_false, Bool.true_and, Bool.false_eq_true, not_false_eq_true]
            rw [if_neg (fun x => ew x.2), q_bf (fun x => ew x.2)]
            simp (disch := first | omega | exact q_b_01 _) only [↓reduceIte, q_bk0, q_bk1, q_bk2, q_sg_b, q_b_0, q_b_n0, q_b_1, q_b_n1, q_b_T, q_b_F, q_sg_g, q_sg_sg, q_sg_xs, q_sg_id, q_gu_ne, q_gu_eq, q_g_fne, q_g_cpe, q_w_f, q_v_f, q_u_f, q_fn_f, q_cp_f, q_sg_pg, q_sg_hc, q_lt_t, q_lt_f, q_le_t, q_le_f, q_eq_t, q_eq_f, ne_eq, eq_self, Bool.false_eq_true, Bool.true_eq_false, not_true_eq_false, not_false_eq_true, true_and, and_true, false_and, and_false, true_or, or_true, false_or, or_false, if_true, if_false, Int.reduceAdd, Int.reduceMul, Int.reduceSub, Int.reduceNeg, g11, t0, t1, t2, t3, c0, c1, c2, c3, R_231_0, R_231_4, R_231_17, R_231_22, R_231_29, R_231_32, R_231_38, R_231_48, R_231_51, R_231_53, R_231_55, R_231_60, R_231_63, R_231_73, R_231_78, R_231_81, R_231_83, R_231_89, R_231_94, C_231_1, C_231_19, C_231_26, C_231_70, LM_45_2, LM_57_2, CM_75_2_0, CM_75_2_1, CM_75_2_2, CM_75_2_3]
        · have ew : ¬ eqw T b [115, 112, 97, 114, 101] = true := by simp only [eqw, c0, c1, c2, decide_true, decide_false, Bool.false_and, Bool.and_false, Bool.true_and, Bool.false_eq_true, not_false_eq_true]
          rw [if_neg (fun x => ew x.2), q_bf (fun x => ew x.2)]
          simp (disch := first | omega | exact q_b_01 _) only [↓reduceIte, q_bk0, q_bk1, q_bk2, q_sg_b, q_b_0, q_b_n0, q_b_1, q_b_n1, q_b_T, q_b_F, q_sg_g, q_sg_sg, q_sg_xs, q_sg_id, q_gu_ne, q_gu_eq, q_g_fne, q_g_cpe, q_w_f, q_v_f, q_u_f, q_fn_f, q_cp_f, q_sg_pg, q_sg_hc, q_lt_t, q_lt_f, q_le_t, q_le_f, q_eq_t, q_eq_f, ne_eq, eq_self, Bool.false_eq_true, Bool.true_eq_false, not_true_eq_false, not_false_eq_true, true_and, and_true, false_and, and_false, true_or, or_true, false_or, or_false, if_true, if_false, Int.reduceAdd, Int.reduceMul, Int.reduceSub, Int.reduceNeg, g11, t0, t1, t2, c0, c1, c2, R_231_0, R_231_4, R_231_17, R_231_22, R_231_29, R_231_32, R_231_38, R_231_48, R_231_51, R_231_53, R_231_55, R_231_60, R_231_63, R_231_73, R_231_78, R_231_81, R_231_83, R_231_89, R_231_94, C_231_1, C_231_19, C_231_26, C_231_70, LM_45_2, LM_57_2, CM_75_2_0, CM_75_2_1, CM_75_2_2]
      · have ew : ¬ eqw T b [115, 112, 97, 114, 101] = true := by simp only [eqw, c0, c1, decide_true, decide_false, Bool.false_and, Bool.and_false, Bool.true_and, Bool.false_eq_true, not_false_eq_true]
        rw [if_neg (fun x => ew x.2), q_bf (fun x => ew x.2)]
        simp (disch := first | omega | exact q_b_01 _) only [↓reduceIte, q_bk0, q_bk1, q_bk2, q_sg_b, q_b_0, q_b_n0, q_b_1, q_b_n1, q_b_T, q_b_F, q_sg_g, q_sg_sg, q_sg_xs, q_sg_id, q_gu_ne, q_gu_eq, q_g_fne, q_g_cpe, q_w_f, q_v_f, q_u_f, q_fn_f, q_cp_f, q_sg_pg, q_sg_hc, q_lt_t, q_lt_f, q_le_t, q_le_f, q_eq_t, q_eq_f, ne_eq, eq_self, Bool.false_eq_true, Bool.true_eq_false, not_true_eq_false, not_false_eq_true, true_and, and_true, false_and, and_false, true_or, or_true, false_or, or_false, if_true, if_false, Int.reduceAdd, Int.reduceMul, Int.reduceSub, Int.reduceNeg, g11, t0, t1, c0, c1, R_231_0, R_231_4, R_231_17, R_231_22, R_231_29, R_231_32, R_231_38, R_231_48, R_231_51, R_231_53, R_231_55, R_231_60, R_231_63, R_231_73, R_231_78, R_231_81, R_231_83, R_231_89, R_231_94, C_231_1, C_231_19, C_231_26, C_231_70, LM_45_2, LM_57_2, CM_75_2_0, CM_75_2_1]
    · have ew : ¬ eqw T b [115, 112, 97, 114, 101] = true := by simp only [eqw, c0, decide_true, decide_false, Bool.false_and, Bool.and_false, Bool.true_and, Bool.false_eq_true, not_false_eq_true]
      rw [if_neg (fun x => ew x.2), q_bf (fun x => ew x.2)]
      simp (disch := first | omega | exact q_b_01 _) only [↓reduceIte, q_bk0, q_bk1, q_bk2, q_sg_b, q_b_0, q_b_n0, q_b_1, q_b_n1, q_b_T, q_b_F, q_sg_g, q_sg_sg, q_sg_xs, q_sg_id, q_gu_ne, q_gu_eq, q_g_fne, q_g_cpe, q_w_f, q_v_f, q_u_f, q_fn_f, q_cp_f, q_sg_pg, q_sg_hc, q_lt_t, q_lt_f, q_le_t, q_le_f, q_eq_t, q_eq_f, ne_eq, eq_self, Bool.false_eq_true, Bool.true_eq_false, not_true_eq_false, not_false_eq_true, true_and, and_true, false_and, and_false, true_or, or_true, false_or, or_false, if_true, if_false, Int.reduceAdd, Int.reduceMul, Int.reduceSub, Int.reduceNeg, g11, t0, c0, R_231_0, R_231_4, R_231_17, R_231_22, R_231_29, R_231_32, R_231_38, R_231_48, R_231_51, R_231_53, R_231_55, R_231_60, R_231_63, R_231_73, R_231_78, R_231_81, R_231_83, R_231_89, R_231_94, C_231_1, C_231_19, C_231_26, C_231_70, LM_45_2, LM_57_2, CM_75_2_0]
  · rw [if_neg (fun x => cl x.1), q_bf (fun x => cl x.1)]
    simp (disch := first | omega | exact q_b_01 _) only [↓reduceIte, q_bk0, q_bk1, q_bk2, q_sg_b, q_b_0, q_b_n0, q_b_1, q_b_n1, q_b_T, q_b_F, q_sg_g, q_sg_sg, q_sg_xs, q_sg_id, q_gu_ne, q_gu_eq, q_g_fne, q_g_cpe, q_w_f, q_v_f, q_u_f, q_fn_f, q_cp_f, q_sg_pg, q_sg_hc, q_lt_t, q_lt_f, q_le_t, q_le_f, q_eq_t, q_eq_f, ne_eq, eq_self, Bool.false_eq_true, Bool.true_eq_false, not_true_eq_false, not_false_eq_true, true_and, and_true, false_and, and_false, true_or, or_true, false_or, or_false, if_true, if_false, Int.reduceAdd, Int.reduceMul, Int.reduceSub, Int.reduceNeg, g11, R_231_0, R_231_4, R_231_17, R_231_22, R_231_29, R_231_32, R_231_38, R_231_48, R_231_51, R_231_53, R_231_55, R_231_60, R_231_63, R_231_73, R_231_78, R_231_81, R_231_83, R_231_89, R_231_94, C_231_1, C_231_19, C_231_26, C_231_70, LM_45_2, LM_57_2]
theorem hs_3 (h : TxM T E s) (E1 : E ≤ 400) (hr : ∀ j, 0 ≤ j → j < E → 0 ≤ T j ∧ T j ≤ 255) (ha : q_g s 285 11 = i) (i0 : 0 ≤ i) (i1 : i ≤ 1000) {b e : Int} (hb : sk T E i = b) (he : run 97 122 T E b = e) : EV (d + 9) 231 0 [.ref 285, .ref 1000003, .null, .null] [] (q_h L xs s O c) = some (.inl (some (.int (q_I (q_b (e - b = 4 ∧ eqw T b [99, 111, 115, 116] = true))))), q_h L xs (q_u s 285 11 (if e - b = 4 ∧ eqw T b [99, 111, 115, 116] = true then e else b)) O c) := by
  have g := sk_rg T E1 i0 i1
  rw [hb] at g
  have h' : TxM T E (q_u s 285 11 b) := TxM_u h (by omega)
  have g11 : q_g (q_u s 285 11 b) 285 11 = b := by rw [q_gu_eq rfl, q_sg_id (by omega) (by omega)]
  have ge := run_ge 97 122 T E b
  rw [he] at ge
  have le : e ≤ 1000 := by
    by_cases x : b ≤ E
    · have := run_le (lo := 97) (hi := 122) (T := T) x
      rw [he] at this
      omega
    · have : e = b := by rw [← he]; exact run_no (by omega)
      omega
  have sk' := mm_skip (d := d + 7) (L := L) (xs := xs) (O := O) (c := c) h E1 hr ha i0 i1
  rw [hb] at sk'
  have lp := mm_hasL (d := d + 8) (L := L) (xs := xs) (O := O) (c := c) (x1 := 1000003) (x3 := .null) h' E1 hr (E - b).toNat (k := b) (by omega) (by omega) (by omega)
  rw [he] at lp
  have st : EV (d + 9) 231 0 [.ref 285, .ref 1000003, .null, .null] [] (q_h L xs s O c) = EV (d + 8 + 1) 231 38 [.ref 285, .ref 1000003, .int (q_I e), .null] [] (q_h L xs (q_u s 285 11 b) O c) := by
    rw [← lp]
    simp (disch := first | omega | exact q_b_01 _) only [↓reduceIte, q_bk0, q_bk1, q_bk2, q_sg_b, q_b_0, q_b_n0, q_b_1, q_b_n1, q_b_T, q_b_F, q_sg_g, q_sg_sg, q_sg_xs, q_sg_id, q_gu_ne, q_gu_eq, q_g_fne, q_g_cpe, q_w_f, q_v_f, q_u_f, q_fn_f, q_cp_f, q_sg_pg, q_sg_hc, q_lt_t, q_lt_f, q_le_t, q_le_f, q_eq_t, q_eq_f, ne_eq, eq_self, Bool.false_eq_true, Bool.true_eq_false, not_true_eq_false, not_false_eq_true, true_and, and_true, false_and, and_false, true_or, or_true, false_or, or_false, if_true, if_false, Int.reduceAdd, Int.reduceMul, Int.reduceSub, Int.reduceNeg, g11, R_231_0, R_231_4, R_231_17, R_231_22, R_231_29, R_231_32, R_231_38, R_231_48, R_231_51, R_231_53, R_231_55, R_231_60, R_231_63, R_231_73, R_231_78, R_231_81, R_231_83, R_231_89, R_231_94, C_231_1, C_231_19, C_231_26, C_231_70, sk']
  rw [st]
  by_cases cl : e - b = 4
  · have eE : e ≤ E := by
      by_cases x : b ≤ E
      · have := run_le (lo := 97) (hi := 122) (T := T) x
        rw [he] at this
        exact this
      · have : e = b := by rw [← he]; exact run_no (by omega)
        omega
    have t0 : EV (d + 8) 228 0 [.ref 285, .int (q_I (b + 0))] [] (q_h L xs (q_u s 285 11 b) O c) = some (.inl (some (.int (q_I (T b)))), q_h L xs (q_u s 285 11 b) O c) := by
      rw [mm_letter h' E1 (by omega) (by omega)]
      rw [Int.add_zero]
    have t1 : EV (d + 8) 228 0 [.ref 285, .int (q_I (b + 1))] [] (q_h L xs (q_u s 285 11 b) O c) = some (.inl (some (.int (q_I (T (b + 1))))), q_h L xs (q_u s 285 11 b) O c) := by
      rw [mm_letter h' E1 (by omega) (by omega)]
    have t2 : EV (d + 8) 228 0 [.ref 285, .int (q_I (b + 2))] [] (q_h L xs (q_u s 285 11 b) O c) = some (.inl (some (.int (q_I (T (b + 1 + 1))))), q_h L xs (q_u s 285 11 b) O c) := by
      rw [mm_letter h' E1 (by omega) (by omega)]
      rw [show b + 1 + 1 = b + 2 by omega]
    have t3 : EV (d + 8) 228 0 [.ref 285, .int (q_I (b + 3))] [] (q_h L xs (q_u s 285 11 b) O c) = some (.inl (some (.int (q_I (T (b + 1 + 1 + 1))))), q_h L xs (q_u s 285 11 b) O c) := by
      rw [mm_letter h' E1 (by omega) (by omega)]
      rw [show b + 1 + 1 + 1 = b + 3 by omega]
    have r0 := hr (b + 0) (by omega) (by omega)
    rw [Int.add_zero] at r0
    have r1 := hr (b + 1) (by omega) (by omega)
    have r2 := hr (b + 2) (by omega) (by omega)
    rw [show b + 2 = b + 1 + 1 by omega] at r2
    have r3 := hr (b + 3) (by omega) (by omega)
    rw [show b + 3 = b + 1 + 1 + 1 by omega] at r3
    by_cases c0 : T b = 99
    · skip
      by_cases c1 : T (b + 1) = 111
      · skip
        by_cases c2 : T (b + 1 + 1) = 115
        · skip
          by_cases c3 : T (b + 1 + 1 + 1) = 116
          · have ew : eqw T b [99, 111, 115, 116] = true := by simp only [eqw, c0, c1, c2, c3, decide_true, Bool.and_self, Bool.and_true]
            rw [if_pos ⟨cl, ew⟩, q_bt ⟨cl, ew⟩]
            simp (disch := first | omega | exact q_b_01 _) only [↓reduceIte, q_bk0, q_bk1, q_bk2, q_sg_b, q_b_0, q_b_n0, q_b_1, q_b_n1, q_b_T, q_b_F, q_sg_g, q_sg_sg, q_sg_xs, q_sg_id, q_gu_ne, q_gu_eq, q_g_fne, q_g_cpe, q_w_f, q_v_f, q_u_f, q_fn_f, q_cp_f, q_sg_pg, q_sg_hc, q_lt_t, q_lt_f, q_le_t, q_le_f, q_eq_t, q_eq_f, ne_eq, eq_self, Bool.false_eq_true, Bool.true_eq_false, not_true_eq_false, not_false_eq_true, true_and, and_true, false_and, and_false, true_or, or_true, false_or, or_false, if_true, if_false, Int.reduceAdd, Int.reduceMul, Int.reduceSub, Int.reduceNeg, g11, q_uu_eq, t0, t1, t2, t3, c0, c1, c2, c3, R_231_0, R_231_4, R_231_17, R_231_22, R_231_29, R_231_32, R_231_38, R_231_48, R_231_51, R_231_53, R_231_55, R_231_60, R_231_63, R_231_73, R_231_78, R_231_81, R_231_83, R_231_89, R_231_94, C_231_1, C_231_19, C_231_26, C_231_70, LM_45_3, LM_57_3, CM_75_3_0, CM_75_3_1, CM_75_3_2, CM_75_3_3]
          · have ew : ¬ eqw T b [99, 111, 115, 116] = true := by simp only [eqw, c0, c1, c2, c3, decide_true, decide_false, Bool.false_and, Bool.and_false, Bool.true_and, Bool.false_eq_true, not_false_eq_true]
            rw [if_neg (fun x => ew x.2), q_bf (fun x => ew x.2)]
            simp (disch := first | omega | exact q_b_01 _) only [↓reduceIte, q_bk0, q_bk1, q_bk2, q_sg_b, q_b_0, q_b_n0, q_b_1, q_b_n1, q_b_T, q_b_F, q_sg_g, q_sg_sg, q_sg_xs, q_sg_id, q_gu_ne, q_gu_eq, q_g_fne, q_g_cpe, q_w_f, q_v_f, q_u_f, q_fn_f, q_cp_f, q_sg_pg, q_sg_hc, q_lt_t, q_lt_f, q_le_t, q_le_f, q_eq_t, q_eq_f, ne_eq, eq_self, Bool.false_eq_true, Bool.true_eq_false, not_true_eq_false, not_false_eq_true, true_and, and_true, false_and, and_false, true_or, or_true, false_or, or_false, if_true, if_false, Int.reduceAdd, Int.reduceMul, Int.reduceSub, Int.reduceNeg, g11, t0, t1, t2, t3, c0, c1, c2, c3, R_231_0, R_231_4, R_231_17, R_231_22, R_231_29, R_231_32, R_231_38, R_231_48, R_231_51, R_231_53, R_231_55, R_231_60, R_231_63, R_231_73, R_231_78, R_231_81, R_231_83, R_231_89, R_231_94, C_231_1, C_231_19, C_231_26, C_231_70, LM_45_3, LM_57_3, CM_75_3_0, CM_75_3_1, CM_75_3_2, CM_75_3_3]
        · have ew : ¬ eqw T b [99, 111, 115, 116] = true := by simp only [eqw, c0, c1, c2, decide_true, decide_false, Bool.false_and, Bool.and_false, Bool.true_and, Bool.false_eq_true, not_false_eq_true]
          rw [if_neg (fun x => ew x.2), q_bf (fun x => ew x.2)]
          simp (disch := first | omega | exact q_b_01 _) only [↓reduceIte, q_bk0, q_bk1, q_bk2, q_sg_b, q_b_0, q_b_n0, q_b_1, q_b_n1, q_b_T, q_b_F, q_sg_g, q_sg_sg, q_sg_xs, q_sg_id, q_gu_ne, q_gu_eq, q_g_fne, q_g_cpe, q_w_f, q_v_f, q_u_f, q_fn_f, q_cp_f, q_sg_pg, q_sg_hc, q_lt_t, q_lt_f, q_le_t, q_le_f, q_eq_t, q_eq_f, ne_eq, eq_self, Bool.false_eq_true, Bool.true_eq_false, not_true_eq_false, not_false_eq_true, true_and, and_true, false_and, and_false, true_or, or_true, false_or, or_false, if_true, if_false, Int.reduceAdd, Int.reduceMul, Int.reduceSub, Int.reduceNeg, g11, t0, t1, t2, c0, c1, c2, R_231_0, R_231_4, R_231_17, R_231_22, R_231_29, R_231_32, R_231_38, R_231_48, R_231_51, R_231_53, R_231_55, R_231_60, R_231_63, R_231_73, R_231_78, R_231_81, R_231_83, R_231_89, R_231_94, C_231_1, C_231_19, C_231_26, C_231_70, LM_45_3, LM_57_3, CM_75_3_0, CM_75_3_1, CM_75_3_2]
      · have ew : ¬ eqw T b [99, 111, 115, 116] = true := by simp only [eqw, c0, c1, decide_true, decide_false, Bool.false_and, Bool.and_false, Bool.true_and, Bool.false_eq_true, not_false_eq_true]
        rw [if_neg (fun x => ew x.2), q_bf (fun x => ew x.2)]
        simp (disch := first | omega | exact q_b_01 _) only [↓reduceIte, q_bk0, q_bk1, q_bk2, q_sg_b, q_b_0, q_b_n0, q_b_1, q_b_n1, q_b_T, q_b_F, q_sg_g, q_sg_sg, q_sg_xs, q_sg_id, q_gu_ne, q_gu_eq, q_g_fne, q_g_cpe, q_w_f, q_v_f, q_u_f, q_fn_f, q_cp_f, q_sg_pg, q_sg_hc, q_lt_t, q_lt_f, q_le_t, q_le_f, q_eq_t, q_eq_f, ne_eq, eq_self, Bool.false_eq_true, Bool.true_eq_false, not_true_eq_false, not_false_eq_true, true_and, and_true, false_and, and_false, true_or, or_true, false_or, or_false, if_true, if_false, Int.reduceAdd, Int.reduceMul, Int.reduceSub, Int.reduceNeg, g11, t0, t1, c0, c1, R_231_0, R_231_4, R_231_17, R_231_22, R_231_29, R_231_32, R_231_38, R_231_48, R_231_51, R_231_53, R_231_55, R_231_60, R_231_63, R_231_73, R_231_78, R_231_81, R_231_83, R_231_89, R_231_94, C_231_1, C_231_19, C_231_26, C_231_70, LM_45_3, LM_57_3, CM_75_3_0, CM_75_3_1]
    · have ew : ¬ eqw T b [99, 111, 115, 116] = true := by simp only [eqw, c0, decide_true, decide_false, Bool.false_and, Bool.and_false, Bool.true_and, Bool.false_eq_true, not_false_eq_true]
      rw [if_neg (fun x => ew x.2), q_bf (fun x => ew x.2)]
      simp (disch := first | omega | exact q_b_01 _) only [↓reduceIte, q_bk0, q_bk1, q_bk2, q_sg_b, q_b_0, q_b_n0, q_b_1, q_b_n1, q_b_T, q_b_F, q_sg_g, q_sg_sg, q_sg_xs, q_sg_id, q_gu_ne, q_gu_eq, q_g_fne, q_g_cpe, q_w_f, q_v_f, q_u_f, q_fn_f, q_cp_f, q_sg_pg, q_sg_hc, q_lt_t, q_lt_f, q_le_t, q_le_f, q_eq_t, q_eq_f, ne_eq, eq_self, Bool.false_eq_true, Bool.true_eq_false, not_true_eq_false, not_false_eq_true, true_and, and_true, false_and, and_false, true_or, or_true, false_or, or_false, if_true, if_false, Int.reduceAdd, Int.reduceMul, Int.reduceSub, Int.reduceNeg, g11, t0, c0, R_231_0, R_231_4, R_231_17, R_231_22, R_231_29, R_231_32, R_231_38, R_231_48, R_231_51, R_231_53, R_231_55, R_231_60, R_231_63, R_231_73, R_231_78, R_231_81, R_231_83, R_231_89, R_231_94, C_231_1, C_231_19, C_231_26, C_231_70, LM_45_3, LM_57_3, CM_75_3_0]
  · rw [if_neg (fun x => cl x.1), q_bf (fun x => cl x.1)]
    simp (disch := first | omega | exact q_b_01 _) only [↓reduceIte, q_bk0, q_bk1, q_bk2, q_sg_b, q_b_0, q_b_n0, q_b_1, q_b_n1, q_b_T, q_b_F, q_sg_g, q_sg_sg, q_sg_xs, q_sg_id, q_gu_ne, q_gu_eq, q_g_fne, q_g_cpe, q_w_f, q_v_f, q_u_f, q_fn_f, q_cp_f, q_sg_pg, q_sg_hc, q_lt_t, q_lt_f, q_le_t, q_le_f, q_eq_t, q_eq_f, ne_eq, eq_self, Bool.false_eq_true, Bool.true_eq_false, not_true_eq_false, not_false_eq_true, true_and, and_true, false_and, and_false, true_or, or_true, false_or, or_false, if_true, if_false, Int.reduceAdd, Int.reduceMul, Int.reduceSub, Int.reduceNeg, g11, R_231_0, R_231_4, R_231_17, R_231_22, R_231_29, R_231_32, R_231_38, R_231_48, R_231_51, R_231_53, R_231_55, R_231_60, R_231_63, R_231_73, R_231_78, R_231_81, R_231_83, R_231_89, R_231_94, C_231_1, C_231_19, C_231_26, C_231_70, LM_45_3, LM_57_3]
theorem hs_4 (h : TxM T E s) (E1 : E ≤ 400) (hr : ∀ j, 0 ≤ j → j < E → 0 ≤ T j ∧ T j ≤ 255) (ha : q_g s 285 11 = i) (i0 : 0 ≤ i) (i1 : i ≤ 1000) {b e : Int} (hb : sk T E i = b) (he : run 97 122 T E b = e) : EV (d + 9) 231 0 [.ref 285, .ref 1000004, .null, .null] [] (q_h L xs s O c) = some (.inl (some (.int (q_I (q_b (e - b = 2 ∧ eqw T b [105, 102] = true))))), q_h L xs (q_u s 285 11 (if e - b = 2 ∧ eqw T b [105, 102] = true then e else b)) O c) := by
  have g := sk_rg T E1 i0 i1
  rw [hb] at g
  have h' : TxM T E (q_u s 285 11 b) := TxM_u h (by omega)
  have g11 : q_g (q_u s 285 11 b) 285 11 = b := by rw [q_gu_eq rfl, q_sg_id (by omega) (by omega)]
  have ge := run_ge 97 122 T E b
  rw [he] at ge
  have le : e ≤ 1000 := by
    by_cases x : b ≤ E
    · have := run_le (lo := 97) (hi := 122) (T := T) x
      rw [he] at this
      omega
    · have : e = b := by rw [← he]; exact run_no (by omega)
      omega
  have sk' := mm_skip (d := d + 7) (L := L) (xs := xs) (O := O) (c := c) h E1 hr ha i0 i1
  rw [hb] at sk'
  have lp := mm_hasL (d := d + 8) (L := L) (xs := xs) (O := O) (c := c) (x1 := 1000004) (x3 := .null) h' E1 hr (E - b).toNat (k := b) (by omega) (by omega) (by omega)
  rw [he] at lp
  have st : EV (d + 9) 231 0 [.ref 285, .ref 1000004, .null, .null] [] (q_h L xs s O c) = EV (d + 8 + 1) 231 38 [.ref 285, .ref 1000004, .int (q_I e), .null] [] (q_h L xs (q_u s 285 11 b) O c) := by
    rw [← lp]
    simp (disch := first | omega | exact q_b_01 _) only [↓reduceIte, q_bk0, q_bk1, q_bk2, q_sg_b, q_b_0, q_b_n0, q_b_1, q_b_n1, q_b_T, q_b_F, q_sg_g, q_sg_sg, q_sg_xs, q_sg_id, q_gu_ne, q_gu_eq, q_g_fne, q_g_cpe, q_w_f, q_v_f, q_u_f, q_fn_f, q_cp_f, q_sg_pg, q_sg_hc, q_lt_t, q_lt_f, q_le_t, q_le_f, q_eq_t, q_eq_f, ne_eq, eq_self, Bool.false_eq_true, Bool.true_eq_false, not_true_eq_false, not_false_eq_true, true_and, and_true, false_and, and_false, true_or, or_true, false_or, or_false, if_true, if_false, Int.reduceAdd, Int.reduceMul, Int.reduceSub, Int.reduceNeg, g11, R_231_0, R_231_4, R_231_17, R_231_22, R_231_29, R_231_32, R_231_38, R_231_48, R_231_51, R_231_53, R_231_55, R_231_60, R_231_63, R_231_73, R_231_78, R_231_81, R_231_83, R_231_89, R_231_94, C_231_1, C_231_19, C_231_26, C_231_70, sk']
  rw [st]
  by_cases cl : e - b = 2
  · have eE : e ≤ E := by
      by_cases x : b ≤ E
      · have := run_le (lo := 97) (hi := 122) (T := T) x
        rw [he] at this
        exact this
      · have : e = b := by rw [← he]; exact run_no (by omega)
        omega
    have t0 : EV (d + 8) 228 0 [.ref 285, .int (q_I (b + 0))] [] (q_h L xs (q_u s 285 11 b) O c) = some (.inl (some (.int (q_I (T b)))), q_h L xs (q_u s 285 11 b) O c) := by
      rw [mm_letter h' E1 (by omega) (by omega)]
      rw [Int.add_zero]
    have t1 : EV (d + 8) 228 0 [.ref 285, .int (q_I (b + 1))] [] (q_h L xs (q_u s 285 11 b) O c) = some (.inl (some (.int (q_I (T (b + 1))))), q_h L xs (q_u s 285 11 b) O c) := by
      rw [mm_letter h' E1 (by omega) (by omega)]
    have r0 := hr (b + 0) (by omega) (by omega)
    rw [Int.add_zero] at r0
    have r1 := hr (b + 1) (by omega) (by omega)
    by_cases c0 : T b = 105
    · skip
      by_cases c1 : T (b + 1) = 102
      · have ew : eqw T b [105, 102] = true := by simp only [eqw, c0, c1, decide_true, Bool.and_self, Bool.and_true]
        rw [if_pos ⟨cl, ew⟩, q_bt ⟨cl, ew⟩]
        simp (disch := first | omega | exact q_b_01 _) only [↓reduceIte, q_bk0, q_bk1, q_bk2, q_sg_b, q_b_0, q_b_n0, q_b_1, q_b_n1, q_b_T, q_b_F, q_sg_g, q_sg_sg, q_sg_xs, q_sg_id, q_gu_ne, q_gu_eq, q_g_fne, q_g_cpe, q_w_f, q_v_f, q_u_f, q_fn_f, q_cp_f, q_sg_pg, q_sg_hc, q_lt_t, q_lt_f, q_le_t, q_le_f, q_eq_t, q_eq_f, ne_eq, eq_self, Bool.false_eq_true, Bool.true_eq_false, not_true_eq_false, not_false_eq_true, true_and, and_true, false_and, and_false, true_or, or_true, false_or, or_false, if_true, if_false, Int.reduceAdd, Int.reduceMul, Int.reduceSub, Int.reduceNeg, g11, q_uu_eq, t0, t1, c0, c1, R_231_0, R_231_4, R_231_17, R_231_22, R_231_29, R_231_32, R_231_38, R_231_48, R_231_51, R_231_53, R_231_55, R_231_60, R_231_63, R_231_73, R_231_78, R_231_81, R_231_83, R_231_89, R_231_94, C_231_1, C_231_19, C_231_26, C_231_70, LM_45_4, LM_57_4, CM_75_4_0, CM_75_4_1]
      · have ew : ¬ eqw T b [105, 102] = true := by simp only [eqw, c0, c1, decide_true, decide_false, Bool.false_and, Bool.and_false, Bool.true_and, Bool.false_eq_true, not_false_eq_true]
        rw [if_neg (fun x => ew x.2), q_bf (fun x => ew x.2)]
        simp (disch := first | omega | exact q_b_01 _) only [↓reduceIte, q_bk0, q_bk1, q_bk2, q_sg_b, q_b_0, q_b_n0, q_b_1, q_b_n1, q_b_T, q_b_F, q_sg_g, q_sg_sg, q_sg_xs, q_sg_id, q_gu_ne, q_gu_eq, q_g_fne, q_g_cpe, q_w_f, q_v_f, q_u_f, q_fn_f, q_cp_f, q_sg_pg, q_sg_hc, q_lt_t, q_lt_f, q_le_t, q_le_f, q_eq_t, q_eq_f, ne_eq, eq_self, Bool.false_eq_true, Bool.true_eq_false, not_true_eq_false, not_false_eq_true, true_and, and_true, false_and, and_false, true_or, or_true, false_or, or_false, if_true, if_false, Int.reduceAdd, Int.reduceMul, Int.reduceSub, Int.reduceNeg, g11, t0, t1, c0, c1, R_231_0, R_231_4, R_231_17, R_231_22, R_231_29, R_231_32, R_231_38, R_231_48, R_231_51, R_231_53, R_231_55, R_231_60, R_231_63, R_231_73, R_231_78, R_231_81, R_231_83, R_231_89, R_231_94, C_231_1, C_231_19, C_231_26, C_231_70, LM_45_4, LM_57_4, CM_75_4_0, CM_75_4_1]
    · have ew : ¬ eqw T b [105, 102] = true := by simp only [eqw, c0, decide_true, decide_false, Bool.false_and, Bool.and_false, Bool.true_and, Bool.false_eq_true, not_false_eq_true]
      rw [if_neg (fun x => ew x.2), q_bf (fun x => ew x.2)]
      simp (disch := first | omega | exact q_b_01 _) only [↓reduceIte, q_bk0, q_bk1, q_bk2, q_sg_b, q_b_0, q_b_n0, q_b_1, q_b_n1, q_b_T, q_b_F, q_sg_g, q_sg_sg, q_sg_xs, q_sg_id, q_gu_ne, q_gu_eq, q_g_fne, q_g_cpe, q_w_f, q_v_f, q_u_f, q_fn_f, q_cp_f, q_sg_pg, q_sg_hc, q_lt_t, q_lt_f, q_le_t, q_le_f, q_eq_t, q_eq_f, ne_eq, eq_self, Bool.false_eq_true, Bool.true_eq_false, not_true_eq_false, not_false_eq_true, true_and, and_true, false_and, and_false, true_or, or_true, false_or, or_false, if_true, if_false, Int.reduceAdd, Int.reduceMul, Int.reduceSub, Int.reduceNeg, g11, t0, c0, R_231_0, R_231_4, R_231_17, R_231_22, R_231_29, R_231_32, R_231_38, R_231_48, R_231_51, R_231_53, R_231_55, R_231_60, R_231_63, R_231_73, R_231_78, R_231_81, R_231_83, R_231_89, R_231_94, C_231_1, C_231_19, C_231_26, C_231_70, LM_45_4, LM_57_4, CM_75_4_0]
  · rw [if_neg (fun x => cl x.1), q_bf (fun x => cl x.1)]
    simp (disch := first | omega | exact q_b_01 _) only [↓reduceIte, q_bk0, q_bk1, q_bk2, q_sg_b, q_b_0, q_b_n0, q_b_1, q_b_n1, q_b_T, q_b_F, q_sg_g, q_sg_sg, q_sg_xs, q_sg_id, q_gu_ne, q_gu_eq, q_g_fne, q_g_cpe, q_w_f, q_v_f, q_u_f, q_fn_f, q_cp_f, q_sg_pg, q_sg_hc, q_lt_t, q_lt_f, q_le_t, q_le_f, q_eq_t, q_eq_f, ne_eq, eq_self, Bool.false_eq_true, Bool.true_eq_false, not_true_eq_false, not_false_eq_true, true_and, and_true, false_and, and_false, true_or, or_true, false_or, or_false, if_true, if_false, Int.reduceAdd, Int.reduceMul, Int.reduceSub, Int.reduceNeg, g11, R_231_0, R_231_4, R_231_17, R_231_22, R_231_29, R_231_32, R_231_38, R_231_48, R_231_51, R_231_53, R_231_55, R_231_60, R_231_63, R_231_73, R_231_78, R_231_81, R_231_83, R_231_89, R_231_94, C_231_1, C_231_19, C_231_26, C_231_70, LM_45_4, LM_57_4]
theorem hs_5 (h : TxM T E s) (E1 : E ≤ 400) (hr : ∀ j, 0 ≤ j → j < E → 0 ≤ T j ∧ T j ≤ 255) (ha : q_g s 285 11 = i) (i0 : 0 ≤ i) (i1 : i ≤ 1000) {b e : Int} (hb : sk T E i = b) (he : run 97 122 T E b = e) : EV (d + 9) 231 0 [.ref 285, .ref 1000005, .null, .null] [] (q_h L xs s O c) = some (.inl (some (.int (q_I (q_b (e - b = 3 ∧ eqw T b [110, 111, 116] = true))))), q_h L xs (q_u s 285 11 (if e - b = 3 ∧ eqw T b [110, 111, 116] = true then e else b)) O c) := by
  have g := sk_rg T E1 i0 i1
  rw [hb] at g
  have h' : TxM T E (q_u s 285 11 b) := TxM_u h (by omega)
  have g11 : q_g (q_u s 285 11 b) 285 11 = b := by rw [q_gu_eq rfl, q_sg_id (by omega) (by omega)]
  have ge := run_ge 97 122 T E b
  rw [he] at ge
  have le : e ≤ 1000 := by
    by_cases x : b ≤ E
    · have := run_le (lo := 97) (hi := 122) (T := T) x
      rw [he] at this
      omega
    · have : e = b := by rw [← he]; exact run_no (by omega)
      omega
  have sk' := mm_skip (d := d + 7) (L := L) (xs := xs) (O := O) (c := c) h E1 hr ha i0 i1
  rw [hb] at sk'
  have lp := mm_hasL (d := d + 8) (L := L) (xs := xs) (O := O) (c := c) (x1 := 1000005) (x3 := .null) h' E1 hr (E - b).toNat (k := b) (by omega) (by omega) (by omega)
  rw [he] at lp
  have st : EV (d + 9) 231 0 [.ref 285, .ref 1000005, .null, .null] [] (q_h L xs s O c) = EV (d + 8 + 1) 231 38 [.ref 285, .ref 1000005, .int (q_I e), .null] [] (q_h L xs (q_u s 285 11 b) O c) := by
    rw [← lp]
    simp (disch := first | omega | exact q_b_01 _) only [↓reduceIte, q_bk0, q_bk1, q_bk2, q_sg_b, q_b_0, q_b_n0, q_b_1, q_b_n1, q_b_T, q_b_F, q_sg_g, q_sg_sg, q_sg_xs, q_sg_id, q_gu_ne, q_gu_eq, q_g_fne, q_g_cpe, q_w_f, q_v_f, q_u_f, q_fn_f, q_cp_f, q_sg_pg, q_sg_hc, q_lt_t, q_lt_f, q_le_t, q_le_f, q_eq_t, q_eq_f, ne_eq, eq_self, Bool.false_eq_true, Bool.true_eq_false, not_true_eq_false, not_false_eq_true, true_and, and_true, false_and, and_false, true_or, or_true, false_or, or_false, if_true, if_false, Int.reduceAdd, Int.reduceMul, Int.reduceSub, Int.reduceNeg, g11, R_231_0, R_231_4, R_231_17, R_231_22, R_231_29, R_231_32, R_231_38, R_231_48, R_231_51, R_231_53, R_231_55, R_231_60, R_231_63, R_231_73, R_231_78, R_231_81, R_231_83, R_231_89, R_231_94, C_231_1, C_231_19, C_231_26, C_231_70, sk']
  rw [st]
  by_cases cl : e - b = 3
  · have eE : e ≤ E := by
      by_cases x : b ≤ E
      · have := run_le (lo := 97) (hi := 122) (T := T) x
        rw [he] at this
        exact this
      · have : e = b := by rw [← he]; exact run_no (by omega)
        omega
    have t0 : EV (d + 8) 228 0 [.ref 285, .int (q_I (b + 0))] [] (q_h L xs (q_u s 285 11 b) O c) = some (.inl (some (.int (q_I (T b)))), q_h L xs (q_u s 285 11 b) O c) := by
      rw [mm_letter h' E1 (by omega) (by omega)]
      rw [Int.add_zero]
    have t1 : EV (d + 8) 228 0 [.ref 285, .int (q_I (b + 1))] [] (q_h L xs (q_u s 285 11 b) O c) = some (.inl (some (.int (q_I (T (b + 1))))), q_h L xs (q_u s 285 11 b) O c) := by
      rw [mm_letter h' E1 (by omega) (by omega)]
    have t2 : EV (d + 8) 228 0 [.ref 285, .int (q_I (b + 2))] [] (q_h L xs (q_u s 285 11 b) O c) = some (.inl (some (.int (q_I (T (b + 1 + 1))))), q_h L xs (q_u s 285 11 b) O c) := by
      rw [mm_letter h' E1 (by omega) (by omega)]
      rw [show b + 1 + 1 = b + 2 by omega]
    have r0 := hr (b + 0) (by omega) (by omega)
    rw [Int.add_zero] at r0
    have r1 := hr (b + 1) (by omega) (by omega)
    have r2 := hr (b + 2) (by omega) (by omega)
    rw [show b + 2 = b + 1 + 1 by omega] at r2
    by_cases c0 : T b = 110
    · skip
      by_cases c1 : T (b + 1) = 111
      · skip
        by_cases c2 : T (b + 1 + 1) = 116
        · have ew : eqw T b [110, 111, 116] = true := by simp only [eqw, c0, c1, c2, decide_true, Bool.and_self, Bool.and_true]
          rw [if_pos ⟨cl, ew⟩, q_bt ⟨cl, ew⟩]
          simp (disch := first | omega | exact q_b_01 _) only [↓reduceIte, q_bk0, q_bk1, q_bk2, q_sg_b, q_b_0, q_b_n0, q_b_1, q_b_n1, q_b_T, q_b_F, q_sg_g, q_sg_sg, q_sg_xs, q_sg_id, q_gu_ne, q_gu_eq, q_g_fne, q_g_cpe, q_w_f, q_v_f, q_u_f, q_fn_f, q_cp_f, q_sg_pg, q_sg_hc, q_lt_t, q_lt_f, q_le_t, q_le_f, q_eq_t, q_eq_f, ne_eq, eq_self, Bool.false_eq_true, Bool.true_eq_false, not_true_eq_false, not_false_eq_true, true_and, and_true, false_and, and_false, true_or, or_true, false_or, or_false, if_true, if_false, Int.reduceAdd, Int.reduceMul, Int.reduceSub, Int.reduceNeg, g11, q_uu_eq, t0, t1, t2, c0, c1, c2, R_231_0, R_231_4, R_231_17, R_231_22, R_231_29, R_231_32, R_231_38, R_231_48, R_231_51, R_231_53, R_231_55, R_231_60, R_231_63, R_231_73, R_231_78, R_231_81, R_231_83, R_231_89, R_231_94, C_231_1, C_231_19, C_231_26, C_231_70, LM_45_5, LM_57_5, CM_75_5_0, CM_75_5_1, CM_75_5_2]
        · have ew : ¬ eqw T b [110, 111, 116] = true := by simp only [eqw, c0, c1, c2, decide_true, decide_false, Bool.false_and, Bool.and_false, Bool.true_and, Bool.false_eq_true, not_false_eq_true]
          rw [if_neg (fun x => ew x.2), q_bf (fun x => ew x.2)]
          simp (disch := first | omega | exact q_b_01 _) only [↓reduceIte, q_bk0, q_bk1, q_bk2, q_sg_b, q_b_0, q_b_n0, q_b_1, q_b_n1, q_b_T, q_b_F, q_sg_g, q_sg_sg, q_sg_xs, q_sg_id, q_gu_ne, q_gu_eq, q_g_fne, q_g_cpe, q_w_f, q_v_f, q_u_f, q_fn_f, q_cp_f, q_sg_pg, q_sg_hc, q_lt_t, q_lt_f, q_le_t, q_le_f, q_eq_t, q_eq_f, ne_eq, eq_self, Bool.false_eq_true, Bool.true_eq_false, not_true_eq_false, not_false_eq_true, true_and, and_true, false_and, and_false, true_or, or_true, false_or, or_false, if_true, if_false, Int.reduceAdd, Int.reduceMul, Int.reduceSub, Int.reduceNeg, g11, t0, t1, t2, c0, c1, c2, R_231_0, R_231_4, R_231_17, R_231_22, R_231_29, R_231_32, R_231_38, R_231_48, R_231_51, R_231_53, R_231_55, R_231_60, R_231_63, R_231_73, R_231_78, R_231_81, R_231_83, R_231_89, R_231_94, C_231_1, C_231_19, C_231_26, C_231_70, LM_45_5, LM_57_5, CM_75_5_0, CM_75_5_1, CM_75_5_2]
      · have ew : ¬ eqw T b [110, 111, 116] = true := by simp only [eqw, c0, c1, decide_true, decide_false, Bool.false_and, Bool.and_false, Bool.true_and, Bool.false_eq_true, not_false_eq_true]
        rw [if_neg (fun x => ew x.2), q_bf (fun x => ew x.2)]
        simp (disch := first | omega | exact q_b_01 _) only [↓reduceIte, q_bk0, q_bk1, q_bk2, q_sg_b, q_b_0, q_b_n0, q_b_1, q_b_n1, q_b_T, q_b_F, q_sg_g, q_sg_sg, q_sg_xs, q_sg_id, q_gu_ne, q_gu_eq, q_g_fne, q_g_cpe, q_w_f, q_v_f, q_u_f, q_fn_f, q_cp_f, q_sg_pg, q_sg_hc, q_lt_t, q_lt_f, q_le_t, q_le_f, q_eq_t, q_eq_f, ne_eq, eq_self, Bool.false_eq_true, Bool.true_eq_false, not_true_eq_false, not_false_eq_true, true_and, and_true, false_and, and_false, true_or, or_true, false_or, or_false, if_true, if_false, Int.reduceAdd, Int.reduceMul, Int.reduceSub, Int.reduceNeg, g11, t0, t1, c0, c1, R_231_0, R_231_4, R_231_17, R_231_22, R_231_29, R_231_32, R_231_38, R_231_48, R_231_51, R_231_53, R_231_55, R_231_60, R_231_63, R_231_73, R_231_78, R_231_81, R_231_83, R_231_89, R_231_94, C_231_1, C_231_19, C_231_26, C_231_70, LM_45_5, LM_57_5, CM_75_5_0, CM_75_5_1]
    · have ew : ¬ eqw T b [110, 111, 116] = true := by simp only [eqw, c0, decide_true, decide_false, Bool.false_and, Bool.and_false, Bool.true_and, Bool.false_eq_true, not_false_eq_true]
      rw [if_neg (fun x => ew x.2), q_bf (fun x => ew x.2)]
      simp (disch := first | omega | exact q_b_01 _) only [↓reduceIte, q_bk0, q_bk1, q_bk2, q_sg_b, q_b_0, q_b_n0, q_b_1, q_b_n1, q_b_T, q_b_F, q_sg_g, q_sg_sg, q_sg_xs, q_sg_id, q_gu_ne, q_gu_eq, q_g_fne, q_g_cpe, q_w_f, q_v_f, q_u_f, q_fn_f, q_cp_f, q_sg_pg, q_sg_hc, q_lt_t, q_lt_f, q_le_t, q_le_f, q_eq_t, q_eq_f, ne_eq, eq_self, Bool.false_eq_true, Bool.true_eq_false, not_true_eq_false, not_false_eq_true, true_and, and_true, false_and, and_false, true_or, or_true, false_or, or_false, if_true, if_false, Int.reduceAdd, Int.reduceMul, Int.reduceSub, Int.reduceNeg, g11, t0, c0, R_231_0, R_231_4, R_231_17, R_231_22, R_231_29, R_231_32, R_231_38, R_231_48, R_231_51, R_231_53, R_231_55, R_231_60, R_231_63, R_231_73, R_231_78, R_231_81, R_231_83, R_231_89, R_231_94, C_231_1, C_231_19, C_231_26, C_231_70, LM_45_5, LM_57_5, CM_75_5_0]
  · rw [if_neg (fun x => cl x.1), q_bf (fun x => cl x.1)]
    simp (disch := first | omega | exact q_b_01 _) only [↓reduceIte, q_bk0, q_bk1, q_bk2, q_sg_b, q_b_0, q_b_n0, q_b_1, q_b_n1, q_b_T, q_b_F, q_sg_g, q_sg_sg, q_sg_xs, q_sg_id, q_gu_ne, q_gu_eq, q_g_fne, q_g_cpe, q_w_f, q_v_f, q_u_f, q_fn_f, q_cp_f, q_sg_pg, q_sg_hc, q_lt_t, q_lt_f, q_le_t, q_le_f, q_eq_t, q_eq_f, ne_eq, eq_self, Bool.false_eq_true, Bool.true_eq_false, not_true_eq_false, not_false_eq_true, true_and, and_true, false_and, and_false, true_or, or_true, false_or, or_false, if_true, if_false, Int.reduceAdd, Int.reduceMul, Int.reduceSub, Int.reduceNeg, g11, R_231_0, R_231_4, R_231_17, R_231_22, R_231_29, R_231_32, R_231_38, R_231_48, R_231_51, R_231_53, R_231_55, R_231_60, R_231_63, R_231_73, R_231_78, R_231_81, R_231_83, R_231_89, R_231_94, C_231_1, C_231_19, C_231_26, C_231_70, LM_45_5, LM_57_5]
theorem hs_6 (h : TxM T E s) (E1 : E ≤ 400) (hr : ∀ j, 0 ≤ j → j < E → 0 ≤ T j ∧ T j ≤ 255) (ha : q_g s 285 11 = i) (i0 : 0 ≤ i) (i1 : i ≤ 1000) {b e : Int} (hb : sk T E i = b) (he : run 97 122 T E b = e) : EV (d + 9) 231 0 [.ref 285, .ref 1000006, .null, .null] [] (q_h L xs s O c) = some (.inl (some (.int (q_I (q_b (e - b = 4 ∧ eqw T b [104, 101, 97, 100] = true))))), q_h L xs (q_u s 285 11 (if e - b = 4 ∧ eqw T b [104, 101, 97, 100] = true then e else b)) O c) := by
  have g := sk_rg T E1 i0 i1
  rw [hb] at g
  have h' : TxM T E (q_u s 285 11 b) := TxM_u h (by omega)
  have g11 : q_g (q_u s 285 11 b) 285 11 = b := by rw [q_gu_eq rfl, q_sg_id (by omega) (by omega)]
  have ge := run_ge 97 122 T E b
  rw [he] at ge
  have le : e ≤ 1000 := by
    by_cases x : b ≤ E
    · have := run_le (lo := 97) (hi := 122) (T := T) x
      rw [he] at this
      omega
    · have : e = b := by rw [← he]; exact run_no (by omega)
      omega
  have sk' := mm_skip (d := d + 7) (L := L) (xs := xs) (O := O) (c := c) h E1 hr ha i0 i1
  rw [hb] at sk'
  have lp := mm_hasL (d := d + 8) (L := L) (xs := xs) (O := O) (c := c) (x1 := 1000006) (x3 := .null) h' E1 hr (E - b).toNat (k := b) (by omega) (by omega) (by omega)
  rw [he] at lp
  have st : EV (d + 9) 231 0 [.ref 285, .ref 1000006, .null, .null] [] (q_h L xs s O c) = EV (d + 8 + 1) 231 38 [.ref 285, .ref 1000006, .int (q_I e), .null] [] (q_h L xs (q_u s 285 11 b) O c) := by
    rw [← lp]
    simp (disch := first | omega | exact q_b_01 _) only [↓reduceIte, q_bk0, q_bk1, q_bk2, q_sg_b, q_b_0, q_b_n0, q_b_1, q_b_n1, q_b_T, q_b_F, q_sg_g, q_sg_sg, q_sg_xs, q_sg_id, q_gu_ne, q_gu_eq, q_g_fne, q_g_cpe, q_w_f, q_v_f, q_u_f, q_fn_f, q_cp_f, q_sg_pg, q_sg_hc, q_lt_t, q_lt_f, q_le_t, q_le_f, q_eq_t, q_eq_f, ne_eq, eq_self, Bool.false_eq_true, Bool.true_eq_false, not_true_eq_false, not_false_eq_true, true_and, and_true, false_and, and_false, true_or, or_true, false_or, or_false, if_true, if_false, Int.reduceAdd, Int.reduceMul, Int.reduceSub, Int.reduceNeg, g11, R_231_0, R_231_4, R_231_17, R_231_22, R_231_29, R_231_32, R_231_38, R_231_48, R_231_51, R_231_53, R_231_55, R_231_60, R_231_63, R_231_73, R_231_78, R_231_81, R_231_83, R_231_89, R_231_94, C_231_1, C_231_19, C_231_26, C_231_70, sk']
  rw [st]
  by_cases cl : e - b = 4
  · have eE : e ≤ E := by
      by_cases x : b ≤ E
      · have := run_le (lo := 97) (hi := 122) (T := T) x
        rw [he] at this
        exact this
      · have : e = b := by rw [← he]; exact run_no (by omega)
        omega
    have t0 : EV (d + 8) 228 0 [.ref 285, .int (q_I (b + 0))] [] (q_h L xs (q_u s 285 11 b) O c) = some (.inl (some (.int (q_I (T b)))), q_h L xs (q_u s 285 11 b) O c) := by
      rw [mm_letter h' E1 (by omega) (by omega)]
      rw [Int.add_zero]
    have t1 : EV (d + 8) 228 0 [.ref 285, .int (q_I (b + 1))] [] (q_h L xs (q_u s 285 11 b) O c) = some (.inl (some (.int (q_I (T (b + 1))))), q_h L xs (q_u s 285 11 b) O c) := by
      rw [mm_letter h' E1 (by omega) (by omega)]
    have t2 : EV (d + 8) 228 0 [.ref 285, .int (q_I (b + 2))] [] (q_h L xs (q_u s 285 11 b) O c) = some (.inl (some (.int (q_I (T (b + 1 + 1))))), q_h L xs (q_u s 285 11 b) O c) := by
      rw [mm_letter h' E1 (by omega) (by omega)]
      rw [show b + 1 + 1 = b + 2 by omega]
    have t3 : EV (d + 8) 228 0 [.ref 285, .int (q_I (b + 3))] [] (q_h L xs (q_u s 285 11 b) O c) = some (.inl (some (.int (q_I (T (b + 1 + 1 + 1))))), q_h L xs (q_u s 285 11 b) O c) := by
      rw [mm_letter h' E1 (by omega) (by omega)]
      rw [show b + 1 + 1 + 1 = b + 3 by omega]
    have r0 := hr (b + 0) (by omega) (by omega)
    rw [Int.add_zero] at r0
    have r1 := hr (b + 1) (by omega) (by omega)
    have r2 := hr (b + 2) (by omega) (by omega)
    rw [show b + 2 = b + 1 + 1 by omega] at r2
    have r3 := hr (b + 3) (by omega) (by omega)
    rw [show b + 3 = b + 1 + 1 + 1 by omega] at r3
    by_cases c0 : T b = 104
    · skip
      by_cases c1 : T (b + 1) = 101
      · skip
        by_cases c2 : T (b + 1 + 1) = 97
        · skip
          by_cases c3 : T (b + 1 + 1 + 1) = 100
          · have ew : eqw T b [104, 101, 97, 100] = true := by simp only [eqw, c0, c1, c2, c3, decide_true, Bool.and_self, Bool.and_true]
            rw [if_pos ⟨cl, ew⟩, q_bt ⟨cl, ew⟩]
            simp (disch := first | omega | exact q_b_01 _) only [↓reduceIte, q_bk0, q_bk1, q_bk2, q_sg_b, q_b_0, q_b_n0, q_b_1, q_b_n1, q_b_T, q_b_F, q_sg_g, q_sg_sg, q_sg_xs, q_sg_id, q_gu_ne, q_gu_eq, q_g_fne, q_g_cpe, q_w_f, q_v_f, q_u_f, q_fn_f, q_cp_f, q_sg_pg, q_sg_hc, q_lt_t, q_lt_f, q_le_t, q_le_f, q_eq_t, q_eq_f, ne_eq, eq_self, Bool.false_eq_true, Bool.true_eq_false, not_true_eq_false, not_false_eq_true, true_and, and_true, false_and, and_false, true_or, or_true, false_or, or_false, if_true, if_false, Int.reduceAdd, Int.reduceMul, Int.reduceSub, Int.reduceNeg, g11, q_uu_eq, t0, t1, t2, t3, c0, c1, c2, c3, R_231_0, R_231_4, R_231_17, R_231_22, R_231_29, R_231_32, R_231_38, R_231_48, R_231_51, R_231_53, R_231_55, R_231_60, R_231_63, R_231_73, R_231_78, R_231_81, R_231_83, R_231_89, R_231_94, C_231_1, C_231_19, C_231_26, C_231_70, LM_45_6, LM_57_6, CM_75_6_0, CM_75_6_1, CM_75_6_2, CM_75_6_3]
          · have ew : ¬ eqw T b [104, 101, 97, 100] = true := by simp only [eqw, c0, c1, c2, c3, decide_true, decide_false, Bool.false_and, Bool.and_false, Bool.true_and, Bool.false_eq_true, not_false_eq_true]
            rw [if_neg (fun x => ew x.2), q_bf (fun x => ew x.2)]
            simp (disch := first | omega | exact q_b_01 _) only [↓reduceIte, q_bk0, q_bk1, q_bk2, q_sg_b, q_b_0, q_b_n0, q_b_1, q_b_n1, q_b_T, q_b_F, q_sg_g, q_sg_sg, q_sg_xs, q_sg_id, q_gu_ne, q_gu_eq, q_g_fne, q_g_cpe, q_w_f, q_v_f, q_u_f, q_fn_f, q_cp_f, q_sg_pg, q_sg_hc, q_lt_t, q_lt_f, q_le_t, q_le_f, q_eq_t, q_eq_f, ne_eq, eq_self, Bool.false_eq_true, Bool.true_eq_false, not_true_eq_false, not_false_eq_true, true_and, and_true, false_and, and_false, true_or, or_true, false_or, or_false, if_true, if_false, Int.reduceAdd, Int.reduceMul, Int.reduceSub, Int.reduceNeg, g11, t0, t1, t2, t3, c0, c1, c2, c3, R_231_0, R_231_4, R_231_17, R_231_22, R_231_29, R_231_32, R_231_38, R_231_48, R_231_51, R_231_53, R_231_55, R_231_60, R_231_63, R_231_73, R_231_78, R_231_81, R_231_83, R_231_89, R_231_94, C_231_1, C_231_19, C_231_26, C_231_70, LM_45_6, LM_57_6, CM_75_6_0, CM_75_6_1, CM_75_6_2, CM_75_6_3]
        · have ew : ¬ eqw T b [104, 101, 97, 100] = true := by simp only [eqw, c0, c1, c2, decide_true, decide_false, Bool.false_and, Bool.and_false, Bool.true_and, Bool.false_eq_true, not_false_eq_true]
          rw [if_neg (fun x => ew x.2), q_bf (fun x => ew x.2)]
          simp (disch := first | omega | exact q_b_01 _) only [↓reduceIte, q_bk0, q_bk1, q_bk2, q_sg_b, q_b_0, q_b_n0, q_b_1, q_b_n1, q_b_T, q_b_F, q_sg_g, q_sg_sg, q_sg_xs, q_sg_id, q_gu_ne, q_gu_eq, q_g_fne, q_g_cpe, q_w_f, q_v_f, q_u_f, q_fn_f, q_cp_f, q_sg_pg, q_sg_hc, q_lt_t, q_lt_f, q_le_t, q_le_f, q_eq_t, q_eq_f, ne_eq, eq_self, Bool.false_eq_true, Bool.true_eq_false, not_true_eq_false, not_false_eq_true, true_and, and_true, false_and, and_false, true_or, or_true, false_or, or_false, if_true, if_false, Int.reduceAdd, Int.reduceMul, Int.reduceSub, Int.reduceNeg, g11, t0, t1, t2, c0, c1, c2, R_231_0, R_231_4, R_231_17, R_231_22, R_231_29, R_231_32, R_231_38, R_231_48, R_231_51, R_231_53, R_231_55, R_231_60, R_231_63, R_231_73, R_231_78, R_231_81, R_231_83, R_231_89, R_231_94, C_231_1, C_231_19, C_231_26, C_231_70, LM_45_6, LM_57_6, CM_75_6_0, CM_75_6_1, CM_75_6_2]
      · have ew : ¬ eqw T b [104, 101, 97, 100] = true := by simp only [eqw, c0, c1, decide_true, decide_false, Bool.false_and, Bool.and_false, Bool.true_and, Bool.false_eq_true, not_false_eq_true]
        rw [if_neg (fun x => ew x.2), q_bf (fun x => ew x.2)]
        simp (disch := first | omega | exact q_b_01 _) only [↓reduceIte, q_bk0, q_bk1, q_bk2, q_sg_b, q_b_0, q_b_n0, q_b_1, q_b_n1, q_b_T, q_b_F, q_sg_g, q_sg_sg, q_sg_xs, q_sg_id, q_gu_ne, q_gu_eq, q_g_fne, q_g_cpe, q_w_f, q_v_f, q_u_f, q_fn_f, q_cp_f, q_sg_pg, q_sg_hc, q_lt_t, q_lt_f, q_le_t, q_le_f, q_eq_t, q_eq_f, ne_eq, eq_self, Bool.false_eq_true, Bool.true_eq_false, not_true_eq_false, not_false_eq_true, true_and, and_true, false_and, and_false, true_or, or_true, false_or, or_false, if_true, if_false, Int.reduceAdd, Int.reduceMul, Int.reduceSub, Int.reduceNeg, g11, t0, t1, c0, c1, R_231_0, R_231_4, R_231_17, R_231_22, R_231_29, R_231_32, R_231_38, R_231_48, R_231_51, R_231_53, R_231_55, R_231_60, R_231_63, R_231_73, R_231_78, R_231_81, R_231_83, R_231_89, R_231_94, C_231_1, C_231_19, C_231_26, C_231_70, LM_45_6, LM_57_6, CM_75_6_0, CM_75_6_1]
    · have ew : ¬ eqw T b [104, 101, 97, 100] = true := by simp only [eqw, c0, decide_true, decide_false, Bool.false_and, Bool.and_false, Bool.true_and, Bool.false_eq_true, not_false_eq_true]
      rw [if_neg (fun x => ew x.2), q_bf (fun x => ew x.2)]
      simp (disch := first | omega | exact q_b_01 _) only [↓reduceIte, q_bk0, q_bk1, q_bk2, q_sg_b, q_b_0, q_b_n0, q_b_1, q_b_n1, q_b_T, q_b_F, q_sg_g, q_sg_sg, q_sg_xs, q_sg_id, q_gu_ne, q_gu_eq, q_g_fne, q_g_cpe, q_w_f, q_v_f, q_u_f, q_fn_f, q_cp_f, q_sg_pg, q_sg_hc, q_lt_t, q_lt_f, q_le_t, q_le_f, q_eq_t, q_eq_f, ne_eq, eq_self, Bool.false_eq_true, Bool.true_eq_false, not_true_eq_false, not_false_eq_true, true_and, and_true, false_and, and_false, true_or, or_true, false_or, or_false, if_true, if_false, Int.reduceAdd, Int.reduceMul, Int.reduceSub, Int.reduceNeg, g11, t0, c0, R_231_0, R_231_4, R_231_17, R_231_22, R_231_29, R_231_32, R_231_38, R_231_48, R_231_51, R_231_53, R_231_55, R_231_60, R_231_63, R_231_73, R_231_78, R_231_81, R_231_83, R_231_89, R_231_94, C_231_1, C_231_19, C_231_26, C_231_70, LM_45_6, LM_57_6, CM_75_6_0]
  · rw [if_neg (fun x => cl x.1), q_bf (fun x => cl x.1)]
    simp (disch := first | omega | exact q_b_01 _) only [↓reduceIte, q_bk0, q_bk1, q_bk2, q_sg_b, q_b_0, q_b_n0, q_b_1, q_b_n1, q_b_T, q_b_F, q_sg_g, q_sg_sg, q_sg_xs, q_sg_id, q_gu_ne, q_gu_eq, q_g_fne, q_g_cpe, q_w_f, q_v_f, q_u_f, q_fn_f, q_cp_f, q_sg_pg, q_sg_hc, q_lt_t, q_lt_f, q_le_t, q_le_f, q_eq_t, q_eq_f, ne_eq, eq_self, Bool.false_eq_true, Bool.true_eq_false, not_true_eq_false, not_false_eq_true, true_and, and_true, false_and, and_false, true_or, or_true, false_or, or_false, if_true, if_false, Int.reduceAdd, Int.reduceMul, Int.reduceSub, Int.reduceNeg, g11, R_231_0, R_231_4, R_231_17, R_231_22, R_231_29, R_231_32, R_231_38, R_231_48, R_231_51, R_231_53, R_231_55, R_231_60, R_231_63, R_231_73, R_231_78, R_231_81, R_231_83, R_231_89, R_231_94, C_231_1, C_231_19, C_231_26, C_231_70, LM_45_6, LM_57_6]
theorem hs_7 (h : TxM T E s) (E1 : E ≤ 400) (hr : ∀ j, 0 ≤ j → j < E → 0 ≤ T j ∧ T j ≤ 255) (ha : q_g s 285 11 = i) (i0 : 0 ≤ i) (i1 : i ≤ 1000) {b e : Int} (hb : sk T E i = b) (he : run 97 122 T E b = e) : EV (d + 9) 231 0 [.ref 285, .ref 1000007, .null, .null] [] (q_h L xs s O c) = some (.inl (some (.int (q_I (q_b (e - b = 4 ∧ eqw T b [115, 108, 105, 112] = true))))), q_h L xs (q_u s 285 11 (if e - b = 4 ∧ eqw T b [115, 108, 105, 112] = true then e else b)) O c) := by
  have g := sk_rg T E1 i0 i1
  rw [hb] at g
  have h' : TxM T E (q_u s 285 11 b) := TxM_u h (by omega)
  have g11 : q_g (q_u s 285 11 b) 285 11 = b := by rw [q_gu_eq rfl, q_sg_id (by omega) (by omega)]
  have ge := run_ge 97 122 T E b
  rw [he] at ge
  have le : e ≤ 1000 := by
    by_cases x : b ≤ E
    · have := run_le (lo := 97) (hi := 122) (T := T) x
      rw [he] at this
      omega
    · have : e = b := by rw [← he]; exact run_no (by omega)
      omega
  have sk' := mm_skip (d := d + 7) (L := L) (xs := xs) (O := O) (c := c) h E1 hr ha i0 i1
  rw [hb] at sk'
  have lp := mm_hasL (d := d + 8) (L := L) (xs := xs) (O := O) (c := c) (x1 := 1000007) (x3 := .null) h' E1 hr (E - b).toNat (k := b) (by omega) (by omega) (by omega)
  rw [he] at lp
  have st : EV (d + 9) 231 0 [.ref 285, .ref 1000007, .null, .null] [] (q_h L xs s O c) = EV (d + 8 + 1) 231 38 [.ref 285, .ref 1000007, .int (q_I e), .null] [] (q_h L xs (q_u s 285 11 b) O c) := by
    rw [← lp]
    simp (disch := first | omega | exact q_b_01 _) only [↓reduceIte, q_bk0, q_bk1, q_bk2, q_sg_b, q_b_0, q_b_n0, q_b_1, q_b_n1, q_b_T, q_b_F, q_sg_g, q_sg_sg, q_sg_xs, q_sg_id, q_gu_ne, q_gu_eq, q_g_fne, q_g_cpe, q_w_f, q_v_f, q_u_f, q_fn_f, q_cp_f, q_sg_pg, q_sg_hc, q_lt_t, q_lt_f, q_le_t, q_le_f, q_eq_t, q_eq_f, ne_eq, eq_self, Bool.false_eq_true, Bool.true_eq_false, not_true_eq_false, not_false_eq_true, true_and, and_true, false_and, and_false, true_or, or_true, false_or, or_false, if_true, if_false, Int.reduceAdd, Int.reduceMul, Int.reduceSub, Int.reduceNeg, g11, R_231_0, R_231_4, R_231_17, R_231_22, R_231_29, R_231_32, R_231_38, R_231_48, R_231_51, R_231_53, R_231_55, R_231_60, R_231_63, R_231_73, R_231_78, R_231_81, R_231_83, R_231_89, R_231_94, C_231_1, C_231_19, C_231_26, C_231_70, sk']
  rw [st]
  by_cases cl : e - b = 4
  · have eE : e ≤ E := by
      by_cases x : b ≤ E
      · have := run_le (lo := 97) (hi := 122) (T := T) x
        rw [he] at this
        exact this
      · have : e = b := by rw [← he]; exact run_no (by omega)
        omega
    have t0 : EV (d + 8) 228 0 [.ref 285, .int (q_I (b + 0))] [] (q_h L xs (q_u s 285 11 b) O c) = some (.inl (some (.int (q_I (T b)))), q_h L xs (q_u s 285 11 b) O c) := by
      rw [mm_letter h' E1 (by omega) (by omega)]
      rw [Int.add_zero]
    have t1 : EV (d + 8) 228 0 [.ref 285, .int (q_I (b + 1))] [] (q_h L xs (q_u s 285 11 b) O c) = some (.inl (some (.int (q_I (T (b + 1))))), q_h L xs (q_u s 285 11 b) O c) := by
      rw [mm_letter h' E1 (by omega) (by omega)]
    have t2 : EV (d + 8) 228 0 [.ref 285, .int (q_I (b + 2))] [] (q_h L xs (q_u s 285 11 b) O c) = some (.inl (some (.int (q_I (T (b + 1 + 1))))), q_h L xs (q_u s 285 11 b) O c) := by
      rw [mm_letter h' E1 (by omega) (by omega)]
      rw [show b + 1 + 1 = b + 2 by omega]
    have t3 : EV (d + 8) 228 0 [.ref 285, .int (q_I (b + 3))] [] (q_h L xs (q_u s 285 11 b) O c) = some (.inl (some (.int (q_I (T (b + 1 + 1 + 1))))), q_h L xs (q_u s 285 11 b) O c) := by
      rw [mm_letter h' E1 (by omega) (by omega)]
      rw [show b + 1 + 1 + 1 = b + 3 by omega]
    have r0 := hr (b + 0) (by omega) (by omega)
    rw [Int.add_zero] at r0
    have r1 := hr (b + 1) (by omega) (by omega)
    have r2 := hr (b + 2) (by omega) (by omega)
    rw [show b + 2 = b + 1 + 1 by omega] at r2
    have r3 := hr (b + 3) (by omega) (by omega)
    rw [show b + 3 = b + 1 + 1 + 1 by omega] at r3
    by_cases c0 : T b = 115
    · skip
      by_cases c1 : T (b + 1) = 108
      · skip
        by_cases c2 : T (b + 1 + 1) = 105
        · skip
          by_cases c3 : T (b + 1 + 1 + 1) = 112
          · have ew : eqw T b [115, 108, 105, 112] = true := by simp only [eqw, c0, c1, c2, c3, decide_true, Bool.and_self, Bool.and_true]
            rw [if_pos ⟨cl, ew⟩, q_bt ⟨cl, ew⟩]
            simp (disch := first | omega | exact q_b_01 _) only [↓reduceIte, q_bk0, q_bk1, q_bk2, q_sg_b, q_b_0, q_b_n0, q_b_1, q_b_n1, q_b_T, q_b_F, q_sg_g, q_sg_sg, q_sg_xs, q_sg_id, q_gu_ne, q_gu_eq, q_g_fne, q_g_cpe, q_w_f, q_v_f, q_u_f, q_fn_f, q_cp_f, q_sg_pg, q_sg_hc, q_lt_t, q_lt_f, q_le_t, q_le_f, q_eq_t, q_eq_f, ne_eq, eq_self, Bool.false_eq_true, Bool.true_eq_false, not_true_eq_false, not_false_eq_true, true_and, and_true, false_and, and_false, true_or, or_true, false_or, or_false, if_true, if_false, Int.reduceAdd, Int.reduceMul, Int.reduceSub, Int.reduceNeg, g11, q_uu_eq, t0, t1, t2, t3, c0, c1, c2, c3, R_231_0, R_231_4, R_231_17, R_231_22, R_231_29, R_231_32, R_231_38, R_231_48, R_231_51, R_231_53, R_231_55, R_231_60, R_231_63, R_231_73, R_231_78, R_231_81, R_231_83, R_231_89, R_231_94, C_231_1, C_231_19, C_231_26, C_231_70, LM_45_7, LM_57_7, CM_75_7_0, CM_75_7_1, CM_75_7_2, CM_75_7_3]
          · have ew : ¬ eqw T b [115, 108, 105, 112] = true := by simp only [eqw, c0, c1, c2, c3, decide_true, decide_false, Bool.false_and, Bool.and_false, Bool.true_and, Bool.false_eq_true, not_false_eq_true]
            rw [if_neg (fun x => ew x.2), q_bf (fun x => ew x.2)]
            simp (disch := first | omega | exact q_b_01 _) only [↓reduceIte, q_bk0, q_bk1, q_bk2, q_sg_b, q_b_0, q_b_n0, q_b_1, q_b_n1, q_b_T, q_b_F, q_sg_g, q_sg_sg, q_sg_xs, q_sg_id, q_gu_ne, q_gu_eq, q_g_fne, q_g_cpe, q_w_f, q_v_f, q_u_f, q_fn_f, q_cp_f, q_sg_pg, q_sg_hc, q_lt_t, q_lt_f, q_le_t, q_le_f, q_eq_t, q_eq_f, ne_eq, eq_self, Bool.false_eq_true, Bool.true_eq_false, not_true_eq_false, not_false_eq_true, true_and, and_true, false_and, and_false, true_or, or_true, false_or, or_false, if_true, if_false, Int.reduceAdd, Int.reduceMul, Int.reduceSub, Int.reduceNeg, g11, t0, t1, t2, t3, c0, c1, c2, c3, R_231_0, R_231_4, R_231_17, R_231_22, R_231_29, R_231_32, R_231_38, R_231_48, R_231_51, R_231_53, R_231_55, R_231_60, R_231_63, R_231_73, R_231_78, R_231_81, R_231_83, R_231_89, R_231_94, C_231_1, C_231_19, C_231_26, C_231_70, LM_45_7, LM_57_7, CM_75_7_0, CM_75_7_1, CM_75_7_2, CM_75_7_3]
        · have ew : ¬ eqw T b [115, 108, 105, 112] = true := by simp only [eqw, c0, c1, c2, decide_true, decide_false, Bool.false_and, Bool.and_false, Bool.true_and, Bool.false_eq_true, not_false_eq_true]
          rw [if_neg (fun x => ew x.2), q_bf (fun x => ew x.2)]
          simp (disch := first | omega | exact q_b_01 _) only [↓reduceIte, q_bk0, q_bk1, q_bk2, q_sg_b, q_b_0, q_b_n0, q_b_1, q_b_n1, q_b_T, q_b_F, q_sg_g, q_sg_sg, q_sg_xs, q_sg_id, q_gu_ne, q_gu_eq, q_g_fne, q_g_cpe, q_w_f, q_v_f, q_u_f, q_fn_f, q_cp_f, q_sg_pg, q_sg_hc, q_lt_t, q_lt_f, q_le_t, q_le_f, q_eq_t, q_eq_f, ne_eq, eq_self, Bool.false_eq_true, Bool.true_eq_false, not_true_eq_false, not_false_eq_true, true_and, and_true, false_and, and_false, true_or, or_true, false_or, or_false, if_true, if_false, Int.reduceAdd, Int.reduceMul, Int.reduceSub, Int.reduceNeg, g11, t0, t1, t2, c0, c1, c2, R_231_0, R_231_4, R_231_17, R_231_22, R_231_29, R_231_32, R_231_38, R_231_48, R_231_51, R_231_53, R_231_55, R_231_60, R_231_63, R_231_73, R_231_78, R_231_81, R_231_83, R_231_89, R_231_94, C_231_1, C_231_19, C_231_26, C_231_70, LM_45_7, LM_57_7, CM_75_7_0, CM_75_7_1, CM_75_7_2]
      · have ew : ¬ eqw T b [115, 108, 105, 112] = true := by simp only [eqw, c0, c1, decide_true, decide_false, Bool.false_and, Bool.and_false, Bool.true_and, Bool.false_eq_true, not_false_eq_true]
        rw [if_neg (fun x => ew x.2), q_bf (fun x => ew x.2)]
        simp (disch := first | omega | exact q_b_01 _) only [↓reduceIte, q_bk0, q_bk1, q_bk2, q_sg_b, q_b_0, q_b_n0, q_b_1, q_b_n1, q_b_T, q_b_F, q_sg_g, q_sg_sg, q_sg_xs, q_sg_id, q_gu_ne, q_gu_eq, q_g_fne, q_g_cpe, q_w_f, q_v_f, q_u_f, q_fn_f, q_cp_f, q_sg_pg, q_sg_hc, q_lt_t, q_lt_f, q_le_t, q_le_f, q_eq_t, q_eq_f, ne_eq, eq_self, Bool.false_eq_true, Bool.true_eq_false, not_true_eq_false, not_false_eq_true, true_and, and_true, false_and, and_false, true_or, or_true, false_or, or_false, if_true, if_false, Int.reduceAdd, Int.reduceMul, Int.reduceSub, Int.reduceNeg, g11, t0, t1, c0, c1, R_231_0, R_231_4, R_231_17, R_231_22, R_231_29, R_231_32, R_231_38, R_231_48, R_231_51, R_231_53, R_231_55, R_231_60, R_231_63, R_231_73, R_231_78, R_231_81, R_231_83, R_231_89, R_231_94, C_231_1, C_231_19, C_231_26, C_231_70, LM_45_7, LM_57_7, CM_75_7_0, CM_75_7_1]
    · have ew : ¬ eqw T b [115, 108, 105, 112] = true := by simp only [eqw, c0, decide_true, decide_false, Bool.false_and, Bool.and_false, Bool.true_and, Bool.false_eq_true, not_false_eq_true]
      rw [if_neg (fun x => ew x.2), q_bf (fun x => ew x.2)]
      simp (disch := first | omega | exact q_b_01 _) only [↓reduceIte, q_bk0, q_bk1, q_bk2, q_sg_b, q_b_0, q_b_n0, q_b_1, q_b_n1, q_b_T, q_b_F, q_sg_g, q_sg_sg, q_sg_xs, q_sg_id, q_gu_ne, q_gu_eq, q_g_fne, q_g_cpe, q_w_f, q_v_f, q_u_f, q_fn_f, q_cp_f, q_sg_pg, q_sg_hc, q_lt_t, q_lt_f, q_le_t, q_le_f, q_eq_t, q_eq_f, ne_eq, eq_self, Bool.false_eq_true, Bool.true_eq_false, not_true_eq_false, not_false_eq_true, true_and, and_true, false_and, and_false, true_or, or_true, false_or, or_false, if_true, if_false, Int.reduceAdd, Int.reduceMul, Int.reduceSub, Int.reduceNeg, g11, t0, c0, R_231_0, R_231_4, R_231_17, R_231_22, R_231_29, R_231_32, R_231_38, R_231_48, R_231_51, R_231_53, R_231_55, R_231_60, R_231_63, R_231_73, R_231_78, R_231_81, R_231_83, R_231_89, R_231_94, C_231_1, C_231_19, C_231_26, C_231_70, LM_45_7, LM_57_7, CM_75_7_0]
  · rw [if_neg (fun x => cl x.1), q_bf (fun x => cl x.1)]
    simp (disch := first | omega | exact q_b_01 _) only [↓reduceIte, q_bk0, q_bk1, q_bk2, q_sg_b, q_b_0, q_b_n0, q_b_1, q_b_n1, q_b_T, q_b_F, q_sg_g, q_sg_sg, q_sg_xs, q_sg_id, q_gu_ne, q_gu_eq, q_g_fne, q_g_cpe, q_w_f, q_v_f, q_u_f, q_fn_f, q_cp_f, q_sg_pg, q_sg_hc, q_lt_t, q_lt_f, q_le_t, q_le_f, q_eq_t, q_eq_f, ne_eq, eq_self, Bool.false_eq_true, Bool.true_eq_false, not_true_eq_false, not_false_eq_true, true_and, and_true, false_and, and_false, true_or, or_true, false_or, or_false, if_true, if_false, Int.reduceAdd, Int.reduceMul, Int.reduceSub, Int.reduceNeg, g11, R_231_0, R_231_4, R_231_17, R_231_22, R_231_29, R_231_32, R_231_38, R_231_48, R_231_51, R_231_53, R_231_55, R_231_60, R_231_63, R_231_73, R_231_78, R_231_81, R_231_83, R_231_89, R_231_94, C_231_1, C_231_19, C_231_26, C_231_70, LM_45_7, LM_57_7]
theorem hs_8 (h : TxM T E s) (E1 : E ≤ 400) (hr : ∀ j, 0 ≤ j → j < E → 0 ≤ T j ∧ T j ≤ 255) (ha : q_g s 285 11 = i) (i0 : 0 ≤ i) (i1 : i ≤ 1000) {b e : Int} (hb : sk T E i = b) (he : run 97 122 T E b = e) : EV (d + 9) 231 0 [.ref 285, .ref 1000008, .null, .null] [] (q_h L xs s O c) = some (.inl (some (.int (q_I (q_b (e - b = 4 ∧ eqw T b [101, 118, 101, 110] = true))))), q_h L xs (q_u s 285 11 (if e - b = 4 ∧ eqw T b [101, 118, 101, 110] = true then e else b)) O c) := by
  have g := sk_rg T E1 i0 i1
  rw [hb] at g
  have h' : TxM T E (q_u s 285 11 b) := TxM_u h (by omega)
  have g11 : q_g (q_u s 285 11 b) 285 11 = b := by rw [q_gu_eq rfl, q_sg_id (by omega) (by omega)]
  have ge := run_ge 97 122 T E b
  rw [he] at ge
  have le : e ≤ 1000 := by
    by_cases x : b ≤ E
    · have := run_le (lo := 97) (hi := 122) (T := T) x
      rw [he] at this
      omega
    · have : e = b := by rw [← he]; exact run_no (by omega)
      omega
  have sk' := mm_skip (d := d + 7) (L := L) (xs := xs) (O := O) (c := c) h E1 hr ha i0 i1
  rw [hb] at sk'
  have lp := mm_hasL (d := d + 8) (L := L) (xs := xs) (O := O) (c := c) (x1 := 1000008) (x3 := .null) h' E1 hr (E - b).toNat (k := b) (by omega) (by omega) (by omega)
  rw [he] at lp
  have st : EV (d + 9) 231 0 [.ref 285, .ref 1000008, .null, .null] [] (q_h L xs s O c) = EV (d + 8 + 1) 231 38 [.ref 285, .ref 1000008, .int (q_I e), .null] [] (q_h L xs (q_u s 285 11 b) O c) := by
    rw [← lp]
    simp (disch := first | omega | exact q_b_01 _) only [↓reduceIte, q_bk0, q_bk1, q_bk2, q_sg_b, q_b_0, q_b_n0, q_b_1, q_b_n1, q_b_T, q_b_F, q_sg_g, q_sg_sg, q_sg_xs, q_sg_id, q_gu_ne, q_gu_eq, q_g_fne, q_g_cpe, q_w_f, q_v_f, q_u_f, q_fn_f, q_cp_f, q_sg_pg, q_sg_hc, q_lt_t, q_lt_f, q_le_t, q_le_f, q_eq_t, q_eq_f, ne_eq, eq_self, Bool.false_eq_true, Bool.true_eq_false, not_true_eq_false, not_false_eq_true, true_and, and_true, false_and, and_false, true_or, or_true, false_or, or_false, if_true, if_false, Int.reduceAdd, Int.reduceMul, Int.reduceSub, Int.reduceNeg, g11, R_231_0, R_231_4, R_231_17, R_231_22, R_231_29, R_231_32, R_231_38, R_231_48, R_231_51, R_231_53, R_231_55, R_231_60, R_231_63, R_231_73, R_231_78, R_231_81, R_231_83, R_231_89, R_231_94, C_231_1, C_231_19, C_231_26, C_231_70, sk']
  rw [st]
  by_cases cl : e - b = 4
  · have eE : e ≤ E := by
      by_cases x : b ≤ E
      · have := run_le (lo := 97) (hi := 122) (T := T) x
        rw [he] at this
        exact this
      · have : e = b := by rw [← he]; exact run_no (by omega)
        omega
    have t0 : EV (d + 8) 228 0 [.ref 285, .int (q_I (b + 0))] [] (q_h L xs (q_u s 285 11 b) O c) = some (.inl (some (.int (q_I (T b)))), q_h L xs (q_u s 285 11 b) O c) := by
      rw [mm_letter h' E1 (by omega) (by omega)]
      rw [Int.add_zero]
    have t1 : EV (d + 8) 228 0 [.ref 285, .int (q_I (b + 1))] [] (q_h L xs (q_u s 285 11 b) O c) = some (.inl (some (.int (q_I (T (b + 1))))), q_h L xs (q_u s 285 11 b) O c) := by
      rw [mm_letter h' E1 (by omega) (by omega)]
    have t2 : EV (d + 8) 228 0 [.ref 285, .int (q_I (b + 2))] [] (q_h L xs (q_u s 285 11 b) O c) = some (.inl (some (.int (q_I (T (b + 1 + 1))))), q_h L xs (q_u s 285 11 b) O c) := by
      rw [mm_letter h' E1 (by omega) (by omega)]
      rw [show b + 1 + 1 = b + 2 by omega]
    have t3 : EV (d + 8) 228 0 [.ref 285, .int (q_I (b + 3))] [] (q_h L xs (q_u s 285 11 b) O c) = some (.inl (some (.int (q_I (T (b + 1 + 1 + 1))))), q_h L xs (q_u s 285 11 b) O c) := by
      rw [mm_letter h' E1 (by omega) (by omega)]
      rw [show b + 1 + 1 + 1 = b + 3 by omega]
    have r0 := hr (b + 0) (by omega) (by omega)
    rw [Int.add_zero] at r0
    have r1 := hr (b + 1) (by omega) (by omega)
    have r2 := hr (b + 2) (by omega) (by omega)
    rw [show b + 2 = b + 1 + 1 by omega] at r2
    have r3 := hr (b + 3) (by omega) (by omega)
    rw [show b + 3 = b + 1 + 1 + 1 by omega] at r3
    by_cases c0 : T b = 101
    · skip
      by_cases c1 : T (b + 1) = 118
      · skip
        by_cases c2 : T (b + 1 + 1) = 101
        · skip
          by_cases c3 : T (b + 1 + 1 + 1) = 110
          · have ew : eqw T b [101, 118, 101, 110] = true := by simp only [eqw, c0, c1, c2, c3, decide_true, Bool.and_self, Bool.and_true]
            rw [if_pos ⟨cl, ew⟩, q_bt ⟨cl, ew⟩]
            simp (disch := first | omega | exact q_b_01 _) only [↓reduceIte, q_bk0, q_bk1, q_bk2, q_sg_b, q_b_0, q_b_n0, q_b_1, q_b_n1, q_b_T, q_b_F, q_sg_g, q_sg_sg, q_sg_xs, q_sg_id, q_gu_ne, q_gu_eq, q_g_fne, q_g_cpe, q_w_f, q_v_f, q_u_f, q_fn_f, q_cp_f, q_sg_pg, q_sg_hc, q_lt_t, q_lt_f, q_le_t, q_le_f, q_eq_t, q_eq_f, ne_eq, eq_self, Bool.false_eq_true, Bool.true_eq_false, not_true_eq_false, not_false_eq_true, true_and, and_true, false_and, and_false, true_or, or_true, false_or, or_false, if_true, if_false, Int.reduceAdd, Int.reduceMul, Int.reduceSub, Int.reduceNeg, g11, q_uu_eq, t0, t1, t2, t3, c0, c1, c2, c3, R_231_0, R_231_4, R_231_17, R_231_22, R_231_29, R_231_32, R_231_38, R_231_48, R_231_51, R_231_53, R_231_55, R_231_60, R_231_63, R_231_73, R_231_78, R_231_81, R_231_83, R_231_89, R_231_94, C_231_1, C_231_19, C_231_26, C_231_70, LM_45_8, LM_57_8, CM_75_8_0, CM_75_8_1, CM_75_8_2, CM_75_8_3]
          · have ew : ¬ eqw T b [101, 118, 101, 110] = true := by simp only [eqw, c0, c1, c2, c3, decide_true, decide_false, Bool.false_and, Bool.and_false, Bool.true_and, Bool.false_eq_true, not_false_eq_true]
            rw [if_neg (fun x => ew x.2), q_bf (fun x => ew x.2)]
            simp (disch := first | omega | exact q_b_01 _) only [↓reduceIte, q_bk0, q_bk1, q_bk2, q_sg_b, q_b_0, q_b_n0, q_b_1, q_b_n1, q_b_T, q_b_F, q_sg_g, q_sg_sg, q_sg_xs, q_sg_id, q_gu_ne, q_gu_eq, q_g_fne, q_g_cpe, q_w_f, q_v_f, q_u_f, q_fn_f, q_cp_f, q_sg_pg, q_sg_hc, q_lt_t, q_lt_f, q_le_t, q_le_f, q_eq_t, q_eq_f, ne_eq, eq_self, Bool.false_eq_true, Bool.true_eq_false, not_true_eq_false, not_false_eq_true, true_and, and_true, false_and, and_false, true_or, or_true, false_or, or_false, if_true, if_false, Int.reduceAdd, Int.reduceMul, Int.reduceSub, Int.reduceNeg, g11, t0, t1, t2, t3, c0, c1, c2, c3, R_231_0, R_231_4, R_231_17, R_231_22, R_231_29, R_231_32, R_231_38, R_231_48, R_231_51, R_231_53, R_231_55, R_231_60, R_231_63, R_231_73, R_231_78, R_231_81, R_231_83, R_231_89, R_231_94, C_231_1, C_231_19, C_231_26, C_231_70, LM_45_8, LM_57_8, CM_75_8_0, CM_75_8_1, CM_75_8_2, CM_75_8_3]
        · have ew : ¬ eqw T b [101, 118, 101, 110] = true := by simp only [eqw, c0, c1, c2, decide_true, decide_false, Bool.false_and, Bool.and_false, Bool.true_and, Bool.false_eq_true, not_false_eq_true]
          rw [if_neg (fun x => ew x.2), q_bf (fun x => ew x.2)]
          simp (disch := first | omega | exact q_b_01 _) only [↓reduceIte, q_bk0, q_bk1, q_bk2, q_sg_b, q_b_0, q_b_n0, q_b_1, q_b_n1, q_b_T, q_b_F, q_sg_g, q_sg_sg, q_sg_xs, q_sg_id, q_gu_ne, q_gu_eq, q_g_fne, q_g_cpe, q_w_f, q_v_f, q_u_f, q_fn_f, q_cp_f, q_sg_pg, q_sg_hc, q_lt_t, q_lt_f, q_le_t, q_le_f, q_eq_t, q_eq_f, ne_eq, eq_self, Bool.false_eq_true, Bool.true_eq_false, not_true_eq_false, not_false_eq_true, true_and, and_true, false_and, and_false, true_or, or_true, false_or, or_false, if_true, if_false, Int.reduceAdd, Int.reduceMul, Int.reduceSub, Int.reduceNeg, g11, t0, t1, t2, c0, c1, c2, R_231_0, R_231_4, R_231_17, R_231_22, R_231_29, R_231_32, R_231_38, R_231_48, R_231_51, R_231_53, R_231_55, R_231_60, R_231_63, R_231_73, R_231_78, R_231_81, R_231_83, R_231_89, R_231_94, C_231_1, C_231_19, C_231_26, C_231_70, LM_45_8, LM_57_8, CM_75_8_0, CM_75_8_1, CM_75_8_2]
      · have ew : ¬ eqw T b [101, 118, 101, 110] = true := by simp only [eqw, c0, c1, decide_true, decide_false, Bool.false_and, Bool.and_false, Bool.true_and, Bool.false_eq_true, not_false_eq_true]
        rw [if_neg (fun x => ew x.2), q_bf (fun x => ew x.2)]
        simp (disch := first | omega | exact q_b_01 _) only [↓reduceIte, q_bk0, q_bk1, q_bk2, q_sg_b, q_b_0, q_b_n0, q_b_1, q_b_n1, q_b_T, q_b_F, q_sg_g, q_sg_sg, q_sg_xs, q_sg_id, q_gu_ne, q_gu_eq, q_g_fne, q_g_cpe, q_w_f, q_v_f, q_u_f, q_fn_f, q_cp_f, q_sg_pg, q_sg_hc, q_lt_t, q_lt_f, q_le_t, q_le_f, q_eq_t, q_eq_f, ne_eq, eq_self, Bool.false_eq_true, Bool.true_eq_false, not_true_eq_false, not_false_eq_true, true_and, and_true, false_and, and_false, true_or, or_true, false_or, or_false, if_true, if_false, Int.reduceAdd, Int.reduceMul, Int.reduceSub, Int.reduceNeg, g11, t0, t1, c0, c1, R_231_0, R_231_4, R_231_17, R_231_22, R_231_29, R_231_32, R_231_38, R_231_48, R_231_51, R_231_53, R_231_55, R_231_60, R_231_63, R_231_73, R_231_78, R_231_81, R_231_83, R_231_89, R_231_94, C_231_1, C_231_19, C_231_26, C_231_70, LM_45_8, LM_57_8, CM_75_8_0, CM_75_8_1]
    · have ew : ¬ eqw T b [101, 118, 101, 110] = true := by simp only [eqw, c0, decide_true, decide_false, Bool.false_and, Bool.and_false, Bool.true_and, Bool.false_eq_true, not_false_eq_true]
      rw [if_neg (fun x => ew x.2), q_bf (fun x => ew x.2)]
      simp (disch := first | omega | exact q_b_01 _) only [↓reduceIte, q_bk0, q_bk1, q_bk2, q_sg_b, q_b_0, q_b_n0, q_b_1, q_b_n1, q_b_T, q_b_F, q_sg_g, q_sg_sg, q_sg_xs, q_sg_id, q_gu_ne, q_gu_eq, q_g_fne, q_g_cpe, q_w_f, q_v_f, q_u_f, q_fn_f, q_cp_f, q_sg_pg, q_sg_hc, q_lt_t, q_lt_f, q_le_t, q_le_f, q_eq_t, q_eq_f, ne_eq, eq_self, Bool.false_eq_true, Bool.true_eq_false, not_true_eq_false, not_false_eq_true, true_and, and_true, false_and, and_false, true_or, or_true, false_or, or_false, if_true, if_false, Int.reduceAdd, Int.reduceMul, Int.reduceSub, Int.reduceNeg, g11, t0, c0, R_231_0, R_231_4, R_231_17, R_231_22, R_231_29, R_231_32, R_231_38, R_231_48, R_231_51, R_231_53, R_231_55, R_231_60, R_231_63, R_231_73, R_231_78, R_231_81, R_231_83, R_231_89, R_231_94, C_231_1, C_231_19, C_231_26, C_231_70, LM_45_8, LM_57_8, CM_75_8_0]
  · rw [if_neg (fun x => cl x.1), q_bf (fun x => cl x.1)]
    simp (disch := first | omega | exact q_b_01 _) only [↓reduceIte, q_bk0, q_bk1, q_bk2, q_sg_b, q_b_0, q_b_n0, q_b_1, q_b_n1, q_b_T, q_b_F, q_sg_g, q_sg_sg, q_sg_xs, q_sg_id, q_gu_ne, q_gu_eq, q_g_fne, q_g_cpe, q_w_f, q_v_f, q_u_f, q_fn_f, q_cp_f, q_sg_pg, q_sg_hc, q_lt_t, q_lt_f, q_le_t, q_le_f, q_eq_t, q_eq_f, ne_eq, eq_self, Bool.false_eq_true, Bool.true_eq_false, not_true_eq_false, not_false_eq_true, true_and, and_true, false_and, and_false, true_or, or_true, false_or, or_false, if_true, if_false, Int.reduceAdd, Int.reduceMul, Int.reduceSub, Int.reduceNeg, g11, R_231_0, R_231_4, R_231_17, R_231_22, R_231_29, R_231_32, R_231_38, R_231_48, R_231_51, R_231_53, R_231_55, R_231_60, R_231_63, R_231_73, R_231_78, R_231_81, R_231_83, R_231_89, R_231_94, C_231_1, C_231_19, C_231_26, C_231_70, LM_45_8, LM_57_8]
theorem hs_9 (h : TxM T E s) (E1 : E ≤ 400) (hr : ∀ j, 0 ≤ j → j < E → 0 ≤ T j ∧ T j ≤ 255) (ha : q_g s 285 11 = i) (i0 : 0 ≤ i) (i1 : i ≤ 1000) {b e : Int} (hb : sk T E i = b) (he : run 97 122 T E b = e) : EV (d + 9) 231 0 [.ref 285, .ref 1000009, .null, .null] [] (q_h L xs s O c) = some (.inl (some (.int (q_I (q_b (e - b = 4 ∧ eqw T b [112, 97, 103, 101] = true))))), q_h L xs (q_u s 285 11 (if e - b = 4 ∧ eqw T b [112, 97, 103, 101] = true then e else b)) O c) := by
  have g := sk_rg T E1 i0 i1
  rw [hb] at g
  have h' : TxM T E (q_u s 285 11 b) := TxM_u h (by omega)
  have g11 : q_g (q_u s 285 11 b) 285 11 = b := by rw [q_gu_eq rfl, q_sg_id (by omega) (by omega)]
  have ge := run_ge 97 122 T E b
  rw [he] at ge
  have le : e ≤ 1000 := by
    by_cases x : b ≤ E
    · have := run_le (lo := 97) (hi := 122) (T := T) x
      rw [he] at this
      omega
    · have : e = b := by rw [← he]; exact run_no (by omega)
      omega
  have sk' := mm_skip (d := d + 7) (L := L) (xs := xs) (O := O) (c := c) h E1 hr ha i0 i1
  rw [hb] at sk'
  have lp := mm_hasL (d := d + 8) (L := L) (xs := xs) (O := O) (c := c) (x1 := 1000009) (x3 := .null) h' E1 hr (E - b).toNat (k := b) (by omega) (by omega) (by omega)
  rw [he] at lp
  have st : EV (d + 9) 231 0 [.ref 285, .ref 1000009, .null, .null] [] (q_h L xs s O c) = EV (d + 8 + 1) 231 38 [.ref 285, .ref 1000009, .int (q_I e), .null] [] (q_h L xs (q_u s 285 11 b) O c) := by
    rw [← lp]
    simp (disch := first | omega | exact q_b_01 _) only [↓reduceIte, q_bk0, q_bk1, q_bk2, q_sg_b, q_b_0, q_b_n0, q_b_1, q_b_n1, q_b_T, q_b_F, q_sg_g, q_sg_sg, q_sg_xs, q_sg_id, q_gu_ne, q_gu_eq, q_g_fne, q_g_cpe, q_w_f, q_v_f, q_u_f, q_fn_f, q_cp_f, q_sg_pg, q_sg_hc, q_lt_t, q_lt_f, q_le_t, q_le_f, q_eq_t, q_eq_f, ne_eq, eq_self, Bool.false_eq_true, Bool.true_eq_false, not_true_eq_false, not_false_eq_true, true_and, and_true, false_and, and_false, true_or, or_true, false_or, or_false, if_true, if_false, Int.reduceAdd, Int.reduceMul, Int.reduceSub, Int.reduceNeg, g11, R_231_0, R_231_4, R_231_17, R_231_22, R_231_29, R_231_32, R_231_38, R_231_48, R_231_51, R_231_53, R_231_55, R_231_60, R_231_63, R_231_73, R_231_78, R_231_81, R_231_83, R_231_89, R_231_94, C_231_1, C_231_19, C_231_26, C_231_70, sk']
  rw [st]
  by_cases cl : e - b = 4
  · have eE : e ≤ E := by
      by_cases x : b ≤ E
      · have := run_le (lo := 97) (hi := 122) (T := T) x
        rw [he] at this
        exact this
      · have : e = b := by rw [← he]; exact run_no (by omega)
        omega
    have t0 : EV (d + 8) 228 0 [.ref 285, .int (q_I (b + 0))] [] (q_h L xs (q_u s 285 11 b) O c) = some (.inl (some (.int (q_I (T b)))), q_h L xs (q_u s 285 11 b) O c) := by
      rw [mm_letter h' E1 (by omega) (by omega)]
      rw [Int.add_zero]
    have t1 : EV (d + 8) 228 0 [.ref 285, .int (q_I (b + 1))] [] (q_h L xs (q_u s 285 11 b) O c) = some (.inl (some (.int (q_I (T (b + 1))))), q_h L xs (q_u s 285 11 b) O c) := by
      rw [mm_letter h' E1 (by omega) (by omega)]
    have t2 : EV (d + 8) 228 0 [.ref 285, .int (q_I (b + 2))] [] (q_h L xs (q_u s 285 11 b) O c) = some (.inl (some (.int (q_I (T (b + 1 + 1))))), q_h L xs (q_u s 285 11 b) O c) := by
      rw [mm_letter h' E1 (by omega) (by omega)]
      rw [show b + 1 + 1 = b + 2 by omega]
    have t3 : EV (d + 8) 228 0 [.ref 285, .int (q_I (b + 3))] [] (q_h L xs (q_u s 285 11 b) O c) = some (.inl (some (.int (q_I (T (b + 1 + 1 + 1))))), q_h L xs (q_u s 285 11 b) O c) := by
      rw [mm_letter h' E1 (by omega) (by omega)]
      rw [show b + 1 + 1 + 1 = b + 3 by omega]
    have r0 := hr (b + 0) (by omega) (by omega)
    rw [Int.add_zero] at r0
    have r1 := hr (b + 1) (by omega) (by omega)
    have r2 := hr (b + 2) (by omega) (by omega)
    rw [show b + 2 = b + 1 + 1 by omega] at r2
    have r3 := hr (b + 3) (by omega) (by omega)
    rw [show b + 3 = b + 1 + 1 + 1 by omega] at r3
    by_cases c0 : T b = 112
    · skip
      by_cases c1 : T (b + 1) = 97
      · skip
        by_cases c2 : T (b + 1 + 1) = 103
        · skip
          by_cases c3 : T (b + 1 + 1 + 1) = 101
          · have ew : eqw T b [112, 97, 103, 101] = true := by simp only [eqw, c0, c1, c2, c3, decide_true, Bool.and_self, Bool.and_true]
            rw [if_pos ⟨cl, ew⟩, q_bt ⟨cl, ew⟩]
            simp (disch := first | omega | exact q_b_01 _) only [↓reduceIte, q_bk0, q_bk1, q_bk2, q_sg_b, q_b_0, q_b_n0, q_b_1, q_b_n1, q_b_T, q_b_F, q_sg_g, q_sg_sg, q_sg_xs, q_sg_id, q_gu_ne, q_gu_eq, q_g_fne, q_g_cpe, q_w_f, q_v_f, q_u_f, q_fn_f, q_cp_f, q_sg_pg, q_sg_hc, q_lt_t, q_lt_f, q_le_t, q_le_f, q_eq_t, q_eq_f, ne_eq, eq_self, Bool.false_eq_true, Bool.true_eq_false, not_true_eq_false, not_false_eq_true, true_and, and_true, false_and, and_false, true_or, or_true, false_or, or_false, if_true, if_false, Int.reduceAdd, Int.reduceMul, Int.reduceSub, Int.reduceNeg, g11, q_uu_eq, t0, t1, t2, t3, c0, c1, c2, c3, R_231_0, R_231_4, R_231_17, R_231_22, R_231_29, R_231_32, R_231_38, R_231_48, R_231_51, R_231_53, R_231_55, R_231_60, R_231_63, R_231_73, R_231_78, R_231_81, R_231_83, R_231_89, R_231_94, C_231_1, C_231_19, C_231_26, C_231_70, LM_45_9, LM_57_9, CM_75_9_0, CM_75_9_1, CM_75_9_2, CM_75_9_3]
          · have ew : ¬ eqw T b [112, 97, 103, 101] = true := by simp only [eqw, c0, c1, c2, c3, decide_true, decide_false, Bool.false_and, Bool.and_false, Bool.true_and, Bool.false_eq_true, not_false_eq_true]
            rw [if_neg (fun x => ew x.2), q_bf (fun x => ew x.2)]
            simp (disch := first | omega | exact q_b_01 _) only [↓reduceIte, q_bk0, q_bk1, q_bk2, q_sg_b, q_b_0, q_b_n0, q_b_1, q_b_n1, q_b_T, q_b_F, q_sg_g, q_sg_sg, q_sg_xs, q_sg_id, q_gu_ne, q_gu_eq, q_g_fne, q_g_cpe, q_w_f, q_v_f, q_u_f, q_fn_f, q_cp_f, q_sg_pg, q_sg_hc, q_lt_t, q_lt_f, q_le_t, q_le_f, q_eq_t, q_eq_f, ne_eq, eq_self, Bool.false_eq_true, Bool.true_eq_false, not_true_eq_false, not_false_eq_true, true_and, and_true, false_and, and_false, true_or, or_true, false_or, or_false, if_true, if_false, Int.reduceAdd, Int.reduceMul, Int.reduceSub, Int.reduceNeg, g11, t0, t1, t2, t3, c0, c1, c2, c3, R_231_0, R_231_4, R_231_17, R_231_22, R_231_29, R_231_32, R_231_38, R_231_48, R_231_51, R_231_53, R_231_55, R_231_60, R_231_63, R_231_73, R_231_78, R_231_81, R_231_83, R_231_89, R_231_94, C_231_1, C_231_19, C_231_26, C_231_70, LM_45_9, LM_57_9, CM_75_9_0, CM_75_9_1, CM_75_9_2, CM_75_9_3]
        · have ew : ¬ eqw T b [112, 97, 103, 101] = true := by simp only [eqw, c0, c1, c2, decide_true, decide_false, Bool.false_and, Bool.and_false, Bool.true_and, Bool.false_eq_true, not_false_eq_true]
          rw [if_neg (fun x => ew x.2), q_bf (fun x => ew x.2)]
          simp (disch := first | omega | exact q_b_01 _) only [↓reduceIte, q_bk0, q_bk1, q_bk2, q_sg_b, q_b_0, q_b_n0, q_b_1, q_b_n1, q_b_T, q_b_F, q_sg_g, q_sg_sg, q_sg_xs, q_sg_id, q_gu_ne, q_gu_eq, q_g_fne, q_g_cpe, q_w_f, q_v_f, q_u_f, q_fn_f, q_cp_f, q_sg_pg, q_sg_hc, q_lt_t, q_lt_f, q_le_t, q_le_f, q_eq_t, q_eq_f, ne_eq, eq_self, Bool.false_eq_true, Bool.true_eq_false, not_true_eq_false, not_false_eq_true, true_and, and_true, false_and, and_false, true_or, or_true, false_or, or_false, if_true, if_false, Int.reduceAdd, Int.reduceMul, Int.reduceSub, Int.reduceNeg, g11, t0, t1, t2, c0, c1, c2, R_231_0, R_231_4, R_231_17, R_231_22, R_231_29, R_231_32, R_231_38, R_231_48, R_231_51, R_231_53, R_231_55, R_231_60, R_231_63, R_231_73, R_231_78, R_231_81, R_231_83, R_231_89, R_231_94, C_231_1, C_231_19, C_231_26, C_231_70, LM_45_9, LM_57_9, CM_75_9_0, CM_75_9_1, CM_75_9_2]
      · have ew : ¬ eqw T b [112, 97, 103, 101] = true := by simp only [eqw, c0, c1, decide_true, decide_false, Bool.false_and, Bool.and_false, Bool.true_and, Bool.false_eq_true, not_false_eq_true]
        rw [if_neg (fun x => ew x.2), q_bf (fun x => ew x.2)]
        simp (disch := first | omega | exact q_b_01 _) only [↓reduceIte, q_bk0, q_bk1, q_bk2, q_sg_b, q_b_0, q_b_n0, q_b_1, q_b_n1, q_b_T, q_b_F, q_sg_g, q_sg_sg, q_sg_xs, q_sg_id, q_gu_ne, q_gu_eq, q_g_fne, q_g_cpe, q_w_f, q_v_f, q_u_f, q_fn_f, q_cp_f, q_sg_pg, q_sg_hc, q_lt_t, q_lt_f, q_le_t, q_le_f, q_eq_t, q_eq_f, ne_eq, eq_self, Bool.false_eq_true, Bool.true_eq_false, not_true_eq_false, not_false_eq_true, true_and, and_true, false_and, and_false, true_or, or_true, false_or, or_false, if_true, if_false, Int.reduceAdd, Int.reduceMul, Int.reduceSub, Int.reduceNeg, g11, t0, t1, c0, c1, R_231_0, R_231_4, R_231_17, R_231_22, R_231_29, R_231_32, R_231_38, R_231_48, R_231_51, R_231_53, R_231_55, R_231_60, R_231_63, R_231_73, R_231_78, R_231_81, R_231_83, R_231_89, R_231_94, C_231_1, C_231_19, C_231_26, C_231_70, LM_45_9, LM_57_9, CM_75_9_0, CM_75_9_1]
    · have ew : ¬ eqw T b [112, 97, 103, 101] = true := by simp only [eqw, c0, decide_true, decide_false, Bool.false_and, Bool.and_false, Bool.true_and, Bool.false_eq_true, not_false_eq_true]
      rw [if_neg (fun x => ew x.2), q_bf (fun x => ew x.2)]
      simp (disch := first | omega | exact q_b_01 _) only [↓reduceIte, q_bk0, q_bk1, q_bk2, q_sg_b, q_b_0, q_b_n0, q_b_1, q_b_n1, q_b_T, q_b_F, q_sg_g, q_sg_sg, q_sg_xs, q_sg_id, q_gu_ne, q_gu_eq, q_g_fne, q_g_cpe, q_w_f, q_v_f, q_u_f, q_fn_f, q_cp_f, q_sg_pg, q_sg_hc, q_lt_t, q_lt_f, q_le_t, q_le_f, q_eq_t, q_eq_f, ne_eq, eq_self, Bool.false_eq_true, Bool.true_eq_false, not_true_eq_false, not_false_eq_true, true_and, and_true, false_and, and_false, true_or, or_true, false_or, or_false, if_true, if_false, Int.reduceAdd, Int.reduceMul, Int.reduceSub, Int.reduceNeg, g11, t0, c0, R_231_0, R_231_4, R_231_17, R_231_22, R_231_29, R_231_32, R_231_38, R_231_48, R_231_51, R_231_53, R_231_55, R_231_60, R_231_63, R_231_73, R_231_78, R_231_81, R_231_83, R_231_89, R_231_94, C_231_1, C_231_19, C_231_26, C_231_70, LM_45_9, LM_57_9, CM_75_9_0]
  · rw [if_neg (fun x => cl x.1), q_bf (fun x => cl x.1)]
    simp (disch := first | omega | exact q_b_01 _) only [↓reduceIte, q_bk0, q_bk1, q_bk2, q_sg_b, q_b_0, q_b_n0, q_b_1, q_b_n1, q_b_T, q_b_F, q_sg_g, q_sg_sg, q_sg_xs, q_sg_id, q_gu_ne, q_gu_eq, q_g_fne, q_g_cpe, q_w_f, q_v_f, q_u_f, q_fn_f, q_cp_f, q_sg_pg, q_sg_hc, q_lt_t, q_lt_f, q_le_t, q_le_f, q_eq_t, q_eq_f, ne_eq, eq_self, Bool.false_eq_true, Bool.true_eq_false, not_true_eq_false, not_false_eq_true, true_and, and_true, false_and, and_false, true_or, or_true, false_or, or_false, if_true, if_false, Int.reduceAdd, Int.reduceMul, Int.reduceSub, Int.reduceNeg, g11, R_231_0, R_231_4, R_231_17, R_231_22, R_231_29, R_231_32, R_231_38, R_231_48, R_231_51, R_231_53, R_231_55, R_231_60, R_231_63, R_231_73, R_231_78, R_231_81, R_231_83, R_231_89, R_231_94, C_231_1, C_231_19, C_231_26, C_231_70, LM_45_9, LM_57_9]
theorem hs_10 (h : TxM T E s) (E1 : E ≤ 400) (hr : ∀ j, 0 ≤ j → j < E → 0 ≤ T j ∧ T j ≤ 255) (ha : q_g s 285 11 = i) (i0 : 0 ≤ i) (i1 : i ≤ 1000) {b e : Int} (hb : sk T E i = b) (he : run 97 122 T E b = e) : EV (d + 9) 231 0 [.ref 285, .ref 1000010, .null, .null] [] (q_h L xs s O c) = some (.inl (some (.int (q_I (q_b (e - b = 4 ∧ eqw T b [107, 105, 110, 100] = true))))), q_h L xs (q_u s 285 11 (if e - b = 4 ∧ eqw T b [107, 105, 110, 100] = true then e else b)) O c) := by
  have g := sk_rg T E1 i0 i1
  rw [hb] at g
  have h' : TxM T E (q_u s 285 11 b) := TxM_u h (by omega)
  have g11 : q_g (q_u s 285 11 b) 285 11 = b := by rw [q_gu_eq rfl, q_sg_id (by omega) (by omega)]
  have ge := run_ge 97 122 T E b
  rw [he] at ge
  have le : e ≤ 1000 := by
    by_cases x : b ≤ E
    · have := run_le (lo := 97) (hi := 122) (T := T) x
      rw [he] at this
      omega
    · have : e = b := by rw [← he]; exact run_no (by omega)
      omega
  have sk' := mm_skip (d := d + 7) (L := L) (xs := xs) (O := O) (c := c) h E1 hr ha i0 i1
  rw [hb] at sk'
  have lp := mm_hasL (d := d + 8) (L := L) (xs := xs) (O := O) (c := c) (x1 := 1000010) (x3 := .null) h' E1 hr (E - b).toNat (k := b) (by omega) (by omega) (by omega)
  rw [he] at lp
  have st : EV (d + 9) 231 0 [.ref 285, .ref 1000010, .null, .null] [] (q_h L xs s O c) = EV (d + 8 + 1) 231 38 [.ref 285, .ref 1000010, .int (q_I e), .null] [] (q_h L xs (q_u s 285 11 b) O c) := by
    rw [← lp]
    simp (disch := first | omega | exact q_b_01 _) only [↓reduceIte, q_bk0, q_bk1, q_bk2, q_sg_b, q_b_0, q_b_n0, q_b_1, q_b_n1, q_b_T, q_b_F, q_sg_g, q_sg_sg, q_sg_xs, q_sg_id, q_gu_ne, q_gu_eq, q_g_fne, q_g_cpe, q_w_f, q_v_f, q_u_f, q_fn_f, q_cp_f, q_sg_pg, q_sg_hc, q_lt_t, q_lt_f, q_le_t, q_le_f, q_eq_t, q_eq_f, ne_eq, eq_self, Bool.false_eq_true, Bool.true_eq_false, not_true_eq_false, not_false_eq_true, true_and, and_true, false_and, and_false, true_or, or_true, false_or, or_false, if_true, if_false, Int.reduceAdd, Int.reduceMul, Int.reduceSub, Int.reduceNeg, g11, R_231_0, R_231_4, R_231_17, R_231_22, R_231_29, R_231_32, R_231_38, R_231_48, R_231_51, R_231_53, R_231_55, R_231_60, R_231_63, R_231_73, R_231_78, R_231_81, R_231_83, R_231_89, R_231_94, C_231_1, C_231_19, C_231_26, C_231_70, sk']
  rw [st]
  by_cases cl : e - b = 4
  · have eE : e ≤ E := by
      by_cases x : b ≤ E
      · have := run_le (lo := 97) (hi := 122) (T := T) x
        rw [he] at this
        exact this
      · have : e = b := by rw [← he]; exact run_no (by omega)
        omega
    have t0 : EV (d + 8) 228 0 [.ref 285, .int (q_I (b + 0))] [] (q_h L xs (q_u s 285 11 b) O c) = some (.inl (some (.int (q_I (T b)))), q_h L xs (q_u s 285 11 b) O c) := by
      rw [mm_letter h' E1 (by omega) (by omega)]
      rw [Int.add_zero]
    have t1 : EV (d + 8) 228 0 [.ref 285, .int (q_I (b + 1))] [] (q_h L xs (q_u s 285 11 b) O c) = some (.inl (some (.int (q_I (T (b + 1))))), q_h L xs (q_u s 285 11 b) O c) := by
      rw [mm_letter h' E1 (by omega) (by omega)]
    have t2 : EV (d + 8) 228 0 [.ref 285, .int (q_I (b + 2))] [] (q_h L xs (q_u s 285 11 b) O c) = some (.inl (some (.int (q_I (T (b + 1 + 1))))), q_h L xs (q_u s 285 11 b) O c) := by
      rw [mm_letter h' E1 (by omega) (by omega)]
      rw [show b + 1 + 1 = b + 2 by omega]
    have t3 : EV (d + 8) 228 0 [.ref 285, .int (q_I (b + 3))] [] (q_h L xs (q_u s 285 11 b) O c) = some (.inl (some (.int (q_I (T (b + 1 + 1 + 1))))), q_h L xs (q_u s 285 11 b) O c) := by
      rw [mm_letter h' E1 (by omega) (by omega)]
      rw [show b + 1 + 1 + 1 = b + 3 by omega]
    have r0 := hr (b + 0) (by omega) (by omega)
    rw [Int.add_zero] at r0
    have r1 := hr (b + 1) (by omega) (by omega)
    have r2 := hr (b + 2) (by omega) (by omega)
    rw [show b + 2 = b + 1 + 1 by omega] at r2
    have r3 := hr (b + 3) (by omega) (by omega)
    rw [show b + 3 = b + 1 + 1 + 1 by omega] at r3
    by_cases c0 : T b = 107
    · skip
      by_cases c1 : T (b + 1) = 105
      · skip
        by_cases c2 : T (b + 1 + 1) = 110
        · skip
          by_cases c3 : T (b + 1 + 1 + 1) = 100
          · have ew : eqw T b [107, 105, 110, 100] = true := by simp only [eqw, c0, c1, c2, c3, decide_true, Bool.and_self, Bool.and_true]
            rw [if_pos ⟨cl, ew⟩, q_bt ⟨cl, ew⟩]
            simp (disch := first | omega | exact q_b_01 _) only [↓reduceIte, q_bk0, q_bk1, q_bk2, q_sg_b, q_b_0, q_b_n0, q_b_1, q_b_n1, q_b_T, q_b_F, q_sg_g, q_sg_sg, q_sg_xs, q_sg_id, q_gu_ne, q_gu_eq, q_g_fne, q_g_cpe, q_w_f, q_v_f, q_u_f, q_fn_f, q_cp_f, q_sg_pg, q_sg_hc, q_lt_t, q_lt_f, q_le_t, q_le_f, q_eq_t, q_eq_f, ne_eq, eq_self, Bool.false_eq_true, Bool.true_eq_false, not_true_eq_false, not_false_eq_true, true_and, and_true, false_and, and_false, true_or, or_true, false_or, or_false, if_true, if_false, Int.reduceAdd, Int.reduceMul, Int.reduceSub, Int.reduceNeg, g11, q_uu_eq, t0, t1, t2, t3, c0, c1, c2, c3, R_231_0, R_231_4, R_231_17, R_231_22, R_231_29, R_231_32, R_231_38, R_231_48, R_231_51, R_231_53, R_231_55, R_231_60, R_231_63, R_231_73, R_231_78, R_231_81, R_231_83, R_231_89, R_231_94, C_231_1, C_231_19, C_231_26, C_231_70, LM_45_10, LM_57_10, CM_75_10_0, CM_75_10_1, CM_75_10_2, CM_75_10_3]
          · have ew : ¬ eqw T b [107, 105, 110, 100] = true := by simp only [eqw, c0, c1, c2, c3, decide_true, decide_false, Bool.false_and, Bool.and_false, Bool.true_and, Bool.false_eq_true, not_false_eq_true]
            rw [if_neg (fun x => ew x.2), q_bf (fun x => ew x.2)]
            simp (disch := first | omega | exact q_b_01 _) only [↓reduceIte, q_bk0, q_bk1, q_bk2, q_sg_b, q_b_0, q_b_n0, q_b_1, q_b_n1, q_b_T, q_b_F, q_sg_g, q_sg_sg, q_sg_xs, q_sg_id, q_gu_ne, q_gu_eq, q_g_fne, q_g_cpe, q_w_f, q_v_f, q_u_f, q_fn_f, q_cp_f, q_sg_pg, q_sg_hc, q_lt_t, q_lt_f, q_le_t, q_le_f, q_eq_t, q_eq_f, ne_eq, eq_self, Bool.false_eq_true, Bool.true_eq_false, not_true_eq_false, not_false_eq_true, true_and, and_true, false_and, and_false, true_or, or_true, false_or, or_false, if_true, if_false, Int.reduceAdd, Int.reduceMul, Int.reduceSub, Int.reduceNeg, g11, t0, t1, t2, t3, c0, c1, c2, c3, R_231_0, R_231_4, R_231_17, R_231_22, R_231_29, R_231_32, R_231_38, R_231_48, R_231_51, R_231_53, R_231_55, R_231_60, R_231_63, R_231_73, R_231_78, R_231_81, R_231_83, R_231_89, R_231_94, C_231_1, C_231_19, C_231_26, C_231_70, LM_45_10, LM_57_10, CM_75_10_0, CM_75_10_1, CM_75_10_2, CM_75_10_3]
        · have ew : ¬ eqw T b [107, 105, 110, 100] = true := by simp only [eqw, c0, c1, c2, decide_true, decide_false, Bool.false_and, Bool.and_false, Bool.true_and, Bool.false_eq_true, not_false_eq_true]
          rw [if_neg (fun x => ew x.2), q_bf (fun x => ew x.2)]
          simp (disch := first | omega | exact q_b_01 _) only [↓reduceIte, q_bk0, q_bk1, q_bk2, q_sg_b, q_b_0, q_b_n0, q_b_1, q_b_n1, q_b_T, q_b_F, q_sg_g, q_sg_sg, q_sg_xs, q_sg_id, q_gu_ne, q_gu_eq, q_g_fne, q_g_cpe, q_w_f, q_v_f, q_u_f, q_fn_f, q_cp_f, q_sg_pg, q_sg_hc, q_lt_t, q_lt_f, q_le_t, q_le_f, q_eq_t, q_eq_f, ne_eq, eq_self, Bool.false_eq_true, Bool.true_eq_false, not_true_eq_false, not_false_eq_true, true_and, and_true, false_and, and_false, true_or, or_true, false_or, or_false, if_true, if_false, Int.reduceAdd, Int.reduceMul, Int.reduceSub, Int.reduceNeg, g11, t0, t1, t2, c0, c1, c2, R_231_0, R_231_4, R_231_17, R_231_22, R_231_29, R_231_32, R_231_38, R_231_48, R_231_51, R_231_53, R_231_55, R_231_60, R_231_63, R_231_73, R_231_78, R_231_81, R_231_83, R_231_89, R_231_94, C_231_1, C_231_19, C_231_26, C_231_70, LM_45_10, LM_57_10, CM_75_10_0, CM_75_10_1, CM_75_10_2]
      · have ew : ¬ eqw T b [107, 105, 110, 100] = true := by simp only [eqw, c0, c1, decide_true, decide_false, Bool.false_and, Bool.and_false, Bool.true_and, Bool.false_eq_true, not_false_eq_true]
        rw [if_neg (fun x => ew x.2), q_bf (fun x => ew x.2)]
        simp (disch := first | omega | exact q_b_01 _) only [↓reduceIte, q_bk0, q_bk1, q_bk2, q_sg_b, q_b_0, q_b_n0, q_b_1, q_b_n1, q_b_T, q_b_F, q_sg_g, q_sg_sg, q_sg_xs, q_sg_id, q_gu_ne, q_gu_eq, q_g_fne, q_g_cpe, q_w_f, q_v_f, q_u_f, q_fn_f, q_cp_f, q_sg_pg, q_sg_hc, q_lt_t, q_lt_f, q_le_t, q_le_f, q_eq_t, q_eq_f, ne_eq, eq_self, Bool.false_eq_true, Bool.true_eq_false, not_true_eq_false, not_false_eq_true, true_and, and_true, false_and, and_false, true_or, or_true, false_or, or_false, if_true, if_false, Int.reduceAdd, Int.reduceMul, Int.reduceSub, Int.reduceNeg, g11, t0, t1, c0, c1, R_231_0, R_231_4, R_231_17, R_231_22, R_231_29, R_231_32, R_231_38, R_231_48, R_231_51, R_231_53, R_231_55, R_231_60, R_231_63, R_231_73, R_231_78, R_231_81, R_231_83, R_231_89, R_231_94, C_231_1, C_231_19, C_231_26, C_231_70, LM_45_10, LM_57_10, CM_75_10_0, CM_75_10_1]
    · have ew : ¬ eqw T b [107, 105, 110, 100] = true := by simp only [eqw, c0, decide_true, decide_false, Bool.false_and, Bool.and_false, Bool.true_and, Bool.false_eq_true, not_false_eq_true]
      rw [if_neg (fun x => ew x.2), q_bf (fun x => ew x.2)]
      simp (disch := first | omega | exact q_b_01 _) only [↓reduceIte, q_bk0, q_bk1, q_bk2, q_sg_b, q_b_0, q_b_n0, q_b_1, q_b_n1, q_b_T, q_b_F, q_sg_g, q_sg_sg, q_sg_xs, q_sg_id, q_gu_ne, q_gu_eq, q_g_fne, q_g_cpe, q_w_f, q_v_f, q_u_f, q_fn_f, q_cp_f, q_sg_pg, q_sg_hc, q_lt_t, q_lt_f, q_le_t, q_le_f, q_eq_t, q_eq_f, ne_eq, eq_self, Bool.false_eq_true, Bool.true_eq_false, not_true_eq_false, not_false_eq_true, true_and, and_true, false_and, and_false, true_or, or_true, false_or, or_false, if_true, if_false, Int.reduceAdd, Int.reduceMul, Int.reduceSub, Int.reduceNeg, g11, t0, c0, R_231_0, R_231_4, R_231_17, R_231_22, R_231_29, R_231_32, R_231_38, R_231_48, R_231_51, R_231_53, R_231_55, R_231_60, R_231_63, R_231_73, R_231_78, R_231_81, R_231_83, R_231_89, R_231_94, C_231_1, C_231_19, C_231_26, C_231_70, LM_45_10, LM_57_10, CM_75_10_0]
  · rw [if_neg (fun x => cl x.1), q_bf (fun x => cl x.1)]
    simp (disch := first | omega | exact q_b_01 _) only [↓reduceIte, q_bk0, q_bk1, q_bk2, q_sg_b, q_b_0, q_b_n0, q_b_1, q_b_n1, q_b_T, q_b_F, q_sg_g, q_sg_sg, q_sg_xs, q_sg_id, q_gu_ne, q_gu_eq, q_g_fne, q_g_cpe, q_w_f, q_v_f, q_u_f, q_fn_f, q_cp_f, q_sg_pg, q_sg_hc, q_lt_t, q_lt_f, q_le_t, q_le_f, q_eq_t, q_eq_f, ne_eq, eq_self, Bool.false_eq_true, Bool.true_eq_false, not_true_eq_false, not_false_eq_true, true_and, and_true, false_and, and_false, true_or, or_true, false_or, or_false, if_true, if_false, Int.reduceAdd, Int.reduceMul, Int.reduceSub, Int.reduceNeg, g11, R_231_0, R_231_4, R_231_17, R_231_22, R_231_29, R_231_32, R_231_38, R_231_48, R_231_51, R_231_53, R_231_55, R_231_60, R_231_63, R_231_73, R_231_78, R_231_81, R_231_83, R_231_89, R_231_94, C_231_1, C_231_19, C_231_26, C_231_70, LM_45_10, LM_57_10]
theorem hs_11 (h : TxM T E s) (E1 : E ≤ 400) (hr : ∀ j, 0 ≤ j → j < E → 0 ≤ T j ∧ T j ≤ 255) (ha : q_g s 285 11 = i) (i0 : 0 ≤ i) (i1 : i ≤ 1000) {b e : Int} (hb : sk T E i = b) (he : run 97 122 T E b = e) : EV (d + 9) 231 0 [.ref 285, .ref 1000011, .null, .null] [] (q_h L xs s O c) = some (.inl (some (.int (q_I (q_b (e - b = 4 ∧ eqw T b [119, 101, 97, 114] = true))))), q_h L xs (q_u s 285 11 (if e - b = 4 ∧ eqw T b [119, 101, 97, 114] = true then e else b)) O c) := by
  have g := sk_rg T E1 i0 i1
  rw [hb] at g
  have h' : TxM T E (q_u s 285 11 b) := TxM_u h (by omega)
  have g11 : q_g (q_u s 285 11 b) 285 11 = b := by rw [q_gu_eq rfl, q_sg_id (by omega) (by omega)]
  have ge := run_ge 97 122 T E b
  rw [he] at ge
  have le : e ≤ 1000 := by
    by_cases x : b ≤ E
    · have := run_le (lo := 97) (hi := 122) (T := T) x
      rw [he] at this
      omega
    · have : e = b := by rw [← he]; exact run_no (by omega)
      omega
  have sk' := mm_skip (d := d + 7) (L := L) (xs := xs) (O := O) (c := c) h E1 hr ha i0 i1
  rw [hb] at sk'
  have lp := mm_hasL (d := d + 8) (L := L) (xs := xs) (O := O) (c := c) (x1 := 1000011) (x3 := .null) h' E1 hr (E - b).toNat (k := b) (by omega) (by omega) (by omega)
  rw [he] at lp
  have st : EV (d + 9) 231 0 [.ref 285, .ref 1000011, .null, .null] [] (q_h L xs s O c) = EV (d + 8 + 1) 231 38 [.ref 285, .ref 1000011, .int (q_I e), .null] [] (q_h L xs (q_u s 285 11 b) O c) := by
    rw [← lp]
    simp (disch := first | omega | exact q_b_01 _) only [↓reduceIte, q_bk0, q_bk1, q_bk2, q_sg_b, q_b_0, q_b_n0, q_b_1, q_b_n1, q_b_T, q_b_F, q_sg_g, q_sg_sg, q_sg_xs, q_sg_id, q_gu_ne, q_gu_eq, q_g_fne, q_g_cpe, q_w_f, q_v_f, q_u_f, q_fn_f, q_cp_f, q_sg_pg, q_sg_hc, q_lt_t, q_lt_f, q_le_t, q_le_f, q_eq_t, q_eq_f, ne_eq, eq_self, Bool.false_eq_true, Bool.true_eq_false, not_true_eq_false, not_false_eq_true, true_and, and_true, false_and, and_false, true_or, or_true, false_or, or_false, if_true, if_false, Int.reduceAdd, Int.reduceMul, Int.reduceSub, Int.reduceNeg, g11, R_231_0, R_231_4, R_231_17, R_231_22, R_231_29, R_231_32, R_231_38, R_231_48, R_231_51, R_231_53, R_231_55, R_231_60, R_231_63, R_231_73, R_231_78, R_231_81, R_231_83, R_231_89, R_231_94, C_231_1, C_231_19, C_231_26, C_231_70, sk']
  rw [st]
  by_cases cl : e - b = 4
  · have eE : e ≤ E := by
      by_cases x : b ≤ E
      · have := run_le (lo := 97) (hi := 122) (T := T) x
        rw [he] at this
        exact this
      · have : e = b := by rw [← he]; exact run_no (by omega)
        omega
    have t0 : EV (d + 8) 228 0 [.ref 285, .int (q_I (b + 0))] [] (q_h L xs (q_u s 285 11 b) O c) = some (.inl (some (.int (q_I (T b)))), q_h L xs (q_u s 285 11 b) O c) := by
      rw [mm_letter h' E1 (by omega) (by omega)]
      rw [Int.add_zero]
    have t1 : EV (d + 8) 228 0 [.ref 285, .int (q_I (b + 1))] [] (q_h L xs (q_u s 285 11 b) O c) = some (.inl (some (.int (q_I (T (b + 1))))), q_h L xs (q_u s 285 11 b) O c) := by
      rw [mm_letter h' E1 (by omega) (by omega)]
    have t2 : EV (d + 8) 228 0 [.ref 285, .int (q_I (b + 2))] [] (q_h L xs (q_u s 285 11 b) O c) = some (.inl (some (.int (q_I (T (b + 1 + 1))))), q_h L xs (q_u s 285 11 b) O c) := by
      rw [mm_letter h' E1 (by omega) (by omega)]
      rw [show b + 1 + 1 = b + 2 by omega]
    have t3 : EV (d + 8) 228 0 [.ref 285, .int (q_I (b + 3))] [] (q_h L xs (q_u s 285 11 b) O c) = some (.inl (some (.int (q_I (T (b + 1 + 1 + 1))))), q_h L xs (q_u s 285 11 b) O c) := by
      rw [mm_letter h' E1 (by omega) (by omega)]
      rw [show b + 1 + 1 + 1 = b + 3 by omega]
    have r0 := hr (b + 0) (by omega) (by omega)
    rw [Int.add_zero] at r0
    have r1 := hr (b + 1) (by omega) (by omega)
    have r2 := hr (b + 2) (by omega) (by omega)
    rw [show b + 2 = b + 1 + 1 by omega] at r2
    have r3 := hr (b + 3) (by omega) (by omega)
    rw [show b + 3 = b + 1 + 1 + 1 by omega] at r3
    by_cases c0 : T b = 119
    · skip
      by_cases c1 : T (b + 1) = 101
      · skip
        by_cases c2 : T (b + 1 + 1) = 97
        · skip
          by_cases c3 : T (b + 1 + 1 + 1) = 114
          · have ew : eqw T b [119, 101, 97, 114] = true := by simp only [eqw, c0, c1, c2, c3, decide_true, Bool.and_self, Bool.and_true]
            rw [if_pos ⟨cl, ew⟩, q_bt ⟨cl, ew⟩]
            simp (disch := first | omega | exact q_b_01 _) only [↓reduceIte, q_bk0, q_bk1, q_bk2, q_sg_b, q_b_0, q_b_n0, q_b_1, q_b_n1, q_b_T, q_b_F, q_sg_g, q_sg_sg, q_sg_xs, q_sg_id, q_gu_ne, q_gu_eq, q_g_fne, q_g_cpe, q_w_f, q_v_f, q_u_f, q_fn_f, q_cp_f, q_sg_pg, q_sg_hc, q_lt_t, q_lt_f, q_le_t, q_le_f, q_eq_t, q_eq_f, ne_eq, eq_self, Bool.false_eq_true, Bool.true_eq_false, not_true_eq_false, not_false_eq_true, true_and, and_true, false_and, and_false, true_or, or_true, false_or, or_false, if_true, if_false, Int.reduceAdd, Int.reduceMul, Int.reduceSub, Int.reduceNeg, g11, q_uu_eq, t0, t1, t2, t3, c0, c1, c2, c3, R_231_0, R_231_4, R_231_17, R_231_22, R_231_29, R_231_32, R_231_38, R_231_48, R_231_51, R_231_53, R_231_55, R_231_60, R_231_63, R_231_73, R_231_78, R_231_81, R_231_83, R_231_89, R_231_94, C_231_1, C_231_19, C_231_26, C_231_70, LM_45_11, LM_57_11, CM_75_11_0, CM_75_11_1, CM_75_11_2, CM_75_11_3]
          · have ew : ¬ eqw T b [119, 101, 97, 114] = true := by simp only [eqw, c0, c1, c2, c3, decide_true, decide_false, Bool.false_and, Bool.and_false, Bool.true_and, Bool.false_eq_true, not_false_eq_true]
            rw [if_neg (fun x => ew x.2), q_bf (fun x => ew x.2)]
            simp (disch := first | omega | exact q_b_01 _) only [↓reduceIte, q_bk0, q_bk1, q_bk2, q_sg_b, q_b_0, q_b_n0, q_b_1, q_b_n1, q_b_T, q_b_F, q_sg_g, q_sg_sg, q_sg_xs, q_sg_id, q_gu_ne, q_gu_eq, q_g_fne, q_g_cpe, q_w_f, q_v_f, q_u_f, q_fn_f, q_cp_f, q_sg_pg, q_sg_hc, q_lt_t, q_lt_f, q_le_t, q_le_f, q_eq_t, q_eq_f, ne_eq, eq_self, Bool.false_eq_true, Bool.true_eq_false, not_true_eq_false, not_false_eq_true, true_and, and_true, false_and, and_false, true_or, or_true, false_or, or_false, if_true, if_false, Int.reduceAdd, Int.reduceMul, Int.reduceSub, Int.reduceNeg, g11, t0, t1, t2, t3, c0, c1, c2, c3, R_231_0, R_231_4, R_231_17, R_231_22, R_231_29, R_231_32, R_231_38, R_231_48, R_231_51, R_231_53, R_231_55, R_231_60, R_231_63, R_231_73, R_231_78, R_231_81, R_231_83, R_231_89, R_231_94, C_231_1, C_231_19, C_231_26, C_231_70, LM_45_11, LM_57_11, CM_75_11_0, CM_75_11_1, CM_75_11_2, CM_75_11_3]
        · have ew : ¬ eqw T b [119, 101, 97, 114] = true := by simp only [eqw, c0, c1, c2, decide_true, decide_false, Bool.false_and, Bool.and_false, Bool.true_and, Bool.false_eq_true, not_false_eq_true]
          rw [if_neg (fun x => ew x.2), q_bf (fun x => ew x.2)]
          simp (disch := first | omega | exact q_b_01 _) only [↓reduceIte, q_bk0, q_bk1, q_bk2, q_sg_b, q_b_0, q_b_n0, q_b_1, q_b_n1, q_b_T, q_b_F, q_sg_g, q_sg_sg, q_sg_xs, q_sg_id, q_gu_ne, q_gu_eq, q_g_fne, q_g_cpe, q_w_f, q_v_f, q_u_f, q_fn_f, q_cp_f, q_sg_pg, q_sg_hc, q_lt_t, q_lt_f, q_le_t, q_le_f, q_eq_t, q_eq_f, ne_eq, eq_self, Bool.false_eq_true, Bool.true_eq_false, not_true_eq_false, not_false_eq_true, true_and, and_true, false_and, and_false, true_or, or_true, false_or, or_false, if_true, if_false, Int.reduceAdd, Int.reduceMul, Int.reduceSub, Int.reduceNeg, g11, t0, t1, t2, c0, c1, c2, R_231_0, R_231_4, R_231_17, R_231_22, R_231_29, R_231_32, R_231_38, R_231_48, R_231_51, R_231_53, R_231_55, R_231_60, R_231_63, R_231_73, R_231_78, R_231_81, R_231_83, R_231_89, R_231_94, C_231_1, C_231_19, C_231_26, C_231_70, LM_45_11, LM_57_11, CM_75_11_0, CM_75_11_1, CM_75_11_2]
      · have ew : ¬ eqw T b [119, 101, 97, 114] = true := by simp only [eqw, c0, c1, decide_true, decide_false, Bool.false_and, Bool.and_false, Bool.true_and, Bool.false_eq_true, not_false_eq_true]
        rw [if_neg (fun x => ew x.2), q_bf (fun x => ew x.2)]
        simp (disch := first | omega | exact q_b_01 _) only [↓reduceIte, q_bk0, q_bk1, q_bk2, q_sg_b, q_b_0, q_b_n0, q_b_1, q_b_n1, q_b_T, q_b_F, q_sg_g, q_sg_sg, q_sg_xs, q_sg_id, q_gu_ne, q_gu_eq, q_g_fne, q_g_cpe, q_w_f, q_v_f, q_u_f, q_fn_f, q_cp_f, q_sg_pg, q_sg_hc, q_lt_t, q_lt_f, q_le_t, q_le_f, q_eq_t, q_eq_f, ne_eq, eq_self, Bool.false_eq_true, Bool.true_eq_false, not_true_eq_false, not_false_eq_true, true_and, and_true, false_and, and_false, true_or, or_true, false_or, or_false, if_true, if_false, Int.reduceAdd, Int.reduceMul, Int.reduceSub, Int.reduceNeg, g11, t0, t1, c0, c1, R_231_0, R_231_4, R_231_17, R_231_22, R_231_29, R_231_32, R_231_38, R_231_48, R_231_51, R_231_53, R_231_55, R_231_60, R_231_63, R_231_73, R_231_78, R_231_81, R_231_83, R_231_89, R_231_94, C_231_1, C_231_19, C_231_26, C_231_70, LM_45_11, LM_57_11, CM_75_11_0, CM_75_11_1]
    · have ew : ¬ eqw T b [119, 101, 97, 114] = true := by simp only [eqw, c0, decide_true, decide_false, Bool.false_and, Bool.and_false, Bool.true_and, Bool.false_eq_true, not_false_eq_true]
      rw [if_neg (fun x => ew x.2), q_bf (fun x => ew x.2)]
      simp (disch := first | omega | exact q_b_01 _) only [↓reduceIte, q_bk0, q_bk1, q_bk2, q_sg_b, q_b_0, q_b_n0, q_b_1, q_b_n1, q_b_T, q_b_F, q_sg_g, q_sg_sg, q_sg_xs, q_sg_id, q_gu_ne, q_gu_eq, q_g_fne, q_g_cpe, q_w_f, q_v_f, q_u_f, q_fn_f, q_cp_f, q_sg_pg, q_sg_hc, q_lt_t, q_lt_f, q_le_t, q_le_f, q_eq_t, q_eq_f, ne_eq, eq_self, Bool.false_eq_true, Bool.true_eq_false, not_true_eq_false, not_false_eq_true, true_and, and_true, false_and, and_false, true_or, or_true, false_or, or_false, if_true, if_false, Int.reduceAdd, Int.reduceMul, Int.reduceSub, Int.reduceNeg, g11, t0, c0, R_231_0, R_231_4, R_231_17, R_231_22, R_231_29, R_231_32, R_231_38, R_231_48, R_231_51, R_231_53, R_231_55, R_231_60, R_231_63, R_231_73, R_231_78, R_231_81, R_231_83, R_231_89, R_231_94, C_231_1, C_231_19, C_231_26, C_231_70, LM_45_11, LM_57_11, CM_75_11_0]
  · rw [if_neg (fun x => cl x.1), q_bf (fun x => cl x.1)]
    simp (disch := first | omega | exact q_b_01 _) only [↓reduceIte, q_bk0, q_bk1, q_bk2, q_sg_b, q_b_0, q_b_n0, q_b_1, q_b_n1, q_b_T, q_b_F, q_sg_g, q_sg_sg, q_sg_xs, q_sg_id, q_gu_ne, q_gu_eq, q_g_fne, q_g_cpe, q_w_f, q_v_f, q_u_f, q_fn_f, q_cp_f, q_sg_pg, q_sg_hc, q_lt_t, q_lt_f, q_le_t, q_le_f, q_eq_t, q_eq_f, ne_eq, eq_self, Bool.false_eq_true, Bool.true_eq_false, not_true_eq_false, not_false_eq_true, true_and, and_true, false_and, and_false, true_or, or_true, false_or, or_false, if_true, if_false, Int.reduceAdd, Int.reduceMul, Int.reduceSub, Int.reduceNeg, g11, R_231_0, R_231_4, R_231_17, R_231_22, R_231_29, R_231_32, R_231_38, R_231_48, R_231_51, R_231_53, R_231_55, R_231_60, R_231_63, R_231_73, R_231_78, R_231_81, R_231_83, R_231_89, R_231_94, C_231_1, C_231_19, C_231_26, C_231_70, LM_45_11, LM_57_11]
theorem hs_12 (h : TxM T E s) (E1 : E ≤ 400) (hr : ∀ j, 0 ≤ j → j < E → 0 ≤ T j ∧ T j ≤ 255) (ha : q_g s 285 11 = i) (i0 : 0 ≤ i) (i1 : i ≤ 1000) {b e : Int} (hb : sk T E i = b) (he : run 97 122 T E b = e) : EV (d + 9) 231 0 [.ref 285, .ref 1000012, .null, .null] [] (q_h L xs s O c) = some (.inl (some (.int (q_I (q_b (e - b = 4 ∧ eqw T b [114, 111, 119, 115] = true))))), q_h L xs (q_u s 285 11 (if e - b = 4 ∧ eqw T b [114, 111, 119, 115] = true then e else b)) O c) := by
  have g := sk_rg T E1 i0 i1
  rw [hb] at g
  have h' : TxM T E (q_u s 285 11 b) := TxM_u h (by omega)
  have g11 : q_g (q_u s 285 11 b) 285 11 = b := by rw [q_gu_eq rfl, q_sg_id (by omega) (by omega)]
  have ge := run_ge 97 122 T E b
  rw [he] at ge
  have le : e ≤ 1000 := by
    by_cases x : b ≤ E
    · have := run_le (lo := 97) (hi := 122) (T := T) x
      rw [he] at this
      omega
    · have : e = b := by rw [← he]; exact run_no (by omega)
      omega
  have sk' := mm_skip (d := d + 7) (L := L) (xs := xs) (O := O) (c := c) h E1 hr ha i0 i1
  rw [hb] at sk'
  have lp := mm_hasL (d := d + 8) (L := L) (xs := xs) (O := O) (c := c) (x1 := 1000012) (x3 := .null) h' E1 hr (E - b).toNat (k := b) (by omega) (by omega) (by omega)
  rw [he] at lp
  have st : EV (d + 9) 231 0 [.ref 285, .ref 1000012, .null, .null] [] (q_h L xs s O c) = EV (d + 8 + 1) 231 38 [.ref 285, .ref 1000012, .int (q_I e), .null] [] (q_h L xs (q_u s 285 11 b) O c) := by
    rw [← lp]
    simp (disch := first | omega | exact q_b_01 _) only [↓reduceIte, q_bk0, q_bk1, q_bk2, q_sg_b, q_b_0, q_b_n0, q_b_1, q_b_n1, q_b_T, q_b_F, q_sg_g, q_sg_sg, q_sg_xs, q_sg_id, q_gu_ne, q_gu_eq, q_g_fne, q_g_cpe, q_w_f, q_v_f, q_u_f, q_fn_f, q_cp_f, q_sg_pg, q_sg_hc, q_lt_t, q_lt_f, q_le_t, q_le_f, q_eq_t, q_eq_f, ne_eq, eq_self, Bool.false_eq_true, Bool.true_eq_false, not_true_eq_false, not_false_eq_true, true_and, and_true, false_and, and_false, true_or, or_true, false_or, or_false, if_true, if_false, Int.reduceAdd, Int.reduceMul, Int.reduceSub, Int.reduceNeg, g11, R_231_0, R_231_4, R_231_17, R_231_22, R_231_29, R_231_32, R_231_38, R_231_48, R_231_51, R_231_53, R_231_55, R_231_60, R_231_63, R_231_73, R_231_78, R_231_81, R_231_83, R_231_89, R_231_94, C_231_1, C_231_19, C_231_26, C_231_70, sk']
  rw [st]
  by_cases cl : e - b = 4
  · have eE : e ≤ E := by
      by_cases x : b ≤ E
      · have := run_le (lo := 97) (hi := 122) (T := T) x
        rw [he] at this
        exact this
      · have : e = b := by rw [← he]; exact run_no (by omega)
        omega
    have t0 : EV (d + 8) 228 0 [.ref 285, .int (q_I (b + 0))] [] (q_h L xs (q_u s 285 11 b) O c) = some (.inl (some (.int (q_I (T b)))), q_h L xs (q_u s 285 11 b) O c) := by
      rw [mm_letter h' E1 (by omega) (by omega)]
      rw [Int.add_zero]
    have t1 : EV (d + 8) 228 0 [.ref 285, .int (q_I (b + 1))] [] (q_h L xs (q_u s 285 11 b) O c) = some (.inl (some (.int (q_I (T (b + 1))))), q_h L xs (q_u s 285 11 b) O c) := by
      rw [mm_letter h' E1 (by omega) (by omega)]
    have t2 : EV (d + 8) 228 0 [.ref 285, .int (q_I (b + 2))] [] (q_h L xs (q_u s 285 11 b) O c) = some (.inl (some (.int (q_I (T (b + 1 + 1))))), q_h L xs (q_u s 285 11 b) O c) := by
      rw [mm_letter h' E1 (by omega) (by omega)]
      rw [show b + 1 + 1 = b + 2 by omega]
    have t3 : EV (d + 8) 228 0 [.ref 285, .int (q_I (b + 3))] [] (q_h L xs (q_u s 285 11 b) O c) = some (.inl (some (.int (q_I (T (b + 1 + 1 + 1))))), q_h L xs (q_u s 285 11 b) O c) := by
      rw [mm_letter h' E1 (by omega) (by omega)]
      rw [show b + 1 + 1 + 1 = b + 3 by omega]
    have r0 := hr (b + 0) (by omega) (by omega)
    rw [Int.add_zero] at r0
    have r1 := hr (b + 1) (by omega) (by omega)
    have r2 := hr (b + 2) (by omega) (by omega)
    rw [show b + 2 = b + 1 + 1 by omega] at r2
    have r3 := hr (b + 3) (by omega) (by omega)
    rw [show b + 3 = b + 1 + 1 + 1 by omega] at r3
    by_cases c0 : T b = 114
    · skip
      by_cases c1 : T (b + 1) = 111
      · skip
        by_cases c2 : T (b + 1 + 1) = 119
        · skip
          by_cases c3 : T (b + 1 + 1 + 1) = 115
          · have ew : eqw T b [114, 111, 119, 115] = true := by simp only [eqw, c0, c1, c2, c3, decide_true, Bool.and_self, Bool.and_true]
            rw [if_pos ⟨cl, ew⟩, q_bt ⟨cl, ew⟩]
            simp (disch := first | omega | exact q_b_01 _) only [↓reduceIte, q_bk0, q_bk1, q_bk2, q_sg_b, q_b_0, q_b_n0, q_b_1, q_b_n1, q_b_T, q_b_F, q_sg_g, q_sg_sg, q_sg_xs, q_sg_id, q_gu_ne, q_gu_eq, q_g_fne, q_g_cpe, q_w_f, q_v_f, q_u_f, q_fn_f, q_cp_f, q_sg_pg, q_sg_hc, q_lt_t, q_lt_f, q_le_t, q_le_f, q_eq_t, q_eq_f, ne_eq, eq_self, Bool.false_eq_true, Bool.true_eq_false, not_true_eq_false, not_false_eq_true, true_and, and_true, false_and, and_false, true_or, or_true, false_or, or_false, if_true, if_false, Int.reduceAdd, Int.reduceMul, Int.reduceSub, Int.reduceNeg, g11, q_uu_eq, t0, t1, t2, t3, c0, c1, c2, c3, R_231_0, R_231_4, R_231_17, R_231_22, R_231_29, R_231_32, R_231_38, R_231_48, R_231_51, R_231_53, R_231_55, R_231_60, R_231_63, R_231_73, R_231_78, R_231_81, R_231_83, R_231_89, R_231_94, C_231_1, C_231_19, C_231_26, C_231_70, LM_45_12, LM_57_12, CM_75_12_0, CM_75_12_1, CM_75_12_2, CM_75_12_3]
          · have ew : ¬ eqw T b [114, 111, 119, 115] = true := by simp only [eqw, c0, c1, c2, c3, decide_true, decide_false, Bool.false_and, Bool.and_false, Bool.true_and, Bool.false_eq_true, not_false_eq_true]
            rw [if_neg (fun x => ew x.2), q_bf (fun x => ew x.2)]
            simp (disch := first | omega | exact q_b_01 _) only [↓reduceIte, q_bk0, q_bk1, q_bk2, q_sg_b, q_b_0, q_b_n0, q_b_1, q_b_n1, q_b_T, q_b_F, q_sg_g, q_sg_sg, q_sg_xs, q_sg_id, q_gu_ne, q_gu_eq, q_g_fne, q_g_cpe, q_w_f, q_v_f, q_u_f, q_fn_f, q_cp_f, q_sg_pg, q_sg_hc, q_lt_t, q_lt_f, q_le_t, q_le_f, q_eq_t, q_eq_f, ne_eq, eq_self, Bool.false_eq_true, Bool.true_eq_false, not_true_eq_false, not_false_eq_true, true_and, and_true, false_and, and_false, true_or, or_true, false_or, or_false, if_true, if_false, Int.reduceAdd, Int.reduceMul, Int.reduceSub, Int.reduceNeg, g11, t0, t1, t2, t3, c0, c1, c2, c3, R_231_0, R_231_4, R_231_17, R_231_22, R_231_29, R_231_32, R_231_38, R_231_48, R_231_51, R_231_53, R_231_55, R_231_60, R_231_63, R_231_73, R_231_78, R_231_81, R_231_83, R_231_89, R_231_94, C_231_1, C_231_19, C_231_26, C_231_70, LM_45_12, LM_57_12, CM_75_12_0, CM_75_12_1, CM_75_12_2, CM_75_12_3]
        · have ew : ¬ eqw T b [114, 111, 119, 115] = true := by simp only [eqw, c0, c1, c2, decide_true, decide_false, Bool.false_and, Bool.and_false, Bool.true_and, Bool.false_eq_true, not_false_eq_true]
          rw [if_neg (fun x => ew x.2), q_bf (fun x => ew x.2)]
          simp (disch := first | omega | exact q_b_01 _) only [↓reduceIte, q_bk0, q_bk1, q_bk2, q_sg_b, q_b_0, q_b_n0, q_b_1, q_b_n1, q_b_T, q_b_F, q_sg_g, q_sg_sg, q_sg_xs, q_sg_id, q_gu_ne, q_gu_eq, q_g_fne, q_g_cpe, q_w_f, q_v_f, q_u_f, q_fn_f, q_cp_f, q_sg_pg, q_sg_hc, q_lt_t, q_lt_f, q_le_t, q_le_f, q_eq_t, q_eq_f, ne_eq, eq_self, Bool.false_eq_true, Bool.true_eq_false, not_true_eq_false, not_false_eq_true, true_and, and_true, false_and, and_false, true_or, or_true, false_or, or_false, if_true, if_false, Int.reduceAdd, Int.reduceMul, Int.reduceSub, Int.reduceNeg, g11, t0, t1, t2, c0, c1, c2, R_231_0, R_231_4, R_231_17, R_231_22, R_231_29, R_231_32, R_231_38, R_231_48, R_231_51, R_231_53, R_231_55, R_231_60, R_231_63, R_231_73, R_231_78, R_231_81, R_231_83, R_231_89, R_231_94, C_231_1, C_231_19, C_231_26, C_231_70, LM_45_12, LM_57_12, CM_75_12_0, CM_75_12_1, CM_75_12_2]
      · have ew : ¬ eqw T b [114, 111, 119, 115] = true := by simp only [eqw, c0, c1, decide_true, decide_false, Bool.false_and, Bool.and_false, Bool.true_and, Bool.false_eq_true, not_false_eq_true]
        rw [if_neg (fun x => ew x.2), q_bf (fun x => ew x.2)]
        simp (disch := first | omega | exact q_b_01 _) only [↓reduceIte, q_bk0, q_bk1, q_bk2, q_sg_b, q_b_0, q_b_n0, q_b_1, q_b_n1, q_b_T, q_b_F, q_sg_g, q_sg_sg, q_sg_xs, q_sg_id, q_gu_ne, q_gu_eq, q_g_fne, q_g_cpe, q_w_f, q_v_f, q_u_f, q_fn_f, q_cp_f, q_sg_pg, q_sg_hc, q_lt_t, q_lt_f, q_le_t, q_le_f, q_eq_t, q_eq_f, ne_eq, eq_self, Bool.false_eq_true, Bool.true_eq_false, not_true_eq_false, not_false_eq_true, true_and, and_true, false_and, and_false, true_or, or_true, false_or, or_false, if_true, if_false, Int.reduceAdd, Int.reduceMul, Int.reduceSub, Int.reduceNeg, g11, t0, t1, c0, c1, R_231_0, R_231_4, R_231_17, R_231_22, R_231_29, R_231_32, R_231_38, R_231_48, R_231_51, R_231_53, R_231_55, R_231_60, R_231_63, R_231_73, R_231_78, R_231_81, R_231_83, R_231_89, R_231_94, C_231_1, C_231_19, C_231_26, C_231_70, LM_45_12, LM_57_12, CM_75_12_0, CM_75_12_1]
    · have ew : ¬ eqw T b [114, 111, 119, 115] = true := by simp only [eqw, c0, decide_true, decide_false, Bool.false_and, Bool.and_false, Bool.true_and, Bool.false_eq_true, not_false_eq_true]
      rw [if_neg (fun x => ew x.2), q_bf (fun x => ew x.2)]
      simp (disch := first | omega | exact q_b_01 _) only [↓reduceIte, q_bk0, q_bk1, q_bk2, q_sg_b, q_b_0, q_b_n0, q_b_1, q_b_n1, q_b_T, q_b_F, q_sg_g, q_sg_sg, q_sg_xs, q_sg_id, q_gu_ne, q_gu_eq, q_g_fne, q_g_cpe, q_w_f, q_v_f, q_u_f, q_fn_f, q_cp_f, q_sg_pg, q_sg_hc, q_lt_t, q_lt_f, q_le_t, q_le_f, q_eq_t, q_eq_f, ne_eq, eq_self, Bool.false_eq_true, Bool.true_eq_false, not_true_eq_false, not_false_eq_true, true_and, and_true, false_and, and_false, true_or, or_true, false_or, or_false, if_true, if_false, Int.reduceAdd, Int.reduceMul, Int.reduceSub, Int.reduceNeg, g11, t0, c0, R_231_0, R_231_4, R_231_17, R_231_22, R_231_29, R_231_32, R_231_38, R_231_48, R_231_51, R_231_53, R_231_55, R_231_60, R_231_63, R_231_73, R_231_78, R_231_81, R_231_83, R_231_89, R_231_94, C_231_1, C_231_19, C_231_26, C_231_70, LM_45_12, LM_57_12, CM_75_12_0]
  · rw [if_neg (fun x => cl x.1), q_bf (fun x => cl x.1)]
    simp (disch := first | omega | exact q_b_01 _) only [↓reduceIte, q_bk0, q_bk1, q_bk2, q_sg_b, q_b_0, q_b_n0, q_b_1, q_b_n1, q_b_T, q_b_F, q_sg_g, q_sg_sg, q_sg_xs, q_sg_id, q_gu_ne, q_gu_eq, q_g_fne, q_g_cpe, q_w_f, q_v_f, q_u_f, q_fn_f, q_cp_f, q_sg_pg, q_sg_hc, q_lt_t, q_lt_f, q_le_t, q_le_f, q_eq_t, q_eq_f, ne_eq, eq_self, Bool.false_eq_true, Bool.true_eq_false, not_true_eq_false, not_false_eq_true, true_and, and_true, false_and, and_false, true_or, or_true, false_or, or_false, if_true, if_false, Int.reduceAdd, Int.reduceMul, Int.reduceSub, Int.reduceNeg, g11, R_231_0, R_231_4, R_231_17, R_231_22, R_231_29, R_231_32, R_231_38, R_231_48, R_231_51, R_231_53, R_231_55, R_231_60, R_231_63, R_231_73, R_231_78, R_231_81, R_231_83, R_231_89, R_231_94, C_231_1, C_231_19, C_231_26, C_231_70, LM_45_12, LM_57_12]
theorem hs_13 (h : TxM T E s) (E1 : E ≤ 400) (hr : ∀ j, 0 ≤ j → j < E → 0 ≤ T j ∧ T j ≤ 255) (ha : q_g s 285 11 = i) (i0 : 0 ≤ i) (i1 : i ≤ 1000) {b e : Int} (hb : sk T E i = b) (he : run 97 122 T E b = e) : EV (d + 9) 231 0 [.ref 285, .ref 1000013, .null, .null] [] (q_h L xs s O c) = some (.inl (some (.int (q_I (q_b (e - b = 7 ∧ eqw T b [118, 101, 114, 115, 105, 111, 110] = true))))), q_h L xs (q_u s 285 11 (if e - b = 7 ∧ eqw T b [118, 101, 114, 115, 105, 111, 110] = true then e else b)) O c) := by
  have g := sk_rg T E1 i0 i1
  rw [hb] at g
  have h' : TxM T E (q_u s 285 11 b) := TxM_u h (by omega)
  have g11 : q_g (q_u s 285 11 b) 285 11 = b := by rw [q_gu_eq rfl, q_sg_id (by omega) (by omega)]
  have ge := run_ge 97 122 T E b
  rw [he] at ge
  have le : e ≤ 1000 := by
    by_cases x : b ≤ E
    · have := run_le (lo := 97) (hi := 122) (T := T) x
      rw [he] at this
      omega
    · have : e = b := by rw [← he]; exact run_no (by omega)
      omega
  have sk' := mm_skip (d := d + 7) (L := L) (xs := xs) (O := O) (c := c) h E1 hr ha i0 i1
  rw [hb] at sk'
  have lp := mm_hasL (d := d + 8) (L := L) (xs := xs) (O := O) (c := c) (x1 := 1000013) (x3 := .null) h' E1 hr (E - b).toNat (k := b) (by omega) (by omega) (by omega)
  rw [he] at lp
  have st : EV (d + 9) 231 0 [.ref 285, .ref 1000013, .null, .null] [] (q_h L xs s O c) = EV (d + 8 + 1) 231 38 [.ref 285, .ref 1000013, .int (q_I e), .null] [] (q_h L xs (q_u s 285 11 b) O c) := by
    rw [← lp]
    simp (disch := first | omega | exact q_b_01 _) only [↓reduceIte, q_bk0, q_bk1, q_bk2, q_sg_b, q_b_0, q_b_n0, q_b_1, q_b_n1, q_b_T, q_b_F, q_sg_g, q_sg_sg, q_sg_xs, q_sg_id, q_gu_ne, q_gu_eq, q_g_fne, q_g_cpe, q_w_f, q_v_f, q_u_f, q_fn_f, q_cp_f, q_sg_pg, q_sg_hc, q_lt_t, q_lt_f, q_le_t, q_le_f, q_eq_t, q_eq_f, ne_eq, eq_self, Bool.false_eq_true, Bool.true_eq_false, not_true_eq_false, not_false_eq_true, true_and, and_true, false_and, and_false, true_or, or_true, false_or, or_false, if_true, if_false, Int.reduceAdd, Int.reduceMul, Int.reduceSub, Int.reduceNeg, g11, R_231_0, R_231_4, R_231_17, R_231_22, R_231_29, R_231_32, R_231_38, R_231_48, R_231_51, R_231_53, R_231_55, R_231_60, R_231_63, R_231_73, R_231_78, R_231_81, R_231_83, R_231_89, R_231_94, C_231_1, C_231_19, C_231_26, C_231_70, sk']
  rw [st]
  by_cases cl : e - b = 7
  · have eE : e ≤ E := by
      by_cases x : b ≤ E
      · have := run_le (lo := 97) (hi := 122) (T := T) x
        rw [he] at this
        exact this
      · have : e = b := by rw [← he]; exact run_no (by omega)
        omega
    have t0 : EV (d + 8) 228 0 [.ref 285, .int (q_I (b + 0))] [] (q_h L xs (q_u s 285 11 b) O c) = some (.inl (some (.int (q_I (T b)))), q_h L xs (q_u s 285 11 b) O c) := by
      rw [mm_letter h' E1 (by omega) (by omega)]
      rw [Int.add_zero]
    have t1 : EV (d + 8) 228 0 [.ref 285, .int (q_I (b + 1))] [] (q_h L xs (q_u s 285 11 b) O c) = some (.inl (some (.int (q_I (T (b + 1))))), q_h L xs (q_u s 285 11 b) O c) := by
      rw [mm_letter h' E1 (by omega) (by omega)]
    have t2 : EV (d + 8) 228 0 [.ref 285, .int (q_I (b + 2))] [] (q_h L xs (q_u s 285 11 b) O c) = some (.inl (some (.int (q_I (T (b + 1 + 1))))), q_h L xs (q_u s 285 11 b) O c) := by
      rw [mm_letter h' E1 (by omega) (by omega)]
      rw [show b + 1 + 1 = b + 2 by omega]
    have t3 : EV (d + 8) 228 0 [.ref 285, .int (q_I (b + 3))] [] (q_h L xs (q_u s 285 11 b) O c) = some (.inl (some (.int (q_I (T (b + 1 + 1 + 1))))), q_h L xs (q_u s 285 11 b) O c) := by
      rw [mm_letter h' E1 (by omega) (by omega)]
      rw [show b + 1 + 1 + 1 = b + 3 by omega]
    have t4 : EV (d + 8) 228 0 [.ref 285, .int (q_I (b + 4))] [] (q_h L xs (q_u s 285 11 b) O c) = some (.inl (some (.int (q_I (T (b + 1 + 1 + 1 + 1))))), q_h L xs (q_u s 285 11 b) O c) := by
      rw [mm_letter h' E1 (by omega) (by omega)]
      rw [show b + 1 + 1 + 1 + 1 = b + 4 by omega]
    have t5 : EV (d + 8) 228 0 [.ref 285, .int (q_I (b + 5))] [] (q_h L xs (q_u s 285 11 b) O c) = some (.inl (some (.int (q_I (T (b + 1 + 1 + 1 + 1 + 1))))), q_h L xs (q_u s 285 11 b) O c) := by
      rw [mm_letter h' E1 (by omega) (by omega)]
      rw [show b + 1 + 1 + 1 + 1 + 1 = b + 5 by omega]
    have t6 : EV (d + 8) 228 0 [.ref 285, .int (q_I (b + 6))] [] (q_h L xs (q_u s 285 11 b) O c) = some (.inl (some (.int (q_I (T (b + 1 + 1 + 1 + 1 + 1 + 1))))), q_h L xs (q_u s 285 11 b) O c) := by
      rw [mm_letter h' E1 (by omega) (by omega)]
      rw [show b + 1 + 1 + 1 + 1 + 1 + 1 = b + 6 by omega]
    have r0 := hr (b + 0) (by omega) (by omega)
    rw [Int.add_zero] at r0
    have r1 := hr (b + 1) (by omega) (by omega)
    have r2 := hr (b + 2) (by omega) (by omega)
    rw [show b + 2 = b + 1 + 1 by omega] at r2
    have r3 := hr (b + 3) (by omega) (by omega)
    rw [show b + 3 = b + 1 + 1 + 1 by omega] at r3
    have r4 := hr (b + 4) (by omega) (by omega)
    rw [show b + 4 = b + 1 + 1 + 1 + 1 by omega] at r4
    have r5 := hr (b + 5) (by omega) (by omega)
    rw [show b + 5 = b + 1 + 1 + 1 + 1 + 1 by omega] at r5
    have r6 := hr (b + 6) (by omega) (by omega)
    rw [show b + 6 = b + 1 + 1 + 1 + 1 + 1 + 1 by omega] at r6
    by_cases c0 : T b = 118
    · skip
      by_cases c1 : T (b + 1) = 101
      · skip
        by_cases c2 : T (b + 1 + 1) = 114
        · skip
          by_cases c3 : T (b + 1 + 1 + 1) = 115
          · skip
            by_cases c4 : T (b + 1 + 1 + 1 + 1) = 105
            · skip
              by_cases c5 : T (b + 1 + 1 + 1 + 1 + 1) = 111
              · skip
                by_cases c6 : T (b + 1 + 1 + 1 + 1 + 1 + 1) = 110
                · have ew : eqw T b [118, 101, 114, 115, 105, 111, 110] = true := by simp only [eqw, c0, c1, c2, c3, c4, c5, c6, decide_true, Bool.and_self, Bool.and_true]
                  rw [if_pos ⟨cl, ew⟩, q_bt ⟨cl, ew⟩]
                  simp (disch := first | omega | exact q_b_01 _) only [↓reduceIte, q_bk0, q_bk1, q_bk2, q_sg_b, q_b_0, q_b_n0, q_b_1, q_b_n1, q_b_T, q_b_F, q_sg_g, q_sg_sg, q_sg_xs, q_sg_id, q_gu_ne, q_gu_eq, q_g_fne, q_g_cpe, q_w_f, q_v_f, q_u_f, q_fn_f, q_cp_f, q_sg_pg, q_sg_hc, q_lt_t, q_lt_f, q_le_t, q_le_f, q_eq_t, q_eq_f, ne_eq, eq_self, Bool.false_eq_true, Bool.true_eq_false, not_true_eq_false, not_false_eq_true, true_and, and_true, false_and, and_false, true_or, or_true, false_or, or_false, if_true, if_false, Int.reduceAdd, Int.reduceMul, Int.reduceSub, Int.reduceNeg, g11, q_uu_eq, t0, t1, t2, t3, t4, t5, t6, c0, c1, c2, c3, c4, c5, c6, R_231_0, R_231_4, R_231_17, R_231_22, R_231_29, R_231_32, R_231_38, R_231_48, R_231_51, R_231_53, R_231_55, R_231_60, R_231_63, R_231_73, R_231_78, R_231_81, R_231_83, R_231_89, R_231_94, C_231_1, C_231_19, C_231_26, C_231_70, LM_45_13, LM_57_13, CM_75_13_0, CM_75_13_1, CM_75_13_2, CM_75_13_3, CM_75_13_4, CM_75_13_5, CM_75_13_6]
                · have ew : ¬ eqw T b [118, 101, 114, 115, 105, 111, 110] = true := by simp only [eqw, c0, c1, c2, c3, c4, c5, c6, decide_true, decide_false, Bool.false_and, Bool.and_false, Bool.true_and, Bool.false_eq_true, not_false_eq_true]
                  rw [if_neg (fun x => ew x.2), q_bf (fun x => ew x.2)]
                  simp (disch := first | omega | exact q_b_01 _) only [↓reduceIte, q_bk0, q_bk1, q_bk2, q_sg_b, q_b_0, q_b_n0, q_b_1, q_b_n1, q_b_T, q_b_F, q_sg_g, q_sg_sg, q_sg_xs, q_sg_id, q_gu_ne, q_gu_eq, q_g_fne, q_g_cpe, q_w_f, q_v_f, q_u_f, q_fn_f, q_cp_f, q_sg_pg, q_sg_hc, q_lt_t, q_lt_f, q_le_t, q_le_f, q_eq_t, q_eq_f, ne_eq, eq_self, Bool.false_eq_true, Bool.true_eq_false, not_true_eq_false, not_false_eq_true, true_and, and_true, false_and, and_false, true_or, or_true, false_or, or_false, if_true, if_false, Int.reduceAdd, Int.reduceMul, Int.reduceSub, Int.reduceNeg, g11, t0, t1, t2, t3, t4, t5, t6, c0, c1, c2, c3, c4, c5, c6, R_231_0, R_231_4, R_231_17, R_231_22, R_231_29, R_231_32, R_231_38, R_231_48, R_231_51, R_231_53, R_231_55, R_231_60, R_231_63, R_231_73, R_231_78, R_231_81, R_231_83, R_231_89, R_231_94, C_231_1, C_231_19, C_231_26, C_231_70, LM_45_13, LM_57_13, CM_75_13_0, CM_75_13_1, CM_75_13_2, CM_75_13_3, CM_75_13_4, CM_75_13_5, CM_75_13_6]
              · have ew : ¬ eqw T b [118, 101, 114, 115, 105, 111, 110] = true := by simp only [eqw, c0, c1, c2, c3, c4, c5, decide_true, decide_false, Bool.false_and, Bool.and_false, Bool.true_and, Bool.false_eq_true, not_false_eq_true]
                rw [if_neg (fun x => ew x.2), q_bf (fun x => ew x.2)]
                simp (disch := first | omega | exact q_b_01 _) only [↓reduceIte, q_bk0, q_bk1, q_bk2, q_sg_b, q_b_0, q_b_n0, q_b_1, q_b_n1, q_b_T, q_b_F, q_sg_g, q_sg_sg, q_sg_xs, q_sg_id, q_gu_ne, q_gu_eq, q_g_fne, q_g_cpe, q_w_f, q_v_f, q_u_f, q_fn_f, q_cp_f, q_sg_pg, q_sg_hc, q_lt_t, q_lt_f, q_le_t, q_le_f, q_eq_t, q_eq_f, ne_eq, eq_self, Bool.false_eq_true, Bool.true_eq_false, not_true_eq_false, not_false_eq_true, true_and, and_true, false_and, and_false, true_or, or_true, false_or, or_false, if_true, if_false, Int.reduceAdd, Int.reduceMul, Int.reduceSub, Int.reduceNeg, g11, t0, t1, t2, t3, t4, t5, c0, c1, c2, c3, c4, c5, R_231_0, R_231_4, R_231_17, R_231_22, R_231_29, R_231_32, R_231_38, R_231_48, R_231_51, R_231_53, R_231_55, R_231_60, R_231_63, R_231_73, R_231_78, R_231_81, R_231_83, R_231_89, R_231_94, C_231_1, C_231_19, C_231_26, C_231_70, LM_45_13, LM_57_13, CM_75_13_0, CM_75_13_1, CM_75_13_2, CM_75_13_3, CM_75_13_4, CM_75_13_5]
            · have ew : ¬ eqw T b [118, 101, 114, 115, 105, 111, 110] = true := by simp only [eqw, c0, c1, c2, c3, c4, decide_true, decide_false, Bool.false_and, Bool.and_false, Bool.true_and, Bool.false_eq_true, not_false_eq_true]
              rw [if_neg (fun x => ew x.2), q_bf (fun x => ew x.2)]
              simp (disch := first | omega | exact q_b_01 _) only [↓reduceIte, q_bk0, q_bk1, q_bk2, q_sg_b, q_b_0, q_b_n0, q_b_1, q_b_n1, q_b_T, q_b_F, q_sg_g, q_sg_sg, q_sg_xs, q_sg_id, q_gu_ne, q_gu_eq, q_g_fne, q_g_cpe, q_w_f, q_v_f, q_u_f, q_fn_f, q_cp_f, q_sg_pg, q_sg_hc, q_lt_t, q_lt_f, q_le_t, q_le_f, q_eq_t, q_eq_f, ne_eq, eq_self, Bool.false_eq_true, Bool.true_eq_false, not_true_eq_false, not_false_eq_true, true_and, and_true, false_and, and_false, true_or, or_true, false_or, or_false, if_true, if_false, Int.reduceAdd, Int.reduceMul, Int.reduceSub, Int.reduceNeg, g11, t0, t1, t2, t3, t4, c0, c1, c2, c3, c4, R_231_0, R_231_4, R_231_17, R_231_22, R_231_29, R_231_32, R_231_38, R_231_48, R_231_51, R_231_53, R_231_55, R_231_60, R_231_63, R_231_73, R_231_78, R_231_81, R_231_83, R_231_89, R_231_94, C_231_1, C_231_19, C_231_26, C_231_70, LM_45_13, LM_57_13, CM_75_13_0, CM_75_13_1, CM_75_13_2, CM_75_13_3, CM_75_13_4]
          · have ew : ¬ eqw T b [118, 101, 114, 115, 105, 111, 110] = true := by simp only [eqw, c0, c1, c2, c3, decide_true, decide_false, Bool.false_and, Bool.and_false, Bool.true_and, Bool.false_eq_true, not_false_eq_true]
            rw [if_neg (fun x => ew x.2), q_bf (fun x => ew x.2)]
            simp (disch := first | omega | exact q_b_01 _) only [↓reduceIte, q_bk0, q_bk1, q_bk2, q_sg_b, q_b_0, q_b_n0, q_b_1, q_b_n1, q_b_T, q_b_F, q_sg_g, q_sg_sg, q_sg_xs, q_sg_id, q_gu_ne, q_gu_eq, q_g_fne, q_g_cpe, q_w_f, q_v_f, q_u_f, q_fn_f, q_cp_f, q_sg_pg, q_sg_hc, q_lt_t, q_lt_f, q_le_t, q_le_f, q_eq_t, q_eq_f, ne_eq, eq_self, Bool.false_eq_true, Bool.true_eq_false, not_true_eq_false, not_false_eq_true, true_and, and_true, false_and, and_false, true_or, or_true, false_or, or_false, if_true, if_false, Int.reduceAdd, Int.reduceMul, Int.reduceSub, Int.reduceNeg, g11, t0, t1, t2, t3, c0, c1, c2, c3, R_231_0, R_231_4, R_231_17, R_231_22, R_231_29, R_231_32, R_231_38, R_231_48, R_231_51, R_231_53, R_231_55, R_231_60, R_231_63, R_231_73, R_231_78, R_231_81, R_231_83, R_231_89, R_231_94, C_231_1, C_231_19, C_231_26, C_231_70, LM_45_13, LM_57_13, CM_75_13_0, CM_75_13_1, CM_75_13_2, CM_75_13_3]
        · have ew : ¬ eqw T b [118, 101, 114, 115, 105, 111, 110] = true := by simp only [eqw, c0, c1, c2, decide_true, decide_false, Bool.false_and, Bool.and_false, Bool.true_and, Bool.false_eq_true, not_false_eq_true]
          rw [if_neg (fun x => ew x.2), q_bf (fun x => ew x.2)]
          simp (disch := first | omega | exact q_b_01 _) only [↓reduceIte, q_bk0, q_bk1, q_bk2, q_sg_b, q_b_0, q_b_n0, q_b_1, q_b_n1, q_b_T, q_b_F, q_sg_g, q_sg_sg, q_sg_xs, q_sg_id, q_gu_ne, q_gu_eq, q_g_fne, q_g_cpe, q_w_f, q_v_f, q_u_f, q_fn_f, q_cp_f, q_sg_pg, q_sg_hc, q_lt_t, q_lt_f, q_le_t, q_le_f, q_eq_t, q_eq_f, ne_eq, eq_self, Bool.false_eq_true, Bool.true_eq_false, not_true_eq_false, not_false_eq_true, true_and, and_true, false_and, and_false, true_or, or_true, false_or, or_false, if_true, if_false, Int.reduceAdd, Int.reduceMul, Int.reduceSub, Int.reduceNeg, g11, t0, t1, t2, c0, c1, c2, R_231_0, R_231_4, R_231_17, R_231_22, R_231_29, R_231_32, R_231_38, R_231_48, R_231_51, R_231_53, R_231_55, R_231_60, R_231_63, R_231_73, R_231_78, R_231_81, R_231_83, R_231_89, R_231_94, C_231_1, C_231_19, C_231_26, C_231_70, LM_45_13, LM_57_13, CM_75_13_0, CM_75_13_1, CM_75_13_2]
      · have ew : ¬ eqw T b [118, 101, 114, 115, 105, 111, 110] = true := by simp only [eqw, c0, c1, decide_true, decide_false, Bool.false_and, Bool.and_false, Bool.true_and, Bool.false_eq_true, not_false_eq_true]
        rw [if_neg (fun x => ew x.2), q_bf (fun x => ew x.2)]
        simp (disch := first | omega | exact q_b_01 _) only [↓reduceIte, q_bk0, q_bk1, q_bk2, q_sg_b, q_b_0, q_b_n0, q_b_1, q_b_n1, q_b_T, q_b_F, q_sg_g, q_sg_sg, q_sg_xs, q_sg_id, q_gu_ne, q_gu_eq, q_g_fne, q_g_cpe, q_w_f, q_v_f, q_u_f, q_fn_f, q_cp_f, q_sg_pg, q_sg_hc, q_lt_t, q_lt_f, q_le_t, q_le_f, q_eq_t, q_eq_f, ne_eq, eq_self, Bool.false_eq_true, Bool.true_eq_false, not_true_eq_false, not_false_eq_true, true_and, and_true, false_and, and_false, true_or, or_true, false_or, or_false, if_true, if_false, Int.reduceAdd, Int.reduceMul, Int.reduceSub, Int.reduceNeg, g11, t0, t1, c0, c1, R_231_0, R_231_4, R_231_17, R_231_22, R_231_29, R_231_32, R_231_38, R_231_48, R_231_51, R_231_53, R_231_55, R_231_60, R_231_63, R_231_73, R_231_78, R_231_81, R_231_83, R_231_89, R_231_94, C_231_1, C_231_19, C_231_26, C_231_70, LM_45_13, LM_57_13, CM_75_13_0, CM_75_13_1]
    · have ew : ¬ eqw T b [118, 101, 114, 115, 105, 111, 110] = true := by simp only [eqw, c0, decide_true, decide_false, Bool.false_and, Bool.and_false, Bool.true_and, Bool.false_eq_true, not_false_eq_true]
      rw [if_neg (fun x => ew x.2), q_bf (fun x => ew x.2)]
      simp (disch := first | omega | exact q_b_01 _) only [↓reduceIte, q_bk0, q_bk1, q_bk2, q_sg_b, q_b_0, q_b_n0, q_b_1, q_b_n1, q_b_T, q_b_F, q_sg_g, q_sg_sg, q_sg_xs, q_sg_id, q_gu_ne, q_gu_eq, q_g_fne, q_g_cpe, q_w_f, q_v_f, q_u_f, q_fn_f, q_cp_f, q_sg_pg, q_sg_hc, q_lt_t, q_lt_f, q_le_t, q_le_f, q_eq_t, q_eq_f, ne_eq, eq_self, Bool.false_eq_true, Bool.true_eq_false, not_true_eq_false, not_false_eq_true, true_and, and_true, false_and, and_false, true_or, or_true, false_or, or_false, if_true, if_false, Int.reduceAdd, Int.reduceMul, Int.reduceSub, Int.reduceNeg, g11, t0, c0, R_231_0, R_231_4, R_231_17, R_231_22, R_231_29, R_231_32, R_231_38, R_231_48, R_231_51, R_231_53, R_231_55, R_231_60, R_231_63, R_231_73, R_231_78, R_231_81, R_231_83, R_231_89, R_231_94, C_231_1, C_231_19, C_231_26, C_231_70, LM_45_13, LM_57_13, CM_75_13_0]
  · rw [if_neg (fun x => cl x.1), q_bf (fun x => cl x.1)]
    simp (disch := first | omega | exact q_b_01 _) only [↓reduceIte, q_bk0, q_bk1, q_bk2, q_sg_b, q_b_0, q_b_n0, q_b_1, q_b_n1, q_b_T, q_b_F, q_sg_g, q_sg_sg, q_sg_xs, q_sg_id, q_gu_ne, q_gu_eq, q_g_fne, q_g_cpe, q_w_f, q_v_f, q_u_f, q_fn_f, q_cp_f, q_sg_pg, q_sg_hc, q_lt_t, q_lt_f, q_le_t, q_le_f, q_eq_t, q_eq_f, ne_eq, eq_self, Bool.false_eq_true, Bool.true_eq_false, not_true_eq_false, not_false_eq_true, true_and, and_true, false_and, and_false, true_or, or_true, false_or, or_false, if_true, if_false, Int.reduceAdd, Int.reduceMul, Int.reduceSub, Int.reduceNeg, g11, R_231_0, R_231_4, R_231_17, R_231_22, R_231_29, R_231_32, R_231_38, R_231_48, R_231_51, R_231_53, R_231_55, R_231_60, R_231_63, R_231_73, R_231_78, R_231_81, R_231_83, R_231_89, R_231_94, C_231_1, C_231_19, C_231_26, C_231_70, LM_45_13, LM_57_13]
theorem hs_14 (h : TxM T E s) (E1 : E ≤ 400) (hr : ∀ j, 0 ≤ j → j < E → 0 ≤ T j ∧ T j ≤ 255) (ha : q_g s 285 11 = i) (i0 : 0 ≤ i) (i1 : i ≤ 1000) {b e : Int} (hb : sk T E i = b) (he : run 97 122 T E b = e) : EV (d + 9) 231 0 [.ref 285, .ref 1000014, .null, .null] [] (q_h L xs s O c) = some (.inl (some (.int (q_I (q_b (e - b = 7 ∧ eqw T b [114, 101, 97, 100, 101, 114, 115] = true))))), q_h L xs (q_u s 285 11 (if e - b = 7 ∧ eqw T b [114, 101, 97, 100, 101, 114, 115] = true then e else b)) O c) := by
  have g := sk_rg T E1 i0 i1
  rw [hb] at g
  have h' : TxM T E (q_u s 285 11 b) := TxM_u h (by omega)
  have g11 : q_g (q_u s 285 11 b) 285 11 = b := by rw [q_gu_eq rfl, q_sg_id (by omega) (by omega)]
  have ge := run_ge 97 122 T E b
  rw [he] at ge
  have le : e ≤ 1000 := by
    by_cases x : b ≤ E
    · have := run_le (lo := 97) (hi := 122) (T := T) x
      rw [he] at this
      omega
    · have : e = b := by rw [← he]; exact run_no (by omega)
      omega
  have sk' := mm_skip (d := d + 7) (L := L) (xs := xs) (O := O) (c := c) h E1 hr ha i0 i1
  rw [hb] at sk'
  have lp := mm_hasL (d := d + 8) (L := L) (xs := xs) (O := O) (c := c) (x1 := 1000014) (x3 := .null) h' E1 hr (E - b).toNat (k := b) (by omega) (by omega) (by omega)
  rw [he] at lp
  have st : EV (d + 9) 231 0 [.ref 285, .ref 1000014, .null, .null] [] (q_h L xs s O c) = EV (d + 8 + 1) 231 38 [.ref 285, .ref 1000014, .int (q_I e), .null] [] (q_h L xs (q_u s 285 11 b) O c) := by
    rw [← lp]
    simp (disch := first | omega | exact q_b_01 _) only [↓reduceIte, q_bk0, q_bk1, q_bk2, q_sg_b, q_b_0, q_b_n0, q_b_1, q_b_n1, q_b_T, q_b_F, q_sg_g, q_sg_sg, q_sg_xs, q_sg_id, q_gu_ne, q_gu_eq, q_g_fne, q_g_cpe, q_w_f, q_v_f, q_u_f, q_fn_f, q_cp_f, q_sg_pg, q_sg_hc, q_lt_t, q_lt_f, q_le_t, q_le_f, q_eq_t, q_eq_f, ne_eq, eq_self, Bool.false_eq_true, Bool.true_eq_false, not_true_eq_false, not_false_eq_true, true_and, and_true, false_and, and_false, true_or, or_true, false_or, or_false, if_true, if_false, Int.reduceAdd, Int.reduceMul, Int.reduceSub, Int.reduceNeg, g11, R_231_0, R_231_4, R_231_17, R_231_22, R_231_29, R_231_32, R_231_38, R_231_48, R_231_51, R_231_53, R_231_55, R_231_60, R_231_63, R_231_73, R_231_78, R_231_81, R_231_83, R_231_89, R_231_94, C_231_1, C_231_19, C_231_26, C_231_70, sk']
  rw [st]
  by_cases cl : e - b = 7
  · have eE : e ≤ E := by
      by_cases x : b ≤ E
      · have := run_le (lo := 97) (hi := 122) (T := T) x
        rw [he] at this
        exact this
      · have : e = b := by rw [← he]; exact run_no (by omega)
        omega
    have t0 : EV (d + 8) 228 0 [.ref 285, .int (q_I (b + 0))] [] (q_h L xs (q_u s 285 11 b) O c) = some (.inl (some (.int (q_I (T b)))), q_h L xs (q_u s 285 11 b) O c) := by
      rw [mm_letter h' E1 (by omega) (by omega)]
      rw [Int.add_zero]
    have t1 : EV (d + 8) 228 0 [.ref 285, .int (q_I (b + 1))] [] (q_h L xs (q_u s 285 11 b) O c) = some (.inl (some (.int (q_I (T (b + 1))))), q_h L xs (q_u s 285 11 b) O c) := by
      rw [mm_letter h' E1 (by omega) (by omega)]
    have t2 : EV (d + 8) 228 0 [.ref 285, .int (q_I (b + 2))] [] (q_h L xs (q_u s 285 11 b) O c) = some (.inl (some (.int (q_I (T (b + 1 + 1))))), q_h L xs (q_u s 285 11 b) O c) := by
      rw [mm_letter h' E1 (by omega) (by omega)]
      rw [show b + 1 + 1 = b + 2 by omega]
    have t3 : EV (d + 8) 228 0 [.ref 285, .int (q_I (b + 3))] [] (q_h L xs (q_u s 285 11 b) O c) = some (.inl (some (.int (q_I (T (b + 1 + 1 + 1))))), q_h L xs (q_u s 285 11 b) O c) := by
      rw [mm_letter h' E1 (by omega) (by omega)]
      rw [show b + 1 + 1 + 1 = b + 3 by omega]
    have t4 : EV (d + 8) 228 0 [.ref 285, .int (q_I (b + 4))] [] (q_h L xs (q_u s 285 11 b) O c) = some (.inl (some (.int (q_I (T (b + 1 + 1 + 1 + 1))))), q_h L xs (q_u s 285 11 b) O c) := by
      rw [mm_letter h' E1 (by omega) (by omega)]
      rw [show b + 1 + 1 + 1 + 1 = b + 4 by omega]
    have t5 : EV (d + 8) 228 0 [.ref 285, .int (q_I (b + 5))] [] (q_h L xs (q_u s 285 11 b) O c) = some (.inl (some (.int (q_I (T (b + 1 + 1 + 1 + 1 + 1))))), q_h L xs (q_u s 285 11 b) O c) := by
      rw [mm_letter h' E1 (by omega) (by omega)]
      rw [show b + 1 + 1 + 1 + 1 + 1 = b + 5 by omega]
    have t6 : EV (d + 8) 228 0 [.ref 285, .int (q_I (b + 6))] [] (q_h L xs (q_u s 285 11 b) O c) = some (.inl (some (.int (q_I (T (b + 1 + 1 + 1 + 1 + 1 + 1))))), q_h L xs (q_u s 285 11 b) O c) := by
      rw [mm_letter h' E1 (by omega) (by omega)]
      rw [show b + 1 + 1 + 1 + 1 + 1 + 1 = b + 6 by omega]
    have r0 := hr (b + 0) (by omega) (by omega)
    rw [Int.add_zero] at r0
    have r1 := hr (b + 1) (by omega) (by omega)
    have r2 := hr (b + 2) (by omega) (by omega)
    rw [show b + 2 = b + 1 + 1 by omega] at r2
    have r3 := hr (b + 3) (by omega) (by omega)
    rw [show b + 3 = b + 1 + 1 + 1 by omega] at r3
    have r4 := hr (b + 4) (by omega) (by omega)
    rw [show b + 4 = b + 1 + 1 + 1 + 1 by omega] at r4
    have r5 := hr (b + 5) (by omega) (by omega)
    rw [show b + 5 = b + 1 + 1 + 1 + 1 + 1 by omega] at r5
    have r6 := hr (b + 6) (by omega) (by omega)
    rw [show b + 6 = b + 1 + 1 + 1 + 1 + 1 + 1 by omega] at r6
    by_cases c0 : T b = 114
    · skip
      by_cases c1 : T (b + 1) = 101
      · skip
        by_cases c2 : T (b + 1 + 1) = 97
        · skip
          by_cases c3 : T (b + 1 + 1 + 1) = 100
          · skip
            by_cases c4 : T (b + 1 + 1 + 1 + 1) = 101
            · skip
              by_cases c5 : T (b + 1 + 1 + 1 + 1 + 1) = 114
              · skip
                by_cases c6 : T (b + 1 + 1 + 1 + 1 + 1 + 1) = 115
                · have ew : eqw T b [114, 101, 97, 100, 101, 114, 115] = true := by simp only [eqw, c0, c1, c2, c3, c4, c5, c6, decide_true, Bool.and_self, Bool.and_true]
                  rw [if_pos ⟨cl, ew⟩, q_bt ⟨cl, ew⟩]
                  simp (disch := first | omega | exact q_b_01 _) only [↓reduceIte, q_bk0, q_bk1, q_bk2, q_sg_b, q_b_0, q_b_n0, q_b_1, q_b_n1, q_b_T, q_b_F, q_sg_g, q_sg_sg, q_sg_xs, q_sg_id, q_gu_ne, q_gu_eq, q_g_fne, q_g_cpe, q_w_f, q_v_f, q_u_f, q_fn_f, q_cp_f, q_sg_pg, q_sg_hc, q_lt_t, q_lt_f, q_le_t, q_le_f, q_eq_t, q_eq_f, ne_eq, eq_self, Bool.false_eq_true, Bool.true_eq_false, not_true_eq_false, not_false_eq_true, true_and, and_true, false_and, and_false, true_or, or_true, false_or, or_false, if_true, if_false, Int.reduceAdd, Int.reduceMul, Int.reduceSub, Int.reduceNeg, g11, q_uu_eq, t0, t1, t2, t3, t4, t5, t6, c0, c1, c2, c3, c4, c5, c6, R_231_0, R_231_4, R_231_17, R_231_22, R_231_29, R_231_32, R_231_38, R_231_48, R_231_51, R_231_53, R_231_55, R_231_60, R_231_63, R_231_73, R_231_78, R_231_81, R_231_83, R_231_89, R_231_94, C_231_1, C_231_19, C_231_26, C_231_70, LM_45_14, LM_57_14, CM_75_14_0, CM_75_14_1, CM_75_14_2, CM_75_14_3, CM_75_14_4, CM_75_14_5, CM_75_14_6]
                · have ew : ¬ eqw T b [114, 101, 97, 100, 101, 114, 115] = true := by simp only [eqw, c0, c1, c2, c3, c4, c5, c6, decide_true, decide_false, Bool.false_and, Bool.and_false, Bool.true_and, Bool.false_eq_true, not_false_eq_true]
                  rw [if_neg (fun x => ew x.2), q_bf (fun x => ew x.2)]
                  simp (disch := first | omega | exact q_b_01 _) only [↓reduceIte, q_bk0, q_bk1, q_bk2, q_sg_b, q_b_0, q_b_n0, q_b_1, q_b_n1, q_b_T, q_b_F, q_sg_g, q_sg_sg, q_sg_xs, q_sg_id, q_gu_ne, q_gu_eq, q_g_fne, q_g_cpe, q_w_f, q_v_f, q_u_f, q_fn_f, q_cp_f, q_sg_pg, q_sg_hc, q_lt_t, q_lt_f, q_le_t, q_le_f, q_eq_t, q_eq_f, ne_eq, eq_self, Bool.false_eq_true, Bool.true_eq_false, not_true_eq_false, not_false_eq_true, true_and, and_true, false_and, and_false, true_or, or_true, false_or, or_false, if_true, if_false, Int.reduceAdd, Int.reduceMul, Int.reduceSub, Int.reduceNeg, g11, t0, t1, t2, t3, t4, t5, t6, c0, c1, c2, c3, c4, c5, c6, R_231_0, R_231_4, R_231_17, R_231_22, R_231_29, R_231_32, R_231_38, R_231_48, R_231_51, R_231_53, R_231_55, R_231_60, R_231_63, R_231_73, R_231_78, R_231_81, R_231_83, R_231_89, R_231_94, C_231_1, C_231_19, C_231_26, C_231_70, LM_45_14, LM_57_14, CM_75_14_0, CM_75_14_1, CM_75_14_2, CM_75_14_3, CM_75_14_4, CM_75_14_5, CM_75_14_6]
              · have ew : ¬ eqw T b [114, 101, 97, 100, 101, 114, 115] = true := by simp only [eqw, c0, c1, c2, c3, c4, c5, decide_true, decide_false, Bool.false_and, Bool.and_false, Bool.true_and, Bool.false_eq_true, not_false_eq_true]
                rw [if_neg (fun x => ew x.2), q_bf (fun x => ew x.2)]
                simp (disch := first | omega | exact q_b_01 _) only [↓reduceIte, q_bk0, q_bk1, q_bk2, q_sg_b, q_b_0, q_b_n0, q_b_1, q_b_n1, q_b_T, q_b_F, q_sg_g, q_sg_sg, q_sg_xs, q_sg_id, q_gu_ne, q_gu_eq, q_g_fne, q_g_cpe, q_w_f, q_v_f, q_u_f, q_fn_f, q_cp_f, q_sg_pg, q_sg_hc, q_lt_t, q_lt_f, q_le_t, q_le_f, q_eq_t, q_eq_f, ne_eq, eq_self, Bool.false_eq_true, Bool.true_eq_false, not_true_eq_false, not_false_eq_true, true_and, and_true, false_and, and_false, true_or, or_true, false_or, or_false, if_true, if_false, Int.reduceAdd, Int.reduceMul, Int.reduceSub, Int.reduceNeg, g11, t0, t1, t2, t3, t4, t5, c0, c1, c2, c3, c4, c5, R_231_0, R_231_4, R_231_17, R_231_22, R_231_29, R_231_32, R_231_38, R_231_48, R_231_51, R_231_53, R_231_55, R_231_60, R_231_63, R_231_73, R_231_78, R_231_81, R_231_83, R_231_89, R_231_94, C_231_1, C_231_19, C_231_26, C_231_70, LM_45_14, LM_57_14, CM_75_14_0, CM_75_14_1, CM_75_14_2, CM_75_14_3, CM_75_14_4, CM_75_14_5]
            · have ew : ¬ eqw T b [114, 101, 97, 100, 101, 114, 115] = true := by simp only [eqw, c0, c1, c2, c3, c4, decide_true, decide_false, Bool.false_and, Bool.and_false, Bool.true_and, Bool.false_eq_true, not_false_eq_true]
              rw [if_neg (fun x => ew x.2), q_bf (fun x => ew x.2)]
              simp (disch := first | omega | exact q_b_01 _) only [↓reduceIte, q_bk0, q_bk1, q_bk2, q_sg_b, q_b_0, q_b_n0, q_b_1, q_b_n1, q_b_T, q_b_F, q_sg_g, q_sg_sg, q_sg_xs, q_sg_id, q_gu_ne, q_gu_eq, q_g_fne, q_g_cpe, q_w_f, q_v_f, q_u_f, q_fn_f, q_cp_f, q_sg_pg, q_sg_hc, q_lt_t, q_lt_f, q_le_t, q_le_f, q_eq_t, q_eq_f, ne_eq, eq_self, Bool.false_eq_true, Bool.true_eq_false, not_true_eq_false, not_false_eq_true, true_and, and_true, false_and, and_false, true_or, or_true, false_or, or_false, if_true, if_false, Int.reduceAdd, Int.reduceMul, Int.reduceSub, Int.reduceNeg, g11, t0, t1, t2, t3, t4, c0, c1, c2, c3, c4, R_231_0, R_231_4, R_231_17, R_231_22, R_231_29, R_231_32, R_231_38, R_231_48, R_231_51, R_231_53, R_231_55, R_231_60, R_231_63, R_231_73, R_231_78, R_231_81, R_231_83, R_231_89, R_231_94, C_231_1, C_231_19, C_231_26, C_231_70, LM_45_14, LM_57_14, CM_75_14_0, CM_75_14_1, CM_75_14_2, CM_75_14_3, CM_75_14_4]
          · have ew : ¬ eqw T b [114, 101, 97, 100, 101, 114, 115] = true := by simp only [eqw, c0, c1, c2, c3, decide_true, decide_false, Bool.false_and, Bool.and_false, Bool.true_and, Bool.false_eq_true, not_false_eq_true]
            rw [if_neg (fun x => ew x.2), q_bf (fun x => ew x.2)]
            simp (disch := first | omega | exact q_b_01 _) only [↓reduceIte, q_bk0, q_bk1, q_bk2, q_sg_b, q_b_0, q_b_n0, q_b_1, q_b_n1, q_b_T, q_b_F, q_sg_g, q_sg_sg, q_sg_xs, q_sg_id, q_gu_ne, q_gu_eq, q_g_fne, q_g_cpe, q_w_f, q_v_f, q_u_f, q_fn_f, q_cp_f, q_sg_pg, q_sg_hc, q_lt_t, q_lt_f, q_le_t, q_le_f, q_eq_t, q_eq_f, ne_eq, eq_self, Bool.false_eq_true, Bool.true_eq_false, not_true_eq_false, not_false_eq_true, true_and, and_true, false_and, and_false, true_or, or_true, false_or, or_false, if_true, if_false, Int.reduceAdd, Int.reduceMul, Int.reduceSub, Int.reduceNeg, g11, t0, t1, t2, t3, c0, c1, c2, c3, R_231_0, R_231_4, R_231_17, R_231_22, R_231_29, R_231_32, R_231_38, R_231_48, R_231_51, R_231_53, R_231_55, R_231_60, R_231_63, R_231_73, R_231_78, R_231_81, R_231_83, R_231_89, R_231_94, C_231_1, C_231_19, C_231_26, C_231_70, LM_45_14, LM_57_14, CM_75_14_0, CM_75_14_1, CM_75_14_2, CM_75_14_3]
        · have ew : ¬ eqw T b [114, 101, 97, 100, 101, 114, 115] = true := by simp only [eqw, c0, c1, c2, decide_true, decide_false, Bool.false_and, Bool.and_false, Bool.true_and, Bool.false_eq_true, not_false_eq_true]
          rw [if_neg (fun x => ew x.2), q_bf (fun x => ew x.2)]
          simp (disch := first | omega | exact q_b_01 _) only [↓reduceIte, q_bk0, q_bk1, q_bk2, q_sg_b, q_b_0, q_b_n0, q_b_1, q_b_n1, q_b_T, q_b_F, q_sg_g, q_sg_sg, q_sg_xs, q_sg_id, q_gu_ne, q_gu_eq, q_g_fne, q_g_cpe, q_w_f, q_v_f, q_u_f, q_fn_f, q_cp_f, q_sg_pg, q_sg_hc, q_lt_t, q_lt_f, q_le_t, q_le_f, q_eq_t, q_eq_f, ne_eq, eq_self, Bool.false_eq_true, Bool.true_eq_false, not_true_eq_false, not_false_eq_true, true_and, and_true, false_and, and_false, true_or, or_true, false_or, or_false, if_true, if_false, Int.reduceAdd, Int.reduceMul, Int.reduceSub, Int.reduceNeg, g11, t0, t1, t2, c0, c1, c2, R_231_0, R_231_4, R_231_17, R_231_22, R_231_29, R_231_32, R_231_38, R_231_48, R_231_51, R_231_53, R_231_55, R_231_60, R_231_63, R_231_73, R_231_78, R_231_81, R_231_83, R_231_89, R_231_94, C_231_1, C_231_19, C_231_26, C_231_70, LM_45_14, LM_57_14, CM_75_14_0, CM_75_14_1, CM_75_14_2]
      · have ew : ¬ eqw T b [114, 101, 97, 100, 101, 114, 115] = true := by simp only [eqw, c0, c1, decide_true, decide_false, Bool.false_and, Bool.and_false, Bool.true_and, Bool.false_eq_true, not_false_eq_true]
        rw [if_neg (fun x => ew x.2), q_bf (fun x => ew x.2)]
        simp (disch := first | omega | exact q_b_01 _) only [↓reduceIte, q_bk0, q_bk1, q_bk2, q_sg_b, q_b_0, q_b_n0, q_b_1, q_b_n1, q_b_T, q_b_F, q_sg_g, q_sg_sg, q_sg_xs, q_sg_id, q_gu_ne, q_gu_eq, q_g_fne, q_g_cpe, q_w_f, q_v_f, q_u_f, q_fn_f, q_cp_f, q_sg_pg, q_sg_hc, q_lt_t, q_lt_f, q_le_t, q_le_f, q_eq_t, q_eq_f, ne_eq, eq_self, Bool.false_eq_true, Bool.true_eq_false, not_true_eq_false, not_false_eq_true, true_and, and_true, false_and, and_false, true_or, or_true, false_or, or_false, if_true, if_false, Int.reduceAdd, Int.reduceMul, Int.reduceSub, Int.reduceNeg, g11, t0, t1, c0, c1, R_231_0, R_231_4, R_231_17, R_231_22, R_231_29, R_231_32, R_231_38, R_231_48, R_231_51, R_231_53, R_231_55, R_231_60, R_231_63, R_231_73, R_231_78, R_231_81, R_231_83, R_231_89, R_231_94, C_231_1, C_231_19, C_231_26, C_231_70, LM_45_14, LM_57_14, CM_75_14_0, CM_75_14_1]
    · have ew : ¬ eqw T b [114, 101, 97, 100, 101, 114, 115] = true := by simp only [eqw, c0, decide_true, decide_false, Bool.false_and, Bool.and_false, Bool.true_and, Bool.false_eq_true, not_false_eq_true]
      rw [if_neg (fun x => ew x.2), q_bf (fun x => ew x.2)]
      simp (disch := first | omega | exact q_b_01 _) only [↓reduceIte, q_bk0, q_bk1, q_bk2, q_sg_b, q_b_0, q_b_n0, q_b_1, q_b_n1, q_b_T, q_b_F, q_sg_g, q_sg_sg, q_sg_xs, q_sg_id, q_gu_ne, q_gu_eq, q_g_fne, q_g_cpe, q_w_f, q_v_f, q_u_f, q_fn_f, q_cp_f, q_sg_pg, q_sg_hc, q_lt_t, q_lt_f, q_le_t, q_le_f, q_eq_t, q_eq_f, ne_eq, eq_self, Bool.false_eq_true, Bool.true_eq_false, not_true_eq_false, not_false_eq_true, true_and, and_true, false_and, and_false, true_or, or_true, false_or, or_false, if_true, if_false, Int.reduceAdd, Int.reduceMul, Int.reduceSub, Int.reduceNeg, g11, t0, c0, R_231_0, R_231_4, R_231_17, R_231_22, R_231_29, R_231_32, R_231_38, R_231_48, R_231_51, R_231_53, R_231_55, R_231_60, R_231_63, R_231_73, R_231_78, R_231_81, R_231_83, R_231_89, R_231_94, C_231_1, C_231_19, C_231_26, C_231_70, LM_45_14, LM_57_14, CM_75_14_0]
  · rw [if_neg (fun x => cl x.1), q_bf (fun x => cl x.1)]
    simp (disch := first | omega | exact q_b_01 _) only [↓reduceIte, q_bk0, q_bk1, q_bk2, q_sg_b, q_b_0, q_b_n0, q_b_1, q_b_n1, q_b_T, q_b_F, q_sg_g, q_sg_sg, q_sg_xs, q_sg_id, q_gu_ne, q_gu_eq, q_g_fne, q_g_cpe, q_w_f, q_v_f, q_u_f, q_fn_f, q_cp_f, q_sg_pg, q_sg_hc, q_lt_t, q_lt_f, q_le_t, q_le_f, q_eq_t, q_eq_f, ne_eq, eq_self, Bool.false_eq_true, Bool.true_eq_false, not_true_eq_false, not_false_eq_true, true_and, and_true, false_and, and_false, true_or, or_true, false_or, or_false, if_true, if_false, Int.reduceAdd, Int.reduceMul, Int.reduceSub, Int.reduceNeg, g11, R_231_0, R_231_4, R_231_17, R_231_22, R_231_29, R_231_32, R_231_38, R_231_48, R_231_51, R_231_53, R_231_55, R_231_60, R_231_63, R_231_73, R_231_78, R_231_81, R_231_83, R_231_89, R_231_94, C_231_1, C_231_19, C_231_26, C_231_70, LM_45_14, LM_57_14]
theorem hs_15 (h : TxM T E s) (E1 : E ≤ 400) (hr : ∀ j, 0 ≤ j → j < E → 0 ≤ T j ∧ T j ≤ 255) (ha : q_g s 285 11 = i) (i0 : 0 ≤ i) (i1 : i ≤ 1000) {b e : Int} (hb : sk T E i = b) (he : run 97 122 T E b = e) : EV (d + 9) 231 0 [.ref 285, .ref 1000015, .null, .null] [] (q_h L xs s O c) = some (.inl (some (.int (q_I (q_b (e - b = 4 ∧ eqw T b [116, 105, 99, 107] = true))))), q_h L xs (q_u s 285 11 (if e - b = 4 ∧ eqw T b [116, 105, 99, 107] = true then e else b)) O c) := by
  have g := sk_rg T E1 i0 i1
  rw [hb] at g
  have h' : TxM T E (q_u s 285 11 b) := TxM_u h (by omega)
  have g11 : q_g (q_u s 285 11 b) 285 11 = b := by rw [q_gu_eq rfl, q_sg_id (by omega) (by omega)]
  have ge := run_ge 97 122 T E b
  rw [he] at ge
  have le : e ≤ 1000 := by
    by_cases x : b ≤ E
    · have := run_le (lo := 97) (hi := 122) (T := T) x
      rw [he] at this
      omega
    · have : e = b := by rw [← he]; exact run_no (by omega)
      omega
  have sk' := mm_skip (d := d + 7) (L := L) (xs := xs) (O := O) (c := c) h E1 hr ha i0 i1
  rw [hb] at sk'
  have lp := mm_hasL (d := d + 8) (L := L) (xs := xs) (O := O) (c := c) (x1 := 1000015) (x3 := .null) h' E1 hr (E - b).toNat (k := b) (by omega) (by omega) (by omega)
  rw [he] at lp
  have st : EV (d + 9) 231 0 [.ref 285, .ref 1000015, .null, .null] [] (q_h L xs s O c) = EV (d + 8 + 1) 231 38 [.ref 285, .ref 1000015, .int (q_I e), .null] [] (q_h L xs (q_u s 285 11 b) O c) := by
    rw [← lp]
    simp (disch := first | omega | exact q_b_01 _) only [↓reduceIte, q_bk0, q_bk1, q_bk2, q_sg_b, q_b_0, q_b_n0, q_b_1, q_b_n1, q_b_T, q_b_F, q_sg_g, q_sg_sg, q_sg_xs, q_sg_id, q_gu_ne, q_gu_eq, q_g_fne, q_g_cpe, q_w_f, q_v_f, q_u_f, q_fn_f, q_cp_f, q_sg_pg, q_sg_hc, q_lt_t, q_lt_f, q_le_t, q_le_f, q_eq_t, q_eq_f, ne_eq, eq_self, Bool.false_eq_true, Bool.true_eq_false, not_true_eq_false, not_false_eq_true, true_and, and_true, false_and, and_false, true_or, or_true, false_or, or_false, if_true, if_false, Int.reduceAdd, Int.reduceMul, Int.reduceSub, Int.reduceNeg, g11, R_231_0, R_231_4, R_231_17, R_231_22, R_231_29, R_231_32, R_231_38, R_231_48, R_231_51, R_231_53, R_231_55, R_231_60, R_231_63, R_231_73, R_231_78, R_231_81, R_231_83, R_231_89, R_231_94, C_231_1, C_231_19, C_231_26, C_231_70, sk']
  rw [st]
  by_cases cl : e - b = 4
  · have eE : e ≤ E := by
      by_cases x : b ≤ E
      · have := run_le (lo := 97) (hi := 122) (T := T) x
        rw [he] at this
        exact this
      · have : e = b := by rw [← he]; exact run_no (by omega)
        omega
    have t0 : EV (d + 8) 228 0 [.ref 285, .int (q_I (b + 0))] [] (q_h L xs (q_u s 285 11 b) O c) = some (.inl (some (.int (q_I (T b)))), q_h L xs (q_u s 285 11 b) O c) := by
      rw [mm_letter h' E1 (by omega) (by omega)]
      rw [Int.add_zero]
    have t1 : EV (d + 8) 228 0 [.ref 285, .int (q_I (b + 1))] [] (q_h L xs (q_u s 285 11 b) O c) = some (.inl (some (.int (q_I (T (b + 1))))), q_h L xs (q_u s 285 11 b) O c) := by
      rw [mm_letter h' E1 (by omega) (by omega)]
    have t2 : EV (d + 8) 228 0 [.ref 285, .int (q_I (b + 2))] [] (q_h L xs (q_u s 285 11 b) O c) = some (.inl (some (.int (q_I (T (b + 1 + 1))))), q_h L xs (q_u s 285 11 b) O c) := by
      rw [mm_letter h' E1 (by omega) (by omega)]
      rw [show b + 1 + 1 = b + 2 by omega]
    have t3 : EV (d + 8) 228 0 [.ref 285, .int (q_I (b + 3))] [] (q_h L xs (q_u s 285 11 b) O c) = some (.inl (some (.int (q_I (T (b + 1 + 1 + 1))))), q_h L xs (q_u s 285 11 b) O c) := by
      rw [mm_letter h' E1 (by omega) (by omega)]
      rw [show b + 1 + 1 + 1 = b + 3 by omega]
    have r0 := hr (b + 0) (by omega) (by omega)
    rw [Int.add_zero] at r0
    have r1 := hr (b + 1) (by omega) (by omega)
    have r2 := hr (b + 2) (by omega) (by omega)
    rw [show b + 2 = b + 1 + 1 by omega] at r2
    have r3 := hr (b + 3) (by omega) (by omega)
    rw [show b + 3 = b + 1 + 1 + 1 by omega] at r3
    by_cases c0 : T b = 116
    · skip
      by_cases c1 : T (b + 1) = 105
      · skip
        by_cases c2 : T (b + 1 + 1) = 99
        · skip
          by_cases c3 : T (b + 1 + 1 + 1) = 107
          · have ew : eqw T b [116, 105, 99, 107] = true := by simp only [eqw, c0, c1, c2, c3, decide_true, Bool.and_self, Bool.and_true]
            rw [if_pos ⟨cl, ew⟩, q_bt ⟨cl, ew⟩]
            simp (disch := first | omega | exact q_b_01 _) only [↓reduceIte, q_bk0, q_bk1, q_bk2, q_sg_b, q_b_0, q_b_n0, q_b_1, q_b_n1, q_b_T, q_b_F, q_sg_g, q_sg_sg, q_sg_xs, q_sg_id, q_gu_ne, q_gu_eq, q_g_fne, q_g_cpe, q_w_f, q_v_f, q_u_f, q_fn_f, q_cp_f, q_sg_pg, q_sg_hc, q_lt_t, q_lt_f, q_le_t, q_le_f, q_eq_t, q_eq_f, ne_eq, eq_self, Bool.false_eq_true, Bool.true_eq_false, not_true_eq_false, not_false_eq_true, true_and, and_true, false_and, and_false, true_or, or_true, false_or, or_false, if_true, if_false, Int.reduceAdd, Int.reduceMul, Int.reduceSub, Int.reduceNeg, g11, q_uu_eq, t0, t1, t2, t3, c0, c1, c2, c3, R_231_0, R_231_4, R_231_17, R_231_22, R_231_29, R_231_32, R_231_38, R_231_48, R_231_51, R_231_53, R_231_55, R_231_60, R_231_63, R_231_73, R_231_78, R_231_81, R_231_83, R_231_89, R_231_94, C_231_1, C_231_19, C_231_26, C_231_70, LM_45_15, LM_57_15, CM_75_15_0, CM_75_15_1, CM_75_15_2, CM_75_15_3]
          · have ew : ¬ eqw T b [116, 105, 99, 107] = true := by simp only [eqw, c0, c1, c2, c3, decide_true, decide_false, Bool.false_and, Bool.and_false, Bool.true_and, Bool.false_eq_true, not_false_eq_true]
            rw [if_neg (fun x => ew x.2), q_bf (fun x => ew x.2)]
            simp (disch := first | omega | exact q_b_01 _) only [↓reduceIte, q_bk0, q_bk1, q_bk2, q_sg_b, q_b_0, q_b_n0, q_b_1, q_b_n1, q_b_T, q_b_F, q_sg_g, q_sg_sg, q_sg_xs, q_sg_id, q_gu_ne, q_gu_eq, q_g_fne, q_g_cpe, q_w_f, q_v_f, q_u_f, q_fn_f, q_cp_f, q_sg_pg, q_sg_hc, q_lt_t, q_lt_f, q_le_t, q_le_f, q_eq_t, q_eq_f, ne_eq, eq_self, Bool.false_eq_true, Bool.true_eq_false, not_true_eq_false, not_false_eq_true, true_and, and_true, false_and, and_false, true_or, or_true, false_or, or_false, if_true, if_false, Int.reduceAdd, Int.reduceMul, Int.reduceSub, Int.reduceNeg, g11, t0, t1, t2, t3, c0, c1, c2, c3, R_231_0, R_231_4, R_231_17, R_231_22, R_231_29, R_231_32, R_231_38, R_231_48, R_231_51, R_231_53, R_231_55, R_231_60, R_231_63, R_231_73, R_231_78, R_231_81, R_231_83, R_231_89, R_231_94, C_231_1, C_231_19, C_231_26, C_231_70, LM_45_15, LM_57_15, CM_75_15_0, CM_75_15_1, CM_75_15_2, CM_75_15_3]
        · have ew : ¬ eqw T b [116, 105, 99, 107] = true := by simp only [eqw, c0, c1, c2, decide_true, decide_false, Bool.false_and, Bool.and_false, Bool.true_and, Bool.false_eq_true, not_false_eq_true]
          rw [if_neg (fun x => ew x.2), q_bf (fun x => ew x.2)]
          simp (disch := first | omega | exact q_b_01 _) only [↓reduceIte, q_bk0, q_bk1, q_bk2, q_sg_b, q_b_0, q_b_n0, q_b_1, q_b_n1, q_b_T, q_b_F, q_sg_g, q_sg_sg, q_sg_xs, q_sg_id, q_gu_ne, q_gu_eq, q_g_fne, q_g_cpe, q_w_f, q_v_f, q_u_f, q_fn_f, q_cp_f, q_sg_pg, q_sg_hc, q_lt_t, q_lt_f, q_le_t, q_le_f, q_eq_t, q_eq_f, ne_eq, eq_self, Bool.false_eq_true, Bool.true_eq_false, not_true_eq_false, not_false_eq_true, true_and, and_true, false_and, and_false, true_or, or_true, false_or, or_false, if_true, if_false, Int.reduceAdd, Int.reduceMul, Int.reduceSub, Int.reduceNeg, g11, t0, t1, t2, c0, c1, c2, R_231_0, R_231_4, R_231_17, R_231_22, R_231_29, R_231_32, R_231_38, R_231_48, R_231_51, R_231_53, R_231_55, R_231_60, R_231_63, R_231_73, R_231_78, R_231_81, R_231_83, R_231_89, R_231_94, C_231_1, C_231_19, C_231_26, C_231_70, LM_45_15, LM_57_15, CM_75_15_0, CM_75_15_1, CM_75_15_2]
      · have ew : ¬ eqw T b [116, 105, 99, 107] = true := by simp only [eqw, c0, c1, decide_true, decide_false, Bool.false_and, Bool.and_false, Bool.true_and, Bool.false_eq_true, not_false_eq_true]
        rw [if_neg (fun x => ew x.2), q_bf (fun x => ew x.2)]
        simp (disch := first | omega | exact q_b_01 _) only [↓reduceIte, q_bk0, q_bk1, q_bk2, q_sg_b, q_b_0, q_b_n0, q_b_1, q_b_n1, q_b_T, q_b_F, q_sg_g, q_sg_sg, q_sg_xs, q_sg_id, q_gu_ne, q_gu_eq, q_g_fne, q_g_cpe, q_w_f, q_v_f, q_u_f, q_fn_f, q_cp_f, q_sg_pg, q_sg_hc, q_lt_t, q_lt_f, q_le_t, q_le_f, q_eq_t, q_eq_f, ne_eq, eq_self, Bool.false_eq_true, Bool.true_eq_false, not_true_eq_false, not_false_eq_true, true_and, and_true, false_and, and_false, true_or, or_true, false_or, or_false, if_true, if_false, Int.reduceAdd, Int.reduceMul, Int.reduceSub, Int.reduceNeg, g11, t0, t1, c0, c1, R_231_0, R_231_4, R_231_17, R_231_22, R_231_29, R_231_32, R_231_38, R_231_48, R_231_51, R_231_53, R_231_55, R_231_60, R_231_63, R_231_73, R_231_78, R_231_81, R_231_83, R_231_89, R_231_94, C_231_1, C_231_19, C_231_26, C_231_70, LM_45_15, LM_57_15, CM_75_15_0, CM_75_15_1]
    · have ew : ¬ eqw T b [116, 105, 99, 107] = true := by simp only [eqw, c0, decide_true, decide_false, Bool.false_and, Bool.and_false, Bool.true_and, Bool.false_eq_true, not_false_eq_true]
      rw [if_neg (fun x => ew x.2), q_bf (fun x => ew x.2)]
      simp (disch := first | omega | exact q_b_01 _) only [↓reduceIte, q_bk0, q_bk1, q_bk2, q_sg_b, q_b_0, q_b_n0, q_b_1, q_b_n1, q_b_T, q_b_F, q_sg_g, q_sg_sg, q_sg_xs, q_sg_id, q_gu_ne, q_gu_eq, q_g_fne, q_g_cpe, q_w_f, q_v_f, q_u_f, q_fn_f, q_cp_f, q_sg_pg, q_sg_hc, q_lt_t, q_lt_f, q_le_t, q_le_f, q_eq_t, q_eq_f, ne_eq, eq_self, Bool.false_eq_true, Bool.true_eq_false, not_true_eq_false, not_false_eq_true, true_and, and_true, false_and, and_false, true_or, or_true, false_or, or_false, if_true, if_false, Int.reduceAdd, Int.reduceMul, Int.reduceSub, Int.reduceNeg, g11, t0, c0, R_231_0, R_231_4, R_231_17, R_231_22, R_231_29, R_231_32, R_231_38, R_231_48, R_231_51, R_231_53, R_231_55, R_231_60, R_231_63, R_231_73, R_231_78, R_231_81, R_231_83, R_231_89, R_231_94, C_231_1, C_231_19, C_231_26, C_231_70, LM_45_15, LM_57_15, CM_75_15_0]
  · rw [if_neg (fun x => cl x.1), q_bf (fun x => cl x.1)]
    simp (disch := first | omega | exact q_b_01 _) only [↓reduceIte, q_bk0, q_bk1, q_bk2, q_sg_b, q_b_0, q_b_n0, q_b_1, q_b_n1, q_b_T, q_b_F, q_sg_g, q_sg_sg, q_sg_xs, q_sg_id, q_gu_ne, q_gu_eq, q_g_fne, q_g_cpe, q_w_f, q_v_f, q_u_f, q_fn_f, q_cp_f, q_sg_pg, q_sg_hc, q_lt_t, q_lt_f, q_le_t, q_le_f, q_eq_t, q_eq_f, ne_eq, eq_self, Bool.false_eq_true, Bool.true_eq_false, not_true_eq_false, not_false_eq_true, true_and, and_true, false_and, and_false, true_or, or_true, false_or, or_false, if_true, if_false, Int.reduceAdd, Int.reduceMul, Int.reduceSub, Int.reduceNeg, g11, R_231_0, R_231_4, R_231_17, R_231_22, R_231_29, R_231_32, R_231_38, R_231_48, R_231_51, R_231_53, R_231_55, R_231_60, R_231_63, R_231_73, R_231_78, R_231_81, R_231_83, R_231_89, R_231_94, C_231_1, C_231_19, C_231_26, C_231_70, LM_45_15, LM_57_15]
theorem hs_16 (h : TxM T E s) (E1 : E ≤ 400) (hr : ∀ j, 0 ≤ j → j < E → 0 ≤ T j ∧ T j ≤ 255) (ha : q_g s 285 11 = i) (i0 : 0 ≤ i) (i1 : i ≤ 1000) {b e : Int} (hb : sk T E i = b) (he : run 97 122 T E b = e) : EV (d + 9) 231 0 [.ref 285, .ref 1000016, .null, .null] [] (q_h L xs s O c) = some (.inl (some (.int (q_I (q_b (e - b = 3 ∧ eqw T b [97, 110, 100] = true))))), q_h L xs (q_u s 285 11 (if e - b = 3 ∧ eqw T b [97, 110, 100] = true then e else b)) O c) := by
  have g := sk_rg T E1 i0 i1
  rw [hb] at g
  have h' : TxM T E (q_u s 285 11 b) := TxM_u h (by omega)
  have g11 : q_g (q_u s 285 11 b) 285 11 = b := by rw [q_gu_eq rfl, q_sg_id (by omega) (by omega)]
  have ge := run_ge 97 122 T E b
  rw [he] at ge
  have le : e ≤ 1000 := by
    by_cases x : b ≤ E
    · have := run_le (lo := 97) (hi := 122) (T := T) x
      rw [he] at this
      omega
    · have : e = b := by rw [← he]; exact run_no (by omega)
      omega
  have sk' := mm_skip (d := d + 7) (L := L) (xs := xs) (O := O) (c := c) h E1 hr ha i0 i1
  rw [hb] at sk'
  have lp := mm_hasL (d := d + 8) (L := L) (xs := xs) (O := O) (c := c) (x1 := 1000016) (x3 := .null) h' E1 hr (E - b).toNat (k := b) (by omega) (by omega) (by omega)
  rw [he] at lp
  have st : EV (d + 9) 231 0 [.ref 285, .ref 1000016, .null, .null] [] (q_h L xs s O c) = EV (d + 8 + 1) 231 38 [.ref 285, .ref 1000016, .int (q_I e), .null] [] (q_h L xs (q_u s 285 11 b) O c) := by
    rw [← lp]
    simp (disch := first | omega | exact q_b_01 _) only [↓reduceIte, q_bk0, q_bk1, q_bk2, q_sg_b, q_b_0, q_b_n0, q_b_1, q_b_n1, q_b_T, q_b_F, q_sg_g, q_sg_sg, q_sg_xs, q_sg_id, q_gu_ne, q_gu_eq, q_g_fne, q_g_cpe, q_w_f, q_v_f, q_u_f, q_fn_f, q_cp_f, q_sg_pg, q_sg_hc, q_lt_t, q_lt_f, q_le_t, q_le_f, q_eq_t, q_eq_f, ne_eq, eq_self, Bool.false_eq_true, Bool.true_eq_false, not_true_eq_false, not_false_eq_true, true_and, and_true, false_and, and_false, true_or, or_true, false_or, or_false, if_true, if_false, Int.reduceAdd, Int.reduceMul, Int.reduceSub, Int.reduceNeg, g11, R_231_0, R_231_4, R_231_17, R_231_22, R_231_29, R_231_32, R_231_38, R_231_48, R_231_51, R_231_53, R_231_55, R_231_60, R_231_63, R_231_73, R_231_78, R_231_81, R_231_83, R_231_89, R_231_94, C_231_1, C_231_19, C_231_26, C_231_70, sk']
  rw [st]
  by_cases cl : e - b = 3
  · have eE : e ≤ E := by
      by_cases x : b ≤ E
      · have := run_le (lo := 97) (hi := 122) (T := T) x
        rw [he] at this
        exact this
      · have : e = b := by rw [← he]; exact run_no (by omega)
        omega
    have t0 : EV (d + 8) 228 0 [.ref 285, .int (q_I (b + 0))] [] (q_h L xs (q_u s 285 11 b) O c) = some (.inl (some (.int (q_I (T b)))), q_h L xs (q_u s 285 11 b) O c) := by
      rw [mm_letter h' E1 (by omega) (by omega)]
      rw [Int.add_zero]
    have t1 : EV (d + 8) 228 0 [.ref 285, .int (q_I (b + 1))] [] (q_h L xs (q_u s 285 11 b) O c) = some (.inl (some (.int (q_I (T (b + 1))))), q_h L xs (q_u s 285 11 b) O c) := by
      rw [mm_letter h' E1 (by omega) (by omega)]
    have t2 : EV (d + 8) 228 0 [.ref 285, .int (q_I (b + 2))] [] (q_h L xs (q_u s 285 11 b) O c) = some (.inl (some (.int (q_I (T (b + 1 + 1))))), q_h L xs (q_u s 285 11 b) O c) := by
      rw [mm_letter h' E1 (by omega) (by omega)]
      rw [show b + 1 + 1 = b + 2 by omega]
    have r0 := hr (b + 0) (by omega) (by omega)
    rw [Int.add_zero] at r0
    have r1 := hr (b + 1) (by omega) (by omega)
    have r2 := hr (b + 2) (by omega) (by omega)
    rw [show b + 2 = b + 1 + 1 by omega] at r2
    by_cases c0 : T b = 97
    · skip
      by_cases c1 : T (b + 1) = 110
      · skip
        by_cases c2 : T (b + 1 + 1) = 100
        · have ew : eqw T b [97, 110, 100] = true := by simp only [eqw, c0, c1, c2, decide_true, Bool.and_self, Bool.and_true]
          rw [if_pos ⟨cl, ew⟩, q_bt ⟨cl, ew⟩]
          simp (disch := first | omega | exact q_b_01 _) only [↓reduceIte, q_bk0, q_bk1, q_bk2, q_sg_b, q_b_0, q_b_n0, q_b_1, q_b_n1, q_b_T, q_b_F, q_sg_g, q_sg_sg, q_sg_xs, q_sg_id, q_gu_ne, q_gu_eq, q_g_fne, q_g_cpe, q_w_f, q_v_f, q_u_f, q_fn_f, q_cp_f, q_sg_pg, q_sg_hc, q_lt_t, q_lt_f, q_le_t, q_le_f, q_eq_t, q_eq_f, ne_eq, eq_self, Bool.false_eq_true, Bool.true_eq_false, not_true_eq_false, not_false_eq_true, true_and, and_true, false_and, and_false, true_or, or_true, false_or, or_false, if_true, if_false, Int.reduceAdd, Int.reduceMul, Int.reduceSub, Int.reduceNeg, g11, q_uu_eq, t0, t1, t2, c0, c1, c2, R_231_0, R_231_4, R_231_17, R_231_22, R_231_29, R_231_32, R_231_38, R_231_48, R_231_51, R_231_53, R_231_55, R_231_60, R_231_63, R_231_73, R_231_78, R_231_81, R_231_83, R_231_89, R_231_94, C_231_1, C_231_19, C_231_26, C_231_70, LM_45_16, LM_57_16, CM_75_16_0, CM_75_16_1, CM_75_16_2]
        · have ew : ¬ eqw T b [97, 110, 100] = true := by simp only [eqw, c0, c1, c2, decide_true, decide_false, Bool.false_and, Bool.and_false, Bool.true_and, Bool.false_eq_true, not_false_eq_true]
          rw [if_neg (fun x => ew x.2), q_bf (fun x => ew x.2)]
          simp (disch := first | omega | exact q_b_01 _) only [↓reduceIte, q_bk0, q_bk1, q_bk2, q_sg_b, q_b_0, q_b_n0, q_b_1, q_b_n1, q_b_T, q_b_F, q_sg_g, q_sg_sg, q_sg_xs, q_sg_id, q_gu_ne, q_gu_eq, q_g_fne, q_g_cpe, q_w_f, q_v_f, q_u_f, q_fn_f, q_cp_f, q_sg_pg, q_sg_hc, q_lt_t, q_lt_f, q_le_t, q_le_f, q_eq_t, q_eq_f, ne_eq, eq_self, Bool.false_eq_true, Bool.true_eq_false, not_true_eq_false, not_false_eq_true, true_and, and_true, false_and, and_false, true_or, or_true, false_or, or_false, if_true, if_false, Int.reduceAdd, Int.reduceMul, Int.reduceSub, Int.reduceNeg, g11, t0, t1, t2, c0, c1, c2, R_231_0, R_231_4, R_231_17, R_231_22, R_231_29, R_231_32, R_231_38, R_231_48, R_231_51, R_231_53, R_231_55, R_231_60, R_231_63, R_231_73, R_231_78, R_231_81, R_231_83, R_231_89, R_231_94, C_231_1, C_231_19, C_231_26, C_231_70, LM_45_16, LM_57_16, CM_75_16_0, CM_75_16_1, CM_75_16_2]
      · have ew : ¬ eqw T b [97, 110, 100] = true := by simp only [eqw, c0, c1, decide_true, decide_false, Bool.false_and, Bool.and_false, Bool.true_and, Bool.false_eq_true, not_false_eq_true]
        rw [if_neg (fun x => ew x.2), q_bf (fun x => ew x.2)]
        simp (disch := first | omega | exact q_b_01 _) only [↓reduceIte, q_bk0, q_bk1, q_bk2, q_sg_b, q_b_0, q_b_n0, q_b_1, q_b_n1, q_b_T, q_b_F, q_sg_g, q_sg_sg, q_sg_xs, q_sg_id, q_gu_ne, q_gu_eq, q_g_fne, q_g_cpe, q_w_f, q_v_f, q_u_f, q_fn_f, q_cp_f, q_sg_pg, q_sg_hc, q_lt_t, q_lt_f, q_le_t, q_le_f, q_eq_t, q_eq_f, ne_eq, eq_self, Bool.false_eq_true, Bool.true_eq_false, not_true_eq_false, not_false_eq_true, true_and, and_true, false_and, and_false, true_or, or_true, false_or, or_false, if_true, if_false, Int.reduceAdd, Int.reduceMul, Int.reduceSub, Int.reduceNeg, g11, t0, t1, c0, c1, R_231_0, R_231_4, R_231_17, R_231_22, R_231_29, R_231_32, R_231_38, R_231_48, R_231_51, R_231_53, R_231_55, R_231_60, R_231_63, R_231_73, R_231_78, R_231_81, R_231_83, R_231_89, R_231_94, C_231_1, C_231_19, C_231_26, C_231_70, LM_45_16, LM_57_16, CM_75_16_0, CM_75_16_1]
    · have ew : ¬ eqw T b [97, 110, 100] = true := by simp only [eqw, c0, decide_true, decide_false, Bool.false_and, Bool.and_false, Bool.true_and, Bool.false_eq_true, not_false_eq_true]
      rw [if_neg (fun x => ew x.2), q_bf (fun x => ew x.2)]
      simp (disch := first | omega | exact q_b_01 _) only [↓reduceIte, q_bk0, q_bk1, q_bk2, q_sg_b, q_b_0, q_b_n0, q_b_1, q_b_n1, q_b_T, q_b_F, q_sg_g, q_sg_sg, q_sg_xs, q_sg_id, q_gu_ne, q_gu_eq, q_g_fne, q_g_cpe, q_w_f, q_v_f, q_u_f, q_fn_f, q_cp_f, q_sg_pg, q_sg_hc, q_lt_t, q_lt_f, q_le_t, q_le_f, q_eq_t, q_eq_f, ne_eq, eq_self, Bool.false_eq_true, Bool.true_eq_false, not_true_eq_false, not_false_eq_true, true_and, and_true, false_and, and_false, true_or, or_true, false_or, or_false, if_true, if_false, Int.reduceAdd, Int.reduceMul, Int.reduceSub, Int.reduceNeg, g11, t0, c0, R_231_0, R_231_4, R_231_17, R_231_22, R_231_29, R_231_32, R_231_38, R_231_48, R_231_51, R_231_53, R_231_55, R_231_60, R_231_63, R_231_73, R_231_78, R_231_81, R_231_83, R_231_89, R_231_94, C_231_1, C_231_19, C_231_26, C_231_70, LM_45_16, LM_57_16, CM_75_16_0]
  · rw [if_neg (fun x => cl x.1), q_bf (fun x => cl x.1)]
    simp (disch := first | omega | exact q_b_01 _) only [↓reduceIte, q_bk0, q_bk1, q_bk2, q_sg_b, q_b_0, q_b_n0, q_b_1, q_b_n1, q_b_T, q_b_F, q_sg_g, q_sg_sg, q_sg_xs, q_sg_id, q_gu_ne, q_gu_eq, q_g_fne, q_g_cpe, q_w_f, q_v_f, q_u_f, q_fn_f, q_cp_f, q_sg_pg, q_sg_hc, q_lt_t, q_lt_f, q_le_t, q_le_f, q_eq_t, q_eq_f, ne_eq, eq_self, Bool.false_eq_true, Bool.true_eq_false, not_true_eq_false, not_false_eq_true, true_and, and_true, false_and, and_false, true_or, or_true, false_or, or_false, if_true, if_false, Int.reduceAdd, Int.reduceMul, Int.reduceSub, Int.reduceNeg, g11, R_231_0, R_231_4, R_231_17, R_231_22, R_231_29, R_231_32, R_231_38, R_231_48, R_231_51, R_231_53, R_231_55, R_231_60, R_231_63, R_231_73, R_231_78, R_231_81, R_231_83, R_231_89, R_231_94, C_231_1, C_231_19, C_231_26, C_231_70, LM_45_16, LM_57_16]
theorem hs_17 (h : TxM T E s) (E1 : E ≤ 400) (hr : ∀ j, 0 ≤ j → j < E → 0 ≤ T j ∧ T j ≤ 255) (ha : q_g s 285 11 = i) (i0 : 0 ≤ i) (i1 : i ≤ 1000) {b e : Int} (hb : sk T E i = b) (he : run 97 122 T E b = e) : EV (d + 9) 231 0 [.ref 285, .ref 1000017, .null, .null] [] (q_h L xs s O c) = some (.inl (some (.int (q_I (q_b (e - b = 2 ∧ eqw T b [111, 114] = true))))), q_h L xs (q_u s 285 11 (if e - b = 2 ∧ eqw T b [111, 114] = true then e else b)) O c) := by
  have g := sk_rg T E1 i0 i1
  rw [hb] at g
  have h' : TxM T E (q_u s 285 11 b) := TxM_u h (by omega)
  have g11 : q_g (q_u s 285 11 b) 285 11 = b := by rw [q_gu_eq rfl, q_sg_id (by omega) (by omega)]
  have ge := run_ge 97 122 T E b
  rw [he] at ge
  have le : e ≤ 1000 := by
    by_cases x : b ≤ E
    · have := run_le (lo := 97) (hi := 122) (T := T) x
      rw [he] at this
      omega
    · have : e = b := by rw [← he]; exact run_no (by omega)
      omega
  have sk' := mm_skip (d := d + 7) (L := L) (xs := xs) (O := O) (c := c) h E1 hr ha i0 i1
  rw [hb] at sk'
  have lp := mm_hasL (d := d + 8) (L := L) (xs := xs) (O := O) (c := c) (x1 := 1000017) (x3 := .null) h' E1 hr (E - b).toNat (k := b) (by omega) (by omega) (by omega)
  rw [he] at lp
  have st : EV (d + 9) 231 0 [.ref 285, .ref 1000017, .null, .null] [] (q_h L xs s O c) = EV (d + 8 + 1) 231 38 [.ref 285, .ref 1000017, .int (q_I e), .null] [] (q_h L xs (q_u s 285 11 b) O c) := by
    rw [← lp]
    simp (disch := first | omega | exact q_b_01 _) only [↓reduceIte, q_bk0, q_bk1, q_bk2, q_sg_b, q_b_0, q_b_n0, q_b_1, q_b_n1, q_b_T, q_b_F, q_sg_g, q_sg_sg, q_sg_xs, q_sg_id, q_gu_ne, q_gu_eq, q_g_fne, q_g_cpe, q_w_f, q_v_f, q_u_f, q_fn_f, q_cp_f, q_sg_pg, q_sg_hc, q_lt_t, q_lt_f, q_le_t, q_le_f, q_eq_t, q_eq_f, ne_eq, eq_self, Bool.false_eq_true, Bool.true_eq_false, not_true_eq_false, not_false_eq_true, true_and, and_true, false_and, and_false, true_or, or_true, false_or, or_false, if_true, if_false, Int.reduceAdd, Int.reduceMul, Int.reduceSub, Int.reduceNeg, g11, R_231_0, R_231_4, R_231_17, R_231_22, R_231_29, R_231_32, R_231_38, R_231_48, R_231_51, R_231_53, R_231_55, R_231_60, R_231_63, R_231_73, R_231_78, R_231_81, R_231_83, R_231_89, R_231_94, C_231_1, C_231_19, C_231_26, C_231_70, sk']
  rw [st]
  by_cases cl : e - b = 2
  · have eE : e ≤ E := by
      by_cases x : b ≤ E
      · have := run_le (lo := 97) (hi := 122) (T := T) x
        rw [he] at this
        exact this
      · have : e = b := by rw [← he]; exact run_no (by omega)
        omega
    have t0 : EV (d + 8) 228 0 [.ref 285, .int (q_I (b + 0))] [] (q_h L xs (q_u s 285 11 b) O c) = some (.inl (some (.int (q_I (T b)))), q_h L xs (q_u s 285 11 b) O c) := by
      rw [mm_letter h' E1 (by omega) (by omega)]
      rw [Int.add_zero]
    have t1 : EV (d + 8) 228 0 [.ref 285, .int (q_I (b + 1))] [] (q_h L xs (q_u s 285 11 b) O c) = some (.inl (some (.int (q_I (T (b + 1))))), q_h L xs (q_u s 285 11 b) O c) := by
      rw [mm_letter h' E1 (by omega) (by omega)]
    have r0 := hr (b + 0) (by omega) (by omega)
    rw [Int.add_zero] at r0
    have r1 := hr (b + 1) (by omega) (by omega)
    by_cases c0 : T b = 111
    · skip
      by_cases c1 : T (b + 1) = 114
      · have ew : eqw T b [111, 114] = true := by simp only [eqw, c0, c1, decide_true, Bool.and_self, Bool.and_true]
        rw [if_pos ⟨cl, ew⟩, q_bt ⟨cl, ew⟩]
        simp (disch := first | omega | exact q_b_01 _) only [↓reduceIte, q_bk0, q_bk1, q_bk2, q_sg_b, q_b_0, q_b_n0, q_b_1, q_b_n1, q_b_T, q_b_F, q_sg_g, q_sg_sg, q_sg_xs, q_sg_id, q_gu_ne, q_gu_eq, q_g_fne, q_g_cpe, q_w_f, q_v_f, q_u_f, q_fn_f, q_cp_f, q_sg_pg, q_sg_hc, q_lt_t, q_lt_f, q_le_t, q_le_f, q_eq_t, q_eq_f, ne_eq, eq_self, Bool.false_eq_true, Bool.true_eq_false, not_true_eq_false, not_false_eq_true, true_and, and_true, false_and, and_false, true_or, or_true, false_or, or_false, if_true, if_false, Int.reduceAdd, Int.reduceMul, Int.reduceSub, Int.reduceNeg, g11, q_uu_eq, t0, t1, c0, c1, R_231_0, R_231_4, R_231_17, R_231_22, R_231_29, R_231_32, R_231_38, R_231_48, R_231_51, R_231_53, R_231_55, R_231_60, R_231_63, R_231_73, R_231_78, R_231_81, R_231_83, R_231_89, R_231_94, C_231_1, C_231_19, C_231_26, C_231_70, LM_45_17, LM_57_17, CM_75_17_0, CM_75_17_1]
      · have ew : ¬ eqw T b [111, 114] = true := by simp only [eqw, c0, c1, decide_true, decide_false, Bool.false_and, Bool.and_false, Bool.true_and, Bool.false_eq_true, not_false_eq_true]
        rw [if_neg (fun x => ew x.2), q_bf (fun x => ew x.2)]
        simp (disch := first | omega | exact q_b_01 _) only [↓reduceIte, q_bk0, q_bk1, q_bk2, q_sg_b, q_b_0, q_b_n0, q_b_1, q_b_n1, q_b_T, q_b_F, q_sg_g, q_sg_sg, q_sg_xs, q_sg_id, q_gu_ne, q_gu_eq, q_g_fne, q_g_cpe, q_w_f, q_v_f, q_u_f, q_fn_f, q_cp_f, q_sg_pg, q_sg_hc, q_lt_t, q_lt_f, q_le_t, q_le_f, q_eq_t, q_eq_f, ne_eq, eq_self, Bool.false_eq_true, Bool.true_eq_false, not_true_eq_false, not_false_eq_true, true_and, and_true, false_and, and_false, true_or, or_true, false_or, or_false, if_true, if_false, Int.reduceAdd, Int.reduceMul, Int.reduceSub, Int.reduceNeg, g11, t0, t1, c0, c1, R_231_0, R_231_4, R_231_17, R_231_22, R_231_29, R_231_32, R_231_38, R_231_48, R_231_51, R_231_53, R_231_55, R_231_60, R_231_63, R_231_73, R_231_78, R_231_81, R_231_83, R_231_89, R_231_94, C_231_1, C_231_19, C_231_26, C_231_70, LM_45_17, LM_57_17, CM_75_17_0, CM_75_17_1]
    · have ew : ¬ eqw T b [111, 114] = true := by simp only [eqw, c0, decide_true, decide_false, Bool.false_and, Bool.and_false, Bool.true_and, Bool.false_eq_true, not_false_eq_true]
      rw [if_neg (fun x => ew x.2), q_bf (fun x => ew x.2)]
      simp (disch := first | omega | exact q_b_01 _) only [↓reduceIte, q_bk0, q_bk1, q_bk2, q_sg_b, q_b_0, q_b_n0, q_b_1, q_b_n1, q_b_T, q_b_F, q_sg_g, q_sg_sg, q_sg_xs, q_sg_id, q_gu_ne, q_gu_eq, q_g_fne, q_g_cpe, q_w_f, q_v_f, q_u_f, q_fn_f, q_cp_f, q_sg_pg, q_sg_hc, q_lt_t, q_lt_f, q_le_t, q_le_f, q_eq_t, q_eq_f, ne_eq, eq_self, Bool.false_eq_true, Bool.true_eq_false, not_true_eq_false, not_false_eq_true, true_and, and_true, false_and, and_false, true_or, or_true, false_or, or_false, if_true, if_false, Int.reduceAdd, Int.reduceMul, Int.reduceSub, Int.reduceNeg, g11, t0, c0, R_231_0, R_231_4, R_231_17, R_231_22, R_231_29, R_231_32, R_231_38, R_231_48, R_231_51, R_231_53, R_231_55, R_231_60, R_231_63, R_231_73, R_231_78, R_231_81, R_231_83, R_231_89, R_231_94, C_231_1, C_231_19, C_231_26, C_231_70, LM_45_17, LM_57_17, CM_75_17_0]
  · rw [if_neg (fun x => cl x.1), q_bf (fun x => cl x.1)]
    simp (disch := first | omega | exact q_b_01 _) only [↓reduceIte, q_bk0, q_bk1, q_bk2, q_sg_b, q_b_0, q_b_n0, q_b_1, q_b_n1, q_b_T, q_b_F, q_sg_g, q_sg_sg, q_sg_xs, q_sg_id, q_gu_ne, q_gu_eq, q_g_fne, q_g_cpe, q_w_f, q_v_f, q_u_f, q_fn_f, q_cp_f, q_sg_pg, q_sg_hc, q_lt_t, q_lt_f, q_le_t, q_le_f, q_eq_t, q_eq_f, ne_eq, eq_self, Bool.false_eq_true, Bool.true_eq_false, not_true_eq_false, not_false_eq_true, true_and, and_true, false_and, and_false, true_or, or_true, false_or, or_false, if_true, if_false, Int.reduceAdd, Int.reduceMul, Int.reduceSub, Int.reduceNeg, g11, R_231_0, R_231_4, R_231_17, R_231_22, R_231_29, R_231_32, R_231_38, R_231_48, R_231_51, R_231_53, R_231_55, R_231_60, R_231_63, R_231_73, R_231_78, R_231_81, R_231_83, R_231_89, R_231_94, C_231_1, C_231_19, C_231_26, C_231_70, LM_45_17, LM_57_17]
theorem hs_18 (h : TxM T E s) (E1 : E ≤ 400) (hr : ∀ j, 0 ≤ j → j < E → 0 ≤ T j ∧ T j ≤ 255) (ha : q_g s 285 11 = i) (i0 : 0 ≤ i) (i1 : i ≤ 1000) {b e : Int} (hb : sk T E i = b) (he : run 97 122 T E b = e) : EV (d + 9) 231 0 [.ref 285, .ref 1000018, .null, .null] [] (q_h L xs s O c) = some (.inl (some (.int (q_I (q_b (e - b = 3 ∧ eqw T b [112, 117, 116] = true))))), q_h L xs (q_u s 285 11 (if e - b = 3 ∧ eqw T b [112, 117, 116] = true then e else b)) O c) := by
  have g := sk_rg T E1 i0 i1
  rw [hb] at g
  have h' : TxM T E (q_u s 285 11 b) := TxM_u h (by omega)
  have g11 : q_g (q_u s 285 11 b) 285 11 = b := by rw [q_gu_eq rfl, q_sg_id (by omega) (by omega)]
  have ge := run_ge 97 122 T E b
  rw [he] at ge
  have le : e ≤ 1000 := by
    by_cases x : b ≤ E
    · have := run_le (lo := 97) (hi := 122) (T := T) x
      rw [he] at this
      omega
    · have : e = b := by rw [← he]; exact run_no (by omega)
      omega
  have sk' := mm_skip (d := d + 7) (L := L) (xs := xs) (O := O) (c := c) h E1 hr ha i0 i1
  rw [hb] at sk'
  have lp := mm_hasL (d := d + 8) (L := L) (xs := xs) (O := O) (c := c) (x1 := 1000018) (x3 := .null) h' E1 hr (E - b).toNat (k := b) (by omega) (by omega) (by omega)
  rw [he] at lp
  have st : EV (d + 9) 231 0 [.ref 285, .ref 1000018, .null, .null] [] (q_h L xs s O c) = EV (d + 8 + 1) 231 38 [.ref 285, .ref 1000018, .int (q_I e), .null] [] (q_h L xs (q_u s 285 11 b) O c) := by
    rw [← lp]
    simp (disch := first | omega | exact q_b_01 _) only [↓reduceIte, q_bk0, q_bk1, q_bk2, q_sg_b, q_b_0, q_b_n0, q_b_1, q_b_n1, q_b_T, q_b_F, q_sg_g, q_sg_sg, q_sg_xs, q_sg_id, q_gu_ne, q_gu_eq, q_g_fne, q_g_cpe, q_w_f, q_v_f, q_u_f, q_fn_f, q_cp_f, q_sg_pg, q_sg_hc, q_lt_t, q_lt_f, q_le_t, q_le_f, q_eq_t, q_eq_f, ne_eq, eq_self, Bool.false_eq_true, Bool.true_eq_false, not_true_eq_false, not_false_eq_true, true_and, and_true, false_and, and_false, true_or, or_true, false_or, or_false, if_true, if_false, Int.reduceAdd, Int.reduceMul, Int.reduceSub, Int.reduceNeg, g11, R_231_0, R_231_4, R_231_17, R_231_22, R_231_29, R_231_32, R_231_38, R_231_48, R_231_51, R_231_53, R_231_55, R_231_60, R_231_63, R_231_73, R_231_78, R_231_81, R_231_83, R_231_89, R_231_94, C_231_1, C_231_19, C_231_26, C_231_70, sk']
  rw [st]
  by_cases cl : e - b = 3
  · have eE : e ≤ E := by
      by_cases x : b ≤ E
      · have := run_le (lo := 97) (hi := 122) (T := T) x
        rw [he] at this
        exact this
      · have : e = b := by rw [← he]; exact run_no (by omega)
        omega
    have t0 : EV (d + 8) 228 0 [.ref 285, .int (q_I (b + 0))] [] (q_h L xs (q_u s 285 11 b) O c) = some (.inl (some (.int (q_I (T b)))), q_h L xs (q_u s 285 11 b) O c) := by
      rw [mm_letter h' E1 (by omega) (by omega)]
      rw [Int.add_zero]
    have t1 : EV (d + 8) 228 0 [.ref 285, .int (q_I (b + 1))] [] (q_h L xs (q_u s 285 11 b) O c) = some (.inl (some (.int (q_I (T (b + 1))))), q_h L xs (q_u s 285 11 b) O c) := by
      rw [mm_letter h' E1 (by omega) (by omega)]
    have t2 : EV (d + 8) 228 0 [.ref 285, .int (q_I (b + 2))] [] (q_h L xs (q_u s 285 11 b) O c) = some (.inl (some (.int (q_I (T (b + 1 + 1))))), q_h L xs (q_u s 285 11 b) O c) := by
      rw [mm_letter h' E1 (by omega) (by omega)]
      rw [show b + 1 + 1 = b + 2 by omega]
    have r0 := hr (b + 0) (by omega) (by omega)
    rw [Int.add_zero] at r0
    have r1 := hr (b + 1) (by omega) (by omega)
    have r2 := hr (b + 2) (by omega) (by omega)
    rw [show b + 2 = b + 1 + 1 by omega] at r2
    by_cases c0 : T b = 112
    · skip
      by_cases c1 : T (b + 1) = 117
      · skip
        by_cases c2 : T (b + 1 + 1) = 116
        · have ew : eqw T b [112, 117, 116] = true := by simp only [eqw, c0, c1, c2, decide_true, Bool.and_self, Bool.and_true]
          rw [if_pos ⟨cl, ew⟩, q_bt ⟨cl, ew⟩]
          simp (disch := first | omega | exact q_b_01 _) only [↓reduceIte, q_bk0, q_bk1, q_bk2, q_sg_b, q_b_0, q_b_n0, q_b_1, q_b_n1, q_b_T, q_b_F, q_sg_g, q_sg_sg, q_sg_xs, q_sg_id, q_gu_ne, q_gu_eq, q_g_fne, q_g_cpe, q_w_f, q_v_f, q_u_f, q_fn_f, q_cp_f, q_sg_pg, q_sg_hc, q_lt_t, q_lt_f, q_le_t, q_le_f, q_eq_t, q_eq_f, ne_eq, eq_self, Bool.false_eq_true, Bool.true_eq_false, not_true_eq_false, not_false_eq_true, true_and, and_true, false_and, and_false, true_or, or_true, false_or, or_false, if_true, if_false, Int.reduceAdd, Int.reduceMul, Int.reduceSub, Int.reduceNeg, g11, q_uu_eq, t0, t1, t2, c0, c1, c2, R_231_0, R_231_4, R_231_17, R_231_22, R_231_29, R_231_32, R_231_38, R_231_48, R_231_51, R_231_53, R_231_55, R_231_60, R_231_63, R_231_73, R_231_78, R_231_81, R_231_83, R_231_89, R_231_94, C_231_1, C_231_19, C_231_26, C_231_70, LM_45_18, LM_57_18, CM_75_18_0, CM_75_18_1, CM_75_18_2]
        · have ew : ¬ eqw T b [112, 117, 116] = true := by simp only [eqw, c0, c1, c2, decide_true, decide_false, Bool.false_and, Bool.and_false, Bool.true_and, Bool.false_eq_true, not_false_eq_true]
          rw [if_neg (fun x => ew x.2), q_bf (fun x => ew x.2)]
          simp (disch := first | omega | exact q_b_01 _) only [↓reduceIte, q_bk0, q_bk1, q_bk2, q_sg_b, q_b_0, q_b_n0, q_b_1, q_b_n1, q_b_T, q_b_F, q_sg_g, q_sg_sg, q_sg_xs, q_sg_id, q_gu_ne, q_gu_eq, q_g_fne, q_g_cpe, q_w_f, q_v_f, q_u_f, q_fn_f, q_cp_f, q_sg_pg, q_sg_hc, q_lt_t, q_lt_f, q_le_t, q_le_f, q_eq_t, q_eq_f, ne_eq, eq_self, Bool.false_eq_true, Bool.true_eq_false, not_true_eq_false, not_false_eq_true, true_and, and_true, false_and, and_false, true_or, or_true, false_or, or_false, if_true, if_false, Int.reduceAdd, Int.reduceMul, Int.reduceSub, Int.reduceNeg, g11, t0, t1, t2, c0, c1, c2, R_231_0, R_231_4, R_231_17, R_231_22, R_231_29, R_231_32, R_231_38, R_231_48, R_231_51, R_231_53, R_231_55, R_231_60, R_231_63, R_231_73, R_231_78, R_231_81, R_231_83, R_231_89, R_231_94, C_231_1, C_231_19, C_231_26, C_231_70, LM_45_18, LM_57_18, CM_75_18_0, CM_75_18_1, CM_75_18_2]
      · have ew : ¬ eqw T b [112, 117, 116] = true := by simp only [eqw, c0, c1, decide_true, decide_false, Bool.false_and, Bool.and_false, Bool.true_and, Bool.false_eq_true, not_false_eq_true]
        rw [if_neg (fun x => ew x.2), q_bf (fun x => ew x.2)]
        simp (disch := first | omega | exact q_b_01 _) only [↓reduceIte, q_bk0, q_bk1, q_bk2, q_sg_b, q_b_0, q_b_n0, q_b_1, q_b_n1, q_b_T, q_b_F, q_sg_g, q_sg_sg, q_sg_xs, q_sg_id, q_gu_ne, q_gu_eq, q_g_fne, q_g_cpe, q_w_f, q_v_f, q_u_f, q_fn_f, q_cp_f, q_sg_pg, q_sg_hc, q_lt_t, q_lt_f, q_le_t, q_le_f, q_eq_t, q_eq_f, ne_eq, eq_self, Bool.false_eq_true, Bool.true_eq_false, not_true_eq_false, not_false_eq_true, true_and, and_true, false_and, and_false, true_or, or_true, false_or, or_false, if_true, if_false, Int.reduceAdd, Int.reduceMul, Int.reduceSub, Int.reduceNeg, g11, t0, t1, c0, c1, R_231_0, R_231_4, R_231_17, R_231_22, R_231_29, R_231_32, R_231_38, R_231_48, R_231_51, R_231_53, R_231_55, R_231_60, R_231_63, R_231_73, R_231_78, R_231_81, R_231_83, R_231_89, R_231_94, C_231_1, C_231_19, C_231_26, C_231_70, LM_45_18, LM_57_18, CM_75_18_0, CM_75_18_1]
    · have ew : ¬ eqw T b [112, 117, 116] = true := by simp only [eqw, c0, decide_true, decide_false, Bool.false_and, Bool.and_false, Bool.true_and, Bool.false_eq_true, not_false_eq_true]
      rw [if_neg (fun x => ew x.2), q_bf (fun x => ew x.2)]
      simp (disch := first | omega | exact q_b_01 _) only [↓reduceIte, q_bk0, q_bk1, q_bk2, q_sg_b, q_b_0, q_b_n0, q_b_1, q_b_n1, q_b_T, q_b_F, q_sg_g, q_sg_sg, q_sg_xs, q_sg_id, q_gu_ne, q_gu_eq, q_g_fne, q_g_cpe, q_w_f, q_v_f, q_u_f, q_fn_f, q_cp_f, q_sg_pg, q_sg_hc, q_lt_t, q_lt_f, q_le_t, q_le_f, q_eq_t, q_eq_f, ne_eq, eq_self, Bool.false_eq_true, Bool.true_eq_false, not_true_eq_false, not_false_eq_true, true_and, and_true, false_and, and_false, true_or, or_true, false_or, or_false, if_true, if_false, Int.reduceAdd, Int.reduceMul, Int.reduceSub, Int.reduceNeg, g11, t0, c0, R_231_0, R_231_4, R_231_17, R_231_22, R_231_29, R_231_32, R_231_38, R_231_48, R_231_51, R_231_53, R_231_55, R_231_60, R_231_63, R_231_73, R_231_78, R_231_81, R_231_83, R_231_89, R_231_94, C_231_1, C_231_19, C_231_26, C_231_70, LM_45_18, LM_57_18, CM_75_18_0]
  · rw [if_neg (fun x => cl x.1), q_bf (fun x => cl x.1)]
    simp (disch := first | omega | exact q_b_01 _) only [↓reduceIte, q_bk0, q_bk1, q_bk2, q_sg_b, q_b_0, q_b_n0, q_b_1, q_b_n1, q_b_T, q_b_F, q_sg_g, q_sg_sg, q_sg_xs, q_sg_id, q_gu_ne, q_gu_eq, q_g_fne, q_g_cpe, q_w_f, q_v_f, q_u_f, q_fn_f, q_cp_f, q_sg_pg, q_sg_hc, q_lt_t, q_lt_f, q_le_t, q_le_f, q_eq_t, q_eq_f, ne_eq, eq_self, Bool.false_eq_true, Bool.true_eq_false, not_true_eq_false, not_false_eq_true, true_and, and_true, false_and, and_false, true_or, or_true, false_or, or_false, if_true, if_false, Int.reduceAdd, Int.reduceMul, Int.reduceSub, Int.reduceNeg, g11, R_231_0, R_231_4, R_231_17, R_231_22, R_231_29, R_231_32, R_231_38, R_231_48, R_231_51, R_231_53, R_231_55, R_231_60, R_231_63, R_231_73, R_231_78, R_231_81, R_231_83, R_231_89, R_231_94, C_231_1, C_231_19, C_231_26, C_231_70, LM_45_18, LM_57_18]
theorem hs_19 (h : TxM T E s) (E1 : E ≤ 400) (hr : ∀ j, 0 ≤ j → j < E → 0 ≤ T j ∧ T j ≤ 255) (ha : q_g s 285 11 = i) (i0 : 0 ≤ i) (i1 : i ≤ 1000) {b e : Int} (hb : sk T E i = b) (he : run 97 122 T E b = e) : EV (d + 9) 231 0 [.ref 285, .ref 1000019, .null, .null] [] (q_h L xs s O c) = some (.inl (some (.int (q_I (q_b (e - b = 4 ∧ eqw T b [100, 114, 111, 112] = true))))), q_h L xs (q_u s 285 11 (if e - b = 4 ∧ eqw T b [100, 114, 111, 112] = true then e else b)) O c) := by
  have g := sk_rg T E1 i0 i1
  rw [hb] at g
  have h' : TxM T E (q_u s 285 11 b) := TxM_u h (by omega)
  have g11 : q_g (q_u s 285 11 b) 285 11 = b := by rw [q_gu_eq rfl, q_sg_id (by omega) (by omega)]
  have ge := run_ge 97 122 T E b
  rw [he] at ge
  have le : e ≤ 1000 := by
    by_cases x : b ≤ E
    · have := run_le (lo := 97) (hi := 122) (T := T) x
      rw [he] at this
      omega
    · have : e = b := by rw [← he]; exact run_no (by omega)
      omega
  have sk' := mm_skip (d := d + 7) (L := L) (xs := xs) (O := O) (c := c) h E1 hr ha i0 i1
  rw [hb] at sk'
  have lp := mm_hasL (d := d + 8) (L := L) (xs := xs) (O := O) (c := c) (x1 := 1000019) (x3 := .null) h' E1 hr (E - b).toNat (k := b) (by omega) (by omega) (by omega)
  rw [he] at lp
  have st : EV (d + 9) 231 0 [.ref 285, .ref 1000019, .null, .null] [] (q_h L xs s O c) = EV (d + 8 + 1) 231 38 [.ref 285, .ref 1000019, .int (q_I e), .null] [] (q_h L xs (q_u s 285 11 b) O c) := by
    rw [← lp]
    simp (disch := first | omega | exact q_b_01 _) only [↓reduceIte, q_bk0, q_bk1, q_bk2, q_sg_b, q_b_0, q_b_n0, q_b_1, q_b_n1, q_b_T, q_b_F, q_sg_g, q_sg_sg, q_sg_xs, q_sg_id, q_gu_ne, q_gu_eq, q_g_fne, q_g_cpe, q_w_f, q_v_f, q_u_f, q_fn_f, q_cp_f, q_sg_pg, q_sg_hc, q_lt_t, q_lt_f, q_le_t, q_le_f, q_eq_t, q_eq_f, ne_eq, eq_self, Bool.false_eq_true, Bool.true_eq_false, not_true_eq_false, not_false_eq_true, true_and, and_true, false_and, and_false, true_or, or_true, false_or, or_false, if_true, if_false, Int.reduceAdd, Int.reduceMul, Int.reduceSub, Int.reduceNeg, g11, R_231_0, R_231_4, R_231_17, R_231_22, R_231_29, R_231_32, R_231_38, R_231_48, R_231_51, R_231_53, R_231_55, R_231_60, R_231_63, R_231_73, R_231_78, R_231_81, R_231_83, R_231_89, R_231_94, C_231_1, C_231_19, C_231_26, C_231_70, sk']
  rw [st]
  by_cases cl : e - b = 4
  · have eE : e ≤ E := by
      by_cases x : b ≤ E
      · have := run_le (lo := 97) (hi := 122) (T := T) x
        rw [he] at this
        exact this
      · have : e = b := by rw [← he]; exact run_no (by omega)
        omega
    have t0 : EV (d + 8) 228 0 [.ref 285, .int (q_I (b + 0))] [] (q_h L xs (q_u s 285 11 b) O c) = some (.inl (some (.int (q_I (T b)))), q_h L xs (q_u s 285 11 b) O c) := by
      rw [mm_letter h' E1 (by omega) (by omega)]
      rw [Int.add_zero]
    have t1 : EV (d + 8) 228 0 [.ref 285, .int (q_I (b + 1))] [] (q_h L xs (q_u s 285 11 b) O c) = some (.inl (some (.int (q_I (T (b + 1))))), q_h L xs (q_u s 285 11 b) O c) := by
      rw [mm_letter h' E1 (by omega) (by omega)]
    have t2 : EV (d + 8) 228 0 [.ref 285, .int (q_I (b + 2))] [] (q_h L xs (q_u s 285 11 b) O c) = some (.inl (some (.int (q_I (T (b + 1 + 1))))), q_h L xs (q_u s 285 11 b) O c) := by
      rw [mm_letter h' E1 (by omega) (by omega)]
      rw [show b + 1 + 1 = b + 2 by omega]
    have t3 : EV (d + 8) 228 0 [.ref 285, .int (q_I (b + 3))] [] (q_h L xs (q_u s 285 11 b) O c) = some (.inl (some (.int (q_I (T (b + 1 + 1 + 1))))), q_h L xs (q_u s 285 11 b) O c) := by
      rw [mm_letter h' E1 (by omega) (by omega)]
      rw [show b + 1 + 1 + 1 = b + 3 by omega]
    have r0 := hr (b + 0) (by omega) (by omega)
    rw [Int.add_zero] at r0
    have r1 := hr (b + 1) (by omega) (by omega)
    have r2 := hr (b + 2) (by omega) (by omega)
    rw [show b + 2 = b + 1 + 1 by omega] at r2
    have r3 := hr (b + 3) (by omega) (by omega)
    rw [show b + 3 = b + 1 + 1 + 1 by omega] at r3
    by_cases c0 : T b = 100
    · skip
      by_cases c1 : T (b + 1) = 114
      · skip
        by_cases c2 : T (b + 1 + 1) = 111
        · skip
          by_cases c3 : T (b + 1 + 1 + 1) = 112
          · have ew : eqw T b [100, 114, 111, 112] = true := by simp only [eqw, c0, c1, c2, c3, decide_true, Bool.and_self, Bool.and_true]
            rw [if_pos ⟨cl, ew⟩, q_bt ⟨cl, ew⟩]
            simp (disch := first | omega | exact q_b_01 _) only [↓reduceIte, q_bk0, q_bk1, q_bk2, q_sg_b, q_b_0, q_b_n0, q_b_1, q_b_n1, q_b_T, q_b_F, q_sg_g, q_sg_sg, q_sg_xs, q_sg_id, q_gu_ne, q_gu_eq, q_g_fne, q_g_cpe, q_w_f, q_v_f, q_u_f, q_fn_f, q_cp_f, q_sg_pg, q_sg_hc, q_lt_t, q_lt_f, q_le_t, q_le_f, q_eq_t, q_eq_f, ne_eq, eq_self, Bool.false_eq_true, Bool.true_eq_false, not_true_eq_false, not_false_eq_true, true_and, and_true, false_and, and_false, true_or, or_true, false_or, or_false, if_true, if_false, Int.reduceAdd, Int.reduceMul, Int.reduceSub, Int.reduceNeg, g11, q_uu_eq, t0, t1, t2, t3, c0, c1, c2, c3, R_231_0, R_231_4, R_231_17, R_231_22, R_231_29, R_231_32, R_231_38, R_231_48, R_231_51, R_231_53, R_231_55, R_231_60, R_231_63, R_231_73, R_231_78, R_231_81, R_231_83, R_231_89, R_231_94, C_231_1, C_231_19, C_231_26, C_231_70, LM_45_19, LM_57_19, CM_75_19_0, CM_75_19_1, CM_75_19_2, CM_75_19_3]
          · have ew : ¬ eqw T b [100, 114, 111, 112] = true := by simp only [eqw, c0, c1, c2, c3, decide_true, decide_false, Bool.false_and, Bool.and_false, Bool.true_and, Bool.false_eq_true, not_false_eq_true]
            rw [if_neg (fun x => ew x.2), q_bf (fun x => ew x.2)]
            simp (disch := first | omega | exact q_b_01 _) only [↓reduceIte, q_bk0, q_bk1, q_bk2, q_sg_b, q_b_0, q_b_n0, q_b_1, q_b_n1, q_b_T, q_b_F, q_sg_g, q_sg_sg, q_sg_xs, q_sg_id, q_gu_ne, q_gu_eq, q_g_fne, q_g_cpe, q_w_f, q_v_f, q_u_f, q_fn_f, q_cp_f, q_sg_pg, q_sg_hc, q_lt_t, q_lt_f, q_le_t, q_le_f, q_eq_t, q_eq_f, ne_eq, eq_self, Bool.false_eq_true, Bool.true_eq_false, not_true_eq_false, not_false_eq_true, true_and, and_true, false_and, and_false, true_or, or_true, false_or, or_false, if_true, if_false, Int.reduceAdd, Int.reduceMul, Int.reduceSub, Int.reduceNeg, g11, t0, t1, t2, t3, c0, c1, c2, c3, R_231_0, R_231_4, R_231_17, R_231_22, R_231_29, R_231_32, R_231_38, R_231_48, R_231_51, R_231_53, R_231_55, R_231_60, R_231_63, R_231_73, R_231_78, R_231_81, R_231_83, R_231_89, R_231_94, C_231_1, C_231_19, C_231_26, C_231_70, LM_45_19, LM_57_19, CM_75_19_0, CM_75_19_1, CM_75_19_2, CM_75_19_3]
        · have ew : ¬ eqw T b [100, 114, 111, 112] = true := by simp only [eqw, c0, c1, c2, decide_true, decide_false, Bool.false_and, Bool.and_false, Bool.true_and, Bool.false_eq_true, not_false_eq_true]
          rw [if_neg (fun x => ew x.2), q_bf (fun x => ew x.2)]
          simp (disch := first | omega | exact q_b_01 _) only [↓reduceIte, q_bk0, q_bk1, q_bk2, q_sg_b, q_b_0, q_b_n0, q_b_1, q_b_n1, q_b_T, q_b_F, q_sg_g, q_sg_sg, q_sg_xs, q_sg_id, q_gu_ne, q_gu_eq, q_g_fne, q_g_cpe, q_w_f, q_v_f, q_u_f, q_fn_f, q_cp_f, q_sg_pg, q_sg_hc, q_lt_t, q_lt_f, q_le_t, q_le_f, q_eq_t, q_eq_f, ne_eq, eq_self, Bool.false_eq_true, Bool.true_eq_false, not_true_eq_false, not_false_eq_true, true_and, and_true, false_and, and_false, true_or, or_true, false_or, or_false, if_true, if_false, Int.reduceAdd, Int.reduceMul, Int.reduceSub, Int.reduceNeg, g11, t0, t1, t2, c0, c1, c2, R_231_0, R_231_4, R_231_17, R_231_22, R_231_29, R_231_32, R_231_38, R_231_48, R_231_51, R_231_53, R_231_55, R_231_60, R_231_63, R_231_73, R_231_78, R_231_81, R_231_83, R_231_89, R_231_94, C_231_1, C_231_19, C_231_26, C_231_70, LM_45_19, LM_57_19, CM_75_19_0, CM_75_19_1, CM_75_19_2]
      · have ew : ¬ eqw T b [100, 114, 111, 112] = true := by simp only [eqw, c0, c1, decide_true, decide_false, Bool.false_and, Bool.and_false, Bool.true_and, Bool.false_eq_true, not_false_eq_true]
        rw [if_neg (fun x => ew x.2), q_bf (fun x => ew x.2)]
        simp (disch := first | omega | exact q_b_01 _) only [↓reduceIte, q_bk0, q_bk1, q_bk2, q_sg_b, q_b_0, q_b_n0, q_b_1, q_b_n1, q_b_T, q_b_F, q_sg_g, q_sg_sg, q_sg_xs, q_sg_id, q_gu_ne, q_gu_eq, q_g_fne, q_g_cpe, q_w_f, q_v_f, q_u_f, q_fn_f, q_cp_f, q_sg_pg, q_sg_hc, q_lt_t, q_lt_f, q_le_t, q_le_f, q_eq_t, q_eq_f, ne_eq, eq_self, Bool.false_eq_true, Bool.true_eq_false, not_true_eq_false, not_false_eq_true, true_and, and_true, false_and, and_false, true_or, or_true, false_or, or_false, if_true, if_false, Int.reduceAdd, Int.reduceMul, Int.reduceSub, Int.reduceNeg, g11, t0, t1, c0, c1, R_231_0, R_231_4, R_231_17, R_231_22, R_231_29, R_231_32, R_231_38, R_231_48, R_231_51, R_231_53, R_231_55, R_231_60, R_231_63, R_231_73, R_231_78, R_231_81, R_231_83, R_231_89, R_231_94, C_231_1, C_231_19, C_231_26, C_231_70, LM_45_19, LM_57_19, CM_75_19_0, CM_75_19_1]
    · have ew : ¬ eqw T b [100, 114, 111, 112] = true := by simp only [eqw, c0, decide_true, decide_false, Bool.false_and, Bool.and_false, Bool.true_and, Bool.false_eq_true, not_false_eq_true]
      rw [if_neg (fun x => ew x.2), q_bf (fun x => ew x.2)]
      simp (disch := first | omega | exact q_b_01 _) only [↓reduceIte, q_bk0, q_bk1, q_bk2, q_sg_b, q_b_0, q_b_n0, q_b_1, q_b_n1, q_b_T, q_b_F, q_sg_g, q_sg_sg, q_sg_xs, q_sg_id, q_gu_ne, q_gu_eq, q_g_fne, q_g_cpe, q_w_f, q_v_f, q_u_f, q_fn_f, q_cp_f, q_sg_pg, q_sg_hc, q_lt_t, q_lt_f, q_le_t, q_le_f, q_eq_t, q_eq_f, ne_eq, eq_self, Bool.false_eq_true, Bool.true_eq_false, not_true_eq_false, not_false_eq_true, true_and, and_true, false_and, and_false, true_or, or_true, false_or, or_false, if_true, if_false, Int.reduceAdd, Int.reduceMul, Int.reduceSub, Int.reduceNeg, g11, t0, c0, R_231_0, R_231_4, R_231_17, R_231_22, R_231_29, R_231_32, R_231_38, R_231_48, R_231_51, R_231_53, R_231_55, R_231_60, R_231_63, R_231_73, R_231_78, R_231_81, R_231_83, R_231_89, R_231_94, C_231_1, C_231_19, C_231_26, C_231_70, LM_45_19, LM_57_19, CM_75_19_0]
  · rw [if_neg (fun x => cl x.1), q_bf (fun x => cl x.1)]
    simp (disch := first | omega | exact q_b_01 _) only [↓reduceIte, q_bk0, q_bk1, q_bk2, q_sg_b, q_b_0, q_b_n0, q_b_1, q_b_n1, q_b_T, q_b_F, q_sg_g, q_sg_sg, q_sg_xs, q_sg_id, q_gu_ne, q_gu_eq, q_g_fne, q_g_cpe, q_w_f, q_v_f, q_u_f, q_fn_f, q_cp_f, q_sg_pg, q_sg_hc, q_lt_t, q_lt_f, q_le_t, q_le_f, q_eq_t, q_eq_f, ne_eq, eq_self, Bool.false_eq_true, Bool.true_eq_false, not_true_eq_false, not_false_eq_true, true_and, and_true, false_and, and_false, true_or, or_true, false_or, or_false, if_true, if_false, Int.reduceAdd, Int.reduceMul, Int.reduceSub, Int.reduceNeg, g11, R_231_0, R_231_4, R_231_17, R_231_22, R_231_29, R_231_32, R_231_38, R_231_48, R_231_51, R_231_53, R_231_55, R_231_60, R_231_63, R_231_73, R_231_78, R_231_81, R_231_83, R_231_89, R_231_94, C_231_1, C_231_19, C_231_26, C_231_70, LM_45_19, LM_57_19]
end HAS
