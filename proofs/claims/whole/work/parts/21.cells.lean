/-! OBJECTS AS CELLS: by their address q and the integers F of their fields; what a field refers to lies at q + its place, as the constructors make it -/
/-- FoldTower$Evening: 0 thrown at +1, 1 trims at +2, 2 minutes at +3, 3 minutesInAll, 4 far at +4, 5 most at +12 -/
def o0 (q : Nat) (F : Nat → Int) : pm_E := .inr (0, [.ref (q + 1), .ref (q + 2), .ref (q + 3), .int (zI (F 3)), .ref (q + 4), .ref (q + 12)])
theorem gf_0_0 {q : Nat} {F : Nat → Int} {K : Value → Prop} : px_gf (some (o0 q F)) 0 0 K = K (.ref (q + 1)) := rfl
theorem gf_0_1 {q : Nat} {F : Nat → Int} {K : Value → Prop} : px_gf (some (o0 q F)) 0 1 K = K (.ref (q + 2)) := rfl
theorem gf_0_2 {q : Nat} {F : Nat → Int} {K : Value → Prop} : px_gf (some (o0 q F)) 0 2 K = K (.ref (q + 3)) := rfl
theorem gf_0_3 {q : Nat} {F : Nat → Int} {K : Value → Prop} : px_gf (some (o0 q F)) 0 3 K = K (.int (zI (F 3))) := rfl
theorem pf_0_3 {q : Nat} {x : Int} {F : Nat → Int} {K : pm_E → Prop} : px_pf (some (o0 q F)) ps_okI 0 3 (.int (zI x)) K = K (o0 q (upz F 3 x)) := rfl
theorem gf_0_4 {q : Nat} {F : Nat → Int} {K : Value → Prop} : px_gf (some (o0 q F)) 0 4 K = K (.ref (q + 4)) := rfl
theorem gf_0_5 {q : Nat} {F : Nat → Int} {K : Value → Prop} : px_gf (some (o0 q F)) 0 5 K = K (.ref (q + 12)) := rfl
/-- FoldTower$Flight: 0 far, 1 aside, 2 height, 3 direction, 4 steps, 5 through, 6 school at +1, 7 nosiness, 8 turn -/
def o1 (q : Nat) (F : Nat → Int) : pm_E := .inr (1, [.int (zI (F 0)), .int (zI (F 1)), .int (zI (F 2)), .int (zI (F 3)), .int (zI (F 4)), .int (zI (F 5)), .ref (F 6).toNat, .int (zI (F 7)), .int (zI (F 8))])
theorem gf_1_0 {q : Nat} {F : Nat → Int} {K : Value → Prop} : px_gf (some (o1 q F)) 1 0 K = K (.int (zI (F 0))) := rfl
theorem pf_1_0 {q : Nat} {x : Int} {F : Nat → Int} {K : pm_E → Prop} : px_pf (some (o1 q F)) ps_okI 1 0 (.int (zI x)) K = K (o1 q (upz F 0 x)) := rfl
theorem gf_1_1 {q : Nat} {F : Nat → Int} {K : Value → Prop} : px_gf (some (o1 q F)) 1 1 K = K (.int (zI (F 1))) := rfl
theorem pf_1_1 {q : Nat} {x : Int} {F : Nat → Int} {K : pm_E → Prop} : px_pf (some (o1 q F)) ps_okI 1 1 (.int (zI x)) K = K (o1 q (upz F 1 x)) := rfl
theorem gf_1_2 {q : Nat} {F : Nat → Int} {K : Value → Prop} : px_gf (some (o1 q F)) 1 2 K = K (.int (zI (F 2))) := rfl
theorem pf_1_2 {q : Nat} {x : Int} {F : Nat → Int} {K : pm_E → Prop} : px_pf (some (o1 q F)) ps_okI 1 2 (.int (zI x)) K = K (o1 q (upz F 2 x)) := rfl
theorem gf_1_3 {q : Nat} {F : Nat → Int} {K : Value → Prop} : px_gf (some (o1 q F)) 1 3 K = K (.int (zI (F 3))) := rfl
theorem pf_1_3 {q : Nat} {x : Int} {F : Nat → Int} {K : pm_E → Prop} : px_pf (some (o1 q F)) ps_okI 1 3 (.int (zI x)) K = K (o1 q (upz F 3 x)) := rfl
theorem gf_1_4 {q : Nat} {F : Nat → Int} {K : Value → Prop} : px_gf (some (o1 q F)) 1 4 K = K (.int (zI (F 4))) := rfl
theorem pf_1_4 {q : Nat} {x : Int} {F : Nat → Int} {K : pm_E → Prop} : px_pf (some (o1 q F)) ps_okI 1 4 (.int (zI x)) K = K (o1 q (upz F 4 x)) := rfl
theorem gf_1_5 {q : Nat} {F : Nat → Int} {K : Value → Prop} : px_gf (some (o1 q F)) 1 5 K = K (.int (zI (F 5))) := rfl
theorem pf_1_5 {q : Nat} {x : Int} {F : Nat → Int} {K : pm_E → Prop} (hx : x = 0 ∨ x = 1) : px_pf (some (o1 q F)) ps_okZ 1 5 (.int (zI x)) K = K (o1 q (upz F 5 x)) := by rcases hx with rfl | rfl <;> rfl
theorem gf_1_6 {q : Nat} {F : Nat → Int} {K : Value → Prop} : px_gf (some (o1 q F)) 1 6 K = K (.ref (F 6).toNat) := rfl
theorem pf_1_6 {q a : Nat} {F : Nat → Int} {K : pm_E → Prop} : px_pf (some (o1 q F)) ps_okR 1 6 (.ref a) K = K (o1 q (upz F 6 a)) := rfl
theorem gf_1_7 {q : Nat} {F : Nat → Int} {K : Value → Prop} : px_gf (some (o1 q F)) 1 7 K = K (.int (zI (F 7))) := rfl
theorem pf_1_7 {q : Nat} {x : Int} {F : Nat → Int} {K : pm_E → Prop} : px_pf (some (o1 q F)) ps_okI 1 7 (.int (zI x)) K = K (o1 q (upz F 7 x)) := rfl
theorem gf_1_8 {q : Nat} {F : Nat → Int} {K : Value → Prop} : px_gf (some (o1 q F)) 1 8 K = K (.int (zI (F 8))) := rfl
theorem pf_1_8 {q : Nat} {x : Int} {F : Nat → Int} {K : pm_E → Prop} : px_pf (some (o1 q F)) ps_okI 1 8 (.int (zI x)) K = K (o1 q (upz F 8 x)) := rfl
/-- FoldTower$Lessons: 0 taughtRows, 1 order at +1, 2 isTaught at +2 -/
def o2 (q : Nat) (F : Nat → Int) : pm_E := .inr (2, [.int (zI (F 0)), .ref (q + 1), .ref (q + 2)])
theorem gf_2_0 {q : Nat} {F : Nat → Int} {K : Value → Prop} : px_gf (some (o2 q F)) 2 0 K = K (.int (zI (F 0))) := rfl
theorem pf_2_0 {q : Nat} {x : Int} {F : Nat → Int} {K : pm_E → Prop} : px_pf (some (o2 q F)) ps_okI 2 0 (.int (zI x)) K = K (o2 q (upz F 0 x)) := rfl
theorem gf_2_1 {q : Nat} {F : Nat → Int} {K : Value → Prop} : px_gf (some (o2 q F)) 2 1 K = K (.ref (q + 1)) := rfl
theorem gf_2_2 {q : Nat} {F : Nat → Int} {K : Value → Prop} : px_gf (some (o2 q F)) 2 2 K = K (.ref (q + 2)) := rfl
/-- FoldTower$RowText: 0 folds, 1 side at +1, 2 number at +2 -/
def o3 (q : Nat) (F : Nat → Int) : pm_E := .inr (3, [.int (zI (F 0)), .ref (q + 1), .ref (q + 2)])
theorem gf_3_0 {q : Nat} {F : Nat → Int} {K : Value → Prop} : px_gf (some (o3 q F)) 3 0 K = K (.int (zI (F 0))) := rfl
theorem pf_3_0 {q : Nat} {x : Int} {F : Nat → Int} {K : pm_E → Prop} : px_pf (some (o3 q F)) ps_okI 3 0 (.int (zI x)) K = K (o3 q (upz F 0 x)) := rfl
theorem gf_3_1 {q : Nat} {F : Nat → Int} {K : Value → Prop} : px_gf (some (o3 q F)) 3 1 K = K (.ref (q + 1)) := rfl
theorem gf_3_2 {q : Nat} {F : Nat → Int} {K : Value → Prop} : px_gf (some (o3 q F)) 3 2 K = K (.ref (q + 2)) := rfl
/-- FoldTower$School: 0 width, 1 length, 2 tower, 3 windowFar, 4 windowLow, 5 windowHigh, 6 knownFolds, 7 forward at +1, 8 sink at +2, 9 push at +3, 10 lift at +4, 11 weight at +5, 12 knownSide at +6, 13 knownNumber at +7 -/
def o4 (q : Nat) (F : Nat → Int) : pm_E := .inr (4, [.int (zI (F 0)), .int (zI (F 1)), .int (zI (F 2)), .int (zI (F 3)), .int (zI (F 4)), .int (zI (F 5)), .int (zI (F 6)), .ref (q + 1), .ref (q + 2), .ref (q + 3), .ref (q + 4), .ref (q + 5), .ref (q + 6), .ref (q + 7)])
theorem gf_4_0 {q : Nat} {F : Nat → Int} {K : Value → Prop} : px_gf (some (o4 q F)) 4 0 K = K (.int (zI (F 0))) := rfl
theorem pf_4_0 {q : Nat} {x : Int} {F : Nat → Int} {K : pm_E → Prop} : px_pf (some (o4 q F)) ps_okI 4 0 (.int (zI x)) K = K (o4 q (upz F 0 x)) := rfl
theorem gf_4_1 {q : Nat} {F : Nat → Int} {K : Value → Prop} : px_gf (some (o4 q F)) 4 1 K = K (.int (zI (F 1))) := rfl
theorem pf_4_1 {q : Nat} {x : Int} {F : Nat → Int} {K : pm_E → Prop} : px_pf (some (o4 q F)) ps_okI 4 1 (.int (zI x)) K = K (o4 q (upz F 1 x)) := rfl
theorem gf_4_2 {q : Nat} {F : Nat → Int} {K : Value → Prop} : px_gf (some (o4 q F)) 4 2 K = K (.int (zI (F 2))) := rfl
theorem pf_4_2 {q : Nat} {x : Int} {F : Nat → Int} {K : pm_E → Prop} : px_pf (some (o4 q F)) ps_okI 4 2 (.int (zI x)) K = K (o4 q (upz F 2 x)) := rfl
theorem gf_4_3 {q : Nat} {F : Nat → Int} {K : Value → Prop} : px_gf (some (o4 q F)) 4 3 K = K (.int (zI (F 3))) := rfl
theorem pf_4_3 {q : Nat} {x : Int} {F : Nat → Int} {K : pm_E → Prop} : px_pf (some (o4 q F)) ps_okI 4 3 (.int (zI x)) K = K (o4 q (upz F 3 x)) := rfl
theorem gf_4_4 {q : Nat} {F : Nat → Int} {K : Value → Prop} : px_gf (some (o4 q F)) 4 4 K = K (.int (zI (F 4))) := rfl
theorem pf_4_4 {q : Nat} {x : Int} {F : Nat → Int} {K : pm_E → Prop} : px_pf (some (o4 q F)) ps_okI 4 4 (.int (zI x)) K = K (o4 q (upz F 4 x)) := rfl
theorem gf_4_5 {q : Nat} {F : Nat → Int} {K : Value → Prop} : px_gf (some (o4 q F)) 4 5 K = K (.int (zI (F 5))) := rfl
theorem pf_4_5 {q : Nat} {x : Int} {F : Nat → Int} {K : pm_E → Prop} : px_pf (some (o4 q F)) ps_okI 4 5 (.int (zI x)) K = K (o4 q (upz F 5 x)) := rfl
theorem gf_4_6 {q : Nat} {F : Nat → Int} {K : Value → Prop} : px_gf (some (o4 q F)) 4 6 K = K (.int (zI (F 6))) := rfl
theorem pf_4_6 {q : Nat} {x : Int} {F : Nat → Int} {K : pm_E → Prop} : px_pf (some (o4 q F)) ps_okI 4 6 (.int (zI x)) K = K (o4 q (upz F 6 x)) := rfl
theorem gf_4_7 {q : Nat} {F : Nat → Int} {K : Value → Prop} : px_gf (some (o4 q F)) 4 7 K = K (.ref (q + 1)) := rfl
theorem gf_4_8 {q : Nat} {F : Nat → Int} {K : Value → Prop} : px_gf (some (o4 q F)) 4 8 K = K (.ref (q + 2)) := rfl
theorem gf_4_9 {q : Nat} {F : Nat → Int} {K : Value → Prop} : px_gf (some (o4 q F)) 4 9 K = K (.ref (q + 3)) := rfl
theorem gf_4_10 {q : Nat} {F : Nat → Int} {K : Value → Prop} : px_gf (some (o4 q F)) 4 10 K = K (.ref (q + 4)) := rfl
theorem gf_4_11 {q : Nat} {F : Nat → Int} {K : Value → Prop} : px_gf (some (o4 q F)) 4 11 K = K (.ref (q + 5)) := rfl
theorem gf_4_12 {q : Nat} {F : Nat → Int} {K : Value → Prop} : px_gf (some (o4 q F)) 4 12 K = K (.ref (q + 6)) := rfl
theorem gf_4_13 {q : Nat} {F : Nat → Int} {K : Value → Prop} : px_gf (some (o4 q F)) 4 13 K = K (.ref (q + 7)) := rfl
/-- FoldTower$SchoolText: 0 sheetTold, 1 towerTold, 2 windowTold, 3 tableTold at +1, 4 windTold at +2 -/
def o5 (q : Nat) (F : Nat → Int) : pm_E := .inr (5, [.int (zI (F 0)), .int (zI (F 1)), .int (zI (F 2)), .ref (q + 1), .ref (q + 2)])
theorem gf_5_0 {q : Nat} {F : Nat → Int} {K : Value → Prop} : px_gf (some (o5 q F)) 5 0 K = K (.int (zI (F 0))) := rfl
theorem pf_5_0 {q : Nat} {x : Int} {F : Nat → Int} {K : pm_E → Prop} (hx : x = 0 ∨ x = 1) : px_pf (some (o5 q F)) ps_okZ 5 0 (.int (zI x)) K = K (o5 q (upz F 0 x)) := by rcases hx with rfl | rfl <;> rfl
theorem gf_5_1 {q : Nat} {F : Nat → Int} {K : Value → Prop} : px_gf (some (o5 q F)) 5 1 K = K (.int (zI (F 1))) := rfl
theorem pf_5_1 {q : Nat} {x : Int} {F : Nat → Int} {K : pm_E → Prop} (hx : x = 0 ∨ x = 1) : px_pf (some (o5 q F)) ps_okZ 5 1 (.int (zI x)) K = K (o5 q (upz F 1 x)) := by rcases hx with rfl | rfl <;> rfl
theorem gf_5_2 {q : Nat} {F : Nat → Int} {K : Value → Prop} : px_gf (some (o5 q F)) 5 2 K = K (.int (zI (F 2))) := rfl
theorem pf_5_2 {q : Nat} {x : Int} {F : Nat → Int} {K : pm_E → Prop} (hx : x = 0 ∨ x = 1) : px_pf (some (o5 q F)) ps_okZ 5 2 (.int (zI x)) K = K (o5 q (upz F 2 x)) := by rcases hx with rfl | rfl <;> rfl
theorem gf_5_3 {q : Nat} {F : Nat → Int} {K : Value → Prop} : px_gf (some (o5 q F)) 5 3 K = K (.ref (q + 1)) := rfl
theorem gf_5_4 {q : Nat} {F : Nat → Int} {K : Value → Prop} : px_gf (some (o5 q F)) 5 4 K = K (.ref (q + 2)) := rfl
/-- FoldTower$Search: 0 hits, 1 firstValue, 2 keptLength, 3 keptTrim, 4 kept at +1, 5 firstLength, 6 firstTrim, 7 first at +2, 8 row at +3, 9 sheets at +4, 10 flown at +5, 11 flight at +6, 12 school at +15, 13 now at +23, 14 aim, 15 minute, 16 rowsMet -/
def o6 (q : Nat) (F : Nat → Int) : pm_E := .inr (6, [.int (zI (F 0)), .int (zI (F 1)), .int (zI (F 2)), .int (zI (F 3)), .ref (q + 1), .int (zI (F 5)), .int (zI (F 6)), .ref (q + 2), .ref (q + 3), .ref (q + 4), .ref (q + 5), .ref (q + 6), .ref (F 12).toNat, .ref (F 13).toNat, .int (zI (F 14)), .int (zI (F 15)), .int (zI (F 16))])
theorem gf_6_0 {q : Nat} {F : Nat → Int} {K : Value → Prop} : px_gf (some (o6 q F)) 6 0 K = K (.int (zI (F 0))) := rfl
theorem pf_6_0 {q : Nat} {x : Int} {F : Nat → Int} {K : pm_E → Prop} : px_pf (some (o6 q F)) ps_okI 6 0 (.int (zI x)) K = K (o6 q (upz F 0 x)) := rfl
theorem gf_6_1 {q : Nat} {F : Nat → Int} {K : Value → Prop} : px_gf (some (o6 q F)) 6 1 K = K (.int (zI (F 1))) := rfl
theorem pf_6_1 {q : Nat} {x : Int} {F : Nat → Int} {K : pm_E → Prop} : px_pf (some (o6 q F)) ps_okI 6 1 (.int (zI x)) K = K (o6 q (upz F 1 x)) := rfl
theorem gf_6_2 {q : Nat} {F : Nat → Int} {K : Value → Prop} : px_gf (some (o6 q F)) 6 2 K = K (.int (zI (F 2))) := rfl
theorem pf_6_2 {q : Nat} {x : Int} {F : Nat → Int} {K : pm_E → Prop} : px_pf (some (o6 q F)) ps_okI 6 2 (.int (zI x)) K = K (o6 q (upz F 2 x)) := rfl
theorem gf_6_3 {q : Nat} {F : Nat → Int} {K : Value → Prop} : px_gf (some (o6 q F)) 6 3 K = K (.int (zI (F 3))) := rfl
theorem pf_6_3 {q : Nat} {x : Int} {F : Nat → Int} {K : pm_E → Prop} : px_pf (some (o6 q F)) ps_okI 6 3 (.int (zI x)) K = K (o6 q (upz F 3 x)) := rfl
theorem gf_6_4 {q : Nat} {F : Nat → Int} {K : Value → Prop} : px_gf (some (o6 q F)) 6 4 K = K (.ref (q + 1)) := rfl
theorem gf_6_5 {q : Nat} {F : Nat → Int} {K : Value → Prop} : px_gf (some (o6 q F)) 6 5 K = K (.int (zI (F 5))) := rfl
theorem pf_6_5 {q : Nat} {x : Int} {F : Nat → Int} {K : pm_E → Prop} : px_pf (some (o6 q F)) ps_okI 6 5 (.int (zI x)) K = K (o6 q (upz F 5 x)) := rfl
theorem gf_6_6 {q : Nat} {F : Nat → Int} {K : Value → Prop} : px_gf (some (o6 q F)) 6 6 K = K (.int (zI (F 6))) := rfl
theorem pf_6_6 {q : Nat} {x : Int} {F : Nat → Int} {K : pm_E → Prop} : px_pf (some (o6 q F)) ps_okI 6 6 (.int (zI x)) K = K (o6 q (upz F 6 x)) := rfl
theorem gf_6_7 {q : Nat} {F : Nat → Int} {K : Value → Prop} : px_gf (some (o6 q F)) 6 7 K = K (.ref (q + 2)) := rfl
theorem gf_6_8 {q : Nat} {F : Nat → Int} {K : Value → Prop} : px_gf (some (o6 q F)) 6 8 K = K (.ref (q + 3)) := rfl
theorem gf_6_9 {q : Nat} {F : Nat → Int} {K : Value → Prop} : px_gf (some (o6 q F)) 6 9 K = K (.ref (q + 4)) := rfl
theorem gf_6_10 {q : Nat} {F : Nat → Int} {K : Value → Prop} : px_gf (some (o6 q F)) 6 10 K = K (.ref (q + 5)) := rfl
theorem gf_6_11 {q : Nat} {F : Nat → Int} {K : Value → Prop} : px_gf (some (o6 q F)) 6 11 K = K (.ref (q + 6)) := rfl
theorem gf_6_12 {q : Nat} {F : Nat → Int} {K : Value → Prop} : px_gf (some (o6 q F)) 6 12 K = K (.ref (F 12).toNat) := rfl
theorem pf_6_12 {q a : Nat} {F : Nat → Int} {K : pm_E → Prop} : px_pf (some (o6 q F)) ps_okR 6 12 (.ref a) K = K (o6 q (upz F 12 a)) := rfl
theorem gf_6_13 {q : Nat} {F : Nat → Int} {K : Value → Prop} : px_gf (some (o6 q F)) 6 13 K = K (.ref (F 13).toNat) := rfl
theorem pf_6_13 {q a : Nat} {F : Nat → Int} {K : pm_E → Prop} : px_pf (some (o6 q F)) ps_okR 6 13 (.ref a) K = K (o6 q (upz F 13 a)) := rfl
theorem gf_6_14 {q : Nat} {F : Nat → Int} {K : Value → Prop} : px_gf (some (o6 q F)) 6 14 K = K (.int (zI (F 14))) := rfl
theorem pf_6_14 {q : Nat} {x : Int} {F : Nat → Int} {K : pm_E → Prop} : px_pf (some (o6 q F)) ps_okI 6 14 (.int (zI x)) K = K (o6 q (upz F 14 x)) := rfl
theorem gf_6_15 {q : Nat} {F : Nat → Int} {K : Value → Prop} : px_gf (some (o6 q F)) 6 15 K = K (.int (zI (F 15))) := rfl
theorem pf_6_15 {q : Nat} {x : Int} {F : Nat → Int} {K : pm_E → Prop} : px_pf (some (o6 q F)) ps_okI 6 15 (.int (zI x)) K = K (o6 q (upz F 15 x)) := rfl
theorem gf_6_16 {q : Nat} {F : Nat → Int} {K : Value → Prop} : px_gf (some (o6 q F)) 6 16 K = K (.int (zI (F 16))) := rfl
theorem pf_6_16 {q : Nat} {x : Int} {F : Nat → Int} {K : pm_E → Prop} : px_pf (some (o6 q F)) ps_okI 6 16 (.int (zI x)) K = K (o6 q (upz F 16 x)) := rfl
/-- FoldTower$Sheet: 0 width, 1 length, 2 columns, 3 lines, 4 folds, 5 backUp at +1, 6 column at +2, 7 line at +3, 8 level at +4, 9 creaseBeside at +5, 10 creaseBelow at +6, 11 weight at +7, 12 moving at +8 -/
def o7 (q : Nat) (F : Nat → Int) : pm_E := .inr (7, [.int (zI (F 0)), .int (zI (F 1)), .int (zI (F 2)), .int (zI (F 3)), .int (zI (F 4)), .ref (q + 1), .ref (q + 2), .ref (q + 3), .ref (q + 4), .ref (q + 5), .ref (q + 6), .ref (q + 7), .ref (q + 8)])
theorem gf_7_0 {q : Nat} {F : Nat → Int} {K : Value → Prop} : px_gf (some (o7 q F)) 7 0 K = K (.int (zI (F 0))) := rfl
theorem pf_7_0 {q : Nat} {x : Int} {F : Nat → Int} {K : pm_E → Prop} : px_pf (some (o7 q F)) ps_okI 7 0 (.int (zI x)) K = K (o7 q (upz F 0 x)) := rfl
theorem gf_7_1 {q : Nat} {F : Nat → Int} {K : Value → Prop} : px_gf (some (o7 q F)) 7 1 K = K (.int (zI (F 1))) := rfl
theorem pf_7_1 {q : Nat} {x : Int} {F : Nat → Int} {K : pm_E → Prop} : px_pf (some (o7 q F)) ps_okI 7 1 (.int (zI x)) K = K (o7 q (upz F 1 x)) := rfl
theorem gf_7_2 {q : Nat} {F : Nat → Int} {K : Value → Prop} : px_gf (some (o7 q F)) 7 2 K = K (.int (zI (F 2))) := rfl
theorem pf_7_2 {q : Nat} {x : Int} {F : Nat → Int} {K : pm_E → Prop} : px_pf (some (o7 q F)) ps_okI 7 2 (.int (zI x)) K = K (o7 q (upz F 2 x)) := rfl
theorem gf_7_3 {q : Nat} {F : Nat → Int} {K : Value → Prop} : px_gf (some (o7 q F)) 7 3 K = K (.int (zI (F 3))) := rfl
theorem pf_7_3 {q : Nat} {x : Int} {F : Nat → Int} {K : pm_E → Prop} : px_pf (some (o7 q F)) ps_okI 7 3 (.int (zI x)) K = K (o7 q (upz F 3 x)) := rfl
theorem gf_7_4 {q : Nat} {F : Nat → Int} {K : Value → Prop} : px_gf (some (o7 q F)) 7 4 K = K (.int (zI (F 4))) := rfl
theorem pf_7_4 {q : Nat} {x : Int} {F : Nat → Int} {K : pm_E → Prop} : px_pf (some (o7 q F)) ps_okI 7 4 (.int (zI x)) K = K (o7 q (upz F 4 x)) := rfl
theorem gf_7_5 {q : Nat} {F : Nat → Int} {K : Value → Prop} : px_gf (some (o7 q F)) 7 5 K = K (.ref (q + 1)) := rfl
theorem gf_7_6 {q : Nat} {F : Nat → Int} {K : Value → Prop} : px_gf (some (o7 q F)) 7 6 K = K (.ref (q + 2)) := rfl
theorem gf_7_7 {q : Nat} {F : Nat → Int} {K : Value → Prop} : px_gf (some (o7 q F)) 7 7 K = K (.ref (q + 3)) := rfl
theorem gf_7_8 {q : Nat} {F : Nat → Int} {K : Value → Prop} : px_gf (some (o7 q F)) 7 8 K = K (.ref (q + 4)) := rfl
theorem gf_7_9 {q : Nat} {F : Nat → Int} {K : Value → Prop} : px_gf (some (o7 q F)) 7 9 K = K (.ref (q + 5)) := rfl
theorem gf_7_10 {q : Nat} {F : Nat → Int} {K : Value → Prop} : px_gf (some (o7 q F)) 7 10 K = K (.ref (q + 6)) := rfl
theorem gf_7_11 {q : Nat} {F : Nat → Int} {K : Value → Prop} : px_gf (some (o7 q F)) 7 11 K = K (.ref (q + 7)) := rfl
theorem gf_7_12 {q : Nat} {F : Nat → Int} {K : Value → Prop} : px_gf (some (o7 q F)) 7 12 K = K (.ref (q + 8)) := rfl
/-- FoldTower$State: 0 folds, 1 rowsToTeach, 2 foldSide at +1, 3 foldNumber at +2, 4 refused at +3, 5 rowLength at +4, 6 rowFolds at +5 -/
def o8 (q : Nat) (F : Nat → Int) : pm_E := .inr (8, [.int (zI (F 0)), .int (zI (F 1)), .ref (q + 1), .ref (q + 2), .ref (q + 3), .ref (q + 4), .ref (q + 5)])
theorem gf_8_0 {q : Nat} {F : Nat → Int} {K : Value → Prop} : px_gf (some (o8 q F)) 8 0 K = K (.int (zI (F 0))) := rfl
theorem pf_8_0 {q : Nat} {x : Int} {F : Nat → Int} {K : pm_E → Prop} : px_pf (some (o8 q F)) ps_okI 8 0 (.int (zI x)) K = K (o8 q (upz F 0 x)) := rfl
theorem gf_8_1 {q : Nat} {F : Nat → Int} {K : Value → Prop} : px_gf (some (o8 q F)) 8 1 K = K (.int (zI (F 1))) := rfl
theorem pf_8_1 {q : Nat} {x : Int} {F : Nat → Int} {K : pm_E → Prop} : px_pf (some (o8 q F)) ps_okI 8 1 (.int (zI x)) K = K (o8 q (upz F 1 x)) := rfl
theorem gf_8_2 {q : Nat} {F : Nat → Int} {K : Value → Prop} : px_gf (some (o8 q F)) 8 2 K = K (.ref (q + 1)) := rfl
theorem gf_8_3 {q : Nat} {F : Nat → Int} {K : Value → Prop} : px_gf (some (o8 q F)) 8 3 K = K (.ref (q + 2)) := rfl
theorem gf_8_4 {q : Nat} {F : Nat → Int} {K : Value → Prop} : px_gf (some (o8 q F)) 8 4 K = K (.ref (q + 3)) := rfl
theorem gf_8_5 {q : Nat} {F : Nat → Int} {K : Value → Prop} : px_gf (some (o8 q F)) 8 5 K = K (.ref (q + 4)) := rfl
theorem gf_8_6 {q : Nat} {F : Nat → Int} {K : Value → Prop} : px_gf (some (o8 q F)) 8 6 K = K (.ref (q + 5)) := rfl
/-- FoldTower$Tape: 0 size, 1 faultKind, 2 faultPlace, 3 bytes at +1, 4 textEnd, 5 kind, 6 start, 7 stop, 8 value -/
def o9 (q : Nat) (F : Nat → Int) : pm_E := .inr (9, [.int (zI (F 0)), .int (zI (F 1)), .int (zI (F 2)), .ref (q + 1), .int (zI (F 4)), .int (zI (F 5)), .int (zI (F 6)), .int (zI (F 7)), .int (zI (F 8))])
theorem gf_9_0 {q : Nat} {F : Nat → Int} {K : Value → Prop} : px_gf (some (o9 q F)) 9 0 K = K (.int (zI (F 0))) := rfl
theorem pf_9_0 {q : Nat} {x : Int} {F : Nat → Int} {K : pm_E → Prop} : px_pf (some (o9 q F)) ps_okI 9 0 (.int (zI x)) K = K (o9 q (upz F 0 x)) := rfl
theorem gf_9_1 {q : Nat} {F : Nat → Int} {K : Value → Prop} : px_gf (some (o9 q F)) 9 1 K = K (.int (zI (F 1))) := rfl
theorem pf_9_1 {q : Nat} {x : Int} {F : Nat → Int} {K : pm_E → Prop} : px_pf (some (o9 q F)) ps_okI 9 1 (.int (zI x)) K = K (o9 q (upz F 1 x)) := rfl
theorem gf_9_2 {q : Nat} {F : Nat → Int} {K : Value → Prop} : px_gf (some (o9 q F)) 9 2 K = K (.int (zI (F 2))) := rfl
theorem pf_9_2 {q : Nat} {x : Int} {F : Nat → Int} {K : pm_E → Prop} : px_pf (some (o9 q F)) ps_okI 9 2 (.int (zI x)) K = K (o9 q (upz F 2 x)) := rfl
theorem gf_9_3 {q : Nat} {F : Nat → Int} {K : Value → Prop} : px_gf (some (o9 q F)) 9 3 K = K (.ref (q + 1)) := rfl
theorem gf_9_4 {q : Nat} {F : Nat → Int} {K : Value → Prop} : px_gf (some (o9 q F)) 9 4 K = K (.int (zI (F 4))) := rfl
theorem pf_9_4 {q : Nat} {x : Int} {F : Nat → Int} {K : pm_E → Prop} : px_pf (some (o9 q F)) ps_okI 9 4 (.int (zI x)) K = K (o9 q (upz F 4 x)) := rfl
theorem gf_9_5 {q : Nat} {F : Nat → Int} {K : Value → Prop} : px_gf (some (o9 q F)) 9 5 K = K (.int (zI (F 5))) := rfl
theorem pf_9_5 {q : Nat} {x : Int} {F : Nat → Int} {K : pm_E → Prop} : px_pf (some (o9 q F)) ps_okI 9 5 (.int (zI x)) K = K (o9 q (upz F 5 x)) := rfl
theorem gf_9_6 {q : Nat} {F : Nat → Int} {K : Value → Prop} : px_gf (some (o9 q F)) 9 6 K = K (.int (zI (F 6))) := rfl
theorem pf_9_6 {q : Nat} {x : Int} {F : Nat → Int} {K : pm_E → Prop} : px_pf (some (o9 q F)) ps_okI 9 6 (.int (zI x)) K = K (o9 q (upz F 6 x)) := rfl
theorem gf_9_7 {q : Nat} {F : Nat → Int} {K : Value → Prop} : px_gf (some (o9 q F)) 9 7 K = K (.int (zI (F 7))) := rfl
theorem pf_9_7 {q : Nat} {x : Int} {F : Nat → Int} {K : pm_E → Prop} : px_pf (some (o9 q F)) ps_okI 9 7 (.int (zI x)) K = K (o9 q (upz F 7 x)) := rfl
theorem gf_9_8 {q : Nat} {F : Nat → Int} {K : Value → Prop} : px_gf (some (o9 q F)) 9 8 K = K (.int (zI (F 8))) := rfl
theorem pf_9_8 {q : Nat} {x : Int} {F : Nat → Int} {K : pm_E → Prop} : px_pf (some (o9 q F)) ps_okI 9 8 (.int (zI x)) K = K (o9 q (upz F 8 x)) := rfl
/-- FoldTower: 0 tape at +1, 1 schoolText at +3, 2 rowText at +6, 3 school at +9, 4 spareSchool at +17, 5 sheet at +25, 6 state at +34, 7 imageState at +40, 8 hasImage, 9 flight at +46, 10 search at +55, 11 latestEvening at +132, 12 lessons at +145, 13 faultPlace -/
def o10 (q : Nat) (F : Nat → Int) : pm_E := .inr (10, [.ref (q + 1), .ref (q + 3), .ref (q + 6), .ref (F 3).toNat, .ref (F 4).toNat, .ref (q + 25), .ref (q + 34), .ref (q + 40), .int (zI (F 8)), .ref (q + 46), .ref (q + 55), .ref (q + 132), .ref (q + 145), .int (zI (F 13))])
theorem gf_10_0 {q : Nat} {F : Nat → Int} {K : Value → Prop} : px_gf (some (o10 q F)) 10 0 K = K (.ref (q + 1)) := rfl
theorem gf_10_1 {q : Nat} {F : Nat → Int} {K : Value → Prop} : px_gf (some (o10 q F)) 10 1 K = K (.ref (q + 3)) := rfl
theorem gf_10_2 {q : Nat} {F : Nat → Int} {K : Value → Prop} : px_gf (some (o10 q F)) 10 2 K = K (.ref (q + 6)) := rfl
theorem gf_10_3 {q : Nat} {F : Nat → Int} {K : Value → Prop} : px_gf (some (o10 q F)) 10 3 K = K (.ref (F 3).toNat) := rfl
theorem pf_10_3 {q a : Nat} {F : Nat → Int} {K : pm_E → Prop} : px_pf (some (o10 q F)) ps_okR 10 3 (.ref a) K = K (o10 q (upz F 3 a)) := rfl
theorem gf_10_4 {q : Nat} {F : Nat → Int} {K : Value → Prop} : px_gf (some (o10 q F)) 10 4 K = K (.ref (F 4).toNat) := rfl
theorem pf_10_4 {q a : Nat} {F : Nat → Int} {K : pm_E → Prop} : px_pf (some (o10 q F)) ps_okR 10 4 (.ref a) K = K (o10 q (upz F 4 a)) := rfl
theorem gf_10_5 {q : Nat} {F : Nat → Int} {K : Value → Prop} : px_gf (some (o10 q F)) 10 5 K = K (.ref (q + 25)) := rfl
theorem gf_10_6 {q : Nat} {F : Nat → Int} {K : Value → Prop} : px_gf (some (o10 q F)) 10 6 K = K (.ref (q + 34)) := rfl
theorem gf_10_7 {q : Nat} {F : Nat → Int} {K : Value → Prop} : px_gf (some (o10 q F)) 10 7 K = K (.ref (q + 40)) := rfl
theorem gf_10_8 {q : Nat} {F : Nat → Int} {K : Value → Prop} : px_gf (some (o10 q F)) 10 8 K = K (.int (zI (F 8))) := rfl
theorem pf_10_8 {q : Nat} {x : Int} {F : Nat → Int} {K : pm_E → Prop} (hx : x = 0 ∨ x = 1) : px_pf (some (o10 q F)) ps_okZ 10 8 (.int (zI x)) K = K (o10 q (upz F 8 x)) := by rcases hx with rfl | rfl <;> rfl
theorem gf_10_9 {q : Nat} {F : Nat → Int} {K : Value → Prop} : px_gf (some (o10 q F)) 10 9 K = K (.ref (q + 46)) := rfl
theorem gf_10_10 {q : Nat} {F : Nat → Int} {K : Value → Prop} : px_gf (some (o10 q F)) 10 10 K = K (.ref (q + 55)) := rfl
theorem gf_10_11 {q : Nat} {F : Nat → Int} {K : Value → Prop} : px_gf (some (o10 q F)) 10 11 K = K (.ref (q + 132)) := rfl
theorem gf_10_12 {q : Nat} {F : Nat → Int} {K : Value → Prop} : px_gf (some (o10 q F)) 10 12 K = K (.ref (q + 145)) := rfl
theorem gf_10_13 {q : Nat} {F : Nat → Int} {K : Value → Prop} : px_gf (some (o10 q F)) 10 13 K = K (.int (zI (F 13))) := rfl
theorem pf_10_13 {q : Nat} {x : Int} {F : Nat → Int} {K : pm_E → Prop} : px_pf (some (o10 q F)) ps_okI 10 13 (.int (zI x)) K = K (o10 q (upz F 13 x)) := rfl
/-- FoldTowerModel: 0 sides at +1, 1 code, 2 told at +2, 3 forward at +3, 4 sink at +4, 5 push at +5, 6 lift at +6, 7 weight at +7, 8 known at +8, 9 status at +9, 10 tape at +10, 11 taped, 12 at, 13 size, 14 token, 15 number, 16 begins, 17 ends, 18 bad, 19 badPlace, 20 faultPlace, 21 tables, 22 winds, 23 readRow at +11, 24 wide at +12, 25 high at +13, 26 placeX at +14, 27 placeY at +15, 28 level at +16, 29 back at +17, 30 rightOf at +18, 31 below at +19, 32 load at +20, 33 over at +21, 34 folds at +22, 35 foldMany, 36 far, 37 aside, 38 height, 39 heads, 40 steps, 41 through, 42 rowNow at +23, 43 found at +24, 44 rowMany, 45 foundMany, 46 foundTrim, 47 fars at +25, 48 minutes at +26, 49 trimTry at +27, 50 trimBest at +28, 51 minuteMany, 52 eveningSet, 53 eveningBest, 54 hasEvening, 55 teach at +29, 56 teachLong at +30, 57 turnOf at +31, 58 teachMany, 59 hasImage, 60 foldsThen, 61 teachThen, 62 foldsKept at +32, 63 teachKept at +33, 64 teachLongKept at +34, 65 statusThen at +35 -/
def o11 (q : Nat) (F : Nat → Int) : pm_E := .inr (11, [.ref (q + 1), .int (zI (F 1)), .ref (q + 2), .ref (q + 3), .ref (q + 4), .ref (q + 5), .ref (q + 6), .ref (q + 7), .ref (q + 8), .ref (q + 9), .ref (q + 10), .int (zI (F 11)), .int (zI (F 12)), .int (zI (F 13)), .int (zI (F 14)), .int (zI (F 15)), .int (zI (F 16)), .int (zI (F 17)), .int (zI (F 18)), .int (zI (F 19)), .int (zI (F 20)), .int (zI (F 21)), .int (zI (F 22)), .ref (q + 11), .ref (q + 12), .ref (q + 13), .ref (q + 14), .ref (q + 15), .ref (q + 16), .ref (q + 17), .ref (q + 18), .ref (q + 19), .ref (q + 20), .ref (q + 21), .ref (q + 22), .int (zI (F 35)), .int (zI (F 36)), .int (zI (F 37)), .int (zI (F 38)), .int (zI (F 39)), .int (zI (F 40)), .int (zI (F 41)), .ref (q + 23), .ref (q + 24), .int (zI (F 44)), .int (zI (F 45)), .int (zI (F 46)), .ref (q + 25), .ref (q + 26), .ref (q + 27), .ref (q + 28), .int (zI (F 51)), .int (zI (F 52)), .int (zI (F 53)), .int (zI (F 54)), .ref (q + 29), .ref (q + 30), .ref (q + 31), .int (zI (F 58)), .int (zI (F 59)), .int (zI (F 60)), .int (zI (F 61)), .ref (q + 32), .ref (q + 33), .ref (q + 34), .ref (q + 35)])
theorem gf_11_0 {q : Nat} {F : Nat → Int} {K : Value → Prop} : px_gf (some (o11 q F)) 11 0 K = K (.ref (q + 1)) := rfl
theorem gf_11_1 {q : Nat} {F : Nat → Int} {K : Value → Prop} : px_gf (some (o11 q F)) 11 1 K = K (.int (zI (F 1))) := rfl
theorem pf_11_1 {q : Nat} {x : Int} {F : Nat → Int} {K : pm_E → Prop} : px_pf (some (o11 q F)) ps_okI 11 1 (.int (zI x)) K = K (o11 q (upz F 1 x)) := rfl
theorem gf_11_2 {q : Nat} {F : Nat → Int} {K : Value → Prop} : px_gf (some (o11 q F)) 11 2 K = K (.ref (q + 2)) := rfl
theorem gf_11_3 {q : Nat} {F : Nat → Int} {K : Value → Prop} : px_gf (some (o11 q F)) 11 3 K = K (.ref (q + 3)) := rfl
theorem gf_11_4 {q : Nat} {F : Nat → Int} {K : Value → Prop} : px_gf (some (o11 q F)) 11 4 K = K (.ref (q + 4)) := rfl
theorem gf_11_5 {q : Nat} {F : Nat → Int} {K : Value → Prop} : px_gf (some (o11 q F)) 11 5 K = K (.ref (q + 5)) := rfl
theorem gf_11_6 {q : Nat} {F : Nat → Int} {K : Value → Prop} : px_gf (some (o11 q F)) 11 6 K = K (.ref (q + 6)) := rfl
theorem gf_11_7 {q : Nat} {F : Nat → Int} {K : Value → Prop} : px_gf (some (o11 q F)) 11 7 K = K (.ref (q + 7)) := rfl
theorem gf_11_8 {q : Nat} {F : Nat → Int} {K : Value → Prop} : px_gf (some (o11 q F)) 11 8 K = K (.ref (q + 8)) := rfl
theorem gf_11_9 {q : Nat} {F : Nat → Int} {K : Value → Prop} : px_gf (some (o11 q F)) 11 9 K = K (.ref (q + 9)) := rfl
theorem gf_11_10 {q : Nat} {F : Nat → Int} {K : Value → Prop} : px_gf (some (o11 q F)) 11 10 K = K (.ref (q + 10)) := rfl
theorem gf_11_11 {q : Nat} {F : Nat → Int} {K : Value → Prop} : px_gf (some (o11 q F)) 11 11 K = K (.int (zI (F 11))) := rfl
theorem pf_11_11 {q : Nat} {x : Int} {F : Nat → Int} {K : pm_E → Prop} : px_pf (some (o11 q F)) ps_okI 11 11 (.int (zI x)) K = K (o11 q (upz F 11 x)) := rfl
theorem gf_11_12 {q : Nat} {F : Nat → Int} {K : Value → Prop} : px_gf (some (o11 q F)) 11 12 K = K (.int (zI (F 12))) := rfl
theorem pf_11_12 {q : Nat} {x : Int} {F : Nat → Int} {K : pm_E → Prop} : px_pf (some (o11 q F)) ps_okI 11 12 (.int (zI x)) K = K (o11 q (upz F 12 x)) := rfl
theorem gf_11_13 {q : Nat} {F : Nat → Int} {K : Value → Prop} : px_gf (some (o11 q F)) 11 13 K = K (.int (zI (F 13))) := rfl
theorem pf_11_13 {q : Nat} {x : Int} {F : Nat → Int} {K : pm_E → Prop} : px_pf (some (o11 q F)) ps_okI 11 13 (.int (zI x)) K = K (o11 q (upz F 13 x)) := rfl
theorem gf_11_14 {q : Nat} {F : Nat → Int} {K : Value → Prop} : px_gf (some (o11 q F)) 11 14 K = K (.int (zI (F 14))) := rfl
theorem pf_11_14 {q : Nat} {x : Int} {F : Nat → Int} {K : pm_E → Prop} : px_pf (some (o11 q F)) ps_okI 11 14 (.int (zI x)) K = K (o11 q (upz F 14 x)) := rfl
theorem gf_11_15 {q : Nat} {F : Nat → Int} {K : Value → Prop} : px_gf (some (o11 q F)) 11 15 K = K (.int (zI (F 15))) := rfl
theorem pf_11_15 {q : Nat} {x : Int} {F : Nat → Int} {K : pm_E → Prop} : px_pf (some (o11 q F)) ps_okI 11 15 (.int (zI x)) K = K (o11 q (upz F 15 x)) := rfl
theorem gf_11_16 {q : Nat} {F : Nat → Int} {K : Value → Prop} : px_gf (some (o11 q F)) 11 16 K = K (.int (zI (F 16))) := rfl
theorem pf_11_16 {q : Nat} {x : Int} {F : Nat → Int} {K : pm_E → Prop} : px_pf (some (o11 q F)) ps_okI 11 16 (.int (zI x)) K = K (o11 q (upz F 16 x)) := rfl
theorem gf_11_17 {q : Nat} {F : Nat → Int} {K : Value → Prop} : px_gf (some (o11 q F)) 11 17 K = K (.int (zI (F 17))) := rfl
theorem pf_11_17 {q : Nat} {x : Int} {F : Nat → Int} {K : pm_E → Prop} : px_pf (some (o11 q F)) ps_okI 11 17 (.int (zI x)) K = K (o11 q (upz F 17 x)) := rfl
theorem gf_11_18 {q : Nat} {F : Nat → Int} {K : Value → Prop} : px_gf (some (o11 q F)) 11 18 K = K (.int (zI (F 18))) := rfl
theorem pf_11_18 {q : Nat} {x : Int} {F : Nat → Int} {K : pm_E → Prop} : px_pf (some (o11 q F)) ps_okI 11 18 (.int (zI x)) K = K (o11 q (upz F 18 x)) := rfl
theorem gf_11_19 {q : Nat} {F : Nat → Int} {K : Value → Prop} : px_gf (some (o11 q F)) 11 19 K = K (.int (zI (F 19))) := rfl
theorem pf_11_19 {q : Nat} {x : Int} {F : Nat → Int} {K : pm_E → Prop} : px_pf (some (o11 q F)) ps_okI 11 19 (.int (zI x)) K = K (o11 q (upz F 19 x)) := rfl
theorem gf_11_20 {q : Nat} {F : Nat → Int} {K : Value → Prop} : px_gf (some (o11 q F)) 11 20 K = K (.int (zI (F 20))) := rfl
theorem pf_11_20 {q : Nat} {x : Int} {F : Nat → Int} {K : pm_E → Prop} : px_pf (some (o11 q F)) ps_okI 11 20 (.int (zI x)) K = K (o11 q (upz F 20 x)) := rfl
theorem gf_11_21 {q : Nat} {F : Nat → Int} {K : Value → Prop} : px_gf (some (o11 q F)) 11 21 K = K (.int (zI (F 21))) := rfl
theorem pf_11_21 {q : Nat} {x : Int} {F : Nat → Int} {K : pm_E → Prop} : px_pf (some (o11 q F)) ps_okI 11 21 (.int (zI x)) K = K (o11 q (upz F 21 x)) := rfl
theorem gf_11_22 {q : Nat} {F : Nat → Int} {K : Value → Prop} : px_gf (some (o11 q F)) 11 22 K = K (.int (zI (F 22))) := rfl
theorem pf_11_22 {q : Nat} {x : Int} {F : Nat → Int} {K : pm_E → Prop} : px_pf (some (o11 q F)) ps_okI 11 22 (.int (zI x)) K = K (o11 q (upz F 22 x)) := rfl
theorem gf_11_23 {q : Nat} {F : Nat → Int} {K : Value → Prop} : px_gf (some (o11 q F)) 11 23 K = K (.ref (q + 11)) := rfl
theorem gf_11_24 {q : Nat} {F : Nat → Int} {K : Value → Prop} : px_gf (some (o11 q F)) 11 24 K = K (.ref (q + 12)) := rfl
theorem gf_11_25 {q : Nat} {F : Nat → Int} {K : Value → Prop} : px_gf (some (o11 q F)) 11 25 K = K (.ref (q + 13)) := rfl
theorem gf_11_26 {q : Nat} {F : Nat → Int} {K : Value → Prop} : px_gf (some (o11 q F)) 11 26 K = K (.ref (q + 14)) := rfl
theorem gf_11_27 {q : Nat} {F : Nat → Int} {K : Value → Prop} : px_gf (some (o11 q F)) 11 27 K = K (.ref (q + 15)) := rfl
theorem gf_11_28 {q : Nat} {F : Nat → Int} {K : Value → Prop} : px_gf (some (o11 q F)) 11 28 K = K (.ref (q + 16)) := rfl
theorem gf_11_29 {q : Nat} {F : Nat → Int} {K : Value → Prop} : px_gf (some (o11 q F)) 11 29 K = K (.ref (q + 17)) := rfl
theorem gf_11_30 {q : Nat} {F : Nat → Int} {K : Value → Prop} : px_gf (some (o11 q F)) 11 30 K = K (.ref (q + 18)) := rfl
theorem gf_11_31 {q : Nat} {F : Nat → Int} {K : Value → Prop} : px_gf (some (o11 q F)) 11 31 K = K (.ref (q + 19)) := rfl
theorem gf_11_32 {q : Nat} {F : Nat → Int} {K : Value → Prop} : px_gf (some (o11 q F)) 11 32 K = K (.ref (q + 20)) := rfl
theorem gf_11_33 {q : Nat} {F : Nat → Int} {K : Value → Prop} : px_gf (some (o11 q F)) 11 33 K = K (.ref (q + 21)) := rfl
theorem gf_11_34 {q : Nat} {F : Nat → Int} {K : Value → Prop} : px_gf (some (o11 q F)) 11 34 K = K (.ref (q + 22)) := rfl
theorem gf_11_35 {q : Nat} {F : Nat → Int} {K : Value → Prop} : px_gf (some (o11 q F)) 11 35 K = K (.int (zI (F 35))) := rfl
theorem pf_11_35 {q : Nat} {x : Int} {F : Nat → Int} {K : pm_E → Prop} : px_pf (some (o11 q F)) ps_okI 11 35 (.int (zI x)) K = K (o11 q (upz F 35 x)) := rfl
theorem gf_11_36 {q : Nat} {F : Nat → Int} {K : Value → Prop} : px_gf (some (o11 q F)) 11 36 K = K (.int (zI (F 36))) := rfl
theorem pf_11_36 {q : Nat} {x : Int} {F : Nat → Int} {K : pm_E → Prop} : px_pf (some (o11 q F)) ps_okI 11 36 (.int (zI x)) K = K (o11 q (upz F 36 x)) := rfl
theorem gf_11_37 {q : Nat} {F : Nat → Int} {K : Value → Prop} : px_gf (some (o11 q F)) 11 37 K = K (.int (zI (F 37))) := rfl
theorem pf_11_37 {q : Nat} {x : Int} {F : Nat → Int} {K : pm_E → Prop} : px_pf (some (o11 q F)) ps_okI 11 37 (.int (zI x)) K = K (o11 q (upz F 37 x)) := rfl
theorem gf_11_38 {q : Nat} {F : Nat → Int} {K : Value → Prop} : px_gf (some (o11 q F)) 11 38 K = K (.int (zI (F 38))) := rfl
theorem pf_11_38 {q : Nat} {x : Int} {F : Nat → Int} {K : pm_E → Prop} : px_pf (some (o11 q F)) ps_okI 11 38 (.int (zI x)) K = K (o11 q (upz F 38 x)) := rfl
theorem gf_11_39 {q : Nat} {F : Nat → Int} {K : Value → Prop} : px_gf (some (o11 q F)) 11 39 K = K (.int (zI (F 39))) := rfl
theorem pf_11_39 {q : Nat} {x : Int} {F : Nat → Int} {K : pm_E → Prop} : px_pf (some (o11 q F)) ps_okI 11 39 (.int (zI x)) K = K (o11 q (upz F 39 x)) := rfl
theorem gf_11_40 {q : Nat} {F : Nat → Int} {K : Value → Prop} : px_gf (some (o11 q F)) 11 40 K = K (.int (zI (F 40))) := rfl
theorem pf_11_40 {q : Nat} {x : Int} {F : Nat → Int} {K : pm_E → Prop} : px_pf (some (o11 q F)) ps_okI 11 40 (.int (zI x)) K = K (o11 q (upz F 40 x)) := rfl
theorem gf_11_41 {q : Nat} {F : Nat → Int} {K : Value → Prop} : px_gf (some (o11 q F)) 11 41 K = K (.int (zI (F 41))) := rfl
theorem pf_11_41 {q : Nat} {x : Int} {F : Nat → Int} {K : pm_E → Prop} : px_pf (some (o11 q F)) ps_okI 11 41 (.int (zI x)) K = K (o11 q (upz F 41 x)) := rfl
theorem gf_11_42 {q : Nat} {F : Nat → Int} {K : Value → Prop} : px_gf (some (o11 q F)) 11 42 K = K (.ref (q + 23)) := rfl
theorem gf_11_43 {q : Nat} {F : Nat → Int} {K : Value → Prop} : px_gf (some (o11 q F)) 11 43 K = K (.ref (q + 24)) := rfl
theorem gf_11_44 {q : Nat} {F : Nat → Int} {K : Value → Prop} : px_gf (some (o11 q F)) 11 44 K = K (.int (zI (F 44))) := rfl
theorem pf_11_44 {q : Nat} {x : Int} {F : Nat → Int} {K : pm_E → Prop} : px_pf (some (o11 q F)) ps_okI 11 44 (.int (zI x)) K = K (o11 q (upz F 44 x)) := rfl
theorem gf_11_45 {q : Nat} {F : Nat → Int} {K : Value → Prop} : px_gf (some (o11 q F)) 11 45 K = K (.int (zI (F 45))) := rfl
theorem pf_11_45 {q : Nat} {x : Int} {F : Nat → Int} {K : pm_E → Prop} : px_pf (some (o11 q F)) ps_okI 11 45 (.int (zI x)) K = K (o11 q (upz F 45 x)) := rfl
theorem gf_11_46 {q : Nat} {F : Nat → Int} {K : Value → Prop} : px_gf (some (o11 q F)) 11 46 K = K (.int (zI (F 46))) := rfl
theorem pf_11_46 {q : Nat} {x : Int} {F : Nat → Int} {K : pm_E → Prop} : px_pf (some (o11 q F)) ps_okI 11 46 (.int (zI x)) K = K (o11 q (upz F 46 x)) := rfl
theorem gf_11_47 {q : Nat} {F : Nat → Int} {K : Value → Prop} : px_gf (some (o11 q F)) 11 47 K = K (.ref (q + 25)) := rfl
theorem gf_11_48 {q : Nat} {F : Nat → Int} {K : Value → Prop} : px_gf (some (o11 q F)) 11 48 K = K (.ref (q + 26)) := rfl
theorem gf_11_49 {q : Nat} {F : Nat → Int} {K : Value → Prop} : px_gf (some (o11 q F)) 11 49 K = K (.ref (q + 27)) := rfl
theorem gf_11_50 {q : Nat} {F : Nat → Int} {K : Value → Prop} : px_gf (some (o11 q F)) 11 50 K = K (.ref (q + 28)) := rfl
theorem gf_11_51 {q : Nat} {F : Nat → Int} {K : Value → Prop} : px_gf (some (o11 q F)) 11 51 K = K (.int (zI (F 51))) := rfl
theorem pf_11_51 {q : Nat} {x : Int} {F : Nat → Int} {K : pm_E → Prop} : px_pf (some (o11 q F)) ps_okI 11 51 (.int (zI x)) K = K (o11 q (upz F 51 x)) := rfl
theorem gf_11_52 {q : Nat} {F : Nat → Int} {K : Value → Prop} : px_gf (some (o11 q F)) 11 52 K = K (.int (zI (F 52))) := rfl
theorem pf_11_52 {q : Nat} {x : Int} {F : Nat → Int} {K : pm_E → Prop} : px_pf (some (o11 q F)) ps_okI 11 52 (.int (zI x)) K = K (o11 q (upz F 52 x)) := rfl
theorem gf_11_53 {q : Nat} {F : Nat → Int} {K : Value → Prop} : px_gf (some (o11 q F)) 11 53 K = K (.int (zI (F 53))) := rfl
theorem pf_11_53 {q : Nat} {x : Int} {F : Nat → Int} {K : pm_E → Prop} : px_pf (some (o11 q F)) ps_okI 11 53 (.int (zI x)) K = K (o11 q (upz F 53 x)) := rfl
theorem gf_11_54 {q : Nat} {F : Nat → Int} {K : Value → Prop} : px_gf (some (o11 q F)) 11 54 K = K (.int (zI (F 54))) := rfl
theorem pf_11_54 {q : Nat} {x : Int} {F : Nat → Int} {K : pm_E → Prop} (hx : x = 0 ∨ x = 1) : px_pf (some (o11 q F)) ps_okZ 11 54 (.int (zI x)) K = K (o11 q (upz F 54 x)) := by rcases hx with rfl | rfl <;> rfl
theorem gf_11_55 {q : Nat} {F : Nat → Int} {K : Value → Prop} : px_gf (some (o11 q F)) 11 55 K = K (.ref (q + 29)) := rfl
theorem gf_11_56 {q : Nat} {F : Nat → Int} {K : Value → Prop} : px_gf (some (o11 q F)) 11 56 K = K (.ref (q + 30)) := rfl
theorem gf_11_57 {q : Nat} {F : Nat → Int} {K : Value → Prop} : px_gf (some (o11 q F)) 11 57 K = K (.ref (q + 31)) := rfl
theorem gf_11_58 {q : Nat} {F : Nat → Int} {K : Value → Prop} : px_gf (some (o11 q F)) 11 58 K = K (.int (zI (F 58))) := rfl
theorem pf_11_58 {q : Nat} {x : Int} {F : Nat → Int} {K : pm_E → Prop} : px_pf (some (o11 q F)) ps_okI 11 58 (.int (zI x)) K = K (o11 q (upz F 58 x)) := rfl
theorem gf_11_59 {q : Nat} {F : Nat → Int} {K : Value → Prop} : px_gf (some (o11 q F)) 11 59 K = K (.int (zI (F 59))) := rfl
theorem pf_11_59 {q : Nat} {x : Int} {F : Nat → Int} {K : pm_E → Prop} (hx : x = 0 ∨ x = 1) : px_pf (some (o11 q F)) ps_okZ 11 59 (.int (zI x)) K = K (o11 q (upz F 59 x)) := by rcases hx with rfl | rfl <;> rfl
theorem gf_11_60 {q : Nat} {F : Nat → Int} {K : Value → Prop} : px_gf (some (o11 q F)) 11 60 K = K (.int (zI (F 60))) := rfl
theorem pf_11_60 {q : Nat} {x : Int} {F : Nat → Int} {K : pm_E → Prop} : px_pf (some (o11 q F)) ps_okI 11 60 (.int (zI x)) K = K (o11 q (upz F 60 x)) := rfl
theorem gf_11_61 {q : Nat} {F : Nat → Int} {K : Value → Prop} : px_gf (some (o11 q F)) 11 61 K = K (.int (zI (F 61))) := rfl
theorem pf_11_61 {q : Nat} {x : Int} {F : Nat → Int} {K : pm_E → Prop} : px_pf (some (o11 q F)) ps_okI 11 61 (.int (zI x)) K = K (o11 q (upz F 61 x)) := rfl
theorem gf_11_62 {q : Nat} {F : Nat → Int} {K : Value → Prop} : px_gf (some (o11 q F)) 11 62 K = K (.ref (q + 32)) := rfl
theorem gf_11_63 {q : Nat} {F : Nat → Int} {K : Value → Prop} : px_gf (some (o11 q F)) 11 63 K = K (.ref (q + 33)) := rfl
theorem gf_11_64 {q : Nat} {F : Nat → Int} {K : Value → Prop} : px_gf (some (o11 q F)) 11 64 K = K (.ref (q + 34)) := rfl
theorem gf_11_65 {q : Nat} {F : Nat → Int} {K : Value → Prop} : px_gf (some (o11 q F)) 11 65 K = K (.ref (q + 35)) := rfl
