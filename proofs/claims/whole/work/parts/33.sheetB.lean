/-! A SHEET, 11: turnOver, where it is refused -/
theorem c_turnOver_no {h : pm_H} {q : Nat} {F : Nat → Int} {B : Nat → Nat → Int} {sd m : Int} (hs : sh h q F B) (h2 : 1 ≤ F 2 ∧ F 2 ≤ 8) (h3 : 1 ≤ F 3 ∧ F 3 ≤ 8) (hd : 0 ≤ sd ∧ sd ≤ 3) (hm : -2147483648 ≤ m ∧ m ≤ 2147483647) (hno : ¬ (1 ≤ m ∧ 2 * m ≤ (if sd < 2 then F 2 else F 3))) :
    px_R 1 61 [.ref q, .int (zI sd), .int (zI m), .retAddr 0, .retAddr 0, .retAddr 0, .retAddr 0] h (.inl (some (.int (zI 0)))) h := by
  refine px_ofQ fun Q hQ => ?_
  have c := c_canTurn hs h2 h3 hd hm
  rw [if_neg hno] at c
  simp (disch := omega) only [el_X7_turnOver_0, el_X7_turnOver_1, el_X7_turnOver_2]
  rw [el_X7_turnOver_3 c (by decide) hs.1 rfl]
  simp (disch := omega) only [Option.toList, List.cons_append, List.nil_append, el_X7_turnOver_6, el_X7_turnOver_9, el_X7_turnOver_10, ↓reduceIte, Nat.reduceEqDiff, eq_self, Int.reduceEq, Int.reduceLT, Int.reduceLE, Int.reduceNe, Int.reduceNeg, Int.reduceToNat, ne_eq, not_true_eq_false, not_false_eq_true]
  exact hQ
