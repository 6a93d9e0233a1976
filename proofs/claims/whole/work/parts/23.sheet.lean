/-! A SHEET: its cell o7 q F (0 width, 1 length, 2 columns, 3 lines, 4 folds), its arrays B 1 backUp, 2 column, 3 line, 4 level, 5 creaseBeside, 6 creaseBelow, 7 weight, 8 moving -/
def sh (h : pm_H) (q : Nat) (F : Nat → Int) (B : Nat → Nat → Int) : Prop :=
  h.1 q = some (o7 q F) ∧ h.1 (q + 1) = some (aI 0 64 (B 1)) ∧ h.1 (q + 2) = some (aI 0 64 (B 2)) ∧ h.1 (q + 3) = some (aI 0 64 (B 3)) ∧ h.1 (q + 4) = some (aI 0 64 (B 4)) ∧
  h.1 (q + 5) = some (aI 0 64 (B 5)) ∧ h.1 (q + 6) = some (aI 0 64 (B 6)) ∧ h.1 (q + 7) = some (aI 0 64 (B 7)) ∧ h.1 (q + 8) = some (aI 1 64 (B 8))
def upB (B : Nat → Nat → Int) (k : Nat) (w : Nat → Int) : Nat → Nat → Int := fun j => if j = k then w else B j
theorem upB_eq {B : Nat → Nat → Int} {k : Nat} {w : Nat → Int} : upB B k w k = w := if_pos rfl
theorem upB_ne {B : Nat → Nat → Int} {k j : Nat} {w : Nat → Int} (h : j ≠ k) : upB B k w j = B j := if_neg h
theorem sh.put {h : pm_H} {q : Nat} {F : Nat → Int} {B : Nat → Nat → Int} (hs : sh h q F B) (k : Nat) (w : Nat → Int) (hk : 1 ≤ k ∧ k ≤ 7) : sh (pm_put h (q + k) (aI 0 64 w)) q F (upB B k w) := by
  obtain ⟨s0, s1, s2, s3, s4, s5, s6, s7, s8⟩ := hs
  rcases (show k = 1 ∨ k = 2 ∨ k = 3 ∨ k = 4 ∨ k = 5 ∨ k = 6 ∨ k = 7 by omega) with rfl | rfl | rfl | rfl | rfl | rfl | rfl <;>
    (unfold sh
     simp (disch := first | omega | decide) only [pm_put_ne, pm_put_eq, upB_eq, upB_ne, s0, s1, s2, s3, s4, s5, s6, s7, s8, and_self])
theorem sh.put8 {h : pm_H} {q : Nat} {F : Nat → Int} {B : Nat → Nat → Int} (hs : sh h q F B) (w : Nat → Int) : sh (pm_put h (q + 8) (aI 1 64 w)) q F (upB B 8 w) := by
  obtain ⟨s0, s1, s2, s3, s4, s5, s6, s7, s8⟩ := hs
  unfold sh
  simp (disch := first | omega | decide) only [pm_put_ne, pm_put_eq, upB_eq, upB_ne, s0, s1, s2, s3, s4, s5, s6, s7, s8, and_self]
theorem sh.put0 {h : pm_H} {q : Nat} {F : Nat → Int} {B : Nat → Nat → Int} (hs : sh h q F B) (G : Nat → Int) : sh (pm_put h q (o7 q G)) q G B := by
  obtain ⟨s0, s1, s2, s3, s4, s5, s6, s7, s8⟩ := hs
  unfold sh
  simp (disch := first | omega | decide) only [pm_put_ne, pm_put_eq, s0, s1, s2, s3, s4, s5, s6, s7, s8, and_self]
/-- what lies elsewhere is not touched -/
theorem sh.out {h : pm_H} {q a : Nat} {F : Nat → Int} {B : Nat → Nat → Int} (hs : sh h q F B) (e : pm_E) (ha : a < q ∨ q + 9 ≤ a) : sh (pm_put h a e) q F B := by
  obtain ⟨s0, s1, s2, s3, s4, s5, s6, s7, s8⟩ := hs
  unfold sh
  simp (disch := first | omega | decide) only [pm_put_ne, s0, s1, s2, s3, s4, s5, s6, s7, s8, and_self]
/-- sizes as they are: n cells -/
def sh_ok (F : Nat → Int) (n : Nat) : Prop := (1 ≤ F 0 ∧ F 0 ≤ 8) ∧ (1 ≤ F 1 ∧ F 1 ≤ 8) ∧ (1 ≤ F 2 ∧ F 2 ≤ 8) ∧ (1 ≤ F 3 ∧ F 3 ≤ 8) ∧ (n : Int) = F 0 * F 1 ∧ 1 ≤ n ∧ n ≤ 64
theorem px_ofQ {d tm : Nat} {ls : List Value} {h h' : pm_H} {o : pm_O} (k : ∀ Q : pm_O → pm_H → Prop, Q o h' → px_Ev d tm 0 ls [] h Q) : px_R d tm ls h o h' := px_of (k _ ⟨rfl, rfl⟩)
theorem c_cells {h : pm_H} {q n : Nat} {F : Nat → Int} {B : Nat → Nat → Int} (hs : sh h q F B) (ho : sh_ok F n) : px_R 0 62 [.ref q] h (.inl (some (.int (zI n)))) h := by
  obtain ⟨ho0, ho1, ho2, ho3, hn, hn1, hn2⟩ := ho
  refine px_ofQ fun Q hQ => ?_
  simp (disch := omega) only [el_X7_cells_0, el_X7_cells_1, el_X7_cells_4, el_X7_cells_5, el_X7_cells_8, el_X7_cells_9, hs.1, gf_7_0, gf_7_1]
  rw [el_X7_cells_11 (by omega) rfl, el_X7_cells_14, if_neg (by omega), ← hn]
  exact hQ
theorem c_hasPlace {h : pm_H} {q : Nat} {F : Nat → Int} {B : Nat → Nat → Int} {x y : Int} (hs : sh h q F B) (h2 : 1 ≤ F 2 ∧ F 2 ≤ 8) (h3 : 1 ≤ F 3 ∧ F 3 ≤ 8) (hx : -2147483648 ≤ x ∧ x ≤ 2147483647) (hy : -2147483648 ≤ y ∧ y ≤ 2147483647) :
    px_R 0 69 [.ref q, .int (zI x), .int (zI y)] h (.inl (some (.int (zI (if 0 ≤ x ∧ x < F 2 ∧ 0 ≤ y ∧ y < F 3 then 1 else 0))))) h := by
  refine px_ofQ fun Q hQ => ?_
  simp (disch := omega) only [el_X7_hasPlace_0, el_X7_hasPlace_1, el_X7_hasPlace_4, el_X7_hasPlace_5, el_X7_hasPlace_6, el_X7_hasPlace_9, el_X7_hasPlace_12, el_X7_hasPlace_13, el_X7_hasPlace_15, el_X7_hasPlace_18, el_X7_hasPlace_19, el_X7_hasPlace_22, el_X7_hasPlace_23, el_X7_hasPlace_24, el_X7_hasPlace_27, el_X7_hasPlace_30, el_X7_hasPlace_31, el_X7_hasPlace_33, el_X7_hasPlace_36, el_X7_hasPlace_37, el_X7_hasPlace_40, el_X7_hasPlace_41, hs.1, gf_7_2, gf_7_3]
  repeat' split
  all_goals first
    | (rw [if_pos (by omega)] at hQ; exact hQ)
    | (rw [if_neg (by omega)] at hQ; exact hQ)
theorem c_weightAt {h : pm_H} {q : Nat} {F : Nat → Int} {B : Nat → Nat → Int} {x y : Int} (hs : sh h q F B) (hx : -2147483648 ≤ x ∧ x ≤ 2147483647) (hy : -2147483648 ≤ y ∧ y ≤ 2147483647) :
    px_R 0 70 [.ref q, .int (zI x), .int (zI y), .retAddr 0] h (.inl (some (.int (zI (if (0 ≤ x ∧ x < 8) ∧ 0 ≤ y ∧ y < 8 then B 7 (8 * y + x).toNat else 0))))) h := by
  obtain ⟨s0, s1, s2, s3, s4, s5, s6, s7, s8⟩ := hs
  refine px_ofQ fun Q hQ => ?_
  simp (disch := omega) only [el_X7_weightAt_0, el_X7_weightAt_1, el_X7_weightAt_4, el_X7_weightAt_5, el_X7_weightAt_7, el_X7_weightAt_10, el_X7_weightAt_11, el_X7_weightAt_14, el_X7_weightAt_15, el_X7_weightAt_17, el_X7_weightAt_20, el_X7_weightAt_21, el_X7_weightAt_24, el_X7_weightAt_25, el_X7_weightAt_26, el_X7_weightAt_27, el_X7_weightAt_30, el_X7_weightAt_31, el_X7_weightAt_34, el_X7_weightAt_36, el_X7_weightAt_37, el_X7_weightAt_38, el_X7_weightAt_39, el_X7_weightAt_40, el_X7_weightAt_41, el_X7_weightAt_44, el_X7_weightAt_45, s0, s7, gf_7_11, px_al_aI, ↓reduceIte, Nat.reduceEqDiff, eq_self, Int.reduceEq, Int.reduceLT, Int.reduceLE, Int.reduceNe, Int.reduceNeg, Int.reduceToNat, ne_eq, not_true_eq_false, not_false_eq_true]
  repeat' split
  all_goals first
    | (rw [if_pos (by omega)] at hQ; exact hQ)
    | (rw [if_neg (by omega)] at hQ; exact hQ)
    | omega
/-- how many cells of the first c lie at each place; z: before -/
def wgt (z X Y : Nat → Int) : Nat → (Nat → Int)
  | 0 => z
  | c + 1 => upz (wgt z X Y c) (8 * Y c + X c).toNat (wgt z X Y c (8 * Y c + X c).toNat + 1)
def zro (z : Nat → Int) : Nat → Int := fun j => if j < 64 then 0 else z j
theorem c_weigh {h : pm_H} {q n : Nat} {F : Nat → Int} {B : Nat → Nat → Int} (hs : sh h q F B) (ho : sh_ok F n) (hp : ∀ c, c < n → (0 ≤ B 2 c ∧ B 2 c < F 2) ∧ 0 ≤ B 3 c ∧ B 3 c < F 3) :
    px_R 1 68 [.ref q, .retAddr 0, .retAddr 0] h (.inl none) (pm_put h (q + 7) (aI 0 64 (wgt (zro (B 7)) (B 2) (B 3) n))) := by
  obtain ⟨s0, s1, s2, s3, s4, s5, s6, s7, s8⟩ := id hs
  obtain ⟨ho0, ho1, ho2, ho3, hn, hn1, hn2⟩ := id ho
  refine px_ofQ fun Q hQ => ?_
  have loop : ∀ k i : Nat, i + k = n → (∀ v, ∃ w, wgt (zro (B 7)) (B 2) (B 3) i v = w) →
      px_Ev 1 68 15 [.ref q, .int (zI n), .int (zI i)] [] (pm_put h (q + 7) (aI 0 64 (wgt (zro (B 7)) (B 2) (B 3) i))) Q := by
    intro k
    induction k with
    | zero =>
      intro i hi _
      have e : i = n := by omega
      subst e
      simp (disch := omega) only [el_X7_weigh_15, el_X7_weigh_16, el_X7_weigh_17, el_X7_weigh_70]
      rw [if_pos (Int.le_refl _)]
      exact hQ
    | succ k ih =>
      intro i hi _
      have hi1 : i < n := by omega
      obtain ⟨hx, hy⟩ := hp i hi1
      have e0 : (i : Int).toNat = i := by omega
      simp (disch := omega) only [el_X7_weigh_15, el_X7_weigh_16, el_X7_weigh_17]
      rw [if_neg (by omega)]
      simp (disch := omega) only [el_X7_weigh_20, el_X7_weigh_21, el_X7_weigh_22, el_X7_weigh_25, el_X7_weigh_26, el_X7_weigh_27, el_X7_weigh_28, el_X7_weigh_31, el_X7_weigh_32, pm_put_ne, s0, s2, s3, gf_7_6, gf_7_7, px_al_aI, e0]
      have hs2 := hs.put 7 (wgt (zro (B 7)) (B 2) (B 3) i) (by decide)
      rw [el_X7_weigh_33 (c_hasPlace (x := B 2 i) (y := B 3 i) hs2 ho2 ho3 (by omega) (by omega)) (by decide) hs2.1 rfl, if_pos (by omega)]
      simp (disch := omega) only [Option.toList, List.cons_append, List.nil_append, el_X7_weigh_36, el_X7_weigh_39, el_X7_weigh_40, el_X7_weigh_43, el_X7_weigh_45, el_X7_weigh_46, el_X7_weigh_49, el_X7_weigh_50, el_X7_weigh_51, el_X7_weigh_52, el_X7_weigh_53, el_X7_weigh_56, el_X7_weigh_57, el_X7_weigh_58, el_X7_weigh_59, el_X7_weigh_60, el_X7_weigh_61, el_X7_weigh_62, el_X7_weigh_63, el_X7_weigh_64, el_X7_weigh_67, pm_put_ne, pm_put_eq, pm_put_put, s0, s2, s3, gf_7_6, gf_7_7, gf_7_11, px_al_aI, px_as_aI, e0, ↓reduceIte, Nat.reduceEqDiff, eq_self, Int.reduceEq, Int.reduceLT, Int.reduceLE, Int.reduceNe, Int.reduceNeg, Int.reduceToNat, ne_eq, not_true_eq_false, not_false_eq_true]
      have := ih (i + 1) (by omega) (fun v => ⟨_, rfl⟩)
      rw [show ((i : Int) + 1) = ((i + 1 : Nat) : Int) by omega]
      exact this
  simp (disch := omega) only [el_X7_weigh_0, el_X7_weigh_1, el_X7_weigh_4, s0, gf_7_11]
  rw [el_X7_weigh_5 (c_fill s7 (by decide)) (by decide) rfl]
  have hs2 := hs.put 7 (zro (B 7)) (by decide)
  have e7 : (fun j => if j < 64 then (0 : Int) else B 7 j) = zro (B 7) := rfl
  rw [e7]
  simp (disch := omega) only [Option.toList, List.cons_append, List.nil_append, el_X7_weigh_8]
  rw [el_X7_weigh_9 (c_cells hs2 ho) (by decide) hs2.1 rfl]
  simp (disch := omega) only [Option.toList, List.cons_append, List.nil_append, el_X7_weigh_12, el_X7_weigh_13, el_X7_weigh_14]
  exact loop n 0 (by omega) (fun v => ⟨_, rfl⟩)
theorem c_canTurn {h : pm_H} {q : Nat} {F : Nat → Int} {B : Nat → Nat → Int} {sd m : Int} (hs : sh h q F B) (h2 : 1 ≤ F 2 ∧ F 2 ≤ 8) (h3 : 1 ≤ F 3 ∧ F 3 ≤ 8) (hd : 0 ≤ sd ∧ sd ≤ 3) (hm : -2147483648 ≤ m ∧ m ≤ 2147483647) :
    px_R 0 60 [.ref q, .int (zI sd), .int (zI m), .retAddr 0] h (.inl (some (.int (zI (if 1 ≤ m ∧ 2 * m ≤ (if sd < 2 then F 2 else F 3) then 1 else 0))))) h := by
  refine px_ofQ fun Q hQ => ?_
  have hdiv : ∀ z : Int, 1 ≤ z ∧ z ≤ 8 → zI z / zI 2 = zI (z / 2) := fun z hz => by
    rcases (show z = 1 ∨ z = 2 ∨ z = 3 ∨ z = 4 ∨ z = 5 ∨ z = 6 ∨ z = 7 ∨ z = 8 by omega) with rfl | rfl | rfl | rfl | rfl | rfl | rfl | rfl <;> decide
  have h20 : ¬ zI 2 = 0 := by decide
  simp (disch := first | omega | exact h20) only [el_X7_canTurn_0, el_X7_canTurn_1, el_X7_canTurn_4, el_X7_canTurn_5, el_X7_canTurn_6, el_X7_canTurn_9, el_X7_canTurn_10, el_X7_canTurn_13, el_X7_canTurn_16, el_X7_canTurn_17, el_X7_canTurn_20, el_X7_canTurn_21, el_X7_canTurn_22, el_X7_canTurn_23, el_X7_canTurn_26, el_X7_canTurn_27, el_X7_canTurn_28, el_X7_canTurn_29, el_X7_canTurn_30, el_X7_canTurn_33, el_X7_canTurn_34, el_X7_canTurn_37, el_X7_canTurn_38, hs.1, gf_7_2, gf_7_3, hdiv _ h2, hdiv _ h3, ↓reduceIte, Nat.reduceEqDiff, eq_self, Int.reduceEq, Int.reduceLT, Int.reduceLE, Int.reduceNe, Int.reduceNeg, Int.reduceToNat, ne_eq, not_true_eq_false, not_false_eq_true]
  repeat' split
  all_goals first
    | (rw [if_pos (by omega)] at hQ; exact hQ)
    | (rw [if_neg (by omega)] at hQ; exact hQ)
    | omega
