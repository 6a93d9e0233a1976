/-! A SHEET, 5: cellAt, creaseOf, countCreases, hasWeightsOf -/
def cAt (X Y L : Nat → Int) (x y i : Int) : Nat → Nat → Int
  | 0, _ => -1
  | t + 1, c => if X c = x ∧ Y c = y ∧ L c = i then c else cAt X Y L x y i t (c + 1)
theorem c_cellAt {h : pm_H} {q n : Nat} {F : Nat → Int} {B : Nat → Nat → Int} {x y i : Int} (hs : sh h q F B) (ho : sh_ok F n) (hx : -1000 ≤ x ∧ x ≤ 1000) (hy : -1000 ≤ y ∧ y ≤ 1000) (hi : -1000 ≤ i ∧ i ≤ 1000) (hp : ∀ c, c < n → (-1000 ≤ B 2 c ∧ B 2 c ≤ 1000) ∧ (-1000 ≤ B 3 c ∧ B 3 c ≤ 1000) ∧ -1000 ≤ B 4 c ∧ B 4 c ≤ 1000) :
    px_R 1 71 [.ref q, .int (zI x), .int (zI y), .int (zI i), .retAddr 0, .retAddr 0] h (.inl (some (.int (zI (cAt (B 2) (B 3) (B 4) x y i n 0))))) h := by
  obtain ⟨s0, s1, s2, s3, s4, s5, s6, s7, s8⟩ := id hs
  obtain ⟨ho0, ho1, ho2, ho3, hn, hn1, hn2⟩ := id ho
  refine px_ofQ fun Q hQ => ?_
  have loop : ∀ t c : Nat, c + t = n → Q (.inl (some (.int (zI (cAt (B 2) (B 3) (B 4) x y i t c))))) h →
      px_Ev 1 71 9 [.ref q, .int (zI x), .int (zI y), .int (zI i), .int (zI n), .int (zI c)] [] h Q := by
    intro t
    induction t with
    | zero =>
      intro c hc k
      have e : c = n := by omega
      subst e
      simp (disch := omega) only [el_X7_cellAt_9, el_X7_cellAt_11, el_X7_cellAt_13, el_X7_cellAt_58, el_X7_cellAt_59]
      rw [if_pos (Int.le_refl _)]
      exact k
    | succ t ih =>
      intro c hc k
      have hpc := hp c (by omega)
      have e0 : (c : Int).toNat = c := by omega
      unfold cAt at k
      have key : ¬ (B 2 c = x ∧ B 3 c = y ∧ B 4 c = i) → px_Ev 1 71 9 [.ref q, .int (zI x), .int (zI y), .int (zI i), .int (zI n), .int (zI ((c : Int) + 1))] [] h Q := by
        intro hne
        rw [if_neg hne] at k
        exact ih (c + 1) (by omega) k
      simp (disch := omega) only [el_X7_cellAt_9, el_X7_cellAt_11, el_X7_cellAt_13]
      rw [if_neg (by omega)]
      simp (disch := omega) only [el_X7_cellAt_16, el_X7_cellAt_17, el_X7_cellAt_20, el_X7_cellAt_22, el_X7_cellAt_23, el_X7_cellAt_24, el_X7_cellAt_27, el_X7_cellAt_28, el_X7_cellAt_31, el_X7_cellAt_33, el_X7_cellAt_34, el_X7_cellAt_35, el_X7_cellAt_38, el_X7_cellAt_39, el_X7_cellAt_42, el_X7_cellAt_44, el_X7_cellAt_45, el_X7_cellAt_46, el_X7_cellAt_49, el_X7_cellAt_51, el_X7_cellAt_52, el_X7_cellAt_55, s0, s2, s3, s4, gf_7_6, gf_7_7, gf_7_8, px_al_aI, e0]
      split
      · exact key (by omega)
      · split
        · exact key (by omega)
        · split
          · exact key (by omega)
          · rw [if_pos (by omega)] at k
            exact k
  simp (disch := omega) only [el_X7_cellAt_0]
  rw [el_X7_cellAt_1 (c_cells hs ho) (by decide) s0 rfl]
  simp (disch := omega) only [Option.toList, List.cons_append, List.nil_append, el_X7_cellAt_4, el_X7_cellAt_6, el_X7_cellAt_7]
  exact loop n 0 (by omega) hQ
theorem c_creaseOf {h : pm_H} {q : Nat} {F : Nat → Int} {B : Nat → Nat → Int} {x y dn : Int} (hs : sh h q F B) (hr : -2147483648 ≤ F 0 * y + x ∧ F 0 * y + x ≤ 2147483647) (hd : dn = 0 ∨ dn = 1) :
    px_R 0 72 [.ref q, .int (zI x), .int (zI y), .int (zI dn), .retAddr 0] h (.inl (some (.int (zI (if 0 ≤ F 0 * y + x ∧ F 0 * y + x < 64 then (if dn = 1 then B 6 (F 0 * y + x).toNat else B 5 (F 0 * y + x).toNat) else 0))))) h := by
  obtain ⟨s0, s1, s2, s3, s4, s5, s6, s7, s8⟩ := id hs
  refine px_ofQ fun Q hQ => ?_
  simp (disch := omega) only [el_X7_creaseOf_0, el_X7_creaseOf_1, el_X7_creaseOf_4, el_X7_creaseOf_5, el_X7_creaseOf_6, el_X7_creaseOf_7, el_X7_creaseOf_8, el_X7_creaseOf_10, el_X7_creaseOf_12, s0, gf_7_0]
  by_cases h1 : F 0 * y + x < 0
  · rw [if_neg (by omega)] at hQ
    rw [if_pos h1]
    simp (disch := omega) only [el_X7_creaseOf_22, el_X7_creaseOf_23]
    exact hQ
  · rw [if_neg h1]
    simp (disch := omega) only [el_X7_creaseOf_15, el_X7_creaseOf_17, el_X7_creaseOf_19]
    by_cases h2 : F 0 * y + x < 64
    · rw [if_pos ⟨by omega, h2⟩] at hQ
      rw [if_pos h2]
      rcases hd with rfl | rfl
      · simp (disch := omega) only [el_X7_creaseOf_24, el_X7_creaseOf_25, el_X7_creaseOf_28, el_X7_creaseOf_29, el_X7_creaseOf_32, el_X7_creaseOf_34, el_X7_creaseOf_35, el_X7_creaseOf_38, el_X7_creaseOf_39, el_X7_creaseOf_42, el_X7_creaseOf_44, el_X7_creaseOf_45, s0, s5, s6, gf_7_9, gf_7_10, px_al_aI, ↓reduceIte, Nat.reduceEqDiff, eq_self, Int.reduceEq, Int.reduceLT, Int.reduceLE, Int.reduceNe, Int.reduceNeg, Int.reduceToNat, ne_eq, not_true_eq_false, not_false_eq_true]
        exact hQ
      · simp (disch := omega) only [el_X7_creaseOf_24, el_X7_creaseOf_25, el_X7_creaseOf_28, el_X7_creaseOf_29, el_X7_creaseOf_32, el_X7_creaseOf_34, el_X7_creaseOf_35, el_X7_creaseOf_38, el_X7_creaseOf_39, el_X7_creaseOf_42, el_X7_creaseOf_44, el_X7_creaseOf_45, s0, s5, s6, gf_7_9, gf_7_10, px_al_aI, ↓reduceIte, Nat.reduceEqDiff, eq_self, Int.reduceEq, Int.reduceLT, Int.reduceLE, Int.reduceNe, Int.reduceNeg, Int.reduceToNat, ne_eq, not_true_eq_false, not_false_eq_true]
        exact hQ
    · rw [if_neg (by omega)] at hQ
      rw [if_neg h2]
      simp (disch := omega) only [el_X7_creaseOf_22, el_X7_creaseOf_23]
      exact hQ
def cntC (R D : Nat → Int) : Nat → Int
  | 0 => 0
  | c + 1 => cntC R D c + ((if R c = 0 then 0 else 1) + (if D c = 0 then 0 else 1))
theorem c_countCreases {h : pm_H} {q n : Nat} {F : Nat → Int} {B : Nat → Nat → Int} (hs : sh h q F B) (ho : sh_ok F n) (hp : ∀ c, c < n → (-1000 ≤ B 5 c ∧ B 5 c ≤ 1000) ∧ (-1000 ≤ B 6 c ∧ B 6 c ≤ 1000)) :
    px_R 1 73 [.ref q, .retAddr 0, .retAddr 0, .retAddr 0] h (.inl (some (.int (zI (cntC (B 5) (B 6) n))))) h := by
  obtain ⟨s0, s1, s2, s3, s4, s5, s6, s7, s8⟩ := id hs
  obtain ⟨ho0, ho1, ho2, ho3, hn, hn1, hn2⟩ := id ho
  refine px_ofQ fun Q hQ => ?_
  have loop : ∀ t c : Nat, c + t = n →
      px_Ev 1 73 9 [.ref q, .int (zI (cntC (B 5) (B 6) c)), .int (zI n), .int (zI c)] [] h Q := by
    intro t
    induction t with
    | zero =>
      intro c hc
      have e : c = n := by omega
      subst e
      simp (disch := omega) only [el_X7_countCreases_9, el_X7_countCreases_10, el_X7_countCreases_11, el_X7_countCreases_52, el_X7_countCreases_53]
      rw [if_pos (Int.le_refl _)]
      exact hQ
    | succ t ih =>
      intro c hc
      have hpc := hp c (by omega)
      have e0 : (c : Int).toNat = c := by omega
      have key : ∀ v, v = cntC (B 5) (B 6) (c + 1) → px_Ev 1 73 9 [.ref q, .int (zI v), .int (zI n), .int (zI ((c : Int) + 1))] [] h Q := by
        intro v hv
        rw [hv]
        exact ih (c + 1) (by omega)
      simp (disch := omega) only [el_X7_countCreases_9, el_X7_countCreases_10, el_X7_countCreases_11]
      rw [if_neg (by omega)]
      simp (disch := omega) only [el_X7_countCreases_14, el_X7_countCreases_15, el_X7_countCreases_16, el_X7_countCreases_19, el_X7_countCreases_20, el_X7_countCreases_21, el_X7_countCreases_24, el_X7_countCreases_25, el_X7_countCreases_28, el_X7_countCreases_29, el_X7_countCreases_30, el_X7_countCreases_33, el_X7_countCreases_34, el_X7_countCreases_35, el_X7_countCreases_38, el_X7_countCreases_39, el_X7_countCreases_42, el_X7_countCreases_43, el_X7_countCreases_44, el_X7_countCreases_45, el_X7_countCreases_46, el_X7_countCreases_49, s0, s5, s6, gf_7_9, gf_7_10, px_al_aI, e0]
      unfold cntC at key
      repeat' split
      all_goals
        refine key _ ?_
        simp only [*, if_true, if_false, ↓reduceIte]
  simp (disch := omega) only [el_X7_countCreases_0, el_X7_countCreases_1, el_X7_countCreases_2]
  rw [el_X7_countCreases_3 (c_cells hs ho) (by decide) s0 rfl]
  simp (disch := omega) only [Option.toList, List.cons_append, List.nil_append, el_X7_countCreases_6, el_X7_countCreases_7, el_X7_countCreases_8]
  exact loop n 0 (by omega)
