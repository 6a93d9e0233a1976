/-! A SHEET, 2: markMoving, newCrease, numberFrom -/
def mvF (Z : Nat → Int) (edge ff : Int) (z : Nat → Int) (i : Nat) : Nat → Int := fun j => if j < i then (if (Z j < edge ↔ ff = 1) then 1 else 0) else z j
theorem mvF_succ {Z z : Nat → Int} {edge ff v : Int} {i : Nat} (hv : v = if (Z i < edge ↔ ff = 1) then 1 else 0) : upz (mvF Z edge ff z i) i v = mvF Z edge ff z (i + 1) := by
  funext j
  unfold upz mvF
  by_cases h1 : j = i
  · subst h1
    rw [if_pos rfl, if_pos (by omega), hv]
  · rw [if_neg h1]
    by_cases h2 : j < i
    · have h3 : j < i + 1 := by omega
      rw [if_pos h2, if_pos h3]
    · have h3 : ¬ j < i + 1 := by omega
      rw [if_neg h2, if_neg h3]
theorem sh.arr {h : pm_H} {q : Nat} {F : Nat → Int} {B : Nat → Nat → Int} (hs : sh h q F B) (k : Nat) (hk : 1 ≤ k ∧ k ≤ 7) : h.1 (q + k) = some (aI 0 64 (B k)) := by
  obtain ⟨s0, s1, s2, s3, s4, s5, s6, s7, s8⟩ := hs
  rcases (show k = 1 ∨ k = 2 ∨ k = 3 ∨ k = 4 ∨ k = 5 ∨ k = 6 ∨ k = 7 by omega) with rfl | rfl | rfl | rfl | rfl | rfl | rfl <;> assumption
theorem c_markMoving {h : pm_H} {q n k : Nat} {F : Nat → Int} {B : Nat → Nat → Int} {edge ff : Int} (hs : sh h q F B) (ho : sh_ok F n) (hk : k = 2 ∨ k = 3) (hz : ∀ c, c < n → 0 ≤ B k c ∧ B k c < 8) (he : 0 ≤ edge ∧ edge ≤ 8) (hf : ff = 0 ∨ ff = 1) :
    px_R 1 63 [.ref q, .ref (q + k), .int (zI edge), .int (zI ff), .retAddr 0, .retAddr 0] h (.inl none) (pm_put h (q + 8) (aI 1 64 (mvF (B k) edge ff (B 8) n))) := by
  obtain ⟨s0, s1, s2, s3, s4, s5, s6, s7, s8⟩ := id hs
  obtain ⟨ho0, ho1, ho2, ho3, hn, hn1, hn2⟩ := id ho
  have sk := hs.arr k (by omega)
  refine px_ofQ fun Q hQ => ?_
  have loop : ∀ t i : Nat, i + t = n →
      px_Ev 1 63 9 [.ref q, .ref (q + k), .int (zI edge), .int (zI ff), .int (zI n), .int (zI i)] [] (pm_put h (q + 8) (aI 1 64 (mvF (B k) edge ff (B 8) i))) Q := by
    intro t
    induction t with
    | zero =>
      intro i hi
      have e : i = n := by omega
      subst e
      simp (disch := omega) only [el_X7_markMoving_9, el_X7_markMoving_11, el_X7_markMoving_13, el_X7_markMoving_58]
      rw [if_pos (Int.le_refl _)]
      exact hQ
    | succ t ih =>
      intro i hi
      have hi1 : i < n := by omega
      have hzi := hz i hi1
      have e0 : (i : Int).toNat = i := by omega
      have key : ∀ v, v = (if (B k i < edge ↔ ff = 1) then (1 : Int) else 0) → px_Ev 1 63 9 [.ref q, .ref (q + k), .int (zI edge), .int (zI ff), .int (zI n), .int (zI ((i : Int) + 1))] [] (pm_put h (q + 8) (aI 1 64 (upz (mvF (B k) edge ff (B 8) i) i v))) Q := by
        intro v hv
        rw [mvF_succ hv, show ((i : Int) + 1) = ((i + 1 : Nat) : Int) by omega]
        exact ih (i + 1) (by omega)
      simp (disch := omega) only [el_X7_markMoving_9, el_X7_markMoving_11, el_X7_markMoving_13]
      rw [if_neg (by omega)]
      simp (disch := omega) only [el_X7_markMoving_16, el_X7_markMoving_18, el_X7_markMoving_19, el_X7_markMoving_20, pm_put_ne, sk, px_ln_aI]
      rw [if_neg (by omega)]
      simp (disch := omega) only [el_X7_markMoving_23, el_X7_markMoving_24, el_X7_markMoving_27, el_X7_markMoving_29, el_X7_markMoving_30, el_X7_markMoving_32, el_X7_markMoving_33, el_X7_markMoving_34, el_X7_markMoving_37, el_X7_markMoving_38, el_X7_markMoving_41, el_X7_markMoving_42, el_X7_markMoving_43, el_X7_markMoving_46, el_X7_markMoving_47, el_X7_markMoving_50, el_X7_markMoving_51, el_X7_markMoving_52, el_X7_markMoving_55, pm_put_ne, pm_put_eq, pm_put_put, s0, sk, s8, gf_7_12, px_al_aI, px_as_aZ, e0, ↓reduceIte, Nat.reduceEqDiff, eq_self, Int.reduceEq, Int.reduceLT, Int.reduceLE, Int.reduceNe, Int.reduceNeg, Int.reduceToNat, ne_eq, not_true_eq_false, not_false_eq_true]
      repeat' split
      all_goals
        refine key _ ?_
        first
        | (rw [if_pos (by omega)])
        | (rw [if_neg (by omega)])
  simp (disch := omega) only [el_X7_markMoving_0]
  rw [el_X7_markMoving_1 (c_cells hs ho) (by decide) s0 rfl]
  simp (disch := omega) only [Option.toList, List.cons_append, List.nil_append, el_X7_markMoving_4, el_X7_markMoving_6, el_X7_markMoving_7]
  have := loop n 0 (by omega)
  have e : mvF (B k) edge ff (B 8) 0 = B 8 := rfl
  rw [e, pm_put_same s8] at this
  exact this
theorem c_newCrease {h : pm_H} {q : Nat} {F : Nat → Int} {B : Nat → Nat → Int} {a b : Nat} (hs : sh h q F B) (ha : a < 64) (hb : b < 64) (h4 : 0 ≤ F 4 ∧ F 4 ≤ 20) (h1 : (0 ≤ B 1 a ∧ B 1 a ≤ 1) ∧ 0 ≤ B 1 b ∧ B 1 b ≤ 1) :
    px_R 0 65 [.ref q, .int (zI a), .int (zI b)] h (.inl (some (.int (zI (10 * F 4 + (if B 1 a + B 1 b = 0 then 1 else 2)))))) h := by
  obtain ⟨s0, s1, s2, s3, s4, s5, s6, s7, s8⟩ := id hs
  have ea : (a : Int).toNat = a := by omega
  have eb : (b : Int).toNat = b := by omega
  refine px_ofQ fun Q hQ => ?_
  simp (disch := omega) only [el_X7_newCrease_0, el_X7_newCrease_2, el_X7_newCrease_3, el_X7_newCrease_6, el_X7_newCrease_7, el_X7_newCrease_8, el_X7_newCrease_11, el_X7_newCrease_12, el_X7_newCrease_13, el_X7_newCrease_14, el_X7_newCrease_17, el_X7_newCrease_18, el_X7_newCrease_19, el_X7_newCrease_20, el_X7_newCrease_23, el_X7_newCrease_24, el_X7_newCrease_27, el_X7_newCrease_28, el_X7_newCrease_29, s0, s1, gf_7_4, gf_7_5, px_al_aI, ea, eb]
  split
  · rename_i hne
    rw [if_neg hne] at hQ
    exact hQ
  · rename_i hne
    rw [if_pos (by omega)] at hQ
    exact hQ
theorem c_numberFrom {h : pm_H} {q n k : Nat} {F : Nat → Int} {B : Nat → Nat → Int} {m : Int} (hs : sh h q F B) (ho : sh_ok F n) (hk : k = 2 ∨ k = 3) :
    px_R 1 67 [.ref q, .ref (q + k), .int (zI m), .retAddr 0, .retAddr 0] h (.inl none) (pm_put h (q + k) (aI 0 64 (fun j => if j < n then B k j - m else B k j))) := by
  obtain ⟨s0, s1, s2, s3, s4, s5, s6, s7, s8⟩ := id hs
  obtain ⟨ho0, ho1, ho2, ho3, hn, hn1, hn2⟩ := id ho
  have sk := hs.arr k (by omega)
  refine px_ofQ fun Q hQ => ?_
  have loop : ∀ t i : Nat, i + t = n →
      px_Ev 1 67 8 [.ref q, .ref (q + k), .int (zI m), .int (zI n), .int (zI i)] [] (pm_put h (q + k) (aI 0 64 (fun j => if j < i then B k j - m else B k j))) Q := by
    intro t
    induction t with
    | zero =>
      intro i hi
      have e : i = n := by omega
      subst e
      simp (disch := omega) only [el_X7_numberFrom_8, el_X7_numberFrom_10, el_X7_numberFrom_11, el_X7_numberFrom_35]
      rw [if_pos (Int.le_refl _)]
      exact hQ
    | succ t ih =>
      intro i hi
      have e0 : (i : Int).toNat = i := by omega
      simp (disch := omega) only [el_X7_numberFrom_8, el_X7_numberFrom_10, el_X7_numberFrom_11]
      rw [if_neg (by omega)]
      simp (disch := omega) only [el_X7_numberFrom_14, el_X7_numberFrom_16, el_X7_numberFrom_17, el_X7_numberFrom_18, pm_put_eq, px_ln_aI]
      rw [if_neg (by omega)]
      simp (disch := omega) only [el_X7_numberFrom_21, el_X7_numberFrom_22, el_X7_numberFrom_24, el_X7_numberFrom_25, el_X7_numberFrom_26, el_X7_numberFrom_27, el_X7_numberFrom_28, el_X7_numberFrom_29, el_X7_numberFrom_32, pm_put_eq, pm_put_put, px_al_aI, px_as_aI, e0]
      have e : upz (fun j => if j < i then B k j - m else B k j) i ((if i < i then B k i - m else B k i) - m) = fun j => if j < i + 1 then B k j - m else B k j := by
        funext j
        unfold upz
        by_cases h1 : j = i
        · subst h1
          simp
        · rw [if_neg h1]
          dsimp only
          by_cases h2 : j < i
          · have h3 : j < i + 1 := by omega
            rw [if_pos h2, if_pos h3]
          · have h3 : ¬ j < i + 1 := by omega
            rw [if_neg h2, if_neg h3]
      rw [e, show ((i : Int) + 1) = ((i + 1 : Nat) : Int) by omega]
      exact ih (i + 1) (by omega)
  simp (disch := omega) only [el_X7_numberFrom_0]
  rw [el_X7_numberFrom_1 (c_cells hs ho) (by decide) s0 rfl]
  simp (disch := omega) only [Option.toList, List.cons_append, List.nil_append, el_X7_numberFrom_4, el_X7_numberFrom_5, el_X7_numberFrom_6]
  have := loop n 0 (by omega)
  have e : (fun j => if j < 0 then B k j - m else B k j) = B k := by
    funext j
    simp
  rw [e, pm_put_same sk] at this
  exact this
