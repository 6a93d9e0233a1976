/-! A SHEET, 6: hasWeightsOf, hasCreasesOf -/
theorem zI_div {x y : Int} (h : (0 ≤ x ∧ x ≤ 2147483647) ∧ 0 < y ∧ y ≤ 2147483647) : zI x / zI y = zI (x / y) := by
  have hx : (zI x).toInt = x := zI_toInt (by omega)
  have hy : (zI y).toInt = y := zI_toInt (by omega)
  have h0 : 0 ≤ x / y := Int.ediv_nonneg h.1.1 (by omega)
  have h1 : x / y ≤ x := Int.ediv_le_self _ h.1.1
  apply Int32.toInt_inj.mp
  rw [Int32.toInt_div, hx, hy, zI_toInt (by omega), Int.tdiv_eq_ediv_of_nonneg h.1.1]
  exact Int.bmod_eq_of_le (by omega) (by omega)
theorem zI_rem10 {x : Int} (h : 0 ≤ x ∧ x ≤ 2147483647) : zI x - zI x / zI 10 * zI 10 = zI (x % 10) := by
  rw [zI_div ⟨h, by omega⟩, zI_mul, zI_sub]
  congr 1
  omega
theorem zI_10 : ¬ zI 10 = 0 := by decide
theorem c_hasWeightsOf {h : pm_H} {q r : Nat} {F G : Nat → Int} {B C : Nat → Nat → Int} {v : Int} (hv : v = 0 ∨ v = 1) (hP : v = 1 ↔ (F 2 = G 2 ∧ F 3 = G 3 ∧ ∀ c, c < 64 → B 7 c = C 7 c)) (hs : sh h q F B) (hs' : sh h r G C) (h2 : 1 ≤ F 2 ∧ F 2 ≤ 8) (h3 : 1 ≤ F 3 ∧ F 3 ≤ 8) (g2 : 1 ≤ G 2 ∧ G 2 ≤ 8) (g3 : 1 ≤ G 3 ∧ G 3 ≤ 8) (hp : ∀ c, c < 64 → (-1000 ≤ B 7 c ∧ B 7 c ≤ 1000) ∧ (-1000 ≤ C 7 c ∧ C 7 c ≤ 1000)) :
    px_R 0 77 [.ref q, .ref r, .retAddr 0] h (.inl (some (.int (zI v)))) h := by
  obtain ⟨s0, s1, s2, s3, s4, s5, s6, s7, s8⟩ := id hs
  obtain ⟨t0, t1, t2, t3, t4, t5, t6, t7, t8⟩ := id hs'
  refine px_ofQ fun Q hQ => ?_
  have loop : ∀ t c : Nat, c + t = 64 → F 2 = G 2 → F 3 = G 3 → (∀ j, j < c → B 7 j = C 7 j) →
      px_Ev 0 77 26 [.ref q, .ref r, .int (zI c)] [] h Q := by
    intro t
    induction t with
    | zero =>
      intro c hc e2 e3 k
      have e : c = 64 := by omega
      subst e
      simp (disch := omega) only [el_X7_hasWeightsOf_26, el_X7_hasWeightsOf_27, el_X7_hasWeightsOf_29, el_X7_hasWeightsOf_55, el_X7_hasWeightsOf_56]
      rw [if_pos (by omega)]
      rw [hP.mpr ⟨e2, e3, k⟩] at hQ
      exact hQ
    | succ t ih =>
      intro c hc e2 e3 k
      have hpc := hp c (by omega)
      have e0 : (c : Int).toNat = c := by omega
      simp (disch := omega) only [el_X7_hasWeightsOf_26, el_X7_hasWeightsOf_27, el_X7_hasWeightsOf_29]
      rw [if_neg (by omega)]
      simp (disch := omega) only [el_X7_hasWeightsOf_32, el_X7_hasWeightsOf_33, el_X7_hasWeightsOf_36, el_X7_hasWeightsOf_37, el_X7_hasWeightsOf_38, el_X7_hasWeightsOf_39, el_X7_hasWeightsOf_42, el_X7_hasWeightsOf_43, el_X7_hasWeightsOf_44, el_X7_hasWeightsOf_47, el_X7_hasWeightsOf_48, el_X7_hasWeightsOf_49, el_X7_hasWeightsOf_52, s0, s7, t0, t7, gf_7_11, px_al_aI, e0]
      by_cases e : B 7 c = C 7 c
      · rw [if_pos e]
        exact ih (c + 1) (by omega) e2 e3 (fun j hj => by
          by_cases hjc : j = c
          · rw [hjc]; exact e
          · exact k j (by omega))
      · rw [if_neg e]
        rw [hv.resolve_right (fun g => absurd (hP.mp g) (fun g => e (g.2.2 c (by omega))))] at hQ
        exact hQ
  simp (disch := omega) only [el_X7_hasWeightsOf_0, el_X7_hasWeightsOf_1, el_X7_hasWeightsOf_4, el_X7_hasWeightsOf_5, el_X7_hasWeightsOf_8, s0, t0, gf_7_2]
  by_cases e2 : F 2 = G 2
  · rw [if_neg (fun g => g e2)]
    simp (disch := omega) only [el_X7_hasWeightsOf_11, el_X7_hasWeightsOf_12, el_X7_hasWeightsOf_15, el_X7_hasWeightsOf_16, el_X7_hasWeightsOf_19, s0, t0, gf_7_3]
    by_cases e3 : F 3 = G 3
    · rw [if_pos e3]
      simp (disch := omega) only [el_X7_hasWeightsOf_24, el_X7_hasWeightsOf_25]
      exact loop 64 0 (by omega) e2 e3 (fun j hj => absurd hj (Nat.not_lt_zero j))
    · rw [if_neg e3]
      rw [hv.resolve_right (fun g => absurd (hP.mp g) (fun g => e3 g.2.1))] at hQ
      simp (disch := omega) only [el_X7_hasWeightsOf_22, el_X7_hasWeightsOf_23]
      exact hQ
  · rw [if_pos e2]
    rw [hv.resolve_right (fun g => absurd (hP.mp g) (fun g => e2 g.1))] at hQ
    simp (disch := omega) only [el_X7_hasWeightsOf_22, el_X7_hasWeightsOf_23]
    exact hQ
theorem c_hasCreasesOf {h : pm_H} {q r : Nat} {F G : Nat → Int} {B C : Nat → Nat → Int} {v : Int} (hv : v = 0 ∨ v = 1) (hP : v = 1 ↔ (∀ c, c < 64 → (B 5 c % 10 = C 5 c % 10 ∧ B 6 c % 10 = C 6 c % 10))) (hs : sh h q F B) (hs' : sh h r G C) (hp : ∀ c, c < 64 → ((0 ≤ B 5 c ∧ B 5 c ≤ 1000) ∧ (0 ≤ B 6 c ∧ B 6 c ≤ 1000)) ∧ (0 ≤ C 5 c ∧ C 5 c ≤ 1000) ∧ (0 ≤ C 6 c ∧ C 6 c ≤ 1000)) :
    px_R 0 76 [.ref q, .ref r, .retAddr 0] h (.inl (some (.int (zI v)))) h := by
  obtain ⟨s0, s1, s2, s3, s4, s5, s6, s7, s8⟩ := id hs
  obtain ⟨t0, t1, t2, t3, t4, t5, t6, t7, t8⟩ := id hs'
  refine px_ofQ fun Q hQ => ?_
  have loop : ∀ t c : Nat, c + t = 64 → (∀ j, j < c → (B 5 j % 10 = C 5 j % 10 ∧ B 6 j % 10 = C 6 j % 10)) →
      px_Ev 0 76 2 [.ref q, .ref r, .int (zI c)] [] h Q := by
    intro t
    induction t with
    | zero =>
      intro c hc k
      have e : c = 64 := by omega
      subst e
      simp (disch := omega) only [el_X7_hasCreasesOf_2, el_X7_hasCreasesOf_3, el_X7_hasCreasesOf_5, el_X7_hasCreasesOf_58, el_X7_hasCreasesOf_59]
      rw [if_pos (by omega)]
      rw [hP.mpr k] at hQ
      exact hQ
    | succ t ih =>
      intro c hc k
      have hpc := hp c (by omega)
      have e0 : (c : Int).toNat = c := by omega
      simp (disch := omega) only [el_X7_hasCreasesOf_2, el_X7_hasCreasesOf_3, el_X7_hasCreasesOf_5]
      rw [if_neg (by omega)]
      simp (disch := first | omega | exact zI_10) only [el_X7_hasCreasesOf_8, el_X7_hasCreasesOf_9, el_X7_hasCreasesOf_12, el_X7_hasCreasesOf_13, el_X7_hasCreasesOf_14, el_X7_hasCreasesOf_16, el_X7_hasCreasesOf_17, el_X7_hasCreasesOf_18, el_X7_hasCreasesOf_21, el_X7_hasCreasesOf_22, el_X7_hasCreasesOf_23, el_X7_hasCreasesOf_25, el_X7_hasCreasesOf_26, s0, s5, t0, t5, gf_7_9, px_al_aI, e0, zI_rem10]
      by_cases e : B 5 c % 10 = C 5 c % 10
      · rw [if_neg (fun g => g e)]
        simp (disch := first | omega | exact zI_10) only [el_X7_hasCreasesOf_29, el_X7_hasCreasesOf_30, el_X7_hasCreasesOf_33, el_X7_hasCreasesOf_34, el_X7_hasCreasesOf_35, el_X7_hasCreasesOf_37, el_X7_hasCreasesOf_38, el_X7_hasCreasesOf_39, el_X7_hasCreasesOf_42, el_X7_hasCreasesOf_43, el_X7_hasCreasesOf_44, el_X7_hasCreasesOf_46, el_X7_hasCreasesOf_47, s0, s6, t0, t6, gf_7_10, px_al_aI, e0, zI_rem10]
        by_cases e' : B 6 c % 10 = C 6 c % 10
        · rw [if_pos e']
          simp (disch := omega) only [el_X7_hasCreasesOf_52, el_X7_hasCreasesOf_55]
          exact ih (c + 1) (by omega) (fun j hj => by
            by_cases hjc : j = c
            · rw [hjc]; exact ⟨e, e'⟩
            · exact k j (by omega))
        · rw [if_neg e']
          rw [hv.resolve_right (fun g => absurd (hP.mp g) (fun g => e' (g c (by omega)).2))] at hQ
          simp (disch := omega) only [el_X7_hasCreasesOf_50, el_X7_hasCreasesOf_51]
          exact hQ
      · rw [if_pos e]
        rw [hv.resolve_right (fun g => absurd (hP.mp g) (fun g => e (g c (by omega)).1))] at hQ
        simp (disch := omega) only [el_X7_hasCreasesOf_50, el_X7_hasCreasesOf_51]
        exact hQ
  simp (disch := omega) only [el_X7_hasCreasesOf_0, el_X7_hasCreasesOf_1]
  exact loop 64 0 (by omega) (fun j hj => absurd hj (Nat.not_lt_zero j))
