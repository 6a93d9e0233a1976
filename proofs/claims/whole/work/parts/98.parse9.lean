/-! THE MODEL'S TEXTS, 9: take, open, lines, school -/
section MODEL
variable {T : Nat → Nat × Nat} {S : Nat → Nat → Int} {c : pm_M × pm_C} {m : Nat}
theorem m_take {D : Nat → Nat → Int} (hm : ly11 T m) (hS : stgM S m D) (h6 : 0 ≤ D 0 6 ∧ D 0 6 ≤ 10) (hD : dO D) : ∃ S', px_R 2 161 [.ref m, .retAddr 0] (zh T S c) (.inl none) (zh T S' c) ∧ (∀ a, (a < m ∨ m + 36 ≤ a ∨ a = m + 1 ∨ a = m + 9 ∨ a = m + 10) → S' a = S a) ∧
    (∀ j, j ≠ 35 → j ≠ 58 → j ≠ 45 → j ≠ 52 → j ≠ 59 → S' m j = S m j) ∧ (S' m 35 = 0 ∧ S' m 58 = 0 ∧ S' m 45 = -1 ∧ S' m 52 = 0 ∧ S' m 59 = 0) ∧ (∀ F E, yA S' m (rdUsual (F, D, E)).2.1) ∧ shM S' m 0 (nD D) (mp (D 0 0) (D 0 1)) := by
  obtain ⟨t0, t1, t2, t3, t4, t5, t6, t7, t8, t9, t10, t11, t12, t13, t14, t15, t16, t17, t18, t19, t20, t21, t22, t23, t24, t25, t26, t27, t28, t29, t30, t31, t32, t33, t34, t35⟩ := id hm
  obtain ⟨⟨s0, s1, s2, s3, s4, s5, s6⟩, sa, sk⟩ := id hS
  obtain ⟨A2, hA2⟩ : ∃ A, putN (S (m + 2)) 0 (fun j => S (m + 2) (7 + j)) 7 = A := ⟨_, rfl⟩
  have r2 := m_takeHalf (T := T) (S := S) (c := c) (a := m + 2) (h := 7) t2 rfl (by decide)
  rw [hA2] at r2
  have vA2 : ∀ j, j < 7 → A2 j = S (m + 2) (7 + j) := fun j hj => by rw [← hA2, putN_in0 hj]
  obtain ⟨A3, hA3⟩ : ∃ A, putN (S (m + 3)) 0 (fun j => S (m + 3) (10 + j)) 10 = A := ⟨_, rfl⟩
  have r3 := m_takeHalf (T := T) (S := upS S (m + 2) A2) (c := c) (a := m + 3) (h := 10) t3 rfl (by decide)
  simp (disch := omega) only [upS_ne] at r3
  rw [hA3] at r3
  have vA3 : ∀ j, j < 10 → A3 j = S (m + 3) (10 + j) := fun j hj => by rw [← hA3, putN_in0 hj]
  obtain ⟨A4, hA4⟩ : ∃ A, putN (S (m + 4)) 0 (fun j => S (m + 4) (10 + j)) 10 = A := ⟨_, rfl⟩
  have r4 := m_takeHalf (T := T) (S := upS (upS S (m + 2) A2) (m + 3) A3) (c := c) (a := m + 4) (h := 10) t4 rfl (by decide)
  simp (disch := omega) only [upS_ne] at r4
  rw [hA4] at r4
  have vA4 : ∀ j, j < 10 → A4 j = S (m + 4) (10 + j) := fun j hj => by rw [← hA4, putN_in0 hj]
  obtain ⟨A5, hA5⟩ : ∃ A, putN (S (m + 5)) 0 (fun j => S (m + 5) (10 + j)) 10 = A := ⟨_, rfl⟩
  have r5 := m_takeHalf (T := T) (S := upS (upS (upS S (m + 2) A2) (m + 3) A3) (m + 4) A4) (c := c) (a := m + 5) (h := 10) t5 rfl (by decide)
  simp (disch := omega) only [upS_ne] at r5
  rw [hA5] at r5
  have vA5 : ∀ j, j < 10 → A5 j = S (m + 5) (10 + j) := fun j hj => by rw [← hA5, putN_in0 hj]
  obtain ⟨A6, hA6⟩ : ∃ A, putN (S (m + 6)) 0 (fun j => S (m + 6) (10 + j)) 10 = A := ⟨_, rfl⟩
  have r6 := m_takeHalf (T := T) (S := upS (upS (upS (upS S (m + 2) A2) (m + 3) A3) (m + 4) A4) (m + 5) A5) (c := c) (a := m + 6) (h := 10) t6 rfl (by decide)
  simp (disch := omega) only [upS_ne] at r6
  rw [hA6] at r6
  have vA6 : ∀ j, j < 10 → A6 j = S (m + 6) (10 + j) := fun j hj => by rw [← hA6, putN_in0 hj]
  obtain ⟨A7, hA7⟩ : ∃ A, putN (S (m + 7)) 0 (fun j => S (m + 7) (10 + j)) 10 = A := ⟨_, rfl⟩
  have r7 := m_takeHalf (T := T) (S := upS (upS (upS (upS (upS S (m + 2) A2) (m + 3) A3) (m + 4) A4) (m + 5) A5) (m + 6) A6) (c := c) (a := m + 7) (h := 10) t7 rfl (by decide)
  simp (disch := omega) only [upS_ne] at r7
  rw [hA7] at r7
  have vA7 : ∀ j, j < 10 → A7 j = S (m + 7) (10 + j) := fun j hj => by rw [← hA7, putN_in0 hj]
  obtain ⟨A8, hA8⟩ : ∃ A, putN (S (m + 8)) 0 (fun j => S (m + 8) (10 + j)) 10 = A := ⟨_, rfl⟩
  have r8 := m_takeHalf (T := T) (S := upS (upS (upS (upS (upS (upS S (m + 2) A2) (m + 3) A3) (m + 4) A4) (m + 5) A5) (m + 6) A6) (m + 7) A7) (c := c) (a := m + 8) (h := 10) t8 rfl (by decide)
  simp (disch := omega) only [upS_ne] at r8
  rw [hA8] at r8
  have vA8 : ∀ j, j < 10 → A8 j = S (m + 8) (10 + j) := fun j hj => by rw [← hA8, putN_in0 hj]
  -- the usual folds
  have first : ∃ (B2 B8 : Nat → Int) (l : Value), (∀ Q, px_Ev 2 161 100 [.ref m, l] [] (zh T (upS (upS (upS (upS (upS (upS (upS S (m + 2) B2) (m + 3) A3) (m + 4) A4) (m + 5) A5) (m + 6) A6) (m + 7) A7) (m + 8) B8) c) Q → px_Ev 2 161 0 [.ref m, .retAddr 0] [] (zh T S c) Q) ∧ (∀ j, j < 6 → B2 j = D 0 j) ∧ ∀ F E, B2 6 = (rdUsual (F, D, E)).2.1 0 6 ∧ ∀ j : Nat, (j : Int) < (rdUsual (F, D, E)).2.1 0 6 → B8 j = 10 * (rdUsual (F, D, E)).2.1 6 j + (rdUsual (F, D, E)).2.1 7 j := by
    have e26 : A2 6 = D 0 6 := (vA2 6 (by decide)).trans s6
    have vs : ∀ j, j < 6 → A2 j = D 0 j := by
      intro j hj
      rw [vA2 j (by omega)]
      rcases (show j = 0 ∨ j = 1 ∨ j = 2 ∨ j = 3 ∨ j = 4 ∨ j = 5 by omega) with rfl | rfl | rfl | rfl | rfl | rfl
      · exact s0
      · exact s1
      · exact s2
      · exact s3
      · exact s4
      · exact s5
    by_cases g : D 0 6 = 0
    · rw [g] at e26
      refine ⟨upz A2 6 8, putN A8 0 (fun i => 10 * ((i / 2 : Nat) : Int) + 1 + ((i % 2 : Nat) : Int)) 8, .int (zI 8), fun Q hQ => ?_, fun j hj => by rw [upz_ne (by omega)]; exact vs j hj, fun F E => ?_⟩
      · have loop : ∀ (t i : Nat), i + t = 8 → px_Ev 2 161 70 [.ref m, .int (zI (i : Int))] [] (zh T (upS (upS (upS (upS (upS (upS (upS S (m + 2) (upz A2 6 8)) (m + 3) A3) (m + 4) A4) (m + 5) A5) (m + 6) A6) (m + 7) A7) (m + 8) (putN A8 0 (fun i => 10 * ((i / 2 : Nat) : Int) + 1 + ((i % 2 : Nat) : Int)) i)) c) Q := by
          intro t
          induction t with
          | zero =>
            intro i hi
            have e : i = 8 := by omega
            subst e
            have ez : ((8 : Nat) : Int) = 8 := rfl
            rw [ez, el_X11_take_70]
            (simp (disch := first | with_reducible assumption | omega | decide | (simp only [ps_low, List.map_cons, List.map_nil, Value.category, List.sum_cons, List.sum_nil]; decide)) only [el_X11_take_71, el_X11_take_73, px_ifp, px_ifn, zh_1, zc_1, zc_2, zc_3, zc_4, zc_5, zc_6, zc_7, zc_8, zc_9, zc_10, zc_11, zc_12, zc_20, zc_21, zc_22, zp_1, zp_2, zp_3, zp_4, zp_5, zp_6, zp_7, zp_8, zp_9, zp_10, zp_11, zp_12, zp_20, zp_21, zp_22, upS_eq, upS_ne, upS_up, upz_eq, upz_ne, upz_up, px_al_aI, px_as_aI, px_as_aZ, px_as_aC, px_ln_aI, Option.toList, List.cons_append, List.nil_append, Int.reduceAdd, Int.reduceSub, Int.reduceMul, ↓reduceIte, Nat.reduceEqDiff, eq_self, Int.reduceEq, Int.reduceLT, Int.reduceLE, Int.reduceNe, Int.reduceNeg, Int.reduceToNat, ne_eq, not_true_eq_false, not_false_eq_true, t0, t1, t2, t3, t4, t5, t6, t7, t8, t9, t10, t11, t12, t13, t14, t15, t16, t17, t18, t19, t20, t21, t22, t23, t24, t25, t26, t27, t28, t29, t30, t31, t32, t33, t34, t35]; repeat (first | simp (disch := first | omega | decide) only [upz_srt, upy_upz, upz_up, upS_srt, upT_upS, upS_up] | simp (disch := first | with_reducible assumption | omega | decide | (simp only [ps_low, List.map_cons, List.map_nil, Value.category, List.sum_cons, List.sum_nil]; decide)) only [el_X11_take_71, el_X11_take_73, px_ifp, px_ifn, zh_1, zc_1, zc_2, zc_3, zc_4, zc_5, zc_6, zc_7, zc_8, zc_9, zc_10, zc_11, zc_12, zc_20, zc_21, zc_22, zp_1, zp_2, zp_3, zp_4, zp_5, zp_6, zp_7, zp_8, zp_9, zp_10, zp_11, zp_12, zp_20, zp_21, zp_22, upS_eq, upS_ne, upS_up, upz_eq, upz_ne, upz_up, px_al_aI, px_as_aI, px_as_aZ, px_as_aC, px_ln_aI, Option.toList, List.cons_append, List.nil_append, Int.reduceAdd, Int.reduceSub, Int.reduceMul, ↓reduceIte, Nat.reduceEqDiff, eq_self, Int.reduceEq, Int.reduceLT, Int.reduceLE, Int.reduceNe, Int.reduceNeg, Int.reduceToNat, ne_eq, not_true_eq_false, not_false_eq_true, t0, t1, t2, t3, t4, t5, t6, t7, t8, t9, t10, t11, t12, t13, t14, t15, t16, t17, t18, t19, t20, t21, t22, t23, t24, t25, t26, t27, t28, t29, t30, t31, t32, t33, t34, t35]))
            exact hQ
          | succ t ih =>
            intro i hi
            have nx := ih (i + 1) (by omega)
            have hd2 : zI (i : Int) / zI 2 = zI ((i / 2 : Nat) : Int) := zI_divN (a := i) (b := 2) (by omega)
            have hr2 : zI (i : Int) - zI ((i / 2 : Nat) : Int) * zI 2 = zI ((i % 2 : Nat) : Int) := zI_modD (a := i) (b := 2) (by decide)
            have h2 : ¬ zI 2 = 0 := by decide
            have p1 : putN A8 0 (fun i => 10 * ((i / 2 : Nat) : Int) + 1 + ((i % 2 : Nat) : Int)) (i + 1) = upz (putN A8 0 (fun i => 10 * ((i / 2 : Nat) : Int) + 1 + ((i % 2 : Nat) : Int)) i) i (10 * ((i / 2 : Nat) : Int) + 1 + ((i % 2 : Nat) : Int)) := by
              show upz _ (0 + i) _ = _
              rw [Nat.zero_add]
            rw [p1] at nx
            rw [el_X11_take_70]
            (simp (disch := first | with_reducible assumption | omega | decide | (simp only [ps_low, List.map_cons, List.map_nil, Value.category, List.sum_cons, List.sum_nil]; decide)) only [el_X11_take_71, el_X11_take_73, el_X11_take_76, el_X11_take_77, el_X11_take_80, el_X11_take_81, el_X11_take_83, el_X11_take_84, el_X11_take_85, el_X11_take_86, el_X11_take_87, el_X11_take_88, el_X11_take_89, el_X11_take_90, el_X11_take_91, el_X11_take_92, el_X11_take_93, el_X11_take_94, el_X11_take_97, gf_11_8, px_ifp, px_ifn, zh_1, zc_1, zc_2, zc_3, zc_4, zc_5, zc_6, zc_7, zc_8, zc_9, zc_10, zc_11, zc_12, zc_20, zc_21, zc_22, zp_1, zp_2, zp_3, zp_4, zp_5, zp_6, zp_7, zp_8, zp_9, zp_10, zp_11, zp_12, zp_20, zp_21, zp_22, upS_eq, upS_ne, upS_up, upz_eq, upz_ne, upz_up, px_al_aI, px_as_aI, px_as_aZ, px_as_aC, px_ln_aI, Option.toList, List.cons_append, List.nil_append, Int.reduceAdd, Int.reduceSub, Int.reduceMul, ↓reduceIte, Nat.reduceEqDiff, eq_self, Int.reduceEq, Int.reduceLT, Int.reduceLE, Int.reduceNe, Int.reduceNeg, Int.reduceToNat, ne_eq, not_true_eq_false, not_false_eq_true, t0, t1, t2, t3, t4, t5, t6, t7, t8, t9, t10, t11, t12, t13, t14, t15, t16, t17, t18, t19, t20, t21, t22, t23, t24, t25, t26, t27, t28, t29, t30, t31, t32, t33, t34, t35, hd2, hr2, h2, Int.toNat_natCast]; repeat (first | simp (disch := first | omega | decide) only [upz_srt, upy_upz, upz_up, upS_srt, upT_upS, upS_up] | simp (disch := first | with_reducible assumption | omega | decide | (simp only [ps_low, List.map_cons, List.map_nil, Value.category, List.sum_cons, List.sum_nil]; decide)) only [el_X11_take_71, el_X11_take_73, el_X11_take_76, el_X11_take_77, el_X11_take_80, el_X11_take_81, el_X11_take_83, el_X11_take_84, el_X11_take_85, el_X11_take_86, el_X11_take_87, el_X11_take_88, el_X11_take_89, el_X11_take_90, el_X11_take_91, el_X11_take_92, el_X11_take_93, el_X11_take_94, el_X11_take_97, gf_11_8, px_ifp, px_ifn, zh_1, zc_1, zc_2, zc_3, zc_4, zc_5, zc_6, zc_7, zc_8, zc_9, zc_10, zc_11, zc_12, zc_20, zc_21, zc_22, zp_1, zp_2, zp_3, zp_4, zp_5, zp_6, zp_7, zp_8, zp_9, zp_10, zp_11, zp_12, zp_20, zp_21, zp_22, upS_eq, upS_ne, upS_up, upz_eq, upz_ne, upz_up, px_al_aI, px_as_aI, px_as_aZ, px_as_aC, px_ln_aI, Option.toList, List.cons_append, List.nil_append, Int.reduceAdd, Int.reduceSub, Int.reduceMul, ↓reduceIte, Nat.reduceEqDiff, eq_self, Int.reduceEq, Int.reduceLT, Int.reduceLE, Int.reduceNe, Int.reduceNeg, Int.reduceToNat, ne_eq, not_true_eq_false, not_false_eq_true, t0, t1, t2, t3, t4, t5, t6, t7, t8, t9, t10, t11, t12, t13, t14, t15, t16, t17, t18, t19, t20, t21, t22, t23, t24, t25, t26, t27, t28, t29, t30, t31, t32, t33, t34, t35, hd2, hr2, h2, Int.toNat_natCast]))
            exact nx
        have l0 := loop 8 0 rfl
        have p0 : putN A8 0 (fun i => 10 * ((i / 2 : Nat) : Int) + 1 + ((i % 2 : Nat) : Int)) 0 = A8 := rfl
        have ez : ((0 : Nat) : Int) = 0 := rfl
        rw [p0, ez] at l0
        (simp (disch := first | with_reducible assumption | omega | decide | (simp only [ps_low, List.map_cons, List.map_nil, Value.category, List.sum_cons, List.sum_nil]; decide)) only [el_X11_take_0, el_X11_take_1, el_X11_take_7, el_X11_take_8, el_X11_take_14, el_X11_take_15, el_X11_take_21, el_X11_take_22, el_X11_take_28, el_X11_take_29, el_X11_take_35, el_X11_take_36, el_X11_take_42, el_X11_take_43, el_X11_take_49, el_X11_take_50, el_X11_take_53, el_X11_take_55, el_X11_take_56, el_X11_take_59, el_X11_take_60, el_X11_take_63, el_X11_take_65, el_X11_take_67, el_X11_take_68, el_X11_take_69, gf_11_2, gf_11_3, gf_11_4, gf_11_5, gf_11_6, gf_11_7, gf_11_8, px_ifp, px_ifn, zh_1, zc_1, zc_2, zc_3, zc_4, zc_5, zc_6, zc_7, zc_8, zc_9, zc_10, zc_11, zc_12, zc_20, zc_21, zc_22, zp_1, zp_2, zp_3, zp_4, zp_5, zp_6, zp_7, zp_8, zp_9, zp_10, zp_11, zp_12, zp_20, zp_21, zp_22, upS_eq, upS_ne, upS_up, upz_eq, upz_ne, upz_up, px_al_aI, px_as_aI, px_as_aZ, px_as_aC, px_ln_aI, Option.toList, List.cons_append, List.nil_append, Int.reduceAdd, Int.reduceSub, Int.reduceMul, ↓reduceIte, Nat.reduceEqDiff, eq_self, Int.reduceEq, Int.reduceLT, Int.reduceLE, Int.reduceNe, Int.reduceNeg, Int.reduceToNat, ne_eq, not_true_eq_false, not_false_eq_true, t0, t1, t2, t3, t4, t5, t6, t7, t8, t9, t10, t11, t12, t13, t14, t15, t16, t17, t18, t19, t20, t21, t22, t23, t24, t25, t26, t27, t28, t29, t30, t31, t32, t33, t34, t35, el_X11_take_4 (r2 ..) _ _, el_X11_take_11 (r3 ..) _ _, el_X11_take_18 (r4 ..) _ _, el_X11_take_25 (r5 ..) _ _, el_X11_take_32 (r6 ..) _ _, el_X11_take_39 (r7 ..) _ _, el_X11_take_46 (r8 ..) _ _, e26]; repeat (first | simp (disch := first | omega | decide) only [upz_srt, upy_upz, upz_up, upS_srt, upT_upS, upS_up] | simp (disch := first | with_reducible assumption | omega | decide | (simp only [ps_low, List.map_cons, List.map_nil, Value.category, List.sum_cons, List.sum_nil]; decide)) only [el_X11_take_0, el_X11_take_1, el_X11_take_7, el_X11_take_8, el_X11_take_14, el_X11_take_15, el_X11_take_21, el_X11_take_22, el_X11_take_28, el_X11_take_29, el_X11_take_35, el_X11_take_36, el_X11_take_42, el_X11_take_43, el_X11_take_49, el_X11_take_50, el_X11_take_53, el_X11_take_55, el_X11_take_56, el_X11_take_59, el_X11_take_60, el_X11_take_63, el_X11_take_65, el_X11_take_67, el_X11_take_68, el_X11_take_69, gf_11_2, gf_11_3, gf_11_4, gf_11_5, gf_11_6, gf_11_7, gf_11_8, px_ifp, px_ifn, zh_1, zc_1, zc_2, zc_3, zc_4, zc_5, zc_6, zc_7, zc_8, zc_9, zc_10, zc_11, zc_12, zc_20, zc_21, zc_22, zp_1, zp_2, zp_3, zp_4, zp_5, zp_6, zp_7, zp_8, zp_9, zp_10, zp_11, zp_12, zp_20, zp_21, zp_22, upS_eq, upS_ne, upS_up, upz_eq, upz_ne, upz_up, px_al_aI, px_as_aI, px_as_aZ, px_as_aC, px_ln_aI, Option.toList, List.cons_append, List.nil_append, Int.reduceAdd, Int.reduceSub, Int.reduceMul, ↓reduceIte, Nat.reduceEqDiff, eq_self, Int.reduceEq, Int.reduceLT, Int.reduceLE, Int.reduceNe, Int.reduceNeg, Int.reduceToNat, ne_eq, not_true_eq_false, not_false_eq_true, t0, t1, t2, t3, t4, t5, t6, t7, t8, t9, t10, t11, t12, t13, t14, t15, t16, t17, t18, t19, t20, t21, t22, t23, t24, t25, t26, t27, t28, t29, t30, t31, t32, t33, t34, t35, el_X11_take_4 (r2 ..) _ _, el_X11_take_11 (r3 ..) _ _, el_X11_take_18 (r4 ..) _ _, el_X11_take_25 (r5 ..) _ _, el_X11_take_32 (r6 ..) _ _, el_X11_take_39 (r7 ..) _ _, el_X11_take_46 (r8 ..) _ _, e26]))
        exact l0
      · unfold rdUsual
        rw [if_pos g]
        refine ⟨by rw [upz_eq]; rfl, fun j hj => ?_⟩
        change (j : Int) < 8 at hj
        have hj8 : j < 8 := by omega
        rw [putN_in0 hj8]
        show _ = 10 * usK (D 6) (fun j => ((j / 2 : Nat) : Int)) j + usK (D 7) (fun j => ((1 + j % 2 : Nat) : Int)) j
        unfold usK
        rw [if_pos hj8, if_pos hj8]
        dsimp only
        omega
    · refine ⟨A2, A8, .retAddr 0, fun Q hQ => ?_, vs, fun F E => ?_⟩
      · (simp (disch := first | with_reducible assumption | omega | decide | (simp only [ps_low, List.map_cons, List.map_nil, Value.category, List.sum_cons, List.sum_nil]; decide)) only [el_X11_take_0, el_X11_take_1, el_X11_take_7, el_X11_take_8, el_X11_take_14, el_X11_take_15, el_X11_take_21, el_X11_take_22, el_X11_take_28, el_X11_take_29, el_X11_take_35, el_X11_take_36, el_X11_take_42, el_X11_take_43, el_X11_take_49, el_X11_take_50, el_X11_take_53, el_X11_take_55, el_X11_take_56, gf_11_2, gf_11_3, gf_11_4, gf_11_5, gf_11_6, gf_11_7, gf_11_8, px_ifp, px_ifn, zh_1, zc_1, zc_2, zc_3, zc_4, zc_5, zc_6, zc_7, zc_8, zc_9, zc_10, zc_11, zc_12, zc_20, zc_21, zc_22, zp_1, zp_2, zp_3, zp_4, zp_5, zp_6, zp_7, zp_8, zp_9, zp_10, zp_11, zp_12, zp_20, zp_21, zp_22, upS_eq, upS_ne, upS_up, upz_eq, upz_ne, upz_up, px_al_aI, px_as_aI, px_as_aZ, px_as_aC, px_ln_aI, Option.toList, List.cons_append, List.nil_append, Int.reduceAdd, Int.reduceSub, Int.reduceMul, ↓reduceIte, Nat.reduceEqDiff, eq_self, Int.reduceEq, Int.reduceLT, Int.reduceLE, Int.reduceNe, Int.reduceNeg, Int.reduceToNat, ne_eq, not_true_eq_false, not_false_eq_true, t0, t1, t2, t3, t4, t5, t6, t7, t8, t9, t10, t11, t12, t13, t14, t15, t16, t17, t18, t19, t20, t21, t22, t23, t24, t25, t26, t27, t28, t29, t30, t31, t32, t33, t34, t35, el_X11_take_4 (r2 ..) _ _, el_X11_take_11 (r3 ..) _ _, el_X11_take_18 (r4 ..) _ _, el_X11_take_25 (r5 ..) _ _, el_X11_take_32 (r6 ..) _ _, el_X11_take_39 (r7 ..) _ _, el_X11_take_46 (r8 ..) _ _, e26]; repeat (first | simp (disch := first | omega | decide) only [upz_srt, upy_upz, upz_up, upS_srt, upT_upS, upS_up] | simp (disch := first | with_reducible assumption | omega | decide | (simp only [ps_low, List.map_cons, List.map_nil, Value.category, List.sum_cons, List.sum_nil]; decide)) only [el_X11_take_0, el_X11_take_1, el_X11_take_7, el_X11_take_8, el_X11_take_14, el_X11_take_15, el_X11_take_21, el_X11_take_22, el_X11_take_28, el_X11_take_29, el_X11_take_35, el_X11_take_36, el_X11_take_42, el_X11_take_43, el_X11_take_49, el_X11_take_50, el_X11_take_53, el_X11_take_55, el_X11_take_56, gf_11_2, gf_11_3, gf_11_4, gf_11_5, gf_11_6, gf_11_7, gf_11_8, px_ifp, px_ifn, zh_1, zc_1, zc_2, zc_3, zc_4, zc_5, zc_6, zc_7, zc_8, zc_9, zc_10, zc_11, zc_12, zc_20, zc_21, zc_22, zp_1, zp_2, zp_3, zp_4, zp_5, zp_6, zp_7, zp_8, zp_9, zp_10, zp_11, zp_12, zp_20, zp_21, zp_22, upS_eq, upS_ne, upS_up, upz_eq, upz_ne, upz_up, px_al_aI, px_as_aI, px_as_aZ, px_as_aC, px_ln_aI, Option.toList, List.cons_append, List.nil_append, Int.reduceAdd, Int.reduceSub, Int.reduceMul, ↓reduceIte, Nat.reduceEqDiff, eq_self, Int.reduceEq, Int.reduceLT, Int.reduceLE, Int.reduceNe, Int.reduceNeg, Int.reduceToNat, ne_eq, not_true_eq_false, not_false_eq_true, t0, t1, t2, t3, t4, t5, t6, t7, t8, t9, t10, t11, t12, t13, t14, t15, t16, t17, t18, t19, t20, t21, t22, t23, t24, t25, t26, t27, t28, t29, t30, t31, t32, t33, t34, t35, el_X11_take_4 (r2 ..) _ _, el_X11_take_11 (r3 ..) _ _, el_X11_take_18 (r4 ..) _ _, el_X11_take_25 (r5 ..) _ _, el_X11_take_32 (r6 ..) _ _, el_X11_take_39 (r7 ..) _ _, el_X11_take_46 (r8 ..) _ _, e26]))
        exact hQ
      · unfold rdUsual
        rw [if_neg g]
        refine ⟨e26, fun j hj => ?_⟩
        have hj : (j : Int) < D 0 6 := hj
        rw [vA8 j (by omega)]
        exact sk j hj
  obtain ⟨B2, B8, l, run1, b2, bk⟩ := first
  obtain ⟨S8, hS8⟩ : ∃ X, upS (upS (upS (upS (upS (upS (upS S (m + 2) B2) (m + 3) A3) (m + 4) A4) (m + 5) A5) (m + 6) A6) (m + 7) A7) (m + 8) B8 = X := ⟨_, rfl⟩
  rw [hS8] at run1
  have e8 : ∀ a, (a < m + 2 ∨ m + 8 < a) → S8 a = S a := fun a ha => by
    rw [← hS8]
    simp (disch := omega) only [upS_ne]
  have a8 : S8 (m + 2) = B2 ∧ S8 (m + 3) = A3 ∧ S8 (m + 4) = A4 ∧ S8 (m + 5) = A5 ∧ S8 (m + 6) = A6 ∧ S8 (m + 7) = A7 ∧ S8 (m + 8) = B8 := by
    rw [← hS8]
    simp (disch := omega) only [upS_ne, upS_eq]
    exact ⟨trivial, trivial, trivial, trivial, trivial, trivial, trivial⟩
  obtain ⟨W, hW⟩ : ∃ W : Nat, D 0 0 = W := ⟨(D 0 0).toNat, by have := hD.1; omega⟩
  obtain ⟨H, hH⟩ : ∃ H : Nat, D 0 1 = H := ⟨(D 0 1).toNat, by have := hD.2; omega⟩
  obtain ⟨S9, r9, f9, q9⟩ := m_plain (T := T) (S := upS S8 m (upz (S8 m) 35 0)) (c := c) (s := 0) (W := W) (H := H) hm (by decide) (by rw [upS_ne (by omega), a8.1, b2 0 (by decide), hW]) (by rw [upS_ne (by omega), a8.1, b2 1 (by decide), hH]) (by have := hD.1; omega) (by have := hD.2; omega)
  have d9 : ∀ j, j < 2 → S9 (m + 2) j = D 0 j := fun j hj => by rw [f9.1 (m + 2) (by omega), upS_ne (by omega), a8.1]; exact b2 j (by omega)
  obtain ⟨S10, r10, f10, q10⟩ := m_plain (T := T) (S := S9) (c := c) (s := 1) (W := W) (H := H) hm (by decide) (by rw [d9 0 (by decide), hW]) (by rw [d9 1 (by decide), hH]) (by have := hD.1; omega) (by have := hD.2; omega)
  have eo : ∀ a, (a < m ∨ (m < a ∧ a < m + 12) ∨ m + 22 ≤ a) → S10 a = S8 a := fun a ha => by rw [f10.1 a (by omega), f9.1 a (by omega), upS_ne (by omega)]
  have em : S10 m = upz (S8 m) 35 0 := by rw [f10.1 m (by omega), f9.1 m (by omega), upS_eq]
  have hn : nD D = H * W := by
    unfold nD
    rw [hW, hH]
    rfl
  have n64 : H * W ≤ 64 := Nat.mul_le_mul (show H ≤ 8 by have := hD.2; omega) (show W ≤ 8 by have := hD.1; omega)
  have sh := q9.other f10 (by decide) n64
  have ez : ((0 : Nat) : Int) = 0 := rfl
  have eo1 : ((1 : Nat) : Int) = 1 := rfl
  rw [ez] at r9
  rw [eo1] at r10
  refine ⟨upS S10 m (upz (upz (upz (upz (S10 m) 45 (-1)) 52 0) 58 0) 59 0), px_ofQ fun Q hQ => run1 Q ?_, fun a ha => ?_, fun j j1 j2 j3 j4 j5 => ?_, ?_, fun F E => ⟨fun j hj => ?_, fun j hj => ?_, fun j hj => ?_⟩, ?_⟩
  · (simp (disch := first | with_reducible assumption | omega | decide | (simp only [ps_low, List.map_cons, List.map_nil, Value.category, List.sum_cons, List.sum_nil]; decide)) only [el_X11_take_100, el_X11_take_101, el_X11_take_102, el_X11_take_105, el_X11_take_106, el_X11_take_110, el_X11_take_111, el_X11_take_115, el_X11_take_116, el_X11_take_117, el_X11_take_120, el_X11_take_121, el_X11_take_122, el_X11_take_125, el_X11_take_126, el_X11_take_127, el_X11_take_130, el_X11_take_131, el_X11_take_132, el_X11_take_135, pf_11_35, pf_11_45, pf_11_52, pf_11_58, pf_11_59, px_ifp, px_ifn, zh_1, zc_1, zc_2, zc_3, zc_4, zc_5, zc_6, zc_7, zc_8, zc_9, zc_10, zc_11, zc_12, zc_20, zc_21, zc_22, zp_1, zp_2, zp_3, zp_4, zp_5, zp_6, zp_7, zp_8, zp_9, zp_10, zp_11, zp_12, zp_20, zp_21, zp_22, upS_eq, upS_ne, upS_up, upz_eq, upz_ne, upz_up, px_al_aI, px_as_aI, px_as_aZ, px_as_aC, px_ln_aI, Option.toList, List.cons_append, List.nil_append, Int.reduceAdd, Int.reduceSub, Int.reduceMul, ↓reduceIte, Nat.reduceEqDiff, eq_self, Int.reduceEq, Int.reduceLT, Int.reduceLE, Int.reduceNe, Int.reduceNeg, Int.reduceToNat, ne_eq, not_true_eq_false, not_false_eq_true, t0, t1, t2, t3, t4, t5, t6, t7, t8, t9, t10, t11, t12, t13, t14, t15, t16, t17, t18, t19, t20, t21, t22, t23, t24, t25, t26, t27, t28, t29, t30, t31, t32, t33, t34, t35, el_X11_take_107 (r9 ..) _ (zo_12 _) _, el_X11_take_112 (r10 ..) _ (zo_12 _) _]; repeat (first | simp (disch := first | omega | decide) only [upz_srt, upy_upz, upz_up, upS_srt, upT_upS, upS_up] | simp (disch := first | with_reducible assumption | omega | decide | (simp only [ps_low, List.map_cons, List.map_nil, Value.category, List.sum_cons, List.sum_nil]; decide)) only [el_X11_take_100, el_X11_take_101, el_X11_take_102, el_X11_take_105, el_X11_take_106, el_X11_take_110, el_X11_take_111, el_X11_take_115, el_X11_take_116, el_X11_take_117, el_X11_take_120, el_X11_take_121, el_X11_take_122, el_X11_take_125, el_X11_take_126, el_X11_take_127, el_X11_take_130, el_X11_take_131, el_X11_take_132, el_X11_take_135, pf_11_35, pf_11_45, pf_11_52, pf_11_58, pf_11_59, px_ifp, px_ifn, zh_1, zc_1, zc_2, zc_3, zc_4, zc_5, zc_6, zc_7, zc_8, zc_9, zc_10, zc_11, zc_12, zc_20, zc_21, zc_22, zp_1, zp_2, zp_3, zp_4, zp_5, zp_6, zp_7, zp_8, zp_9, zp_10, zp_11, zp_12, zp_20, zp_21, zp_22, upS_eq, upS_ne, upS_up, upz_eq, upz_ne, upz_up, px_al_aI, px_as_aI, px_as_aZ, px_as_aC, px_ln_aI, Option.toList, List.cons_append, List.nil_append, Int.reduceAdd, Int.reduceSub, Int.reduceMul, ↓reduceIte, Nat.reduceEqDiff, eq_self, Int.reduceEq, Int.reduceLT, Int.reduceLE, Int.reduceNe, Int.reduceNeg, Int.reduceToNat, ne_eq, not_true_eq_false, not_false_eq_true, t0, t1, t2, t3, t4, t5, t6, t7, t8, t9, t10, t11, t12, t13, t14, t15, t16, t17, t18, t19, t20, t21, t22, t23, t24, t25, t26, t27, t28, t29, t30, t31, t32, t33, t34, t35, el_X11_take_107 (r9 ..) _ (zo_12 _) _, el_X11_take_112 (r10 ..) _ (zo_12 _) _]))
    exact hQ
  · rw [upS_ne (by omega), eo a (by omega), e8 a (by omega)]
  · rw [upS_eq, upz_ne j5, upz_ne j2, upz_ne j4, upz_ne j3, em, upz_ne j1, e8 m (by omega)]
  · rw [upS_eq, em]
    simp (disch := omega) only [upz_ne, upz_eq]
    exact ⟨trivial, trivial, trivial, trivial, trivial⟩
  · rw [upS_ne (by omega), eo _ (by omega), a8.1]
    have eu : ∀ j, j ≠ 6 → (rdUsual (F, D, E)).2.1 0 j = D 0 j := fun j hj => by
      unfold rdUsual
      split
      · show upz (D 0) 6 8 j = D 0 j
        rw [upz_ne hj]
      · rfl
    by_cases e : j = 6
    · rw [e]
      exact (bk F E).1
    · rw [eu j e]
      exact b2 j (by omega)
  · have eu : ∀ k, 1 ≤ k → k < 6 → (rdUsual (F, D, E)).2.1 k = D k := fun k h1 h2 => by
      unfold rdUsual
      split
      · show (if k = 0 then _ else if k = 6 then _ else if k = 7 then _ else D k) = D k
        rw [if_neg (by omega), if_neg (by omega), if_neg (by omega)]
      · rfl
    obtain ⟨q1, q2, q3, q4, q5⟩ := sa j hj
    rw [eu 1 (by decide) (by decide), eu 2 (by decide) (by decide), eu 3 (by decide) (by decide), eu 4 (by decide) (by decide), eu 5 (by decide) (by decide)]
    rw [upS_ne (by omega), upS_ne (by omega), upS_ne (by omega), upS_ne (by omega), upS_ne (by omega), eo (m + 3) (by omega), eo (m + 4) (by omega), eo (m + 5) (by omega), eo (m + 6) (by omega), eo (m + 7) (by omega), a8.2.1, a8.2.2.1, a8.2.2.2.1, a8.2.2.2.2.1, a8.2.2.2.2.2.1, vA3 j hj, vA4 j hj, vA5 j hj, vA6 j hj, vA7 j hj]
    exact ⟨q1, q2, q3, q4, q5⟩
  · rw [upS_ne (by omega), eo _ (by omega), a8.2.2.2.2.2.2]
    exact (bk F E).2 j hj
  · rw [hn, hW, hH]
    unfold shM
    simp (disch := omega) only [upS_ne]
    exact sh
end MODEL
