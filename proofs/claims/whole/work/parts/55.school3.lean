/-! A SCHOOL'S TEXT, 3: readTable, readWind, readKnown -/
theorem c_readTable {T : Nat → Nat × Nat} {S : Nat → Nat → Int} {c : pm_M × pm_C} {t s x : Nat} {b : Nat → Int} {P : pS} (hL : pL T t s x) (hP : pR S t s x b P) (hO : pO P) (hb : tpB b) :
    ∃ S', px_R 4 39 [.ref x, .ref t, .ref s, .retAddr 0, .retAddr 0, .retAddr 0] (zh T S c) (.inl none) (zh T S' c) ∧ pFr t s x S S' ∧ pR S' t s x b (rdTable b P) := by
  obtain ⟨l9, l4, l5, d1, d2, d3⟩ := hL
  obtain ⟨t0, t1⟩ := id l9
  obtain ⟨u0, u1, u2, u3, u4, u5, u6, u7⟩ := id l4
  obtain ⟨v0, v1, v2⟩ := id l5
  obtain ⟨p1, p2, p3, p4⟩ := hP
  obtain ⟨o1, o2, o3, o4, o5⟩ := hO
  have x1 := p4 1 (by decide)
  have s1 := p3 1 (by decide)
  have s2 := p3 2 (by decide)
  unfold rdTable
  obtain ⟨S1, r1, q1, g1⟩ := zz_adv (c := c) l9 p1 p2 o1 hb
  have f1 := tpF_adv (b := b) o1.A
  generalize adv b P.1 = F1 at *
  dsimp only
  obtain ⟨S2, r2, q2, m2, g2⟩ := zz_ut (c := c) (S := S1) (a := x + 1) (e := P.2.2 1) l9 v1 (by omega) q1 (by rw [g1 _ (by omega)]; exact p2) (by rw [g1 _ (by omega)]; exact x1) f1 hb (fun j hj => o5 1 j (by decide) (by decide) hj)
  have hu := nhV_r (lo := 0) (hi := 9) (F := F1) (by decide)
  have hu9 : utV F1 < 10 := by unfold utV; omega
  have f2 := tpF_ut (b := b) (e := P.2.2 1) f1
  generalize utF b (P.2.2 1) F1 = F2 at *
  generalize utV F1 = k at *
  obtain ⟨S3, r3, q3, g3⟩ := zz_num (c := c) (S := S2) (b := b) (lo := 0) (hi := 20) l9 q2 (by rw [g2 _ (by omega) (by omega), g1 _ (by omega)]; exact p2) f2 hb (by decide) (by decide)
  have f3 := tpF_tn (b := b) (lo := 0) (hi := 20) f2
  generalize nhV 0 20 F2 = V1 at *
  generalize tnF b 0 20 F2 = F3 at *
  obtain ⟨S4, r4, q4, g4⟩ := zz_num (c := c) (S := S3) (b := b) (lo := 0) (hi := 20) l9 q3 (by rw [g3 _ (by omega), g2 _ (by omega) (by omega), g1 _ (by omega)]; exact p2) f3 hb (by decide) (by decide)
  generalize nhV 0 20 F3 = V2 at *
  generalize tnF b 0 20 F3 = F4 at *
  have al : ∀ a, a ≠ t → a ≠ x + 1 → S4 a = S a := fun a h1 h2 => by rw [g4 a h1, g3 a h1, g2 a h1 h2, g1 a h1]
  refine ⟨upS (upS S4 (s + 1) (upz (S4 (s + 1)) k V1)) (s + 2) (upz (S4 (s + 2)) k V2), px_ofQ fun Q hQ => ?_, fun a h1 h2 h3 => ?_, ?_, ?_, fun j hj => ?_, fun j hj => ?_⟩
  · (simp (disch := first | with_reducible assumption | omega | decide | (simp only [ps_low, List.map_cons, List.map_nil, Value.category, List.sum_cons, List.sum_nil]; decide)) only [el_X5_readTable_0, el_X5_readTable_4, el_X5_readTable_5, el_X5_readTable_6, el_X5_readTable_12, el_X5_readTable_13, el_X5_readTable_14, el_X5_readTable_15, el_X5_readTable_20, el_X5_readTable_22, el_X5_readTable_23, el_X5_readTable_24, el_X5_readTable_29, el_X5_readTable_31, el_X5_readTable_32, el_X5_readTable_35, el_X5_readTable_36, el_X5_readTable_38, el_X5_readTable_41, el_X5_readTable_42, el_X5_readTable_45, el_X5_readTable_46, el_X5_readTable_48, el_X5_readTable_49, el_X5_readTable_50, el_X5_readTable_53, el_X5_readTable_54, el_X5_readTable_56, el_X5_readTable_57, gf_4_7, gf_4_8, gf_5_3, px_ifp, px_ifn, zh_1, zc_1, zc_2, zc_3, zc_4, zc_5, zc_6, zc_7, zc_8, zc_9, zc_10, zc_11, zc_12, zc_20, zc_21, zc_22, zp_1, zp_2, zp_3, zp_4, zp_5, zp_6, zp_7, zp_8, zp_9, zp_10, zp_11, zp_12, zp_20, zp_21, zp_22, upS_eq, upS_ne, upS_up, upz_eq, upz_ne, upz_up, px_al_aI, px_as_aI, px_as_aZ, px_as_aC, px_ln_aI, Option.toList, List.cons_append, List.nil_append, Int.reduceAdd, Int.reduceSub, Int.reduceMul, ↓reduceIte, Nat.reduceEqDiff, eq_self, Int.reduceEq, Int.reduceLT, Int.reduceLE, Int.reduceNe, Int.reduceNeg, Int.reduceToNat, ne_eq, not_true_eq_false, not_false_eq_true, t0, t1, u0, u1, u2, u3, u4, u5, u6, u7, v0, v1, v2, Int.toNat_natCast, el_X5_readTable_1 (r1 ..) _ (zo_10 _) _, el_X5_readTable_9 (r2 ..) _ _, el_X5_readTable_17 (r3 ..) _ (zo_10 _) _, el_X5_readTable_26 (r4 ..) _ (zo_10 _) _]; repeat (first | simp (disch := first | omega | decide) only [upz_srt, upy_upz, upz_up, upS_srt, upT_upS, upS_up] | simp (disch := first | with_reducible assumption | omega | decide | (simp only [ps_low, List.map_cons, List.map_nil, Value.category, List.sum_cons, List.sum_nil]; decide)) only [el_X5_readTable_0, el_X5_readTable_4, el_X5_readTable_5, el_X5_readTable_6, el_X5_readTable_12, el_X5_readTable_13, el_X5_readTable_14, el_X5_readTable_15, el_X5_readTable_20, el_X5_readTable_22, el_X5_readTable_23, el_X5_readTable_24, el_X5_readTable_29, el_X5_readTable_31, el_X5_readTable_32, el_X5_readTable_35, el_X5_readTable_36, el_X5_readTable_38, el_X5_readTable_41, el_X5_readTable_42, el_X5_readTable_45, el_X5_readTable_46, el_X5_readTable_48, el_X5_readTable_49, el_X5_readTable_50, el_X5_readTable_53, el_X5_readTable_54, el_X5_readTable_56, el_X5_readTable_57, gf_4_7, gf_4_8, gf_5_3, px_ifp, px_ifn, zh_1, zc_1, zc_2, zc_3, zc_4, zc_5, zc_6, zc_7, zc_8, zc_9, zc_10, zc_11, zc_12, zc_20, zc_21, zc_22, zp_1, zp_2, zp_3, zp_4, zp_5, zp_6, zp_7, zp_8, zp_9, zp_10, zp_11, zp_12, zp_20, zp_21, zp_22, upS_eq, upS_ne, upS_up, upz_eq, upz_ne, upz_up, px_al_aI, px_as_aI, px_as_aZ, px_as_aC, px_ln_aI, Option.toList, List.cons_append, List.nil_append, Int.reduceAdd, Int.reduceSub, Int.reduceMul, ↓reduceIte, Nat.reduceEqDiff, eq_self, Int.reduceEq, Int.reduceLT, Int.reduceLE, Int.reduceNe, Int.reduceNeg, Int.reduceToNat, ne_eq, not_true_eq_false, not_false_eq_true, t0, t1, u0, u1, u2, u3, u4, u5, u6, u7, v0, v1, v2, Int.toNat_natCast, el_X5_readTable_1 (r1 ..) _ (zo_10 _) _, el_X5_readTable_9 (r2 ..) _ _, el_X5_readTable_17 (r3 ..) _ (zo_10 _) _, el_X5_readTable_26 (r4 ..) _ (zo_10 _) _]))
    exact hQ
  · rw [upS_ne (by omega), upS_ne (by omega)]
    exact al a h1 (by omega)
  · rw [upS_ne (by omega), upS_ne (by omega)]
    exact q4
  · rw [upS_ne (by omega), upS_ne (by omega), al _ (by omega) (by omega)]
    exact p2
  · by_cases h1 : j = 1
    · subst h1
      rw [upS_ne (by omega), upS_eq, al _ (by omega) (by omega), s1]
      rfl
    · by_cases h2 : j = 2
      · subst h2
        rw [upS_eq, al _ (by omega) (by omega), s2]
        rfl
      · rw [upS_ne (by omega), upS_ne (by omega), al _ (by omega) (by omega)]
        exact (p3 j hj).trans ((upR_ne h2).trans (upR_ne h1)).symm
  · by_cases h1 : j = 1
    · subst h1
      rw [upS_ne (by omega), upS_ne (by omega), g4 _ (by omega), g3 _ (by omega), m2]
      rfl
    · rw [upS_ne (by omega), upS_ne (by omega), al _ (by omega) (by omega)]
      exact (p4 j hj).trans (upR_ne h1).symm
theorem c_readWind {T : Nat → Nat × Nat} {S : Nat → Nat → Int} {c : pm_M × pm_C} {t s x : Nat} {b : Nat → Int} {P : pS} (hL : pL T t s x) (hP : pR S t s x b P) (hO : pO P) (hb : tpB b) :
    ∃ S', px_R 4 40 [.ref x, .ref t, .ref s, .retAddr 0, .retAddr 0, .retAddr 0, .retAddr 0] (zh T S c) (.inl none) (zh T S' c) ∧ pFr t s x S S' ∧ pR S' t s x b (rdWind b P) := by
  obtain ⟨l9, l4, l5, d1, d2, d3⟩ := hL
  obtain ⟨t0, t1⟩ := id l9
  obtain ⟨u0, u1, u2, u3, u4, u5, u6, u7⟩ := id l4
  obtain ⟨v0, v1, v2⟩ := id l5
  obtain ⟨p1, p2, p3, p4⟩ := hP
  obtain ⟨o1, o2, o3, o4, o5⟩ := hO
  have x1 := p4 2 (by decide)
  have s3 := p3 3 (by decide)
  have s4 := p3 4 (by decide)
  have s5 := p3 5 (by decide)
  unfold rdWind
  obtain ⟨S1, r1, q1, g1⟩ := zz_adv (c := c) l9 p1 p2 o1 hb
  have f1 := tpF_adv (b := b) o1.A
  generalize adv b P.1 = F1 at *
  dsimp only
  obtain ⟨S2, r2, q2, m2, g2⟩ := zz_ut (c := c) (S := S1) (a := x + 2) (e := P.2.2 2) l9 v2 (by omega) q1 (by rw [g1 _ (by omega)]; exact p2) (by rw [g1 _ (by omega)]; exact x1) f1 hb (fun j hj => o5 2 j (by decide) (by decide) hj)
  have hu := nhV_r (lo := 0) (hi := 9) (F := F1) (by decide)
  have hu9 : utV F1 < 10 := by unfold utV; omega
  have f2 := tpF_ut (b := b) (e := P.2.2 2) f1
  generalize utF b (P.2.2 2) F1 = F2 at *
  generalize utV F1 = k at *
  obtain ⟨S3, r3, q3, g3⟩ := zz_sig (c := c) (S := S2) (b := b) (hi := 5) l9 q2 (by rw [g2 _ (by omega) (by omega), g1 _ (by omega)]; exact p2) f2 hb (by decide)
  have f3 := tpF_tg (b := b) (hi := 5) f2
  generalize tgV b 5 F2 = V1 at *
  generalize tgF b 5 F2 = F3 at *
  obtain ⟨S4, r4, q4, g4⟩ := zz_sig (c := c) (S := S3) (b := b) (hi := 5) l9 q3 (by rw [g3 _ (by omega), g2 _ (by omega) (by omega), g1 _ (by omega)]; exact p2) f3 hb (by decide)
  have f4 := tpF_tg (b := b) (hi := 5) f3
  generalize tgV b 5 F3 = V2 at *
  generalize tgF b 5 F3 = F4 at *
  have e4 : S4 (t + 1) = b := by rw [g4 _ (by omega), g3 _ (by omega), g2 _ (by omega) (by omega), g1 _ (by omega)]; exact p2
  have hN := c_isNumber (T := T) (S := S4) (c := c) l9 (by rw [q4]; exact f4)
  rw [q4] at hN
  obtain ⟨S5, r5, q5, g5⟩ := zz_num (c := c) (S := S4) (b := b) (lo := 0) (hi := 99) l9 q4 e4 f4 hb (by decide) (by decide)
  -- the end, by what the weight is
  have fin : ∀ (S6 : Nat → Nat → Int) (F6 : Nat → Int) (V : Int), S6 t = F6 → (∀ a, a ≠ t → S6 a = S4 a) → (∀ Q, px_Ev 4 40 45 [.ref x, .ref t, .ref s, .int (zI k), .int (zI V1), .int (zI V2), .retAddr 0] [.int (zI V)] (zh T S6 c) Q → px_Ev 4 40 0 [.ref x, .ref t, .ref s, .retAddr 0, .retAddr 0, .retAddr 0, .retAddr 0] [] (zh T S c) Q) →
      ∃ S', px_R 4 40 [.ref x, .ref t, .ref s, .retAddr 0, .retAddr 0, .retAddr 0, .retAddr 0] (zh T S c) (.inl none) (zh T S' c) ∧ pFr t s x S S' ∧ pR S' t s x b (F6, upR (upR (upR P.2.1 3 (upz (P.2.1 3) k V1)) 4 (upz (P.2.1 4) k V2)) 5 (upz (P.2.1 5) k V), upR P.2.2 2 (upz (P.2.2 2) k 1)) := by
    intro S6 F6 V q6 g6 run
    have al : ∀ a, a ≠ t → a ≠ x + 2 → S6 a = S a := fun a h1 h2 => by rw [g6 a h1, g4 a h1, g3 a h1, g2 a h1 h2, g1 a h1]
    refine ⟨upS (upS (upS S6 (s + 3) (upz (S6 (s + 3)) k V1)) (s + 4) (upz (S6 (s + 4)) k V2)) (s + 5) (upz (S6 (s + 5)) k V), px_ofQ fun Q hQ => run Q ?_, fun a h1 h2 h3 => ?_, ?_, ?_, fun j hj => ?_, fun j hj => ?_⟩
    · (simp (disch := first | with_reducible assumption | omega | decide | (simp only [ps_low, List.map_cons, List.map_nil, Value.category, List.sum_cons, List.sum_nil]; decide)) only [el_X5_readWind_45, el_X5_readWind_47, el_X5_readWind_48, el_X5_readWind_51, el_X5_readWind_52, el_X5_readWind_54, el_X5_readWind_57, el_X5_readWind_58, el_X5_readWind_61, el_X5_readWind_62, el_X5_readWind_64, el_X5_readWind_65, el_X5_readWind_66, el_X5_readWind_69, el_X5_readWind_70, el_X5_readWind_72, el_X5_readWind_73, el_X5_readWind_74, el_X5_readWind_77, el_X5_readWind_78, el_X5_readWind_80, el_X5_readWind_81, gf_4_10, gf_4_11, gf_4_9, px_ifp, px_ifn, zh_1, zc_1, zc_2, zc_3, zc_4, zc_5, zc_6, zc_7, zc_8, zc_9, zc_10, zc_11, zc_12, zc_20, zc_21, zc_22, zp_1, zp_2, zp_3, zp_4, zp_5, zp_6, zp_7, zp_8, zp_9, zp_10, zp_11, zp_12, zp_20, zp_21, zp_22, upS_eq, upS_ne, upS_up, upz_eq, upz_ne, upz_up, px_al_aI, px_as_aI, px_as_aZ, px_as_aC, px_ln_aI, Option.toList, List.cons_append, List.nil_append, Int.reduceAdd, Int.reduceSub, Int.reduceMul, ↓reduceIte, Nat.reduceEqDiff, eq_self, Int.reduceEq, Int.reduceLT, Int.reduceLE, Int.reduceNe, Int.reduceNeg, Int.reduceToNat, ne_eq, not_true_eq_false, not_false_eq_true, t0, t1, u0, u1, u2, u3, u4, u5, u6, u7, v0, v1, v2, Int.toNat_natCast]; repeat (first | simp (disch := first | omega | decide) only [upz_srt, upy_upz, upz_up, upS_srt, upT_upS, upS_up] | simp (disch := first | with_reducible assumption | omega | decide | (simp only [ps_low, List.map_cons, List.map_nil, Value.category, List.sum_cons, List.sum_nil]; decide)) only [el_X5_readWind_45, el_X5_readWind_47, el_X5_readWind_48, el_X5_readWind_51, el_X5_readWind_52, el_X5_readWind_54, el_X5_readWind_57, el_X5_readWind_58, el_X5_readWind_61, el_X5_readWind_62, el_X5_readWind_64, el_X5_readWind_65, el_X5_readWind_66, el_X5_readWind_69, el_X5_readWind_70, el_X5_readWind_72, el_X5_readWind_73, el_X5_readWind_74, el_X5_readWind_77, el_X5_readWind_78, el_X5_readWind_80, el_X5_readWind_81, gf_4_10, gf_4_11, gf_4_9, px_ifp, px_ifn, zh_1, zc_1, zc_2, zc_3, zc_4, zc_5, zc_6, zc_7, zc_8, zc_9, zc_10, zc_11, zc_12, zc_20, zc_21, zc_22, zp_1, zp_2, zp_3, zp_4, zp_5, zp_6, zp_7, zp_8, zp_9, zp_10, zp_11, zp_12, zp_20, zp_21, zp_22, upS_eq, upS_ne, upS_up, upz_eq, upz_ne, upz_up, px_al_aI, px_as_aI, px_as_aZ, px_as_aC, px_ln_aI, Option.toList, List.cons_append, List.nil_append, Int.reduceAdd, Int.reduceSub, Int.reduceMul, ↓reduceIte, Nat.reduceEqDiff, eq_self, Int.reduceEq, Int.reduceLT, Int.reduceLE, Int.reduceNe, Int.reduceNeg, Int.reduceToNat, ne_eq, not_true_eq_false, not_false_eq_true, t0, t1, u0, u1, u2, u3, u4, u5, u6, u7, v0, v1, v2, Int.toNat_natCast]))
      exact hQ
    · rw [upS_ne (by omega), upS_ne (by omega), upS_ne (by omega)]
      exact al a h1 (by omega)
    · rw [upS_ne (by omega), upS_ne (by omega), upS_ne (by omega)]
      exact q6
    · rw [upS_ne (by omega), upS_ne (by omega), upS_ne (by omega), al _ (by omega) (by omega)]
      exact p2
    · by_cases h1 : j = 3
      · subst h1
        rw [upS_ne (by omega), upS_ne (by omega), upS_eq, al _ (by omega) (by omega), s3]
        rfl
      · by_cases h2 : j = 4
        · subst h2
          rw [upS_ne (by omega), upS_eq, al _ (by omega) (by omega), s4]
          rfl
        · by_cases h3 : j = 5
          · subst h3
            rw [upS_eq, al _ (by omega) (by omega), s5]
            rfl
          · rw [upS_ne (by omega), upS_ne (by omega), upS_ne (by omega), al _ (by omega) (by omega)]
            exact (p3 j hj).trans (((upR_ne h3).trans (upR_ne h2)).trans (upR_ne h1)).symm
    · by_cases h1 : j = 2
      · subst h1
        rw [upS_ne (by omega), upS_ne (by omega), upS_ne (by omega), g6 _ (by omega), g4 _ (by omega), g3 _ (by omega), m2]
        rfl
      · rw [upS_ne (by omega), upS_ne (by omega), upS_ne (by omega), al _ (by omega) (by omega)]
        exact (p4 j hj).trans (upR_ne h1).symm
  by_cases hz : F4 5 = 2
  · rw [if_pos hz] at hN
    rw [if_pos hz, if_pos hz]
    refine fin S5 _ _ q5 g5 (fun Q hQ => ?_)
    (simp (disch := first | with_reducible assumption | omega | decide | (simp only [ps_low, List.map_cons, List.map_nil, Value.category, List.sum_cons, List.sum_nil]; decide)) only [el_X5_readWind_0, el_X5_readWind_4, el_X5_readWind_5, el_X5_readWind_6, el_X5_readWind_12, el_X5_readWind_13, el_X5_readWind_14, el_X5_readWind_18, el_X5_readWind_20, el_X5_readWind_21, el_X5_readWind_25, el_X5_readWind_27, el_X5_readWind_31, el_X5_readWind_34, el_X5_readWind_35, el_X5_readWind_36, el_X5_readWind_41, gf_5_4, px_ifp, px_ifn, zh_1, zc_1, zc_2, zc_3, zc_4, zc_5, zc_6, zc_7, zc_8, zc_9, zc_10, zc_11, zc_12, zc_20, zc_21, zc_22, zp_1, zp_2, zp_3, zp_4, zp_5, zp_6, zp_7, zp_8, zp_9, zp_10, zp_11, zp_12, zp_20, zp_21, zp_22, upS_eq, upS_ne, upS_up, upz_eq, upz_ne, upz_up, px_al_aI, px_as_aI, px_as_aZ, px_as_aC, px_ln_aI, Option.toList, List.cons_append, List.nil_append, Int.reduceAdd, Int.reduceSub, Int.reduceMul, ↓reduceIte, Nat.reduceEqDiff, eq_self, Int.reduceEq, Int.reduceLT, Int.reduceLE, Int.reduceNe, Int.reduceNeg, Int.reduceToNat, ne_eq, not_true_eq_false, not_false_eq_true, t0, t1, u0, u1, u2, u3, u4, u5, u6, u7, v0, v1, v2, el_X5_readWind_1 (r1 ..) _ (zo_10 _) _, el_X5_readWind_9 (r2 ..) _ _, el_X5_readWind_15 (r3 ..) _ (zo_10 _) _, el_X5_readWind_22 (r4 ..) _ (zo_10 _) _, el_X5_readWind_28 (hN ..) _ (zo_10 _) _, el_X5_readWind_38 (r5 ..) _ (zo_10 _) _]; repeat (first | simp (disch := first | omega | decide) only [upz_srt, upy_upz, upz_up, upS_srt, upT_upS, upS_up] | simp (disch := first | with_reducible assumption | omega | decide | (simp only [ps_low, List.map_cons, List.map_nil, Value.category, List.sum_cons, List.sum_nil]; decide)) only [el_X5_readWind_0, el_X5_readWind_4, el_X5_readWind_5, el_X5_readWind_6, el_X5_readWind_12, el_X5_readWind_13, el_X5_readWind_14, el_X5_readWind_18, el_X5_readWind_20, el_X5_readWind_21, el_X5_readWind_25, el_X5_readWind_27, el_X5_readWind_31, el_X5_readWind_34, el_X5_readWind_35, el_X5_readWind_36, el_X5_readWind_41, gf_5_4, px_ifp, px_ifn, zh_1, zc_1, zc_2, zc_3, zc_4, zc_5, zc_6, zc_7, zc_8, zc_9, zc_10, zc_11, zc_12, zc_20, zc_21, zc_22, zp_1, zp_2, zp_3, zp_4, zp_5, zp_6, zp_7, zp_8, zp_9, zp_10, zp_11, zp_12, zp_20, zp_21, zp_22, upS_eq, upS_ne, upS_up, upz_eq, upz_ne, upz_up, px_al_aI, px_as_aI, px_as_aZ, px_as_aC, px_ln_aI, Option.toList, List.cons_append, List.nil_append, Int.reduceAdd, Int.reduceSub, Int.reduceMul, ↓reduceIte, Nat.reduceEqDiff, eq_self, Int.reduceEq, Int.reduceLT, Int.reduceLE, Int.reduceNe, Int.reduceNeg, Int.reduceToNat, ne_eq, not_true_eq_false, not_false_eq_true, t0, t1, u0, u1, u2, u3, u4, u5, u6, u7, v0, v1, v2, el_X5_readWind_1 (r1 ..) _ (zo_10 _) _, el_X5_readWind_9 (r2 ..) _ _, el_X5_readWind_15 (r3 ..) _ (zo_10 _) _, el_X5_readWind_22 (r4 ..) _ (zo_10 _) _, el_X5_readWind_28 (hN ..) _ (zo_10 _) _, el_X5_readWind_38 (r5 ..) _ (zo_10 _) _]))
    exact hQ
  · rw [if_neg hz] at hN
    rw [if_neg hz, if_neg hz]
    refine fin S4 _ _ q4 (fun a _ => rfl) (fun Q hQ => ?_)
    (simp (disch := first | with_reducible assumption | omega | decide | (simp only [ps_low, List.map_cons, List.map_nil, Value.category, List.sum_cons, List.sum_nil]; decide)) only [el_X5_readWind_0, el_X5_readWind_4, el_X5_readWind_5, el_X5_readWind_6, el_X5_readWind_12, el_X5_readWind_13, el_X5_readWind_14, el_X5_readWind_18, el_X5_readWind_20, el_X5_readWind_21, el_X5_readWind_25, el_X5_readWind_27, el_X5_readWind_31, el_X5_readWind_34, el_X5_readWind_35, el_X5_readWind_36, el_X5_readWind_41, el_X5_readWind_44, gf_5_4, px_ifp, px_ifn, zh_1, zc_1, zc_2, zc_3, zc_4, zc_5, zc_6, zc_7, zc_8, zc_9, zc_10, zc_11, zc_12, zc_20, zc_21, zc_22, zp_1, zp_2, zp_3, zp_4, zp_5, zp_6, zp_7, zp_8, zp_9, zp_10, zp_11, zp_12, zp_20, zp_21, zp_22, upS_eq, upS_ne, upS_up, upz_eq, upz_ne, upz_up, px_al_aI, px_as_aI, px_as_aZ, px_as_aC, px_ln_aI, Option.toList, List.cons_append, List.nil_append, Int.reduceAdd, Int.reduceSub, Int.reduceMul, ↓reduceIte, Nat.reduceEqDiff, eq_self, Int.reduceEq, Int.reduceLT, Int.reduceLE, Int.reduceNe, Int.reduceNeg, Int.reduceToNat, ne_eq, not_true_eq_false, not_false_eq_true, t0, t1, u0, u1, u2, u3, u4, u5, u6, u7, v0, v1, v2, el_X5_readWind_1 (r1 ..) _ (zo_10 _) _, el_X5_readWind_9 (r2 ..) _ _, el_X5_readWind_15 (r3 ..) _ (zo_10 _) _, el_X5_readWind_22 (r4 ..) _ (zo_10 _) _, el_X5_readWind_28 (hN ..) _ (zo_10 _) _]; repeat (first | simp (disch := first | omega | decide) only [upz_srt, upy_upz, upz_up, upS_srt, upT_upS, upS_up] | simp (disch := first | with_reducible assumption | omega | decide | (simp only [ps_low, List.map_cons, List.map_nil, Value.category, List.sum_cons, List.sum_nil]; decide)) only [el_X5_readWind_0, el_X5_readWind_4, el_X5_readWind_5, el_X5_readWind_6, el_X5_readWind_12, el_X5_readWind_13, el_X5_readWind_14, el_X5_readWind_18, el_X5_readWind_20, el_X5_readWind_21, el_X5_readWind_25, el_X5_readWind_27, el_X5_readWind_31, el_X5_readWind_34, el_X5_readWind_35, el_X5_readWind_36, el_X5_readWind_41, el_X5_readWind_44, gf_5_4, px_ifp, px_ifn, zh_1, zc_1, zc_2, zc_3, zc_4, zc_5, zc_6, zc_7, zc_8, zc_9, zc_10, zc_11, zc_12, zc_20, zc_21, zc_22, zp_1, zp_2, zp_3, zp_4, zp_5, zp_6, zp_7, zp_8, zp_9, zp_10, zp_11, zp_12, zp_20, zp_21, zp_22, upS_eq, upS_ne, upS_up, upz_eq, upz_ne, upz_up, px_al_aI, px_as_aI, px_as_aZ, px_as_aC, px_ln_aI, Option.toList, List.cons_append, List.nil_append, Int.reduceAdd, Int.reduceSub, Int.reduceMul, ↓reduceIte, Nat.reduceEqDiff, eq_self, Int.reduceEq, Int.reduceLT, Int.reduceLE, Int.reduceNe, Int.reduceNeg, Int.reduceToNat, ne_eq, not_true_eq_false, not_false_eq_true, t0, t1, u0, u1, u2, u3, u4, u5, u6, u7, v0, v1, v2, el_X5_readWind_1 (r1 ..) _ (zo_10 _) _, el_X5_readWind_9 (r2 ..) _ _, el_X5_readWind_15 (r3 ..) _ (zo_10 _) _, el_X5_readWind_22 (r4 ..) _ (zo_10 _) _, el_X5_readWind_28 (hN ..) _ (zo_10 _) _]))
    exact hQ
theorem knB_iff {D : Nat → Nat → Int} {x y : Int} (h : 0 ≤ D 0 6) : knB D x y = true ↔ ∃ i : Nat, (i : Int) < D 0 6 ∧ D 6 i = x ∧ D 7 i = y := by
  unfold knB
  rw [List.any_eq_true]
  constructor
  · rintro ⟨i, hi, he⟩
    rw [Bool.and_eq_true, decide_eq_true_iff, decide_eq_true_iff] at he
    have := List.mem_range.mp hi
    exact ⟨i, by omega, he⟩
  · rintro ⟨i, hi, he⟩
    exact ⟨i, List.mem_range.mpr (by omega), by rw [Bool.and_eq_true, decide_eq_true_iff, decide_eq_true_iff]; exact he⟩
theorem c_readKnown {T : Nat → Nat × Nat} {S : Nat → Nat → Int} {c : pm_M × pm_C} {t s x : Nat} {b : Nat → Int} {P : pS} (hL : pL T t s x) (hP : pR S t s x b P) (hO : pO P) (hb : tpB b) (hC : tcx c.2) :
    ∃ S', px_R 6 44 [.ref x, .ref t, .ref s, .retAddr 0, .retAddr 0] (zh T S c) (.inl none) (zh T S' c) ∧ pFr t s x S S' ∧ pR S' t s x b (rdKnown b P) := by
  obtain ⟨l9, l4, l5, d1, d2, d3⟩ := hL
  obtain ⟨t0, t1⟩ := id l9
  obtain ⟨u0, u1, u2, u3, u4, u5, u6, u7⟩ := id l4
  obtain ⟨v0, v1, v2⟩ := id l5
  obtain ⟨p1, p2, p3, p4⟩ := hP
  obtain ⟨o1, o2, o3, o4, o5⟩ := hO
  have s0 := p3 0 (by decide)
  have s6 := p3 6 (by decide)
  have s7 := p3 7 (by decide)
  rw [Nat.add_zero] at s0
  unfold rdKnown
  have st1 : ∃ S1, S1 t = (if 10 ≤ P.2.1 0 6 then rfF 2 P.1 else P.1) ∧ (∀ a, a ≠ t → S1 a = S a) ∧ ∀ Q, px_Ev 6 44 14 [.ref x, .ref t, .ref s, .retAddr 0, .retAddr 0] [] (zh T S1 c) Q → px_Ev 6 44 0 [.ref x, .ref t, .ref s, .retAddr 0, .retAddr 0] [] (zh T S c) Q := by
    by_cases e : 10 ≤ P.2.1 0 6
    · obtain ⟨S1, r1, q1, g1⟩ := zz_ref (c := c) (k := 2) l9 p1 o1
      refine ⟨S1, by rw [if_pos e]; exact q1, g1, fun Q hQ => ?_⟩
      (simp (disch := first | with_reducible assumption | omega | decide | (simp only [ps_low, List.map_cons, List.map_nil, Value.category, List.sum_cons, List.sum_nil]; decide)) only [el_X5_readKnown_0, el_X5_readKnown_1, el_X5_readKnown_4, el_X5_readKnown_6, el_X5_readKnown_9, el_X5_readKnown_10, gf_4_6, px_ifp, px_ifn, zh_1, zc_1, zc_2, zc_3, zc_4, zc_5, zc_6, zc_7, zc_8, zc_9, zc_10, zc_11, zc_12, zc_20, zc_21, zc_22, zp_1, zp_2, zp_3, zp_4, zp_5, zp_6, zp_7, zp_8, zp_9, zp_10, zp_11, zp_12, zp_20, zp_21, zp_22, upS_eq, upS_ne, upS_up, upz_eq, upz_ne, upz_up, px_al_aI, px_as_aI, px_as_aZ, px_as_aC, px_ln_aI, Option.toList, List.cons_append, List.nil_append, Int.reduceAdd, Int.reduceSub, Int.reduceMul, ↓reduceIte, Nat.reduceEqDiff, eq_self, Int.reduceEq, Int.reduceLT, Int.reduceLE, Int.reduceNe, Int.reduceNeg, Int.reduceToNat, ne_eq, not_true_eq_false, not_false_eq_true, t0, t1, u0, u1, u2, u3, u4, u5, u6, u7, v0, v1, v2, s0, el_X5_readKnown_11 (r1 ..) _ (zo_10 _) _]; repeat (first | simp (disch := first | omega | decide) only [upz_srt, upy_upz, upz_up, upS_srt, upT_upS, upS_up] | simp (disch := first | with_reducible assumption | omega | decide | (simp only [ps_low, List.map_cons, List.map_nil, Value.category, List.sum_cons, List.sum_nil]; decide)) only [el_X5_readKnown_0, el_X5_readKnown_1, el_X5_readKnown_4, el_X5_readKnown_6, el_X5_readKnown_9, el_X5_readKnown_10, gf_4_6, px_ifp, px_ifn, zh_1, zc_1, zc_2, zc_3, zc_4, zc_5, zc_6, zc_7, zc_8, zc_9, zc_10, zc_11, zc_12, zc_20, zc_21, zc_22, zp_1, zp_2, zp_3, zp_4, zp_5, zp_6, zp_7, zp_8, zp_9, zp_10, zp_11, zp_12, zp_20, zp_21, zp_22, upS_eq, upS_ne, upS_up, upz_eq, upz_ne, upz_up, px_al_aI, px_as_aI, px_as_aZ, px_as_aC, px_ln_aI, Option.toList, List.cons_append, List.nil_append, Int.reduceAdd, Int.reduceSub, Int.reduceMul, ↓reduceIte, Nat.reduceEqDiff, eq_self, Int.reduceEq, Int.reduceLT, Int.reduceLE, Int.reduceNe, Int.reduceNeg, Int.reduceToNat, ne_eq, not_true_eq_false, not_false_eq_true, t0, t1, u0, u1, u2, u3, u4, u5, u6, u7, v0, v1, v2, s0, el_X5_readKnown_11 (r1 ..) _ (zo_10 _) _]))
      exact hQ
    · refine ⟨S, by rw [if_neg e]; exact p1, fun a _ => rfl, fun Q hQ => ?_⟩
      (simp (disch := first | with_reducible assumption | omega | decide | (simp only [ps_low, List.map_cons, List.map_nil, Value.category, List.sum_cons, List.sum_nil]; decide)) only [el_X5_readKnown_0, el_X5_readKnown_1, el_X5_readKnown_4, el_X5_readKnown_6, el_X5_readKnown_9, el_X5_readKnown_10, gf_4_6, px_ifp, px_ifn, zh_1, zc_1, zc_2, zc_3, zc_4, zc_5, zc_6, zc_7, zc_8, zc_9, zc_10, zc_11, zc_12, zc_20, zc_21, zc_22, zp_1, zp_2, zp_3, zp_4, zp_5, zp_6, zp_7, zp_8, zp_9, zp_10, zp_11, zp_12, zp_20, zp_21, zp_22, upS_eq, upS_ne, upS_up, upz_eq, upz_ne, upz_up, px_al_aI, px_as_aI, px_as_aZ, px_as_aC, px_ln_aI, Option.toList, List.cons_append, List.nil_append, Int.reduceAdd, Int.reduceSub, Int.reduceMul, ↓reduceIte, Nat.reduceEqDiff, eq_self, Int.reduceEq, Int.reduceLT, Int.reduceLE, Int.reduceNe, Int.reduceNeg, Int.reduceToNat, ne_eq, not_true_eq_false, not_false_eq_true, t0, t1, u0, u1, u2, u3, u4, u5, u6, u7, v0, v1, v2, s0]; repeat (first | simp (disch := first | omega | decide) only [upz_srt, upy_upz, upz_up, upS_srt, upT_upS, upS_up] | simp (disch := first | with_reducible assumption | omega | decide | (simp only [ps_low, List.map_cons, List.map_nil, Value.category, List.sum_cons, List.sum_nil]; decide)) only [el_X5_readKnown_0, el_X5_readKnown_1, el_X5_readKnown_4, el_X5_readKnown_6, el_X5_readKnown_9, el_X5_readKnown_10, gf_4_6, px_ifp, px_ifn, zh_1, zc_1, zc_2, zc_3, zc_4, zc_5, zc_6, zc_7, zc_8, zc_9, zc_10, zc_11, zc_12, zc_20, zc_21, zc_22, zp_1, zp_2, zp_3, zp_4, zp_5, zp_6, zp_7, zp_8, zp_9, zp_10, zp_11, zp_12, zp_20, zp_21, zp_22, upS_eq, upS_ne, upS_up, upz_eq, upz_ne, upz_up, px_al_aI, px_as_aI, px_as_aZ, px_as_aC, px_ln_aI, Option.toList, List.cons_append, List.nil_append, Int.reduceAdd, Int.reduceSub, Int.reduceMul, ↓reduceIte, Nat.reduceEqDiff, eq_self, Int.reduceEq, Int.reduceLT, Int.reduceLE, Int.reduceNe, Int.reduceNeg, Int.reduceToNat, ne_eq, not_true_eq_false, not_false_eq_true, t0, t1, u0, u1, u2, u3, u4, u5, u6, u7, v0, v1, v2, s0]))
      exact hQ
  obtain ⟨S1, q1, g1, run1⟩ := st1
  have f1 : tpF (if 10 ≤ P.2.1 0 6 then rfF 2 P.1 else P.1) := by
    split
    · exact tpF_rf o1 (by decide)
    · exact o1
  dsimp only
  generalize (if 10 ≤ P.2.1 0 6 then rfF 2 P.1 else P.1) = F1 at *
  obtain ⟨S2, r2, q2, g2⟩ := zz_adv (c := c) (S := S1) (b := b) l9 q1 (by rw [g1 _ (by omega)]; exact p2) f1 hb
  have f2 := tpF_adv (b := b) f1.A
  generalize adv b F1 = F2 at *
  obtain ⟨S3, r3, q3, g3⟩ := zz_side (c := c) (S := S2) (b := b) l9 q2 (by rw [g2 _ (by omega), g1 _ (by omega)]; exact p2) f2 hb hC
  have f3 := tpF_ts (b := b) f2
  have w3 := tsV_r (b := b) (F := F2)
  generalize tsV b F2 = V1 at *
  generalize tsF b F2 = F3 at *
  obtain ⟨S4, r4, q4, g4⟩ := zz_here (c := c) (S := S3) (lo := 1) (hi := 4) l9 q3 f3 (by decide) (by decide)
  have f4 := tpF_nh (lo := 1) (hi := 4) f3
  have w4 := nhV_r (lo := 1) (hi := 4) (F := F3) (by decide)
  generalize nhV 1 4 F3 = V2 at *
  generalize nhF 1 4 F3 = F4 at *
  have a4 : ∀ a, a ≠ t → S4 a = S a := fun a h => by rw [g4 a h, g3 a h, g2 a h, g1 a h]
  have hk := c_isKnown (T := T) (S := S4) (c := c) (q := s) (x := V1) (y := V2) (v := if knB P.2.1 V1 V2 = true then 1 else 0) (by split <;> simp) (by
    rw [a4 s (by omega), a4 _ (by omega), a4 _ (by omega), s0, s6, s7]
    rw [← knB_iff o2.1]
    split
    · rename_i g
      exact ⟨fun _ => g, fun _ => rfl⟩
    · rename_i g
      exact ⟨fun z => absurd z (by decide), fun z => absurd z g⟩) l4 (by rw [a4 s (by omega), s0]; exact o2) (by omega) (by omega) (fun i hi => by
    rw [a4 s (by omega), s0] at hi
    rw [a4 _ (by omega), a4 _ (by omega), s6, s7]
    have := o3 i hi
    omega)
  have st5 : ∃ S5, S5 t = (if knB P.2.1 V1 V2 = true then rfF 4 F4 else F4) ∧ (∀ a, a ≠ t → S5 a = S4 a) ∧ ∀ Q, px_Ev 6 44 46 [.ref x, .ref t, .ref s, .int (zI V1), .int (zI V2)] [] (zh T S5 c) Q → px_Ev 6 44 14 [.ref x, .ref t, .ref s, .retAddr 0, .retAddr 0] [] (zh T S1 c) Q := by
    by_cases e : knB P.2.1 V1 V2 = true
    · rw [if_pos e] at hk
      obtain ⟨S5, r5, q5, g5⟩ := zz_ref (c := c) (k := 4) l9 q4 f4
      refine ⟨S5, by rw [if_pos e]; exact q5, g5, fun Q hQ => ?_⟩
      (simp (disch := first | with_reducible assumption | omega | decide | (simp only [ps_low, List.map_cons, List.map_nil, Value.category, List.sum_cons, List.sum_nil]; decide)) only [el_X5_readKnown_14, el_X5_readKnown_18, el_X5_readKnown_22, el_X5_readKnown_23, el_X5_readKnown_24, el_X5_readKnown_25, el_X5_readKnown_29, el_X5_readKnown_31, el_X5_readKnown_32, el_X5_readKnown_33, el_X5_readKnown_38, el_X5_readKnown_41, el_X5_readKnown_42, px_ifp, px_ifn, zh_1, zc_1, zc_2, zc_3, zc_4, zc_5, zc_6, zc_7, zc_8, zc_9, zc_10, zc_11, zc_12, zc_20, zc_21, zc_22, zp_1, zp_2, zp_3, zp_4, zp_5, zp_6, zp_7, zp_8, zp_9, zp_10, zp_11, zp_12, zp_20, zp_21, zp_22, upS_eq, upS_ne, upS_up, upz_eq, upz_ne, upz_up, px_al_aI, px_as_aI, px_as_aZ, px_as_aC, px_ln_aI, Option.toList, List.cons_append, List.nil_append, Int.reduceAdd, Int.reduceSub, Int.reduceMul, ↓reduceIte, Nat.reduceEqDiff, eq_self, Int.reduceEq, Int.reduceLT, Int.reduceLE, Int.reduceNe, Int.reduceNeg, Int.reduceToNat, ne_eq, not_true_eq_false, not_false_eq_true, t0, t1, u0, u1, u2, u3, u4, u5, u6, u7, v0, v1, v2, el_X5_readKnown_15 (r2 ..) _ (zo_10 _) _, el_X5_readKnown_19 (r3 ..) _ (zo_10 _) _, el_X5_readKnown_26 (r4 ..) _ (zo_10 _) _, el_X5_readKnown_35 (hk ..) _ (zo_5 _) _, el_X5_readKnown_43 (r5 ..) _ (zo_10 _) _]; repeat (first | simp (disch := first | omega | decide) only [upz_srt, upy_upz, upz_up, upS_srt, upT_upS, upS_up] | simp (disch := first | with_reducible assumption | omega | decide | (simp only [ps_low, List.map_cons, List.map_nil, Value.category, List.sum_cons, List.sum_nil]; decide)) only [el_X5_readKnown_14, el_X5_readKnown_18, el_X5_readKnown_22, el_X5_readKnown_23, el_X5_readKnown_24, el_X5_readKnown_25, el_X5_readKnown_29, el_X5_readKnown_31, el_X5_readKnown_32, el_X5_readKnown_33, el_X5_readKnown_38, el_X5_readKnown_41, el_X5_readKnown_42, px_ifp, px_ifn, zh_1, zc_1, zc_2, zc_3, zc_4, zc_5, zc_6, zc_7, zc_8, zc_9, zc_10, zc_11, zc_12, zc_20, zc_21, zc_22, zp_1, zp_2, zp_3, zp_4, zp_5, zp_6, zp_7, zp_8, zp_9, zp_10, zp_11, zp_12, zp_20, zp_21, zp_22, upS_eq, upS_ne, upS_up, upz_eq, upz_ne, upz_up, px_al_aI, px_as_aI, px_as_aZ, px_as_aC, px_ln_aI, Option.toList, List.cons_append, List.nil_append, Int.reduceAdd, Int.reduceSub, Int.reduceMul, ↓reduceIte, Nat.reduceEqDiff, eq_self, Int.reduceEq, Int.reduceLT, Int.reduceLE, Int.reduceNe, Int.reduceNeg, Int.reduceToNat, ne_eq, not_true_eq_false, not_false_eq_true, t0, t1, u0, u1, u2, u3, u4, u5, u6, u7, v0, v1, v2, el_X5_readKnown_15 (r2 ..) _ (zo_10 _) _, el_X5_readKnown_19 (r3 ..) _ (zo_10 _) _, el_X5_readKnown_26 (r4 ..) _ (zo_10 _) _, el_X5_readKnown_35 (hk ..) _ (zo_5 _) _, el_X5_readKnown_43 (r5 ..) _ (zo_10 _) _]))
      exact hQ
    · rw [if_neg e] at hk
      refine ⟨S4, by rw [if_neg e]; exact q4, fun a _ => rfl, fun Q hQ => ?_⟩
      (simp (disch := first | with_reducible assumption | omega | decide | (simp only [ps_low, List.map_cons, List.map_nil, Value.category, List.sum_cons, List.sum_nil]; decide)) only [el_X5_readKnown_14, el_X5_readKnown_18, el_X5_readKnown_22, el_X5_readKnown_23, el_X5_readKnown_24, el_X5_readKnown_25, el_X5_readKnown_29, el_X5_readKnown_31, el_X5_readKnown_32, el_X5_readKnown_33, el_X5_readKnown_38, el_X5_readKnown_41, el_X5_readKnown_42, px_ifp, px_ifn, zh_1, zc_1, zc_2, zc_3, zc_4, zc_5, zc_6, zc_7, zc_8, zc_9, zc_10, zc_11, zc_12, zc_20, zc_21, zc_22, zp_1, zp_2, zp_3, zp_4, zp_5, zp_6, zp_7, zp_8, zp_9, zp_10, zp_11, zp_12, zp_20, zp_21, zp_22, upS_eq, upS_ne, upS_up, upz_eq, upz_ne, upz_up, px_al_aI, px_as_aI, px_as_aZ, px_as_aC, px_ln_aI, Option.toList, List.cons_append, List.nil_append, Int.reduceAdd, Int.reduceSub, Int.reduceMul, ↓reduceIte, Nat.reduceEqDiff, eq_self, Int.reduceEq, Int.reduceLT, Int.reduceLE, Int.reduceNe, Int.reduceNeg, Int.reduceToNat, ne_eq, not_true_eq_false, not_false_eq_true, t0, t1, u0, u1, u2, u3, u4, u5, u6, u7, v0, v1, v2, el_X5_readKnown_15 (r2 ..) _ (zo_10 _) _, el_X5_readKnown_19 (r3 ..) _ (zo_10 _) _, el_X5_readKnown_26 (r4 ..) _ (zo_10 _) _, el_X5_readKnown_35 (hk ..) _ (zo_5 _) _]; repeat (first | simp (disch := first | omega | decide) only [upz_srt, upy_upz, upz_up, upS_srt, upT_upS, upS_up] | simp (disch := first | with_reducible assumption | omega | decide | (simp only [ps_low, List.map_cons, List.map_nil, Value.category, List.sum_cons, List.sum_nil]; decide)) only [el_X5_readKnown_14, el_X5_readKnown_18, el_X5_readKnown_22, el_X5_readKnown_23, el_X5_readKnown_24, el_X5_readKnown_25, el_X5_readKnown_29, el_X5_readKnown_31, el_X5_readKnown_32, el_X5_readKnown_33, el_X5_readKnown_38, el_X5_readKnown_41, el_X5_readKnown_42, px_ifp, px_ifn, zh_1, zc_1, zc_2, zc_3, zc_4, zc_5, zc_6, zc_7, zc_8, zc_9, zc_10, zc_11, zc_12, zc_20, zc_21, zc_22, zp_1, zp_2, zp_3, zp_4, zp_5, zp_6, zp_7, zp_8, zp_9, zp_10, zp_11, zp_12, zp_20, zp_21, zp_22, upS_eq, upS_ne, upS_up, upz_eq, upz_ne, upz_up, px_al_aI, px_as_aI, px_as_aZ, px_as_aC, px_ln_aI, Option.toList, List.cons_append, List.nil_append, Int.reduceAdd, Int.reduceSub, Int.reduceMul, ↓reduceIte, Nat.reduceEqDiff, eq_self, Int.reduceEq, Int.reduceLT, Int.reduceLE, Int.reduceNe, Int.reduceNeg, Int.reduceToNat, ne_eq, not_true_eq_false, not_false_eq_true, t0, t1, u0, u1, u2, u3, u4, u5, u6, u7, v0, v1, v2, el_X5_readKnown_15 (r2 ..) _ (zo_10 _) _, el_X5_readKnown_19 (r3 ..) _ (zo_10 _) _, el_X5_readKnown_26 (r4 ..) _ (zo_10 _) _, el_X5_readKnown_35 (hk ..) _ (zo_5 _) _]))
      exact hQ
  obtain ⟨S5, q5, g5, run5⟩ := st5
  have f5 : tpF (if knB P.2.1 V1 V2 = true then rfF 4 F4 else F4) := by
    split
    · exact tpF_rf f4 (by decide)
    · exact f4
  generalize (if knB P.2.1 V1 V2 = true then rfF 4 F4 else F4) = F5 at *
  obtain ⟨S6, r6, q6, g6⟩ := zz_adv (c := c) (S := S5) (b := b) l9 q5 (by rw [g5 _ (by omega), a4 _ (by omega)]; exact p2) f5 hb
  have a6 : ∀ a, a ≠ t → S6 a = S a := fun a h => by rw [g6 a h, g5 a h, a4 a h]
  have hA := c_addKnown (T := T) (S := S6) (c := c) (q := s) (x := V1) (y := V2) l4 (by rw [a6 s (by omega), s0]; exact o2)
  rw [a6 s (by omega), s0, a6 (s + 6) (by omega), a6 (s + 7) (by omega), s6, s7] at hA
  generalize hS7 : (if P.2.1 0 6 < 10 then upS (upS (upS S6 s (upz (P.2.1 0) 6 (P.2.1 0 6 + 1))) (s + 6) (upz (P.2.1 6) (P.2.1 0 6).toNat V1)) (s + 7) (upz (P.2.1 7) (P.2.1 0 6).toNat V2) else S6) = S7 at hA
  have a7 : ∀ a, (a < s ∨ s + 8 ≤ a) → S7 a = S6 a := fun a h => by
    rw [← hS7]
    split
    · rw [upS_ne (by omega), upS_ne (by omega), upS_ne (by omega)]
    · rfl
  refine ⟨S7, px_ofQ fun Q hQ => run1 Q (run5 Q ?_), fun a h1 h2 h3 => ?_, ?_, ?_, fun k hk => ?_, fun k hk => ?_⟩
  · (simp (disch := first | with_reducible assumption | omega | decide | (simp only [ps_low, List.map_cons, List.map_nil, Value.category, List.sum_cons, List.sum_nil]; decide)) only [el_X5_readKnown_46, el_X5_readKnown_50, el_X5_readKnown_51, el_X5_readKnown_52, el_X5_readKnown_57, px_ifp, px_ifn, zh_1, zc_1, zc_2, zc_3, zc_4, zc_5, zc_6, zc_7, zc_8, zc_9, zc_10, zc_11, zc_12, zc_20, zc_21, zc_22, zp_1, zp_2, zp_3, zp_4, zp_5, zp_6, zp_7, zp_8, zp_9, zp_10, zp_11, zp_12, zp_20, zp_21, zp_22, upS_eq, upS_ne, upS_up, upz_eq, upz_ne, upz_up, px_al_aI, px_as_aI, px_as_aZ, px_as_aC, px_ln_aI, Option.toList, List.cons_append, List.nil_append, Int.reduceAdd, Int.reduceSub, Int.reduceMul, ↓reduceIte, Nat.reduceEqDiff, eq_self, Int.reduceEq, Int.reduceLT, Int.reduceLE, Int.reduceNe, Int.reduceNeg, Int.reduceToNat, ne_eq, not_true_eq_false, not_false_eq_true, t0, t1, u0, u1, u2, u3, u4, u5, u6, u7, v0, v1, v2, el_X5_readKnown_47 (r6 ..) _ (zo_10 _) _, el_X5_readKnown_54 (hA ..) _ (zo_5 _) _]; repeat (first | simp (disch := first | omega | decide) only [upz_srt, upy_upz, upz_up, upS_srt, upT_upS, upS_up] | simp (disch := first | with_reducible assumption | omega | decide | (simp only [ps_low, List.map_cons, List.map_nil, Value.category, List.sum_cons, List.sum_nil]; decide)) only [el_X5_readKnown_46, el_X5_readKnown_50, el_X5_readKnown_51, el_X5_readKnown_52, el_X5_readKnown_57, px_ifp, px_ifn, zh_1, zc_1, zc_2, zc_3, zc_4, zc_5, zc_6, zc_7, zc_8, zc_9, zc_10, zc_11, zc_12, zc_20, zc_21, zc_22, zp_1, zp_2, zp_3, zp_4, zp_5, zp_6, zp_7, zp_8, zp_9, zp_10, zp_11, zp_12, zp_20, zp_21, zp_22, upS_eq, upS_ne, upS_up, upz_eq, upz_ne, upz_up, px_al_aI, px_as_aI, px_as_aZ, px_as_aC, px_ln_aI, Option.toList, List.cons_append, List.nil_append, Int.reduceAdd, Int.reduceSub, Int.reduceMul, ↓reduceIte, Nat.reduceEqDiff, eq_self, Int.reduceEq, Int.reduceLT, Int.reduceLE, Int.reduceNe, Int.reduceNeg, Int.reduceToNat, ne_eq, not_true_eq_false, not_false_eq_true, t0, t1, u0, u1, u2, u3, u4, u5, u6, u7, v0, v1, v2, el_X5_readKnown_47 (r6 ..) _ (zo_10 _) _, el_X5_readKnown_54 (hA ..) _ (zo_5 _) _]))
    exact hQ
  · rw [a7 a h2]
    exact a6 a h1
  · rw [a7 t (by omega)]
    exact q6
  · rw [a7 _ (by omega), a6 _ (by omega)]
    exact p2
  · rw [← hS7]
    change _ = adK P.2.1 V1 V2 k
    unfold adK
    by_cases g : P.2.1 0 6 < 10
    · rw [if_pos g, if_pos g]
      by_cases h7 : k = 7
      · subst h7
        rw [upS_eq, upR_eq]
      · by_cases h6 : k = 6
        · subst h6
          rw [upS_ne (by omega), upS_eq, upR_ne (by decide), upR_eq]
        · by_cases h0 : k = 0
          · subst h0
            rw [upS_ne (by omega), upS_ne (by omega), Nat.add_zero, upS_eq, upR_ne (by decide), upR_ne (by decide), upR_eq]
          · rw [upS_ne (by omega), upS_ne (by omega), upS_ne (by omega), upR_ne h7, upR_ne h6, upR_ne h0, a6 _ (by omega)]
            exact p3 k hk
    · rw [if_neg g, if_neg g, a6 _ (by omega)]
      exact p3 k hk
  · rw [a7 _ (by omega), a6 _ (by omega)]
    exact p4 k hk
