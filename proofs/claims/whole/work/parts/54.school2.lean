/-! A SCHOOL'S TEXT, 2: its lines -/
theorem c_readTower {T : Nat → Nat × Nat} {S : Nat → Nat → Int} {c : pm_M × pm_C} {t s x : Nat} {b : Nat → Int} {P : pS} (hL : pL T t s x) (hP : pR S t s x b P) (hO : pO P) (hb : tpB b) :
    ∃ S', px_R 4 42 [.ref x, .ref t, .ref s] (zh T S c) (.inl none) (zh T S' c) ∧ pFr t s x S S' ∧ pR S' t s x b (rdTower b P) := by
  obtain ⟨l9, l4, l5, d1, d2, d3⟩ := hL
  obtain ⟨t0, t1⟩ := id l9
  obtain ⟨u0, u1, u2, u3, u4, u5, u6, u7⟩ := id l4
  obtain ⟨v0, v1, v2⟩ := id l5
  obtain ⟨p1, p2, p3, p4⟩ := hP
  obtain ⟨o1, o2, o3, o4, o5⟩ := hO
  have x0 := p4 0 (by decide)
  have s0 := p3 0 (by decide)
  rw [Nat.add_zero] at x0 s0
  have e0 := o4 1 (by decide)
  unfold rdTower
  have st1 : ∃ S1, S1 t = r3F (P.2.2 0 1) P.1 ∧ (∀ a, a ≠ t → S1 a = S a) ∧ ∀ Q, px_Ev 4 42 12 [.ref x, .ref t, .ref s] [] (zh T S1 c) Q → px_Ev 4 42 0 [.ref x, .ref t, .ref s] [] (zh T S c) Q := by
    unfold r3F
    rcases e0 with e | e
    · refine ⟨S, by rw [if_pos e]; exact p1, fun a _ => rfl, fun Q hQ => ?_⟩
      (simp (disch := first | with_reducible assumption | omega | decide | (simp only [ps_low, List.map_cons, List.map_nil, Value.category, List.sum_cons, List.sum_nil]; decide)) only [el_X5_readTower_0, el_X5_readTower_1, el_X5_readTower_4, el_X5_readTower_7, el_X5_readTower_8, gf_5_1, px_ifp, px_ifn, zh_1, zc_1, zc_2, zc_3, zc_4, zc_5, zc_6, zc_7, zc_8, zc_9, zc_10, zc_11, zc_12, zc_20, zc_21, zc_22, zp_1, zp_2, zp_3, zp_4, zp_5, zp_6, zp_7, zp_8, zp_9, zp_10, zp_11, zp_12, zp_20, zp_21, zp_22, upS_eq, upS_ne, upS_up, upz_eq, upz_ne, upz_up, px_al_aI, px_as_aI, px_as_aZ, px_as_aC, px_ln_aI, Option.toList, List.cons_append, List.nil_append, Int.reduceAdd, Int.reduceSub, Int.reduceMul, ↓reduceIte, Nat.reduceEqDiff, eq_self, Int.reduceEq, Int.reduceLT, Int.reduceLE, Int.reduceNe, Int.reduceNeg, Int.reduceToNat, ne_eq, not_true_eq_false, not_false_eq_true, t0, t1, u0, u1, u2, u3, u4, u5, u6, u7, v0, v1, v2, x0, e]; repeat (first | simp (disch := first | omega | decide) only [upz_srt, upy_upz, upz_up, upS_srt, upT_upS, upS_up] | simp (disch := first | with_reducible assumption | omega | decide | (simp only [ps_low, List.map_cons, List.map_nil, Value.category, List.sum_cons, List.sum_nil]; decide)) only [el_X5_readTower_0, el_X5_readTower_1, el_X5_readTower_4, el_X5_readTower_7, el_X5_readTower_8, gf_5_1, px_ifp, px_ifn, zh_1, zc_1, zc_2, zc_3, zc_4, zc_5, zc_6, zc_7, zc_8, zc_9, zc_10, zc_11, zc_12, zc_20, zc_21, zc_22, zp_1, zp_2, zp_3, zp_4, zp_5, zp_6, zp_7, zp_8, zp_9, zp_10, zp_11, zp_12, zp_20, zp_21, zp_22, upS_eq, upS_ne, upS_up, upz_eq, upz_ne, upz_up, px_al_aI, px_as_aI, px_as_aZ, px_as_aC, px_ln_aI, Option.toList, List.cons_append, List.nil_append, Int.reduceAdd, Int.reduceSub, Int.reduceMul, ↓reduceIte, Nat.reduceEqDiff, eq_self, Int.reduceEq, Int.reduceLT, Int.reduceLE, Int.reduceNe, Int.reduceNeg, Int.reduceToNat, ne_eq, not_true_eq_false, not_false_eq_true, t0, t1, u0, u1, u2, u3, u4, u5, u6, u7, v0, v1, v2, x0, e]))
      exact hQ
    · obtain ⟨S1, r1, q1, g1⟩ := zz_ref (c := c) (k := 3) l9 p1 o1
      refine ⟨S1, by rw [if_neg (by omega)]; exact q1, g1, fun Q hQ => ?_⟩
      (simp (disch := first | with_reducible assumption | omega | decide | (simp only [ps_low, List.map_cons, List.map_nil, Value.category, List.sum_cons, List.sum_nil]; decide)) only [el_X5_readTower_0, el_X5_readTower_1, el_X5_readTower_4, el_X5_readTower_7, el_X5_readTower_8, gf_5_1, px_ifp, px_ifn, zh_1, zc_1, zc_2, zc_3, zc_4, zc_5, zc_6, zc_7, zc_8, zc_9, zc_10, zc_11, zc_12, zc_20, zc_21, zc_22, zp_1, zp_2, zp_3, zp_4, zp_5, zp_6, zp_7, zp_8, zp_9, zp_10, zp_11, zp_12, zp_20, zp_21, zp_22, upS_eq, upS_ne, upS_up, upz_eq, upz_ne, upz_up, px_al_aI, px_as_aI, px_as_aZ, px_as_aC, px_ln_aI, Option.toList, List.cons_append, List.nil_append, Int.reduceAdd, Int.reduceSub, Int.reduceMul, ↓reduceIte, Nat.reduceEqDiff, eq_self, Int.reduceEq, Int.reduceLT, Int.reduceLE, Int.reduceNe, Int.reduceNeg, Int.reduceToNat, ne_eq, not_true_eq_false, not_false_eq_true, t0, t1, u0, u1, u2, u3, u4, u5, u6, u7, v0, v1, v2, x0, e, el_X5_readTower_9 (r1 ..) _ (zo_10 _) _]; repeat (first | simp (disch := first | omega | decide) only [upz_srt, upy_upz, upz_up, upS_srt, upT_upS, upS_up] | simp (disch := first | with_reducible assumption | omega | decide | (simp only [ps_low, List.map_cons, List.map_nil, Value.category, List.sum_cons, List.sum_nil]; decide)) only [el_X5_readTower_0, el_X5_readTower_1, el_X5_readTower_4, el_X5_readTower_7, el_X5_readTower_8, gf_5_1, px_ifp, px_ifn, zh_1, zc_1, zc_2, zc_3, zc_4, zc_5, zc_6, zc_7, zc_8, zc_9, zc_10, zc_11, zc_12, zc_20, zc_21, zc_22, zp_1, zp_2, zp_3, zp_4, zp_5, zp_6, zp_7, zp_8, zp_9, zp_10, zp_11, zp_12, zp_20, zp_21, zp_22, upS_eq, upS_ne, upS_up, upz_eq, upz_ne, upz_up, px_al_aI, px_as_aI, px_as_aZ, px_as_aC, px_ln_aI, Option.toList, List.cons_append, List.nil_append, Int.reduceAdd, Int.reduceSub, Int.reduceMul, ↓reduceIte, Nat.reduceEqDiff, eq_self, Int.reduceEq, Int.reduceLT, Int.reduceLE, Int.reduceNe, Int.reduceNeg, Int.reduceToNat, ne_eq, not_true_eq_false, not_false_eq_true, t0, t1, u0, u1, u2, u3, u4, u5, u6, u7, v0, v1, v2, x0, e, el_X5_readTower_9 (r1 ..) _ (zo_10 _) _]))
      exact hQ
  obtain ⟨S1, q1, g1, run1⟩ := st1
  have f1 : tpF (r3F (P.2.2 0 1) P.1) := tpF_r3 o1
  generalize r3F (P.2.2 0 1) P.1 = F1 at *
  generalize hS2 : upS S1 x (upz (S1 x) 1 1) = S2
  have k2 : ∀ a, a ≠ x → S2 a = S1 a := fun a h => by rw [← hS2, upS_ne h]
  have m2 : S2 x = upz (P.2.2 0) 1 1 := by rw [← hS2, upS_eq, g1 x (by omega), x0]
  obtain ⟨S3, r3, q3, g3⟩ := zz_adv (c := c) (S := S2) (b := b) l9 (by rw [k2 t (by omega)]; exact q1) (by rw [k2 _ (by omega), g1 _ (by omega)]; exact p2) f1 hb
  have f3 := tpF_adv (b := b) f1.A
  generalize adv b F1 = F3 at *
  obtain ⟨S4, r4, q4, g4⟩ := zz_num (c := c) (S := S3) (b := b) (lo := 1) (hi := 200) l9 q3 (by rw [g3 _ (by omega), k2 _ (by omega), g1 _ (by omega)]; exact p2) f3 hb (by decide) (by decide)
  generalize nhV 1 200 F3 = V1 at *
  generalize tnF b 1 200 F3 = F4 at *
  have al : ∀ a, a ≠ t → a ≠ x → a ≠ s → S4 a = S a := fun a h1 h2 h3 => by rw [g4 a h1, g3 a h1, k2 a h2, g1 a h1]
  refine ⟨upS S4 s (upz (S4 s) 2 V1), px_ofQ fun Q hQ => run1 Q ?_, fun a h1 h2 h3 => ?_, ?_, ?_, fun k hk => ?_, fun k hk => ?_⟩
  · (simp (disch := first | with_reducible assumption | omega | decide | (simp only [ps_low, List.map_cons, List.map_nil, Value.category, List.sum_cons, List.sum_nil]; decide)) only [el_X5_readTower_12, el_X5_readTower_13, el_X5_readTower_14, el_X5_readTower_17, el_X5_readTower_21, el_X5_readTower_22, el_X5_readTower_23, el_X5_readTower_24, el_X5_readTower_30, el_X5_readTower_33, pf_4_2, pf_5_1, px_ifp, px_ifn, zh_1, zc_1, zc_2, zc_3, zc_4, zc_5, zc_6, zc_7, zc_8, zc_9, zc_10, zc_11, zc_12, zc_20, zc_21, zc_22, zp_1, zp_2, zp_3, zp_4, zp_5, zp_6, zp_7, zp_8, zp_9, zp_10, zp_11, zp_12, zp_20, zp_21, zp_22, upS_eq, upS_ne, upS_up, upz_eq, upz_ne, upz_up, px_al_aI, px_as_aI, px_as_aZ, px_as_aC, px_ln_aI, Option.toList, List.cons_append, List.nil_append, Int.reduceAdd, Int.reduceSub, Int.reduceMul, ↓reduceIte, Nat.reduceEqDiff, eq_self, Int.reduceEq, Int.reduceLT, Int.reduceLE, Int.reduceNe, Int.reduceNeg, Int.reduceToNat, ne_eq, not_true_eq_false, not_false_eq_true, t0, t1, u0, u1, u2, u3, u4, u5, u6, u7, v0, v1, v2, hS2, el_X5_readTower_18 (r3 ..) _ (zo_10 _) _, el_X5_readTower_27 (r4 ..) _ (zo_10 _) _]; repeat (first | simp (disch := first | omega | decide) only [upz_srt, upy_upz, upz_up, upS_srt, upT_upS, upS_up] | simp (disch := first | with_reducible assumption | omega | decide | (simp only [ps_low, List.map_cons, List.map_nil, Value.category, List.sum_cons, List.sum_nil]; decide)) only [el_X5_readTower_12, el_X5_readTower_13, el_X5_readTower_14, el_X5_readTower_17, el_X5_readTower_21, el_X5_readTower_22, el_X5_readTower_23, el_X5_readTower_24, el_X5_readTower_30, el_X5_readTower_33, pf_4_2, pf_5_1, px_ifp, px_ifn, zh_1, zc_1, zc_2, zc_3, zc_4, zc_5, zc_6, zc_7, zc_8, zc_9, zc_10, zc_11, zc_12, zc_20, zc_21, zc_22, zp_1, zp_2, zp_3, zp_4, zp_5, zp_6, zp_7, zp_8, zp_9, zp_10, zp_11, zp_12, zp_20, zp_21, zp_22, upS_eq, upS_ne, upS_up, upz_eq, upz_ne, upz_up, px_al_aI, px_as_aI, px_as_aZ, px_as_aC, px_ln_aI, Option.toList, List.cons_append, List.nil_append, Int.reduceAdd, Int.reduceSub, Int.reduceMul, ↓reduceIte, Nat.reduceEqDiff, eq_self, Int.reduceEq, Int.reduceLT, Int.reduceLE, Int.reduceNe, Int.reduceNeg, Int.reduceToNat, ne_eq, not_true_eq_false, not_false_eq_true, t0, t1, u0, u1, u2, u3, u4, u5, u6, u7, v0, v1, v2, hS2, el_X5_readTower_18 (r3 ..) _ (zo_10 _) _, el_X5_readTower_27 (r4 ..) _ (zo_10 _) _]))
    exact hQ
  · rw [upS_ne (by omega)]
    exact al a h1 (by omega) (by omega)
  · rw [upS_ne (by omega)]
    exact q4
  · rw [upS_ne (by omega), al _ (by omega) (by omega) (by omega)]
    exact p2
  · by_cases hk0 : k = 0
    · subst hk0
      rw [Nat.add_zero, upS_eq, g4 s (by omega), g3 s (by omega), k2 s (by omega), g1 s (by omega), s0]
      rfl
    · rw [upS_ne (by omega), al _ (by omega) (by omega) (by omega)]
      exact (p3 k hk).trans (upR_ne hk0).symm
  · by_cases hk0 : k = 0
    · subst hk0
      rw [Nat.add_zero, upS_ne (by omega), g4 x (by omega), g3 x (by omega), m2]
      rfl
    · rw [upS_ne (by omega), al _ (by omega) (by omega) (by omega)]
      exact (p4 k hk).trans (upR_ne hk0).symm
theorem c_readWindow {T : Nat → Nat × Nat} {S : Nat → Nat → Int} {c : pm_M × pm_C} {t s x : Nat} {b : Nat → Int} {P : pS} (hL : pL T t s x) (hP : pR S t s x b P) (hO : pO P) (hb : tpB b) :
    ∃ S', px_R 4 43 [.ref x, .ref t, .ref s] (zh T S c) (.inl none) (zh T S' c) ∧ pFr t s x S S' ∧ pR S' t s x b (rdWindow b P) := by
  obtain ⟨l9, l4, l5, d1, d2, d3⟩ := hL
  obtain ⟨t0, t1⟩ := id l9
  obtain ⟨u0, u1, u2, u3, u4, u5, u6, u7⟩ := id l4
  obtain ⟨v0, v1, v2⟩ := id l5
  obtain ⟨p1, p2, p3, p4⟩ := hP
  obtain ⟨o1, o2, o3, o4, o5⟩ := hO
  have x0 := p4 0 (by decide)
  have s0 := p3 0 (by decide)
  rw [Nat.add_zero] at x0 s0
  have e0 := o4 2 (by decide)
  unfold rdWindow
  have st1 : ∃ S1, S1 t = r3F (P.2.2 0 2) P.1 ∧ (∀ a, a ≠ t → S1 a = S a) ∧ ∀ Q, px_Ev 4 43 12 [.ref x, .ref t, .ref s] [] (zh T S1 c) Q → px_Ev 4 43 0 [.ref x, .ref t, .ref s] [] (zh T S c) Q := by
    unfold r3F
    rcases e0 with e | e
    · refine ⟨S, by rw [if_pos e]; exact p1, fun a _ => rfl, fun Q hQ => ?_⟩
      (simp (disch := first | with_reducible assumption | omega | decide | (simp only [ps_low, List.map_cons, List.map_nil, Value.category, List.sum_cons, List.sum_nil]; decide)) only [el_X5_readWindow_0, el_X5_readWindow_1, el_X5_readWindow_4, el_X5_readWindow_7, el_X5_readWindow_8, gf_5_2, px_ifp, px_ifn, zh_1, zc_1, zc_2, zc_3, zc_4, zc_5, zc_6, zc_7, zc_8, zc_9, zc_10, zc_11, zc_12, zc_20, zc_21, zc_22, zp_1, zp_2, zp_3, zp_4, zp_5, zp_6, zp_7, zp_8, zp_9, zp_10, zp_11, zp_12, zp_20, zp_21, zp_22, upS_eq, upS_ne, upS_up, upz_eq, upz_ne, upz_up, px_al_aI, px_as_aI, px_as_aZ, px_as_aC, px_ln_aI, Option.toList, List.cons_append, List.nil_append, Int.reduceAdd, Int.reduceSub, Int.reduceMul, ↓reduceIte, Nat.reduceEqDiff, eq_self, Int.reduceEq, Int.reduceLT, Int.reduceLE, Int.reduceNe, Int.reduceNeg, Int.reduceToNat, ne_eq, not_true_eq_false, not_false_eq_true, t0, t1, u0, u1, u2, u3, u4, u5, u6, u7, v0, v1, v2, x0, e]; repeat (first | simp (disch := first | omega | decide) only [upz_srt, upy_upz, upz_up, upS_srt, upT_upS, upS_up] | simp (disch := first | with_reducible assumption | omega | decide | (simp only [ps_low, List.map_cons, List.map_nil, Value.category, List.sum_cons, List.sum_nil]; decide)) only [el_X5_readWindow_0, el_X5_readWindow_1, el_X5_readWindow_4, el_X5_readWindow_7, el_X5_readWindow_8, gf_5_2, px_ifp, px_ifn, zh_1, zc_1, zc_2, zc_3, zc_4, zc_5, zc_6, zc_7, zc_8, zc_9, zc_10, zc_11, zc_12, zc_20, zc_21, zc_22, zp_1, zp_2, zp_3, zp_4, zp_5, zp_6, zp_7, zp_8, zp_9, zp_10, zp_11, zp_12, zp_20, zp_21, zp_22, upS_eq, upS_ne, upS_up, upz_eq, upz_ne, upz_up, px_al_aI, px_as_aI, px_as_aZ, px_as_aC, px_ln_aI, Option.toList, List.cons_append, List.nil_append, Int.reduceAdd, Int.reduceSub, Int.reduceMul, ↓reduceIte, Nat.reduceEqDiff, eq_self, Int.reduceEq, Int.reduceLT, Int.reduceLE, Int.reduceNe, Int.reduceNeg, Int.reduceToNat, ne_eq, not_true_eq_false, not_false_eq_true, t0, t1, u0, u1, u2, u3, u4, u5, u6, u7, v0, v1, v2, x0, e]))
      exact hQ
    · obtain ⟨S1, r1, q1, g1⟩ := zz_ref (c := c) (k := 3) l9 p1 o1
      refine ⟨S1, by rw [if_neg (by omega)]; exact q1, g1, fun Q hQ => ?_⟩
      (simp (disch := first | with_reducible assumption | omega | decide | (simp only [ps_low, List.map_cons, List.map_nil, Value.category, List.sum_cons, List.sum_nil]; decide)) only [el_X5_readWindow_0, el_X5_readWindow_1, el_X5_readWindow_4, el_X5_readWindow_7, el_X5_readWindow_8, gf_5_2, px_ifp, px_ifn, zh_1, zc_1, zc_2, zc_3, zc_4, zc_5, zc_6, zc_7, zc_8, zc_9, zc_10, zc_11, zc_12, zc_20, zc_21, zc_22, zp_1, zp_2, zp_3, zp_4, zp_5, zp_6, zp_7, zp_8, zp_9, zp_10, zp_11, zp_12, zp_20, zp_21, zp_22, upS_eq, upS_ne, upS_up, upz_eq, upz_ne, upz_up, px_al_aI, px_as_aI, px_as_aZ, px_as_aC, px_ln_aI, Option.toList, List.cons_append, List.nil_append, Int.reduceAdd, Int.reduceSub, Int.reduceMul, ↓reduceIte, Nat.reduceEqDiff, eq_self, Int.reduceEq, Int.reduceLT, Int.reduceLE, Int.reduceNe, Int.reduceNeg, Int.reduceToNat, ne_eq, not_true_eq_false, not_false_eq_true, t0, t1, u0, u1, u2, u3, u4, u5, u6, u7, v0, v1, v2, x0, e, el_X5_readWindow_9 (r1 ..) _ (zo_10 _) _]; repeat (first | simp (disch := first | omega | decide) only [upz_srt, upy_upz, upz_up, upS_srt, upT_upS, upS_up] | simp (disch := first | with_reducible assumption | omega | decide | (simp only [ps_low, List.map_cons, List.map_nil, Value.category, List.sum_cons, List.sum_nil]; decide)) only [el_X5_readWindow_0, el_X5_readWindow_1, el_X5_readWindow_4, el_X5_readWindow_7, el_X5_readWindow_8, gf_5_2, px_ifp, px_ifn, zh_1, zc_1, zc_2, zc_3, zc_4, zc_5, zc_6, zc_7, zc_8, zc_9, zc_10, zc_11, zc_12, zc_20, zc_21, zc_22, zp_1, zp_2, zp_3, zp_4, zp_5, zp_6, zp_7, zp_8, zp_9, zp_10, zp_11, zp_12, zp_20, zp_21, zp_22, upS_eq, upS_ne, upS_up, upz_eq, upz_ne, upz_up, px_al_aI, px_as_aI, px_as_aZ, px_as_aC, px_ln_aI, Option.toList, List.cons_append, List.nil_append, Int.reduceAdd, Int.reduceSub, Int.reduceMul, ↓reduceIte, Nat.reduceEqDiff, eq_self, Int.reduceEq, Int.reduceLT, Int.reduceLE, Int.reduceNe, Int.reduceNeg, Int.reduceToNat, ne_eq, not_true_eq_false, not_false_eq_true, t0, t1, u0, u1, u2, u3, u4, u5, u6, u7, v0, v1, v2, x0, e, el_X5_readWindow_9 (r1 ..) _ (zo_10 _) _]))
      exact hQ
  obtain ⟨S1, q1, g1, run1⟩ := st1
  have f1 : tpF (r3F (P.2.2 0 2) P.1) := tpF_r3 o1
  generalize r3F (P.2.2 0 2) P.1 = F1 at *
  dsimp only
  generalize hS2 : upS S1 x (upz (S1 x) 2 1) = S2
  have k2 : ∀ a, a ≠ x → S2 a = S1 a := fun a h => by rw [← hS2, upS_ne h]
  have m2 : S2 x = upz (P.2.2 0) 2 1 := by rw [← hS2, upS_eq, g1 x (by omega), x0]
  obtain ⟨S3, r3, q3, g3⟩ := zz_adv (c := c) (S := S2) (b := b) l9 (by rw [k2 t (by omega)]; exact q1) (by rw [k2 _ (by omega), g1 _ (by omega)]; exact p2) f1 hb
  have f3 := tpF_adv (b := b) f1.A
  generalize adv b F1 = F3 at *
  obtain ⟨S4, r4, q4, g4⟩ := zz_num (c := c) (S := S3) (b := b) (lo := 1) (hi := 200) l9 q3 (by rw [g3 _ (by omega), k2 _ (by omega), g1 _ (by omega)]; exact p2) f3 hb (by decide) (by decide)
  have f4 := tpF_tn (b := b) (lo := 1) (hi := 200) f3
  generalize nhV 1 200 F3 = V1 at *
  generalize tnF b 1 200 F3 = F4 at *
  generalize hS5 : upS S4 s (upz (S4 s) 3 V1) = S5
  have k5 : ∀ a, a ≠ s → S5 a = S4 a := fun a h => by rw [← hS5, upS_ne h]
  have m5 : S5 s = upz (P.2.1 0) 3 V1 := by rw [← hS5, upS_eq, g4 s (by omega), g3 s (by omega), k2 s (by omega), g1 s (by omega), s0]
  obtain ⟨S6, r6, q6, g6⟩ := zz_num (c := c) (S := S5) (b := b) (lo := 0) (hi := 200) l9 (by rw [k5 t (by omega)]; exact q4) (by rw [k5 _ (by omega), g4 _ (by omega), g3 _ (by omega), k2 _ (by omega), g1 _ (by omega)]; exact p2) f4 hb (by decide) (by decide)
  have f6 := tpF_tn (b := b) (lo := 0) (hi := 200) f4
  have v6 := nhV_r (lo := 0) (hi := 200) (F := F4) (by decide)
  generalize nhV 0 200 F4 = V2 at *
  generalize tnF b 0 200 F4 = F6 at *
  generalize hS7 : upS S6 s (upz (S6 s) 4 V2) = S7
  have k7 : ∀ a, a ≠ s → S7 a = S6 a := fun a h => by rw [← hS7, upS_ne h]
  have m7 : S7 s = upz (upz (P.2.1 0) 3 V1) 4 V2 := by rw [← hS7, upS_eq, g6 s (by omega), m5]
  have m74 : S7 s 4 = V2 := by rw [m7, upz_eq]
  obtain ⟨S8, r8, q8, g8⟩ := zz_num (c := c) (S := S7) (b := b) (lo := V2) (hi := 200) l9 (by rw [k7 t (by omega)]; exact q6) (by rw [k7 _ (by omega), g6 _ (by omega), k5 _ (by omega), g4 _ (by omega), g3 _ (by omega), k2 _ (by omega), g1 _ (by omega)]; exact p2) f6 hb (by omega) (by decide)
  generalize nhV V2 200 F6 = V3 at *
  generalize tnF b V2 200 F6 = F8 at *
  have al : ∀ a, a ≠ t → a ≠ x → a ≠ s → S8 a = S a := fun a h1 h2 h3 => by rw [g8 a h1, k7 a h3, g6 a h1, k5 a h3, g4 a h1, g3 a h1, k2 a h2, g1 a h1]
  refine ⟨upS S8 s (upz (S8 s) 5 V3), px_ofQ fun Q hQ => run1 Q ?_, fun a h1 h2 h3 => ?_, ?_, ?_, fun k hk => ?_, fun k hk => ?_⟩
  · (simp (disch := first | with_reducible assumption | omega | decide | (simp only [ps_low, List.map_cons, List.map_nil, Value.category, List.sum_cons, List.sum_nil]; decide)) only [el_X5_readWindow_12, el_X5_readWindow_13, el_X5_readWindow_14, el_X5_readWindow_17, el_X5_readWindow_21, el_X5_readWindow_22, el_X5_readWindow_23, el_X5_readWindow_24, el_X5_readWindow_30, el_X5_readWindow_33, el_X5_readWindow_34, el_X5_readWindow_35, el_X5_readWindow_36, el_X5_readWindow_42, el_X5_readWindow_45, el_X5_readWindow_46, el_X5_readWindow_47, el_X5_readWindow_48, el_X5_readWindow_51, el_X5_readWindow_57, el_X5_readWindow_60, gf_4_4, pf_4_3, pf_4_4, pf_4_5, pf_5_2, px_ifp, px_ifn, zh_1, zc_1, zc_2, zc_3, zc_4, zc_5, zc_6, zc_7, zc_8, zc_9, zc_10, zc_11, zc_12, zc_20, zc_21, zc_22, zp_1, zp_2, zp_3, zp_4, zp_5, zp_6, zp_7, zp_8, zp_9, zp_10, zp_11, zp_12, zp_20, zp_21, zp_22, upS_eq, upS_ne, upS_up, upz_eq, upz_ne, upz_up, px_al_aI, px_as_aI, px_as_aZ, px_as_aC, px_ln_aI, Option.toList, List.cons_append, List.nil_append, Int.reduceAdd, Int.reduceSub, Int.reduceMul, ↓reduceIte, Nat.reduceEqDiff, eq_self, Int.reduceEq, Int.reduceLT, Int.reduceLE, Int.reduceNe, Int.reduceNeg, Int.reduceToNat, ne_eq, not_true_eq_false, not_false_eq_true, t0, t1, u0, u1, u2, u3, u4, u5, u6, u7, v0, v1, v2, hS2, el_X5_readWindow_18 (r3 ..) _ (zo_10 _) _, el_X5_readWindow_27 (r4 ..) _ (zo_10 _) _, hS5, el_X5_readWindow_39 (r6 ..) _ (zo_10 _) _, hS7, m74, el_X5_readWindow_54 (r8 ..) _ (zo_10 _) _]; repeat (first | simp (disch := first | omega | decide) only [upz_srt, upy_upz, upz_up, upS_srt, upT_upS, upS_up] | simp (disch := first | with_reducible assumption | omega | decide | (simp only [ps_low, List.map_cons, List.map_nil, Value.category, List.sum_cons, List.sum_nil]; decide)) only [el_X5_readWindow_12, el_X5_readWindow_13, el_X5_readWindow_14, el_X5_readWindow_17, el_X5_readWindow_21, el_X5_readWindow_22, el_X5_readWindow_23, el_X5_readWindow_24, el_X5_readWindow_30, el_X5_readWindow_33, el_X5_readWindow_34, el_X5_readWindow_35, el_X5_readWindow_36, el_X5_readWindow_42, el_X5_readWindow_45, el_X5_readWindow_46, el_X5_readWindow_47, el_X5_readWindow_48, el_X5_readWindow_51, el_X5_readWindow_57, el_X5_readWindow_60, gf_4_4, pf_4_3, pf_4_4, pf_4_5, pf_5_2, px_ifp, px_ifn, zh_1, zc_1, zc_2, zc_3, zc_4, zc_5, zc_6, zc_7, zc_8, zc_9, zc_10, zc_11, zc_12, zc_20, zc_21, zc_22, zp_1, zp_2, zp_3, zp_4, zp_5, zp_6, zp_7, zp_8, zp_9, zp_10, zp_11, zp_12, zp_20, zp_21, zp_22, upS_eq, upS_ne, upS_up, upz_eq, upz_ne, upz_up, px_al_aI, px_as_aI, px_as_aZ, px_as_aC, px_ln_aI, Option.toList, List.cons_append, List.nil_append, Int.reduceAdd, Int.reduceSub, Int.reduceMul, ↓reduceIte, Nat.reduceEqDiff, eq_self, Int.reduceEq, Int.reduceLT, Int.reduceLE, Int.reduceNe, Int.reduceNeg, Int.reduceToNat, ne_eq, not_true_eq_false, not_false_eq_true, t0, t1, u0, u1, u2, u3, u4, u5, u6, u7, v0, v1, v2, hS2, el_X5_readWindow_18 (r3 ..) _ (zo_10 _) _, el_X5_readWindow_27 (r4 ..) _ (zo_10 _) _, hS5, el_X5_readWindow_39 (r6 ..) _ (zo_10 _) _, hS7, m74, el_X5_readWindow_54 (r8 ..) _ (zo_10 _) _]))
    exact hQ
  · rw [upS_ne (by omega)]
    exact al a h1 (by omega) (by omega)
  · rw [upS_ne (by omega)]
    exact q8
  · rw [upS_ne (by omega), al _ (by omega) (by omega) (by omega)]
    exact p2
  · by_cases hk0 : k = 0
    · subst hk0
      rw [Nat.add_zero, upS_eq, g8 s (by omega), m7]
      rfl
    · rw [upS_ne (by omega), al _ (by omega) (by omega) (by omega)]
      exact (p3 k hk).trans (upR_ne hk0).symm
  · by_cases hk0 : k = 0
    · subst hk0
      rw [Nat.add_zero, upS_ne (by omega), g8 x (by omega), k7 x (by omega), g6 x (by omega), k5 x (by omega), g4 x (by omega), g3 x (by omega), m2]
      rfl
    · rw [upS_ne (by omega), al _ (by omega) (by omega) (by omega)]
      exact (p4 k hk).trans (upR_ne hk0).symm
/-- the number of a nosiness, a minute -/
theorem zz_ut {T : Nat → Nat × Nat} {S : Nat → Nat → Int} {c : pm_M × pm_C} {t a : Nat} {b F e : Nat → Int} (ht : ly9 T t) (ta : T a = (21, 10)) (had : a ≠ t ∧ a ≠ t + 1) (eF : S t = F) (eb : S (t + 1) = b) (ea : S a = e) (hF : tpF F) (hb : tpB b) (he : ∀ j, j < 10 → e j = 0 ∨ e j = 1) :
    ∃ S', px_R 3 41 [.ref t, .ref a, .retAddr 0] (zh T S c) (.inl (some (.int (zI (utV F))))) (zh T S' c) ∧ S' t = utF b e F ∧ S' a = upz e (utV F) 1 ∧ ∀ i, i ≠ t → i ≠ a → S' i = S i := by
  obtain ⟨t0, t1⟩ := id ht
  have hv := nhV_r (lo := 0) (hi := 9) (F := F) (by decide)
  have hu : ((utV F : Nat) : Int) = nhV 0 9 F := by unfold utV; omega
  have h10 : utV F < 10 := by omega
  obtain ⟨S1, r1, q1, g1⟩ := zz_here (c := c) (lo := 0) (hi := 9) ht eF hF (by decide) (by decide)
  have f1 := tpF_nh (lo := 0) (hi := 9) hF
  rw [← hu] at r1
  unfold utF
  have e1 : S1 a (utV F) = e (utV F) := by rw [g1 a had.1, ea]
  have st2 : ∃ S2, S2 t = r3F (e (utV F)) (nhF 0 9 F) ∧ (∀ i, i ≠ t → S2 i = S1 i) ∧ ∀ Q, px_Ev 3 41 31 [.ref t, .ref a, .int (zI (utV F))] [] (zh T S2 c) Q → px_Ev 3 41 0 [.ref t, .ref a, .retAddr 0] [] (zh T S c) Q := by
    unfold r3F
    rcases he (utV F) h10 with g | g
    · refine ⟨S1, by rw [if_pos g]; exact q1, fun i _ => rfl, fun Q hQ => ?_⟩
      (simp (disch := first | with_reducible assumption | omega | decide | (simp only [ps_low, List.map_cons, List.map_nil, Value.category, List.sum_cons, List.sum_nil]; decide)) only [el_X5_takeUntold_0, el_X5_takeUntold_1, el_X5_takeUntold_2, el_X5_takeUntold_7, el_X5_takeUntold_8, el_X5_takeUntold_9, el_X5_takeUntold_12, el_X5_takeUntold_13, el_X5_takeUntold_14, el_X5_takeUntold_15, el_X5_takeUntold_18, el_X5_takeUntold_19, el_X5_takeUntold_20, el_X5_takeUntold_21, el_X5_takeUntold_22, el_X5_takeUntold_23, el_X5_takeUntold_26, el_X5_takeUntold_27, px_ifp, px_ifn, zh_1, zc_1, zc_2, zc_3, zc_4, zc_5, zc_6, zc_7, zc_8, zc_9, zc_10, zc_11, zc_12, zc_20, zc_21, zc_22, zp_1, zp_2, zp_3, zp_4, zp_5, zp_6, zp_7, zp_8, zp_9, zp_10, zp_11, zp_12, zp_20, zp_21, zp_22, upS_eq, upS_ne, upS_up, upz_eq, upz_ne, upz_up, px_al_aI, px_as_aI, px_as_aZ, px_as_aC, px_ln_aI, Option.toList, List.cons_append, List.nil_append, Int.reduceAdd, Int.reduceSub, Int.reduceMul, ↓reduceIte, Nat.reduceEqDiff, eq_self, Int.reduceEq, Int.reduceLT, Int.reduceLE, Int.reduceNe, Int.reduceNeg, Int.reduceToNat, ne_eq, not_true_eq_false, not_false_eq_true, ta, t0, t1, el_X5_takeUntold_4 (r1 ..) _ (zo_10 _) _, ta, Int.toNat_natCast, e1, g]; repeat (first | simp (disch := first | omega | decide) only [upz_srt, upy_upz, upz_up, upS_srt, upT_upS, upS_up] | simp (disch := first | with_reducible assumption | omega | decide | (simp only [ps_low, List.map_cons, List.map_nil, Value.category, List.sum_cons, List.sum_nil]; decide)) only [el_X5_takeUntold_0, el_X5_takeUntold_1, el_X5_takeUntold_2, el_X5_takeUntold_7, el_X5_takeUntold_8, el_X5_takeUntold_9, el_X5_takeUntold_12, el_X5_takeUntold_13, el_X5_takeUntold_14, el_X5_takeUntold_15, el_X5_takeUntold_18, el_X5_takeUntold_19, el_X5_takeUntold_20, el_X5_takeUntold_21, el_X5_takeUntold_22, el_X5_takeUntold_23, el_X5_takeUntold_26, el_X5_takeUntold_27, px_ifp, px_ifn, zh_1, zc_1, zc_2, zc_3, zc_4, zc_5, zc_6, zc_7, zc_8, zc_9, zc_10, zc_11, zc_12, zc_20, zc_21, zc_22, zp_1, zp_2, zp_3, zp_4, zp_5, zp_6, zp_7, zp_8, zp_9, zp_10, zp_11, zp_12, zp_20, zp_21, zp_22, upS_eq, upS_ne, upS_up, upz_eq, upz_ne, upz_up, px_al_aI, px_as_aI, px_as_aZ, px_as_aC, px_ln_aI, Option.toList, List.cons_append, List.nil_append, Int.reduceAdd, Int.reduceSub, Int.reduceMul, ↓reduceIte, Nat.reduceEqDiff, eq_self, Int.reduceEq, Int.reduceLT, Int.reduceLE, Int.reduceNe, Int.reduceNeg, Int.reduceToNat, ne_eq, not_true_eq_false, not_false_eq_true, ta, t0, t1, el_X5_takeUntold_4 (r1 ..) _ (zo_10 _) _, ta, Int.toNat_natCast, e1, g]))
      exact hQ
    · obtain ⟨S2, r2, q2, g2⟩ := zz_ref (c := c) (k := 3) ht q1 f1
      refine ⟨S2, by rw [if_neg (by omega)]; exact q2, g2, fun Q hQ => ?_⟩
      (simp (disch := first | with_reducible assumption | omega | decide | (simp only [ps_low, List.map_cons, List.map_nil, Value.category, List.sum_cons, List.sum_nil]; decide)) only [el_X5_takeUntold_0, el_X5_takeUntold_1, el_X5_takeUntold_2, el_X5_takeUntold_7, el_X5_takeUntold_8, el_X5_takeUntold_9, el_X5_takeUntold_12, el_X5_takeUntold_13, el_X5_takeUntold_14, el_X5_takeUntold_15, el_X5_takeUntold_18, el_X5_takeUntold_19, el_X5_takeUntold_20, el_X5_takeUntold_21, el_X5_takeUntold_22, el_X5_takeUntold_23, el_X5_takeUntold_26, el_X5_takeUntold_27, px_ifp, px_ifn, zh_1, zc_1, zc_2, zc_3, zc_4, zc_5, zc_6, zc_7, zc_8, zc_9, zc_10, zc_11, zc_12, zc_20, zc_21, zc_22, zp_1, zp_2, zp_3, zp_4, zp_5, zp_6, zp_7, zp_8, zp_9, zp_10, zp_11, zp_12, zp_20, zp_21, zp_22, upS_eq, upS_ne, upS_up, upz_eq, upz_ne, upz_up, px_al_aI, px_as_aI, px_as_aZ, px_as_aC, px_ln_aI, Option.toList, List.cons_append, List.nil_append, Int.reduceAdd, Int.reduceSub, Int.reduceMul, ↓reduceIte, Nat.reduceEqDiff, eq_self, Int.reduceEq, Int.reduceLT, Int.reduceLE, Int.reduceNe, Int.reduceNeg, Int.reduceToNat, ne_eq, not_true_eq_false, not_false_eq_true, ta, t0, t1, el_X5_takeUntold_4 (r1 ..) _ (zo_10 _) _, ta, Int.toNat_natCast, e1, g, el_X5_takeUntold_28 (r2 ..) _ (zo_10 _) _]; repeat (first | simp (disch := first | omega | decide) only [upz_srt, upy_upz, upz_up, upS_srt, upT_upS, upS_up] | simp (disch := first | with_reducible assumption | omega | decide | (simp only [ps_low, List.map_cons, List.map_nil, Value.category, List.sum_cons, List.sum_nil]; decide)) only [el_X5_takeUntold_0, el_X5_takeUntold_1, el_X5_takeUntold_2, el_X5_takeUntold_7, el_X5_takeUntold_8, el_X5_takeUntold_9, el_X5_takeUntold_12, el_X5_takeUntold_13, el_X5_takeUntold_14, el_X5_takeUntold_15, el_X5_takeUntold_18, el_X5_takeUntold_19, el_X5_takeUntold_20, el_X5_takeUntold_21, el_X5_takeUntold_22, el_X5_takeUntold_23, el_X5_takeUntold_26, el_X5_takeUntold_27, px_ifp, px_ifn, zh_1, zc_1, zc_2, zc_3, zc_4, zc_5, zc_6, zc_7, zc_8, zc_9, zc_10, zc_11, zc_12, zc_20, zc_21, zc_22, zp_1, zp_2, zp_3, zp_4, zp_5, zp_6, zp_7, zp_8, zp_9, zp_10, zp_11, zp_12, zp_20, zp_21, zp_22, upS_eq, upS_ne, upS_up, upz_eq, upz_ne, upz_up, px_al_aI, px_as_aI, px_as_aZ, px_as_aC, px_ln_aI, Option.toList, List.cons_append, List.nil_append, Int.reduceAdd, Int.reduceSub, Int.reduceMul, ↓reduceIte, Nat.reduceEqDiff, eq_self, Int.reduceEq, Int.reduceLT, Int.reduceLE, Int.reduceNe, Int.reduceNeg, Int.reduceToNat, ne_eq, not_true_eq_false, not_false_eq_true, ta, t0, t1, el_X5_takeUntold_4 (r1 ..) _ (zo_10 _) _, ta, Int.toNat_natCast, e1, g, el_X5_takeUntold_28 (r2 ..) _ (zo_10 _) _]))
      exact hQ
  obtain ⟨S2, q2, g2, run2⟩ := st2
  have f2 : tpF (r3F (e (utV F)) (nhF 0 9 F)) := tpF_r3 f1
  generalize r3F (e (utV F)) (nhF 0 9 F) = F2 at *
  generalize hS3 : upS S2 a (upz (S2 a) (utV F) 1) = S3
  have k3 : ∀ i, i ≠ a → S3 i = S2 i := fun i h => by rw [← hS3, upS_ne h]
  have m3 : S3 a = upz e (utV F) 1 := by rw [← hS3, upS_eq, g2 a had.1, g1 a had.1, ea]
  obtain ⟨S4, r4, q4, g4⟩ := zz_adv (c := c) (S := S3) (b := b) ht (by rw [k3 t (fun z => had.1 z.symm)]; exact q2) (by rw [k3 _ (fun z => had.2 z.symm), g2 _ (by omega), g1 _ (by omega)]; exact eb) f2 hb
  refine ⟨S4, px_ofQ fun Q hQ => run2 Q ?_, q4, by rw [g4 a had.1]; exact m3, fun i h1 h2 => by rw [g4 i h1, k3 i h2, g2 i h1, g1 i h1]⟩
  (simp (disch := first | with_reducible assumption | omega | decide | (simp only [ps_low, List.map_cons, List.map_nil, Value.category, List.sum_cons, List.sum_nil]; decide)) only [el_X5_takeUntold_31, el_X5_takeUntold_32, el_X5_takeUntold_33, el_X5_takeUntold_34, el_X5_takeUntold_35, el_X5_takeUntold_39, el_X5_takeUntold_40, px_ifp, px_ifn, zh_1, zc_1, zc_2, zc_3, zc_4, zc_5, zc_6, zc_7, zc_8, zc_9, zc_10, zc_11, zc_12, zc_20, zc_21, zc_22, zp_1, zp_2, zp_3, zp_4, zp_5, zp_6, zp_7, zp_8, zp_9, zp_10, zp_11, zp_12, zp_20, zp_21, zp_22, upS_eq, upS_ne, upS_up, upz_eq, upz_ne, upz_up, px_al_aI, px_as_aI, px_as_aZ, px_as_aC, px_ln_aI, Option.toList, List.cons_append, List.nil_append, Int.reduceAdd, Int.reduceSub, Int.reduceMul, ↓reduceIte, Nat.reduceEqDiff, eq_self, Int.reduceEq, Int.reduceLT, Int.reduceLE, Int.reduceNe, Int.reduceNeg, Int.reduceToNat, ne_eq, not_true_eq_false, not_false_eq_true, ta, t0, t1, ta, Int.toNat_natCast, hS3, el_X5_takeUntold_36 (r4 ..) _ (zo_10 _) _]; repeat (first | simp (disch := first | omega | decide) only [upz_srt, upy_upz, upz_up, upS_srt, upT_upS, upS_up] | simp (disch := first | with_reducible assumption | omega | decide | (simp only [ps_low, List.map_cons, List.map_nil, Value.category, List.sum_cons, List.sum_nil]; decide)) only [el_X5_takeUntold_31, el_X5_takeUntold_32, el_X5_takeUntold_33, el_X5_takeUntold_34, el_X5_takeUntold_35, el_X5_takeUntold_39, el_X5_takeUntold_40, px_ifp, px_ifn, zh_1, zc_1, zc_2, zc_3, zc_4, zc_5, zc_6, zc_7, zc_8, zc_9, zc_10, zc_11, zc_12, zc_20, zc_21, zc_22, zp_1, zp_2, zp_3, zp_4, zp_5, zp_6, zp_7, zp_8, zp_9, zp_10, zp_11, zp_12, zp_20, zp_21, zp_22, upS_eq, upS_ne, upS_up, upz_eq, upz_ne, upz_up, px_al_aI, px_as_aI, px_as_aZ, px_as_aC, px_ln_aI, Option.toList, List.cons_append, List.nil_append, Int.reduceAdd, Int.reduceSub, Int.reduceMul, ↓reduceIte, Nat.reduceEqDiff, eq_self, Int.reduceEq, Int.reduceLT, Int.reduceLE, Int.reduceNe, Int.reduceNeg, Int.reduceToNat, ne_eq, not_true_eq_false, not_false_eq_true, ta, t0, t1, ta, Int.toNat_natCast, hS3, el_X5_takeUntold_36 (r4 ..) _ (zo_10 _) _]))
  exact hQ
