/-! THE MODEL'S TEXTS, 11: row -/
section MODEL
variable {T : Nat → Nat × Nat} {S : Nat → Nat → Int} {c : pm_M × pm_C} {m : Nat} {k : Int} {F : fS} {kc : String → Int}
theorem m_rowText {b : Nat → Int} {n : Int} (hm : ly11 T m) (hbb : tpB b) (hC : tcx c.2) : ∀ (k : Nat) (S : Nat → Nat → Int) (s : rwP), (∀ j, j < 500 → S (m + 10) j = b j) → tkM b s.1 (S m) → tpF s.1 → (∀ k, k < 4 → S (m + 1) k = (c.2.2.1 k : Nat)) → (s.1 1 = 0 → (s.2.1 : Int) ≤ s.1 6 ∧ ∀ j, j < s.2.1 → S (m + 11) j = 10 * s.2.2.1 j + s.2.2.2 j) → s.1 4 - s.1 6 ≤ k →
    ∃ (S' : Nat → Nat → Int), (∀ Q, px_Ev 6 162 66 [.ref m, .int (zI n), .int (zI ((rwL b k s).2.1 : Nat)), .retAddr 0] [] (zh T S' c) Q → px_Ev 6 162 21 [.ref m, .int (zI n), .int (zI (s.2.1 : Nat)), .retAddr 0] [] (zh T S c) Q) ∧ (∀ a, a ≠ m → a ≠ m + 11 → S' a = S a) ∧ pfM (S m) (S' m) ∧ tkM b (rwL b k s).1 (S' m) ∧ ((rwL b k s).1 1 = 0 → ∀ j, j < (rwL b k s).2.1 → S' (m + 11) j = 10 * (rwL b k s).2.2.1 j + (rwL b k s).2.2.2 j) ∧ moF s.1 (rwL b k s).1 := by
  obtain ⟨t0, t1, t2, t3, t4, t5, t6, t7, t8, t9, t10, t11, t12, t13, t14, t15, t16, t17, t18, t19, t20, t21, t22, t23, t24, t25, t26, t27, t28, t29, t30, t31, t32, t33, t34, t35⟩ := id hm
  intro k
  induction k with
  | zero =>
    intro S s hb hG hO hsd h1 hk
    have h18 := hG.2.1
    have hr := hO.2.2.2
    refine ⟨S, fun Q hQ => ?_, fun _ _ _ => rfl, .refl, hG, fun z => (h1 z).2, .refl⟩
    by_cases z : s.1 1 = 0
    · rw [z] at h18
      have h14 := (hG.2.2.2 z).1.2.2.2
      have hD := (hG.2.2.2 z).2.2.1
      have e5 : s.1 5 = 0 := Decidable.byContradiction (fun g => by
        have := hD g
        have := hO.1
        omega)
      have e14 : S m 14 = 0 := by rw [h14, e5]; rfl
      rw [el_X11_row_21]
      (simp (disch := first | with_reducible assumption | omega | decide | (simp only [ps_low, List.map_cons, List.map_nil, Value.category, List.sum_cons, List.sum_nil]; decide)) only [el_X11_row_22, el_X11_row_25, el_X11_row_28, el_X11_row_29, el_X11_row_32, el_X11_row_35, el_X11_row_36, el_X11_row_39, el_X11_row_40, el_X11_row_44, el_X11_row_45, el_X11_row_48, el_X11_row_49, el_X11_row_52, el_X11_row_55, el_X11_row_59, el_X11_row_63, gf_11_14, gf_11_18, gf_11_23, px_ifp, px_ifn, zh_1, zc_1, zc_2, zc_3, zc_4, zc_5, zc_6, zc_7, zc_8, zc_9, zc_10, zc_11, zc_12, zc_20, zc_21, zc_22, zp_1, zp_2, zp_3, zp_4, zp_5, zp_6, zp_7, zp_8, zp_9, zp_10, zp_11, zp_12, zp_20, zp_21, zp_22, upS_eq, upS_ne, upS_up, upz_eq, upz_ne, upz_up, px_al_aI, px_as_aI, px_as_aZ, px_as_aC, px_ln_aI, Option.toList, List.cons_append, List.nil_append, Int.reduceAdd, Int.reduceSub, Int.reduceMul, ↓reduceIte, Nat.reduceEqDiff, eq_self, Int.reduceEq, Int.reduceLT, Int.reduceLE, Int.reduceNe, Int.reduceNeg, Int.reduceToNat, ne_eq, not_true_eq_false, not_false_eq_true, t0, t1, t2, t3, t4, t5, t6, t7, t8, t9, t10, t11, t12, t13, t14, t15, t16, t17, t18, t19, t20, t21, t22, t23, t24, t25, t26, t27, t28, t29, t30, t31, t32, t33, t34, t35, h18, e14]; repeat (first | simp (disch := first | omega | decide) only [upz_srt, upy_upz, upz_up, upS_srt, upT_upS, upS_up] | simp (disch := first | with_reducible assumption | omega | decide | (simp only [ps_low, List.map_cons, List.map_nil, Value.category, List.sum_cons, List.sum_nil]; decide)) only [el_X11_row_22, el_X11_row_25, el_X11_row_28, el_X11_row_29, el_X11_row_32, el_X11_row_35, el_X11_row_36, el_X11_row_39, el_X11_row_40, el_X11_row_44, el_X11_row_45, el_X11_row_48, el_X11_row_49, el_X11_row_52, el_X11_row_55, el_X11_row_59, el_X11_row_63, gf_11_14, gf_11_18, gf_11_23, px_ifp, px_ifn, zh_1, zc_1, zc_2, zc_3, zc_4, zc_5, zc_6, zc_7, zc_8, zc_9, zc_10, zc_11, zc_12, zc_20, zc_21, zc_22, zp_1, zp_2, zp_3, zp_4, zp_5, zp_6, zp_7, zp_8, zp_9, zp_10, zp_11, zp_12, zp_20, zp_21, zp_22, upS_eq, upS_ne, upS_up, upz_eq, upz_ne, upz_up, px_al_aI, px_as_aI, px_as_aZ, px_as_aC, px_ln_aI, Option.toList, List.cons_append, List.nil_append, Int.reduceAdd, Int.reduceSub, Int.reduceMul, ↓reduceIte, Nat.reduceEqDiff, eq_self, Int.reduceEq, Int.reduceLT, Int.reduceLE, Int.reduceNe, Int.reduceNeg, Int.reduceToNat, ne_eq, not_true_eq_false, not_false_eq_true, t0, t1, t2, t3, t4, t5, t6, t7, t8, t9, t10, t11, t12, t13, t14, t15, t16, t17, t18, t19, t20, t21, t22, t23, t24, t25, t26, t27, t28, t29, t30, t31, t32, t33, t34, t35, h18, e14]))
      exact hQ
    · rw [el_X11_row_21]
      (simp (disch := first | with_reducible assumption | omega | decide | (simp only [ps_low, List.map_cons, List.map_nil, Value.category, List.sum_cons, List.sum_nil]; decide)) only [el_X11_row_22, el_X11_row_25, el_X11_row_28, el_X11_row_29, el_X11_row_32, el_X11_row_35, el_X11_row_36, el_X11_row_39, el_X11_row_40, el_X11_row_44, el_X11_row_45, el_X11_row_48, el_X11_row_49, el_X11_row_52, el_X11_row_55, el_X11_row_59, el_X11_row_63, gf_11_14, gf_11_18, gf_11_23, px_ifp, px_ifn, zh_1, zc_1, zc_2, zc_3, zc_4, zc_5, zc_6, zc_7, zc_8, zc_9, zc_10, zc_11, zc_12, zc_20, zc_21, zc_22, zp_1, zp_2, zp_3, zp_4, zp_5, zp_6, zp_7, zp_8, zp_9, zp_10, zp_11, zp_12, zp_20, zp_21, zp_22, upS_eq, upS_ne, upS_up, upz_eq, upz_ne, upz_up, px_al_aI, px_as_aI, px_as_aZ, px_as_aC, px_ln_aI, Option.toList, List.cons_append, List.nil_append, Int.reduceAdd, Int.reduceSub, Int.reduceMul, ↓reduceIte, Nat.reduceEqDiff, eq_self, Int.reduceEq, Int.reduceLT, Int.reduceLE, Int.reduceNe, Int.reduceNeg, Int.reduceToNat, ne_eq, not_true_eq_false, not_false_eq_true, t0, t1, t2, t3, t4, t5, t6, t7, t8, t9, t10, t11, t12, t13, t14, t15, t16, t17, t18, t19, t20, t21, t22, t23, t24, t25, t26, t27, t28, t29, t30, t31, t32, t33, t34, t35, h18]; repeat (first | simp (disch := first | omega | decide) only [upz_srt, upy_upz, upz_up, upS_srt, upT_upS, upS_up] | simp (disch := first | with_reducible assumption | omega | decide | (simp only [ps_low, List.map_cons, List.map_nil, Value.category, List.sum_cons, List.sum_nil]; decide)) only [el_X11_row_22, el_X11_row_25, el_X11_row_28, el_X11_row_29, el_X11_row_32, el_X11_row_35, el_X11_row_36, el_X11_row_39, el_X11_row_40, el_X11_row_44, el_X11_row_45, el_X11_row_48, el_X11_row_49, el_X11_row_52, el_X11_row_55, el_X11_row_59, el_X11_row_63, gf_11_14, gf_11_18, gf_11_23, px_ifp, px_ifn, zh_1, zc_1, zc_2, zc_3, zc_4, zc_5, zc_6, zc_7, zc_8, zc_9, zc_10, zc_11, zc_12, zc_20, zc_21, zc_22, zp_1, zp_2, zp_3, zp_4, zp_5, zp_6, zp_7, zp_8, zp_9, zp_10, zp_11, zp_12, zp_20, zp_21, zp_22, upS_eq, upS_ne, upS_up, upz_eq, upz_ne, upz_up, px_al_aI, px_as_aI, px_as_aZ, px_as_aC, px_ln_aI, Option.toList, List.cons_append, List.nil_append, Int.reduceAdd, Int.reduceSub, Int.reduceMul, ↓reduceIte, Nat.reduceEqDiff, eq_self, Int.reduceEq, Int.reduceLT, Int.reduceLE, Int.reduceNe, Int.reduceNeg, Int.reduceToNat, ne_eq, not_true_eq_false, not_false_eq_true, t0, t1, t2, t3, t4, t5, t6, t7, t8, t9, t10, t11, t12, t13, t14, t15, t16, t17, t18, t19, t20, t21, t22, t23, t24, t25, t26, t27, t28, t29, t30, t31, t32, t33, t34, t35, h18]))
      exact hQ
  | succ k ih =>
    intro S s hb hG hO hsd h1 hk
    have h18 := hG.2.1
    have hr := hO.2.2.2
    unfold rwL
    by_cases z : s.1 1 = 0
    · rw [z] at h18
      have h14 := (hG.2.2.2 z).1.2.2.2
      have hD := (hG.2.2.2 z).2.2.1
      by_cases e5 : s.1 5 = 0
      · rw [if_neg (fun y => y.2 e5)]
        refine ⟨S, fun Q hQ => ?_, fun _ _ _ => rfl, .refl, hG, fun z => (h1 z).2, .refl⟩
        have e14 : S m 14 = 0 := by rw [h14, e5]; rfl
        rw [el_X11_row_21]
        (simp (disch := first | with_reducible assumption | omega | decide | (simp only [ps_low, List.map_cons, List.map_nil, Value.category, List.sum_cons, List.sum_nil]; decide)) only [el_X11_row_22, el_X11_row_25, el_X11_row_28, el_X11_row_29, el_X11_row_32, el_X11_row_35, el_X11_row_36, el_X11_row_39, el_X11_row_40, el_X11_row_44, el_X11_row_45, el_X11_row_48, el_X11_row_49, el_X11_row_52, el_X11_row_55, el_X11_row_59, el_X11_row_63, gf_11_14, gf_11_18, gf_11_23, px_ifp, px_ifn, zh_1, zc_1, zc_2, zc_3, zc_4, zc_5, zc_6, zc_7, zc_8, zc_9, zc_10, zc_11, zc_12, zc_20, zc_21, zc_22, zp_1, zp_2, zp_3, zp_4, zp_5, zp_6, zp_7, zp_8, zp_9, zp_10, zp_11, zp_12, zp_20, zp_21, zp_22, upS_eq, upS_ne, upS_up, upz_eq, upz_ne, upz_up, px_al_aI, px_as_aI, px_as_aZ, px_as_aC, px_ln_aI, Option.toList, List.cons_append, List.nil_append, Int.reduceAdd, Int.reduceSub, Int.reduceMul, ↓reduceIte, Nat.reduceEqDiff, eq_self, Int.reduceEq, Int.reduceLT, Int.reduceLE, Int.reduceNe, Int.reduceNeg, Int.reduceToNat, ne_eq, not_true_eq_false, not_false_eq_true, t0, t1, t2, t3, t4, t5, t6, t7, t8, t9, t10, t11, t12, t13, t14, t15, t16, t17, t18, t19, t20, t21, t22, t23, t24, t25, t26, t27, t28, t29, t30, t31, t32, t33, t34, t35, h18, e14]; repeat (first | simp (disch := first | omega | decide) only [upz_srt, upy_upz, upz_up, upS_srt, upT_upS, upS_up] | simp (disch := first | with_reducible assumption | omega | decide | (simp only [ps_low, List.map_cons, List.map_nil, Value.category, List.sum_cons, List.sum_nil]; decide)) only [el_X11_row_22, el_X11_row_25, el_X11_row_28, el_X11_row_29, el_X11_row_32, el_X11_row_35, el_X11_row_36, el_X11_row_39, el_X11_row_40, el_X11_row_44, el_X11_row_45, el_X11_row_48, el_X11_row_49, el_X11_row_52, el_X11_row_55, el_X11_row_59, el_X11_row_63, gf_11_14, gf_11_18, gf_11_23, px_ifp, px_ifn, zh_1, zc_1, zc_2, zc_3, zc_4, zc_5, zc_6, zc_7, zc_8, zc_9, zc_10, zc_11, zc_12, zc_20, zc_21, zc_22, zp_1, zp_2, zp_3, zp_4, zp_5, zp_6, zp_7, zp_8, zp_9, zp_10, zp_11, zp_12, zp_20, zp_21, zp_22, upS_eq, upS_ne, upS_up, upz_eq, upz_ne, upz_up, px_al_aI, px_as_aI, px_as_aZ, px_as_aC, px_ln_aI, Option.toList, List.cons_append, List.nil_append, Int.reduceAdd, Int.reduceSub, Int.reduceMul, ↓reduceIte, Nat.reduceEqDiff, eq_self, Int.reduceEq, Int.reduceLT, Int.reduceLE, Int.reduceNe, Int.reduceNeg, Int.reduceToNat, ne_eq, not_true_eq_false, not_false_eq_true, t0, t1, t2, t3, t4, t5, t6, t7, t8, t9, t10, t11, t12, t13, t14, t15, t16, t17, t18, t19, t20, t21, t22, t23, t24, t25, t26, t27, t28, t29, t30, t31, t32, t33, t34, t35, h18, e14]))
        exact hQ
      · rw [if_pos ⟨z, e5⟩]
        obtain ⟨y1, y2⟩ := h1 z
        have hd := hD e5
        have ho := hO.1
        have hN : s.2.1 < 500 := by omega
        obtain ⟨F4, hF4⟩ : ∃ F4, nhF 1 4 (tsF b s.1) = F4 := ⟨_, rfl⟩
        have etn : tnF b 1 4 (tsF b s.1) = adv b F4 := by rw [← hF4]; rfl
        obtain ⟨w, ⟨v, G1, r1, g1, f1, rfl⟩, hw⟩ := m_foldNow (T := T) (S := S) (c := c) (b := b) (F := s.1) hm hb hbb hG hO hC hsd
        rw [hF4] at g1 hw
        rw [etn]
        have p4 : tpF F4 := by rw [← hF4]; exact tpF_nh (tpF_ts hO)
        have p5 : tpF (adv b F4) := tpF_adv p4.A
        have mo4 : moF s.1 F4 := by rw [← hF4]; exact (moF_ts hO).trans moF_nh
        have mo5 := moF_adv (b := b) p4.A
        have mo6 := moF_sm (b := b) p5
        have h181 := g1.2.1
        have hr4 := p4.2.2.2
        -- behind the number
        have step : ∃ G2, (∀ Q, px_Ev 6 162 59 [.ref m, .int (zI n), .int (zI ((s.2.1 + 1 : Nat) : Int)), .retAddr 0] [] (zh T (upS (upS S m G2) (m + 11) (upz (S (m + 11)) s.2.1 w)) c) Q → px_Ev 6 162 21 [.ref m, .int (zI n), .int (zI (s.2.1 : Nat)), .retAddr 0] [] (zh T S c) Q) ∧ pfM (S m) G2 ∧ tkM b (adv b F4) G2 := by
          have e14 : S m 14 ≠ 0 ∧ -100 ≤ S m 14 ∧ S m 14 ≤ 100 := by
            have := hO.2.1
            rw [h14]
            unfold tkK
            (repeat' split) <;> omega
          by_cases z4 : F4 1 = 0
          · rw [z4] at h181
            obtain ⟨G2, r2, g2, f2, -⟩ := m_stepOn (T := T) (S := upS (upS S m G1) (m + 11) (upz (S (m + 11)) s.2.1 w)) (c := c) (b := b) (F := F4) hm (fun j hj => by rw [upS_ne (by omega), upS_ne (by omega)]; exact hb j hj) hbb p4.A (by rw [upS_ne (by omega), upS_eq]; exact g1.1) (by rw [upS_ne (by omega), upS_eq]; exact (g1.2.2.2 z4).1.2.2.1) (by rw [upS_ne (by omega), upS_eq]; exact h181) z4
            rw [upS_srt (a := m) (b := m + 11) (by omega), upT_upS, upS_up] at r2
            rw [upS_ne (by omega), upS_eq] at f2
            refine ⟨G2, fun Q hQ => ?_, f1.trans f2, g2⟩
            rw [el_X11_row_21]
            (simp (disch := first | with_reducible assumption | omega | decide | (simp only [ps_low, List.map_cons, List.map_nil, Value.category, List.sum_cons, List.sum_nil]; decide)) only [el_X11_row_22, el_X11_row_25, el_X11_row_28, el_X11_row_29, el_X11_row_32, el_X11_row_35, el_X11_row_36, el_X11_row_39, el_X11_row_40, el_X11_row_44, el_X11_row_45, el_X11_row_48, el_X11_row_49, el_X11_row_52, el_X11_row_55, gf_11_14, gf_11_18, gf_11_23, px_ifp, px_ifn, zh_1, zc_1, zc_2, zc_3, zc_4, zc_5, zc_6, zc_7, zc_8, zc_9, zc_10, zc_11, zc_12, zc_20, zc_21, zc_22, zp_1, zp_2, zp_3, zp_4, zp_5, zp_6, zp_7, zp_8, zp_9, zp_10, zp_11, zp_12, zp_20, zp_21, zp_22, upS_eq, upS_ne, upS_up, upz_eq, upz_ne, upz_up, px_al_aI, px_as_aI, px_as_aZ, px_as_aC, px_ln_aI, Option.toList, List.cons_append, List.nil_append, Int.reduceAdd, Int.reduceSub, Int.reduceMul, ↓reduceIte, Nat.reduceEqDiff, eq_self, Int.reduceEq, Int.reduceLT, Int.reduceLE, Int.reduceNe, Int.reduceNeg, Int.reduceToNat, ne_eq, not_true_eq_false, not_false_eq_true, t0, t1, t2, t3, t4, t5, t6, t7, t8, t9, t10, t11, t12, t13, t14, t15, t16, t17, t18, t19, t20, t21, t22, t23, t24, t25, t26, t27, t28, t29, t30, t31, t32, t33, t34, t35, h18, el_X11_row_41 (r1 ..) _ (zo_12 _) _, Int.toNat_natCast, h181, el_X11_row_56 (r2 ..) _ (zo_12 _) _]; repeat (first | simp (disch := first | omega | decide) only [upz_srt, upy_upz, upz_up, upS_srt, upT_upS, upS_up] | simp (disch := first | with_reducible assumption | omega | decide | (simp only [ps_low, List.map_cons, List.map_nil, Value.category, List.sum_cons, List.sum_nil]; decide)) only [el_X11_row_22, el_X11_row_25, el_X11_row_28, el_X11_row_29, el_X11_row_32, el_X11_row_35, el_X11_row_36, el_X11_row_39, el_X11_row_40, el_X11_row_44, el_X11_row_45, el_X11_row_48, el_X11_row_49, el_X11_row_52, el_X11_row_55, gf_11_14, gf_11_18, gf_11_23, px_ifp, px_ifn, zh_1, zc_1, zc_2, zc_3, zc_4, zc_5, zc_6, zc_7, zc_8, zc_9, zc_10, zc_11, zc_12, zc_20, zc_21, zc_22, zp_1, zp_2, zp_3, zp_4, zp_5, zp_6, zp_7, zp_8, zp_9, zp_10, zp_11, zp_12, zp_20, zp_21, zp_22, upS_eq, upS_ne, upS_up, upz_eq, upz_ne, upz_up, px_al_aI, px_as_aI, px_as_aZ, px_as_aC, px_ln_aI, Option.toList, List.cons_append, List.nil_append, Int.reduceAdd, Int.reduceSub, Int.reduceMul, ↓reduceIte, Nat.reduceEqDiff, eq_self, Int.reduceEq, Int.reduceLT, Int.reduceLE, Int.reduceNe, Int.reduceNeg, Int.reduceToNat, ne_eq, not_true_eq_false, not_false_eq_true, t0, t1, t2, t3, t4, t5, t6, t7, t8, t9, t10, t11, t12, t13, t14, t15, t16, t17, t18, t19, t20, t21, t22, t23, t24, t25, t26, t27, t28, t29, t30, t31, t32, t33, t34, t35, h18, el_X11_row_41 (r1 ..) _ (zo_12 _) _, Int.toNat_natCast, h181, el_X11_row_56 (r2 ..) _ (zo_12 _) _]))
            exact hQ
          · refine ⟨G1, fun Q hQ => ?_, f1, g1.bad z4 rfl rfl rfl⟩
            rw [el_X11_row_21]
            (simp (disch := first | with_reducible assumption | omega | decide | (simp only [ps_low, List.map_cons, List.map_nil, Value.category, List.sum_cons, List.sum_nil]; decide)) only [el_X11_row_22, el_X11_row_25, el_X11_row_28, el_X11_row_29, el_X11_row_32, el_X11_row_35, el_X11_row_36, el_X11_row_39, el_X11_row_40, el_X11_row_44, el_X11_row_45, el_X11_row_48, el_X11_row_49, el_X11_row_52, el_X11_row_55, gf_11_14, gf_11_18, gf_11_23, px_ifp, px_ifn, zh_1, zc_1, zc_2, zc_3, zc_4, zc_5, zc_6, zc_7, zc_8, zc_9, zc_10, zc_11, zc_12, zc_20, zc_21, zc_22, zp_1, zp_2, zp_3, zp_4, zp_5, zp_6, zp_7, zp_8, zp_9, zp_10, zp_11, zp_12, zp_20, zp_21, zp_22, upS_eq, upS_ne, upS_up, upz_eq, upz_ne, upz_up, px_al_aI, px_as_aI, px_as_aZ, px_as_aC, px_ln_aI, Option.toList, List.cons_append, List.nil_append, Int.reduceAdd, Int.reduceSub, Int.reduceMul, ↓reduceIte, Nat.reduceEqDiff, eq_self, Int.reduceEq, Int.reduceLT, Int.reduceLE, Int.reduceNe, Int.reduceNeg, Int.reduceToNat, ne_eq, not_true_eq_false, not_false_eq_true, t0, t1, t2, t3, t4, t5, t6, t7, t8, t9, t10, t11, t12, t13, t14, t15, t16, t17, t18, t19, t20, t21, t22, t23, t24, t25, t26, t27, t28, t29, t30, t31, t32, t33, t34, t35, h18, el_X11_row_41 (r1 ..) _ (zo_12 _) _, Int.toNat_natCast, h181]; repeat (first | simp (disch := first | omega | decide) only [upz_srt, upy_upz, upz_up, upS_srt, upT_upS, upS_up] | simp (disch := first | with_reducible assumption | omega | decide | (simp only [ps_low, List.map_cons, List.map_nil, Value.category, List.sum_cons, List.sum_nil]; decide)) only [el_X11_row_22, el_X11_row_25, el_X11_row_28, el_X11_row_29, el_X11_row_32, el_X11_row_35, el_X11_row_36, el_X11_row_39, el_X11_row_40, el_X11_row_44, el_X11_row_45, el_X11_row_48, el_X11_row_49, el_X11_row_52, el_X11_row_55, gf_11_14, gf_11_18, gf_11_23, px_ifp, px_ifn, zh_1, zc_1, zc_2, zc_3, zc_4, zc_5, zc_6, zc_7, zc_8, zc_9, zc_10, zc_11, zc_12, zc_20, zc_21, zc_22, zp_1, zp_2, zp_3, zp_4, zp_5, zp_6, zp_7, zp_8, zp_9, zp_10, zp_11, zp_12, zp_20, zp_21, zp_22, upS_eq, upS_ne, upS_up, upz_eq, upz_ne, upz_up, px_al_aI, px_as_aI, px_as_aZ, px_as_aC, px_ln_aI, Option.toList, List.cons_append, List.nil_append, Int.reduceAdd, Int.reduceSub, Int.reduceMul, ↓reduceIte, Nat.reduceEqDiff, eq_self, Int.reduceEq, Int.reduceLT, Int.reduceLE, Int.reduceNe, Int.reduceNeg, Int.reduceToNat, ne_eq, not_true_eq_false, not_false_eq_true, t0, t1, t2, t3, t4, t5, t6, t7, t8, t9, t10, t11, t12, t13, t14, t15, t16, t17, t18, t19, t20, t21, t22, t23, t24, t25, t26, t27, t28, t29, t30, t31, t32, t33, t34, t35, h18, el_X11_row_41 (r1 ..) _ (zo_12 _) _, Int.toNat_natCast, h181]))
            exact hQ
        obtain ⟨G2, run2, f2, g2⟩ := step
        obtain ⟨v, G3, r3, g3, f3, rfl⟩ := m_semi (T := T) (S := upS (upS S m G2) (m + 11) (upz (S (m + 11)) s.2.1 w)) (c := c) (b := b) (F := adv b F4) hm (fun j hj => by rw [upS_ne (by omega), upS_ne (by omega)]; exact hb j hj) hbb (by rw [upS_ne (by omega), upS_eq]; exact g2) p5
        rw [upS_srt (a := m) (b := m + 11) (by omega), upT_upS, upS_up] at r3
        rw [upS_ne (by omega), upS_eq] at f3
        have e4 : smF b (adv b F4) 4 = s.1 4 := by rw [← g3.1, f3 13 (by decide) (by decide), f2 13 (by decide) (by decide), hG.1]
        have e6 : s.1 7 ≤ smF b (adv b F4) 6 := Int.le_trans mo4.1 (Int.le_trans mo5.1 mo6.2)
        obtain ⟨S4, run4, f4, f4m, g4, q4, mo7⟩ := ih (upS (upS S m G3) (m + 11) (upz (S (m + 11)) s.2.1 w)) (smF b (adv b F4), s.2.1 + 1, upz s.2.2.1 s.2.1 (tsV b s.1), upz s.2.2.2 s.2.1 (nhV 1 4 (tsF b s.1))) (fun j hj => by rw [upS_ne (by omega), upS_ne (by omega)]; exact hb j hj) (by rw [upS_ne (by omega), upS_eq]; exact g3) (tpF_sm p5) (fun k hk => by rw [upS_ne (by omega), upS_ne (by omega)]; exact hsd k hk) (fun y => ⟨by
            show ((s.2.1 + 1 : Nat) : Int) ≤ smF b (adv b F4) 6
            omega, fun j hj => by
            have hj : j < s.2.1 + 1 := hj
            rw [upS_eq]
            show _ = 10 * upz s.2.2.1 s.2.1 (tsV b s.1) j + upz s.2.2.2 s.2.1 (nhV 1 4 (tsF b s.1)) j
            by_cases e : j = s.2.1
            · rw [e, upz_eq, upz_eq, upz_eq]
              exact hw (mo5.2 (smF_ok (b := b) y)).1
            · rw [upz_ne e, upz_ne e, upz_ne e]
              exact y2 j (by omega)⟩) (by
            show smF b (adv b F4) 4 - smF b (adv b F4) 6 ≤ k
            omega)
        refine ⟨S4, fun Q hQ => run2 Q ?_, fun a h1 h2 => by rw [f4 a h1 h2, upS_ne h2, upS_ne h1], ?_, g4, q4, mo4.trans (mo5.trans (mo6.1.trans mo7))⟩
        · have nx := run4 Q hQ
          (simp (disch := first | with_reducible assumption | omega | decide | (simp only [ps_low, List.map_cons, List.map_nil, Value.category, List.sum_cons, List.sum_nil]; decide)) only [el_X11_row_59, el_X11_row_63, px_ifp, px_ifn, zh_1, zc_1, zc_2, zc_3, zc_4, zc_5, zc_6, zc_7, zc_8, zc_9, zc_10, zc_11, zc_12, zc_20, zc_21, zc_22, zp_1, zp_2, zp_3, zp_4, zp_5, zp_6, zp_7, zp_8, zp_9, zp_10, zp_11, zp_12, zp_20, zp_21, zp_22, upS_eq, upS_ne, upS_up, upz_eq, upz_ne, upz_up, px_al_aI, px_as_aI, px_as_aZ, px_as_aC, px_ln_aI, Option.toList, List.cons_append, List.nil_append, Int.reduceAdd, Int.reduceSub, Int.reduceMul, ↓reduceIte, Nat.reduceEqDiff, eq_self, Int.reduceEq, Int.reduceLT, Int.reduceLE, Int.reduceNe, Int.reduceNeg, Int.reduceToNat, ne_eq, not_true_eq_false, not_false_eq_true, t0, t1, t2, t3, t4, t5, t6, t7, t8, t9, t10, t11, t12, t13, t14, t15, t16, t17, t18, t19, t20, t21, t22, t23, t24, t25, t26, t27, t28, t29, t30, t31, t32, t33, t34, t35, el_X11_row_60 (r3 ..) _ (zo_12 _) _]; repeat (first | simp (disch := first | omega | decide) only [upz_srt, upy_upz, upz_up, upS_srt, upT_upS, upS_up] | simp (disch := first | with_reducible assumption | omega | decide | (simp only [ps_low, List.map_cons, List.map_nil, Value.category, List.sum_cons, List.sum_nil]; decide)) only [el_X11_row_59, el_X11_row_63, px_ifp, px_ifn, zh_1, zc_1, zc_2, zc_3, zc_4, zc_5, zc_6, zc_7, zc_8, zc_9, zc_10, zc_11, zc_12, zc_20, zc_21, zc_22, zp_1, zp_2, zp_3, zp_4, zp_5, zp_6, zp_7, zp_8, zp_9, zp_10, zp_11, zp_12, zp_20, zp_21, zp_22, upS_eq, upS_ne, upS_up, upz_eq, upz_ne, upz_up, px_al_aI, px_as_aI, px_as_aZ, px_as_aC, px_ln_aI, Option.toList, List.cons_append, List.nil_append, Int.reduceAdd, Int.reduceSub, Int.reduceMul, ↓reduceIte, Nat.reduceEqDiff, eq_self, Int.reduceEq, Int.reduceLT, Int.reduceLE, Int.reduceNe, Int.reduceNeg, Int.reduceToNat, ne_eq, not_true_eq_false, not_false_eq_true, t0, t1, t2, t3, t4, t5, t6, t7, t8, t9, t10, t11, t12, t13, t14, t15, t16, t17, t18, t19, t20, t21, t22, t23, t24, t25, t26, t27, t28, t29, t30, t31, t32, t33, t34, t35, el_X11_row_60 (r3 ..) _ (zo_12 _) _]))
          exact nx
        · have f4m' : pfM G3 (S4 m) := by
            have := f4m
            rw [upS_ne (by omega), upS_eq] at this
            exact this
          exact f2.trans (f3.trans f4m')
    · rw [if_neg (fun y => z y.1)]
      refine ⟨S, fun Q hQ => ?_, fun _ _ _ => rfl, .refl, hG, fun z => (h1 z).2, .refl⟩
      rw [el_X11_row_21]
      (simp (disch := first | with_reducible assumption | omega | decide | (simp only [ps_low, List.map_cons, List.map_nil, Value.category, List.sum_cons, List.sum_nil]; decide)) only [el_X11_row_22, el_X11_row_25, el_X11_row_28, el_X11_row_29, el_X11_row_32, el_X11_row_35, el_X11_row_36, el_X11_row_39, el_X11_row_40, el_X11_row_44, el_X11_row_45, el_X11_row_48, el_X11_row_49, el_X11_row_52, el_X11_row_55, el_X11_row_59, el_X11_row_63, gf_11_14, gf_11_18, gf_11_23, px_ifp, px_ifn, zh_1, zc_1, zc_2, zc_3, zc_4, zc_5, zc_6, zc_7, zc_8, zc_9, zc_10, zc_11, zc_12, zc_20, zc_21, zc_22, zp_1, zp_2, zp_3, zp_4, zp_5, zp_6, zp_7, zp_8, zp_9, zp_10, zp_11, zp_12, zp_20, zp_21, zp_22, upS_eq, upS_ne, upS_up, upz_eq, upz_ne, upz_up, px_al_aI, px_as_aI, px_as_aZ, px_as_aC, px_ln_aI, Option.toList, List.cons_append, List.nil_append, Int.reduceAdd, Int.reduceSub, Int.reduceMul, ↓reduceIte, Nat.reduceEqDiff, eq_self, Int.reduceEq, Int.reduceLT, Int.reduceLE, Int.reduceNe, Int.reduceNeg, Int.reduceToNat, ne_eq, not_true_eq_false, not_false_eq_true, t0, t1, t2, t3, t4, t5, t6, t7, t8, t9, t10, t11, t12, t13, t14, t15, t16, t17, t18, t19, t20, t21, t22, t23, t24, t25, t26, t27, t28, t29, t30, t31, t32, t33, t34, t35, h18]; repeat (first | simp (disch := first | omega | decide) only [upz_srt, upy_upz, upz_up, upS_srt, upT_upS, upS_up] | simp (disch := first | with_reducible assumption | omega | decide | (simp only [ps_low, List.map_cons, List.map_nil, Value.category, List.sum_cons, List.sum_nil]; decide)) only [el_X11_row_22, el_X11_row_25, el_X11_row_28, el_X11_row_29, el_X11_row_32, el_X11_row_35, el_X11_row_36, el_X11_row_39, el_X11_row_40, el_X11_row_44, el_X11_row_45, el_X11_row_48, el_X11_row_49, el_X11_row_52, el_X11_row_55, el_X11_row_59, el_X11_row_63, gf_11_14, gf_11_18, gf_11_23, px_ifp, px_ifn, zh_1, zc_1, zc_2, zc_3, zc_4, zc_5, zc_6, zc_7, zc_8, zc_9, zc_10, zc_11, zc_12, zc_20, zc_21, zc_22, zp_1, zp_2, zp_3, zp_4, zp_5, zp_6, zp_7, zp_8, zp_9, zp_10, zp_11, zp_12, zp_20, zp_21, zp_22, upS_eq, upS_ne, upS_up, upz_eq, upz_ne, upz_up, px_al_aI, px_as_aI, px_as_aZ, px_as_aC, px_ln_aI, Option.toList, List.cons_append, List.nil_append, Int.reduceAdd, Int.reduceSub, Int.reduceMul, ↓reduceIte, Nat.reduceEqDiff, eq_self, Int.reduceEq, Int.reduceLT, Int.reduceLE, Int.reduceNe, Int.reduceNeg, Int.reduceToNat, ne_eq, not_true_eq_false, not_false_eq_true, t0, t1, t2, t3, t4, t5, t6, t7, t8, t9, t10, t11, t12, t13, t14, t15, t16, t17, t18, t19, t20, t21, t22, t23, t24, t25, t26, t27, t28, t29, t30, t31, t32, t33, t34, t35, h18]))
      exact hQ
/-- one fold that can be -/
theorem m_fold1 {sd n : Int} (h : mR T S m F) (hf : fI k F) (hs : 0 ≤ sd ∧ sd ≤ 3) (g3 : fOk (layM F.1 F.2.1.1) sd n) :
    ∃ S1, px_R 3 170 [.ref m, .int (zI (10 * sd + n))] (zh T S c) (.inl none) (zh T S1 c) ∧ (∀ a, (a < m ∨ m + 36 ≤ a ∨ a = m + 1) → S1 a = S a) ∧ S1 m 1 = S m 1 ∧ S1 (m + 11) = S (m + 11) ∧ mR T S1 m (F.1, (F.2.1.1 ++ [(sd, n)], F.2.1.2), F.2.2) ∧ fI k (F.1, (F.2.1.1 ++ [(sd, n)], F.2.1.2), F.2.2) := by
  have h' := h
  obtain ⟨S1, r1, x1, f1, q2, e35, e22, -, e11⟩ := m_doFold (T := T) (S := S) (c := c) (sd := sd) (k' := n) h.1 (fs := F.2.1.1) hf.dO (h'.sh hf).1 (h'.sh hf).2.1 h'.2.2.2.1.1.1 h'.2.2.2.2.1 hf.2.2.1.1 hs g3
  have e35' : S1 m 35 = (F.2.1.1.length : Int) + 1 := by rw [e35, upz_eq]
  refine ⟨S1, r1, f1, by rw [e35, upz_ne (by omega)], e11, ?_, hf.1, hf.2.1, ⟨fsO_app _ _ hf.2.2.1.1 ⟨hs, g3⟩, hf.2.2.1.2⟩, hf.2.2.2⟩
  obtain ⟨u1, hA, hB, hC, hD, hE, hF', hG⟩ := h'
  refine ⟨u1, hA.mx x1 (by decide) hf.2.1.1.2.2.2.2.2.2.2, hB.mx x1 (by decide) (by decide), ⟨⟨?_, fun j hj => ?_⟩, ⟨?_, fun r hr' => ⟨?_, fun i hi => ?_⟩⟩, fun j hj => ?_⟩, q2, hE.mx x1 (by decide) (by decide) hf.dO hf.2.2.2.2.1, hF'.mx x1 (by decide) (by decide) hf.2.2.2.2.2.1, hG.mx x1 (by decide) (by decide)⟩
  · rw [e35']
    change _ = (((F.2.1.1 ++ [(sd, n)]).length : Nat) : Int)
    rw [List.length_append]
    rfl
  · replace hj : j < (F.2.1.1 ++ [(sd, n)]).length := hj
    rw [List.length_append, List.length_cons, List.length_nil] at hj
    change S1 (m + 22) j = 10 * ((F.2.1.1 ++ [(sd, n)]).getD j (0, 0)).1 + ((F.2.1.1 ++ [(sd, n)]).getD j (0, 0)).2
    rw [getD_app, e22]
    by_cases e : j = F.2.1.1.length
    · rw [e, upz_eq, if_pos rfl]
    · rw [upz_ne e, if_neg e, if_pos (by omega)]
      exact hC.1.2 j (by omega)
  · rw [e35, upz_ne (by omega)]
    exact hC.2.1.1
  · have := hf.2.2.1.2.1.1
    have hr2 : r < F.2.1.2.1.1 := hr'
    rw [x1.2 30 r (show r < 12 by omega) (by decide)]
    exact (hC.2.1.2 r hr').1
  · have := hf.2.2.1.2.1.1
    have hr2 : r < F.2.1.2.1.1 := hr'
    have hi2 : (i : Int) < F.2.1.2.1.2.1 r := hi
    have := hf.2.2.1.2.1.2.1 r hr2
    rw [x1.2 29 (4 * r + i) (show 4 * r + i < 48 by omega) (by decide)]
    exact (hC.2.1.2 r hr').2 i hi
  · rw [x1.2 9 j hj (by decide)]
    exact hC.2.2 j hj
theorem row_m {n : Int} {r : Int ⊕ String} {F' : fS} (h : mR T S m F) (hf : fI k F) (hk : kc iae = 1) (hn : rg n) (hC : tcx c.2) (hsd : ∀ k, k < 4 → S (m + 1) k = (c.2.2.1 k : Nat)) (hP : rowP F n k r F') : mopR 6 162 [.ref m, .int (zI n), .retAddr 0, .retAddr 0] T S c m kc r F' := by
  obtain ⟨t0, t1, t2, t3, t4, t5, t6, t7, t8, t9, t10, t11, t12, t13, t14, t15, t16, t17, t18, t19, t20, t21, t22, t23, t24, t25, t26, t27, t28, t29, t30, t31, t32, t33, t34, t35⟩ := id h.1
  have hB := h.2.2.1
  have hsz := hf.2.2.2.1.1
  have hbb := hf.2.2.2.1.2
  obtain ⟨b, hb⟩ : ∃ b, F.2.2.1.2.1 = b := ⟨_, rfl⟩
  rw [hb] at hbb
  have hbS : ∀ j, j < 500 → S (m + 10) j = b j := fun j hj => by rw [← hb]; exact hB.2.1 j hj
  rcases hP with ⟨g, rfl, rfl⟩ | ⟨g, G0, A0, B0, hG0, hP⟩
  · have ko := m_open_no (T := T) (S := upS S m (upz (S m) 1 0)) (c := c) (n := n) (z := F'.2.2.1.1) h.1 (by rw [upS_eq, upz_ne (by omega)]; exact hB.1) hsz hn g
    have kf := m_fail (T := T) (S := upS S m (upz (S m) 1 0)) (c := c) (k := 1) t0
    rw [upS_eq, upz_up, upS_up] at kf
    refine mop_thr (v := 0) (S' := upS S m (upz (S m) 1 1)) (px_ofQ fun Q hQ => ?_) (fun a ha => upS_ne (by omega)) (h.same hf (.field (k := 1) (x := 1) (by unfold mJ; omega))) (by rw [upS_eq, upz_eq, hk])
    (simp (disch := first | with_reducible assumption | omega | decide | (simp only [ps_low, List.map_cons, List.map_nil, Value.category, List.sum_cons, List.sum_nil]; decide)) only [el_X11_row_0, el_X11_row_1, el_X11_row_2, el_X11_row_5, el_X11_row_6, el_X11_row_10, el_X11_row_13, el_X11_row_14, el_X11_row_18, pf_11_1, px_ifp, px_ifn, zh_1, zc_1, zc_2, zc_3, zc_4, zc_5, zc_6, zc_7, zc_8, zc_9, zc_10, zc_11, zc_12, zc_20, zc_21, zc_22, zp_1, zp_2, zp_3, zp_4, zp_5, zp_6, zp_7, zp_8, zp_9, zp_10, zp_11, zp_12, zp_20, zp_21, zp_22, upS_eq, upS_ne, upS_up, upz_eq, upz_ne, upz_up, px_al_aI, px_as_aI, px_as_aZ, px_as_aC, px_ln_aI, Option.toList, List.cons_append, List.nil_append, Int.reduceAdd, Int.reduceSub, Int.reduceMul, ↓reduceIte, Nat.reduceEqDiff, eq_self, Int.reduceEq, Int.reduceLT, Int.reduceLE, Int.reduceNe, Int.reduceNeg, Int.reduceToNat, ne_eq, not_true_eq_false, not_false_eq_true, t0, t1, t2, t3, t4, t5, t6, t7, t8, t9, t10, t11, t12, t13, t14, t15, t16, t17, t18, t19, t20, t21, t22, t23, t24, t25, t26, t27, t28, t29, t30, t31, t32, t33, t34, t35, el_X11_row_7 (ko ..) _ (zo_12 _) _, el_X11_row_15 (kf ..) _ (zo_12 _) _]; repeat (first | simp (disch := first | omega | decide) only [upz_srt, upy_upz, upz_up, upS_srt, upT_upS, upS_up] | simp (disch := first | with_reducible assumption | omega | decide | (simp only [ps_low, List.map_cons, List.map_nil, Value.category, List.sum_cons, List.sum_nil]; decide)) only [el_X11_row_0, el_X11_row_1, el_X11_row_2, el_X11_row_5, el_X11_row_6, el_X11_row_10, el_X11_row_13, el_X11_row_14, el_X11_row_18, pf_11_1, px_ifp, px_ifn, zh_1, zc_1, zc_2, zc_3, zc_4, zc_5, zc_6, zc_7, zc_8, zc_9, zc_10, zc_11, zc_12, zc_20, zc_21, zc_22, zp_1, zp_2, zp_3, zp_4, zp_5, zp_6, zp_7, zp_8, zp_9, zp_10, zp_11, zp_12, zp_20, zp_21, zp_22, upS_eq, upS_ne, upS_up, upz_eq, upz_ne, upz_up, px_al_aI, px_as_aI, px_as_aZ, px_as_aC, px_ln_aI, Option.toList, List.cons_append, List.nil_append, Int.reduceAdd, Int.reduceSub, Int.reduceMul, ↓reduceIte, Nat.reduceEqDiff, eq_self, Int.reduceEq, Int.reduceLT, Int.reduceLE, Int.reduceNe, Int.reduceNeg, Int.reduceToNat, ne_eq, not_true_eq_false, not_false_eq_true, t0, t1, t2, t3, t4, t5, t6, t7, t8, t9, t10, t11, t12, t13, t14, t15, t16, t17, t18, t19, t20, t21, t22, t23, t24, t25, t26, t27, t28, t29, t30, t31, t32, t33, t34, t35, el_X11_row_7 (ko ..) _ (zo_12 _) _, el_X11_row_15 (kf ..) _ (zo_12 _) _]))
    exact hQ
  · obtain ⟨R, hR⟩ : ∃ R, rowR F G0 A0 B0 n = R := ⟨_, rfl⟩
    rw [hR] at hP
    have hR' : rwL b 500 (adv b (opF G0 n), 0, A0, B0) = R := by
      unfold rowR at hR
      rw [hb] at hR
      exact hR
    have tp : tpF (adv b (opF G0 n)) := tpF_adv (tpA_op hG0 (by omega))
    obtain ⟨hrr, hle⟩ := rwL_r (b := b) 500 (adv b (opF G0 n), 0, A0, B0) ⟨tp, fun j hj => absurd hj (Nat.not_lt_zero j)⟩
    rw [hR'] at hrr hle
    have hle : R.2.1 ≤ 500 := by
      dsimp only at hle
      omega
    obtain ⟨G, r1, g1, e11, e20, f1⟩ := m_open (T := T) (S := upS S m (upz (S m) 1 0)) (c := c) (n := n) (z := F.2.2.1.1) (b := b) (G0 := G0) h.1 (fun j hj => by rw [upS_ne (by omega)]; exact hbS j hj) hbb hG0 (by rw [upS_eq, upz_ne (by omega)]; exact hB.1) hsz g
    rw [upS_up] at r1
    rw [upS_eq] at f1
    obtain ⟨S3, r3, f3, f3m, g3, q3, mo3⟩ := m_rowText (T := T) (c := c) (m := m) (b := b) (n := n) h.1 hbb hC 500 (upS S m G) (adv b (opF G0 n), 0, A0, B0) (fun j hj => by rw [upS_ne (by omega)]; exact hbS j hj) (by rw [upS_eq]; exact g1) tp (fun k hk => by rw [upS_ne (by omega)]; exact hsd k hk) (fun _ => ⟨by
        have := tp.1
        show (0 : Int) ≤ (adv b (opF G0 n)) 6
        omega, fun j hj => absurd hj (Nat.not_lt_zero j)⟩) (by
      have := tp.1
      change (adv b (opF G0 n)) 4 - (adv b (opF G0 n)) 6 ≤ 500
      omega)
    rw [hR'] at r3 g3 q3 mo3
    rw [upS_eq] at f3m
    have ez : ((0 : Nat) : Int) = 0 := rfl
    have run : ∀ Q, px_Ev 6 162 66 [.ref m, .int (zI n), .int (zI (R.2.1 : Nat)), .retAddr 0] [] (zh T S3 c) Q → px_Ev 6 162 0 [.ref m, .int (zI n), .retAddr 0, .retAddr 0] [] (zh T S c) Q := by
      intro Q hQ
      have nx := r3 Q hQ
      change px_Ev 6 _ 21 [.ref m, .int (zI n), .int (zI 0), .retAddr 0] [] (zh T (upS S m G) c) Q at nx
      (simp (disch := first | with_reducible assumption | omega | decide | (simp only [ps_low, List.map_cons, List.map_nil, Value.category, List.sum_cons, List.sum_nil]; decide)) only [el_X11_row_0, el_X11_row_1, el_X11_row_2, el_X11_row_5, el_X11_row_6, el_X11_row_10, el_X11_row_13, el_X11_row_14, el_X11_row_18, el_X11_row_19, el_X11_row_20, pf_11_1, px_ifp, px_ifn, zh_1, zc_1, zc_2, zc_3, zc_4, zc_5, zc_6, zc_7, zc_8, zc_9, zc_10, zc_11, zc_12, zc_20, zc_21, zc_22, zp_1, zp_2, zp_3, zp_4, zp_5, zp_6, zp_7, zp_8, zp_9, zp_10, zp_11, zp_12, zp_20, zp_21, zp_22, upS_eq, upS_ne, upS_up, upz_eq, upz_ne, upz_up, px_al_aI, px_as_aI, px_as_aZ, px_as_aC, px_ln_aI, Option.toList, List.cons_append, List.nil_append, Int.reduceAdd, Int.reduceSub, Int.reduceMul, ↓reduceIte, Nat.reduceEqDiff, eq_self, Int.reduceEq, Int.reduceLT, Int.reduceLE, Int.reduceNe, Int.reduceNeg, Int.reduceToNat, ne_eq, not_true_eq_false, not_false_eq_true, t0, t1, t2, t3, t4, t5, t6, t7, t8, t9, t10, t11, t12, t13, t14, t15, t16, t17, t18, t19, t20, t21, t22, t23, t24, t25, t26, t27, t28, t29, t30, t31, t32, t33, t34, t35, el_X11_row_7 (r1 ..) _ (zo_12 _) _]; repeat (first | simp (disch := first | omega | decide) only [upz_srt, upy_upz, upz_up, upS_srt, upT_upS, upS_up] | simp (disch := first | with_reducible assumption | omega | decide | (simp only [ps_low, List.map_cons, List.map_nil, Value.category, List.sum_cons, List.sum_nil]; decide)) only [el_X11_row_0, el_X11_row_1, el_X11_row_2, el_X11_row_5, el_X11_row_6, el_X11_row_10, el_X11_row_13, el_X11_row_14, el_X11_row_18, el_X11_row_19, el_X11_row_20, pf_11_1, px_ifp, px_ifn, zh_1, zc_1, zc_2, zc_3, zc_4, zc_5, zc_6, zc_7, zc_8, zc_9, zc_10, zc_11, zc_12, zc_20, zc_21, zc_22, zp_1, zp_2, zp_3, zp_4, zp_5, zp_6, zp_7, zp_8, zp_9, zp_10, zp_11, zp_12, zp_20, zp_21, zp_22, upS_eq, upS_ne, upS_up, upz_eq, upz_ne, upz_up, px_al_aI, px_as_aI, px_as_aZ, px_as_aC, px_ln_aI, Option.toList, List.cons_append, List.nil_append, Int.reduceAdd, Int.reduceSub, Int.reduceMul, ↓reduceIte, Nat.reduceEqDiff, eq_self, Int.reduceEq, Int.reduceLT, Int.reduceLE, Int.reduceNe, Int.reduceNeg, Int.reduceToNat, ne_eq, not_true_eq_false, not_false_eq_true, t0, t1, t2, t3, t4, t5, t6, t7, t8, t9, t10, t11, t12, t13, t14, t15, t16, t17, t18, t19, t20, t21, t22, t23, t24, t25, t26, t27, t28, t29, t30, t31, t32, t33, t34, t35, el_X11_row_7 (r1 ..) _ (zo_12 _) _]))
      exact nx
    have h18 := g3.2.1
    have hr3 := hrr.1.2.2.2
    have e3o : ∀ a, a ≠ m → a ≠ m + 11 → S3 a = S a := fun a h1 h2 => by rw [f3 a h1 h2, upS_ne h1]
    have mx : mX [11, 20] [] m S S3 := by
      refine ⟨fun j hj hx => ?_, fun a j hj _ => ?_⟩
      · simp only [List.mem_cons, List.not_mem_nil, or_false, not_or] at hx
        rw [f3m j (by unfold mJ at hj; omega) (by unfold mJ at hj; omega), f1 j (by omega) (by unfold mJ at hj; omega) (by unfold mJ at hj; omega) (by unfold mJ at hj; omega), upz_ne (by unfold mJ at hj; omega)]
      · have := mLim_in hj
        rw [e3o (m + a) (by omega) (by omega)]
    have e3_11 : S3 m 11 = 0 := by rw [f3m 11 (by decide) (by decide), e11]
    have e3_20 : S3 m 20 = -1 := by rw [f3m 20 (by decide) (by decide), e20]
    have e3_1 : S3 m 1 = 0 := by rw [f3m 1 (by decide) (by decide), f1 1 (by decide) (by decide) (by decide) (by decide), upz_eq]
    have hf1 : fI k (F.1, F.2.1, (0, F.2.2.1.2.1, R.1 2), F.2.2.2) := ⟨hf.1, hf.2.1, hf.2.2.1, ⟨⟨Int.le_refl _, show (0 : Int) ≤ 500 by decide⟩, hf.2.2.2.1.2⟩, hf.2.2.2.2⟩
    rcases hP with ⟨z, rfl, rfl⟩ | ⟨z, rfl, rfl⟩
    · have e19 := g3.2.2.1 z
      have h9 : S3 (m + 9) 0 = F.2.1.2.2 0 := by rw [e3o (m + 9) (by omega) (by omega)]; exact h.2.2.2.1.2.2 0 (by decide)
      have kf := m_faulty (T := T) (S := S3) (c := c) h.1 h18 e19 h9 (by unfold rg; omega)
      have a1 : mR T (upS S3 m (upz (S3 m) 20 (R.1 2))) m (F.1, F.2.1, (0, F.2.2.1.2.1, R.1 2), F.2.2.2) := by
        refine h.tape hf (mx.trans (.field (k := 20))).sub ⟨by rw [upS_eq, upz_ne (by omega), e3_11], fun j hj => ?_, by rw [upS_eq, upz_eq]⟩
        rw [upS_ne (by omega), e3o (m + 10) (by omega) (by omega)]
        exact hB.2.1 j hj
      have a2 := a1.up (j0 := 0) (S' := upS (upS S3 m (upz (S3 m) 20 (R.1 2))) (m + 9) (upz (S3 (m + 9)) 0 (F.2.1.2.2 0 + 1))) hf1 (fun j hj => by rw [upS_ne (by omega)]) (fun a j hj ha => by rw [upS_ne (by omega)]) (by rw [upS_eq, upS_ne (by omega)]) (by decide)
      refine mop_val (px_ofQ fun Q hQ => run Q ?_) (fun a ha => by rw [upS_ne (by omega), upS_ne (by omega), e3o a (by omega) (by omega)]) a2 (by rw [upS_ne (by omega), upS_eq, upz_ne (by omega), e3_1])
      (simp (disch := first | with_reducible assumption | omega | decide | (simp only [ps_low, List.map_cons, List.map_nil, Value.category, List.sum_cons, List.sum_nil]; decide)) only [el_X11_row_66, el_X11_row_67, el_X11_row_70, el_X11_row_73, el_X11_row_74, el_X11_row_78, el_X11_row_79, gf_11_18, px_ifp, px_ifn, zh_1, zc_1, zc_2, zc_3, zc_4, zc_5, zc_6, zc_7, zc_8, zc_9, zc_10, zc_11, zc_12, zc_20, zc_21, zc_22, zp_1, zp_2, zp_3, zp_4, zp_5, zp_6, zp_7, zp_8, zp_9, zp_10, zp_11, zp_12, zp_20, zp_21, zp_22, upS_eq, upS_ne, upS_up, upz_eq, upz_ne, upz_up, px_al_aI, px_as_aI, px_as_aZ, px_as_aC, px_ln_aI, Option.toList, List.cons_append, List.nil_append, Int.reduceAdd, Int.reduceSub, Int.reduceMul, ↓reduceIte, Nat.reduceEqDiff, eq_self, Int.reduceEq, Int.reduceLT, Int.reduceLE, Int.reduceNe, Int.reduceNeg, Int.reduceToNat, ne_eq, not_true_eq_false, not_false_eq_true, t0, t1, t2, t3, t4, t5, t6, t7, t8, t9, t10, t11, t12, t13, t14, t15, t16, t17, t18, t19, t20, t21, t22, t23, t24, t25, t26, t27, t28, t29, t30, t31, t32, t33, t34, t35, h18, el_X11_row_75 (kf ..) _ (zo_12 _) _]; repeat (first | simp (disch := first | omega | decide) only [upz_srt, upy_upz, upz_up, upS_srt, upT_upS, upS_up] | simp (disch := first | with_reducible assumption | omega | decide | (simp only [ps_low, List.map_cons, List.map_nil, Value.category, List.sum_cons, List.sum_nil]; decide)) only [el_X11_row_66, el_X11_row_67, el_X11_row_70, el_X11_row_73, el_X11_row_74, el_X11_row_78, el_X11_row_79, gf_11_18, px_ifp, px_ifn, zh_1, zc_1, zc_2, zc_3, zc_4, zc_5, zc_6, zc_7, zc_8, zc_9, zc_10, zc_11, zc_12, zc_20, zc_21, zc_22, zp_1, zp_2, zp_3, zp_4, zp_5, zp_6, zp_7, zp_8, zp_9, zp_10, zp_11, zp_12, zp_20, zp_21, zp_22, upS_eq, upS_ne, upS_up, upz_eq, upz_ne, upz_up, px_al_aI, px_as_aI, px_as_aZ, px_as_aC, px_ln_aI, Option.toList, List.cons_append, List.nil_append, Int.reduceAdd, Int.reduceSub, Int.reduceMul, ↓reduceIte, Nat.reduceEqDiff, eq_self, Int.reduceEq, Int.reduceLT, Int.reduceLE, Int.reduceNe, Int.reduceNeg, Int.reduceToNat, ne_eq, not_true_eq_false, not_false_eq_true, t0, t1, t2, t3, t4, t5, t6, t7, t8, t9, t10, t11, t12, t13, t14, t15, t16, t17, t18, t19, t20, t21, t22, t23, t24, t25, t26, t27, t28, t29, t30, t31, t32, t33, t34, t35, h18, el_X11_row_75 (kf ..) _ (zo_12 _) _]))
      exact hQ
    · have q3 := q3 z
      rw [z] at h18
      have a1 : mR T S3 m (F.1, F.2.1, (0, F.2.2.1.2.1, R.1 2), F.2.2.2) := by
        refine h.tape hf mx ⟨e3_11, fun j hj => ?_, ?_⟩
        · rw [e3o (m + 10) (by omega) (by omega)]
          exact hB.2.1 j hj
        · rw [e3_20]
          exact (mo3.2 z).2.symm
      obtain ⟨W, hW⟩ : ∃ W, roG F.1 R.2.2.1 R.2.2.2 R.2.1 0 F.2.1 = W := ⟨_, rfl⟩
      rw [hW]
      obtain ⟨v, S', hv, rfl, q1, q2, q4⟩ : zR 6 162 [.ref m, .int (zI n), .retAddr 0, .retAddr 0] T S c (fun v S' => v = some (.int (zI (W.1 : Nat))) ∧ (∀ a, (a < m ∨ m + 36 ≤ a ∨ a = m + 1) → S' a = S a) ∧ mR T S' m (F.1, W.2, (0, F.2.2.1.2.1, R.1 2), F.2.2.2) ∧ S' m 1 = 0) := by
        refine zR_of ?_
        generalize hQf : zQ T c (fun v S' => v = some (.int (zI (W.1 : Nat))) ∧ (∀ a, (a < m ∨ m + 36 ≤ a ∨ a = m + 1) → S' a = S a) ∧ mR T S' m (F.1, W.2, (0, F.2.2.1.2.1, R.1 2), F.2.2.2) ∧ S' m 1 = 0) = Qf
        have loop : ∀ (t i : Nat) (S4 : Nat → Nat → Int) (I : iS), i + t = R.2.1 → (∀ a, (a < m ∨ m + 36 ≤ a ∨ a = m + 1) → S4 a = S a) → (∀ j, j < R.2.1 → S4 (m + 11) j = 10 * R.2.2.1 j + R.2.2.2 j) → S4 m 1 = 0 → mR T S4 m (F.1, I, (0, F.2.2.1.2.1, R.1 2), F.2.2.2) → fI k (F.1, I, (0, F.2.2.1.2.1, R.1 2), F.2.2.2) → roG F.1 R.2.2.1 R.2.2.2 t i I = W →
            px_Ev 6 162 82 [.ref m, .int (zI n), .int (zI (R.2.1 : Nat)), .int (zI (i : Nat))] [] (zh T S4 c) Qf := by
          intro t
          induction t with
          | zero =>
            intro i S4 I hi f4 a4 c4 h4 hf4 he
            have he' : (i, I) = W := he
            have fq := zQ_in (T := T) (c := c) (P := fun v S' => v = some (.int (zI (W.1 : Nat))) ∧ (∀ a, (a < m ∨ m + 36 ≤ a ∨ a = m + 1) → S' a = S a) ∧ mR T S' m (F.1, W.2, (0, F.2.2.1.2.1, R.1 2), F.2.2.2) ∧ S' m 1 = 0) (v := some (.int (zI (R.2.1 : Nat)))) (S' := S4) ⟨by rw [← he', show R.2.1 = i by omega], f4, by rw [← he']; exact h4, c4⟩
            rw [hQf] at fq
            rw [el_X11_row_82]
            (simp (disch := first | with_reducible assumption | omega | decide | (simp only [ps_low, List.map_cons, List.map_nil, Value.category, List.sum_cons, List.sum_nil]; decide)) only [el_X11_row_83, el_X11_row_84, el_X11_row_87, el_X11_row_88, el_X11_row_89, el_X11_row_90, el_X11_row_93, el_X11_row_94, el_X11_row_98, el_X11_row_101, el_X11_row_102, el_X11_row_105, el_X11_row_106, el_X11_row_107, el_X11_row_108, el_X11_row_109, el_X11_row_110, el_X11_row_111, el_X11_row_112, el_X11_row_113, el_X11_row_114, el_X11_row_115, el_X11_row_118, el_X11_row_119, el_X11_row_123, el_X11_row_126, el_X11_row_129, el_X11_row_130, gf_11_23, gf_11_9, px_ifp, px_ifn, zh_1, zc_1, zc_2, zc_3, zc_4, zc_5, zc_6, zc_7, zc_8, zc_9, zc_10, zc_11, zc_12, zc_20, zc_21, zc_22, zp_1, zp_2, zp_3, zp_4, zp_5, zp_6, zp_7, zp_8, zp_9, zp_10, zp_11, zp_12, zp_20, zp_21, zp_22, upS_eq, upS_ne, upS_up, upz_eq, upz_ne, upz_up, px_al_aI, px_as_aI, px_as_aZ, px_as_aC, px_ln_aI, Option.toList, List.cons_append, List.nil_append, Int.reduceAdd, Int.reduceSub, Int.reduceMul, ↓reduceIte, Nat.reduceEqDiff, eq_self, Int.reduceEq, Int.reduceLT, Int.reduceLE, Int.reduceNe, Int.reduceNeg, Int.reduceToNat, ne_eq, not_true_eq_false, not_false_eq_true, t0, t1, t2, t3, t4, t5, t6, t7, t8, t9, t10, t11, t12, t13, t14, t15, t16, t17, t18, t19, t20, t21, t22, t23, t24, t25, t26, t27, t28, t29, t30, t31, t32, t33, t34, t35]; repeat (first | simp (disch := first | omega | decide) only [upz_srt, upy_upz, upz_up, upS_srt, upT_upS, upS_up] | simp (disch := first | with_reducible assumption | omega | decide | (simp only [ps_low, List.map_cons, List.map_nil, Value.category, List.sum_cons, List.sum_nil]; decide)) only [el_X11_row_83, el_X11_row_84, el_X11_row_87, el_X11_row_88, el_X11_row_89, el_X11_row_90, el_X11_row_93, el_X11_row_94, el_X11_row_98, el_X11_row_101, el_X11_row_102, el_X11_row_105, el_X11_row_106, el_X11_row_107, el_X11_row_108, el_X11_row_109, el_X11_row_110, el_X11_row_111, el_X11_row_112, el_X11_row_113, el_X11_row_114, el_X11_row_115, el_X11_row_118, el_X11_row_119, el_X11_row_123, el_X11_row_126, el_X11_row_129, el_X11_row_130, gf_11_23, gf_11_9, px_ifp, px_ifn, zh_1, zc_1, zc_2, zc_3, zc_4, zc_5, zc_6, zc_7, zc_8, zc_9, zc_10, zc_11, zc_12, zc_20, zc_21, zc_22, zp_1, zp_2, zp_3, zp_4, zp_5, zp_6, zp_7, zp_8, zp_9, zp_10, zp_11, zp_12, zp_20, zp_21, zp_22, upS_eq, upS_ne, upS_up, upz_eq, upz_ne, upz_up, px_al_aI, px_as_aI, px_as_aZ, px_as_aC, px_ln_aI, Option.toList, List.cons_append, List.nil_append, Int.reduceAdd, Int.reduceSub, Int.reduceMul, ↓reduceIte, Nat.reduceEqDiff, eq_self, Int.reduceEq, Int.reduceLT, Int.reduceLE, Int.reduceNe, Int.reduceNeg, Int.reduceToNat, ne_eq, not_true_eq_false, not_false_eq_true, t0, t1, t2, t3, t4, t5, t6, t7, t8, t9, t10, t11, t12, t13, t14, t15, t16, t17, t18, t19, t20, t21, t22, t23, t24, t25, t26, t27, t28, t29, t30, t31, t32, t33, t34, t35]))
            exact fq
          | succ t ih =>
            intro i S4 I hi f4 a4 c4 h4 hf4 he
            have ai := a4 i (by omega)
            have ra := hrr.2 i (by omega)
            have hI := hf4.lay
            have mm2 := h4.2.2.2.2.1.1.1
            have mm3 := h4.2.2.2.2.1.1.2
            have hc2 := hI.1.1.2.2.1
            have hc3 := hI.1.1.2.2.2.1
            have kcf := m_canFold (T := T) (S := S4) (c := c) (s := 0) (sd := R.2.2.1 i) (k := R.2.2.2 i) h.1 (by decide) ra.1 ra.2 (by rw [mm2]; exact hc2) (by rw [mm3]; exact hc3)
            rw [mm2, mm3, ez] at kcf
            unfold roG at he
            unfold foI at he
            by_cases g2 : fOb (layM F.1 I.1) (R.2.2.1 i) (R.2.2.2 i) = true
            · rw [if_pos g2, if_pos g2] at he
              have g3 := fOb_iff.mp g2
              rw [if_pos (show 1 ≤ R.2.2.2 i ∧ 2 * R.2.2.2 i ≤ (if R.2.2.1 i < 2 then (layM F.1 I.1).1 2 else (layM F.1 I.1).1 3) from g3)] at kcf
              obtain ⟨S5, r5, f5, c5, a5, h5, hf5⟩ := m_fold1 (c := c) h4 hf4 ra.1 g3
              have nx := ih (i + 1) S5 (I.1 ++ [(R.2.2.1 i, R.2.2.2 i)], I.2) (by omega) (fun a ha => by rw [f5 a ha, f4 a ha]) (fun j hj => by rw [a5]; exact a4 j hj) (by rw [c5]; exact c4) h5 hf5 he
              rw [el_X11_row_82]
              (simp (disch := first | with_reducible assumption | omega | decide | (simp only [ps_low, List.map_cons, List.map_nil, Value.category, List.sum_cons, List.sum_nil]; decide)) only [el_X11_row_83, el_X11_row_84, el_X11_row_87, el_X11_row_88, el_X11_row_89, el_X11_row_90, el_X11_row_93, el_X11_row_94, el_X11_row_98, el_X11_row_101, el_X11_row_102, el_X11_row_105, el_X11_row_106, el_X11_row_107, el_X11_row_108, el_X11_row_109, el_X11_row_110, el_X11_row_111, el_X11_row_112, el_X11_row_113, el_X11_row_114, el_X11_row_115, el_X11_row_118, el_X11_row_119, el_X11_row_123, el_X11_row_126, gf_11_23, gf_11_9, px_ifp, px_ifn, zh_1, zc_1, zc_2, zc_3, zc_4, zc_5, zc_6, zc_7, zc_8, zc_9, zc_10, zc_11, zc_12, zc_20, zc_21, zc_22, zp_1, zp_2, zp_3, zp_4, zp_5, zp_6, zp_7, zp_8, zp_9, zp_10, zp_11, zp_12, zp_20, zp_21, zp_22, upS_eq, upS_ne, upS_up, upz_eq, upz_ne, upz_up, px_al_aI, px_as_aI, px_as_aZ, px_as_aC, px_ln_aI, Option.toList, List.cons_append, List.nil_append, Int.reduceAdd, Int.reduceSub, Int.reduceMul, ↓reduceIte, Nat.reduceEqDiff, eq_self, Int.reduceEq, Int.reduceLT, Int.reduceLE, Int.reduceNe, Int.reduceNeg, Int.reduceToNat, ne_eq, not_true_eq_false, not_false_eq_true, t0, t1, t2, t3, t4, t5, t6, t7, t8, t9, t10, t11, t12, t13, t14, t15, t16, t17, t18, t19, t20, t21, t22, t23, t24, t25, t26, t27, t28, t29, t30, t31, t32, t33, t34, t35, Int.toNat_natCast, ai, el_X11_row_95 (kcf ..) _ (zo_12 _) _, el_X11_row_120 (r5 ..) _ (zo_12 _) _]; repeat (first | simp (disch := first | omega | decide) only [upz_srt, upy_upz, upz_up, upS_srt, upT_upS, upS_up] | simp (disch := first | with_reducible assumption | omega | decide | (simp only [ps_low, List.map_cons, List.map_nil, Value.category, List.sum_cons, List.sum_nil]; decide)) only [el_X11_row_83, el_X11_row_84, el_X11_row_87, el_X11_row_88, el_X11_row_89, el_X11_row_90, el_X11_row_93, el_X11_row_94, el_X11_row_98, el_X11_row_101, el_X11_row_102, el_X11_row_105, el_X11_row_106, el_X11_row_107, el_X11_row_108, el_X11_row_109, el_X11_row_110, el_X11_row_111, el_X11_row_112, el_X11_row_113, el_X11_row_114, el_X11_row_115, el_X11_row_118, el_X11_row_119, el_X11_row_123, el_X11_row_126, gf_11_23, gf_11_9, px_ifp, px_ifn, zh_1, zc_1, zc_2, zc_3, zc_4, zc_5, zc_6, zc_7, zc_8, zc_9, zc_10, zc_11, zc_12, zc_20, zc_21, zc_22, zp_1, zp_2, zp_3, zp_4, zp_5, zp_6, zp_7, zp_8, zp_9, zp_10, zp_11, zp_12, zp_20, zp_21, zp_22, upS_eq, upS_ne, upS_up, upz_eq, upz_ne, upz_up, px_al_aI, px_as_aI, px_as_aZ, px_as_aC, px_ln_aI, Option.toList, List.cons_append, List.nil_append, Int.reduceAdd, Int.reduceSub, Int.reduceMul, ↓reduceIte, Nat.reduceEqDiff, eq_self, Int.reduceEq, Int.reduceLT, Int.reduceLE, Int.reduceNe, Int.reduceNeg, Int.reduceToNat, ne_eq, not_true_eq_false, not_false_eq_true, t0, t1, t2, t3, t4, t5, t6, t7, t8, t9, t10, t11, t12, t13, t14, t15, t16, t17, t18, t19, t20, t21, t22, t23, t24, t25, t26, t27, t28, t29, t30, t31, t32, t33, t34, t35, Int.toNat_natCast, ai, el_X11_row_95 (kcf ..) _ (zo_12 _) _, el_X11_row_120 (r5 ..) _ (zo_12 _) _]))
              exact nx
            · rw [if_neg g2, if_neg g2] at he
              rw [if_neg (show ¬ (1 ≤ R.2.2.2 i ∧ 2 * R.2.2.2 i ≤ (if R.2.2.1 i < 2 then (layM F.1 I.1).1 2 else (layM F.1 I.1).1 3)) from fun z => g2 (fOb_iff.mpr z))] at kcf
              have st := h4.2.2.2.1.2.2 1 (by decide)
              have h5 := h4.up (j0 := 1) (S' := upS S4 (m + 9) (upz (S4 (m + 9)) 1 (I.2.2 1 + 1))) hf4 (fun j hj => by rw [upS_ne (by omega)]) (fun a j hj ha => by rw [upS_ne (by omega)]) (by rw [upS_eq]) (by decide)
              have st' : S4 (m + 9) 1 = I.2.2 1 := st
              have fq := zQ_in (T := T) (c := c) (P := fun v S' => v = some (.int (zI (W.1 : Nat))) ∧ (∀ a, (a < m ∨ m + 36 ≤ a ∨ a = m + 1) → S' a = S a) ∧ mR T S' m (F.1, W.2, (0, F.2.2.1.2.1, R.1 2), F.2.2.2) ∧ S' m 1 = 0) (v := some (.int (zI (i : Nat)))) (S' := upS S4 (m + 9) (upz (S4 (m + 9)) 1 (I.2.2 1 + 1))) ⟨by rw [← he], fun a ha => by rw [upS_ne (by omega), f4 a ha], by rw [← he]; exact h5, by rw [upS_ne (by omega)]; exact c4⟩
              rw [hQf] at fq
              rw [el_X11_row_82]
              (simp (disch := first | with_reducible assumption | omega | decide | (simp only [ps_low, List.map_cons, List.map_nil, Value.category, List.sum_cons, List.sum_nil]; decide)) only [el_X11_row_83, el_X11_row_84, el_X11_row_87, el_X11_row_88, el_X11_row_89, el_X11_row_90, el_X11_row_93, el_X11_row_94, el_X11_row_98, el_X11_row_101, el_X11_row_102, el_X11_row_105, el_X11_row_106, el_X11_row_107, el_X11_row_108, el_X11_row_109, el_X11_row_110, el_X11_row_111, el_X11_row_112, gf_11_23, gf_11_9, px_ifp, px_ifn, zh_1, zc_1, zc_2, zc_3, zc_4, zc_5, zc_6, zc_7, zc_8, zc_9, zc_10, zc_11, zc_12, zc_20, zc_21, zc_22, zp_1, zp_2, zp_3, zp_4, zp_5, zp_6, zp_7, zp_8, zp_9, zp_10, zp_11, zp_12, zp_20, zp_21, zp_22, upS_eq, upS_ne, upS_up, upz_eq, upz_ne, upz_up, px_al_aI, px_as_aI, px_as_aZ, px_as_aC, px_ln_aI, Option.toList, List.cons_append, List.nil_append, Int.reduceAdd, Int.reduceSub, Int.reduceMul, ↓reduceIte, Nat.reduceEqDiff, eq_self, Int.reduceEq, Int.reduceLT, Int.reduceLE, Int.reduceNe, Int.reduceNeg, Int.reduceToNat, ne_eq, not_true_eq_false, not_false_eq_true, t0, t1, t2, t3, t4, t5, t6, t7, t8, t9, t10, t11, t12, t13, t14, t15, t16, t17, t18, t19, t20, t21, t22, t23, t24, t25, t26, t27, t28, t29, t30, t31, t32, t33, t34, t35, Int.toNat_natCast, ai, el_X11_row_95 (kcf ..) _ (zo_12 _) _, st']; repeat (first | simp (disch := first | omega | decide) only [upz_srt, upy_upz, upz_up, upS_srt, upT_upS, upS_up] | simp (disch := first | with_reducible assumption | omega | decide | (simp only [ps_low, List.map_cons, List.map_nil, Value.category, List.sum_cons, List.sum_nil]; decide)) only [el_X11_row_83, el_X11_row_84, el_X11_row_87, el_X11_row_88, el_X11_row_89, el_X11_row_90, el_X11_row_93, el_X11_row_94, el_X11_row_98, el_X11_row_101, el_X11_row_102, el_X11_row_105, el_X11_row_106, el_X11_row_107, el_X11_row_108, el_X11_row_109, el_X11_row_110, el_X11_row_111, el_X11_row_112, gf_11_23, gf_11_9, px_ifp, px_ifn, zh_1, zc_1, zc_2, zc_3, zc_4, zc_5, zc_6, zc_7, zc_8, zc_9, zc_10, zc_11, zc_12, zc_20, zc_21, zc_22, zp_1, zp_2, zp_3, zp_4, zp_5, zp_6, zp_7, zp_8, zp_9, zp_10, zp_11, zp_12, zp_20, zp_21, zp_22, upS_eq, upS_ne, upS_up, upz_eq, upz_ne, upz_up, px_al_aI, px_as_aI, px_as_aZ, px_as_aC, px_ln_aI, Option.toList, List.cons_append, List.nil_append, Int.reduceAdd, Int.reduceSub, Int.reduceMul, ↓reduceIte, Nat.reduceEqDiff, eq_self, Int.reduceEq, Int.reduceLT, Int.reduceLE, Int.reduceNe, Int.reduceNeg, Int.reduceToNat, ne_eq, not_true_eq_false, not_false_eq_true, t0, t1, t2, t3, t4, t5, t6, t7, t8, t9, t10, t11, t12, t13, t14, t15, t16, t17, t18, t19, t20, t21, t22, t23, t24, t25, t26, t27, t28, t29, t30, t31, t32, t33, t34, t35, Int.toNat_natCast, ai, el_X11_row_95 (kcf ..) _ (zo_12 _) _, st']))
              exact fq
        have l0 := loop R.2.1 0 S3 F.2.1 (by omega) (fun a ha => e3o a (by omega) (by omega)) q3 e3_1 a1 hf1 hW
        rw [ez] at l0
        refine run _ ?_
        (simp (disch := first | with_reducible assumption | omega | decide | (simp only [ps_low, List.map_cons, List.map_nil, Value.category, List.sum_cons, List.sum_nil]; decide)) only [el_X11_row_66, el_X11_row_67, el_X11_row_70, el_X11_row_73, el_X11_row_74, el_X11_row_78, el_X11_row_79, el_X11_row_80, el_X11_row_81, gf_11_18, px_ifp, px_ifn, zh_1, zc_1, zc_2, zc_3, zc_4, zc_5, zc_6, zc_7, zc_8, zc_9, zc_10, zc_11, zc_12, zc_20, zc_21, zc_22, zp_1, zp_2, zp_3, zp_4, zp_5, zp_6, zp_7, zp_8, zp_9, zp_10, zp_11, zp_12, zp_20, zp_21, zp_22, upS_eq, upS_ne, upS_up, upz_eq, upz_ne, upz_up, px_al_aI, px_as_aI, px_as_aZ, px_as_aC, px_ln_aI, Option.toList, List.cons_append, List.nil_append, Int.reduceAdd, Int.reduceSub, Int.reduceMul, ↓reduceIte, Nat.reduceEqDiff, eq_self, Int.reduceEq, Int.reduceLT, Int.reduceLE, Int.reduceNe, Int.reduceNeg, Int.reduceToNat, ne_eq, not_true_eq_false, not_false_eq_true, t0, t1, t2, t3, t4, t5, t6, t7, t8, t9, t10, t11, t12, t13, t14, t15, t16, t17, t18, t19, t20, t21, t22, t23, t24, t25, t26, t27, t28, t29, t30, t31, t32, t33, t34, t35, h18]; repeat (first | simp (disch := first | omega | decide) only [upz_srt, upy_upz, upz_up, upS_srt, upT_upS, upS_up] | simp (disch := first | with_reducible assumption | omega | decide | (simp only [ps_low, List.map_cons, List.map_nil, Value.category, List.sum_cons, List.sum_nil]; decide)) only [el_X11_row_66, el_X11_row_67, el_X11_row_70, el_X11_row_73, el_X11_row_74, el_X11_row_78, el_X11_row_79, el_X11_row_80, el_X11_row_81, gf_11_18, px_ifp, px_ifn, zh_1, zc_1, zc_2, zc_3, zc_4, zc_5, zc_6, zc_7, zc_8, zc_9, zc_10, zc_11, zc_12, zc_20, zc_21, zc_22, zp_1, zp_2, zp_3, zp_4, zp_5, zp_6, zp_7, zp_8, zp_9, zp_10, zp_11, zp_12, zp_20, zp_21, zp_22, upS_eq, upS_ne, upS_up, upz_eq, upz_ne, upz_up, px_al_aI, px_as_aI, px_as_aZ, px_as_aC, px_ln_aI, Option.toList, List.cons_append, List.nil_append, Int.reduceAdd, Int.reduceSub, Int.reduceMul, ↓reduceIte, Nat.reduceEqDiff, eq_self, Int.reduceEq, Int.reduceLT, Int.reduceLE, Int.reduceNe, Int.reduceNeg, Int.reduceToNat, ne_eq, not_true_eq_false, not_false_eq_true, t0, t1, t2, t3, t4, t5, t6, t7, t8, t9, t10, t11, t12, t13, t14, t15, t16, t17, t18, t19, t20, t21, t22, t23, t24, t25, t26, t27, t28, t29, t30, t31, t32, t33, t34, t35, h18]))
        exact l0
      exact mop_val hv q1 q2 q4
end MODEL
