/-! THE MODEL, 6: fold, restore -/
section MODEL
variable {T : Nat → Nat × Nat} {S : Nat → Nat → Int} {c : pm_M × pm_C} {m : Nat} {k : Int} {F : fS} {kc : String → Int}
/-- STATUS one more -/
theorem mR.up {S' : Nat → Nat → Int} {j0 : Nat} (h : mR T S m F) (hf : fI k F) (h0 : ∀ j, mJ j → S' m j = S m j) (h1 : ∀ a j, j < mLim a → a ≠ 9 → S' (m + a) j = S (m + a) j) (h9 : S' (m + 9) = upz (S (m + 9)) j0 (F.2.1.2.2 j0 + 1)) (hj : j0 < 3) : mR T S' m (F.1, upI F.2.1 j0, F.2.2) := by
  have e : mX [] [9] m S S' := ⟨fun j hj _ => h0 j hj, fun a j hj hy => h1 a j hj (by simpa using hy)⟩
  obtain ⟨g1, hA, hB, hC, hD, hE, hF', hG⟩ := h
  refine ⟨g1, hA.mx e (by decide) hf.2.1.1.2.2.2.2.2.2.2, hB.mx e (by decide) (by decide), ⟨⟨?_, fun j hj => ?_⟩, ⟨?_, fun r hr' => ⟨?_, fun i hi => ?_⟩⟩, fun j hj => ?_⟩, hD.mx e (by decide) hf.n, hE.mx e (by decide) (by decide) hf.dO hf.2.2.2.2.1, hF'.mx e (by decide) (by decide) hf.2.2.2.2.2.1, hG.mx e (by decide) (by decide)⟩
  · rw [h0 35 (by unfold mJ; omega)]
    exact hC.1.1
  · have := hf.lay.2.1
    have hj' : j < F.2.1.1.length := hj
    rw [h1 22 j (show j < 16 by omega) (by decide)]
    exact hC.1.2 j hj
  · rw [h0 58 (by unfold mJ; omega)]
    exact hC.2.1.1
  · have := hf.2.2.1.2.1.1
    have hr2 : r < F.2.1.2.1.1 := hr'
    rw [h1 30 r (show r < 12 by omega) (by decide)]
    exact (hC.2.1.2 r hr').1
  · have := hf.2.2.1.2.1.1
    have hr2 : r < F.2.1.2.1.1 := hr'
    have hi2 : (i : Int) < F.2.1.2.1.2.1 r := hi
    have := hf.2.2.1.2.1.2.1 r hr2
    rw [h1 29 (4 * r + i) (show 4 * r + i < 48 by omega) (by decide)]
    exact (hC.2.1.2 r hr').2 i hi
  · rw [h9]
    change upz (S (m + 9)) j0 (F.2.1.2.2 j0 + 1) j = upz F.2.1.2.2 j0 (F.2.1.2.2 j0 + 1) j
    unfold upz
    split
    · rfl
    · exact hC.2.2 j hj
theorem fold_m {sd n : Int} (h : mR T S m F) (hf : fI k F) (hk : kc nse = 1) (hs : rg sd) (hn : rg n) :
    (¬ (0 ≤ sd ∧ sd ≤ 3) → mopR 4 171 [.ref m, .int (zI sd), .int (zI n)] T S c m kc (.inr nse) F) ∧
    ((0 ≤ sd ∧ sd ≤ 3) → mopR 4 171 [.ref m, .int (zI sd), .int (zI n)] T S c m kc (.inl (if (foI F.1 F.2.1 sd n).1 = 1 then F.2.1.1.length + 1 else -1)) (F.1, (foI F.1 F.2.1 sd n).2, F.2.2)) := by
  obtain ⟨t0, t1, t2, t3, t4, t5, t6, t7, t8, t9, t10, t11, t12, t13, t14, t15, t16, t17, t18, t19, t20, t21, t22, t23, t24, t25, t26, t27, t28, t29, t30, t31, t32, t33, t34, t35⟩ := id h.1
  unfold rg at hs hn
  have h' := h.same hf (mS.field (m := m) (S := S) (k := 1) (x := 0) (by unfold mJ; omega))
  have kf := m_fail (T := T) (S := upS S m (upz (S m) 1 0)) (c := c) (k := 1) t0
  rw [upS_eq, upz_up, upS_up] at kf
  have ki1 := m_isIn (h := zh T (upS S m (upz (S m) 1 0)) c) (v := sd) (a := 0) (b := 3) hs (by decide) (by decide)
  have ki2 := m_isIn (h := zh T (upS S m (upz (S m) 1 0)) c) (v := n) (a := 1) (b := 4) hn (by decide) (by decide)
  constructor
  · intro g
    rw [if_neg g] at ki1
    refine mop_thr (v := 0) (px_ofQ fun Q hQ => ?_) (fun a ha => upS_ne (by omega)) (h.same hf (.field (k := 1) (x := 1) (by unfold mJ; omega))) (by rw [upS_eq, upz_eq, hk])
    (simp (disch := first | with_reducible assumption | omega | decide | (simp only [ps_low, List.map_cons, List.map_nil, Value.category, List.sum_cons, List.sum_nil]; decide)) only [el_X11_fold_0, el_X11_fold_1, el_X11_fold_2, el_X11_fold_5, el_X11_fold_6, el_X11_fold_7, el_X11_fold_11, el_X11_fold_14, el_X11_fold_15, el_X11_fold_19, el_X11_fold_20, el_X11_fold_21, el_X11_fold_22, el_X11_fold_26, el_X11_fold_29, el_X11_fold_30, el_X11_fold_31, el_X11_fold_33, el_X11_fold_34, el_X11_fold_35, el_X11_fold_36, el_X11_fold_40, el_X11_fold_43, el_X11_fold_44, el_X11_fold_47, el_X11_fold_48, el_X11_fold_49, el_X11_fold_50, el_X11_fold_51, el_X11_fold_52, el_X11_fold_53, el_X11_fold_54, el_X11_fold_55, el_X11_fold_56, el_X11_fold_58, el_X11_fold_59, el_X11_fold_60, el_X11_fold_61, el_X11_fold_65, el_X11_fold_66, el_X11_fold_69, gf_11_35, gf_11_9, pf_11_1, px_ifp, px_ifn, zh_1, zc_1, zc_2, zc_3, zc_4, zc_5, zc_6, zc_7, zc_8, zc_9, zc_10, zc_11, zc_12, zc_20, zc_21, zc_22, zp_1, zp_2, zp_3, zp_4, zp_5, zp_6, zp_7, zp_8, zp_9, zp_10, zp_11, zp_12, zp_20, zp_21, zp_22, upS_eq, upS_ne, upS_up, upz_eq, upz_ne, upz_up, px_al_aI, px_as_aI, px_as_aZ, px_as_aC, px_ln_aI, Option.toList, List.cons_append, List.nil_append, Int.reduceAdd, Int.reduceSub, Int.reduceMul, ↓reduceIte, Nat.reduceEqDiff, eq_self, Int.reduceEq, Int.reduceLT, Int.reduceLE, Int.reduceNe, Int.reduceNeg, Int.reduceToNat, ne_eq, not_true_eq_false, not_false_eq_true, t0, t1, t2, t3, t4, t5, t6, t7, t8, t9, t10, t11, t12, t13, t14, t15, t16, t17, t18, t19, t20, t21, t22, t23, t24, t25, t26, t27, t28, t29, t30, t31, t32, t33, t34, t35, el_X11_fold_8 (ki1 ..) _ _, el_X11_fold_16 (kf ..) _ (zo_12 _) _]; repeat (first | simp (disch := first | omega | decide) only [upz_srt, upy_upz, upz_up, upS_srt, upT_upS, upS_up] | simp (disch := first | with_reducible assumption | omega | decide | (simp only [ps_low, List.map_cons, List.map_nil, Value.category, List.sum_cons, List.sum_nil]; decide)) only [el_X11_fold_0, el_X11_fold_1, el_X11_fold_2, el_X11_fold_5, el_X11_fold_6, el_X11_fold_7, el_X11_fold_11, el_X11_fold_14, el_X11_fold_15, el_X11_fold_19, el_X11_fold_20, el_X11_fold_21, el_X11_fold_22, el_X11_fold_26, el_X11_fold_29, el_X11_fold_30, el_X11_fold_31, el_X11_fold_33, el_X11_fold_34, el_X11_fold_35, el_X11_fold_36, el_X11_fold_40, el_X11_fold_43, el_X11_fold_44, el_X11_fold_47, el_X11_fold_48, el_X11_fold_49, el_X11_fold_50, el_X11_fold_51, el_X11_fold_52, el_X11_fold_53, el_X11_fold_54, el_X11_fold_55, el_X11_fold_56, el_X11_fold_58, el_X11_fold_59, el_X11_fold_60, el_X11_fold_61, el_X11_fold_65, el_X11_fold_66, el_X11_fold_69, gf_11_35, gf_11_9, pf_11_1, px_ifp, px_ifn, zh_1, zc_1, zc_2, zc_3, zc_4, zc_5, zc_6, zc_7, zc_8, zc_9, zc_10, zc_11, zc_12, zc_20, zc_21, zc_22, zp_1, zp_2, zp_3, zp_4, zp_5, zp_6, zp_7, zp_8, zp_9, zp_10, zp_11, zp_12, zp_20, zp_21, zp_22, upS_eq, upS_ne, upS_up, upz_eq, upz_ne, upz_up, px_al_aI, px_as_aI, px_as_aZ, px_as_aC, px_ln_aI, Option.toList, List.cons_append, List.nil_append, Int.reduceAdd, Int.reduceSub, Int.reduceMul, ↓reduceIte, Nat.reduceEqDiff, eq_self, Int.reduceEq, Int.reduceLT, Int.reduceLE, Int.reduceNe, Int.reduceNeg, Int.reduceToNat, ne_eq, not_true_eq_false, not_false_eq_true, t0, t1, t2, t3, t4, t5, t6, t7, t8, t9, t10, t11, t12, t13, t14, t15, t16, t17, t18, t19, t20, t21, t22, t23, t24, t25, t26, t27, t28, t29, t30, t31, t32, t33, t34, t35, el_X11_fold_8 (ki1 ..) _ _, el_X11_fold_16 (kf ..) _ (zo_12 _) _]))
    exact hQ
  · intro g
    rw [if_pos g] at ki1
    have hI := hf.lay
    have st := hf.2.2.1.2.2 1 (by decide)
    have hk50 := hf.1
    have q1 := h.2.2.2.1.2.2 1 (by decide)
    have i0 := h.2.2.2.1.1.1
    have no : ¬ fOk (layM F.1 F.2.1.1) sd n → (foI F.1 F.2.1 sd n) = (0, upI F.2.1 1) := fun z => if_neg (fun y => z (fOb_iff.mp y))
    have yes : fOk (layM F.1 F.2.1.1) sd n → (foI F.1 F.2.1 sd n) = (1, F.2.1.1 ++ [(sd, n)], F.2.1.2) := fun z => if_pos (fOb_iff.mpr z)
    have refuse : mR T (upS (upS S m (upz (S m) 1 0)) (m + 9) (upz (S (m + 9)) 1 (F.2.1.2.2 1 + 1))) m (F.1, upI F.2.1 1, F.2.2) := by
      refine h.up hf (fun j hj => ?_) (fun a j hj ha => ?_) (by rw [upS_eq]) (by decide)
      · have : j ≠ 1 := fun e => by subst e; unfold mJ at hj; omega
        rw [upS_ne (by omega), upS_eq, upz_ne this]
      · have := mLim_in hj
        rw [upS_ne (by omega), upS_ne (by omega)]
    by_cases g2 : 1 ≤ n ∧ n ≤ 4
    · rw [if_pos g2] at ki2
      have mm2 := h'.2.2.2.2.1.1.1
      have mm3 := h'.2.2.2.2.1.1.2
      have hc2 := hI.1.1.2.2.1
      have hc3 := hI.1.1.2.2.2.1
      have kcf := m_canFold (T := T) (S := upS S m (upz (S m) 1 0)) (c := c) (s := 0) (sd := sd) (k := n) h.1 (by decide) g g2 (by rw [mm2]; exact hc2) (by rw [mm3]; exact hc3)
      rw [mm2, mm3] at kcf
      have ez : ((0 : Nat) : Int) = 0 := rfl
      rw [ez] at kcf
      by_cases g3 : fOk (layM F.1 F.2.1.1) sd n
      · rw [yes g3]
        simp only [↓reduceIte, Nat.reduceEqDiff, eq_self, Int.reduceEq, Int.reduceLT, Int.reduceLE, Int.reduceNe, Int.reduceNeg, Int.reduceToNat, ne_eq, not_true_eq_false, not_false_eq_true]
        rw [if_pos (show 1 ≤ n ∧ 2 * n ≤ (if sd < 2 then (layM F.1 F.2.1.1).1 2 else (layM F.1 F.2.1.1).1 3) from g3)] at kcf
        obtain ⟨S1, r1, x1, f1, q2, e35, e22, -⟩ := m_doFold (T := T) (S := upS S m (upz (S m) 1 0)) (c := c) (sd := sd) (k' := n) h.1 (fs := F.2.1.1) hf.dO (h'.sh hf).1 (h'.sh hf).2.1 h'.2.2.2.1.1.1 h'.2.2.2.2.1 hf.2.2.1.1 g g3
        have e35' : S1 m 35 = (F.2.1.1.length : Int) + 1 := by rw [e35, upz_eq]
        refine mop_val (S' := S1) (px_ofQ fun Q hQ => ?_) (fun a ha => by rw [f1 a ha, upS_ne (by omega)]) ?_ (by rw [e35, upz_ne (by omega), upS_eq, upz_eq])
        · (simp (disch := first | with_reducible assumption | omega | decide | (simp only [ps_low, List.map_cons, List.map_nil, Value.category, List.sum_cons, List.sum_nil]; decide)) only [el_X11_fold_0, el_X11_fold_1, el_X11_fold_2, el_X11_fold_5, el_X11_fold_6, el_X11_fold_7, el_X11_fold_11, el_X11_fold_14, el_X11_fold_15, el_X11_fold_19, el_X11_fold_20, el_X11_fold_21, el_X11_fold_22, el_X11_fold_26, el_X11_fold_29, el_X11_fold_30, el_X11_fold_31, el_X11_fold_33, el_X11_fold_34, el_X11_fold_35, el_X11_fold_36, el_X11_fold_40, el_X11_fold_43, el_X11_fold_44, el_X11_fold_47, el_X11_fold_48, el_X11_fold_49, el_X11_fold_50, el_X11_fold_51, el_X11_fold_52, el_X11_fold_53, el_X11_fold_54, el_X11_fold_55, el_X11_fold_56, el_X11_fold_58, el_X11_fold_59, el_X11_fold_60, el_X11_fold_61, el_X11_fold_65, el_X11_fold_66, el_X11_fold_69, gf_11_35, gf_11_9, pf_11_1, px_ifp, px_ifn, zh_1, zc_1, zc_2, zc_3, zc_4, zc_5, zc_6, zc_7, zc_8, zc_9, zc_10, zc_11, zc_12, zc_20, zc_21, zc_22, zp_1, zp_2, zp_3, zp_4, zp_5, zp_6, zp_7, zp_8, zp_9, zp_10, zp_11, zp_12, zp_20, zp_21, zp_22, upS_eq, upS_ne, upS_up, upz_eq, upz_ne, upz_up, px_al_aI, px_as_aI, px_as_aZ, px_as_aC, px_ln_aI, Option.toList, List.cons_append, List.nil_append, Int.reduceAdd, Int.reduceSub, Int.reduceMul, ↓reduceIte, Nat.reduceEqDiff, eq_self, Int.reduceEq, Int.reduceLT, Int.reduceLE, Int.reduceNe, Int.reduceNeg, Int.reduceToNat, ne_eq, not_true_eq_false, not_false_eq_true, t0, t1, t2, t3, t4, t5, t6, t7, t8, t9, t10, t11, t12, t13, t14, t15, t16, t17, t18, t19, t20, t21, t22, t23, t24, t25, t26, t27, t28, t29, t30, t31, t32, t33, t34, t35, el_X11_fold_8 (ki1 ..) _ _, el_X11_fold_23 (ki2 ..) _ _, el_X11_fold_37 (kcf ..) _ (zo_12 _) _, el_X11_fold_62 (r1 ..) _ (zo_12 _) _, e35']; repeat (first | simp (disch := first | omega | decide) only [upz_srt, upy_upz, upz_up, upS_srt, upT_upS, upS_up] | simp (disch := first | with_reducible assumption | omega | decide | (simp only [ps_low, List.map_cons, List.map_nil, Value.category, List.sum_cons, List.sum_nil]; decide)) only [el_X11_fold_0, el_X11_fold_1, el_X11_fold_2, el_X11_fold_5, el_X11_fold_6, el_X11_fold_7, el_X11_fold_11, el_X11_fold_14, el_X11_fold_15, el_X11_fold_19, el_X11_fold_20, el_X11_fold_21, el_X11_fold_22, el_X11_fold_26, el_X11_fold_29, el_X11_fold_30, el_X11_fold_31, el_X11_fold_33, el_X11_fold_34, el_X11_fold_35, el_X11_fold_36, el_X11_fold_40, el_X11_fold_43, el_X11_fold_44, el_X11_fold_47, el_X11_fold_48, el_X11_fold_49, el_X11_fold_50, el_X11_fold_51, el_X11_fold_52, el_X11_fold_53, el_X11_fold_54, el_X11_fold_55, el_X11_fold_56, el_X11_fold_58, el_X11_fold_59, el_X11_fold_60, el_X11_fold_61, el_X11_fold_65, el_X11_fold_66, el_X11_fold_69, gf_11_35, gf_11_9, pf_11_1, px_ifp, px_ifn, zh_1, zc_1, zc_2, zc_3, zc_4, zc_5, zc_6, zc_7, zc_8, zc_9, zc_10, zc_11, zc_12, zc_20, zc_21, zc_22, zp_1, zp_2, zp_3, zp_4, zp_5, zp_6, zp_7, zp_8, zp_9, zp_10, zp_11, zp_12, zp_20, zp_21, zp_22, upS_eq, upS_ne, upS_up, upz_eq, upz_ne, upz_up, px_al_aI, px_as_aI, px_as_aZ, px_as_aC, px_ln_aI, Option.toList, List.cons_append, List.nil_append, Int.reduceAdd, Int.reduceSub, Int.reduceMul, ↓reduceIte, Nat.reduceEqDiff, eq_self, Int.reduceEq, Int.reduceLT, Int.reduceLE, Int.reduceNe, Int.reduceNeg, Int.reduceToNat, ne_eq, not_true_eq_false, not_false_eq_true, t0, t1, t2, t3, t4, t5, t6, t7, t8, t9, t10, t11, t12, t13, t14, t15, t16, t17, t18, t19, t20, t21, t22, t23, t24, t25, t26, t27, t28, t29, t30, t31, t32, t33, t34, t35, el_X11_fold_8 (ki1 ..) _ _, el_X11_fold_23 (ki2 ..) _ _, el_X11_fold_37 (kcf ..) _ (zo_12 _) _, el_X11_fold_62 (r1 ..) _ (zo_12 _) _, e35']))
          exact hQ
        · obtain ⟨u1, hA, hB, hC, hD, hE, hF', hG⟩ := h'
          refine ⟨u1, hA.mx x1 (by decide) hf.2.1.1.2.2.2.2.2.2.2, hB.mx x1 (by decide) (by decide), ⟨⟨?_, fun j hj => ?_⟩, ⟨?_, fun r hr' => ⟨?_, fun i hi => ?_⟩⟩, fun j hj => ?_⟩, q2, hE.mx x1 (by decide) (by decide) hf.dO hf.2.2.2.2.1, hF'.mx x1 (by decide) (by decide) hf.2.2.2.2.2.1, hG.mx x1 (by decide) (by decide)⟩
          · rw [e35']
            change _ = (((F.2.1.1 ++ [(sd, n)]).length : Nat) : Int)
            rw [List.length_append]
            rfl
          · replace hj : j < (F.2.1.1 ++ [(sd, n)]).length := hj
            rw [List.length_append, List.length_cons, List.length_nil] at hj
            change S1 (m + 22) j = 10 * ((F.2.1.1 ++ [(sd, n)]).getD j (0, 0)).1 + ((F.2.1.1 ++ [(sd, n)]).getD j (0, 0)).2
            rw [getD_app, e22]
            by_cases e : j = F.2.1.1.length
            · rw [e, upz_eq, if_pos rfl]
            · rw [upz_ne e, if_neg e, if_pos (by omega)]
              exact hC.1.2 j (by omega)
          · rw [e35, upz_ne (by omega)]
            exact hC.2.1.1
          · have := hf.2.2.1.2.1.1
            have hr2 : r < F.2.1.2.1.1 := hr'
            rw [x1.2 30 r (show r < 12 by omega) (by decide)]
            exact (hC.2.1.2 r hr').1
          · have := hf.2.2.1.2.1.1
            have hr2 : r < F.2.1.2.1.1 := hr'
            have hi2 : (i : Int) < F.2.1.2.1.2.1 r := hi
            have := hf.2.2.1.2.1.2.1 r hr2
            rw [x1.2 29 (4 * r + i) (show 4 * r + i < 48 by omega) (by decide)]
            exact (hC.2.1.2 r hr').2 i hi
          · rw [x1.2 9 j hj (by decide)]
            exact hC.2.2 j hj
      · rw [no g3]
        simp only [↓reduceIte, Nat.reduceEqDiff, eq_self, Int.reduceEq, Int.reduceLT, Int.reduceLE, Int.reduceNe, Int.reduceNeg, Int.reduceToNat, ne_eq, not_true_eq_false, not_false_eq_true]
        rw [if_neg (show ¬ (1 ≤ n ∧ 2 * n ≤ (if sd < 2 then (layM F.1 F.2.1.1).1 2 else (layM F.1 F.2.1.1).1 3)) from g3)] at kcf
        refine mop_val (S' := upS (upS S m (upz (S m) 1 0)) (m + 9) (upz (S (m + 9)) 1 (F.2.1.2.2 1 + 1))) (px_ofQ fun Q hQ => ?_) (fun a ha => by rw [upS_ne (by omega), upS_ne (by omega)]) refuse (by rw [upS_ne (by omega), upS_eq, upz_eq])
        (simp (disch := first | with_reducible assumption | omega | decide | (simp only [ps_low, List.map_cons, List.map_nil, Value.category, List.sum_cons, List.sum_nil]; decide)) only [el_X11_fold_0, el_X11_fold_1, el_X11_fold_2, el_X11_fold_5, el_X11_fold_6, el_X11_fold_7, el_X11_fold_11, el_X11_fold_14, el_X11_fold_15, el_X11_fold_19, el_X11_fold_20, el_X11_fold_21, el_X11_fold_22, el_X11_fold_26, el_X11_fold_29, el_X11_fold_30, el_X11_fold_31, el_X11_fold_33, el_X11_fold_34, el_X11_fold_35, el_X11_fold_36, el_X11_fold_40, el_X11_fold_43, el_X11_fold_44, el_X11_fold_47, el_X11_fold_48, el_X11_fold_49, el_X11_fold_50, el_X11_fold_51, el_X11_fold_52, el_X11_fold_53, el_X11_fold_54, el_X11_fold_55, el_X11_fold_56, el_X11_fold_58, el_X11_fold_59, el_X11_fold_60, el_X11_fold_61, el_X11_fold_65, el_X11_fold_66, el_X11_fold_69, gf_11_35, gf_11_9, pf_11_1, px_ifp, px_ifn, zh_1, zc_1, zc_2, zc_3, zc_4, zc_5, zc_6, zc_7, zc_8, zc_9, zc_10, zc_11, zc_12, zc_20, zc_21, zc_22, zp_1, zp_2, zp_3, zp_4, zp_5, zp_6, zp_7, zp_8, zp_9, zp_10, zp_11, zp_12, zp_20, zp_21, zp_22, upS_eq, upS_ne, upS_up, upz_eq, upz_ne, upz_up, px_al_aI, px_as_aI, px_as_aZ, px_as_aC, px_ln_aI, Option.toList, List.cons_append, List.nil_append, Int.reduceAdd, Int.reduceSub, Int.reduceMul, ↓reduceIte, Nat.reduceEqDiff, eq_self, Int.reduceEq, Int.reduceLT, Int.reduceLE, Int.reduceNe, Int.reduceNeg, Int.reduceToNat, ne_eq, not_true_eq_false, not_false_eq_true, t0, t1, t2, t3, t4, t5, t6, t7, t8, t9, t10, t11, t12, t13, t14, t15, t16, t17, t18, t19, t20, t21, t22, t23, t24, t25, t26, t27, t28, t29, t30, t31, t32, t33, t34, t35, el_X11_fold_8 (ki1 ..) _ _, el_X11_fold_23 (ki2 ..) _ _, el_X11_fold_37 (kcf ..) _ (zo_12 _) _, q1]; repeat (first | simp (disch := first | omega | decide) only [upz_srt, upy_upz, upz_up, upS_srt, upT_upS, upS_up] | simp (disch := first | with_reducible assumption | omega | decide | (simp only [ps_low, List.map_cons, List.map_nil, Value.category, List.sum_cons, List.sum_nil]; decide)) only [el_X11_fold_0, el_X11_fold_1, el_X11_fold_2, el_X11_fold_5, el_X11_fold_6, el_X11_fold_7, el_X11_fold_11, el_X11_fold_14, el_X11_fold_15, el_X11_fold_19, el_X11_fold_20, el_X11_fold_21, el_X11_fold_22, el_X11_fold_26, el_X11_fold_29, el_X11_fold_30, el_X11_fold_31, el_X11_fold_33, el_X11_fold_34, el_X11_fold_35, el_X11_fold_36, el_X11_fold_40, el_X11_fold_43, el_X11_fold_44, el_X11_fold_47, el_X11_fold_48, el_X11_fold_49, el_X11_fold_50, el_X11_fold_51, el_X11_fold_52, el_X11_fold_53, el_X11_fold_54, el_X11_fold_55, el_X11_fold_56, el_X11_fold_58, el_X11_fold_59, el_X11_fold_60, el_X11_fold_61, el_X11_fold_65, el_X11_fold_66, el_X11_fold_69, gf_11_35, gf_11_9, pf_11_1, px_ifp, px_ifn, zh_1, zc_1, zc_2, zc_3, zc_4, zc_5, zc_6, zc_7, zc_8, zc_9, zc_10, zc_11, zc_12, zc_20, zc_21, zc_22, zp_1, zp_2, zp_3, zp_4, zp_5, zp_6, zp_7, zp_8, zp_9, zp_10, zp_11, zp_12, zp_20, zp_21, zp_22, upS_eq, upS_ne, upS_up, upz_eq, upz_ne, upz_up, px_al_aI, px_as_aI, px_as_aZ, px_as_aC, px_ln_aI, Option.toList, List.cons_append, List.nil_append, Int.reduceAdd, Int.reduceSub, Int.reduceMul, ↓reduceIte, Nat.reduceEqDiff, eq_self, Int.reduceEq, Int.reduceLT, Int.reduceLE, Int.reduceNe, Int.reduceNeg, Int.reduceToNat, ne_eq, not_true_eq_false, not_false_eq_true, t0, t1, t2, t3, t4, t5, t6, t7, t8, t9, t10, t11, t12, t13, t14, t15, t16, t17, t18, t19, t20, t21, t22, t23, t24, t25, t26, t27, t28, t29, t30, t31, t32, t33, t34, t35, el_X11_fold_8 (ki1 ..) _ _, el_X11_fold_23 (ki2 ..) _ _, el_X11_fold_37 (kcf ..) _ (zo_12 _) _, q1]))
        exact hQ
    · rw [if_neg g2] at ki2
      have g3 : ¬ fOk (layM F.1 F.2.1.1) sd n := by
        have h2 := hI.1.1.2.2.1
        have h3 := hI.1.1.2.2.2.1
        intro z
        obtain ⟨z1, z2⟩ := z
        split at z2 <;> omega
      rw [no g3]
      simp only [↓reduceIte, Nat.reduceEqDiff, eq_self, Int.reduceEq, Int.reduceLT, Int.reduceLE, Int.reduceNe, Int.reduceNeg, Int.reduceToNat, ne_eq, not_true_eq_false, not_false_eq_true]
      refine mop_val (S' := upS (upS S m (upz (S m) 1 0)) (m + 9) (upz (S (m + 9)) 1 (F.2.1.2.2 1 + 1))) (px_ofQ fun Q hQ => ?_) (fun a ha => by rw [upS_ne (by omega), upS_ne (by omega)]) refuse (by rw [upS_ne (by omega), upS_eq, upz_eq])
      (simp (disch := first | with_reducible assumption | omega | decide | (simp only [ps_low, List.map_cons, List.map_nil, Value.category, List.sum_cons, List.sum_nil]; decide)) only [el_X11_fold_0, el_X11_fold_1, el_X11_fold_2, el_X11_fold_5, el_X11_fold_6, el_X11_fold_7, el_X11_fold_11, el_X11_fold_14, el_X11_fold_15, el_X11_fold_19, el_X11_fold_20, el_X11_fold_21, el_X11_fold_22, el_X11_fold_26, el_X11_fold_29, el_X11_fold_30, el_X11_fold_31, el_X11_fold_33, el_X11_fold_34, el_X11_fold_35, el_X11_fold_36, el_X11_fold_40, el_X11_fold_43, el_X11_fold_44, el_X11_fold_47, el_X11_fold_48, el_X11_fold_49, el_X11_fold_50, el_X11_fold_51, el_X11_fold_52, el_X11_fold_53, el_X11_fold_54, el_X11_fold_55, el_X11_fold_56, el_X11_fold_58, el_X11_fold_59, el_X11_fold_60, el_X11_fold_61, el_X11_fold_65, el_X11_fold_66, el_X11_fold_69, gf_11_35, gf_11_9, pf_11_1, px_ifp, px_ifn, zh_1, zc_1, zc_2, zc_3, zc_4, zc_5, zc_6, zc_7, zc_8, zc_9, zc_10, zc_11, zc_12, zc_20, zc_21, zc_22, zp_1, zp_2, zp_3, zp_4, zp_5, zp_6, zp_7, zp_8, zp_9, zp_10, zp_11, zp_12, zp_20, zp_21, zp_22, upS_eq, upS_ne, upS_up, upz_eq, upz_ne, upz_up, px_al_aI, px_as_aI, px_as_aZ, px_as_aC, px_ln_aI, Option.toList, List.cons_append, List.nil_append, Int.reduceAdd, Int.reduceSub, Int.reduceMul, ↓reduceIte, Nat.reduceEqDiff, eq_self, Int.reduceEq, Int.reduceLT, Int.reduceLE, Int.reduceNe, Int.reduceNeg, Int.reduceToNat, ne_eq, not_true_eq_false, not_false_eq_true, t0, t1, t2, t3, t4, t5, t6, t7, t8, t9, t10, t11, t12, t13, t14, t15, t16, t17, t18, t19, t20, t21, t22, t23, t24, t25, t26, t27, t28, t29, t30, t31, t32, t33, t34, t35, el_X11_fold_8 (ki1 ..) _ _, el_X11_fold_23 (ki2 ..) _ _, q1]; repeat (first | simp (disch := first | omega | decide) only [upz_srt, upy_upz, upz_up, upS_srt, upT_upS, upS_up] | simp (disch := first | with_reducible assumption | omega | decide | (simp only [ps_low, List.map_cons, List.map_nil, Value.category, List.sum_cons, List.sum_nil]; decide)) only [el_X11_fold_0, el_X11_fold_1, el_X11_fold_2, el_X11_fold_5, el_X11_fold_6, el_X11_fold_7, el_X11_fold_11, el_X11_fold_14, el_X11_fold_15, el_X11_fold_19, el_X11_fold_20, el_X11_fold_21, el_X11_fold_22, el_X11_fold_26, el_X11_fold_29, el_X11_fold_30, el_X11_fold_31, el_X11_fold_33, el_X11_fold_34, el_X11_fold_35, el_X11_fold_36, el_X11_fold_40, el_X11_fold_43, el_X11_fold_44, el_X11_fold_47, el_X11_fold_48, el_X11_fold_49, el_X11_fold_50, el_X11_fold_51, el_X11_fold_52, el_X11_fold_53, el_X11_fold_54, el_X11_fold_55, el_X11_fold_56, el_X11_fold_58, el_X11_fold_59, el_X11_fold_60, el_X11_fold_61, el_X11_fold_65, el_X11_fold_66, el_X11_fold_69, gf_11_35, gf_11_9, pf_11_1, px_ifp, px_ifn, zh_1, zc_1, zc_2, zc_3, zc_4, zc_5, zc_6, zc_7, zc_8, zc_9, zc_10, zc_11, zc_12, zc_20, zc_21, zc_22, zp_1, zp_2, zp_3, zp_4, zp_5, zp_6, zp_7, zp_8, zp_9, zp_10, zp_11, zp_12, zp_20, zp_21, zp_22, upS_eq, upS_ne, upS_up, upz_eq, upz_ne, upz_up, px_al_aI, px_as_aI, px_as_aZ, px_as_aC, px_ln_aI, Option.toList, List.cons_append, List.nil_append, Int.reduceAdd, Int.reduceSub, Int.reduceMul, ↓reduceIte, Nat.reduceEqDiff, eq_self, Int.reduceEq, Int.reduceLT, Int.reduceLE, Int.reduceNe, Int.reduceNeg, Int.reduceToNat, ne_eq, not_true_eq_false, not_false_eq_true, t0, t1, t2, t3, t4, t5, t6, t7, t8, t9, t10, t11, t12, t13, t14, t15, t16, t17, t18, t19, t20, t21, t22, t23, t24, t25, t26, t27, t28, t29, t30, t31, t32, t33, t34, t35, el_X11_fold_8 (ki1 ..) _ _, el_X11_fold_23 (ki2 ..) _ _, q1]))
      exact hQ
theorem restore_m (h : mR T S m F) (hf : fI k F) :
    (F.2.2.2.1 = none → mopR 3 207 [.ref m, .retAddr 0] T S c m kc (.inl 0) F) ∧ ∀ J, F.2.2.2.1 = some J → mopR 3 207 [.ref m, .retAddr 0] T S c m kc (.inl 1) (F.1, J, F.2.2) := by
  obtain ⟨t0, t1, t2, t3, t4, t5, t6, t7, t8, t9, t10, t11, t12, t13, t14, t15, t16, t17, t18, t19, t20, t21, t22, t23, t24, t25, t26, t27, t28, t29, t30, t31, t32, t33, t34, t35⟩ := id h.1
  constructor
  · intro g
    have e : S m 59 = 0 := by
      rcases h.2.2.2.2.2.1 with ⟨e, -⟩ | ⟨-, J, e, -⟩
      · exact e
      · rw [g] at e
        cases e
    refine mop_val (S' := upS S m (upz (S m) 1 0)) (px_ofQ fun Q hQ => ?_) (fun a ha => upS_ne (by omega)) (h.same hf (.field (by unfold mJ; omega))) (by rw [upS_eq, upz_eq])
    (simp (disch := first | with_reducible assumption | omega | decide | (simp only [ps_low, List.map_cons, List.map_nil, Value.category, List.sum_cons, List.sum_nil]; decide)) only [el_X11_restore_0, el_X11_restore_1, el_X11_restore_2, el_X11_restore_5, el_X11_restore_6, el_X11_restore_9, el_X11_restore_12, el_X11_restore_13, el_X11_restore_14, el_X11_restore_15, el_X11_restore_16, el_X11_restore_19, el_X11_restore_22, el_X11_restore_23, el_X11_restore_24, el_X11_restore_27, el_X11_restore_30, el_X11_restore_31, el_X11_restore_34, el_X11_restore_35, el_X11_restore_41, el_X11_restore_42, el_X11_restore_45, el_X11_restore_46, el_X11_restore_52, el_X11_restore_53, el_X11_restore_56, el_X11_restore_57, el_X11_restore_63, el_X11_restore_64, el_X11_restore_67, el_X11_restore_68, el_X11_restore_74, el_X11_restore_75, el_X11_restore_79, el_X11_restore_80, el_X11_restore_82, el_X11_restore_83, el_X11_restore_86, el_X11_restore_89, el_X11_restore_90, el_X11_restore_91, el_X11_restore_92, el_X11_restore_95, el_X11_restore_96, el_X11_restore_97, el_X11_restore_101, el_X11_restore_104, el_X11_restore_107, el_X11_restore_108, gf_11_34, gf_11_35, gf_11_55, gf_11_56, gf_11_59, gf_11_60, gf_11_61, gf_11_62, gf_11_63, gf_11_64, gf_11_65, gf_11_9, pf_11_1, pf_11_35, pf_11_58, px_ifp, px_ifn, zh_1, zc_1, zc_2, zc_3, zc_4, zc_5, zc_6, zc_7, zc_8, zc_9, zc_10, zc_11, zc_12, zc_20, zc_21, zc_22, zp_1, zp_2, zp_3, zp_4, zp_5, zp_6, zp_7, zp_8, zp_9, zp_10, zp_11, zp_12, zp_20, zp_21, zp_22, upS_eq, upS_ne, upS_up, upz_eq, upz_ne, upz_up, px_al_aI, px_as_aI, px_as_aZ, px_as_aC, px_ln_aI, Option.toList, List.cons_append, List.nil_append, Int.reduceAdd, Int.reduceSub, Int.reduceMul, ↓reduceIte, Nat.reduceEqDiff, eq_self, Int.reduceEq, Int.reduceLT, Int.reduceLE, Int.reduceNe, Int.reduceNeg, Int.reduceToNat, ne_eq, not_true_eq_false, not_false_eq_true, t0, t1, t2, t3, t4, t5, t6, t7, t8, t9, t10, t11, t12, t13, t14, t15, t16, t17, t18, t19, t20, t21, t22, t23, t24, t25, t26, t27, t28, t29, t30, t31, t32, t33, t34, t35, e]; repeat (first | simp (disch := first | omega | decide) only [upz_srt, upy_upz, upz_up, upS_srt, upT_upS, upS_up] | simp (disch := first | with_reducible assumption | omega | decide | (simp only [ps_low, List.map_cons, List.map_nil, Value.category, List.sum_cons, List.sum_nil]; decide)) only [el_X11_restore_0, el_X11_restore_1, el_X11_restore_2, el_X11_restore_5, el_X11_restore_6, el_X11_restore_9, el_X11_restore_12, el_X11_restore_13, el_X11_restore_14, el_X11_restore_15, el_X11_restore_16, el_X11_restore_19, el_X11_restore_22, el_X11_restore_23, el_X11_restore_24, el_X11_restore_27, el_X11_restore_30, el_X11_restore_31, el_X11_restore_34, el_X11_restore_35, el_X11_restore_41, el_X11_restore_42, el_X11_restore_45, el_X11_restore_46, el_X11_restore_52, el_X11_restore_53, el_X11_restore_56, el_X11_restore_57, el_X11_restore_63, el_X11_restore_64, el_X11_restore_67, el_X11_restore_68, el_X11_restore_74, el_X11_restore_75, el_X11_restore_79, el_X11_restore_80, el_X11_restore_82, el_X11_restore_83, el_X11_restore_86, el_X11_restore_89, el_X11_restore_90, el_X11_restore_91, el_X11_restore_92, el_X11_restore_95, el_X11_restore_96, el_X11_restore_97, el_X11_restore_101, el_X11_restore_104, el_X11_restore_107, el_X11_restore_108, gf_11_34, gf_11_35, gf_11_55, gf_11_56, gf_11_59, gf_11_60, gf_11_61, gf_11_62, gf_11_63, gf_11_64, gf_11_65, gf_11_9, pf_11_1, pf_11_35, pf_11_58, px_ifp, px_ifn, zh_1, zc_1, zc_2, zc_3, zc_4, zc_5, zc_6, zc_7, zc_8, zc_9, zc_10, zc_11, zc_12, zc_20, zc_21, zc_22, zp_1, zp_2, zp_3, zp_4, zp_5, zp_6, zp_7, zp_8, zp_9, zp_10, zp_11, zp_12, zp_20, zp_21, zp_22, upS_eq, upS_ne, upS_up, upz_eq, upz_ne, upz_up, px_al_aI, px_as_aI, px_as_aZ, px_as_aC, px_ln_aI, Option.toList, List.cons_append, List.nil_append, Int.reduceAdd, Int.reduceSub, Int.reduceMul, ↓reduceIte, Nat.reduceEqDiff, eq_self, Int.reduceEq, Int.reduceLT, Int.reduceLE, Int.reduceNe, Int.reduceNeg, Int.reduceToNat, ne_eq, not_true_eq_false, not_false_eq_true, t0, t1, t2, t3, t4, t5, t6, t7, t8, t9, t10, t11, t12, t13, t14, t15, t16, t17, t18, t19, t20, t21, t22, t23, t24, t25, t26, t27, t28, t29, t30, t31, t32, t33, t34, t35, e]))
    exact hQ
  · intro J g
    have e59 : S m 59 = 1 ∧ miR S m 60 32 61 33 34 35 J := by
      rcases h.2.2.2.2.2.1 with ⟨-, e⟩ | ⟨e, J', e2, e3⟩
      · rw [g] at e
        cases e
      · rw [g] at e2
        cases e2
        exact ⟨e, e3⟩
    obtain ⟨e59, mi⟩ := e59
    have oJ := hf.2.2.2.2.1 J g
    have hd := hf.dO
    obtain ⟨hIJ, hlJ, h4J⟩ := layM_I hd oJ.1
    have rJ := oJ.2.1
    have n60 := mi.1.1
    have n61 := mi.2.1.1
    have k1 := m_be (T := T) (S := upS S m (upz (upz (upz (S m) 1 0) 35 (S m 60)) 58 (S m 61))) (c := c) t22 t32 (by omega) (by decide)
    simp (disch := omega) only [upS_ne] at k1
    have k2 := m_be (T := T) (S := upS (upS S m (upz (upz (upz (S m) 1 0) 35 (S m 60)) 58 (S m 61))) (m + 22) (fun j => if j < 16 then S (m + 32) j else S (m + 22) j)) (c := c) t29 t33 (by omega) (by decide)
    simp (disch := omega) only [upS_ne] at k2
    have k3 := m_be (T := T) (S := upS (upS (upS S m (upz (upz (upz (S m) 1 0) 35 (S m 60)) 58 (S m 61))) (m + 22) (fun j => if j < 16 then S (m + 32) j else S (m + 22) j)) (m + 29) (fun j => if j < 48 then S (m + 33) j else S (m + 29) j)) (c := c) t30 t34 (by omega) (by decide)
    simp (disch := omega) only [upS_ne] at k3
    have k4 := m_be (T := T) (S := upS (upS (upS (upS S m (upz (upz (upz (S m) 1 0) 35 (S m 60)) 58 (S m 61))) (m + 22) (fun j => if j < 16 then S (m + 32) j else S (m + 22) j)) (m + 29) (fun j => if j < 48 then S (m + 33) j else S (m + 29) j)) (m + 30) (fun j => if j < 12 then S (m + 34) j else S (m + 30) j)) (c := c) t9 t35 (by omega) (by decide)
    simp (disch := omega) only [upS_ne] at k4
    have srt : (upS (upS (upS (upS (upS S m (upz (upz (upz (S m) 1 0) 35 (S m 60)) 58 (S m 61))) (m + 22) (fun j => if j < 16 then S (m + 32) j else S (m + 22) j)) (m + 29) (fun j => if j < 48 then S (m + 33) j else S (m + 29) j)) (m + 30) (fun j => if j < 12 then S (m + 34) j else S (m + 30) j)) (m + 9) (fun j => if j < 3 then S (m + 35) j else S (m + 9) j)) = (upS (upS (upS (upS (upS S m (upz (upz (upz (S m) 1 0) 35 (S m 60)) 58 (S m 61))) (m + 9) (fun j => if j < 3 then S (m + 35) j else S (m + 9) j)) (m + 22) (fun j => if j < 16 then S (m + 32) j else S (m + 22) j)) (m + 29) (fun j => if j < 48 then S (m + 33) j else S (m + 29) j)) (m + 30) (fun j => if j < 12 then S (m + 34) j else S (m + 30) j)) := by
      rw [upS_srt (show m + 9 < m + 30 by omega), upT_upS, upS_srt (show m + 9 < m + 29 by omega), upT_upS, upS_srt (show m + 9 < m + 22 by omega), upT_upS]
    rw [srt] at k4
    generalize hSB : (upS (upS (upS (upS (upS S m (upz (upz (upz (S m) 1 0) 35 (S m 60)) 58 (S m 61))) (m + 9) (fun j => if j < 3 then S (m + 35) j else S (m + 9) j)) (m + 22) (fun j => if j < 16 then S (m + 32) j else S (m + 22) j)) (m + 29) (fun j => if j < 48 then S (m + 33) j else S (m + 29) j)) (m + 30) (fun j => if j < 12 then S (m + 34) j else S (m + 30) j)) = SB at k4
    have sb : ∀ a, a ≠ m → a ≠ m + 9 → a ≠ m + 22 → a ≠ m + 29 → a ≠ m + 30 → SB a = S a := fun a a1 a2 a3 a4 a5 => by
      rw [← hSB]
      simp (disch := omega) only [upS_ne]
    have sbm : SB m = upz (upz (upz (S m) 1 0) 35 (S m 60)) 58 (S m 61) := by
      rw [← hSB]
      simp (disch := omega) only [upS_ne, upS_eq]
    have sb9 : SB (m + 9) = fun j => if j < 3 then S (m + 35) j else S (m + 9) j := by
      rw [← hSB]
      simp (disch := omega) only [upS_ne, upS_eq]
    have sb22 : SB (m + 22) = fun j => if j < 16 then S (m + 32) j else S (m + 22) j := by
      rw [← hSB]
      simp (disch := omega) only [upS_ne, upS_eq]
    have sb29 : SB (m + 29) = fun j => if j < 48 then S (m + 33) j else S (m + 29) j := by
      rw [← hSB]
      simp (disch := omega) only [upS_ne, upS_eq]
    have sb30 : SB (m + 30) = fun j => if j < 12 then S (m + 34) j else S (m + 30) j := by
      rw [← hSB]
      simp (disch := omega) only [upS_ne, upS_eq]
    have hs := h.sh hf
    obtain ⟨W, hW⟩ : ∃ W : Nat, F.1 0 0 = W := ⟨(F.1 0 0).toNat, by have := hd.1; omega⟩
    obtain ⟨H, hH⟩ : ∃ H : Nat, F.1 0 1 = H := ⟨(F.1 0 1).toNat, by have := hd.2; omega⟩
    have eW : wD F.1 = W := by unfold wD; rw [hW]; rfl
    have eN : nD F.1 = H * W := by unfold nD; rw [hW, hH]; rfl
    have eH : (F.1 0 1).toNat = H := by rw [hH]; rfl
    rw [eW, eH] at hs
    obtain ⟨S1, r1, f1, q1⟩ := m_plain (T := T) (S := SB) (c := c) (s := 0) h.1 (by decide) (by rw [sb _ (by omega) (by omega) (by omega) (by omega) (by omega)]; exact hs.1) (by rw [sb _ (by omega) (by omega) (by omega) (by omega) (by omega)]; exact hs.2.1) (by have := hd.1; omega) (by have := hd.2; omega)
    have ez : ((0 : Nat) : Int) = 0 := rfl
    rw [ez] at r1
    obtain ⟨v, S', hr, rfl, h2, h3⟩ : zR 3 207 [.ref m, .retAddr 0] T S c (fun v S' => v = some (.int (zI 1)) ∧ fM m 0 SB S' ∧ shM S' m 0 (nD F.1) (layM F.1 J.1)) := by
      refine zR_of ?_
      generalize hQf : zQ T c (fun v S' => v = some (.int (zI 1)) ∧ fM m 0 SB S' ∧ shM S' m 0 (nD F.1) (layM F.1 J.1)) = Qf
      have loop : ∀ (r pre : List (Int × Int)) (S2 : Nat → Nat → Int) (M : sM), pre ++ r = J.1 → fM m 0 SB S2 → shM S2 m 0 (nD F.1) M → shI (wD F.1) (nD F.1) M → M.1 4 = pre.length → fsO F.1 M r → layF F.1 M r = layM F.1 J.1 →
          px_Ev 3 207 81 [.ref m, .int (zI pre.length)] [] (zh T S2 c) Qf := by
        intro r
        induction r with
        | nil =>
          intro pre S2 M hp f2 q2 i2 m4 o2 he
          rw [List.append_nil] at hp
          have he' : M = layM F.1 J.1 := he
          rw [he'] at q2
          have fq := zQ_in (T := T) (c := c) (P := fun v S' => v = some (.int (zI 1)) ∧ fM m 0 SB S' ∧ shM S' m 0 (nD F.1) (layM F.1 J.1)) (v := some (.int (zI 1))) (S' := S2) ⟨rfl, f2, q2⟩
          rw [hQf] at fq
          have e35 : S2 m 35 = (pre.length : Nat) := by rw [f2.1 _ (by omega), sbm, upz_ne (by omega), upz_eq, n60, hp]
          have e9 : pre.length ≤ 14 := by rw [hp]; exact hlJ
          rw [el_X11_restore_81]; repeat' (first | (simp (disch := first | with_reducible assumption | omega | decide | (simp only [ps_low, List.map_cons, List.map_nil, Value.category, List.sum_cons, List.sum_nil]; decide)) only [el_X11_restore_0, el_X11_restore_1, el_X11_restore_2, el_X11_restore_5, el_X11_restore_6, el_X11_restore_9, el_X11_restore_12, el_X11_restore_13, el_X11_restore_14, el_X11_restore_15, el_X11_restore_16, el_X11_restore_19, el_X11_restore_22, el_X11_restore_23, el_X11_restore_24, el_X11_restore_27, el_X11_restore_30, el_X11_restore_31, el_X11_restore_34, el_X11_restore_35, el_X11_restore_41, el_X11_restore_42, el_X11_restore_45, el_X11_restore_46, el_X11_restore_52, el_X11_restore_53, el_X11_restore_56, el_X11_restore_57, el_X11_restore_63, el_X11_restore_64, el_X11_restore_67, el_X11_restore_68, el_X11_restore_74, el_X11_restore_75, el_X11_restore_79, el_X11_restore_80, el_X11_restore_82, el_X11_restore_83, el_X11_restore_86, el_X11_restore_89, el_X11_restore_90, el_X11_restore_91, el_X11_restore_92, el_X11_restore_95, el_X11_restore_96, el_X11_restore_97, el_X11_restore_101, el_X11_restore_104, el_X11_restore_107, el_X11_restore_108, gf_11_34, gf_11_35, gf_11_55, gf_11_56, gf_11_59, gf_11_60, gf_11_61, gf_11_62, gf_11_63, gf_11_64, gf_11_65, gf_11_9, pf_11_1, pf_11_35, pf_11_58, px_ifp, px_ifn, zh_1, zc_1, zc_2, zc_3, zc_4, zc_5, zc_6, zc_7, zc_8, zc_9, zc_10, zc_11, zc_12, zc_20, zc_21, zc_22, zp_1, zp_2, zp_3, zp_4, zp_5, zp_6, zp_7, zp_8, zp_9, zp_10, zp_11, zp_12, zp_20, zp_21, zp_22, upS_eq, upS_ne, upS_up, upz_eq, upz_ne, upz_up, px_al_aI, px_as_aI, px_as_aZ, px_as_aC, px_ln_aI, Option.toList, List.cons_append, List.nil_append, Int.reduceAdd, Int.reduceSub, Int.reduceMul, ↓reduceIte, Nat.reduceEqDiff, eq_self, Int.reduceEq, Int.reduceLT, Int.reduceLE, Int.reduceNe, Int.reduceNeg, Int.reduceToNat, ne_eq, not_true_eq_false, not_false_eq_true, t0, t1, t2, t3, t4, t5, t6, t7, t8, t9, t10, t11, t12, t13, t14, t15, t16, t17, t18, t19, t20, t21, t22, t23, t24, t25, t26, t27, t28, t29, t30, t31, t32, t33, t34, t35, e35]; repeat (first | simp (disch := first | omega | decide) only [upz_srt, upy_upz, upz_up, upS_srt, upT_upS, upS_up] | simp (disch := first | with_reducible assumption | omega | decide | (simp only [ps_low, List.map_cons, List.map_nil, Value.category, List.sum_cons, List.sum_nil]; decide)) only [el_X11_restore_0, el_X11_restore_1, el_X11_restore_2, el_X11_restore_5, el_X11_restore_6, el_X11_restore_9, el_X11_restore_12, el_X11_restore_13, el_X11_restore_14, el_X11_restore_15, el_X11_restore_16, el_X11_restore_19, el_X11_restore_22, el_X11_restore_23, el_X11_restore_24, el_X11_restore_27, el_X11_restore_30, el_X11_restore_31, el_X11_restore_34, el_X11_restore_35, el_X11_restore_41, el_X11_restore_42, el_X11_restore_45, el_X11_restore_46, el_X11_restore_52, el_X11_restore_53, el_X11_restore_56, el_X11_restore_57, el_X11_restore_63, el_X11_restore_64, el_X11_restore_67, el_X11_restore_68, el_X11_restore_74, el_X11_restore_75, el_X11_restore_79, el_X11_restore_80, el_X11_restore_82, el_X11_restore_83, el_X11_restore_86, el_X11_restore_89, el_X11_restore_90, el_X11_restore_91, el_X11_restore_92, el_X11_restore_95, el_X11_restore_96, el_X11_restore_97, el_X11_restore_101, el_X11_restore_104, el_X11_restore_107, el_X11_restore_108, gf_11_34, gf_11_35, gf_11_55, gf_11_56, gf_11_59, gf_11_60, gf_11_61, gf_11_62, gf_11_63, gf_11_64, gf_11_65, gf_11_9, pf_11_1, pf_11_35, pf_11_58, px_ifp, px_ifn, zh_1, zc_1, zc_2, zc_3, zc_4, zc_5, zc_6, zc_7, zc_8, zc_9, zc_10, zc_11, zc_12, zc_20, zc_21, zc_22, zp_1, zp_2, zp_3, zp_4, zp_5, zp_6, zp_7, zp_8, zp_9, zp_10, zp_11, zp_12, zp_20, zp_21, zp_22, upS_eq, upS_ne, upS_up, upz_eq, upz_ne, upz_up, px_al_aI, px_as_aI, px_as_aZ, px_as_aC, px_ln_aI, Option.toList, List.cons_append, List.nil_append, Int.reduceAdd, Int.reduceSub, Int.reduceMul, ↓reduceIte, Nat.reduceEqDiff, eq_self, Int.reduceEq, Int.reduceLT, Int.reduceLE, Int.reduceNe, Int.reduceNeg, Int.reduceToNat, ne_eq, not_true_eq_false, not_false_eq_true, t0, t1, t2, t3, t4, t5, t6, t7, t8, t9, t10, t11, t12, t13, t14, t15, t16, t17, t18, t19, t20, t21, t22, t23, t24, t25, t26, t27, t28, t29, t30, t31, t32, t33, t34, t35, e35])) | simp (disch := first | omega | decide) only [upz_srt, upy_upz, upz_up, upS_srt, upT_upS, upS_up] | with_reducible refine px_ite (fun _ => ?_) (fun _ => ?_))
          exact fq
        | cons f r ih =>
          intro pre S2 M hp f2 q2 i2 m4 o2 he
          have hlen : pre.length < J.1.length := by rw [← hp, List.length_append, List.length_cons]; omega
          have e35 : S2 m 35 = (J.1.length : Nat) := by rw [f2.1 _ (by omega), sbm, upz_ne (by omega), upz_eq, n60]
          have ef := mi.1.2 pre.length hlen
          have eg : J.1.getD pre.length (0, 0) = f := by
            rw [← hp, List.getD_eq_getElem?_getD, List.getElem?_append_right (by omega), Nat.sub_self]
            rfl
          rw [eg] at ef
          have e22 : S2 (m + 22) pre.length = 10 * f.1 + f.2 := by
            rw [f2.1 _ (by omega), sb22]
            dsimp only
            rw [if_pos (by omega)]
            exact ef
          obtain ⟨S3, r3, f3, q3⟩ := m_apply (T := T) (S := S2) (c := c) (s := 0) (sd := f.1) (k := f.2) h.1 (by decide) (by rw [f2.1 _ (by omega), sb _ (by omega) (by omega) (by omega) (by omega) (by omega), eW]; exact hs.1) (by rw [f2.1 _ (by omega), sb _ (by omega) (by omega) (by omega) (by omega) (by omega)]; exact hs.2.1) (by rw [eW, eN, Nat.mul_comm]) q2 i2 o2.1.1 o2.1.2
          rw [m4, ez] at r3
          have nx := ih (pre ++ [f]) S3 _ (by rw [List.append_assoc]; exact hp) (f2.trans f3) q3 (shI_mt i2 o2.1.1 o2.1.2) (by rw [List.length_append]; change M.1 4 + 1 = _; rw [m4]; rfl) o2.2 he
          rw [List.length_append, List.length_cons, List.length_nil] at nx
          have ec : ((pre.length + (0 + 1) : Nat) : Int) = (pre.length : Int) + 1 := rfl
          rw [ec] at nx
          rw [el_X11_restore_81]; repeat' (first | (simp (disch := first | with_reducible assumption | omega | decide | (simp only [ps_low, List.map_cons, List.map_nil, Value.category, List.sum_cons, List.sum_nil]; decide)) only [el_X11_restore_0, el_X11_restore_1, el_X11_restore_2, el_X11_restore_5, el_X11_restore_6, el_X11_restore_9, el_X11_restore_12, el_X11_restore_13, el_X11_restore_14, el_X11_restore_15, el_X11_restore_16, el_X11_restore_19, el_X11_restore_22, el_X11_restore_23, el_X11_restore_24, el_X11_restore_27, el_X11_restore_30, el_X11_restore_31, el_X11_restore_34, el_X11_restore_35, el_X11_restore_41, el_X11_restore_42, el_X11_restore_45, el_X11_restore_46, el_X11_restore_52, el_X11_restore_53, el_X11_restore_56, el_X11_restore_57, el_X11_restore_63, el_X11_restore_64, el_X11_restore_67, el_X11_restore_68, el_X11_restore_74, el_X11_restore_75, el_X11_restore_79, el_X11_restore_80, el_X11_restore_82, el_X11_restore_83, el_X11_restore_86, el_X11_restore_89, el_X11_restore_90, el_X11_restore_91, el_X11_restore_92, el_X11_restore_95, el_X11_restore_96, el_X11_restore_97, el_X11_restore_101, el_X11_restore_104, el_X11_restore_107, el_X11_restore_108, gf_11_34, gf_11_35, gf_11_55, gf_11_56, gf_11_59, gf_11_60, gf_11_61, gf_11_62, gf_11_63, gf_11_64, gf_11_65, gf_11_9, pf_11_1, pf_11_35, pf_11_58, px_ifp, px_ifn, zh_1, zc_1, zc_2, zc_3, zc_4, zc_5, zc_6, zc_7, zc_8, zc_9, zc_10, zc_11, zc_12, zc_20, zc_21, zc_22, zp_1, zp_2, zp_3, zp_4, zp_5, zp_6, zp_7, zp_8, zp_9, zp_10, zp_11, zp_12, zp_20, zp_21, zp_22, upS_eq, upS_ne, upS_up, upz_eq, upz_ne, upz_up, px_al_aI, px_as_aI, px_as_aZ, px_as_aC, px_ln_aI, Option.toList, List.cons_append, List.nil_append, Int.reduceAdd, Int.reduceSub, Int.reduceMul, ↓reduceIte, Nat.reduceEqDiff, eq_self, Int.reduceEq, Int.reduceLT, Int.reduceLE, Int.reduceNe, Int.reduceNeg, Int.reduceToNat, ne_eq, not_true_eq_false, not_false_eq_true, t0, t1, t2, t3, t4, t5, t6, t7, t8, t9, t10, t11, t12, t13, t14, t15, t16, t17, t18, t19, t20, t21, t22, t23, t24, t25, t26, t27, t28, t29, t30, t31, t32, t33, t34, t35, e35, e22, Int.toNat_natCast, el_X11_restore_98 (r3 ..) _ (zo_12 _) _]; repeat (first | simp (disch := first | omega | decide) only [upz_srt, upy_upz, upz_up, upS_srt, upT_upS, upS_up] | simp (disch := first | with_reducible assumption | omega | decide | (simp only [ps_low, List.map_cons, List.map_nil, Value.category, List.sum_cons, List.sum_nil]; decide)) only [el_X11_restore_0, el_X11_restore_1, el_X11_restore_2, el_X11_restore_5, el_X11_restore_6, el_X11_restore_9, el_X11_restore_12, el_X11_restore_13, el_X11_restore_14, el_X11_restore_15, el_X11_restore_16, el_X11_restore_19, el_X11_restore_22, el_X11_restore_23, el_X11_restore_24, el_X11_restore_27, el_X11_restore_30, el_X11_restore_31, el_X11_restore_34, el_X11_restore_35, el_X11_restore_41, el_X11_restore_42, el_X11_restore_45, el_X11_restore_46, el_X11_restore_52, el_X11_restore_53, el_X11_restore_56, el_X11_restore_57, el_X11_restore_63, el_X11_restore_64, el_X11_restore_67, el_X11_restore_68, el_X11_restore_74, el_X11_restore_75, el_X11_restore_79, el_X11_restore_80, el_X11_restore_82, el_X11_restore_83, el_X11_restore_86, el_X11_restore_89, el_X11_restore_90, el_X11_restore_91, el_X11_restore_92, el_X11_restore_95, el_X11_restore_96, el_X11_restore_97, el_X11_restore_101, el_X11_restore_104, el_X11_restore_107, el_X11_restore_108, gf_11_34, gf_11_35, gf_11_55, gf_11_56, gf_11_59, gf_11_60, gf_11_61, gf_11_62, gf_11_63, gf_11_64, gf_11_65, gf_11_9, pf_11_1, pf_11_35, pf_11_58, px_ifp, px_ifn, zh_1, zc_1, zc_2, zc_3, zc_4, zc_5, zc_6, zc_7, zc_8, zc_9, zc_10, zc_11, zc_12, zc_20, zc_21, zc_22, zp_1, zp_2, zp_3, zp_4, zp_5, zp_6, zp_7, zp_8, zp_9, zp_10, zp_11, zp_12, zp_20, zp_21, zp_22, upS_eq, upS_ne, upS_up, upz_eq, upz_ne, upz_up, px_al_aI, px_as_aI, px_as_aZ, px_as_aC, px_ln_aI, Option.toList, List.cons_append, List.nil_append, Int.reduceAdd, Int.reduceSub, Int.reduceMul, ↓reduceIte, Nat.reduceEqDiff, eq_self, Int.reduceEq, Int.reduceLT, Int.reduceLE, Int.reduceNe, Int.reduceNeg, Int.reduceToNat, ne_eq, not_true_eq_false, not_false_eq_true, t0, t1, t2, t3, t4, t5, t6, t7, t8, t9, t10, t11, t12, t13, t14, t15, t16, t17, t18, t19, t20, t21, t22, t23, t24, t25, t26, t27, t28, t29, t30, t31, t32, t33, t34, t35, e35, e22, Int.toNat_natCast, el_X11_restore_98 (r3 ..) _ (zo_12 _) _])) | simp (disch := first | omega | decide) only [upz_srt, upy_upz, upz_up, upS_srt, upT_upS, upS_up] | with_reducible refine px_ite (fun _ => ?_) (fun _ => ?_))
          exact nx
      have l0 := loop J.1 [] S1 (mp (F.1 0 0) (F.1 0 1)) rfl f1 (by rw [eN, hW, hH]; exact q1) (mpD hd) rfl oJ.1 rfl
      rw [mE_len (fs := [])] at l0
      (simp (disch := first | with_reducible assumption | omega | decide | (simp only [ps_low, List.map_cons, List.map_nil, Value.category, List.sum_cons, List.sum_nil]; decide)) only [el_X11_restore_0, el_X11_restore_1, el_X11_restore_2, el_X11_restore_5, el_X11_restore_6, el_X11_restore_9, el_X11_restore_12, el_X11_restore_13, el_X11_restore_14, el_X11_restore_15, el_X11_restore_16, el_X11_restore_19, el_X11_restore_22, el_X11_restore_23, el_X11_restore_24, el_X11_restore_27, el_X11_restore_30, el_X11_restore_31, el_X11_restore_34, el_X11_restore_35, el_X11_restore_41, el_X11_restore_42, el_X11_restore_45, el_X11_restore_46, el_X11_restore_52, el_X11_restore_53, el_X11_restore_56, el_X11_restore_57, el_X11_restore_63, el_X11_restore_64, el_X11_restore_67, el_X11_restore_68, el_X11_restore_74, el_X11_restore_75, el_X11_restore_79, el_X11_restore_80, gf_11_34, gf_11_55, gf_11_56, gf_11_59, gf_11_60, gf_11_61, gf_11_62, gf_11_63, gf_11_64, gf_11_65, gf_11_9, pf_11_1, pf_11_35, pf_11_58, px_ifp, px_ifn, zh_1, zc_1, zc_2, zc_3, zc_4, zc_5, zc_6, zc_7, zc_8, zc_9, zc_10, zc_11, zc_12, zc_20, zc_21, zc_22, zp_1, zp_2, zp_3, zp_4, zp_5, zp_6, zp_7, zp_8, zp_9, zp_10, zp_11, zp_12, zp_20, zp_21, zp_22, upS_eq, upS_ne, upS_up, upz_eq, upz_ne, upz_up, px_al_aI, px_as_aI, px_as_aZ, px_as_aC, px_ln_aI, Option.toList, List.cons_append, List.nil_append, Int.reduceAdd, Int.reduceSub, Int.reduceMul, ↓reduceIte, Nat.reduceEqDiff, eq_self, Int.reduceEq, Int.reduceLT, Int.reduceLE, Int.reduceNe, Int.reduceNeg, Int.reduceToNat, ne_eq, not_true_eq_false, not_false_eq_true, t0, t1, t2, t3, t4, t5, t6, t7, t8, t9, t10, t11, t12, t13, t14, t15, t16, t17, t18, t19, t20, t21, t22, t23, t24, t25, t26, t27, t28, t29, t30, t31, t32, t33, t34, t35, e59, el_X11_restore_38 (k1 ..) _ _, el_X11_restore_49 (k2 ..) _ _, el_X11_restore_60 (k3 ..) _ _, el_X11_restore_71 (k4 ..) _ _, el_X11_restore_76 (r1 ..) _ (zo_12 _) _]; repeat (first | simp (disch := first | omega | decide) only [upz_srt, upy_upz, upz_up, upS_srt, upT_upS, upS_up] | simp (disch := first | with_reducible assumption | omega | decide | (simp only [ps_low, List.map_cons, List.map_nil, Value.category, List.sum_cons, List.sum_nil]; decide)) only [el_X11_restore_0, el_X11_restore_1, el_X11_restore_2, el_X11_restore_5, el_X11_restore_6, el_X11_restore_9, el_X11_restore_12, el_X11_restore_13, el_X11_restore_14, el_X11_restore_15, el_X11_restore_16, el_X11_restore_19, el_X11_restore_22, el_X11_restore_23, el_X11_restore_24, el_X11_restore_27, el_X11_restore_30, el_X11_restore_31, el_X11_restore_34, el_X11_restore_35, el_X11_restore_41, el_X11_restore_42, el_X11_restore_45, el_X11_restore_46, el_X11_restore_52, el_X11_restore_53, el_X11_restore_56, el_X11_restore_57, el_X11_restore_63, el_X11_restore_64, el_X11_restore_67, el_X11_restore_68, el_X11_restore_74, el_X11_restore_75, el_X11_restore_79, el_X11_restore_80, gf_11_34, gf_11_55, gf_11_56, gf_11_59, gf_11_60, gf_11_61, gf_11_62, gf_11_63, gf_11_64, gf_11_65, gf_11_9, pf_11_1, pf_11_35, pf_11_58, px_ifp, px_ifn, zh_1, zc_1, zc_2, zc_3, zc_4, zc_5, zc_6, zc_7, zc_8, zc_9, zc_10, zc_11, zc_12, zc_20, zc_21, zc_22, zp_1, zp_2, zp_3, zp_4, zp_5, zp_6, zp_7, zp_8, zp_9, zp_10, zp_11, zp_12, zp_20, zp_21, zp_22, upS_eq, upS_ne, upS_up, upz_eq, upz_ne, upz_up, px_al_aI, px_as_aI, px_as_aZ, px_as_aC, px_ln_aI, Option.toList, List.cons_append, List.nil_append, Int.reduceAdd, Int.reduceSub, Int.reduceMul, ↓reduceIte, Nat.reduceEqDiff, eq_self, Int.reduceEq, Int.reduceLT, Int.reduceLE, Int.reduceNe, Int.reduceNeg, Int.reduceToNat, ne_eq, not_true_eq_false, not_false_eq_true, t0, t1, t2, t3, t4, t5, t6, t7, t8, t9, t10, t11, t12, t13, t14, t15, t16, t17, t18, t19, t20, t21, t22, t23, t24, t25, t26, t27, t28, t29, t30, t31, t32, t33, t34, t35, e59, el_X11_restore_38 (k1 ..) _ _, el_X11_restore_49 (k2 ..) _ _, el_X11_restore_60 (k3 ..) _ _, el_X11_restore_71 (k4 ..) _ _, el_X11_restore_76 (r1 ..) _ (zo_12 _) _]))
      exact l0
    have e : mX [35, 58] [9, 22, 29, 30, 12, 13, 14, 15, 16, 17, 18, 19] m S S' := by
      refine ⟨fun j hj hx => ?_, fun a j hj hy => ?_⟩
      · simp only [List.mem_cons, List.not_mem_nil, or_false, not_or] at hx
        have : j ≠ 1 := fun e => by subst e; unfold mJ at hj; omega
        rw [h2.1 m (by omega), sbm, upz_ne hx.2, upz_ne hx.1, upz_ne this]
      · simp only [List.mem_cons, List.not_mem_nil, or_false, not_or] at hy
        have := mLim_in hj
        rw [h2.1 _ (by omega), sb _ (by omega) (by omega) (by omega) (by omega) (by omega)]
    refine mop_val hr (fun a ha => by rw [h2.1 a (by omega), sb _ (by omega) (by omega) (by omega) (by omega) (by omega)]) ?_ (by rw [h2.1 m (by omega), sbm, upz_ne (by omega), upz_ne (by omega), upz_eq])
    obtain ⟨h1, hA, hB, hC, hD, hE, hF', hG⟩ := h
    refine ⟨h1, hA.mx e (by decide) hf.2.1.1.2.2.2.2.2.2.2, hB.mx e (by decide) (by decide), ⟨⟨?_, fun j hj => ?_⟩, ⟨?_, fun r hr' => ⟨?_, fun i hi => ?_⟩⟩, fun j hj => ?_⟩, h3, hE.mx e (by decide) (by decide) hf.dO hf.2.2.2.2.1, hF'.mx e (by decide) (by decide) hf.2.2.2.2.2.1, hG.mx e (by decide) (by decide)⟩
    · rw [h2.1 m (by omega), sbm, upz_ne (by omega), upz_eq]
      exact n60
    · have hj' : j < J.1.length := hj
      rw [h2.1 _ (by omega), sb22]
      dsimp only
      rw [if_pos (by omega)]
      exact mi.1.2 j hj
    · rw [h2.1 m (by omega), sbm, upz_eq]
      exact n61
    · have hr2 : r < J.2.1.1 := hr'
      have := rJ.1
      rw [h2.1 _ (by omega), sb30]
      dsimp only
      rw [if_pos (by omega)]
      exact (mi.2.1.2 r hr2).1
    · have hr2 : r < J.2.1.1 := hr'
      have hi2 : (i : Int) < J.2.1.2.1 r := hi
      have := rJ.1
      have := rJ.2.1 r hr2
      rw [h2.1 _ (by omega), sb29]
      dsimp only
      rw [if_pos (by omega)]
      exact (mi.2.1.2 r hr2).2 i hi
    · rw [h2.1 _ (by omega), sb9]
      dsimp only
      rw [if_pos hj]
      exact mi.2.2 j hj
end MODEL
