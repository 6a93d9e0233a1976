/-! A FLIGHT -/
/-- a School's numbers are as they may be -/
def scOk (S : Nat → Nat → Int) (s : Nat) : Prop := ((1 ≤ S s 0 ∧ S s 0 ≤ 8) ∧ (1 ≤ S s 1 ∧ S s 1 ≤ 8) ∧ (1 ≤ S s 2 ∧ S s 2 ≤ 200) ∧ (1 ≤ S s 3 ∧ S s 3 ≤ 200) ∧ (0 ≤ S s 4 ∧ S s 4 ≤ 200) ∧ (0 ≤ S s 5 ∧ S s 5 ≤ 200) ∧ (1 ≤ S s 6 ∧ S s 6 ≤ 10)) ∧
  (∀ k, k < 10 → (0 ≤ S (s + 1) k ∧ S (s + 1) k ≤ 20) ∧ (0 ≤ S (s + 2) k ∧ S (s + 2) k ≤ 20) ∧ (-5 ≤ S (s + 3) k ∧ S (s + 3) k ≤ 5) ∧ (-5 ≤ S (s + 4) k ∧ S (s + 4) k ≤ 5) ∧ (0 ≤ S (s + 5) k ∧ S (s + 5) k ≤ 99)) ∧
  (∀ k : Nat, (k : Int) < S s 6 → (0 ≤ S (s + 6) k ∧ S (s + 6) k ≤ 3) ∧ (1 ≤ S (s + 7) k ∧ S (s + 7) k ≤ 4))
theorem c_floorMod {h : pm_H} {x : Int} (hx : 0 ≤ x ∧ x ≤ 100000) : px_R 0 235 [.int (zI x), .int (zI 10), .retAddr 0] h (.inl (some (.int (zI (x % 10))))) h := by
  refine px_ofQ fun Q hQ => ?_
  have h10 : ¬ zI 10 = 0 := by decide
  obtain ⟨n, rfl⟩ : ∃ n : Nat, x = n := ⟨x.toNat, by omega⟩
  have hx1 : zI (n : Int) ^^^ zI 10 = zI ((n ^^^ 10 : Nat) : Int) := zI_xorN n 10
  have hlt : n ^^^ 10 < 2 ^ 17 := Nat.xor_lt_two_pow (by omega) (by decide)
  simp (disch := first | exact h10 | omega) only [el_J9_floorMod_7cf53_0, el_J9_floorMod_7cf53_1, el_J9_floorMod_7cf53_2, el_J9_floorMod_7cf53_3, el_J9_floorMod_7cf53_4, el_J9_floorMod_7cf53_5, el_J9_floorMod_7cf53_6, zI_rem10, hx1]
  simp (disch := first | exact h10 | omega) only [el_J9_floorMod_7cf53_7, el_J9_floorMod_7cf53_10, el_J9_floorMod_7cf53_11, el_J9_floorMod_7cf53_14, el_J9_floorMod_7cf53_15, el_J9_floorMod_7cf53_16, el_J9_floorMod_7cf53_17, el_J9_floorMod_7cf53_18, el_J9_floorMod_7cf53_19]
  rw [if_pos (by omega)]
  exact hQ
theorem c_paceIn {T : Nat → Nat × Nat} {S : Nat → Nat → Int} {c : pm_M × pm_C} {f s : Nat} {w tr : Int} (tf : T f = (2, 0)) (ts : ly4 T s) (h6 : S f 6 = s) (h7 : 0 ≤ S f 7 ∧ S f 7 ≤ 9) (hs : scOk S s) (hw : 0 ≤ w ∧ w ≤ 9) (ht : -3 ≤ tr ∧ tr ≤ 3) :
    px_R 0 14 [.ref f, .int (zI w), .int (zI tr)] (zh T S c) (.inl (some (.int (zI (mx0 (S (s + 1) (S f 7).toNat - ab tr + S (s + 3) w.toNat)))))) (zh T S c) := by
  obtain ⟨t0, t1, t2, t3, t4, t5, t6, t7⟩ := id ts
  have k1 := hs.2.1 (S f 7).toNat (by omega)
  have k2 := hs.2.1 w.toNat (by omega)
  refine px_ofQ fun Q hQ => ?_
  have e6 : (S f 6).toNat = s := by omega
  have hab : -3 ≤ -(if 0 ≤ tr then tr else -tr) := by split <;> omega
  have hab2 : -(if 0 ≤ tr then tr else -tr) ≤ 0 := by split <;> omega
  repeat' (first | simp (disch := first | with_reducible assumption | omega | decide | (simp only [ps_low, List.map_cons, List.map_nil, Value.category, List.sum_cons, List.sum_nil]; decide) | with_unfolding_all rfl) only [el_X1_paceIn_0, el_X1_paceIn_1, el_X1_paceIn_4, el_X1_paceIn_5, el_X1_paceIn_7, el_X1_paceIn_10, el_X1_paceIn_11, el_X1_paceIn_14, el_X1_paceIn_17, el_X1_paceIn_18, el_X1_paceIn_21, el_X1_paceIn_23, el_X1_paceIn_26, el_X1_paceIn_27, el_X1_paceIn_28, el_X1_paceIn_29, el_X1_paceIn_30, el_X1_paceIn_33, el_X1_paceIn_36, el_X1_paceIn_37, el_X1_paceIn_40, el_X1_paceIn_41, el_X1_paceIn_42, el_X1_paceIn_45, el_X1_paceIn_46, el_X1_paceIn_47, el_X1_paceIn_50, el_X1_paceIn_53, el_X1_paceIn_54, el_X1_paceIn_55, el_X1_paceIn_56, el_X1_paceIn_59, gf_1_6, gf_1_7, gf_4_7, gf_4_9, px_ifp, px_ifn, zh_1, zc_1, zc_2, zc_3, zc_4, zc_5, zc_6, zc_7, zc_8, zc_9, zc_10, zc_11, zc_12, zc_20, zc_21, zc_22, zp_1, zp_2, zp_3, zp_4, zp_5, zp_6, zp_7, zp_8, zp_9, zp_10, zp_11, zp_12, zp_20, zp_21, zp_22, upS_eq, upS_ne, upS_up, upS_srt, upz_eq, upz_ne, upz_up, upz_srt, px_al_aI, px_as_aI, px_as_aZ, px_as_aC, px_ln_aI, Option.toList, List.cons_append, List.nil_append, Int.reduceAdd, Int.reduceSub, Int.reduceMul, ↓reduceIte, Nat.reduceEqDiff, eq_self, Int.reduceEq, Int.reduceLT, Int.reduceLE, Int.reduceNe, Int.reduceNeg, Int.reduceToNat, ne_eq, not_true_eq_false, not_false_eq_true, tf, t0, t1, t2, t3, t4, t5, t6, t7, e6] | with_reducible refine px_ite (fun _ => ?_) (fun _ => ?_))
  exact hQ
theorem c_sinkIn {T : Nat → Nat × Nat} {S : Nat → Nat → Int} {c : pm_M × pm_C} {f s : Nat} {w tr we : Int} (tf : T f = (2, 0)) (ts : ly4 T s) (h6 : S f 6 = s) (h7 : 0 ≤ S f 7 ∧ S f 7 ≤ 9) (hs : scOk S s) (hw : 0 ≤ w ∧ w ≤ 9) (ht : -3 ≤ tr ∧ tr ≤ 3) (hwe : we = 0 ∨ we = 1) :
    px_R 0 15 [.ref f, .int (zI w), .int (zI tr), .int (zI we)] (zh T S c) (.inl (some (.int (zI (mx0 (S (s + 2) (S f 7).toNat - tr - S (s + 4) w.toNat + we)))))) (zh T S c) := by
  obtain ⟨t0, t1, t2, t3, t4, t5, t6, t7⟩ := id ts
  have k1 := hs.2.1 (S f 7).toNat (by omega)
  have k2 := hs.2.1 w.toNat (by omega)
  refine px_ofQ fun Q hQ => ?_
  have e6 : (S f 6).toNat = s := by omega
  rcases hwe with rfl | rfl
  all_goals
    repeat' (first | simp (disch := first | with_reducible assumption | omega | decide | (simp only [ps_low, List.map_cons, List.map_nil, Value.category, List.sum_cons, List.sum_nil]; decide) | with_unfolding_all rfl) only [el_X1_sinkIn_0, el_X1_sinkIn_1, el_X1_sinkIn_4, el_X1_sinkIn_5, el_X1_sinkIn_7, el_X1_sinkIn_10, el_X1_sinkIn_11, el_X1_sinkIn_14, el_X1_sinkIn_17, el_X1_sinkIn_18, el_X1_sinkIn_21, el_X1_sinkIn_23, el_X1_sinkIn_26, el_X1_sinkIn_27, el_X1_sinkIn_28, el_X1_sinkIn_29, el_X1_sinkIn_30, el_X1_sinkIn_33, el_X1_sinkIn_36, el_X1_sinkIn_37, el_X1_sinkIn_40, el_X1_sinkIn_41, el_X1_sinkIn_42, el_X1_sinkIn_43, el_X1_sinkIn_44, el_X1_sinkIn_47, el_X1_sinkIn_50, el_X1_sinkIn_51, el_X1_sinkIn_52, el_X1_sinkIn_53, el_X1_sinkIn_54, el_X1_sinkIn_57, el_X1_sinkIn_58, el_X1_sinkIn_61, el_X1_sinkIn_62, el_X1_sinkIn_63, el_X1_sinkIn_66, gf_1_6, gf_1_7, gf_4_10, gf_4_8, px_ifp, px_ifn, zh_1, zc_1, zc_2, zc_3, zc_4, zc_5, zc_6, zc_7, zc_8, zc_9, zc_10, zc_11, zc_12, zc_20, zc_21, zc_22, zp_1, zp_2, zp_3, zp_4, zp_5, zp_6, zp_7, zp_8, zp_9, zp_10, zp_11, zp_12, zp_20, zp_21, zp_22, upS_eq, upS_ne, upS_up, upS_srt, upz_eq, upz_ne, upz_up, upz_srt, px_al_aI, px_as_aI, px_as_aZ, px_as_aC, px_ln_aI, Option.toList, List.cons_append, List.nil_append, Int.reduceAdd, Int.reduceSub, Int.reduceMul, ↓reduceIte, Nat.reduceEqDiff, eq_self, Int.reduceEq, Int.reduceLT, Int.reduceLE, Int.reduceNe, Int.reduceNeg, Int.reduceToNat, ne_eq, not_true_eq_false, not_false_eq_true, tf, t0, t1, t2, t3, t4, t5, t6, t7, e6] | with_reducible refine px_ite (fun _ => ?_) (fun _ => ?_))
    exact hQ
theorem c_move {T : Nat → Nat × Nat} {S : Nat → Nat → Int} {c : pm_M × pm_C} {f : Nat} {p : Int} (tf : T f = (2, 0)) (h3 : 0 ≤ S f 3 ∧ S f 3 ≤ 3) :
    px_R 0 16 [.ref f, .int (zI p)] (zh T S c) (.inl none) (zh T (upS S f (if S f 3 = 0 then upz (S f) 0 (S f 0 + p) else if S f 3 = 1 then upz (S f) 1 (S f 1 + p) else if S f 3 = 2 then upz (S f) 0 (S f 0 - p) else upz (S f) 1 (S f 1 - p))) c) := by
  refine px_ofQ fun Q hQ => ?_
  rcases (show S f 3 = 0 ∨ S f 3 = 1 ∨ S f 3 = 2 ∨ S f 3 = 3 by omega) with e | e | e | e
  all_goals
    have g0 : ps_tgt 0 2 [32, 45, 58] 71 (zI 0) = 32 := by decide
    have g1 : ps_tgt 0 2 [32, 45, 58] 71 (zI 1) = 45 := by decide
    have g2 : ps_tgt 0 2 [32, 45, 58] 71 (zI 2) = 58 := by decide
    have g3 : ps_tgt 0 2 [32, 45, 58] 71 (zI 3) = 71 := by decide
    simp only [e, ↓reduceIte, Nat.reduceEqDiff, eq_self, Int.reduceEq, Int.reduceLT, Int.reduceLE, Int.reduceNe, Int.reduceNeg, Int.reduceToNat, ne_eq, not_true_eq_false, not_false_eq_true] at hQ
    simp (disch := first | with_reducible assumption | omega | decide | (simp only [ps_low, List.map_cons, List.map_nil, Value.category, List.sum_cons, List.sum_nil]; decide) | with_unfolding_all rfl) only [el_X1_move_0, el_X1_move_1, el_X1_move_4, el_X1_move_32, el_X1_move_33, el_X1_move_33i, el_X1_move_34, el_X1_move_37, el_X1_move_38, el_X1_move_39, el_X1_move_42, el_X1_move_45, el_X1_move_46, el_X1_move_46i, el_X1_move_47, el_X1_move_50, el_X1_move_51, el_X1_move_52, el_X1_move_55, el_X1_move_58, el_X1_move_59, el_X1_move_59i, el_X1_move_60, el_X1_move_63, el_X1_move_64, el_X1_move_65, el_X1_move_68, el_X1_move_71, el_X1_move_72, el_X1_move_72i, el_X1_move_73, el_X1_move_76, el_X1_move_77, el_X1_move_78, el_X1_move_81, gf_1_0, gf_1_1, gf_1_3, pf_1_0, pf_1_1, px_ifp, px_ifn, zh_1, zc_1, zc_2, zc_3, zc_4, zc_5, zc_6, zc_7, zc_8, zc_9, zc_10, zc_11, zc_12, zc_20, zc_21, zc_22, zp_1, zp_2, zp_3, zp_4, zp_5, zp_6, zp_7, zp_8, zp_9, zp_10, zp_11, zp_12, zp_20, zp_21, zp_22, upS_eq, upS_ne, upS_up, upS_srt, upz_eq, upz_ne, upz_up, upz_srt, px_al_aI, px_as_aI, px_as_aZ, px_as_aC, px_ln_aI, Option.toList, List.cons_append, List.nil_append, Int.reduceAdd, Int.reduceSub, Int.reduceMul, ↓reduceIte, Nat.reduceEqDiff, eq_self, Int.reduceEq, Int.reduceLT, Int.reduceLE, Int.reduceNe, Int.reduceNeg, Int.reduceToNat, ne_eq, not_true_eq_false, not_false_eq_true, tf, e, g0, g1, g2, g3]
    exact hQ
theorem c_turnBehind {T : Nat → Nat × Nat} {S : Nat → Nat → Int} {c : pm_M × pm_C} {f : Nat} (tf : T f = (2, 0)) (h3 : 0 ≤ S f 3 ∧ S f 3 ≤ 3) (h4 : 0 ≤ S f 4 ∧ S f 4 ≤ 1000) (h8 : -8 ≤ S f 8 ∧ S f 8 ≤ 8) :
    px_R 0 17 [.ref f] (zh T S c) (.inl none) (zh T (if S f 8 ≠ 0 ∧ (S f 4).tmod (S f 8) = 0 then upS S f (upz (S f) 3 ((S f 3 + (if 0 < S f 8 then 1 else 3)) % 4)) else S) c) := by
  refine px_ofQ fun Q hQ => ?_
  have hm : S f 8 ≠ 0 → ((S f 4).tmod (S f 8)).natAbs ≤ 1000 := fun hne => by
    rw [Int.natAbs_tmod]
    have := Nat.mod_le (S f 4).natAbs (S f 8).natAbs
    omega
  by_cases h0 : S f 8 = 0
  · rw [if_neg (fun g => g.1 h0)] at hQ
    simp (disch := first | with_reducible assumption | omega | decide | (simp only [ps_low, List.map_cons, List.map_nil, Value.category, List.sum_cons, List.sum_nil]; decide) | with_unfolding_all rfl) only [el_X1_turnBehindStep_0, el_X1_turnBehindStep_1, el_X1_turnBehindStep_4, el_X1_turnBehindStep_7, el_X1_turnBehindStep_8, el_X1_turnBehindStep_11, el_X1_turnBehindStep_12, el_X1_turnBehindStep_15, el_X1_turnBehindStep_16, el_X1_turnBehindStep_19, el_X1_turnBehindStep_20, el_X1_turnBehindStep_21, el_X1_turnBehindStep_24, el_X1_turnBehindStep_25, el_X1_turnBehindStep_28, el_X1_turnBehindStep_31, el_X1_turnBehindStep_32, el_X1_turnBehindStep_35, el_X1_turnBehindStep_36, el_X1_turnBehindStep_37, el_X1_turnBehindStep_38, el_X1_turnBehindStep_39, el_X1_turnBehindStep_42, gf_1_3, gf_1_4, gf_1_8, pf_1_3, px_ifp, px_ifn, zh_1, zc_1, zc_2, zc_3, zc_4, zc_5, zc_6, zc_7, zc_8, zc_9, zc_10, zc_11, zc_12, zc_20, zc_21, zc_22, zp_1, zp_2, zp_3, zp_4, zp_5, zp_6, zp_7, zp_8, zp_9, zp_10, zp_11, zp_12, zp_20, zp_21, zp_22, upS_eq, upS_ne, upS_up, upS_srt, upz_eq, upz_ne, upz_up, upz_srt, px_al_aI, px_as_aI, px_as_aZ, px_as_aC, px_ln_aI, Option.toList, List.cons_append, List.nil_append, Int.reduceAdd, Int.reduceSub, Int.reduceMul, ↓reduceIte, Nat.reduceEqDiff, eq_self, Int.reduceEq, Int.reduceLT, Int.reduceLE, Int.reduceNe, Int.reduceNeg, Int.reduceToNat, ne_eq, not_true_eq_false, not_false_eq_true, tf, h0]
    exact hQ
  · have hm := hm h0
    have hz : ¬ zI (S f 8) = 0 := zI_ne0 (by omega)
    by_cases h1 : (S f 4).tmod (S f 8) = 0
    · rw [if_pos ⟨h0, h1⟩] at hQ
      repeat' (first | simp (disch := first | with_reducible assumption | omega | decide | (simp only [ps_low, List.map_cons, List.map_nil, Value.category, List.sum_cons, List.sum_nil]; decide) | with_unfolding_all rfl) only [el_X1_turnBehindStep_0, el_X1_turnBehindStep_1, el_X1_turnBehindStep_4, el_X1_turnBehindStep_7, el_X1_turnBehindStep_8, el_X1_turnBehindStep_11, el_X1_turnBehindStep_12, el_X1_turnBehindStep_15, el_X1_turnBehindStep_16, el_X1_turnBehindStep_19, el_X1_turnBehindStep_20, el_X1_turnBehindStep_21, el_X1_turnBehindStep_24, el_X1_turnBehindStep_25, el_X1_turnBehindStep_28, el_X1_turnBehindStep_31, el_X1_turnBehindStep_32, el_X1_turnBehindStep_35, el_X1_turnBehindStep_36, el_X1_turnBehindStep_37, el_X1_turnBehindStep_38, el_X1_turnBehindStep_39, el_X1_turnBehindStep_42, gf_1_3, gf_1_4, gf_1_8, pf_1_3, px_ifp, px_ifn, zh_1, zc_1, zc_2, zc_3, zc_4, zc_5, zc_6, zc_7, zc_8, zc_9, zc_10, zc_11, zc_12, zc_20, zc_21, zc_22, zp_1, zp_2, zp_3, zp_4, zp_5, zp_6, zp_7, zp_8, zp_9, zp_10, zp_11, zp_12, zp_20, zp_21, zp_22, upS_eq, upS_ne, upS_up, upS_srt, upz_eq, upz_ne, upz_up, upz_srt, px_al_aI, px_as_aI, px_as_aZ, px_as_aC, px_ln_aI, Option.toList, List.cons_append, List.nil_append, Int.reduceAdd, Int.reduceSub, Int.reduceMul, ↓reduceIte, Nat.reduceEqDiff, eq_self, Int.reduceEq, Int.reduceLT, Int.reduceLE, Int.reduceNe, Int.reduceNeg, Int.reduceToNat, ne_eq, not_true_eq_false, not_false_eq_true, tf, zI_tmod, h1, hz, zI_and3] | with_reducible refine px_ite (fun _ => ?_) (fun _ => ?_))
      · rw [if_neg (by omega)] at hQ
        exact hQ
      · rw [if_pos (by omega)] at hQ
        exact hQ
    · rw [if_neg (fun g => h1 g.2)] at hQ
      repeat' (first | simp (disch := first | with_reducible assumption | omega | decide | (simp only [ps_low, List.map_cons, List.map_nil, Value.category, List.sum_cons, List.sum_nil]; decide) | with_unfolding_all rfl) only [el_X1_turnBehindStep_0, el_X1_turnBehindStep_1, el_X1_turnBehindStep_4, el_X1_turnBehindStep_7, el_X1_turnBehindStep_8, el_X1_turnBehindStep_11, el_X1_turnBehindStep_12, el_X1_turnBehindStep_15, el_X1_turnBehindStep_16, el_X1_turnBehindStep_19, el_X1_turnBehindStep_20, el_X1_turnBehindStep_21, el_X1_turnBehindStep_24, el_X1_turnBehindStep_25, el_X1_turnBehindStep_28, el_X1_turnBehindStep_31, el_X1_turnBehindStep_32, el_X1_turnBehindStep_35, el_X1_turnBehindStep_36, el_X1_turnBehindStep_37, el_X1_turnBehindStep_38, el_X1_turnBehindStep_39, el_X1_turnBehindStep_42, gf_1_3, gf_1_4, gf_1_8, pf_1_3, px_ifp, px_ifn, zh_1, zc_1, zc_2, zc_3, zc_4, zc_5, zc_6, zc_7, zc_8, zc_9, zc_10, zc_11, zc_12, zc_20, zc_21, zc_22, zp_1, zp_2, zp_3, zp_4, zp_5, zp_6, zp_7, zp_8, zp_9, zp_10, zp_11, zp_12, zp_20, zp_21, zp_22, upS_eq, upS_ne, upS_up, upS_srt, upz_eq, upz_ne, upz_up, upz_srt, px_al_aI, px_as_aI, px_as_aZ, px_as_aC, px_ln_aI, Option.toList, List.cons_append, List.nil_append, Int.reduceAdd, Int.reduceSub, Int.reduceMul, ↓reduceIte, Nat.reduceEqDiff, eq_self, Int.reduceEq, Int.reduceLT, Int.reduceLE, Int.reduceNe, Int.reduceNeg, Int.reduceToNat, ne_eq, not_true_eq_false, not_false_eq_true, tf, zI_tmod, hz, zI_and3] | with_reducible refine px_ite (fun _ => ?_) (fun _ => ?_))
      exact hQ
theorem scOk.eq {S S' : Nat → Nat → Int} {s : Nat} (h : scOk S s) (e : ∀ a, s ≤ a → a < s + 8 → S' a = S a) : scOk S' s := by
  unfold scOk
  rw [e s (by omega) (by omega), e (s + 1) (by omega) (by omega), e (s + 2) (by omega) (by omega), e (s + 3) (by omega) (by omega), e (s + 4) (by omega) (by omega), e (s + 5) (by omega) (by omega), e (s + 6) (by omega) (by omega), e (s + 7) (by omega) (by omega)]
  exact h
theorem scOk.out {S : Nat → Nat → Int} {s f : Nat} {σ : Nat → Int} (h : scOk S s) (e : f < s ∨ s + 8 ≤ f) : scOk (upS S f σ) s := h.eq (fun a h1 h2 => upS_ne (by omega))
/-- a flight's numbers: pace and sink by the minute of the wind; 0 turn, 1 window's far, 2 low, 3 high, 4 minute -/
abbrev flP : Type := (Int → Int) × (Int → Int) × (Nat → Int)
def flD (tu d st : Int) : Int := if tu ≠ 0 ∧ st.tmod tu = 0 then (d + (if 0 < tu then 1 else 3)) % 4 else d
def fl1 (p : flP) (s : Nat → Int) : Nat → Int := fun j =>
  if j = 0 then (if s 3 = 0 then s 0 + p.1 ((p.2.2 4 + s 4) % 10) else if s 3 = 2 then s 0 - p.1 ((p.2.2 4 + s 4) % 10) else s 0)
  else if j = 1 then (if s 3 = 1 then s 1 + p.1 ((p.2.2 4 + s 4) % 10) else if s 3 = 3 then s 1 - p.1 ((p.2.2 4 + s 4) % 10) else s 1)
  else if j = 2 then s 2 - p.2.1 ((p.2.2 4 + s 4) % 10)
  else if j = 3 then flD (p.2.2 0) (s 3) (s 4 + 1)
  else if j = 4 then s 4 + 1
  else if j = 5 then (if (s 3 = 0 ∧ s 1 = 0 ∧ s 0 < p.2.2 1 ∧ p.2.2 1 ≤ s 0 + p.1 ((p.2.2 4 + s 4) % 10)) ∧ p.2.2 2 ≤ s 2 - p.2.1 ((p.2.2 4 + s 4) % 10) ∧ s 2 - p.2.1 ((p.2.2 4 + s 4) % 10) ≤ p.2.2 3 then 1 else s 5)
  else s j
def flG (p : flP) (mo : Int) : Nat → (Nat → Int) → (Nat → Int)
  | 0, s => s
  | k + 1, s => if s 4 < mo ∧ 0 < s 2 then flG p mo k (fl1 p s) else s
def fl0 (F : Nat → Int) (tower : Int) : Nat → Int := fun j => if j = 2 then tower else if j < 6 then 0 else F j
def flp (fw si pu li : Nat → Int) (nose tu D A B mi tr we : Int) : flP := (fun w => mx0 (fw nose.toNat - ab tr + pu w.toNat), fun w => mx0 (si nose.toNat - tr - li w.toNat + we), fun k => if k = 0 then tu else if k = 1 then D else if k = 2 then A else if k = 3 then B else mi)
/-- the numbers of a flight within which they stay -/
def flB (σ : Nat → Int) : Prop := (0 ≤ σ 4 ∧ σ 4 ≤ 200) ∧ (-(25 * σ 4) ≤ σ 0 ∧ σ 0 ≤ 25 * σ 4) ∧ (-(25 * σ 4) ≤ σ 1 ∧ σ 1 ≤ 25 * σ 4) ∧ (-(29 * σ 4) ≤ σ 2 ∧ σ 2 ≤ 200) ∧ (0 ≤ σ 3 ∧ σ 3 ≤ 3) ∧ (σ 5 = 0 ∨ σ 5 = 1)
def flQ (p : flP) : Prop := ∀ w, 0 ≤ w → w ≤ 9 → (0 ≤ p.1 w ∧ p.1 w ≤ 25) ∧ 0 ≤ p.2.1 w ∧ p.2.1 w ≤ 29
theorem fl1_B {p : flP} {σ : Nat → Int} (hp : flQ p) (hb : flB σ) (h4 : σ 4 < 200) : flB (fl1 p σ) := by
  obtain ⟨b4, b0, b1, b2, b3, b5⟩ := hb
  have hw := hp ((p.2.2 4 + σ 4) % 10) (by omega) (by omega)
  unfold flB
  have e0 : fl1 p σ 0 = (if σ 3 = 0 then σ 0 + p.1 ((p.2.2 4 + σ 4) % 10) else if σ 3 = 2 then σ 0 - p.1 ((p.2.2 4 + σ 4) % 10) else σ 0) := rfl
  have e1 : fl1 p σ 1 = (if σ 3 = 1 then σ 1 + p.1 ((p.2.2 4 + σ 4) % 10) else if σ 3 = 3 then σ 1 - p.1 ((p.2.2 4 + σ 4) % 10) else σ 1) := rfl
  have e2 : fl1 p σ 2 = σ 2 - p.2.1 ((p.2.2 4 + σ 4) % 10) := rfl
  have e3 : fl1 p σ 3 = flD (p.2.2 0) (σ 3) (σ 4 + 1) := rfl
  have e4 : fl1 p σ 4 = σ 4 + 1 := rfl
  have e5 : fl1 p σ 5 = (if (σ 3 = 0 ∧ σ 1 = 0 ∧ σ 0 < p.2.2 1 ∧ p.2.2 1 ≤ σ 0 + p.1 ((p.2.2 4 + σ 4) % 10)) ∧ p.2.2 2 ≤ σ 2 - p.2.1 ((p.2.2 4 + σ 4) % 10) ∧ σ 2 - p.2.1 ((p.2.2 4 + σ 4) % 10) ≤ p.2.2 3 then 1 else σ 5) := rfl
  rw [e0, e1, e2, e3, e4, e5]
  refine ⟨by omega, ?_, ?_, by omega, ?_, ?_⟩
  · split
    · omega
    · split <;> omega
  · split
    · omega
    · split <;> omega
  · unfold flD
    split
    · omega
    · omega
  · split
    · exact .inr rfl
    · exact b5
theorem flp_Q {S : Nat → Nat → Int} {s : Nat} {nose tu D A B mi tr we : Int} (hs : scOk S s) (hn : 0 ≤ nose ∧ nose ≤ 9) (ht : -3 ≤ tr ∧ tr ≤ 3) (hw : we = 0 ∨ we = 1) : flQ (flp (S (s + 1)) (S (s + 2)) (S (s + 3)) (S (s + 4)) nose tu D A B mi tr we) := by
  intro w h0 h9
  have k1 := hs.2.1 nose.toNat (by omega)
  have k2 := hs.2.1 w.toNat (by omega)
  unfold flp mx0 ab
  dsimp only
  refine ⟨?_, ?_⟩
  · split <;> split <;> omega
  · split <;> omega
theorem c_fly {T : Nat → Nat × Nat} {S : Nat → Nat → Int} {c : pm_M × pm_C} {f s : Nat} {mi tr we mo : Int} (tf : T f = (2, 0)) (ts : ly4 T s) (hd : f < s ∨ s + 8 ≤ f) (h6 : S f 6 = s) (h7 : 0 ≤ S f 7 ∧ S f 7 ≤ 9) (h8 : -8 ≤ S f 8 ∧ S f 8 ≤ 8) (hs : scOk S s) (hmi : 0 ≤ mi ∧ mi ≤ 9) (ht : -3 ≤ tr ∧ tr ≤ 3) (hwe : we = 0 ∨ we = 1) (hmo : 0 ≤ mo ∧ mo ≤ 200) :
    px_R 2 13 [.ref f, .int (zI mi), .int (zI tr), .int (zI we), .int (zI mo), .retAddr 0, .retAddr 0, .retAddr 0] (zh T S c) (.inl none)
      (zh T (upS S f (flG (flp (S (s + 1)) (S (s + 2)) (S (s + 3)) (S (s + 4)) (S f 7) (S f 8) (S s 3) (S s 4) (S s 5) mi tr we) mo 200 (fl0 (S f) (S s 2)))) c) := by
  obtain ⟨t0, t1, t2, t3, t4, t5, t6, t7⟩ := id ts
  refine px_ofQ fun Q hQ => ?_
  generalize hp : flp (S (s + 1)) (S (s + 2)) (S (s + 3)) (S (s + 4)) (S f 7) (S f 8) (S s 3) (S s 4) (S s 5) mi tr we = p at hQ
  have hpQ : flQ p := by
    rw [← hp]
    exact flp_Q hs h7 ht hwe
  have hsr := hs.1
  have loop : ∀ (k : Nat) (σ : Nat → Int) (l5 l6 l7 : Value), flB σ → (σ 6 = s ∧ σ 7 = S f 7 ∧ σ 8 = S f 8) → mo - σ 4 ≤ k → Q (.inl none) (zh T (upS S f (flG p mo k σ)) c) →
      px_Ev 2 13 36 [.ref f, .int (zI mi), .int (zI tr), .int (zI we), .int (zI mo), l5, l6, l7] [] (zh T (upS S f σ) c) Q := by
    intro k
    induction k with
    | zero =>
      intro σ l5 l6 l7 hb hk hm hq
      obtain ⟨b4, b0, b1, b2, b3, b5⟩ := id hb
      simp (disch := first | with_reducible assumption | omega | decide | (simp only [ps_low, List.map_cons, List.map_nil, Value.category, List.sum_cons, List.sum_nil]; decide) | with_unfolding_all rfl) only [el_X1_fly_36, el_X1_fly_37, el_X1_fly_40, el_X1_fly_42, el_X1_fly_204, gf_1_4, px_ifp, px_ifn, zh_1, zc_1, zc_2, zc_3, zc_4, zc_5, zc_6, zc_7, zc_8, zc_9, zc_10, zc_11, zc_12, zc_20, zc_21, zc_22, zp_1, zp_2, zp_3, zp_4, zp_5, zp_6, zp_7, zp_8, zp_9, zp_10, zp_11, zp_12, zp_20, zp_21, zp_22, upS_eq, upS_ne, upS_up, upS_srt, upz_eq, upz_ne, upz_up, upz_srt, px_al_aI, px_as_aI, px_as_aZ, px_as_aC, px_ln_aI, Option.toList, List.cons_append, List.nil_append, Int.reduceAdd, Int.reduceSub, Int.reduceMul, ↓reduceIte, Nat.reduceEqDiff, eq_self, Int.reduceEq, Int.reduceLT, Int.reduceLE, Int.reduceNe, Int.reduceNeg, Int.reduceToNat, ne_eq, not_true_eq_false, not_false_eq_true, tf, t0, t1, t2, t3, t4, t5, t6, t7]
      exact hq
    | succ k ih =>
      intro σ l5 l6 l7 hb hk hm hq
      obtain ⟨b4, b0, b1, b2, b3, b5⟩ := id hb
      obtain ⟨k6, k7, k8⟩ := id hk
      unfold flG at hq
      by_cases hc : σ 4 < mo ∧ 0 < σ 2
      · rw [if_pos hc] at hq
        have e6 : (σ 6).toNat = s := by omega
        have hs' : scOk (upS S f σ) s := hs.out hd
        have hw := hpQ ((mi + σ 4) % 10) (by omega) (by omega)
        have ew : ∀ w : Int, p.1 w = mx0 (S (s + 1) (σ 7).toNat - ab tr + S (s + 3) w.toNat) ∧ p.2.1 w = mx0 (S (s + 2) (σ 7).toNat - tr - S (s + 4) w.toNat + we) := by
          intro w
          rw [← hp, k7]
          exact ⟨rfl, rfl⟩
        have ep : p.2.2 0 = σ 8 ∧ p.2.2 1 = S s 3 ∧ p.2.2 2 = S s 4 ∧ p.2.2 3 = S s 5 ∧ p.2.2 4 = mi := by
          rw [← hp, k8]
          exact ⟨rfl, rfl, rfl, rfl, rfl⟩
        obtain ⟨p0, p1, p2, p3, p4⟩ := ep
        have hP := c_paceIn (T := T) (S := upS S f σ) (c := c) (f := f) (s := s) (w := (mi + σ 4) % 10) (tr := tr) tf ts (by rw [upS_eq]; exact k6) (by rw [upS_eq]; omega) hs' (by omega) ht
        rw [upS_eq, upS_ne (by omega), upS_ne (by omega), ← (ew _).1] at hP
        simp (disch := first | with_reducible assumption | omega | decide | (simp only [ps_low, List.map_cons, List.map_nil, Value.category, List.sum_cons, List.sum_nil]; decide) | with_unfolding_all rfl) only [el_X1_fly_36, el_X1_fly_37, el_X1_fly_40, el_X1_fly_42, el_X1_fly_45, el_X1_fly_46, el_X1_fly_49, el_X1_fly_52, el_X1_fly_53, el_X1_fly_54, el_X1_fly_57, el_X1_fly_58, gf_1_2, gf_1_4, px_ifp, px_ifn, zh_1, zc_1, zc_2, zc_3, zc_4, zc_5, zc_6, zc_7, zc_8, zc_9, zc_10, zc_11, zc_12, zc_20, zc_21, zc_22, zp_1, zp_2, zp_3, zp_4, zp_5, zp_6, zp_7, zp_8, zp_9, zp_10, zp_11, zp_12, zp_20, zp_21, zp_22, upS_eq, upS_ne, upS_up, upS_srt, upz_eq, upz_ne, upz_up, upz_srt, px_al_aI, px_as_aI, px_as_aZ, px_as_aC, px_ln_aI, Option.toList, List.cons_append, List.nil_append, Int.reduceAdd, Int.reduceSub, Int.reduceMul, ↓reduceIte, Nat.reduceEqDiff, eq_self, Int.reduceEq, Int.reduceLT, Int.reduceLE, Int.reduceNe, Int.reduceNeg, Int.reduceToNat, ne_eq, not_true_eq_false, not_false_eq_true, tf, t0, t1, t2, t3, t4, t5, t6, t7]
        rw [el_X1_fly_60 (c_floorMod (by omega)) (by decide) rfl]
        simp (disch := first | with_reducible assumption | omega | decide | (simp only [ps_low, List.map_cons, List.map_nil, Value.category, List.sum_cons, List.sum_nil]; decide) | with_unfolding_all rfl) only [el_X1_fly_63, el_X1_fly_65, el_X1_fly_66, el_X1_fly_68, px_ifp, px_ifn, zh_1, zc_1, zc_2, zc_3, zc_4, zc_5, zc_6, zc_7, zc_8, zc_9, zc_10, zc_11, zc_12, zc_20, zc_21, zc_22, zp_1, zp_2, zp_3, zp_4, zp_5, zp_6, zp_7, zp_8, zp_9, zp_10, zp_11, zp_12, zp_20, zp_21, zp_22, upS_eq, upS_ne, upS_up, upS_srt, upz_eq, upz_ne, upz_up, upz_srt, px_al_aI, px_as_aI, px_as_aZ, px_as_aC, px_ln_aI, Option.toList, List.cons_append, List.nil_append, Int.reduceAdd, Int.reduceSub, Int.reduceMul, ↓reduceIte, Nat.reduceEqDiff, eq_self, Int.reduceEq, Int.reduceLT, Int.reduceLE, Int.reduceNe, Int.reduceNeg, Int.reduceToNat, ne_eq, not_true_eq_false, not_false_eq_true, tf, t0, t1, t2, t3, t4, t5, t6, t7]
        rw [el_X1_fly_69 hP (by decide) (zo_2 tf) rfl]
        generalize hpw : p.1 ((mi + σ 4) % 10) = pw at *
        have key : ∀ v : Int, (v = 0 ∨ v = 1) → (v = 1 ↔ (σ 3 = 0 ∧ σ 1 = 0 ∧ σ 0 < p.2.2 1 ∧ p.2.2 1 ≤ σ 0 + pw)) →
            px_Ev 2 13 124 [.ref f, .int (zI mi), .int (zI tr), .int (zI we), .int (zI mo), .int (zI ((mi + σ 4) % 10)), .int (zI pw), l7] [.int (zI v)] (zh T (upS S f σ) c) Q := by
          intro v hv hvv
          have hM := c_move (T := T) (S := upS S f σ) (c := c) (f := f) (p := pw) tf (by rw [upS_eq]; exact b3)
          rw [upS_eq] at hM
          rw [upS_up] at hM
          generalize hm1 : (if σ 3 = 0 then upz σ 0 (σ 0 + pw) else if σ 3 = 1 then upz σ 1 (σ 1 + pw) else if σ 3 = 2 then upz σ 0 (σ 0 - pw) else upz σ 1 (σ 1 - pw)) = μ at hM
          have hμ : ∀ j, 2 ≤ j → μ j = σ j := by
            intro j hj
            rw [← hm1]
            unfold upz
            split
            · exact if_neg (by omega)
            · split
              · exact if_neg (by omega)
              · split
                · exact if_neg (by omega)
                · exact if_neg (by omega)
          have m2 := hμ 2 (by omega)
          have m3 := hμ 3 (by omega)
          have m4 := hμ 4 (by omega)
          have m5 := hμ 5 (by omega)
          have m6 := hμ 6 (by omega)
          have m7 := hμ 7 (by omega)
          have m8 := hμ 8 (by omega)
          have hK := c_sinkIn (T := T) (S := upS S f μ) (c := c) (f := f) (s := s) (w := (mi + σ 4) % 10) (tr := tr) (we := we) tf ts (by rw [upS_eq]; omega) (by rw [upS_eq]; omega) (hs.out hd) (by omega) ht hwe
          rw [upS_eq, upS_ne (by omega), upS_ne (by omega), m7, ← (ew _).2] at hK
          generalize hsw : p.2.1 ((mi + σ 4) % 10) = sw at *
          simp (disch := first | with_reducible assumption | omega | decide | (simp only [ps_low, List.map_cons, List.map_nil, Value.category, List.sum_cons, List.sum_nil]; decide) | with_unfolding_all rfl) only [el_X1_fly_124, el_X1_fly_126, el_X1_fly_127, px_ifp, px_ifn, zh_1, zc_1, zc_2, zc_3, zc_4, zc_5, zc_6, zc_7, zc_8, zc_9, zc_10, zc_11, zc_12, zc_20, zc_21, zc_22, zp_1, zp_2, zp_3, zp_4, zp_5, zp_6, zp_7, zp_8, zp_9, zp_10, zp_11, zp_12, zp_20, zp_21, zp_22, upS_eq, upS_ne, upS_up, upS_srt, upz_eq, upz_ne, upz_up, upz_srt, px_al_aI, px_as_aI, px_as_aZ, px_as_aC, px_ln_aI, Option.toList, List.cons_append, List.nil_append, Int.reduceAdd, Int.reduceSub, Int.reduceMul, ↓reduceIte, Nat.reduceEqDiff, eq_self, Int.reduceEq, Int.reduceLT, Int.reduceLE, Int.reduceNe, Int.reduceNeg, Int.reduceToNat, ne_eq, not_true_eq_false, not_false_eq_true, tf, t0, t1, t2, t3, t4, t5, t6, t7]
          rw [el_X1_fly_129 hM (by decide) (zo_2 tf) rfl]
          simp (disch := first | with_reducible assumption | omega | decide | (simp only [ps_low, List.map_cons, List.map_nil, Value.category, List.sum_cons, List.sum_nil]; decide) | with_unfolding_all rfl) only [el_X1_fly_132, el_X1_fly_133, el_X1_fly_133i, el_X1_fly_134, el_X1_fly_137, el_X1_fly_138, el_X1_fly_140, el_X1_fly_141, gf_1_2, px_ifp, px_ifn, zh_1, zc_1, zc_2, zc_3, zc_4, zc_5, zc_6, zc_7, zc_8, zc_9, zc_10, zc_11, zc_12, zc_20, zc_21, zc_22, zp_1, zp_2, zp_3, zp_4, zp_5, zp_6, zp_7, zp_8, zp_9, zp_10, zp_11, zp_12, zp_20, zp_21, zp_22, upS_eq, upS_ne, upS_up, upS_srt, upz_eq, upz_ne, upz_up, upz_srt, px_al_aI, px_as_aI, px_as_aZ, px_as_aC, px_ln_aI, Option.toList, List.cons_append, List.nil_append, Int.reduceAdd, Int.reduceSub, Int.reduceMul, ↓reduceIte, Nat.reduceEqDiff, eq_self, Int.reduceEq, Int.reduceLT, Int.reduceLE, Int.reduceNe, Int.reduceNeg, Int.reduceToNat, ne_eq, not_true_eq_false, not_false_eq_true, tf, t0, t1, t2, t3, t4, t5, t6, t7]
          rw [el_X1_fly_142 hK (by decide) (zo_2 tf) rfl]
          simp (disch := first | with_reducible assumption | omega | decide | (simp only [ps_low, List.map_cons, List.map_nil, Value.category, List.sum_cons, List.sum_nil]; decide) | with_unfolding_all rfl) only [el_X1_fly_145, el_X1_fly_146, pf_1_2, px_ifp, px_ifn, zh_1, zc_1, zc_2, zc_3, zc_4, zc_5, zc_6, zc_7, zc_8, zc_9, zc_10, zc_11, zc_12, zc_20, zc_21, zc_22, zp_1, zp_2, zp_3, zp_4, zp_5, zp_6, zp_7, zp_8, zp_9, zp_10, zp_11, zp_12, zp_20, zp_21, zp_22, upS_eq, upS_ne, upS_up, upS_srt, upz_eq, upz_ne, upz_up, upz_srt, px_al_aI, px_as_aI, px_as_aZ, px_as_aC, px_ln_aI, Option.toList, List.cons_append, List.nil_append, Int.reduceAdd, Int.reduceSub, Int.reduceMul, ↓reduceIte, Nat.reduceEqDiff, eq_self, Int.reduceEq, Int.reduceLT, Int.reduceLE, Int.reduceNe, Int.reduceNeg, Int.reduceToNat, ne_eq, not_true_eq_false, not_false_eq_true, tf, t0, t1, t2, t3, t4, t5, t6, t7, m2]
          have key2 : ∀ t : Int, t = (if (σ 3 = 0 ∧ σ 1 = 0 ∧ σ 0 < p.2.2 1 ∧ p.2.2 1 ≤ σ 0 + pw) ∧ p.2.2 2 ≤ σ 2 - sw ∧ σ 2 - sw ≤ p.2.2 3 then 1 else σ 5) →
              px_Ev 2 13 187 [.ref f, .int (zI mi), .int (zI tr), .int (zI we), .int (zI mo), .int (zI ((mi + σ 4) % 10)), .int (zI pw), .int (zI v)] [] (zh T (upS S f (upz (upz μ 2 (σ 2 - sw)) 5 t)) c) Q := by
            intro t ht
            have hB := c_turnBehind (T := T) (S := upS S f (upz (upz (upz μ 2 (σ 2 - sw)) 4 (σ 4 + 1)) 5 t)) (c := c) (f := f) tf (by rw [upS_eq]; simp only [upz, ↓reduceIte, Nat.reduceEqDiff, eq_self, Int.reduceEq, Int.reduceLT, Int.reduceLE, Int.reduceNe, Int.reduceNeg, Int.reduceToNat, ne_eq, not_true_eq_false, not_false_eq_true]; omega) (by rw [upS_eq]; simp only [upz, ↓reduceIte, Nat.reduceEqDiff, eq_self, Int.reduceEq, Int.reduceLT, Int.reduceLE, Int.reduceNe, Int.reduceNeg, Int.reduceToNat, ne_eq, not_true_eq_false, not_false_eq_true]; omega) (by rw [upS_eq]; simp only [upz, ↓reduceIte, Nat.reduceEqDiff, eq_self, Int.reduceEq, Int.reduceLT, Int.reduceLE, Int.reduceNe, Int.reduceNeg, Int.reduceToNat, ne_eq, not_true_eq_false, not_false_eq_true]; omega)
            have efin : (if (upS S f (upz (upz (upz μ 2 (σ 2 - sw)) 4 (σ 4 + 1)) 5 t)) f 8 ≠ 0 ∧ ((upS S f (upz (upz (upz μ 2 (σ 2 - sw)) 4 (σ 4 + 1)) 5 t)) f 4).tmod ((upS S f (upz (upz (upz μ 2 (σ 2 - sw)) 4 (σ 4 + 1)) 5 t)) f 8) = 0 then upS (upS S f (upz (upz (upz μ 2 (σ 2 - sw)) 4 (σ 4 + 1)) 5 t)) f (upz ((upS S f (upz (upz (upz μ 2 (σ 2 - sw)) 4 (σ 4 + 1)) 5 t)) f) 3 (((upS S f (upz (upz (upz μ 2 (σ 2 - sw)) 4 (σ 4 + 1)) 5 t)) f 3 + (if 0 < (upS S f (upz (upz (upz μ 2 (σ 2 - sw)) 4 (σ 4 + 1)) 5 t)) f 8 then 1 else 3)) % 4)) else (upS S f (upz (upz (upz μ 2 (σ 2 - sw)) 4 (σ 4 + 1)) 5 t))) = upS S f (fl1 p σ) := by
              rw [upS_eq, upS_up, ← apply_ite (fun x => upS S f x)]
              congr 1
              have u8 : (upz (upz (upz μ 2 (σ 2 - sw)) 4 (σ 4 + 1)) 5 t) 8 = σ 8 := by simp only [upz, ↓reduceIte, Nat.reduceEqDiff, eq_self, Int.reduceEq, Int.reduceLT, Int.reduceLE, Int.reduceNe, Int.reduceNeg, Int.reduceToNat, ne_eq, not_true_eq_false, not_false_eq_true]; exact m8
              have u4 : (upz (upz (upz μ 2 (σ 2 - sw)) 4 (σ 4 + 1)) 5 t) 4 = σ 4 + 1 := by simp only [upz, ↓reduceIte, Nat.reduceEqDiff, eq_self, Int.reduceEq, Int.reduceLT, Int.reduceLE, Int.reduceNe, Int.reduceNeg, Int.reduceToNat, ne_eq, not_true_eq_false, not_false_eq_true]
              have u3 : (upz (upz (upz μ 2 (σ 2 - sw)) 4 (σ 4 + 1)) 5 t) 3 = σ 3 := by simp only [upz, ↓reduceIte, Nat.reduceEqDiff, eq_self, Int.reduceEq, Int.reduceLT, Int.reduceLE, Int.reduceNe, Int.reduceNeg, Int.reduceToNat, ne_eq, not_true_eq_false, not_false_eq_true]; exact m3
              rw [u8, u4, u3]
              have e3 : ∀ G : Nat → Int, (if σ 8 ≠ 0 ∧ (σ 4 + 1).tmod (σ 8) = 0 then upz G 3 ((σ 3 + (if 0 < σ 8 then 1 else 3)) % 4) else G) = upz G 3 (if σ 8 ≠ 0 ∧ (σ 4 + 1).tmod (σ 8) = 0 then (σ 3 + (if 0 < σ 8 then 1 else 3)) % 4 else G 3) := by
                intro G
                split
                · rfl
                · funext j
                  unfold upz
                  split
                  · rename_i e
                    rw [e]
                  · rfl
              rw [e3, u3]
              funext j
              unfold fl1 flD
              rw [p0, p4, hpw, hsw]
              by_cases j0 : j = 0
              · subst j0
                simp only [upz, ← hm1, ↓reduceIte, Nat.reduceEqDiff, eq_self, Int.reduceEq, Int.reduceLT, Int.reduceLE, Int.reduceNe, Int.reduceNeg, Int.reduceToNat, ne_eq, not_true_eq_false, not_false_eq_true]
                repeat' split
                all_goals first | rfl | omega
              by_cases j1 : j = 1
              · subst j1
                simp only [upz, ← hm1, ↓reduceIte, Nat.reduceEqDiff, eq_self, Int.reduceEq, Int.reduceLT, Int.reduceLE, Int.reduceNe, Int.reduceNeg, Int.reduceToNat, ne_eq, not_true_eq_false, not_false_eq_true]
                repeat' split
                all_goals first | rfl | omega
              by_cases j2 : j = 2
              · subst j2
                simp only [upz, ↓reduceIte, Nat.reduceEqDiff, eq_self, Int.reduceEq, Int.reduceLT, Int.reduceLE, Int.reduceNe, Int.reduceNeg, Int.reduceToNat, ne_eq, not_true_eq_false, not_false_eq_true]
              by_cases j3 : j = 3
              · subst j3
                simp only [upz, ↓reduceIte, Nat.reduceEqDiff, eq_self, Int.reduceEq, Int.reduceLT, Int.reduceLE, Int.reduceNe, Int.reduceNeg, Int.reduceToNat, ne_eq, not_true_eq_false, not_false_eq_true]
              by_cases j4 : j = 4
              · subst j4
                simp only [upz, ↓reduceIte, Nat.reduceEqDiff, eq_self, Int.reduceEq, Int.reduceLT, Int.reduceLE, Int.reduceNe, Int.reduceNeg, Int.reduceToNat, ne_eq, not_true_eq_false, not_false_eq_true]
              by_cases j5 : j = 5
              · subst j5
                simp only [upz, ↓reduceIte, Nat.reduceEqDiff, eq_self, Int.reduceEq, Int.reduceLT, Int.reduceLE, Int.reduceNe, Int.reduceNeg, Int.reduceToNat, ne_eq, not_true_eq_false, not_false_eq_true]
                exact ht
              · simp only [upz, j0, j1, j2, j3, j4, j5, ↓reduceIte, Nat.reduceEqDiff, eq_self, Int.reduceEq, Int.reduceLT, Int.reduceLE, Int.reduceNe, Int.reduceNeg, Int.reduceToNat, ne_eq, not_true_eq_false, not_false_eq_true]
                exact hμ j (by omega)
            rw [efin] at hB
            simp (disch := first | with_reducible assumption | omega | decide | (simp only [ps_low, List.map_cons, List.map_nil, Value.category, List.sum_cons, List.sum_nil]; decide) | with_unfolding_all rfl) only [el_X1_fly_187, el_X1_fly_188, el_X1_fly_188i, el_X1_fly_189, el_X1_fly_192, el_X1_fly_193, el_X1_fly_194, el_X1_fly_197, gf_1_4, pf_1_4, px_ifp, px_ifn, zh_1, zc_1, zc_2, zc_3, zc_4, zc_5, zc_6, zc_7, zc_8, zc_9, zc_10, zc_11, zc_12, zc_20, zc_21, zc_22, zp_1, zp_2, zp_3, zp_4, zp_5, zp_6, zp_7, zp_8, zp_9, zp_10, zp_11, zp_12, zp_20, zp_21, zp_22, upS_eq, upS_ne, upS_up, upS_srt, upz_eq, upz_ne, upz_up, upz_srt, px_al_aI, px_as_aI, px_as_aZ, px_as_aC, px_ln_aI, Option.toList, List.cons_append, List.nil_append, Int.reduceAdd, Int.reduceSub, Int.reduceMul, ↓reduceIte, Nat.reduceEqDiff, eq_self, Int.reduceEq, Int.reduceLT, Int.reduceLE, Int.reduceNe, Int.reduceNeg, Int.reduceToNat, ne_eq, not_true_eq_false, not_false_eq_true, tf, t0, t1, t2, t3, t4, t5, t6, t7, m4]
            rw [el_X1_fly_198 hB (by decide) (zo_2 tf) rfl]
            simp (disch := first | with_reducible assumption | omega | decide | (simp only [ps_low, List.map_cons, List.map_nil, Value.category, List.sum_cons, List.sum_nil]; decide) | with_unfolding_all rfl) only [el_X1_fly_201, px_ifp, px_ifn, zh_1, zc_1, zc_2, zc_3, zc_4, zc_5, zc_6, zc_7, zc_8, zc_9, zc_10, zc_11, zc_12, zc_20, zc_21, zc_22, zp_1, zp_2, zp_3, zp_4, zp_5, zp_6, zp_7, zp_8, zp_9, zp_10, zp_11, zp_12, zp_20, zp_21, zp_22, upS_eq, upS_ne, upS_up, upS_srt, upz_eq, upz_ne, upz_up, upz_srt, px_al_aI, px_as_aI, px_as_aZ, px_as_aC, px_ln_aI, Option.toList, List.cons_append, List.nil_append, Int.reduceAdd, Int.reduceSub, Int.reduceMul, ↓reduceIte, Nat.reduceEqDiff, eq_self, Int.reduceEq, Int.reduceLT, Int.reduceLE, Int.reduceNe, Int.reduceNeg, Int.reduceToNat, ne_eq, not_true_eq_false, not_false_eq_true, tf, t0, t1, t2, t3, t4, t5, t6, t7]
            refine ih (fl1 p σ) _ _ _ (fl1_B hpQ hb (by omega)) ⟨k6, k7, k8⟩ ?_ hq
            change mo - (σ 4 + 1) ≤ k
            omega
          have e5 : ∀ G : Nat → Int, G 5 = σ 5 → upz G 5 (σ 5) = G := by
            intro G hG
            funext j
            unfold upz
            split
            · rename_i e
              rw [e, hG]
            · rfl
          have key3 := key2 (σ 5)
          rw [e5 _ (by simp only [upz, ↓reduceIte, Nat.reduceEqDiff, eq_self, Int.reduceEq, Int.reduceLT, Int.reduceLE, Int.reduceNe, Int.reduceNeg, Int.reduceToNat, ne_eq, not_true_eq_false, not_false_eq_true]; exact m5)] at key3
          repeat' (first | simp (disch := first | with_reducible assumption | omega | decide | (simp only [ps_low, List.map_cons, List.map_nil, Value.category, List.sum_cons, List.sum_nil]; decide) | with_unfolding_all rfl) only [el_X1_fly_149, el_X1_fly_151, el_X1_fly_154, el_X1_fly_155, el_X1_fly_158, el_X1_fly_159, el_X1_fly_162, el_X1_fly_165, el_X1_fly_168, el_X1_fly_169, el_X1_fly_172, el_X1_fly_173, el_X1_fly_176, el_X1_fly_179, el_X1_fly_182, el_X1_fly_183, el_X1_fly_184, gf_1_2, gf_1_6, gf_4_4, gf_4_5, pf_1_5, px_ifp, px_ifn, zh_1, zc_1, zc_2, zc_3, zc_4, zc_5, zc_6, zc_7, zc_8, zc_9, zc_10, zc_11, zc_12, zc_20, zc_21, zc_22, zp_1, zp_2, zp_3, zp_4, zp_5, zp_6, zp_7, zp_8, zp_9, zp_10, zp_11, zp_12, zp_20, zp_21, zp_22, upS_eq, upS_ne, upS_up, upS_srt, upz_eq, upz_ne, upz_up, upz_srt, px_al_aI, px_as_aI, px_as_aZ, px_as_aC, px_ln_aI, Option.toList, List.cons_append, List.nil_append, Int.reduceAdd, Int.reduceSub, Int.reduceMul, ↓reduceIte, Nat.reduceEqDiff, eq_self, Int.reduceEq, Int.reduceLT, Int.reduceLE, Int.reduceNe, Int.reduceNeg, Int.reduceToNat, ne_eq, not_true_eq_false, not_false_eq_true, tf, t0, t1, t2, t3, t4, t5, t6, t7, m6, e6] | with_reducible refine px_ite (fun _ => ?_) (fun _ => ?_))
          all_goals first
            | omega
            | exact key2 1 (by rw [if_pos (by omega)])
            | exact key3 (by rw [if_neg (by omega)])
            | skip
        repeat' (first | simp (disch := first | with_reducible assumption | omega | decide | (simp only [ps_low, List.map_cons, List.map_nil, Value.category, List.sum_cons, List.sum_nil]; decide) | with_unfolding_all rfl) only [el_X1_fly_72, el_X1_fly_74, el_X1_fly_75, el_X1_fly_78, el_X1_fly_81, el_X1_fly_82, el_X1_fly_85, el_X1_fly_88, el_X1_fly_89, el_X1_fly_92, el_X1_fly_93, el_X1_fly_96, el_X1_fly_99, el_X1_fly_102, el_X1_fly_103, el_X1_fly_106, el_X1_fly_108, el_X1_fly_109, el_X1_fly_110, el_X1_fly_113, el_X1_fly_116, el_X1_fly_119, el_X1_fly_120, el_X1_fly_123, gf_1_0, gf_1_1, gf_1_3, gf_1_6, gf_4_3, px_ifp, px_ifn, zh_1, zc_1, zc_2, zc_3, zc_4, zc_5, zc_6, zc_7, zc_8, zc_9, zc_10, zc_11, zc_12, zc_20, zc_21, zc_22, zp_1, zp_2, zp_3, zp_4, zp_5, zp_6, zp_7, zp_8, zp_9, zp_10, zp_11, zp_12, zp_20, zp_21, zp_22, upS_eq, upS_ne, upS_up, upS_srt, upz_eq, upz_ne, upz_up, upz_srt, px_al_aI, px_as_aI, px_as_aZ, px_as_aC, px_ln_aI, Option.toList, List.cons_append, List.nil_append, Int.reduceAdd, Int.reduceSub, Int.reduceMul, ↓reduceIte, Nat.reduceEqDiff, eq_self, Int.reduceEq, Int.reduceLT, Int.reduceLE, Int.reduceNe, Int.reduceNeg, Int.reduceToNat, ne_eq, not_true_eq_false, not_false_eq_true, tf, t0, t1, t2, t3, t4, t5, t6, t7, e6] | with_reducible refine px_ite (fun _ => ?_) (fun _ => ?_))
        all_goals first
          | omega
          | exact key 1 (.inr rfl) ⟨fun _ => by omega, fun _ => rfl⟩
          | exact key 0 (.inl rfl) ⟨fun g => by omega, fun g => by omega⟩
          | skip
      · rw [if_neg hc] at hq
        repeat' (first | simp (disch := first | with_reducible assumption | omega | decide | (simp only [ps_low, List.map_cons, List.map_nil, Value.category, List.sum_cons, List.sum_nil]; decide) | with_unfolding_all rfl) only [el_X1_fly_36, el_X1_fly_37, el_X1_fly_40, el_X1_fly_42, el_X1_fly_45, el_X1_fly_46, el_X1_fly_49, el_X1_fly_204, gf_1_2, gf_1_4, px_ifp, px_ifn, zh_1, zc_1, zc_2, zc_3, zc_4, zc_5, zc_6, zc_7, zc_8, zc_9, zc_10, zc_11, zc_12, zc_20, zc_21, zc_22, zp_1, zp_2, zp_3, zp_4, zp_5, zp_6, zp_7, zp_8, zp_9, zp_10, zp_11, zp_12, zp_20, zp_21, zp_22, upS_eq, upS_ne, upS_up, upS_srt, upz_eq, upz_ne, upz_up, upz_srt, px_al_aI, px_as_aI, px_as_aZ, px_as_aC, px_ln_aI, Option.toList, List.cons_append, List.nil_append, Int.reduceAdd, Int.reduceSub, Int.reduceMul, ↓reduceIte, Nat.reduceEqDiff, eq_self, Int.reduceEq, Int.reduceLT, Int.reduceLE, Int.reduceNe, Int.reduceNeg, Int.reduceToNat, ne_eq, not_true_eq_false, not_false_eq_true, tf, t0, t1, t2, t3, t4, t5, t6, t7] | with_reducible refine px_ite (fun _ => ?_) (fun _ => ?_))
        all_goals exact hq
  have e6 : (S f 6).toNat = s := by omega
  simp (disch := first | with_reducible assumption | omega | decide | (simp only [ps_low, List.map_cons, List.map_nil, Value.category, List.sum_cons, List.sum_nil]; decide) | with_unfolding_all rfl) only [el_X1_fly_0, el_X1_fly_1, el_X1_fly_2, el_X1_fly_5, el_X1_fly_6, el_X1_fly_7, el_X1_fly_10, el_X1_fly_11, el_X1_fly_12, el_X1_fly_15, el_X1_fly_18, el_X1_fly_21, el_X1_fly_22, el_X1_fly_23, el_X1_fly_26, el_X1_fly_27, el_X1_fly_28, el_X1_fly_31, el_X1_fly_32, el_X1_fly_33, gf_1_6, gf_4_2, pf_1_0, pf_1_1, pf_1_2, pf_1_3, pf_1_4, pf_1_5, px_ifp, px_ifn, zh_1, zc_1, zc_2, zc_3, zc_4, zc_5, zc_6, zc_7, zc_8, zc_9, zc_10, zc_11, zc_12, zc_20, zc_21, zc_22, zp_1, zp_2, zp_3, zp_4, zp_5, zp_6, zp_7, zp_8, zp_9, zp_10, zp_11, zp_12, zp_20, zp_21, zp_22, upS_eq, upS_ne, upS_up, upS_srt, upz_eq, upz_ne, upz_up, upz_srt, px_al_aI, px_as_aI, px_as_aZ, px_as_aC, px_ln_aI, Option.toList, List.cons_append, List.nil_append, Int.reduceAdd, Int.reduceSub, Int.reduceMul, ↓reduceIte, Nat.reduceEqDiff, eq_self, Int.reduceEq, Int.reduceLT, Int.reduceLE, Int.reduceNe, Int.reduceNeg, Int.reduceToNat, ne_eq, not_true_eq_false, not_false_eq_true, tf, t0, t1, t2, t3, t4, t5, t6, t7, e6]
  have e : upz (upz (upz (upz (upz (upz (S f) 0 0) 1 0) 2 (S s 2)) 3 0) 4 0) 5 0 = fl0 (S f) (S s 2) := by
    funext j
    unfold upz fl0
    repeat' split
    all_goals first | rfl | omega
  rw [e]
  exact loop 200 _ _ _ _ ⟨by change (0 : Int) ≤ 0 ∧ (0 : Int) ≤ 200; decide, by change (-(25 * 0) : Int) ≤ 0 ∧ (0 : Int) ≤ 25 * 0; decide, by change (-(25 * 0) : Int) ≤ 0 ∧ (0 : Int) ≤ 25 * 0; decide, by change -(29 * 0) ≤ S s 2 ∧ S s 2 ≤ 200; omega, by change (0 : Int) ≤ 0 ∧ (0 : Int) ≤ 3; decide, .inl rfl⟩ ⟨h6, rfl, rfl⟩ (by change mo - 0 ≤ _; omega) hQ
/-- prepare: the turn by the wings -/
def trn (w : Int) : Int := if w = 0 then 0 else if 0 ≤ w then (if 1 < 8 / w then 8 / w else 1) else -(if 1 < 8 / -w then 8 / -w else 1)
theorem c_prepare {T : Nat → Nat × Nat} {S : Nat → Nat → Int} {c : pm_M × pm_C} {f s : Nat} {no wi : Int} (tf : T f = (2, 0)) (hn : 0 ≤ no ∧ no ≤ 9) (hw : -64 ≤ wi ∧ wi ≤ 64) :
    px_R 0 11 [.ref f, .ref s, .int (zI no), .int (zI wi), .retAddr 0, .retAddr 0] (zh T S c) (.inl none) (zh T (upS S f (upz (upz (upz (S f) 6 s) 7 no) 8 (trn wi))) c) := by
  refine px_ofQ fun Q hQ => ?_
  have hn1 : ¬ 9 < no := by omega
  have hn2 : (if 0 < no then no else 0) = no := by split <;> omega
  have hdv : ∀ z : Int, 1 ≤ z ∧ z ≤ 64 → zI 8 / zI z = zI (8 / z) ∧ ¬ zI z = 0 ∧ 0 ≤ 8 / z ∧ 8 / z ≤ 8 := fun z hz => ⟨zI_div (by omega), zI_ne0 (by omega), Int.ediv_nonneg (by omega) (by omega), Int.ediv_le_self _ (by omega)⟩
  rcases (show wi = 0 ∨ 0 < wi ∨ wi < 0 by omega) with h0 | h0 | h0
  · subst h0
    simp (disch := first | with_reducible assumption | omega | decide | (simp only [ps_low, List.map_cons, List.map_nil, Value.category, List.sum_cons, List.sum_nil]; decide) | with_unfolding_all rfl) only [el_X1_prepare_0, el_X1_prepare_1, el_X1_prepare_2, el_X1_prepare_5, el_X1_prepare_6, el_X1_prepare_7, el_X1_prepare_8, el_X1_prepare_10, el_X1_prepare_13, el_X1_prepare_16, el_X1_prepare_19, el_X1_prepare_20, el_X1_prepare_23, el_X1_prepare_25, el_X1_prepare_27, el_X1_prepare_28, el_X1_prepare_31, el_X1_prepare_32, el_X1_prepare_35, el_X1_prepare_36, el_X1_prepare_38, el_X1_prepare_40, el_X1_prepare_41, el_X1_prepare_44, el_X1_prepare_46, el_X1_prepare_47, el_X1_prepare_48, el_X1_prepare_51, el_X1_prepare_53, el_X1_prepare_54, el_X1_prepare_57, el_X1_prepare_59, el_X1_prepare_62, pf_1_6, pf_1_7, pf_1_8, px_ifp, px_ifn, zh_1, zc_1, zc_2, zc_3, zc_4, zc_5, zc_6, zc_7, zc_8, zc_9, zc_10, zc_11, zc_12, zc_20, zc_21, zc_22, zp_1, zp_2, zp_3, zp_4, zp_5, zp_6, zp_7, zp_8, zp_9, zp_10, zp_11, zp_12, zp_20, zp_21, zp_22, upS_eq, upS_ne, upS_up, upS_srt, upz_eq, upz_ne, upz_up, upz_srt, px_al_aI, px_as_aI, px_as_aZ, px_as_aC, px_ln_aI, Option.toList, List.cons_append, List.nil_append, Int.reduceAdd, Int.reduceSub, Int.reduceMul, ↓reduceIte, Nat.reduceEqDiff, eq_self, Int.reduceEq, Int.reduceLT, Int.reduceLE, Int.reduceNe, Int.reduceNeg, Int.reduceToNat, ne_eq, not_true_eq_false, not_false_eq_true, tf, hn1, hn2, Int.neg_zero]
    exact hQ
  · obtain ⟨d1, d2, d3, d4⟩ := hdv wi (by omega)
    have h1 : 0 ≤ wi := by omega
    have h2 : ¬ wi < 1 := by omega
    have h3 : ¬ wi = 0 := by omega
    have ht : trn wi = if 1 < 8 / wi then 8 / wi else 1 := by
      unfold trn
      rw [if_neg h3, if_pos h1]
    rw [ht] at hQ
    have ht2 : 1 ≤ (if 1 < 8 / wi then 8 / wi else 1) ∧ (if 1 < 8 / wi then 8 / wi else 1) ≤ 8 := by split <;> omega
    simp (disch := first | with_reducible assumption | omega | decide | (simp only [ps_low, List.map_cons, List.map_nil, Value.category, List.sum_cons, List.sum_nil]; decide) | with_unfolding_all rfl) only [el_X1_prepare_0, el_X1_prepare_1, el_X1_prepare_2, el_X1_prepare_5, el_X1_prepare_6, el_X1_prepare_7, el_X1_prepare_8, el_X1_prepare_10, el_X1_prepare_13, el_X1_prepare_16, el_X1_prepare_19, el_X1_prepare_20, el_X1_prepare_23, el_X1_prepare_25, el_X1_prepare_27, el_X1_prepare_28, el_X1_prepare_31, el_X1_prepare_32, el_X1_prepare_35, el_X1_prepare_36, el_X1_prepare_38, el_X1_prepare_40, el_X1_prepare_41, el_X1_prepare_44, el_X1_prepare_46, el_X1_prepare_47, el_X1_prepare_48, el_X1_prepare_51, el_X1_prepare_53, el_X1_prepare_54, el_X1_prepare_57, el_X1_prepare_59, el_X1_prepare_62, pf_1_6, pf_1_7, pf_1_8, px_ifp, px_ifn, zh_1, zc_1, zc_2, zc_3, zc_4, zc_5, zc_6, zc_7, zc_8, zc_9, zc_10, zc_11, zc_12, zc_20, zc_21, zc_22, zp_1, zp_2, zp_3, zp_4, zp_5, zp_6, zp_7, zp_8, zp_9, zp_10, zp_11, zp_12, zp_20, zp_21, zp_22, upS_eq, upS_ne, upS_up, upS_srt, upz_eq, upz_ne, upz_up, upz_srt, px_al_aI, px_as_aI, px_as_aZ, px_as_aC, px_ln_aI, Option.toList, List.cons_append, List.nil_append, Int.reduceAdd, Int.reduceSub, Int.reduceMul, ↓reduceIte, Nat.reduceEqDiff, eq_self, Int.reduceEq, Int.reduceLT, Int.reduceLE, Int.reduceNe, Int.reduceNeg, Int.reduceToNat, ne_eq, not_true_eq_false, not_false_eq_true, tf, hn1, hn2, h1, h2, d1]
    exact hQ
  · obtain ⟨d1, d2, d3, d4⟩ := hdv (-wi) (by omega)
    have h1 : ¬ 0 ≤ wi := by omega
    have h2 : ¬ -wi < 1 := by omega
    have h3 : ¬ wi = 0 := by omega
    have ht : trn wi = -(if 1 < 8 / -wi then 8 / -wi else 1) := by
      unfold trn
      rw [if_neg h3, if_neg h1]
    rw [ht] at hQ
    have ht2 : 1 ≤ (if 1 < 8 / -wi then 8 / -wi else 1) ∧ (if 1 < 8 / -wi then 8 / -wi else 1) ≤ 8 := by split <;> omega
    simp (disch := first | with_reducible assumption | omega | decide | (simp only [ps_low, List.map_cons, List.map_nil, Value.category, List.sum_cons, List.sum_nil]; decide) | with_unfolding_all rfl) only [el_X1_prepare_0, el_X1_prepare_1, el_X1_prepare_2, el_X1_prepare_5, el_X1_prepare_6, el_X1_prepare_7, el_X1_prepare_8, el_X1_prepare_10, el_X1_prepare_13, el_X1_prepare_16, el_X1_prepare_19, el_X1_prepare_20, el_X1_prepare_23, el_X1_prepare_25, el_X1_prepare_27, el_X1_prepare_28, el_X1_prepare_31, el_X1_prepare_32, el_X1_prepare_35, el_X1_prepare_36, el_X1_prepare_38, el_X1_prepare_40, el_X1_prepare_41, el_X1_prepare_44, el_X1_prepare_46, el_X1_prepare_47, el_X1_prepare_48, el_X1_prepare_51, el_X1_prepare_53, el_X1_prepare_54, el_X1_prepare_57, el_X1_prepare_59, el_X1_prepare_62, pf_1_6, pf_1_7, pf_1_8, px_ifp, px_ifn, zh_1, zc_1, zc_2, zc_3, zc_4, zc_5, zc_6, zc_7, zc_8, zc_9, zc_10, zc_11, zc_12, zc_20, zc_21, zc_22, zp_1, zp_2, zp_3, zp_4, zp_5, zp_6, zp_7, zp_8, zp_9, zp_10, zp_11, zp_12, zp_20, zp_21, zp_22, upS_eq, upS_ne, upS_up, upS_srt, upz_eq, upz_ne, upz_up, upz_srt, px_al_aI, px_as_aI, px_as_aZ, px_as_aC, px_ln_aI, Option.toList, List.cons_append, List.nil_append, Int.reduceAdd, Int.reduceSub, Int.reduceMul, ↓reduceIte, Nat.reduceEqDiff, eq_self, Int.reduceEq, Int.reduceLT, Int.reduceLE, Int.reduceNe, Int.reduceNeg, Int.reduceToNat, ne_eq, not_true_eq_false, not_false_eq_true, tf, hn1, hn2, h1, h2, d1]
    exact hQ
theorem trn_range {w : Int} (h : -64 ≤ w ∧ w ≤ 64) : -8 ≤ trn w ∧ trn w ≤ 8 := by
  have hd : ∀ z : Int, 1 ≤ z ∧ z ≤ 64 → 0 ≤ 8 / z ∧ 8 / z ≤ 8 := fun z hz => ⟨Int.ediv_nonneg (by omega) (by omega), Int.ediv_le_self _ (by omega)⟩
  unfold trn
  split
  · omega
  · split
    · have := hd w (by omega)
      split <;> omega
    · have := hd (-w) (by omega)
      split <;> omega
theorem c_kindNumber {T : Nat → Nat × Nat} {S : Nat → Nat → Int} {c : pm_M × pm_C} {f : Nat} (tf : T f = (2, 0)) :
    px_R 0 12 [.ref f] (zh T S c) (.inl (some (.int (zI (S f 7 * 17 + S f 8 + 8))))) (zh T S c) := by
  refine px_ofQ fun Q hQ => ?_
  simp (disch := first | with_reducible assumption | omega | decide | (simp only [ps_low, List.map_cons, List.map_nil, Value.category, List.sum_cons, List.sum_nil]; decide) | with_unfolding_all rfl) only [el_X1_kindNumber_0, el_X1_kindNumber_1, el_X1_kindNumber_4, el_X1_kindNumber_6, el_X1_kindNumber_7, el_X1_kindNumber_8, el_X1_kindNumber_11, el_X1_kindNumber_12, el_X1_kindNumber_14, el_X1_kindNumber_15, gf_1_7, gf_1_8, px_ifp, px_ifn, zh_1, zc_1, zc_2, zc_3, zc_4, zc_5, zc_6, zc_7, zc_8, zc_9, zc_10, zc_11, zc_12, zc_20, zc_21, zc_22, zp_1, zp_2, zp_3, zp_4, zp_5, zp_6, zp_7, zp_8, zp_9, zp_10, zp_11, zp_12, zp_20, zp_21, zp_22, upS_eq, upS_ne, upS_up, upS_srt, upz_eq, upz_ne, upz_up, upz_srt, px_al_aI, px_as_aI, px_as_aZ, px_as_aC, px_ln_aI, Option.toList, List.cons_append, List.nil_append, Int.reduceAdd, Int.reduceSub, Int.reduceMul, ↓reduceIte, Nat.reduceEqDiff, eq_self, Int.reduceEq, Int.reduceLT, Int.reduceLE, Int.reduceNe, Int.reduceNeg, Int.reduceToNat, ne_eq, not_true_eq_false, not_false_eq_true, tf]
  exact hQ
