/-! THE FACE, 10: row -/
section FACE
variable {T : Nat → Nat × Nat} {S : Nat → Nat → Int} {c : pm_M × pm_C} {x sA sB : Nat} {k : Int} {F : fS}
theorem k_tape {n sz : Int} (l10 : ly10 T x) (e : S (x + 1) 0 = sz) (hs : 0 ≤ sz ∧ sz ≤ 500) (hn : rg n) : (0 ≤ n ∧ n ≤ sz → px_R 0 124 [.ref x, .int (zI n)] (zh T S c) (.inl none) (zh T S c)) ∧ (¬ (0 ≤ n ∧ n ≤ sz) → px_R 0 124 [.ref x, .int (zI n)] (zh T S c) (.inr iae) (pm_thrown (zh T S c))) := by
  obtain ⟨t0, tL1, tL3, tL6, tL9, tL17, tL25, tL34, tL40, tL46, tL55, tL132, tL145⟩ := id l10
  obtain ⟨u0, u1⟩ := id tL1
  unfold rg at hn
  refine ⟨fun g => px_ofQ fun Q hQ => ?_, fun g => px_ofQ fun Q hQ => ?_⟩
  · (simp (disch := first | with_reducible assumption | omega | decide | (simp only [ps_low, List.map_cons, List.map_nil, Value.category, List.sum_cons, List.sum_nil]; decide)) only [el_X10_checkTape_0, el_X10_checkTape_1, el_X10_checkTape_4, el_X10_checkTape_5, el_X10_checkTape_6, el_X10_checkTape_9, el_X10_checkTape_12, el_X10_checkTape_15, el_X10_checkTape_23, gf_10_0, gf_9_0, px_ifp, px_ifn, zh_1, zc_1, zc_2, zc_3, zc_4, zc_5, zc_6, zc_7, zc_8, zc_9, zc_10, zc_11, zc_12, zc_20, zc_21, zc_22, zp_1, zp_2, zp_3, zp_4, zp_5, zp_6, zp_7, zp_8, zp_9, zp_10, zp_11, zp_12, zp_20, zp_21, zp_22, upS_eq, upS_ne, upS_up, upz_eq, upz_ne, upz_up, px_al_aI, px_as_aI, px_as_aZ, px_as_aC, px_ln_aI, Option.toList, List.cons_append, List.nil_append, Int.reduceAdd, Int.reduceSub, Int.reduceMul, ↓reduceIte, Nat.reduceEqDiff, eq_self, Int.reduceEq, Int.reduceLT, Int.reduceLE, Int.reduceNe, Int.reduceNeg, Int.reduceToNat, ne_eq, not_true_eq_false, not_false_eq_true, t0, u0, u1, e]; repeat (first | simp (disch := first | omega | decide) only [upz_srt, upy_upz, upz_up, upS_srt, upT_upS, upS_up] | simp (disch := first | with_reducible assumption | omega | decide | (simp only [ps_low, List.map_cons, List.map_nil, Value.category, List.sum_cons, List.sum_nil]; decide)) only [el_X10_checkTape_0, el_X10_checkTape_1, el_X10_checkTape_4, el_X10_checkTape_5, el_X10_checkTape_6, el_X10_checkTape_9, el_X10_checkTape_12, el_X10_checkTape_15, el_X10_checkTape_23, gf_10_0, gf_9_0, px_ifp, px_ifn, zh_1, zc_1, zc_2, zc_3, zc_4, zc_5, zc_6, zc_7, zc_8, zc_9, zc_10, zc_11, zc_12, zc_20, zc_21, zc_22, zp_1, zp_2, zp_3, zp_4, zp_5, zp_6, zp_7, zp_8, zp_9, zp_10, zp_11, zp_12, zp_20, zp_21, zp_22, upS_eq, upS_ne, upS_up, upz_eq, upz_ne, upz_up, px_al_aI, px_as_aI, px_as_aZ, px_as_aC, px_ln_aI, Option.toList, List.cons_append, List.nil_append, Int.reduceAdd, Int.reduceSub, Int.reduceMul, ↓reduceIte, Nat.reduceEqDiff, eq_self, Int.reduceEq, Int.reduceLT, Int.reduceLE, Int.reduceNe, Int.reduceNeg, Int.reduceToNat, ne_eq, not_true_eq_false, not_false_eq_true, t0, u0, u1, e]))
    exact hQ
  · repeat' (first | (simp (disch := first | with_reducible assumption | omega | decide | (simp only [ps_low, List.map_cons, List.map_nil, Value.category, List.sum_cons, List.sum_nil]; decide)) only [el_X10_checkTape_0, el_X10_checkTape_1, el_X10_checkTape_4, el_X10_checkTape_5, el_X10_checkTape_6, el_X10_checkTape_9, el_X10_checkTape_12, el_X10_checkTape_15, el_X10_checkTape_23, gf_10_0, gf_9_0, px_ifp, px_ifn, zh_1, zc_1, zc_2, zc_3, zc_4, zc_5, zc_6, zc_7, zc_8, zc_9, zc_10, zc_11, zc_12, zc_20, zc_21, zc_22, zp_1, zp_2, zp_3, zp_4, zp_5, zp_6, zp_7, zp_8, zp_9, zp_10, zp_11, zp_12, zp_20, zp_21, zp_22, upS_eq, upS_ne, upS_up, upz_eq, upz_ne, upz_up, px_al_aI, px_as_aI, px_as_aZ, px_as_aC, px_ln_aI, Option.toList, List.cons_append, List.nil_append, Int.reduceAdd, Int.reduceSub, Int.reduceMul, ↓reduceIte, Nat.reduceEqDiff, eq_self, Int.reduceEq, Int.reduceLT, Int.reduceLE, Int.reduceNe, Int.reduceNeg, Int.reduceToNat, ne_eq, not_true_eq_false, not_false_eq_true, t0, u0, u1, e]; repeat (first | simp (disch := first | omega | decide) only [upz_srt, upy_upz, upz_up, upS_srt, upT_upS, upS_up] | simp (disch := first | with_reducible assumption | omega | decide | (simp only [ps_low, List.map_cons, List.map_nil, Value.category, List.sum_cons, List.sum_nil]; decide)) only [el_X10_checkTape_0, el_X10_checkTape_1, el_X10_checkTape_4, el_X10_checkTape_5, el_X10_checkTape_6, el_X10_checkTape_9, el_X10_checkTape_12, el_X10_checkTape_15, el_X10_checkTape_23, gf_10_0, gf_9_0, px_ifp, px_ifn, zh_1, zc_1, zc_2, zc_3, zc_4, zc_5, zc_6, zc_7, zc_8, zc_9, zc_10, zc_11, zc_12, zc_20, zc_21, zc_22, zp_1, zp_2, zp_3, zp_4, zp_5, zp_6, zp_7, zp_8, zp_9, zp_10, zp_11, zp_12, zp_20, zp_21, zp_22, upS_eq, upS_ne, upS_up, upz_eq, upz_ne, upz_up, px_al_aI, px_as_aI, px_as_aZ, px_as_aC, px_ln_aI, Option.toList, List.cons_append, List.nil_append, Int.reduceAdd, Int.reduceSub, Int.reduceMul, ↓reduceIte, Nat.reduceEqDiff, eq_self, Int.reduceEq, Int.reduceLT, Int.reduceLE, Int.reduceNe, Int.reduceNeg, Int.reduceToNat, ne_eq, not_true_eq_false, not_false_eq_true, t0, u0, u1, e])) | simp (disch := first | omega | decide) only [upz_srt, upy_upz, upz_up, upS_srt, upT_upS, upS_up] | with_reducible refine px_ite (fun _ => ?_) (fun _ => ?_))
    all_goals first | exact hQ | (exfalso; omega)
/-- a text is closed -/
def clS (S : Nat → Nat → Int) (x : Nat) (ft : Int) : Nat → Nat → Int := if ft = 0 then upS (upS S x (upz (S x) 13 (S (x + 1) 2))) (x + 1) (upz (S (x + 1)) 0 0) else upS (upS (upS S x (upz (S x) 13 (S (x + 1) 2))) (x + 1) (upz (S (x + 1)) 0 0)) (x + 37) (upz (S (x + 37)) 0 (S (x + 37) 0 + 1))
theorem k_close {ft : Int} (l10 : ly10 T x) (e : S (x + 1) 1 = ft) (hf : 0 ≤ ft ∧ ft ≤ 4) (h0 : 0 ≤ S (x + 37) 0 ∧ S (x + 37) 0 ≤ 100000) : px_R 0 129 [.ref x] (zh T S c) (.inl (some (.int (zI ft)))) (zh T (clS S x ft) c) := by
  obtain ⟨t0, tL1, tL3, tL6, tL9, tL17, tL25, tL34, tL40, tL46, tL55, tL132, tL145⟩ := id l10
  obtain ⟨u0, u1⟩ := id tL1
  obtain ⟨v0, v1, v2, v3, v4, v5⟩ := id tL34
  refine px_ofQ fun Q hQ => ?_
  unfold clS at hQ
  by_cases g : ft = 0
  · rw [if_pos g] at hQ
    subst g
    (simp (disch := first | with_reducible assumption | omega | decide | (simp only [ps_low, List.map_cons, List.map_nil, Value.category, List.sum_cons, List.sum_nil]; decide)) only [el_X10_closeText_0, el_X10_closeText_1, el_X10_closeText_4, el_X10_closeText_5, el_X10_closeText_8, el_X10_closeText_9, el_X10_closeText_10, el_X10_closeText_13, el_X10_closeText_16, el_X10_closeText_19, el_X10_closeText_20, el_X10_closeText_23, el_X10_closeText_26, el_X10_closeText_29, el_X10_closeText_30, el_X10_closeText_33, el_X10_closeText_36, el_X10_closeText_37, el_X10_closeText_38, el_X10_closeText_39, el_X10_closeText_40, el_X10_closeText_41, el_X10_closeText_42, el_X10_closeText_43, el_X10_closeText_46, el_X10_closeText_49, gf_10_0, gf_10_6, gf_8_4, gf_9_1, gf_9_2, pf_10_13, pf_9_0, px_ifp, px_ifn, zh_1, zc_1, zc_2, zc_3, zc_4, zc_5, zc_6, zc_7, zc_8, zc_9, zc_10, zc_11, zc_12, zc_20, zc_21, zc_22, zp_1, zp_2, zp_3, zp_4, zp_5, zp_6, zp_7, zp_8, zp_9, zp_10, zp_11, zp_12, zp_20, zp_21, zp_22, upS_eq, upS_ne, upS_up, upz_eq, upz_ne, upz_up, px_al_aI, px_as_aI, px_as_aZ, px_as_aC, px_ln_aI, Option.toList, List.cons_append, List.nil_append, Int.reduceAdd, Int.reduceSub, Int.reduceMul, ↓reduceIte, Nat.reduceEqDiff, eq_self, Int.reduceEq, Int.reduceLT, Int.reduceLE, Int.reduceNe, Int.reduceNeg, Int.reduceToNat, ne_eq, not_true_eq_false, not_false_eq_true, t0, u0, u1, v0, v1, v2, v3, v4, v5, e]; repeat (first | simp (disch := first | omega | decide) only [upz_srt, upy_upz, upz_up, upS_srt, upT_upS, upS_up] | simp (disch := first | with_reducible assumption | omega | decide | (simp only [ps_low, List.map_cons, List.map_nil, Value.category, List.sum_cons, List.sum_nil]; decide)) only [el_X10_closeText_0, el_X10_closeText_1, el_X10_closeText_4, el_X10_closeText_5, el_X10_closeText_8, el_X10_closeText_9, el_X10_closeText_10, el_X10_closeText_13, el_X10_closeText_16, el_X10_closeText_19, el_X10_closeText_20, el_X10_closeText_23, el_X10_closeText_26, el_X10_closeText_29, el_X10_closeText_30, el_X10_closeText_33, el_X10_closeText_36, el_X10_closeText_37, el_X10_closeText_38, el_X10_closeText_39, el_X10_closeText_40, el_X10_closeText_41, el_X10_closeText_42, el_X10_closeText_43, el_X10_closeText_46, el_X10_closeText_49, gf_10_0, gf_10_6, gf_8_4, gf_9_1, gf_9_2, pf_10_13, pf_9_0, px_ifp, px_ifn, zh_1, zc_1, zc_2, zc_3, zc_4, zc_5, zc_6, zc_7, zc_8, zc_9, zc_10, zc_11, zc_12, zc_20, zc_21, zc_22, zp_1, zp_2, zp_3, zp_4, zp_5, zp_6, zp_7, zp_8, zp_9, zp_10, zp_11, zp_12, zp_20, zp_21, zp_22, upS_eq, upS_ne, upS_up, upz_eq, upz_ne, upz_up, px_al_aI, px_as_aI, px_as_aZ, px_as_aC, px_ln_aI, Option.toList, List.cons_append, List.nil_append, Int.reduceAdd, Int.reduceSub, Int.reduceMul, ↓reduceIte, Nat.reduceEqDiff, eq_self, Int.reduceEq, Int.reduceLT, Int.reduceLE, Int.reduceNe, Int.reduceNeg, Int.reduceToNat, ne_eq, not_true_eq_false, not_false_eq_true, t0, u0, u1, v0, v1, v2, v3, v4, v5, e]))
    exact hQ
  · rw [if_neg g] at hQ
    (simp (disch := first | with_reducible assumption | omega | decide | (simp only [ps_low, List.map_cons, List.map_nil, Value.category, List.sum_cons, List.sum_nil]; decide)) only [el_X10_closeText_0, el_X10_closeText_1, el_X10_closeText_4, el_X10_closeText_5, el_X10_closeText_8, el_X10_closeText_9, el_X10_closeText_10, el_X10_closeText_13, el_X10_closeText_16, el_X10_closeText_19, el_X10_closeText_20, el_X10_closeText_23, el_X10_closeText_26, el_X10_closeText_29, el_X10_closeText_30, el_X10_closeText_33, el_X10_closeText_36, el_X10_closeText_37, el_X10_closeText_38, el_X10_closeText_39, el_X10_closeText_40, el_X10_closeText_41, el_X10_closeText_42, el_X10_closeText_43, el_X10_closeText_46, el_X10_closeText_49, gf_10_0, gf_10_6, gf_8_4, gf_9_1, gf_9_2, pf_10_13, pf_9_0, px_ifp, px_ifn, zh_1, zc_1, zc_2, zc_3, zc_4, zc_5, zc_6, zc_7, zc_8, zc_9, zc_10, zc_11, zc_12, zc_20, zc_21, zc_22, zp_1, zp_2, zp_3, zp_4, zp_5, zp_6, zp_7, zp_8, zp_9, zp_10, zp_11, zp_12, zp_20, zp_21, zp_22, upS_eq, upS_ne, upS_up, upz_eq, upz_ne, upz_up, px_al_aI, px_as_aI, px_as_aZ, px_as_aC, px_ln_aI, Option.toList, List.cons_append, List.nil_append, Int.reduceAdd, Int.reduceSub, Int.reduceMul, ↓reduceIte, Nat.reduceEqDiff, eq_self, Int.reduceEq, Int.reduceLT, Int.reduceLE, Int.reduceNe, Int.reduceNeg, Int.reduceToNat, ne_eq, not_true_eq_false, not_false_eq_true, t0, u0, u1, v0, v1, v2, v3, v4, v5, e]; repeat (first | simp (disch := first | omega | decide) only [upz_srt, upy_upz, upz_up, upS_srt, upT_upS, upS_up] | simp (disch := first | with_reducible assumption | omega | decide | (simp only [ps_low, List.map_cons, List.map_nil, Value.category, List.sum_cons, List.sum_nil]; decide)) only [el_X10_closeText_0, el_X10_closeText_1, el_X10_closeText_4, el_X10_closeText_5, el_X10_closeText_8, el_X10_closeText_9, el_X10_closeText_10, el_X10_closeText_13, el_X10_closeText_16, el_X10_closeText_19, el_X10_closeText_20, el_X10_closeText_23, el_X10_closeText_26, el_X10_closeText_29, el_X10_closeText_30, el_X10_closeText_33, el_X10_closeText_36, el_X10_closeText_37, el_X10_closeText_38, el_X10_closeText_39, el_X10_closeText_40, el_X10_closeText_41, el_X10_closeText_42, el_X10_closeText_43, el_X10_closeText_46, el_X10_closeText_49, gf_10_0, gf_10_6, gf_8_4, gf_9_1, gf_9_2, pf_10_13, pf_9_0, px_ifp, px_ifn, zh_1, zc_1, zc_2, zc_3, zc_4, zc_5, zc_6, zc_7, zc_8, zc_9, zc_10, zc_11, zc_12, zc_20, zc_21, zc_22, zp_1, zp_2, zp_3, zp_4, zp_5, zp_6, zp_7, zp_8, zp_9, zp_10, zp_11, zp_12, zp_20, zp_21, zp_22, upS_eq, upS_ne, upS_up, upz_eq, upz_ne, upz_up, px_al_aI, px_as_aI, px_as_aZ, px_as_aC, px_ln_aI, Option.toList, List.cons_append, List.nil_append, Int.reduceAdd, Int.reduceSub, Int.reduceMul, ↓reduceIte, Nat.reduceEqDiff, eq_self, Int.reduceEq, Int.reduceLT, Int.reduceLE, Int.reduceNe, Int.reduceNeg, Int.reduceToNat, ne_eq, not_true_eq_false, not_false_eq_true, t0, u0, u1, v0, v1, v2, v3, v4, v5, e]))
    exact hQ
/-- a change of the tape's and the texts' cells alone -/
theorem cR.tape {S' : Nat → Nat → Int} (h : cR T S x sA sB k F) (e : ∀ a, x ≤ a → a < x + 148 → a ≠ x → a ≠ x + 1 → (a < x + 3 ∨ x + 9 ≤ a) → (a < sB ∨ sB + 8 ≤ a) → S' a = S a) (ex : ∀ j, j ≠ 13 → S' x j = S x j) (t0 : S' (x + 1) 0 = 0) (t1 : tpF (S' (x + 1))) : cR T S' x sA sB k (F.1, F.2.1, (0, F.2.2.1.2.1, S' x 13), F.2.2.2) := by
  obtain ⟨⟨l10, hs, hk⟩, ⟨a1, a2, a3, a4⟩, ⟨b1, b2, b3⟩, ⟨c1, c2, c3, c4, c5, c6, c7⟩, d1, ⟨e0, e1⟩, f0, f1⟩ := h
  have g : ∀ a, x + 25 ≤ a → a < x + 148 → S' a = S a := fun a h1 h2 => e a (by omega) (by omega) (by omega) (by omega) (by omega) (by omega)
  have gs : ∀ a, sA ≤ a → a < sA + 8 → S' a = S a := fun a h1 h2 => e a (by omega) (by omega) (by omega) (by omega) (by omega) (by omega)
  refine ⟨⟨l10, hs, hk⟩, ⟨?_, ?_, a3.eq gs, fun j hj => ?_⟩, ⟨b1.eq (fun a h1 h2 => g a (by omega) (by omega)), b2, b3.eq (fun a h1 h2 => g a (by omega) (by omega))⟩, ⟨t0, ?_, t1, c4, ⟨Int.le_refl 0, by show (0 : Int) ≤ 500; decide⟩, rfl, trivial⟩, ?_, ⟨fun i hi => ?_, ?_⟩, fun j hj => ?_, ?_⟩
  · rw [ex _ (by decide)]
    exact a1
  · rw [ex _ (by decide)]
    exact a2
  · rw [gs _ (by omega) (by omega)]
    exact a4 j hj
  · rw [e _ (by omega) (by omega) (by omega) (by omega) (by omega) (by omega)]
    exact c2
  · rw [ex _ (by decide)]
    rcases d1 with d1 | ⟨d1, J, d2, d3, d4⟩
    · exact .inl d1
    · exact .inr ⟨d1, J, d2, d3.eq (fun a h1 h2 => g a (by omega) (by omega)), d4⟩
  · rw [g _ (by omega) (by omega)]
    exact e0 i hi
  · rw [g (x + 55) (by omega) (by omega), g (x + 56) (by omega) (by omega)]
    exact e1
  · rw [g _ (by omega) (by omega)]
    exact f0 j hj
  · rw [g (x + 133) (by omega) (by omega), g (x + 134) (by omega) (by omega)]
    exact f1
/-- with fewer faults -/
theorem cR.dn {l : Int} (h : cR T S x sA sB l F) (hk : 0 ≤ k ∧ k ≤ 50000) (i1 : iO F.1 k F.2.1) (i2 : ∀ J, F.2.2.2.1 = some J → iO F.1 k J) : cR T S x sA sB k F := by
  obtain ⟨⟨l10, hs, -⟩, ha, ⟨b1, b2, b3⟩, hc, d1, he, hf⟩ := h
  refine ⟨⟨l10, hs, hk⟩, ha, ⟨b1, i1, b3⟩, hc, ?_, he, hf⟩
  rcases d1 with d1 | ⟨d1, J, d2, d3, d4⟩
  · exact .inl d1
  · exact .inr ⟨d1, J, d2, d3, i2 J d2⟩
/-- the folds of a row, one after another: how many are done -/
def roG (D : Nat → Nat → Int) (A B : Nat → Int) : Nat → Nat → iS → Nat × iS
  | 0, i, I => (i, I)
  | m + 1, i, I => if fOb (layM D I.1) (A i) (B i) = true then roG D A B m (i + 1) (foI D I (A i) (B i)).2 else (i, (foI D I (A i) (B i)).2)
def rwR (s : rwP) : Prop := tpF s.1 ∧ ∀ j, j < s.2.1 → (0 ≤ s.2.2.1 j ∧ s.2.2.1 j ≤ 3) ∧ 1 ≤ s.2.2.2 j ∧ s.2.2.2 j ≤ 4
theorem rwL_r {b : Nat → Int} : ∀ (k : Nat) (s : rwP), rwR s → rwR (rwL b k s) ∧ (rwL b k s).2.1 ≤ s.2.1 + k
  | 0, s, h => ⟨h, Nat.le_refl _⟩
  | k + 1, s, h => by
    unfold rwL
    split
    · obtain ⟨p, q⟩ := rwL_r k (smF b (tnF b 1 4 (tsF b s.1)), s.2.1 + 1, upz s.2.2.1 s.2.1 (tsV b s.1), upz s.2.2.2 s.2.1 (nhV 1 4 (tsF b s.1))) ⟨tpF_sm (tpF_tn (tpF_ts h.1)), fun j hj => by
        replace hj : j < s.2.1 + 1 := hj
        have h1 := tsV_r (b := b) (F := s.1)
        have h2 := nhV_r (lo := 1) (hi := 4) (F := tsF b s.1) (by decide)
        change (0 ≤ upz s.2.2.1 s.2.1 (tsV b s.1) j ∧ upz s.2.2.1 s.2.1 (tsV b s.1) j ≤ 3) ∧ 1 ≤ upz s.2.2.2 s.2.1 (nhV 1 4 (tsF b s.1)) j ∧ upz s.2.2.2 s.2.1 (nhV 1 4 (tsF b s.1)) j ≤ 4
        unfold upz
        split
        · exact ⟨h1, h2⟩
        · exact h.2 j (by omega)⟩
      dsimp only at q
      exact ⟨p, by omega⟩
    · exact ⟨h, by omega⟩
theorem tpA_op {F : Nat → Int} {n : Int} (h : tpF F) (hn : 0 ≤ n ∧ n ≤ 500) : tpA (opF F n) := by
  obtain ⟨⟨a, b, c⟩, d, e, f⟩ := h
  exact ⟨⟨hn, by change (0 : Int) ≤ 0 ∧ (0 : Int) ≤ n; omega⟩, d, e, by change (0 : Int) ≤ 0 ∧ (0 : Int) ≤ 4; decide⟩
end FACE
