/-! THE FACE, 4: fold, undo, image, restore -/
section FACE
variable {T : Nat → Nat × Nat} {S S' : Nat → Nat → Int} {c : pm_M × pm_C} {x sA sB : Nat} {k l : Int} {F : fS}
theorem cR.state {I : iS} (h : cR T S x sA sB k F) (hl : k ≤ l ∧ l ≤ 50000) (e : ∀ a, x ≤ a → a < x + 148 → (a < x + 25 ∨ x + 40 ≤ a) → (a < x + 46 ∨ x + 55 ≤ a) → a < x + 145 → S' a = S a) (b1 : stR S' (x + 34) I) (b2 : iO F.1 l I) (b3 : shR S' (x + 25) (nD F.1) (layM F.1 I.1)) : cR T S' x sA sB l (F.1, I, F.2.2) := by
  obtain ⟨⟨l10, hs, hk⟩, ⟨a1, a2, a3, a4⟩, -, ⟨c1, c2, c3, c4, c5, c6, c7⟩, d1, ⟨e0, e1⟩, f0, f1⟩ := h
  have gs : ∀ a, sA ≤ a → a < sA + 8 → S' a = S a := fun a h1 h2 => e a (by omega) (by omega) (by omega) (by omega) (by omega)
  have g : ∀ a, x ≤ a → a < x + 25 → S' a = S a := fun a h1 h2 => e a (by omega) (by omega) (by omega) (by omega) (by omega)
  refine ⟨⟨l10, hs, by omega⟩, ⟨?_, ?_, a3.eq gs, fun j hj => ?_⟩, ⟨b1, b2, b3⟩, ⟨?_, ?_, ?_, c4, c5, ?_, c7⟩, ?_, ⟨fun i hi => ?_, ?_⟩, fun j hj => ?_, ?_⟩
  · rw [g x (by omega) (by omega)]
    exact a1
  · rw [g x (by omega) (by omega)]
    exact a2
  · rw [gs _ (by omega) (by omega)]
    exact a4 j hj
  · rw [g _ (by omega) (by omega)]
    exact c1
  · rw [g _ (by omega) (by omega)]
    exact c2
  · rw [g _ (by omega) (by omega)]
    exact c3
  · rw [g x (by omega) (by omega)]
    exact c6
  · rw [g x (by omega) (by omega)]
    rcases d1 with d1 | ⟨d1, J, d2, d3, d4⟩
    · exact .inl d1
    · exact .inr ⟨d1, J, d2, d3.eq (fun a h1 h2 => e a (by omega) (by omega) (by omega) (by omega) (by omega)), d4.le hl.1⟩
  · rw [e _ (by omega) (by omega) (by omega) (by omega) (by omega)]
    exact e0 i hi
  · rw [e (x + 55) (by omega) (by omega) (by omega) (by omega) (by omega), e (x + 56) (by omega) (by omega) (by omega) (by omega) (by omega)]
    exact e1
  · rw [e _ (by omega) (by omega) (by omega) (by omega) (by omega)]
    exact f0 j hj
  · rw [e (x + 133) (by omega) (by omega) (by omega) (by omega) (by omega), e (x + 134) (by omega) (by omega) (by omega) (by omega) (by omega)]
    exact f1
/-- a fold, in what is kept -/
def foI (D : Nat → Nat → Int) (I : iS) (sd m : Int) : Int × iS := if fOb (layM D I.1) sd m = true then (1, I.1 ++ [(sd, m)], I.2) else (0, upI I 1)
theorem iO_fo {D : Nat → Nat → Int} {I : iS} {sd m : Int} (h : iO D k I) (hsd : 0 ≤ sd ∧ sd ≤ 3) : iO D (k + 1) (foI D I sd m).2 := by
  unfold foI
  by_cases g : fOb (layM D I.1) sd m = true
  · rw [if_pos g]
    exact ⟨fsO_app I.1 _ h.1 ⟨hsd, fOb_iff.mp g⟩, h.2.1, fun j hj => by have := h.2.2 j hj; exact ⟨this.1, by show I.2.2 j ≤ k + 1; omega⟩⟩
  · rw [if_neg g]
    refine ⟨h.1, h.2.1, fun j hj => ?_⟩
    change 0 ≤ upz I.2.2 1 (I.2.2 1 + 1) j ∧ upz I.2.2 1 (I.2.2 1 + 1) j ≤ k + 1
    have h1 := h.2.2 1 (by decide)
    have h2 := h.2.2 j hj
    unfold upz
    split <;> omega
theorem k_foldNow {sd m : Int} (h : cR T S x sA sB k F) (hk : k + 1 ≤ 50000) (hsd : 0 ≤ sd ∧ sd ≤ 3) (hm : rg m) : ∃ S', px_R 4 130 [.ref x, .int (zI sd), .int (zI m)] (zh T S c) (.inl (some (.int (zI (foI F.1 F.2.1 sd m).1)))) (zh T S' c) ∧ (∀ a, (a < x + 25 ∨ x + 40 ≤ a) → S' a = S a) ∧ cR T S' x sA sB (k + 1) (F.1, (foI F.1 F.2.1 sd m).2, F.2.2) := by
  obtain ⟨v, S', r, f, hv⟩ := c_foldNow (c := c) h.1.1 h.dO h.2.2.1.1 h.2.2.1.2.1.1 h.2.2.1.2.2 hsd hm (fun j hj => by have := h.2.2.1.2.1.2.2 j hj; have := h.1.2.2; omega)
  have hio := iO_fo (m := m) h.2.2.1.2.1 hsd
  unfold foI at hio ⊢
  rcases hv with ⟨hf, rfl, q1, q2⟩ | ⟨hf, rfl, q1, q2⟩
  · rw [if_pos (fOb_iff.mpr hf)] at hio ⊢
    exact ⟨S', r, f, h.state (by omega) (fun a h1 h2 h3 h4 h5 => f a h3) q1 hio q2⟩
  · rw [if_neg (fun z => hf (fOb_iff.mp z))] at hio ⊢
    exact ⟨S', r, f, h.state (by omega) (fun a h1 h2 h3 h4 h5 => f a h3) q1 hio q2⟩
theorem o_fold {sd m : Int} (h : cR T S x sA sB k F) (hk : k + 1 ≤ 50000) (hs : rg sd) (hm : rg m) : opR 5 108 [.ref x, .int (zI sd), .int (zI m)] T S c x (k + 1) (fun r F' => (¬ (0 ≤ sd ∧ sd ≤ 3) ∧ r = .inr nse ∧ F' = F) ∨ ((0 ≤ sd ∧ sd ≤ 3) ∧ r = .inl (if (foI F.1 F.2.1 sd m).1 = 1 then F.2.1.1.length + 1 else -1) ∧ F' = (F.1, (foI F.1 F.2.1 sd m).2, F.2.2))) := by
  have l10 := h.1.1
  obtain ⟨t0, tL1, tL3, tL6, tL9, tL17, tL25, tL34, tL40, tL46, tL55, tL132, tL145⟩ := id l10
  obtain ⟨v0, v1, v2, v3, v4, v5⟩ := id tL34
  have hs' := hs
  unfold rg at hs'
  by_cases g : 0 ≤ sd ∧ sd ≤ 3
  · obtain ⟨S', r, f, q⟩ := k_foldNow (c := c) h hk g hm
    have i0 := q.2.2.1.1.1.1
    have hl := (layM_I q.dO q.2.2.1.2.1.1).2.1
    refine opR_val (S' := S') (v := if (foI F.1 F.2.1 sd m).1 = 1 then F.2.1.1.length + 1 else -1) (px_ofQ fun Q hQ => ?_) (fun a ha => f a (by omega)) q (.inr ⟨g, rfl, rfl⟩)
    by_cases g2 : fOb (layM F.1 F.2.1.1) sd m = true
    · have e1 : foI F.1 F.2.1 sd m = (1, F.2.1.1 ++ [(sd, m)], F.2.1.2) := if_pos g2
      rw [e1] at r hQ i0
      have i0' : S' (x + 34) 0 = (F.2.1.1.length : Int) + 1 := by
        rw [i0, List.length_append]
        rfl
      rw [if_pos rfl] at hQ
      (simp (disch := first | with_reducible assumption | omega | decide | (simp only [ps_low, List.map_cons, List.map_nil, Value.category, List.sum_cons, List.sum_nil]; decide)) only [el_X10_fold_0, el_X10_fold_1, el_X10_fold_4, el_X10_fold_5, el_X10_fold_6, el_X10_fold_9, el_X10_fold_17, el_X10_fold_18, el_X10_fold_19, el_X10_fold_23, el_X10_fold_26, el_X10_fold_27, el_X10_fold_30, el_X10_fold_33, el_X10_fold_36, el_X10_fold_37, gf_10_6, gf_8_0, px_ifp, px_ifn, zh_1, zc_1, zc_2, zc_3, zc_4, zc_5, zc_6, zc_7, zc_8, zc_9, zc_10, zc_11, zc_12, zc_20, zc_21, zc_22, zp_1, zp_2, zp_3, zp_4, zp_5, zp_6, zp_7, zp_8, zp_9, zp_10, zp_11, zp_12, zp_20, zp_21, zp_22, upS_eq, upS_ne, upS_up, upz_eq, upz_ne, upz_up, px_al_aI, px_as_aI, px_as_aZ, px_as_aC, px_ln_aI, Option.toList, List.cons_append, List.nil_append, Int.reduceAdd, Int.reduceSub, Int.reduceMul, ↓reduceIte, Nat.reduceEqDiff, eq_self, Int.reduceEq, Int.reduceLT, Int.reduceLE, Int.reduceNe, Int.reduceNeg, Int.reduceToNat, ne_eq, not_true_eq_false, not_false_eq_true, t0, v0, v1, v2, v3, v4, v5, el_X10_fold_20 (r ..) _ (zo_11 _) _, i0']; repeat (first | simp (disch := first | omega | decide) only [upz_srt, upy_upz, upz_up, upS_srt, upT_upS, upS_up] | simp (disch := first | with_reducible assumption | omega | decide | (simp only [ps_low, List.map_cons, List.map_nil, Value.category, List.sum_cons, List.sum_nil]; decide)) only [el_X10_fold_0, el_X10_fold_1, el_X10_fold_4, el_X10_fold_5, el_X10_fold_6, el_X10_fold_9, el_X10_fold_17, el_X10_fold_18, el_X10_fold_19, el_X10_fold_23, el_X10_fold_26, el_X10_fold_27, el_X10_fold_30, el_X10_fold_33, el_X10_fold_36, el_X10_fold_37, gf_10_6, gf_8_0, px_ifp, px_ifn, zh_1, zc_1, zc_2, zc_3, zc_4, zc_5, zc_6, zc_7, zc_8, zc_9, zc_10, zc_11, zc_12, zc_20, zc_21, zc_22, zp_1, zp_2, zp_3, zp_4, zp_5, zp_6, zp_7, zp_8, zp_9, zp_10, zp_11, zp_12, zp_20, zp_21, zp_22, upS_eq, upS_ne, upS_up, upz_eq, upz_ne, upz_up, px_al_aI, px_as_aI, px_as_aZ, px_as_aC, px_ln_aI, Option.toList, List.cons_append, List.nil_append, Int.reduceAdd, Int.reduceSub, Int.reduceMul, ↓reduceIte, Nat.reduceEqDiff, eq_self, Int.reduceEq, Int.reduceLT, Int.reduceLE, Int.reduceNe, Int.reduceNeg, Int.reduceToNat, ne_eq, not_true_eq_false, not_false_eq_true, t0, v0, v1, v2, v3, v4, v5, el_X10_fold_20 (r ..) _ (zo_11 _) _, i0']))
      exact hQ
    · have e1 : foI F.1 F.2.1 sd m = (0, upI F.2.1 1) := if_neg g2
      rw [e1] at r hQ
      dsimp only at hQ
      rw [if_neg (show ¬ (0 : Int) = 1 by decide)] at hQ
      (simp (disch := first | with_reducible assumption | omega | decide | (simp only [ps_low, List.map_cons, List.map_nil, Value.category, List.sum_cons, List.sum_nil]; decide)) only [el_X10_fold_0, el_X10_fold_1, el_X10_fold_4, el_X10_fold_5, el_X10_fold_6, el_X10_fold_9, el_X10_fold_17, el_X10_fold_18, el_X10_fold_19, el_X10_fold_23, el_X10_fold_26, el_X10_fold_27, el_X10_fold_30, el_X10_fold_33, el_X10_fold_36, el_X10_fold_37, gf_10_6, gf_8_0, px_ifp, px_ifn, zh_1, zc_1, zc_2, zc_3, zc_4, zc_5, zc_6, zc_7, zc_8, zc_9, zc_10, zc_11, zc_12, zc_20, zc_21, zc_22, zp_1, zp_2, zp_3, zp_4, zp_5, zp_6, zp_7, zp_8, zp_9, zp_10, zp_11, zp_12, zp_20, zp_21, zp_22, upS_eq, upS_ne, upS_up, upz_eq, upz_ne, upz_up, px_al_aI, px_as_aI, px_as_aZ, px_as_aC, px_ln_aI, Option.toList, List.cons_append, List.nil_append, Int.reduceAdd, Int.reduceSub, Int.reduceMul, ↓reduceIte, Nat.reduceEqDiff, eq_self, Int.reduceEq, Int.reduceLT, Int.reduceLE, Int.reduceNe, Int.reduceNeg, Int.reduceToNat, ne_eq, not_true_eq_false, not_false_eq_true, t0, v0, v1, v2, v3, v4, v5, el_X10_fold_20 (r ..) _ (zo_11 _) _]; repeat (first | simp (disch := first | omega | decide) only [upz_srt, upy_upz, upz_up, upS_srt, upT_upS, upS_up] | simp (disch := first | with_reducible assumption | omega | decide | (simp only [ps_low, List.map_cons, List.map_nil, Value.category, List.sum_cons, List.sum_nil]; decide)) only [el_X10_fold_0, el_X10_fold_1, el_X10_fold_4, el_X10_fold_5, el_X10_fold_6, el_X10_fold_9, el_X10_fold_17, el_X10_fold_18, el_X10_fold_19, el_X10_fold_23, el_X10_fold_26, el_X10_fold_27, el_X10_fold_30, el_X10_fold_33, el_X10_fold_36, el_X10_fold_37, gf_10_6, gf_8_0, px_ifp, px_ifn, zh_1, zc_1, zc_2, zc_3, zc_4, zc_5, zc_6, zc_7, zc_8, zc_9, zc_10, zc_11, zc_12, zc_20, zc_21, zc_22, zp_1, zp_2, zp_3, zp_4, zp_5, zp_6, zp_7, zp_8, zp_9, zp_10, zp_11, zp_12, zp_20, zp_21, zp_22, upS_eq, upS_ne, upS_up, upz_eq, upz_ne, upz_up, px_al_aI, px_as_aI, px_as_aZ, px_as_aC, px_ln_aI, Option.toList, List.cons_append, List.nil_append, Int.reduceAdd, Int.reduceSub, Int.reduceMul, ↓reduceIte, Nat.reduceEqDiff, eq_self, Int.reduceEq, Int.reduceLT, Int.reduceLE, Int.reduceNe, Int.reduceNeg, Int.reduceToNat, ne_eq, not_true_eq_false, not_false_eq_true, t0, v0, v1, v2, v3, v4, v5, el_X10_fold_20 (r ..) _ (zo_11 _) _]))
      exact hQ
  · refine opR_thr (S' := S) (E := nse) (px_ofQ fun Q hQ => ?_) (fun a _ => rfl) (h.le (by omega) hk) (.inl ⟨g, rfl, rfl⟩)
    repeat' (first | (simp (disch := first | with_reducible assumption | omega | decide | (simp only [ps_low, List.map_cons, List.map_nil, Value.category, List.sum_cons, List.sum_nil]; decide)) only [el_X10_fold_0, el_X10_fold_1, el_X10_fold_4, el_X10_fold_5, el_X10_fold_6, el_X10_fold_9, el_X10_fold_17, el_X10_fold_18, el_X10_fold_19, el_X10_fold_23, el_X10_fold_26, el_X10_fold_27, el_X10_fold_30, el_X10_fold_33, el_X10_fold_36, el_X10_fold_37, gf_10_6, gf_8_0, px_ifp, px_ifn, zh_1, zc_1, zc_2, zc_3, zc_4, zc_5, zc_6, zc_7, zc_8, zc_9, zc_10, zc_11, zc_12, zc_20, zc_21, zc_22, zp_1, zp_2, zp_3, zp_4, zp_5, zp_6, zp_7, zp_8, zp_9, zp_10, zp_11, zp_12, zp_20, zp_21, zp_22, upS_eq, upS_ne, upS_up, upz_eq, upz_ne, upz_up, px_al_aI, px_as_aI, px_as_aZ, px_as_aC, px_ln_aI, Option.toList, List.cons_append, List.nil_append, Int.reduceAdd, Int.reduceSub, Int.reduceMul, ↓reduceIte, Nat.reduceEqDiff, eq_self, Int.reduceEq, Int.reduceLT, Int.reduceLE, Int.reduceNe, Int.reduceNeg, Int.reduceToNat, ne_eq, not_true_eq_false, not_false_eq_true, t0, v0, v1, v2, v3, v4, v5, zh_thrown]; repeat (first | simp (disch := first | omega | decide) only [upz_srt, upy_upz, upz_up, upS_srt, upT_upS, upS_up] | simp (disch := first | with_reducible assumption | omega | decide | (simp only [ps_low, List.map_cons, List.map_nil, Value.category, List.sum_cons, List.sum_nil]; decide)) only [el_X10_fold_0, el_X10_fold_1, el_X10_fold_4, el_X10_fold_5, el_X10_fold_6, el_X10_fold_9, el_X10_fold_17, el_X10_fold_18, el_X10_fold_19, el_X10_fold_23, el_X10_fold_26, el_X10_fold_27, el_X10_fold_30, el_X10_fold_33, el_X10_fold_36, el_X10_fold_37, gf_10_6, gf_8_0, px_ifp, px_ifn, zh_1, zc_1, zc_2, zc_3, zc_4, zc_5, zc_6, zc_7, zc_8, zc_9, zc_10, zc_11, zc_12, zc_20, zc_21, zc_22, zp_1, zp_2, zp_3, zp_4, zp_5, zp_6, zp_7, zp_8, zp_9, zp_10, zp_11, zp_12, zp_20, zp_21, zp_22, upS_eq, upS_ne, upS_up, upz_eq, upz_ne, upz_up, px_al_aI, px_as_aI, px_as_aZ, px_as_aC, px_ln_aI, Option.toList, List.cons_append, List.nil_append, Int.reduceAdd, Int.reduceSub, Int.reduceMul, ↓reduceIte, Nat.reduceEqDiff, eq_self, Int.reduceEq, Int.reduceLT, Int.reduceLE, Int.reduceNe, Int.reduceNeg, Int.reduceToNat, ne_eq, not_true_eq_false, not_false_eq_true, t0, v0, v1, v2, v3, v4, v5, zh_thrown])) | simp (disch := first | omega | decide) only [upz_srt, upy_upz, upz_up, upS_srt, upT_upS, upS_up] | with_reducible refine px_ite (fun _ => ?_) (fun _ => ?_))
    all_goals exact hQ
theorem getD_take {fs : List (Int × Int)} {n j : Nat} (h : j < n) : (fs.take n).getD j (0, 0) = fs.getD j (0, 0) := by
  rw [List.getD_eq_getElem?_getD, List.getD_eq_getElem?_getD, List.getElem?_take_of_lt h]
theorem k_layAnew {I : iS} (h10 : ly10 T x) (hs : (sA = x + 9 ∧ sB = x + 17) ∨ (sA = x + 17 ∧ sB = x + 9)) {D : Nat → Nat → Int} (a1 : S x 3 = sA) (e : S sA = D 0) (hD : dO D) (hI : stR S (x + 34) I) (hF : fsO D (mp (D 0 0) (D 0 1)) I.1) :
    ∃ S', px_R 4 131 [.ref x, .retAddr 0] (zh T S c) (.inl none) (zh T S' c) ∧ (∀ a, (a < x + 25 ∨ x + 34 ≤ a) → S' a = S a) ∧ shR S' (x + 25) (nD D) (layM D I.1) := by
  have h10' := h10
  obtain ⟨t0, tL1, tL3, tL6, tL9, tL17, tL25, tL34, tL40, tL46, tL55, tL132, tL145⟩ := h10'
  have l4 : ly4 T sA := by rcases hs with ⟨rfl, -⟩ | ⟨rfl, -⟩ <;> assumption
  exact c_layAnew h10 a1 l4 (by omega) (congrFun e 0) (congrFun e 1) hD hI hF
theorem o_undo (h : cR T S x sA sB k F) : opR 5 109 [.ref x] T S c x k (fun r F' => (F.2.1.1 = [] ∧ r = .inl (-1) ∧ F' = F) ∨ (F.2.1.1 ≠ [] ∧ r = .inl ((F.2.1.1.length : Int) - 1) ∧ F' = (F.1, (F.2.1.1.take (F.2.1.1.length - 1), F.2.1.2), F.2.2))) := by
  have l10 := h.1.1
  obtain ⟨t0, tL1, tL3, tL6, tL9, tL17, tL25, tL34, tL40, tL46, tL55, tL132, tL145⟩ := id l10
  obtain ⟨v0, v1, v2, v3, v4, v5⟩ := id tL34
  obtain ⟨⟨i0, i1⟩, ⟨j0, j1, j2⟩, k0⟩ := h.2.2.1.1
  have hl := (layM_I h.dO h.2.2.1.2.1.1).2.1
  by_cases g : F.2.1.1 = []
  · have i0' : S (x + 34) 0 = 0 := by rw [i0, g]; rfl
    refine opR_val (S' := S) (v := -1) (px_ofQ fun Q hQ => ?_) (fun a _ => rfl) h (.inl ⟨g, rfl, rfl⟩)
    (simp (disch := first | with_reducible assumption | omega | decide | (simp only [ps_low, List.map_cons, List.map_nil, Value.category, List.sum_cons, List.sum_nil]; decide)) only [el_X10_undo_0, el_X10_undo_1, el_X10_undo_4, el_X10_undo_7, el_X10_undo_8, el_X10_undo_11, el_X10_undo_12, el_X10_undo_13, el_X10_undo_14, el_X10_undo_17, el_X10_undo_17i, el_X10_undo_18, el_X10_undo_21, el_X10_undo_22, el_X10_undo_23, el_X10_undo_26, el_X10_undo_30, el_X10_undo_31, el_X10_undo_34, el_X10_undo_37, gf_10_6, gf_8_0, pf_8_0, px_ifp, px_ifn, zh_1, zc_1, zc_2, zc_3, zc_4, zc_5, zc_6, zc_7, zc_8, zc_9, zc_10, zc_11, zc_12, zc_20, zc_21, zc_22, zp_1, zp_2, zp_3, zp_4, zp_5, zp_6, zp_7, zp_8, zp_9, zp_10, zp_11, zp_12, zp_20, zp_21, zp_22, upS_eq, upS_ne, upS_up, upz_eq, upz_ne, upz_up, px_al_aI, px_as_aI, px_as_aZ, px_as_aC, px_ln_aI, Option.toList, List.cons_append, List.nil_append, Int.reduceAdd, Int.reduceSub, Int.reduceMul, ↓reduceIte, Nat.reduceEqDiff, eq_self, Int.reduceEq, Int.reduceLT, Int.reduceLE, Int.reduceNe, Int.reduceNeg, Int.reduceToNat, ne_eq, not_true_eq_false, not_false_eq_true, t0, v0, v1, v2, v3, v4, v5, i0']; repeat (first | simp (disch := first | omega | decide) only [upz_srt, upy_upz, upz_up, upS_srt, upT_upS, upS_up] | simp (disch := first | with_reducible assumption | omega | decide | (simp only [ps_low, List.map_cons, List.map_nil, Value.category, List.sum_cons, List.sum_nil]; decide)) only [el_X10_undo_0, el_X10_undo_1, el_X10_undo_4, el_X10_undo_7, el_X10_undo_8, el_X10_undo_11, el_X10_undo_12, el_X10_undo_13, el_X10_undo_14, el_X10_undo_17, el_X10_undo_17i, el_X10_undo_18, el_X10_undo_21, el_X10_undo_22, el_X10_undo_23, el_X10_undo_26, el_X10_undo_30, el_X10_undo_31, el_X10_undo_34, el_X10_undo_37, gf_10_6, gf_8_0, pf_8_0, px_ifp, px_ifn, zh_1, zc_1, zc_2, zc_3, zc_4, zc_5, zc_6, zc_7, zc_8, zc_9, zc_10, zc_11, zc_12, zc_20, zc_21, zc_22, zp_1, zp_2, zp_3, zp_4, zp_5, zp_6, zp_7, zp_8, zp_9, zp_10, zp_11, zp_12, zp_20, zp_21, zp_22, upS_eq, upS_ne, upS_up, upz_eq, upz_ne, upz_up, px_al_aI, px_as_aI, px_as_aZ, px_as_aC, px_ln_aI, Option.toList, List.cons_append, List.nil_append, Int.reduceAdd, Int.reduceSub, Int.reduceMul, ↓reduceIte, Nat.reduceEqDiff, eq_self, Int.reduceEq, Int.reduceLT, Int.reduceLE, Int.reduceNe, Int.reduceNeg, Int.reduceToNat, ne_eq, not_true_eq_false, not_false_eq_true, t0, v0, v1, v2, v3, v4, v5, i0']))
    exact hQ
  · have hp : 1 ≤ F.2.1.1.length := by
      rcases hF : F.2.1.1 with _ | ⟨a, b⟩
      · exact absurd hF g
      · rw [List.length_cons]
        omega
    generalize hn : F.2.1.1.length = n at *
    generalize hS1 : upS S (x + 34) (upz (S (x + 34)) 0 ((n : Int) - 1)) = S1
    have s1 : ∀ a, a ≠ x + 34 → S1 a = S a := fun a h => by rw [← hS1, upS_ne h]
    have lt : (F.2.1.1.take (n - 1)).length = n - 1 := by rw [List.length_take]; omega
    have q1 : stR S1 (x + 34) (F.2.1.1.take (n - 1), F.2.1.2) := by
      refine ⟨⟨?_, fun j hj => ?_⟩, ⟨?_, fun j hj => ?_, fun j hj => ?_⟩, fun j hj => ?_⟩
      · rw [← hS1, upS_eq, upz_eq, lt]
        omega
      · replace hj : j < (F.2.1.1.take (n - 1)).length := hj
        rw [lt] at hj
        rw [getD_take hj, s1 _ (by omega), s1 _ (by omega)]
        exact i1 j (by omega)
      · rw [← hS1, upS_eq, upz_ne (by decide)]
        exact j0
      · rw [s1 _ (by omega)]
        exact j1 j hj
      · rw [s1 _ (by omega)]
        exact j2 j hj
      · rw [s1 _ (by omega)]
        exact k0 j hj
    have o1 := fsO_take F.2.1.1 (n - 1) _ h.2.2.1.2.1.1
    have es : S1 sA = F.1 0 := by rw [s1 _ (by have := h.1.2.1; omega)]; exact h.sA0
    obtain ⟨S2, r2, f2, q2⟩ := k_layAnew (c := c) l10 h.1.2.1 (by rw [s1 x (by omega)]; exact h.2.1.1) es h.dO q1 o1
    have e2 : S2 (x + 34) 0 = (n : Int) - 1 := by rw [f2 _ (by omega), ← hS1, upS_eq, upz_eq]
    refine opR_val (S' := S2) (v := (n : Int) - 1) (sA := sA) (sB := sB) (px_ofQ fun Q hQ => ?_) (fun a ha => by rw [f2 a (by omega), s1 a (by omega)]) (h.state ⟨Int.le_refl _, h.1.2.2.2⟩ (fun a h1 h2 h3 h4 h5 => by rw [f2 a (by omega), s1 a (by omega)]) (q1.eq (fun a h1 h2 => f2 a (by omega))) ⟨o1, h.2.2.1.2.1.2⟩ q2) (.inr ⟨g, rfl, rfl⟩)
    (simp (disch := first | with_reducible assumption | omega | decide | (simp only [ps_low, List.map_cons, List.map_nil, Value.category, List.sum_cons, List.sum_nil]; decide)) only [el_X10_undo_0, el_X10_undo_1, el_X10_undo_4, el_X10_undo_7, el_X10_undo_8, el_X10_undo_11, el_X10_undo_12, el_X10_undo_13, el_X10_undo_14, el_X10_undo_17, el_X10_undo_17i, el_X10_undo_18, el_X10_undo_21, el_X10_undo_22, el_X10_undo_23, el_X10_undo_26, el_X10_undo_30, el_X10_undo_31, el_X10_undo_34, el_X10_undo_37, gf_10_6, gf_8_0, pf_8_0, px_ifp, px_ifn, zh_1, zc_1, zc_2, zc_3, zc_4, zc_5, zc_6, zc_7, zc_8, zc_9, zc_10, zc_11, zc_12, zc_20, zc_21, zc_22, zp_1, zp_2, zp_3, zp_4, zp_5, zp_6, zp_7, zp_8, zp_9, zp_10, zp_11, zp_12, zp_20, zp_21, zp_22, upS_eq, upS_ne, upS_up, upz_eq, upz_ne, upz_up, px_al_aI, px_as_aI, px_as_aZ, px_as_aC, px_ln_aI, Option.toList, List.cons_append, List.nil_append, Int.reduceAdd, Int.reduceSub, Int.reduceMul, ↓reduceIte, Nat.reduceEqDiff, eq_self, Int.reduceEq, Int.reduceLT, Int.reduceLE, Int.reduceNe, Int.reduceNeg, Int.reduceToNat, ne_eq, not_true_eq_false, not_false_eq_true, t0, v0, v1, v2, v3, v4, v5, i0, hS1, el_X10_undo_27 (r2 ..) _ (zo_11 _) _, e2]; repeat (first | simp (disch := first | omega | decide) only [upz_srt, upy_upz, upz_up, upS_srt, upT_upS, upS_up] | simp (disch := first | with_reducible assumption | omega | decide | (simp only [ps_low, List.map_cons, List.map_nil, Value.category, List.sum_cons, List.sum_nil]; decide)) only [el_X10_undo_0, el_X10_undo_1, el_X10_undo_4, el_X10_undo_7, el_X10_undo_8, el_X10_undo_11, el_X10_undo_12, el_X10_undo_13, el_X10_undo_14, el_X10_undo_17, el_X10_undo_17i, el_X10_undo_18, el_X10_undo_21, el_X10_undo_22, el_X10_undo_23, el_X10_undo_26, el_X10_undo_30, el_X10_undo_31, el_X10_undo_34, el_X10_undo_37, gf_10_6, gf_8_0, pf_8_0, px_ifp, px_ifn, zh_1, zc_1, zc_2, zc_3, zc_4, zc_5, zc_6, zc_7, zc_8, zc_9, zc_10, zc_11, zc_12, zc_20, zc_21, zc_22, zp_1, zp_2, zp_3, zp_4, zp_5, zp_6, zp_7, zp_8, zp_9, zp_10, zp_11, zp_12, zp_20, zp_21, zp_22, upS_eq, upS_ne, upS_up, upz_eq, upz_ne, upz_up, px_al_aI, px_as_aI, px_as_aZ, px_as_aC, px_ln_aI, Option.toList, List.cons_append, List.nil_append, Int.reduceAdd, Int.reduceSub, Int.reduceMul, ↓reduceIte, Nat.reduceEqDiff, eq_self, Int.reduceEq, Int.reduceLT, Int.reduceLE, Int.reduceNe, Int.reduceNeg, Int.reduceToNat, ne_eq, not_true_eq_false, not_false_eq_true, t0, v0, v1, v2, v3, v4, v5, i0, hS1, el_X10_undo_27 (r2 ..) _ (zo_11 _) _, e2]))
    exact hQ
theorem o_image (h : cR T S x sA sB k F) : ∃ S', px_R 1 122 [.ref x] (zh T S c) (.inl none) (zh T S' c) ∧ (∀ a, (a < x ∨ x + 148 ≤ a) → S' a = S a) ∧ cR T S' x sA sB k (F.1, F.2.1, F.2.2.1, some F.2.1, F.2.2.2.2) := by
  have l10 := h.1.1
  obtain ⟨t0, tL1, tL3, tL6, tL9, tL17, tL25, tL34, tL40, tL46, tL55, tL132, tL145⟩ := id l10
  obtain ⟨v0, v1, v2, v3, v4, v5⟩ := id tL40
  have hC := c_copyState (T := T) (S := S) (c := c) (q := x + 40) (r := x + 34) tL40 tL34 (by omega)
  generalize hS1 : scpS S (x + 40) (x + 34) = S1 at hC
  have s1 : ∀ a, (a < x + 40 ∨ x + 46 ≤ a) → S1 a = S a := fun a h => by
    rw [← hS1]
    unfold scpS
    rw [upS_ne (by omega), upS_ne (by omega), upS_ne (by omega), upS_ne (by omega), upS_ne (by omega), upS_ne (by omega)]
  have cz : ∀ (f g : Nat → Int) (n j : Nat), j < n → cpz f g 0 0 n j = f j := by
    intro f g n j hj
    unfold cpz
    rw [if_pos (by omega), Nat.sub_zero, Nat.zero_add]
  have hl := (layM_I h.dO h.2.2.1.2.1.1).2.1
  obtain ⟨⟨i0, i1⟩, ⟨j0, j1, j2⟩, k0⟩ := h.2.2.1.1
  have q1 : stR S1 (x + 40) F.2.1 := by
    rw [← hS1]
    unfold scpS
    refine ⟨⟨?_, fun j hj => ?_⟩, ⟨?_, fun j hj => ?_, fun j hj => ?_⟩, fun j hj => ?_⟩
    · simp (disch := omega) only [upS_ne, upS_eq]
      exact i0
    · simp (disch := omega) only [upS_ne, upS_eq]
      rw [cz _ _ _ _ (by omega), cz _ _ _ _ (by omega)]
      exact i1 j hj
    · simp (disch := omega) only [upS_ne, upS_eq]
      exact j0
    · simp (disch := omega) only [upS_ne, upS_eq]
      rw [cz _ _ _ _ (by omega)]
      exact j1 j hj
    · simp (disch := omega) only [upS_ne, upS_eq]
      rw [cz _ _ _ _ (by omega)]
      exact j2 j hj
    · simp (disch := omega) only [upS_ne, upS_eq]
      rw [cz _ _ _ _ (by omega)]
      exact k0 j hj
  have hs := h.1.2.1
  generalize hS2 : upS S1 x (upz (S1 x) 8 1) = S2
  have s2 : ∀ a, a ≠ x → S2 a = S1 a := fun a h => by rw [← hS2, upS_ne h]
  have s2x : S2 x = upz (S x) 8 1 := by rw [← hS2, upS_eq, s1 x (by omega)]
  have al : ∀ a, a ≠ x → (a < x + 40 ∨ x + 46 ≤ a) → S2 a = S a := fun a h1 h2 => by rw [s2 a h1, s1 a h2]
  have gs : ∀ a, sA ≤ a → a < sA + 8 → S2 a = S a := fun a h1 h2 => al a (by omega) (by omega)
  obtain ⟨h1, ⟨a1, a2, a3, a4⟩, ⟨b1, b2, b3⟩, ⟨c1, c2, c3, c4, c5, c6, c7⟩, d1, ⟨e0, e1⟩, f0, f1⟩ := id h
  refine ⟨S2, px_ofQ fun Q hQ => ?_, fun a ha => al a (by omega) (by omega), h1, ⟨?_, ?_, a3.eq gs, fun j hj => ?_⟩, ⟨b1.eq (fun a h1 h2 => al a (by omega) (by omega)), b2, b3.eq (fun a h1 h2 => al a (by omega) (by omega))⟩, ⟨?_, ?_, ?_, c4, c5, ?_, c7⟩, .inr ⟨?_, F.2.1, rfl, q1.eq (fun a h1 h2 => s2 a (by omega)), b2⟩, ⟨fun i hi => ?_, ?_⟩, fun j hj => ?_, ?_⟩
  · (simp (disch := first | with_reducible assumption | omega | decide | (simp only [ps_low, List.map_cons, List.map_nil, Value.category, List.sum_cons, List.sum_nil]; decide)) only [el_X10_image_0, el_X10_image_1, el_X10_image_4, el_X10_image_5, el_X10_image_11, el_X10_image_12, el_X10_image_13, el_X10_image_16, gf_10_6, gf_10_7, pf_10_8, px_ifp, px_ifn, zh_1, zc_1, zc_2, zc_3, zc_4, zc_5, zc_6, zc_7, zc_8, zc_9, zc_10, zc_11, zc_12, zc_20, zc_21, zc_22, zp_1, zp_2, zp_3, zp_4, zp_5, zp_6, zp_7, zp_8, zp_9, zp_10, zp_11, zp_12, zp_20, zp_21, zp_22, upS_eq, upS_ne, upS_up, upz_eq, upz_ne, upz_up, px_al_aI, px_as_aI, px_as_aZ, px_as_aC, px_ln_aI, Option.toList, List.cons_append, List.nil_append, Int.reduceAdd, Int.reduceSub, Int.reduceMul, ↓reduceIte, Nat.reduceEqDiff, eq_self, Int.reduceEq, Int.reduceLT, Int.reduceLE, Int.reduceNe, Int.reduceNeg, Int.reduceToNat, ne_eq, not_true_eq_false, not_false_eq_true, t0, v0, v1, v2, v3, v4, v5, el_X10_image_8 (hC ..) _ (zo_9 _) _, hS2]; repeat (first | simp (disch := first | omega | decide) only [upz_srt, upy_upz, upz_up, upS_srt, upT_upS, upS_up] | simp (disch := first | with_reducible assumption | omega | decide | (simp only [ps_low, List.map_cons, List.map_nil, Value.category, List.sum_cons, List.sum_nil]; decide)) only [el_X10_image_0, el_X10_image_1, el_X10_image_4, el_X10_image_5, el_X10_image_11, el_X10_image_12, el_X10_image_13, el_X10_image_16, gf_10_6, gf_10_7, pf_10_8, px_ifp, px_ifn, zh_1, zc_1, zc_2, zc_3, zc_4, zc_5, zc_6, zc_7, zc_8, zc_9, zc_10, zc_11, zc_12, zc_20, zc_21, zc_22, zp_1, zp_2, zp_3, zp_4, zp_5, zp_6, zp_7, zp_8, zp_9, zp_10, zp_11, zp_12, zp_20, zp_21, zp_22, upS_eq, upS_ne, upS_up, upz_eq, upz_ne, upz_up, px_al_aI, px_as_aI, px_as_aZ, px_as_aC, px_ln_aI, Option.toList, List.cons_append, List.nil_append, Int.reduceAdd, Int.reduceSub, Int.reduceMul, ↓reduceIte, Nat.reduceEqDiff, eq_self, Int.reduceEq, Int.reduceLT, Int.reduceLE, Int.reduceNe, Int.reduceNeg, Int.reduceToNat, ne_eq, not_true_eq_false, not_false_eq_true, t0, v0, v1, v2, v3, v4, v5, el_X10_image_8 (hC ..) _ (zo_9 _) _, hS2]))
    exact hQ
  · rw [s2x]
    exact a1
  · rw [s2x]
    exact a2
  · rw [gs _ (by omega) (by omega)]
    exact a4 j hj
  · rw [al _ (by omega) (by omega)]
    exact c1
  · rw [al _ (by omega) (by omega)]
    exact c2
  · rw [al _ (by omega) (by omega)]
    exact c3
  · rw [s2x]
    exact c6
  · rw [s2x]
    rfl
  · rw [al _ (by omega) (by omega)]
    exact e0 i hi
  · rw [al (x + 55) (by omega) (by omega), al (x + 56) (by omega) (by omega)]
    exact e1
  · rw [al _ (by omega) (by omega)]
    exact f0 j hj
  · rw [al (x + 133) (by omega) (by omega), al (x + 134) (by omega) (by omega)]
    exact f1
theorem o_restore (h : cR T S x sA sB k F) : opR 5 123 [.ref x] T S c x k (fun r F' => (F.2.2.2.1 = none ∧ r = .inl 0 ∧ F' = F) ∨ ∃ J, F.2.2.2.1 = some J ∧ r = .inl 1 ∧ F' = (F.1, J, F.2.2)) := by
  have l10 := h.1.1
  obtain ⟨t0, tL1, tL3, tL6, tL9, tL17, tL25, tL34, tL40, tL46, tL55, tL132, tL145⟩ := id l10
  obtain ⟨v0, v1, v2, v3, v4, v5⟩ := id tL34
  rcases h.2.2.2.2.1 with ⟨d1, d2⟩ | ⟨d1, J, d2, d3, d4⟩
  · refine opR_val (S' := S) (v := 0) (px_ofQ fun Q hQ => ?_) (fun a _ => rfl) h (.inl ⟨d2, rfl, rfl⟩)
    (simp (disch := first | with_reducible assumption | omega | decide | (simp only [ps_low, List.map_cons, List.map_nil, Value.category, List.sum_cons, List.sum_nil]; decide)) only [el_X10_restore_0, el_X10_restore_1, el_X10_restore_4, el_X10_restore_7, el_X10_restore_8, el_X10_restore_9, el_X10_restore_10, el_X10_restore_13, el_X10_restore_14, el_X10_restore_20, el_X10_restore_24, el_X10_restore_25, gf_10_6, gf_10_7, gf_10_8, px_ifp, px_ifn, zh_1, zc_1, zc_2, zc_3, zc_4, zc_5, zc_6, zc_7, zc_8, zc_9, zc_10, zc_11, zc_12, zc_20, zc_21, zc_22, zp_1, zp_2, zp_3, zp_4, zp_5, zp_6, zp_7, zp_8, zp_9, zp_10, zp_11, zp_12, zp_20, zp_21, zp_22, upS_eq, upS_ne, upS_up, upz_eq, upz_ne, upz_up, px_al_aI, px_as_aI, px_as_aZ, px_as_aC, px_ln_aI, Option.toList, List.cons_append, List.nil_append, Int.reduceAdd, Int.reduceSub, Int.reduceMul, ↓reduceIte, Nat.reduceEqDiff, eq_self, Int.reduceEq, Int.reduceLT, Int.reduceLE, Int.reduceNe, Int.reduceNeg, Int.reduceToNat, ne_eq, not_true_eq_false, not_false_eq_true, t0, v0, v1, v2, v3, v4, v5, d1]; repeat (first | simp (disch := first | omega | decide) only [upz_srt, upy_upz, upz_up, upS_srt, upT_upS, upS_up] | simp (disch := first | with_reducible assumption | omega | decide | (simp only [ps_low, List.map_cons, List.map_nil, Value.category, List.sum_cons, List.sum_nil]; decide)) only [el_X10_restore_0, el_X10_restore_1, el_X10_restore_4, el_X10_restore_7, el_X10_restore_8, el_X10_restore_9, el_X10_restore_10, el_X10_restore_13, el_X10_restore_14, el_X10_restore_20, el_X10_restore_24, el_X10_restore_25, gf_10_6, gf_10_7, gf_10_8, px_ifp, px_ifn, zh_1, zc_1, zc_2, zc_3, zc_4, zc_5, zc_6, zc_7, zc_8, zc_9, zc_10, zc_11, zc_12, zc_20, zc_21, zc_22, zp_1, zp_2, zp_3, zp_4, zp_5, zp_6, zp_7, zp_8, zp_9, zp_10, zp_11, zp_12, zp_20, zp_21, zp_22, upS_eq, upS_ne, upS_up, upz_eq, upz_ne, upz_up, px_al_aI, px_as_aI, px_as_aZ, px_as_aC, px_ln_aI, Option.toList, List.cons_append, List.nil_append, Int.reduceAdd, Int.reduceSub, Int.reduceMul, ↓reduceIte, Nat.reduceEqDiff, eq_self, Int.reduceEq, Int.reduceLT, Int.reduceLE, Int.reduceNe, Int.reduceNeg, Int.reduceToNat, ne_eq, not_true_eq_false, not_false_eq_true, t0, v0, v1, v2, v3, v4, v5, d1]))
    exact hQ
  · have hC := c_copyState (T := T) (S := S) (c := c) (q := x + 34) (r := x + 40) tL34 tL40 (by omega)
    generalize hS1 : scpS S (x + 34) (x + 40) = S1 at hC
    have s1 : ∀ a, (a < x + 34 ∨ x + 40 ≤ a) → S1 a = S a := fun a h => by
      rw [← hS1]
      unfold scpS
      rw [upS_ne (by omega), upS_ne (by omega), upS_ne (by omega), upS_ne (by omega), upS_ne (by omega), upS_ne (by omega)]
    have cz : ∀ (f g : Nat → Int) (n j : Nat), j < n → cpz f g 0 0 n j = f j := by
      intro f g n j hj
      unfold cpz
      rw [if_pos (by omega), Nat.sub_zero, Nat.zero_add]
    have hl := (layM_I h.dO d4.1).2.1
    obtain ⟨⟨i0, i1⟩, ⟨j0, j1, j2⟩, k0⟩ := d3
    have q1 : stR S1 (x + 34) J := by
      rw [← hS1]
      unfold scpS
      refine ⟨⟨?_, fun j hj => ?_⟩, ⟨?_, fun j hj => ?_, fun j hj => ?_⟩, fun j hj => ?_⟩
      · simp (disch := omega) only [upS_ne, upS_eq]
        exact i0
      · simp (disch := omega) only [upS_ne, upS_eq]
        rw [cz _ _ _ _ (by omega), cz _ _ _ _ (by omega)]
        exact i1 j hj
      · simp (disch := omega) only [upS_ne, upS_eq]
        exact j0
      · simp (disch := omega) only [upS_ne, upS_eq]
        rw [cz _ _ _ _ (by omega)]
        exact j1 j hj
      · simp (disch := omega) only [upS_ne, upS_eq]
        rw [cz _ _ _ _ (by omega)]
        exact j2 j hj
      · simp (disch := omega) only [upS_ne, upS_eq]
        rw [cz _ _ _ _ (by omega)]
        exact k0 j hj
    have hs := h.1.2.1
    have es : S1 sA = F.1 0 := by rw [s1 _ (by omega)]; exact h.sA0
    obtain ⟨S2, r2, f2, q2⟩ := k_layAnew (c := c) l10 hs (by rw [s1 x (by omega)]; exact h.2.1.1) es h.dO q1 d4.1
    refine opR_val (S' := S2) (v := 1) (sA := sA) (sB := sB) (px_ofQ fun Q hQ => ?_) (fun a ha => by rw [f2 a (by omega), s1 a (by omega)]) (h.state ⟨Int.le_refl _, h.1.2.2.2⟩ (fun a h1 h2 h3 h4 h5 => by rw [f2 a (by omega), s1 a (by omega)]) (q1.eq (fun a h1 h2 => f2 a (by omega))) d4 q2) (.inr ⟨J, d2, rfl, rfl⟩)
    (simp (disch := first | with_reducible assumption | omega | decide | (simp only [ps_low, List.map_cons, List.map_nil, Value.category, List.sum_cons, List.sum_nil]; decide)) only [el_X10_restore_0, el_X10_restore_1, el_X10_restore_4, el_X10_restore_7, el_X10_restore_8, el_X10_restore_9, el_X10_restore_10, el_X10_restore_13, el_X10_restore_14, el_X10_restore_20, el_X10_restore_24, el_X10_restore_25, gf_10_6, gf_10_7, gf_10_8, px_ifp, px_ifn, zh_1, zc_1, zc_2, zc_3, zc_4, zc_5, zc_6, zc_7, zc_8, zc_9, zc_10, zc_11, zc_12, zc_20, zc_21, zc_22, zp_1, zp_2, zp_3, zp_4, zp_5, zp_6, zp_7, zp_8, zp_9, zp_10, zp_11, zp_12, zp_20, zp_21, zp_22, upS_eq, upS_ne, upS_up, upz_eq, upz_ne, upz_up, px_al_aI, px_as_aI, px_as_aZ, px_as_aC, px_ln_aI, Option.toList, List.cons_append, List.nil_append, Int.reduceAdd, Int.reduceSub, Int.reduceMul, ↓reduceIte, Nat.reduceEqDiff, eq_self, Int.reduceEq, Int.reduceLT, Int.reduceLE, Int.reduceNe, Int.reduceNeg, Int.reduceToNat, ne_eq, not_true_eq_false, not_false_eq_true, t0, v0, v1, v2, v3, v4, v5, d1, el_X10_restore_17 (hC ..) _ (zo_9 _) _, el_X10_restore_21 (r2 ..) _ (zo_11 _) _]; repeat (first | simp (disch := first | omega | decide) only [upz_srt, upy_upz, upz_up, upS_srt, upT_upS, upS_up] | simp (disch := first | with_reducible assumption | omega | decide | (simp only [ps_low, List.map_cons, List.map_nil, Value.category, List.sum_cons, List.sum_nil]; decide)) only [el_X10_restore_0, el_X10_restore_1, el_X10_restore_4, el_X10_restore_7, el_X10_restore_8, el_X10_restore_9, el_X10_restore_10, el_X10_restore_13, el_X10_restore_14, el_X10_restore_20, el_X10_restore_24, el_X10_restore_25, gf_10_6, gf_10_7, gf_10_8, px_ifp, px_ifn, zh_1, zc_1, zc_2, zc_3, zc_4, zc_5, zc_6, zc_7, zc_8, zc_9, zc_10, zc_11, zc_12, zc_20, zc_21, zc_22, zp_1, zp_2, zp_3, zp_4, zp_5, zp_6, zp_7, zp_8, zp_9, zp_10, zp_11, zp_12, zp_20, zp_21, zp_22, upS_eq, upS_ne, upS_up, upz_eq, upz_ne, upz_up, px_al_aI, px_as_aI, px_as_aZ, px_as_aC, px_ln_aI, Option.toList, List.cons_append, List.nil_append, Int.reduceAdd, Int.reduceSub, Int.reduceMul, ↓reduceIte, Nat.reduceEqDiff, eq_self, Int.reduceEq, Int.reduceLT, Int.reduceLE, Int.reduceNe, Int.reduceNeg, Int.reduceToNat, ne_eq, not_true_eq_false, not_false_eq_true, t0, v0, v1, v2, v3, v4, v5, d1, el_X10_restore_17 (hC ..) _ (zo_9 _) _, el_X10_restore_21 (r2 ..) _ (zo_11 _) _]))
    exact hQ
end FACE
