/-! A SCHOOL'S TEXT, 4: readLine, read -/
theorem eO_z {e : Nat → Int} {n k : Nat} (h : ∀ j, j < n → e j = 0 ∨ e j = 1) : ∀ j, j < n → upz e k 1 j = 0 ∨ upz e k 1 j = 1 := by
  intro j hj
  unfold upz
  split
  · exact .inr rfl
  · exact h j hj
theorem pO_E0 {E : Nat → Nat → Int} {k : Nat} (h : (∀ j, j < 3 → E 0 j = 0 ∨ E 0 j = 1) ∧ ∀ k j, 1 ≤ k → k ≤ 2 → j < 10 → E k j = 0 ∨ E k j = 1) : (∀ j, j < 3 → upR E 0 (upz (E 0) k 1) 0 j = 0 ∨ upR E 0 (upz (E 0) k 1) 0 j = 1) ∧ ∀ i j, 1 ≤ i → i ≤ 2 → j < 10 → upR E 0 (upz (E 0) k 1) i j = 0 ∨ upR E 0 (upz (E 0) k 1) i j = 1 := by
  refine ⟨fun j hj => ?_, fun i j h1 h2 hj => ?_⟩
  · rw [upR_eq]
    exact eO_z h.1 j hj
  · rw [upR_ne (by omega)]
    exact h.2 i j h1 h2 hj
theorem pO_E1 {E : Nat → Nat → Int} {r k : Nat} (hr : 1 ≤ r ∧ r ≤ 2) (h : (∀ j, j < 3 → E 0 j = 0 ∨ E 0 j = 1) ∧ ∀ k j, 1 ≤ k → k ≤ 2 → j < 10 → E k j = 0 ∨ E k j = 1) : (∀ j, j < 3 → upR E r (upz (E r) k 1) 0 j = 0 ∨ upR E r (upz (E r) k 1) 0 j = 1) ∧ ∀ i j, 1 ≤ i → i ≤ 2 → j < 10 → upR E r (upz (E r) k 1) i j = 0 ∨ upR E r (upz (E r) k 1) i j = 1 := by
  refine ⟨fun j hj => ?_, fun i j h1 h2 hj => ?_⟩
  · rw [upR_ne (by omega)]
    exact h.1 j hj
  · by_cases e : i = r
    · subst e
      rw [upR_eq]
      exact eO_z (fun j hj => h.2 i j h1 h2 hj) j hj
    · rw [upR_ne e]
      exact h.2 i j h1 h2 hj
theorem pO_sheet {b : Nat → Int} {P : pS} (h : pO P) : pO (rdSheet b P) := ⟨tpF_tn (tpF_tn (tpF_adv (tpF_r3 h.1).A)), h.2.1, h.2.2.1, pO_E0 h.2.2.2⟩
theorem pO_tower {b : Nat → Int} {P : pS} (h : pO P) : pO (rdTower b P) := ⟨tpF_tn (tpF_adv (tpF_r3 h.1).A), h.2.1, h.2.2.1, pO_E0 h.2.2.2⟩
theorem pO_window {b : Nat → Int} {P : pS} (h : pO P) : pO (rdWindow b P) := ⟨tpF_tn (tpF_tn (tpF_tn (tpF_adv (tpF_r3 h.1).A))), h.2.1, h.2.2.1, pO_E0 h.2.2.2⟩
theorem pO_table {b : Nat → Int} {P : pS} (h : pO P) : pO (rdTable b P) := ⟨tpF_tn (tpF_tn (tpF_ut (tpF_adv h.1.A))), h.2.1, h.2.2.1, pO_E1 (r := 1) (k := utV (adv b P.1)) (by decide) h.2.2.2⟩
theorem pO_wind {b : Nat → Int} {P : pS} (h : pO P) : pO (rdWind b P) := by
  refine ⟨?_, h.2.1, h.2.2.1, pO_E1 (r := 2) (k := utV (adv b P.1)) (by decide) h.2.2.2⟩
  unfold rdWind
  dsimp only
  split
  · exact tpF_tn (tpF_tg (tpF_tg (tpF_ut (tpF_adv h.1.A))))
  · exact tpF_tg (tpF_tg (tpF_ut (tpF_adv h.1.A)))
theorem pO_known {b : Nat → Int} {P : pS} (h : pO P) : pO (rdKnown b P) := by
  obtain ⟨o1, o2, o3, o4⟩ := h
  have f1 : tpF (if 10 ≤ P.2.1 0 6 then rfF 2 P.1 else P.1) := by
    split
    · exact tpF_rf o1 (by decide)
    · exact o1
  have f4 := tpF_nh (lo := 1) (hi := 4) (tpF_ts (b := b) (tpF_adv (b := b) f1.A))
  have w3 := tsV_r (b := b) (F := adv b (if 10 ≤ P.2.1 0 6 then rfF 2 P.1 else P.1))
  have w4 := nhV_r (lo := 1) (hi := 4) (F := tsF b (adv b (if 10 ≤ P.2.1 0 6 then rfF 2 P.1 else P.1))) (by decide)
  unfold rdKnown
  dsimp only
  generalize tsV b (adv b (if 10 ≤ P.2.1 0 6 then rfF 2 P.1 else P.1)) = V1 at *
  generalize nhV 1 4 (tsF b (adv b (if 10 ≤ P.2.1 0 6 then rfF 2 P.1 else P.1))) = V2 at *
  generalize nhF 1 4 (tsF b (adv b (if 10 ≤ P.2.1 0 6 then rfF 2 P.1 else P.1))) = F4 at *
  refine ⟨tpF_adv (tpF.A ?_), ?_, ?_, o4⟩
  · split
    · exact tpF_rf f4 (by decide)
    · exact f4
  · change 0 ≤ adK P.2.1 V1 V2 0 6 ∧ adK P.2.1 V1 V2 0 6 ≤ 10
    unfold adK
    by_cases g : P.2.1 0 6 < 10
    · rw [if_pos g]
      change 0 ≤ P.2.1 0 6 + 1 ∧ P.2.1 0 6 + 1 ≤ 10
      omega
    · rw [if_neg g]
      exact o2
  · intro i hi
    change (i : Int) < adK P.2.1 V1 V2 0 6 at hi
    change (0 ≤ adK P.2.1 V1 V2 6 i ∧ adK P.2.1 V1 V2 6 i ≤ 3) ∧ 1 ≤ adK P.2.1 V1 V2 7 i ∧ adK P.2.1 V1 V2 7 i ≤ 4
    unfold adK at hi ⊢
    by_cases g : P.2.1 0 6 < 10
    · rw [if_pos g] at hi ⊢
      replace hi : (i : Int) < P.2.1 0 6 + 1 := hi
      have e6 : upR (upR (upR P.2.1 0 (upz (P.2.1 0) 6 (P.2.1 0 6 + 1))) 6 (upz (P.2.1 6) (P.2.1 0 6).toNat V1)) 7 (upz (P.2.1 7) (P.2.1 0 6).toNat V2) 6 = upz (P.2.1 6) (P.2.1 0 6).toNat V1 := rfl
      have e7 : upR (upR (upR P.2.1 0 (upz (P.2.1 0) 6 (P.2.1 0 6 + 1))) 6 (upz (P.2.1 6) (P.2.1 0 6).toNat V1)) 7 (upz (P.2.1 7) (P.2.1 0 6).toNat V2) 7 = upz (P.2.1 7) (P.2.1 0 6).toNat V2 := rfl
      rw [e6, e7]
      by_cases hi2 : i = (P.2.1 0 6).toNat
      · rw [hi2, upz_eq, upz_eq]
        omega
      · rw [upz_ne hi2, upz_ne hi2]
        exact o3 i (by omega)
    · rw [if_neg g] at hi ⊢
      exact o3 i hi
def rdOne (b : Nat → Int) (P : pS) : pS := if wdB b P.1 (po_code 4) = true then rdSheet b P else if wdB b P.1 (po_code 5) = true then rdTable b P else if wdB b P.1 (po_code 6) = true then rdWind b P else if wdB b P.1 (po_code 7) = true then rdTower b P
    else if wdB b P.1 (po_code 8) = true then rdWindow b P else if wdB b P.1 (po_code 9) = true then rdKnown b P else (rfF 1 P.1, P.2)
theorem rdLine_eq {b : Nat → Int} {P : pS} : rdLine b P = (smF b (rdOne b P).1, (rdOne b P).2) := rfl
theorem pO_one {b : Nat → Int} {P : pS} (h : pO P) : pO (rdOne b P) := by
  unfold rdOne
  split
  · exact pO_sheet h
  · split
    · exact pO_table h
    · split
      · exact pO_wind h
      · split
        · exact pO_tower h
        · split
          · exact pO_window h
          · split
            · exact pO_known h
            · exact ⟨tpF_rf h.1 (by decide), h.2⟩
theorem pO_line {b : Nat → Int} {P : pS} (h : pO P) : pO (rdLine b P) := by
  rw [rdLine_eq]
  have := pO_one (b := b) h
  exact ⟨tpF_sm this.1, this.2⟩
theorem c_readLine {T : Nat → Nat × Nat} {S : Nat → Nat → Int} {c : pm_M × pm_C} {t s x : Nat} {b : Nat → Int} {P : pS} (hL : pL T t s x) (hP : pR S t s x b P) (hO : pO P) (hb : tpB b) (hC : tcx c.2) :
    ∃ S', px_R 7 37 [.ref x, .ref t, .ref s] (zh T S c) (.inl none) (zh T S' c) ∧ pFr t s x S S' ∧ pR S' t s x b (rdLine b P) := by
  have hL0 := hL
  obtain ⟨l9, l4, l5, d1, d2, d3⟩ := hL
  obtain ⟨t0, t1⟩ := id l9
  obtain ⟨u0, u1, u2, u3, u4, u5, u6, u7⟩ := id l4
  obtain ⟨v0, v1, v2⟩ := id l5
  have hP0 := hP
  obtain ⟨p1, p2, p3, p4⟩ := hP
  have w4 := zz_word (c := c) (i := 4) l9 p1 p2 hO.1 hb hC (by decide)
  have w5 := zz_word (c := c) (i := 5) l9 p1 p2 hO.1 hb hC (by decide)
  have w6 := zz_word (c := c) (i := 6) l9 p1 p2 hO.1 hb hC (by decide)
  have w7 := zz_word (c := c) (i := 7) l9 p1 p2 hO.1 hb hC (by decide)
  have w8 := zz_word (c := c) (i := 8) l9 p1 p2 hO.1 hb hC (by decide)
  have w9 := zz_word (c := c) (i := 9) l9 p1 p2 hO.1 hb hC (by decide)
  rw [rdLine_eq]
  have fin : ∀ (S1 : Nat → Nat → Int) (P1 : pS), pFr t s x S S1 → pR S1 t s x b P1 → tpF P1.1 → (∀ Q, px_Ev 7 37 113 [.ref x, .ref t, .ref s] [] (zh T S1 c) Q → px_Ev 7 37 0 [.ref x, .ref t, .ref s] [] (zh T S c) Q) →
      ∃ S', px_R 7 37 [.ref x, .ref t, .ref s] (zh T S c) (.inl none) (zh T S' c) ∧ pFr t s x S S' ∧ pR S' t s x b (smF b P1.1, P1.2) := by
    intro S1 P1 f1 q1 o1 run
    obtain ⟨k1, k2, k3, k4⟩ := q1
    obtain ⟨S2, r2, q2, g2⟩ := zz_sem (c := c) l9 k1 k2 o1 hb
    refine ⟨S2, px_ofQ fun Q hQ => run Q ?_, fun a h1 h2 h3 => (g2 a h1).trans (f1 a h1 h2 h3), q2, by rw [g2 _ (by omega)]; exact k2, fun k hk => by rw [g2 _ (by omega)]; exact k3 k hk, fun k hk => by rw [g2 _ (by omega)]; exact k4 k hk⟩
    (simp (disch := first | with_reducible assumption | omega | decide | (simp only [ps_low, List.map_cons, List.map_nil, Value.category, List.sum_cons, List.sum_nil]; decide)) only [el_X5_readLine_113, el_X5_readLine_117, px_ifp, px_ifn, zh_1, zc_1, zc_2, zc_3, zc_4, zc_5, zc_6, zc_7, zc_8, zc_9, zc_10, zc_11, zc_12, zc_20, zc_21, zc_22, zp_1, zp_2, zp_3, zp_4, zp_5, zp_6, zp_7, zp_8, zp_9, zp_10, zp_11, zp_12, zp_20, zp_21, zp_22, upS_eq, upS_ne, upS_up, upz_eq, upz_ne, upz_up, px_al_aI, px_as_aI, px_as_aZ, px_as_aC, px_ln_aI, Option.toList, List.cons_append, List.nil_append, Int.reduceAdd, Int.reduceSub, Int.reduceMul, ↓reduceIte, Nat.reduceEqDiff, eq_self, Int.reduceEq, Int.reduceLT, Int.reduceLE, Int.reduceNe, Int.reduceNeg, Int.reduceToNat, ne_eq, not_true_eq_false, not_false_eq_true, t0, t1, u0, u1, u2, u3, u4, u5, u6, u7, v0, v1, v2, el_X5_readLine_114 (r2 ..) _ (zo_10 _) _]; repeat (first | simp (disch := first | omega | decide) only [upz_srt, upy_upz, upz_up, upS_srt, upT_upS, upS_up] | simp (disch := first | with_reducible assumption | omega | decide | (simp only [ps_low, List.map_cons, List.map_nil, Value.category, List.sum_cons, List.sum_nil]; decide)) only [el_X5_readLine_113, el_X5_readLine_117, px_ifp, px_ifn, zh_1, zc_1, zc_2, zc_3, zc_4, zc_5, zc_6, zc_7, zc_8, zc_9, zc_10, zc_11, zc_12, zc_20, zc_21, zc_22, zp_1, zp_2, zp_3, zp_4, zp_5, zp_6, zp_7, zp_8, zp_9, zp_10, zp_11, zp_12, zp_20, zp_21, zp_22, upS_eq, upS_ne, upS_up, upz_eq, upz_ne, upz_up, px_al_aI, px_as_aI, px_as_aZ, px_as_aC, px_ln_aI, Option.toList, List.cons_append, List.nil_append, Int.reduceAdd, Int.reduceSub, Int.reduceMul, ↓reduceIte, Nat.reduceEqDiff, eq_self, Int.reduceEq, Int.reduceLT, Int.reduceLE, Int.reduceNe, Int.reduceNeg, Int.reduceToNat, ne_eq, not_true_eq_false, not_false_eq_true, t0, t1, u0, u1, u2, u3, u4, u5, u6, u7, v0, v1, v2, el_X5_readLine_114 (r2 ..) _ (zo_10 _) _]))
    exact hQ
  have hO1 := pO_one (b := b) hO
  unfold rdOne at hO1 ⊢
  by_cases b4 : wdB b P.1 (po_code 4) = true
  · rw [if_pos b4] at w4 hO1 ⊢
    obtain ⟨S1, r1, f1, q1⟩ := c_readSheet (c := c) hL0 hP0 hO hb
    have r1' := px_R_up r1 2
    refine fin S1 _ f1 q1 hO1.1 (fun Q hQ => ?_)
    (simp (disch := first | with_reducible assumption | omega | decide | (simp only [ps_low, List.map_cons, List.map_nil, Value.category, List.sum_cons, List.sum_nil]; decide)) only [el_X5_readLine_0, el_X5_readLine_1, el_X5_readLine_6, el_X5_readLine_9, el_X5_readLine_10, el_X5_readLine_11, el_X5_readLine_15, el_X5_readLine_18, el_X5_readLine_19, el_X5_readLine_24, el_X5_readLine_27, el_X5_readLine_28, el_X5_readLine_29, el_X5_readLine_33, el_X5_readLine_36, el_X5_readLine_37, el_X5_readLine_42, el_X5_readLine_45, el_X5_readLine_46, el_X5_readLine_47, el_X5_readLine_51, el_X5_readLine_54, el_X5_readLine_55, el_X5_readLine_60, el_X5_readLine_63, el_X5_readLine_64, el_X5_readLine_65, el_X5_readLine_69, el_X5_readLine_72, el_X5_readLine_73, el_X5_readLine_78, el_X5_readLine_81, el_X5_readLine_82, el_X5_readLine_83, el_X5_readLine_87, el_X5_readLine_90, el_X5_readLine_91, el_X5_readLine_96, el_X5_readLine_99, el_X5_readLine_100, el_X5_readLine_101, el_X5_readLine_105, el_X5_readLine_108, el_X5_readLine_109, px_ifp, px_ifn, zh_1, zc_1, zc_2, zc_3, zc_4, zc_5, zc_6, zc_7, zc_8, zc_9, zc_10, zc_11, zc_12, zc_20, zc_21, zc_22, zp_1, zp_2, zp_3, zp_4, zp_5, zp_6, zp_7, zp_8, zp_9, zp_10, zp_11, zp_12, zp_20, zp_21, zp_22, upS_eq, upS_ne, upS_up, upz_eq, upz_ne, upz_up, px_al_aI, px_as_aI, px_as_aZ, px_as_aC, px_ln_aI, Option.toList, List.cons_append, List.nil_append, Int.reduceAdd, Int.reduceSub, Int.reduceMul, ↓reduceIte, Nat.reduceEqDiff, eq_self, Int.reduceEq, Int.reduceLT, Int.reduceLE, Int.reduceNe, Int.reduceNeg, Int.reduceToNat, ne_eq, not_true_eq_false, not_false_eq_true, t0, t1, u0, u1, u2, u3, u4, u5, u6, u7, v0, v1, v2, zh_cst, el_X5_readLine_3 (w4 ..) _ (zo_10 _) _, el_X5_readLine_12 (r1' ..) _ (zo_6 _) _]; repeat (first | simp (disch := first | omega | decide) only [upz_srt, upy_upz, upz_up, upS_srt, upT_upS, upS_up] | simp (disch := first | with_reducible assumption | omega | decide | (simp only [ps_low, List.map_cons, List.map_nil, Value.category, List.sum_cons, List.sum_nil]; decide)) only [el_X5_readLine_0, el_X5_readLine_1, el_X5_readLine_6, el_X5_readLine_9, el_X5_readLine_10, el_X5_readLine_11, el_X5_readLine_15, el_X5_readLine_18, el_X5_readLine_19, el_X5_readLine_24, el_X5_readLine_27, el_X5_readLine_28, el_X5_readLine_29, el_X5_readLine_33, el_X5_readLine_36, el_X5_readLine_37, el_X5_readLine_42, el_X5_readLine_45, el_X5_readLine_46, el_X5_readLine_47, el_X5_readLine_51, el_X5_readLine_54, el_X5_readLine_55, el_X5_readLine_60, el_X5_readLine_63, el_X5_readLine_64, el_X5_readLine_65, el_X5_readLine_69, el_X5_readLine_72, el_X5_readLine_73, el_X5_readLine_78, el_X5_readLine_81, el_X5_readLine_82, el_X5_readLine_83, el_X5_readLine_87, el_X5_readLine_90, el_X5_readLine_91, el_X5_readLine_96, el_X5_readLine_99, el_X5_readLine_100, el_X5_readLine_101, el_X5_readLine_105, el_X5_readLine_108, el_X5_readLine_109, px_ifp, px_ifn, zh_1, zc_1, zc_2, zc_3, zc_4, zc_5, zc_6, zc_7, zc_8, zc_9, zc_10, zc_11, zc_12, zc_20, zc_21, zc_22, zp_1, zp_2, zp_3, zp_4, zp_5, zp_6, zp_7, zp_8, zp_9, zp_10, zp_11, zp_12, zp_20, zp_21, zp_22, upS_eq, upS_ne, upS_up, upz_eq, upz_ne, upz_up, px_al_aI, px_as_aI, px_as_aZ, px_as_aC, px_ln_aI, Option.toList, List.cons_append, List.nil_append, Int.reduceAdd, Int.reduceSub, Int.reduceMul, ↓reduceIte, Nat.reduceEqDiff, eq_self, Int.reduceEq, Int.reduceLT, Int.reduceLE, Int.reduceNe, Int.reduceNeg, Int.reduceToNat, ne_eq, not_true_eq_false, not_false_eq_true, t0, t1, u0, u1, u2, u3, u4, u5, u6, u7, v0, v1, v2, zh_cst, el_X5_readLine_3 (w4 ..) _ (zo_10 _) _, el_X5_readLine_12 (r1' ..) _ (zo_6 _) _]))
    exact hQ
  rw [if_neg b4] at w4 hO1 ⊢
  by_cases b5 : wdB b P.1 (po_code 5) = true
  · rw [if_pos b5] at w5 hO1 ⊢
    obtain ⟨S1, r1, f1, q1⟩ := c_readTable (c := c) hL0 hP0 hO hb
    have r1' := px_R_up r1 2
    refine fin S1 _ f1 q1 hO1.1 (fun Q hQ => ?_)
    (simp (disch := first | with_reducible assumption | omega | decide | (simp only [ps_low, List.map_cons, List.map_nil, Value.category, List.sum_cons, List.sum_nil]; decide)) only [el_X5_readLine_0, el_X5_readLine_1, el_X5_readLine_6, el_X5_readLine_9, el_X5_readLine_10, el_X5_readLine_11, el_X5_readLine_15, el_X5_readLine_18, el_X5_readLine_19, el_X5_readLine_24, el_X5_readLine_27, el_X5_readLine_28, el_X5_readLine_29, el_X5_readLine_33, el_X5_readLine_36, el_X5_readLine_37, el_X5_readLine_42, el_X5_readLine_45, el_X5_readLine_46, el_X5_readLine_47, el_X5_readLine_51, el_X5_readLine_54, el_X5_readLine_55, el_X5_readLine_60, el_X5_readLine_63, el_X5_readLine_64, el_X5_readLine_65, el_X5_readLine_69, el_X5_readLine_72, el_X5_readLine_73, el_X5_readLine_78, el_X5_readLine_81, el_X5_readLine_82, el_X5_readLine_83, el_X5_readLine_87, el_X5_readLine_90, el_X5_readLine_91, el_X5_readLine_96, el_X5_readLine_99, el_X5_readLine_100, el_X5_readLine_101, el_X5_readLine_105, el_X5_readLine_108, el_X5_readLine_109, px_ifp, px_ifn, zh_1, zc_1, zc_2, zc_3, zc_4, zc_5, zc_6, zc_7, zc_8, zc_9, zc_10, zc_11, zc_12, zc_20, zc_21, zc_22, zp_1, zp_2, zp_3, zp_4, zp_5, zp_6, zp_7, zp_8, zp_9, zp_10, zp_11, zp_12, zp_20, zp_21, zp_22, upS_eq, upS_ne, upS_up, upz_eq, upz_ne, upz_up, px_al_aI, px_as_aI, px_as_aZ, px_as_aC, px_ln_aI, Option.toList, List.cons_append, List.nil_append, Int.reduceAdd, Int.reduceSub, Int.reduceMul, ↓reduceIte, Nat.reduceEqDiff, eq_self, Int.reduceEq, Int.reduceLT, Int.reduceLE, Int.reduceNe, Int.reduceNeg, Int.reduceToNat, ne_eq, not_true_eq_false, not_false_eq_true, t0, t1, u0, u1, u2, u3, u4, u5, u6, u7, v0, v1, v2, zh_cst, el_X5_readLine_3 (w4 ..) _ (zo_10 _) _, el_X5_readLine_21 (w5 ..) _ (zo_10 _) _, el_X5_readLine_30 (r1' ..) _ (zo_6 _) _]; repeat (first | simp (disch := first | omega | decide) only [upz_srt, upy_upz, upz_up, upS_srt, upT_upS, upS_up] | simp (disch := first | with_reducible assumption | omega | decide | (simp only [ps_low, List.map_cons, List.map_nil, Value.category, List.sum_cons, List.sum_nil]; decide)) only [el_X5_readLine_0, el_X5_readLine_1, el_X5_readLine_6, el_X5_readLine_9, el_X5_readLine_10, el_X5_readLine_11, el_X5_readLine_15, el_X5_readLine_18, el_X5_readLine_19, el_X5_readLine_24, el_X5_readLine_27, el_X5_readLine_28, el_X5_readLine_29, el_X5_readLine_33, el_X5_readLine_36, el_X5_readLine_37, el_X5_readLine_42, el_X5_readLine_45, el_X5_readLine_46, el_X5_readLine_47, el_X5_readLine_51, el_X5_readLine_54, el_X5_readLine_55, el_X5_readLine_60, el_X5_readLine_63, el_X5_readLine_64, el_X5_readLine_65, el_X5_readLine_69, el_X5_readLine_72, el_X5_readLine_73, el_X5_readLine_78, el_X5_readLine_81, el_X5_readLine_82, el_X5_readLine_83, el_X5_readLine_87, el_X5_readLine_90, el_X5_readLine_91, el_X5_readLine_96, el_X5_readLine_99, el_X5_readLine_100, el_X5_readLine_101, el_X5_readLine_105, el_X5_readLine_108, el_X5_readLine_109, px_ifp, px_ifn, zh_1, zc_1, zc_2, zc_3, zc_4, zc_5, zc_6, zc_7, zc_8, zc_9, zc_10, zc_11, zc_12, zc_20, zc_21, zc_22, zp_1, zp_2, zp_3, zp_4, zp_5, zp_6, zp_7, zp_8, zp_9, zp_10, zp_11, zp_12, zp_20, zp_21, zp_22, upS_eq, upS_ne, upS_up, upz_eq, upz_ne, upz_up, px_al_aI, px_as_aI, px_as_aZ, px_as_aC, px_ln_aI, Option.toList, List.cons_append, List.nil_append, Int.reduceAdd, Int.reduceSub, Int.reduceMul, ↓reduceIte, Nat.reduceEqDiff, eq_self, Int.reduceEq, Int.reduceLT, Int.reduceLE, Int.reduceNe, Int.reduceNeg, Int.reduceToNat, ne_eq, not_true_eq_false, not_false_eq_true, t0, t1, u0, u1, u2, u3, u4, u5, u6, u7, v0, v1, v2, zh_cst, el_X5_readLine_3 (w4 ..) _ (zo_10 _) _, el_X5_readLine_21 (w5 ..) _ (zo_10 _) _, el_X5_readLine_30 (r1' ..) _ (zo_6 _) _]))
    exact hQ
  rw [if_neg b5] at w5 hO1 ⊢
  by_cases b6 : wdB b P.1 (po_code 6) = true
  · rw [if_pos b6] at w6 hO1 ⊢
    obtain ⟨S1, r1, f1, q1⟩ := c_readWind (c := c) hL0 hP0 hO hb
    have r1' := px_R_up r1 2
    refine fin S1 _ f1 q1 hO1.1 (fun Q hQ => ?_)
    (simp (disch := first | with_reducible assumption | omega | decide | (simp only [ps_low, List.map_cons, List.map_nil, Value.category, List.sum_cons, List.sum_nil]; decide)) only [el_X5_readLine_0, el_X5_readLine_1, el_X5_readLine_6, el_X5_readLine_9, el_X5_readLine_10, el_X5_readLine_11, el_X5_readLine_15, el_X5_readLine_18, el_X5_readLine_19, el_X5_readLine_24, el_X5_readLine_27, el_X5_readLine_28, el_X5_readLine_29, el_X5_readLine_33, el_X5_readLine_36, el_X5_readLine_37, el_X5_readLine_42, el_X5_readLine_45, el_X5_readLine_46, el_X5_readLine_47, el_X5_readLine_51, el_X5_readLine_54, el_X5_readLine_55, el_X5_readLine_60, el_X5_readLine_63, el_X5_readLine_64, el_X5_readLine_65, el_X5_readLine_69, el_X5_readLine_72, el_X5_readLine_73, el_X5_readLine_78, el_X5_readLine_81, el_X5_readLine_82, el_X5_readLine_83, el_X5_readLine_87, el_X5_readLine_90, el_X5_readLine_91, el_X5_readLine_96, el_X5_readLine_99, el_X5_readLine_100, el_X5_readLine_101, el_X5_readLine_105, el_X5_readLine_108, el_X5_readLine_109, px_ifp, px_ifn, zh_1, zc_1, zc_2, zc_3, zc_4, zc_5, zc_6, zc_7, zc_8, zc_9, zc_10, zc_11, zc_12, zc_20, zc_21, zc_22, zp_1, zp_2, zp_3, zp_4, zp_5, zp_6, zp_7, zp_8, zp_9, zp_10, zp_11, zp_12, zp_20, zp_21, zp_22, upS_eq, upS_ne, upS_up, upz_eq, upz_ne, upz_up, px_al_aI, px_as_aI, px_as_aZ, px_as_aC, px_ln_aI, Option.toList, List.cons_append, List.nil_append, Int.reduceAdd, Int.reduceSub, Int.reduceMul, ↓reduceIte, Nat.reduceEqDiff, eq_self, Int.reduceEq, Int.reduceLT, Int.reduceLE, Int.reduceNe, Int.reduceNeg, Int.reduceToNat, ne_eq, not_true_eq_false, not_false_eq_true, t0, t1, u0, u1, u2, u3, u4, u5, u6, u7, v0, v1, v2, zh_cst, el_X5_readLine_3 (w4 ..) _ (zo_10 _) _, el_X5_readLine_21 (w5 ..) _ (zo_10 _) _, el_X5_readLine_39 (w6 ..) _ (zo_10 _) _, el_X5_readLine_48 (r1' ..) _ (zo_6 _) _]; repeat (first | simp (disch := first | omega | decide) only [upz_srt, upy_upz, upz_up, upS_srt, upT_upS, upS_up] | simp (disch := first | with_reducible assumption | omega | decide | (simp only [ps_low, List.map_cons, List.map_nil, Value.category, List.sum_cons, List.sum_nil]; decide)) only [el_X5_readLine_0, el_X5_readLine_1, el_X5_readLine_6, el_X5_readLine_9, el_X5_readLine_10, el_X5_readLine_11, el_X5_readLine_15, el_X5_readLine_18, el_X5_readLine_19, el_X5_readLine_24, el_X5_readLine_27, el_X5_readLine_28, el_X5_readLine_29, el_X5_readLine_33, el_X5_readLine_36, el_X5_readLine_37, el_X5_readLine_42, el_X5_readLine_45, el_X5_readLine_46, el_X5_readLine_47, el_X5_readLine_51, el_X5_readLine_54, el_X5_readLine_55, el_X5_readLine_60, el_X5_readLine_63, el_X5_readLine_64, el_X5_readLine_65, el_X5_readLine_69, el_X5_readLine_72, el_X5_readLine_73, el_X5_readLine_78, el_X5_readLine_81, el_X5_readLine_82, el_X5_readLine_83, el_X5_readLine_87, el_X5_readLine_90, el_X5_readLine_91, el_X5_readLine_96, el_X5_readLine_99, el_X5_readLine_100, el_X5_readLine_101, el_X5_readLine_105, el_X5_readLine_108, el_X5_readLine_109, px_ifp, px_ifn, zh_1, zc_1, zc_2, zc_3, zc_4, zc_5, zc_6, zc_7, zc_8, zc_9, zc_10, zc_11, zc_12, zc_20, zc_21, zc_22, zp_1, zp_2, zp_3, zp_4, zp_5, zp_6, zp_7, zp_8, zp_9, zp_10, zp_11, zp_12, zp_20, zp_21, zp_22, upS_eq, upS_ne, upS_up, upz_eq, upz_ne, upz_up, px_al_aI, px_as_aI, px_as_aZ, px_as_aC, px_ln_aI, Option.toList, List.cons_append, List.nil_append, Int.reduceAdd, Int.reduceSub, Int.reduceMul, ↓reduceIte, Nat.reduceEqDiff, eq_self, Int.reduceEq, Int.reduceLT, Int.reduceLE, Int.reduceNe, Int.reduceNeg, Int.reduceToNat, ne_eq, not_true_eq_false, not_false_eq_true, t0, t1, u0, u1, u2, u3, u4, u5, u6, u7, v0, v1, v2, zh_cst, el_X5_readLine_3 (w4 ..) _ (zo_10 _) _, el_X5_readLine_21 (w5 ..) _ (zo_10 _) _, el_X5_readLine_39 (w6 ..) _ (zo_10 _) _, el_X5_readLine_48 (r1' ..) _ (zo_6 _) _]))
    exact hQ
  rw [if_neg b6] at w6 hO1 ⊢
  by_cases b7 : wdB b P.1 (po_code 7) = true
  · rw [if_pos b7] at w7 hO1 ⊢
    obtain ⟨S1, r1, f1, q1⟩ := c_readTower (c := c) hL0 hP0 hO hb
    have r1' := px_R_up r1 2
    refine fin S1 _ f1 q1 hO1.1 (fun Q hQ => ?_)
    (simp (disch := first | with_reducible assumption | omega | decide | (simp only [ps_low, List.map_cons, List.map_nil, Value.category, List.sum_cons, List.sum_nil]; decide)) only [el_X5_readLine_0, el_X5_readLine_1, el_X5_readLine_6, el_X5_readLine_9, el_X5_readLine_10, el_X5_readLine_11, el_X5_readLine_15, el_X5_readLine_18, el_X5_readLine_19, el_X5_readLine_24, el_X5_readLine_27, el_X5_readLine_28, el_X5_readLine_29, el_X5_readLine_33, el_X5_readLine_36, el_X5_readLine_37, el_X5_readLine_42, el_X5_readLine_45, el_X5_readLine_46, el_X5_readLine_47, el_X5_readLine_51, el_X5_readLine_54, el_X5_readLine_55, el_X5_readLine_60, el_X5_readLine_63, el_X5_readLine_64, el_X5_readLine_65, el_X5_readLine_69, el_X5_readLine_72, el_X5_readLine_73, el_X5_readLine_78, el_X5_readLine_81, el_X5_readLine_82, el_X5_readLine_83, el_X5_readLine_87, el_X5_readLine_90, el_X5_readLine_91, el_X5_readLine_96, el_X5_readLine_99, el_X5_readLine_100, el_X5_readLine_101, el_X5_readLine_105, el_X5_readLine_108, el_X5_readLine_109, px_ifp, px_ifn, zh_1, zc_1, zc_2, zc_3, zc_4, zc_5, zc_6, zc_7, zc_8, zc_9, zc_10, zc_11, zc_12, zc_20, zc_21, zc_22, zp_1, zp_2, zp_3, zp_4, zp_5, zp_6, zp_7, zp_8, zp_9, zp_10, zp_11, zp_12, zp_20, zp_21, zp_22, upS_eq, upS_ne, upS_up, upz_eq, upz_ne, upz_up, px_al_aI, px_as_aI, px_as_aZ, px_as_aC, px_ln_aI, Option.toList, List.cons_append, List.nil_append, Int.reduceAdd, Int.reduceSub, Int.reduceMul, ↓reduceIte, Nat.reduceEqDiff, eq_self, Int.reduceEq, Int.reduceLT, Int.reduceLE, Int.reduceNe, Int.reduceNeg, Int.reduceToNat, ne_eq, not_true_eq_false, not_false_eq_true, t0, t1, u0, u1, u2, u3, u4, u5, u6, u7, v0, v1, v2, zh_cst, el_X5_readLine_3 (w4 ..) _ (zo_10 _) _, el_X5_readLine_21 (w5 ..) _ (zo_10 _) _, el_X5_readLine_39 (w6 ..) _ (zo_10 _) _, el_X5_readLine_57 (w7 ..) _ (zo_10 _) _, el_X5_readLine_66 (r1' ..) _ (zo_6 _) _]; repeat (first | simp (disch := first | omega | decide) only [upz_srt, upy_upz, upz_up, upS_srt, upT_upS, upS_up] | simp (disch := first | with_reducible assumption | omega | decide | (simp only [ps_low, List.map_cons, List.map_nil, Value.category, List.sum_cons, List.sum_nil]; decide)) only [el_X5_readLine_0, el_X5_readLine_1, el_X5_readLine_6, el_X5_readLine_9, el_X5_readLine_10, el_X5_readLine_11, el_X5_readLine_15, el_X5_readLine_18, el_X5_readLine_19, el_X5_readLine_24, el_X5_readLine_27, el_X5_readLine_28, el_X5_readLine_29, el_X5_readLine_33, el_X5_readLine_36, el_X5_readLine_37, el_X5_readLine_42, el_X5_readLine_45, el_X5_readLine_46, el_X5_readLine_47, el_X5_readLine_51, el_X5_readLine_54, el_X5_readLine_55, el_X5_readLine_60, el_X5_readLine_63, el_X5_readLine_64, el_X5_readLine_65, el_X5_readLine_69, el_X5_readLine_72, el_X5_readLine_73, el_X5_readLine_78, el_X5_readLine_81, el_X5_readLine_82, el_X5_readLine_83, el_X5_readLine_87, el_X5_readLine_90, el_X5_readLine_91, el_X5_readLine_96, el_X5_readLine_99, el_X5_readLine_100, el_X5_readLine_101, el_X5_readLine_105, el_X5_readLine_108, el_X5_readLine_109, px_ifp, px_ifn, zh_1, zc_1, zc_2, zc_3, zc_4, zc_5, zc_6, zc_7, zc_8, zc_9, zc_10, zc_11, zc_12, zc_20, zc_21, zc_22, zp_1, zp_2, zp_3, zp_4, zp_5, zp_6, zp_7, zp_8, zp_9, zp_10, zp_11, zp_12, zp_20, zp_21, zp_22, upS_eq, upS_ne, upS_up, upz_eq, upz_ne, upz_up, px_al_aI, px_as_aI, px_as_aZ, px_as_aC, px_ln_aI, Option.toList, List.cons_append, List.nil_append, Int.reduceAdd, Int.reduceSub, Int.reduceMul, ↓reduceIte, Nat.reduceEqDiff, eq_self, Int.reduceEq, Int.reduceLT, Int.reduceLE, Int.reduceNe, Int.reduceNeg, Int.reduceToNat, ne_eq, not_true_eq_false, not_false_eq_true, t0, t1, u0, u1, u2, u3, u4, u5, u6, u7, v0, v1, v2, zh_cst, el_X5_readLine_3 (w4 ..) _ (zo_10 _) _, el_X5_readLine_21 (w5 ..) _ (zo_10 _) _, el_X5_readLine_39 (w6 ..) _ (zo_10 _) _, el_X5_readLine_57 (w7 ..) _ (zo_10 _) _, el_X5_readLine_66 (r1' ..) _ (zo_6 _) _]))
    exact hQ
  rw [if_neg b7] at w7 hO1 ⊢
  by_cases b8 : wdB b P.1 (po_code 8) = true
  · rw [if_pos b8] at w8 hO1 ⊢
    obtain ⟨S1, r1, f1, q1⟩ := c_readWindow (c := c) hL0 hP0 hO hb
    have r1' := px_R_up r1 2
    refine fin S1 _ f1 q1 hO1.1 (fun Q hQ => ?_)
    (simp (disch := first | with_reducible assumption | omega | decide | (simp only [ps_low, List.map_cons, List.map_nil, Value.category, List.sum_cons, List.sum_nil]; decide)) only [el_X5_readLine_0, el_X5_readLine_1, el_X5_readLine_6, el_X5_readLine_9, el_X5_readLine_10, el_X5_readLine_11, el_X5_readLine_15, el_X5_readLine_18, el_X5_readLine_19, el_X5_readLine_24, el_X5_readLine_27, el_X5_readLine_28, el_X5_readLine_29, el_X5_readLine_33, el_X5_readLine_36, el_X5_readLine_37, el_X5_readLine_42, el_X5_readLine_45, el_X5_readLine_46, el_X5_readLine_47, el_X5_readLine_51, el_X5_readLine_54, el_X5_readLine_55, el_X5_readLine_60, el_X5_readLine_63, el_X5_readLine_64, el_X5_readLine_65, el_X5_readLine_69, el_X5_readLine_72, el_X5_readLine_73, el_X5_readLine_78, el_X5_readLine_81, el_X5_readLine_82, el_X5_readLine_83, el_X5_readLine_87, el_X5_readLine_90, el_X5_readLine_91, el_X5_readLine_96, el_X5_readLine_99, el_X5_readLine_100, el_X5_readLine_101, el_X5_readLine_105, el_X5_readLine_108, el_X5_readLine_109, px_ifp, px_ifn, zh_1, zc_1, zc_2, zc_3, zc_4, zc_5, zc_6, zc_7, zc_8, zc_9, zc_10, zc_11, zc_12, zc_20, zc_21, zc_22, zp_1, zp_2, zp_3, zp_4, zp_5, zp_6, zp_7, zp_8, zp_9, zp_10, zp_11, zp_12, zp_20, zp_21, zp_22, upS_eq, upS_ne, upS_up, upz_eq, upz_ne, upz_up, px_al_aI, px_as_aI, px_as_aZ, px_as_aC, px_ln_aI, Option.toList, List.cons_append, List.nil_append, Int.reduceAdd, Int.reduceSub, Int.reduceMul, ↓reduceIte, Nat.reduceEqDiff, eq_self, Int.reduceEq, Int.reduceLT, Int.reduceLE, Int.reduceNe, Int.reduceNeg, Int.reduceToNat, ne_eq, not_true_eq_false, not_false_eq_true, t0, t1, u0, u1, u2, u3, u4, u5, u6, u7, v0, v1, v2, zh_cst, el_X5_readLine_3 (w4 ..) _ (zo_10 _) _, el_X5_readLine_21 (w5 ..) _ (zo_10 _) _, el_X5_readLine_39 (w6 ..) _ (zo_10 _) _, el_X5_readLine_57 (w7 ..) _ (zo_10 _) _, el_X5_readLine_75 (w8 ..) _ (zo_10 _) _, el_X5_readLine_84 (r1' ..) _ (zo_6 _) _]; repeat (first | simp (disch := first | omega | decide) only [upz_srt, upy_upz, upz_up, upS_srt, upT_upS, upS_up] | simp (disch := first | with_reducible assumption | omega | decide | (simp only [ps_low, List.map_cons, List.map_nil, Value.category, List.sum_cons, List.sum_nil]; decide)) only [el_X5_readLine_0, el_X5_readLine_1, el_X5_readLine_6, el_X5_readLine_9, el_X5_readLine_10, el_X5_readLine_11, el_X5_readLine_15, el_X5_readLine_18, el_X5_readLine_19, el_X5_readLine_24, el_X5_readLine_27, el_X5_readLine_28, el_X5_readLine_29, el_X5_readLine_33, el_X5_readLine_36, el_X5_readLine_37, el_X5_readLine_42, el_X5_readLine_45, el_X5_readLine_46, el_X5_readLine_47, el_X5_readLine_51, el_X5_readLine_54, el_X5_readLine_55, el_X5_readLine_60, el_X5_readLine_63, el_X5_readLine_64, el_X5_readLine_65, el_X5_readLine_69, el_X5_readLine_72, el_X5_readLine_73, el_X5_readLine_78, el_X5_readLine_81, el_X5_readLine_82, el_X5_readLine_83, el_X5_readLine_87, el_X5_readLine_90, el_X5_readLine_91, el_X5_readLine_96, el_X5_readLine_99, el_X5_readLine_100, el_X5_readLine_101, el_X5_readLine_105, el_X5_readLine_108, el_X5_readLine_109, px_ifp, px_ifn, zh_1, zc_1, zc_2, zc_3, zc_4, zc_5, zc_6, zc_7, zc_8, zc_9, zc_10, zc_11, zc_12, zc_20, zc_21, zc_22, zp_1, zp_2, zp_3, zp_4, zp_5, zp_6, zp_7, zp_8, zp_9, zp_10, zp_11, zp_12, zp_20, zp_21, zp_22, upS_eq, upS_ne, upS_up, upz_eq, upz_ne, upz_up, px_al_aI, px_as_aI, px_as_aZ, px_as_aC, px_ln_aI, Option.toList, List.cons_append, List.nil_append, Int.reduceAdd, Int.reduceSub, Int.reduceMul, ↓reduceIte, Nat.reduceEqDiff, eq_self, Int.reduceEq, Int.reduceLT, Int.reduceLE, Int.reduceNe, Int.reduceNeg, Int.reduceToNat, ne_eq, not_true_eq_false, not_false_eq_true, t0, t1, u0, u1, u2, u3, u4, u5, u6, u7, v0, v1, v2, zh_cst, el_X5_readLine_3 (w4 ..) _ (zo_10 _) _, el_X5_readLine_21 (w5 ..) _ (zo_10 _) _, el_X5_readLine_39 (w6 ..) _ (zo_10 _) _, el_X5_readLine_57 (w7 ..) _ (zo_10 _) _, el_X5_readLine_75 (w8 ..) _ (zo_10 _) _, el_X5_readLine_84 (r1' ..) _ (zo_6 _) _]))
    exact hQ
  rw [if_neg b8] at w8 hO1 ⊢
  by_cases b9 : wdB b P.1 (po_code 9) = true
  · rw [if_pos b9] at w9 hO1 ⊢
    obtain ⟨S1, r1, f1, q1⟩ := c_readKnown (c := c) hL0 hP0 hO hb hC
    refine fin S1 _ f1 q1 hO1.1 (fun Q hQ => ?_)
    (simp (disch := first | with_reducible assumption | omega | decide | (simp only [ps_low, List.map_cons, List.map_nil, Value.category, List.sum_cons, List.sum_nil]; decide)) only [el_X5_readLine_0, el_X5_readLine_1, el_X5_readLine_6, el_X5_readLine_9, el_X5_readLine_10, el_X5_readLine_11, el_X5_readLine_15, el_X5_readLine_18, el_X5_readLine_19, el_X5_readLine_24, el_X5_readLine_27, el_X5_readLine_28, el_X5_readLine_29, el_X5_readLine_33, el_X5_readLine_36, el_X5_readLine_37, el_X5_readLine_42, el_X5_readLine_45, el_X5_readLine_46, el_X5_readLine_47, el_X5_readLine_51, el_X5_readLine_54, el_X5_readLine_55, el_X5_readLine_60, el_X5_readLine_63, el_X5_readLine_64, el_X5_readLine_65, el_X5_readLine_69, el_X5_readLine_72, el_X5_readLine_73, el_X5_readLine_78, el_X5_readLine_81, el_X5_readLine_82, el_X5_readLine_83, el_X5_readLine_87, el_X5_readLine_90, el_X5_readLine_91, el_X5_readLine_96, el_X5_readLine_99, el_X5_readLine_100, el_X5_readLine_101, el_X5_readLine_105, el_X5_readLine_108, el_X5_readLine_109, px_ifp, px_ifn, zh_1, zc_1, zc_2, zc_3, zc_4, zc_5, zc_6, zc_7, zc_8, zc_9, zc_10, zc_11, zc_12, zc_20, zc_21, zc_22, zp_1, zp_2, zp_3, zp_4, zp_5, zp_6, zp_7, zp_8, zp_9, zp_10, zp_11, zp_12, zp_20, zp_21, zp_22, upS_eq, upS_ne, upS_up, upz_eq, upz_ne, upz_up, px_al_aI, px_as_aI, px_as_aZ, px_as_aC, px_ln_aI, Option.toList, List.cons_append, List.nil_append, Int.reduceAdd, Int.reduceSub, Int.reduceMul, ↓reduceIte, Nat.reduceEqDiff, eq_self, Int.reduceEq, Int.reduceLT, Int.reduceLE, Int.reduceNe, Int.reduceNeg, Int.reduceToNat, ne_eq, not_true_eq_false, not_false_eq_true, t0, t1, u0, u1, u2, u3, u4, u5, u6, u7, v0, v1, v2, zh_cst, el_X5_readLine_3 (w4 ..) _ (zo_10 _) _, el_X5_readLine_21 (w5 ..) _ (zo_10 _) _, el_X5_readLine_39 (w6 ..) _ (zo_10 _) _, el_X5_readLine_57 (w7 ..) _ (zo_10 _) _, el_X5_readLine_75 (w8 ..) _ (zo_10 _) _, el_X5_readLine_93 (w9 ..) _ (zo_10 _) _, el_X5_readLine_102 (r1 ..) _ (zo_6 _) _]; repeat (first | simp (disch := first | omega | decide) only [upz_srt, upy_upz, upz_up, upS_srt, upT_upS, upS_up] | simp (disch := first | with_reducible assumption | omega | decide | (simp only [ps_low, List.map_cons, List.map_nil, Value.category, List.sum_cons, List.sum_nil]; decide)) only [el_X5_readLine_0, el_X5_readLine_1, el_X5_readLine_6, el_X5_readLine_9, el_X5_readLine_10, el_X5_readLine_11, el_X5_readLine_15, el_X5_readLine_18, el_X5_readLine_19, el_X5_readLine_24, el_X5_readLine_27, el_X5_readLine_28, el_X5_readLine_29, el_X5_readLine_33, el_X5_readLine_36, el_X5_readLine_37, el_X5_readLine_42, el_X5_readLine_45, el_X5_readLine_46, el_X5_readLine_47, el_X5_readLine_51, el_X5_readLine_54, el_X5_readLine_55, el_X5_readLine_60, el_X5_readLine_63, el_X5_readLine_64, el_X5_readLine_65, el_X5_readLine_69, el_X5_readLine_72, el_X5_readLine_73, el_X5_readLine_78, el_X5_readLine_81, el_X5_readLine_82, el_X5_readLine_83, el_X5_readLine_87, el_X5_readLine_90, el_X5_readLine_91, el_X5_readLine_96, el_X5_readLine_99, el_X5_readLine_100, el_X5_readLine_101, el_X5_readLine_105, el_X5_readLine_108, el_X5_readLine_109, px_ifp, px_ifn, zh_1, zc_1, zc_2, zc_3, zc_4, zc_5, zc_6, zc_7, zc_8, zc_9, zc_10, zc_11, zc_12, zc_20, zc_21, zc_22, zp_1, zp_2, zp_3, zp_4, zp_5, zp_6, zp_7, zp_8, zp_9, zp_10, zp_11, zp_12, zp_20, zp_21, zp_22, upS_eq, upS_ne, upS_up, upz_eq, upz_ne, upz_up, px_al_aI, px_as_aI, px_as_aZ, px_as_aC, px_ln_aI, Option.toList, List.cons_append, List.nil_append, Int.reduceAdd, Int.reduceSub, Int.reduceMul, ↓reduceIte, Nat.reduceEqDiff, eq_self, Int.reduceEq, Int.reduceLT, Int.reduceLE, Int.reduceNe, Int.reduceNeg, Int.reduceToNat, ne_eq, not_true_eq_false, not_false_eq_true, t0, t1, u0, u1, u2, u3, u4, u5, u6, u7, v0, v1, v2, zh_cst, el_X5_readLine_3 (w4 ..) _ (zo_10 _) _, el_X5_readLine_21 (w5 ..) _ (zo_10 _) _, el_X5_readLine_39 (w6 ..) _ (zo_10 _) _, el_X5_readLine_57 (w7 ..) _ (zo_10 _) _, el_X5_readLine_75 (w8 ..) _ (zo_10 _) _, el_X5_readLine_93 (w9 ..) _ (zo_10 _) _, el_X5_readLine_102 (r1 ..) _ (zo_6 _) _]))
    exact hQ
  rw [if_neg b9] at w9 hO1 ⊢
  obtain ⟨S1, r1, q1, g1⟩ := zz_ref (c := c) (k := 1) l9 p1 hO.1
  refine fin S1 _ (fun a h1 h2 h3 => g1 a h1) ⟨q1, by rw [g1 _ (by omega)]; exact p2, fun k hk => by rw [g1 _ (by omega)]; exact p3 k hk, fun k hk => by rw [g1 _ (by omega)]; exact p4 k hk⟩ hO1.1 (fun Q hQ => ?_)
  (simp (disch := first | with_reducible assumption | omega | decide | (simp only [ps_low, List.map_cons, List.map_nil, Value.category, List.sum_cons, List.sum_nil]; decide)) only [el_X5_readLine_0, el_X5_readLine_1, el_X5_readLine_6, el_X5_readLine_9, el_X5_readLine_10, el_X5_readLine_11, el_X5_readLine_15, el_X5_readLine_18, el_X5_readLine_19, el_X5_readLine_24, el_X5_readLine_27, el_X5_readLine_28, el_X5_readLine_29, el_X5_readLine_33, el_X5_readLine_36, el_X5_readLine_37, el_X5_readLine_42, el_X5_readLine_45, el_X5_readLine_46, el_X5_readLine_47, el_X5_readLine_51, el_X5_readLine_54, el_X5_readLine_55, el_X5_readLine_60, el_X5_readLine_63, el_X5_readLine_64, el_X5_readLine_65, el_X5_readLine_69, el_X5_readLine_72, el_X5_readLine_73, el_X5_readLine_78, el_X5_readLine_81, el_X5_readLine_82, el_X5_readLine_83, el_X5_readLine_87, el_X5_readLine_90, el_X5_readLine_91, el_X5_readLine_96, el_X5_readLine_99, el_X5_readLine_100, el_X5_readLine_101, el_X5_readLine_105, el_X5_readLine_108, el_X5_readLine_109, px_ifp, px_ifn, zh_1, zc_1, zc_2, zc_3, zc_4, zc_5, zc_6, zc_7, zc_8, zc_9, zc_10, zc_11, zc_12, zc_20, zc_21, zc_22, zp_1, zp_2, zp_3, zp_4, zp_5, zp_6, zp_7, zp_8, zp_9, zp_10, zp_11, zp_12, zp_20, zp_21, zp_22, upS_eq, upS_ne, upS_up, upz_eq, upz_ne, upz_up, px_al_aI, px_as_aI, px_as_aZ, px_as_aC, px_ln_aI, Option.toList, List.cons_append, List.nil_append, Int.reduceAdd, Int.reduceSub, Int.reduceMul, ↓reduceIte, Nat.reduceEqDiff, eq_self, Int.reduceEq, Int.reduceLT, Int.reduceLE, Int.reduceNe, Int.reduceNeg, Int.reduceToNat, ne_eq, not_true_eq_false, not_false_eq_true, t0, t1, u0, u1, u2, u3, u4, u5, u6, u7, v0, v1, v2, zh_cst, el_X5_readLine_3 (w4 ..) _ (zo_10 _) _, el_X5_readLine_21 (w5 ..) _ (zo_10 _) _, el_X5_readLine_39 (w6 ..) _ (zo_10 _) _, el_X5_readLine_57 (w7 ..) _ (zo_10 _) _, el_X5_readLine_75 (w8 ..) _ (zo_10 _) _, el_X5_readLine_93 (w9 ..) _ (zo_10 _) _, el_X5_readLine_110 (r1 ..) _ (zo_10 _) _]; repeat (first | simp (disch := first | omega | decide) only [upz_srt, upy_upz, upz_up, upS_srt, upT_upS, upS_up] | simp (disch := first | with_reducible assumption | omega | decide | (simp only [ps_low, List.map_cons, List.map_nil, Value.category, List.sum_cons, List.sum_nil]; decide)) only [el_X5_readLine_0, el_X5_readLine_1, el_X5_readLine_6, el_X5_readLine_9, el_X5_readLine_10, el_X5_readLine_11, el_X5_readLine_15, el_X5_readLine_18, el_X5_readLine_19, el_X5_readLine_24, el_X5_readLine_27, el_X5_readLine_28, el_X5_readLine_29, el_X5_readLine_33, el_X5_readLine_36, el_X5_readLine_37, el_X5_readLine_42, el_X5_readLine_45, el_X5_readLine_46, el_X5_readLine_47, el_X5_readLine_51, el_X5_readLine_54, el_X5_readLine_55, el_X5_readLine_60, el_X5_readLine_63, el_X5_readLine_64, el_X5_readLine_65, el_X5_readLine_69, el_X5_readLine_72, el_X5_readLine_73, el_X5_readLine_78, el_X5_readLine_81, el_X5_readLine_82, el_X5_readLine_83, el_X5_readLine_87, el_X5_readLine_90, el_X5_readLine_91, el_X5_readLine_96, el_X5_readLine_99, el_X5_readLine_100, el_X5_readLine_101, el_X5_readLine_105, el_X5_readLine_108, el_X5_readLine_109, px_ifp, px_ifn, zh_1, zc_1, zc_2, zc_3, zc_4, zc_5, zc_6, zc_7, zc_8, zc_9, zc_10, zc_11, zc_12, zc_20, zc_21, zc_22, zp_1, zp_2, zp_3, zp_4, zp_5, zp_6, zp_7, zp_8, zp_9, zp_10, zp_11, zp_12, zp_20, zp_21, zp_22, upS_eq, upS_ne, upS_up, upz_eq, upz_ne, upz_up, px_al_aI, px_as_aI, px_as_aZ, px_as_aC, px_ln_aI, Option.toList, List.cons_append, List.nil_append, Int.reduceAdd, Int.reduceSub, Int.reduceMul, ↓reduceIte, Nat.reduceEqDiff, eq_self, Int.reduceEq, Int.reduceLT, Int.reduceLE, Int.reduceNe, Int.reduceNeg, Int.reduceToNat, ne_eq, not_true_eq_false, not_false_eq_true, t0, t1, u0, u1, u2, u3, u4, u5, u6, u7, v0, v1, v2, zh_cst, el_X5_readLine_3 (w4 ..) _ (zo_10 _) _, el_X5_readLine_21 (w5 ..) _ (zo_10 _) _, el_X5_readLine_39 (w6 ..) _ (zo_10 _) _, el_X5_readLine_57 (w7 ..) _ (zo_10 _) _, el_X5_readLine_75 (w8 ..) _ (zo_10 _) _, el_X5_readLine_93 (w9 ..) _ (zo_10 _) _, el_X5_readLine_110 (r1 ..) _ (zo_10 _) _]))
  exact hQ
theorem rdLines_O {b : Nat → Int} : ∀ (k : Nat) (P : pS), pO P → pO (rdLines b k P)
  | 0, P, h => h
  | k + 1, P, h => by
    unfold rdLines
    split
    · exact rdLines_O k _ (pO_line h)
    · exact h
/-- what a School's text makes of the cells -/
def rdAll (b : Nat → Int) (P : pS) : pS := rdUsual (rdLines b 500 (rdInit P))
theorem pO_init {P : pS} (h : tpF P.1) : pO (rdInit P) := by
  refine ⟨h, by change (0 : Int) ≤ 0 ∧ (0 : Int) ≤ 10; decide, fun i hi => ?_, fun j hj => ?_, fun k j h1 h2 hj => ?_⟩
  · change (i : Int) < 0 at hi
    omega
  · left
    change upz (upz (upz (P.2.2 0) 0 0) 1 0) 2 0 j = 0
    unfold upz
    rcases (show j = 0 ∨ j = 1 ∨ j = 2 by omega) with rfl | rfl | rfl <;> rfl
  · left
    unfold rdInit
    dsimp only
    rw [if_neg (by omega), if_pos hj]
theorem c_readSchool {T : Nat → Nat × Nat} {S : Nat → Nat → Int} {c : pm_M × pm_C} {t s x : Nat} {b : Nat → Int} {P : pS} (hL : pL T t s x) (hP : pR S t s x b P) (hF : tpF P.1) (hb : tpB b) (hC : tcx c.2) :
    ∃ S', px_R 8 36 [.ref x, .ref t, .ref s, .retAddr 0] (zh T S c) (.inl none) (zh T S' c) ∧ pFr t s x S S' ∧ pR S' t s x b (rdAll b P) := by
  have hL0 := hL
  obtain ⟨l9, l4, l5, d1, d2, d3⟩ := hL
  obtain ⟨t0, t1⟩ := id l9
  obtain ⟨u0, u1, u2, u3, u4, u5, u6, u7⟩ := id l4
  obtain ⟨v0, v1, v2⟩ := id l5
  obtain ⟨p1, p2, p3, p4⟩ := hP
  have hO := pO_init hF
  have x0 := p4 0 (by decide)
  rw [Nat.add_zero] at x0
  -- the flags
  generalize hG : upz (upz (upz (S x) 0 0) 1 0) 2 0 = G
  have loop1 : ∀ (k i : Nat) (Q : pm_O → pm_H → Prop), i + k = 10 → px_Ev 8 36 39 [.ref x, .ref t, .ref s, .int (zI 10)] [] (zh T (upS (upS S x G) (x + 1) (fun j => if j < 10 then 0 else S (x + 1) j)) c) Q → px_Ev 8 36 17 [.ref x, .ref t, .ref s, .int (zI i)] [] (zh T (upS (upS S x G) (x + 1) (fun j => if j < i then 0 else S (x + 1) j)) c) Q := by
    intro k
    induction k with
    | zero =>
      intro i Q hi hQ
      have e : i = 10 := by omega
      subst e
      rw [el_X5_read_17]
      (simp (disch := first | with_reducible assumption | omega | decide | (simp only [ps_low, List.map_cons, List.map_nil, Value.category, List.sum_cons, List.sum_nil]; decide)) only [el_X5_read_18, el_X5_read_19, el_X5_read_22, el_X5_read_23, el_X5_read_26, el_X5_read_27, el_X5_read_30, el_X5_read_31, el_X5_read_32, el_X5_read_33, gf_5_3, px_ifp, px_ifn, zh_1, zc_1, zc_2, zc_3, zc_4, zc_5, zc_6, zc_7, zc_8, zc_9, zc_10, zc_11, zc_12, zc_20, zc_21, zc_22, zp_1, zp_2, zp_3, zp_4, zp_5, zp_6, zp_7, zp_8, zp_9, zp_10, zp_11, zp_12, zp_20, zp_21, zp_22, upS_eq, upS_ne, upS_up, upz_eq, upz_ne, upz_up, px_al_aI, px_as_aI, px_as_aZ, px_as_aC, px_ln_aI, Option.toList, List.cons_append, List.nil_append, Int.reduceAdd, Int.reduceSub, Int.reduceMul, ↓reduceIte, Nat.reduceEqDiff, eq_self, Int.reduceEq, Int.reduceLT, Int.reduceLE, Int.reduceNe, Int.reduceNeg, Int.reduceToNat, ne_eq, not_true_eq_false, not_false_eq_true, t0, t1, u0, u1, u2, u3, u4, u5, u6, u7, v0, v1, v2]; repeat (first | simp (disch := first | omega | decide) only [upz_srt, upy_upz, upz_up, upS_srt, upT_upS, upS_up] | simp (disch := first | with_reducible assumption | omega | decide | (simp only [ps_low, List.map_cons, List.map_nil, Value.category, List.sum_cons, List.sum_nil]; decide)) only [el_X5_read_18, el_X5_read_19, el_X5_read_22, el_X5_read_23, el_X5_read_26, el_X5_read_27, el_X5_read_30, el_X5_read_31, el_X5_read_32, el_X5_read_33, gf_5_3, px_ifp, px_ifn, zh_1, zc_1, zc_2, zc_3, zc_4, zc_5, zc_6, zc_7, zc_8, zc_9, zc_10, zc_11, zc_12, zc_20, zc_21, zc_22, zp_1, zp_2, zp_3, zp_4, zp_5, zp_6, zp_7, zp_8, zp_9, zp_10, zp_11, zp_12, zp_20, zp_21, zp_22, upS_eq, upS_ne, upS_up, upz_eq, upz_ne, upz_up, px_al_aI, px_as_aI, px_as_aZ, px_as_aC, px_ln_aI, Option.toList, List.cons_append, List.nil_append, Int.reduceAdd, Int.reduceSub, Int.reduceMul, ↓reduceIte, Nat.reduceEqDiff, eq_self, Int.reduceEq, Int.reduceLT, Int.reduceLE, Int.reduceNe, Int.reduceNeg, Int.reduceToNat, ne_eq, not_true_eq_false, not_false_eq_true, t0, t1, u0, u1, u2, u3, u4, u5, u6, u7, v0, v1, v2]))
      exact hQ
    | succ k ih =>
      intro i Q hi hQ
      have nx := ih (i + 1) Q (by omega) hQ
      have e1 : upz (fun j => if j < i then (0 : Int) else S (x + 1) j) i 0 = fun j => if j < i + 1 then 0 else S (x + 1) j := unf_succ (g := fun _ => 0) rfl
      rw [el_X5_read_17]
      (simp (disch := first | with_reducible assumption | omega | decide | (simp only [ps_low, List.map_cons, List.map_nil, Value.category, List.sum_cons, List.sum_nil]; decide)) only [el_X5_read_18, el_X5_read_19, el_X5_read_22, el_X5_read_23, el_X5_read_26, el_X5_read_27, el_X5_read_30, el_X5_read_31, el_X5_read_32, el_X5_read_33, el_X5_read_36, gf_5_3, px_ifp, px_ifn, zh_1, zc_1, zc_2, zc_3, zc_4, zc_5, zc_6, zc_7, zc_8, zc_9, zc_10, zc_11, zc_12, zc_20, zc_21, zc_22, zp_1, zp_2, zp_3, zp_4, zp_5, zp_6, zp_7, zp_8, zp_9, zp_10, zp_11, zp_12, zp_20, zp_21, zp_22, upS_eq, upS_ne, upS_up, upz_eq, upz_ne, upz_up, px_al_aI, px_as_aI, px_as_aZ, px_as_aC, px_ln_aI, Option.toList, List.cons_append, List.nil_append, Int.reduceAdd, Int.reduceSub, Int.reduceMul, ↓reduceIte, Nat.reduceEqDiff, eq_self, Int.reduceEq, Int.reduceLT, Int.reduceLE, Int.reduceNe, Int.reduceNeg, Int.reduceToNat, ne_eq, not_true_eq_false, not_false_eq_true, t0, t1, u0, u1, u2, u3, u4, u5, u6, u7, v0, v1, v2, Int.toNat_natCast, e1]; repeat (first | simp (disch := first | omega | decide) only [upz_srt, upy_upz, upz_up, upS_srt, upT_upS, upS_up] | simp (disch := first | with_reducible assumption | omega | decide | (simp only [ps_low, List.map_cons, List.map_nil, Value.category, List.sum_cons, List.sum_nil]; decide)) only [el_X5_read_18, el_X5_read_19, el_X5_read_22, el_X5_read_23, el_X5_read_26, el_X5_read_27, el_X5_read_30, el_X5_read_31, el_X5_read_32, el_X5_read_33, el_X5_read_36, gf_5_3, px_ifp, px_ifn, zh_1, zc_1, zc_2, zc_3, zc_4, zc_5, zc_6, zc_7, zc_8, zc_9, zc_10, zc_11, zc_12, zc_20, zc_21, zc_22, zp_1, zp_2, zp_3, zp_4, zp_5, zp_6, zp_7, zp_8, zp_9, zp_10, zp_11, zp_12, zp_20, zp_21, zp_22, upS_eq, upS_ne, upS_up, upz_eq, upz_ne, upz_up, px_al_aI, px_as_aI, px_as_aZ, px_as_aC, px_ln_aI, Option.toList, List.cons_append, List.nil_append, Int.reduceAdd, Int.reduceSub, Int.reduceMul, ↓reduceIte, Nat.reduceEqDiff, eq_self, Int.reduceEq, Int.reduceLT, Int.reduceLE, Int.reduceNe, Int.reduceNeg, Int.reduceToNat, ne_eq, not_true_eq_false, not_false_eq_true, t0, t1, u0, u1, u2, u3, u4, u5, u6, u7, v0, v1, v2, Int.toNat_natCast, e1]))
      exact nx
  generalize hA1 : (fun j => if j < 10 then (0 : Int) else S (x + 1) j) = A1 at *
  have loop2 : ∀ (k i : Nat) (Q : pm_O → pm_H → Prop), i + k = 10 → px_Ev 8 36 63 [.ref x, .ref t, .ref s, .int (zI 10)] [] (zh T (upS (upS (upS S x G) (x + 1) A1) (x + 2) (fun j => if j < 10 then 0 else S (x + 2) j)) c) Q → px_Ev 8 36 41 [.ref x, .ref t, .ref s, .int (zI i)] [] (zh T (upS (upS (upS S x G) (x + 1) A1) (x + 2) (fun j => if j < i then 0 else S (x + 2) j)) c) Q := by
    intro k
    induction k with
    | zero =>
      intro i Q hi hQ
      have e : i = 10 := by omega
      subst e
      rw [el_X5_read_41]
      (simp (disch := first | with_reducible assumption | omega | decide | (simp only [ps_low, List.map_cons, List.map_nil, Value.category, List.sum_cons, List.sum_nil]; decide)) only [el_X5_read_42, el_X5_read_43, el_X5_read_46, el_X5_read_47, el_X5_read_50, el_X5_read_51, el_X5_read_54, el_X5_read_55, el_X5_read_56, el_X5_read_57, gf_5_4, px_ifp, px_ifn, zh_1, zc_1, zc_2, zc_3, zc_4, zc_5, zc_6, zc_7, zc_8, zc_9, zc_10, zc_11, zc_12, zc_20, zc_21, zc_22, zp_1, zp_2, zp_3, zp_4, zp_5, zp_6, zp_7, zp_8, zp_9, zp_10, zp_11, zp_12, zp_20, zp_21, zp_22, upS_eq, upS_ne, upS_up, upz_eq, upz_ne, upz_up, px_al_aI, px_as_aI, px_as_aZ, px_as_aC, px_ln_aI, Option.toList, List.cons_append, List.nil_append, Int.reduceAdd, Int.reduceSub, Int.reduceMul, ↓reduceIte, Nat.reduceEqDiff, eq_self, Int.reduceEq, Int.reduceLT, Int.reduceLE, Int.reduceNe, Int.reduceNeg, Int.reduceToNat, ne_eq, not_true_eq_false, not_false_eq_true, t0, t1, u0, u1, u2, u3, u4, u5, u6, u7, v0, v1, v2]; repeat (first | simp (disch := first | omega | decide) only [upz_srt, upy_upz, upz_up, upS_srt, upT_upS, upS_up] | simp (disch := first | with_reducible assumption | omega | decide | (simp only [ps_low, List.map_cons, List.map_nil, Value.category, List.sum_cons, List.sum_nil]; decide)) only [el_X5_read_42, el_X5_read_43, el_X5_read_46, el_X5_read_47, el_X5_read_50, el_X5_read_51, el_X5_read_54, el_X5_read_55, el_X5_read_56, el_X5_read_57, gf_5_4, px_ifp, px_ifn, zh_1, zc_1, zc_2, zc_3, zc_4, zc_5, zc_6, zc_7, zc_8, zc_9, zc_10, zc_11, zc_12, zc_20, zc_21, zc_22, zp_1, zp_2, zp_3, zp_4, zp_5, zp_6, zp_7, zp_8, zp_9, zp_10, zp_11, zp_12, zp_20, zp_21, zp_22, upS_eq, upS_ne, upS_up, upz_eq, upz_ne, upz_up, px_al_aI, px_as_aI, px_as_aZ, px_as_aC, px_ln_aI, Option.toList, List.cons_append, List.nil_append, Int.reduceAdd, Int.reduceSub, Int.reduceMul, ↓reduceIte, Nat.reduceEqDiff, eq_self, Int.reduceEq, Int.reduceLT, Int.reduceLE, Int.reduceNe, Int.reduceNeg, Int.reduceToNat, ne_eq, not_true_eq_false, not_false_eq_true, t0, t1, u0, u1, u2, u3, u4, u5, u6, u7, v0, v1, v2]))
      exact hQ
    | succ k ih =>
      intro i Q hi hQ
      have nx := ih (i + 1) Q (by omega) hQ
      have e1 : upz (fun j => if j < i then (0 : Int) else S (x + 2) j) i 0 = fun j => if j < i + 1 then 0 else S (x + 2) j := unf_succ (g := fun _ => 0) rfl
      rw [el_X5_read_41]
      (simp (disch := first | with_reducible assumption | omega | decide | (simp only [ps_low, List.map_cons, List.map_nil, Value.category, List.sum_cons, List.sum_nil]; decide)) only [el_X5_read_42, el_X5_read_43, el_X5_read_46, el_X5_read_47, el_X5_read_50, el_X5_read_51, el_X5_read_54, el_X5_read_55, el_X5_read_56, el_X5_read_57, el_X5_read_60, gf_5_4, px_ifp, px_ifn, zh_1, zc_1, zc_2, zc_3, zc_4, zc_5, zc_6, zc_7, zc_8, zc_9, zc_10, zc_11, zc_12, zc_20, zc_21, zc_22, zp_1, zp_2, zp_3, zp_4, zp_5, zp_6, zp_7, zp_8, zp_9, zp_10, zp_11, zp_12, zp_20, zp_21, zp_22, upS_eq, upS_ne, upS_up, upz_eq, upz_ne, upz_up, px_al_aI, px_as_aI, px_as_aZ, px_as_aC, px_ln_aI, Option.toList, List.cons_append, List.nil_append, Int.reduceAdd, Int.reduceSub, Int.reduceMul, ↓reduceIte, Nat.reduceEqDiff, eq_self, Int.reduceEq, Int.reduceLT, Int.reduceLE, Int.reduceNe, Int.reduceNeg, Int.reduceToNat, ne_eq, not_true_eq_false, not_false_eq_true, t0, t1, u0, u1, u2, u3, u4, u5, u6, u7, v0, v1, v2, Int.toNat_natCast, e1]; repeat (first | simp (disch := first | omega | decide) only [upz_srt, upy_upz, upz_up, upS_srt, upT_upS, upS_up] | simp (disch := first | with_reducible assumption | omega | decide | (simp only [ps_low, List.map_cons, List.map_nil, Value.category, List.sum_cons, List.sum_nil]; decide)) only [el_X5_read_42, el_X5_read_43, el_X5_read_46, el_X5_read_47, el_X5_read_50, el_X5_read_51, el_X5_read_54, el_X5_read_55, el_X5_read_56, el_X5_read_57, el_X5_read_60, gf_5_4, px_ifp, px_ifn, zh_1, zc_1, zc_2, zc_3, zc_4, zc_5, zc_6, zc_7, zc_8, zc_9, zc_10, zc_11, zc_12, zc_20, zc_21, zc_22, zp_1, zp_2, zp_3, zp_4, zp_5, zp_6, zp_7, zp_8, zp_9, zp_10, zp_11, zp_12, zp_20, zp_21, zp_22, upS_eq, upS_ne, upS_up, upz_eq, upz_ne, upz_up, px_al_aI, px_as_aI, px_as_aZ, px_as_aC, px_ln_aI, Option.toList, List.cons_append, List.nil_append, Int.reduceAdd, Int.reduceSub, Int.reduceMul, ↓reduceIte, Nat.reduceEqDiff, eq_self, Int.reduceEq, Int.reduceLT, Int.reduceLE, Int.reduceNe, Int.reduceNeg, Int.reduceToNat, ne_eq, not_true_eq_false, not_false_eq_true, t0, t1, u0, u1, u2, u3, u4, u5, u6, u7, v0, v1, v2, Int.toNat_natCast, e1]))
      exact nx
  generalize hA2 : (fun j => if j < 10 then (0 : Int) else S (x + 2) j) = A2 at *
  have z1 : (fun j => if j < 0 then (0 : Int) else S (x + 1) j) = S (x + 1) := by
    funext j
    exact if_neg (Nat.not_lt_zero j)
  have z2 : (fun j => if j < 0 then (0 : Int) else S (x + 2) j) = S (x + 2) := by
    funext j
    exact if_neg (Nat.not_lt_zero j)
  generalize hS1 : upS (upS (upS S x G) (x + 1) A1) (x + 2) A2 = S1 at *
  have s1 : ∀ a, (a < x ∨ x + 3 ≤ a) → S1 a = S a := fun a h => by rw [← hS1, upS_ne (by omega), upS_ne (by omega), upS_ne (by omega)]
  have hU := c_setUntold (T := T) (S := S1) (c := c) (q := s) l4
  generalize hS2 : unS S1 s = S2 at *
  have s2 : ∀ a, (a < s ∨ s + 6 ≤ a) → S2 a = S1 a := fun a h => by
    rw [← hS2]
    unfold unS
    rw [upS_ne (by omega), upS_ne (by omega), upS_ne (by omega), upS_ne (by omega), upS_ne (by omega), upS_ne (by omega)]
  have hR2 : pR S2 t s x b (rdInit P) := by
    refine ⟨by rw [s2 t (by omega), s1 t (by omega)]; exact p1, by rw [s2 _ (by omega), s1 _ (by omega)]; exact p2, fun k hk => ?_, fun k hk => ?_⟩
    · have e : ∀ k, k < 8 → S1 (s + k) = P.2.1 k := fun k hk => by rw [s1 _ (by omega)]; exact p3 k hk
      have e0 := e 0 (by decide)
      rw [Nat.add_zero] at e0
      rw [← hS2]
      unfold unS rdInit
      rcases (show k = 0 ∨ k = 1 ∨ k = 2 ∨ k = 3 ∨ k = 4 ∨ k = 5 ∨ k = 6 ∨ k = 7 by omega) with rfl | rfl | rfl | rfl | rfl | rfl | rfl | rfl
      · rw [show s + 0 = s from rfl, upS_ne (by omega), upS_ne (by omega), upS_ne (by omega), upS_ne (by omega), upS_ne (by omega), upS_eq, e0]
        rfl
      · rw [upS_ne (by omega), upS_ne (by omega), upS_ne (by omega), upS_ne (by omega), upS_eq, e 1 (by decide)]
        rfl
      · rw [upS_ne (by omega), upS_ne (by omega), upS_ne (by omega), upS_eq, e 2 (by decide)]
        rfl
      · rw [upS_ne (by omega), upS_ne (by omega), upS_eq, e 3 (by decide)]
        rfl
      · rw [upS_ne (by omega), upS_eq, e 4 (by decide)]
        rfl
      · rw [upS_eq, e 5 (by decide)]
        rfl
      · rw [upS_ne (by omega), upS_ne (by omega), upS_ne (by omega), upS_ne (by omega), upS_ne (by omega), upS_ne (by omega), e 6 (by decide)]
        rfl
      · rw [upS_ne (by omega), upS_ne (by omega), upS_ne (by omega), upS_ne (by omega), upS_ne (by omega), upS_ne (by omega), e 7 (by decide)]
        rfl
    · rw [s2 _ (by omega), ← hS1]
      rcases (show k = 0 ∨ k = 1 ∨ k = 2 by omega) with rfl | rfl | rfl
      · rw [show x + 0 = x from rfl, upS_ne (by omega), upS_ne (by omega), upS_eq, ← hG, x0]
        rfl
      · rw [upS_ne (by omega), upS_eq, ← hA1, p4 1 (by decide)]
        rfl
      · rw [upS_eq, ← hA2, p4 2 (by decide)]
        rfl
  have loop3 : ∀ (k i : Nat) (S3 : Nat → Nat → Int) (P3 : pS), i + k = 500 → pFr t s x S S3 → pR S3 t s x b P3 → pO P3 → rdLines b k P3 = rdLines b 500 (rdInit P) →
      px_Ev 8 36 69 [.ref x, .ref t, .ref s, .int (zI i)] [] (zh T S3 c) (zQ T c (fun v S' => v = none ∧ pFr t s x S S' ∧ pR S' t s x b (rdAll b P))) := by
    intro k
    generalize hQf : zQ T c (fun v S' => v = none ∧ pFr t s x S S' ∧ pR S' t s x b (rdAll b P)) = Qf
    have fin : ∀ (S3 : Nat → Nat → Int) (P3 : pS) (l3 : Value), pFr t s x S S3 → pR S3 t s x b P3 → pO P3 → P3 = rdLines b 500 (rdInit P) → px_Ev 8 36 95 [.ref x, .ref t, .ref s, l3] [] (zh T S3 c) Qf := by
      intro S3 P3 l3 f3 q3 o3 he
      obtain ⟨k1, k2, k3, k4⟩ := id q3
      have s0 := k3 0 (by decide)
      rw [Nat.add_zero] at s0
      have eA : rdAll b P = rdUsual P3 := by
        unfold rdAll
        rw [he]
      by_cases g : P3.2.1 0 6 = 0
      · have hK := c_knowUsual (T := T) (S := S3) (c := c) (q := s) l4 (by rw [s0]; exact g)
        have fq := zQ_in (T := T) (c := c) (P := fun v S' => v = none ∧ pFr t s x S S' ∧ pR S' t s x b (rdAll b P)) (v := none) (S' := usS S3 s) ⟨rfl, fun a h1 h2 h3 => by
            unfold usS
            rw [upS_ne (by omega), upS_ne (by omega), upS_ne (by omega)]
            exact f3 a h1 h2 h3, by
            rw [eA]
            unfold rdUsual usS
            rw [if_pos g]
            refine ⟨by rw [upS_ne (by omega), upS_ne (by omega), upS_ne (by omega)]; exact k1, by rw [upS_ne (by omega), upS_ne (by omega), upS_ne (by omega)]; exact k2, fun j hj => ?_, fun j hj => by rw [upS_ne (by omega), upS_ne (by omega), upS_ne (by omega)]; exact k4 j hj⟩
            dsimp only
            by_cases h0 : j = 0
            · subst h0
              rw [show s + 0 = s from rfl, upS_ne (by omega), upS_ne (by omega), upS_eq, s0, if_pos rfl]
            · by_cases h6 : j = 6
              · subst h6
                rw [upS_ne (by omega), upS_eq, if_neg (by decide), if_pos rfl, k3 6 (by decide)]
              · by_cases h7 : j = 7
                · subst h7
                  rw [upS_eq, if_neg (by decide), if_neg (by decide), if_pos rfl, k3 7 (by decide)]
                · rw [upS_ne (by omega), upS_ne (by omega), upS_ne (by omega), if_neg h0, if_neg h6, if_neg h7]
                  exact k3 j hj⟩
        rw [hQf] at fq
        (simp (disch := first | with_reducible assumption | omega | decide | (simp only [ps_low, List.map_cons, List.map_nil, Value.category, List.sum_cons, List.sum_nil]; decide)) only [el_X5_read_95, el_X5_read_96, el_X5_read_99, el_X5_read_102, el_X5_read_106, gf_4_6, px_ifp, px_ifn, zh_1, zc_1, zc_2, zc_3, zc_4, zc_5, zc_6, zc_7, zc_8, zc_9, zc_10, zc_11, zc_12, zc_20, zc_21, zc_22, zp_1, zp_2, zp_3, zp_4, zp_5, zp_6, zp_7, zp_8, zp_9, zp_10, zp_11, zp_12, zp_20, zp_21, zp_22, upS_eq, upS_ne, upS_up, upz_eq, upz_ne, upz_up, px_al_aI, px_as_aI, px_as_aZ, px_as_aC, px_ln_aI, Option.toList, List.cons_append, List.nil_append, Int.reduceAdd, Int.reduceSub, Int.reduceMul, ↓reduceIte, Nat.reduceEqDiff, eq_self, Int.reduceEq, Int.reduceLT, Int.reduceLE, Int.reduceNe, Int.reduceNeg, Int.reduceToNat, ne_eq, not_true_eq_false, not_false_eq_true, t0, t1, u0, u1, u2, u3, u4, u5, u6, u7, v0, v1, v2, s0, g, el_X5_read_103 (hK ..) _ (zo_5 _) _]; repeat (first | simp (disch := first | omega | decide) only [upz_srt, upy_upz, upz_up, upS_srt, upT_upS, upS_up] | simp (disch := first | with_reducible assumption | omega | decide | (simp only [ps_low, List.map_cons, List.map_nil, Value.category, List.sum_cons, List.sum_nil]; decide)) only [el_X5_read_95, el_X5_read_96, el_X5_read_99, el_X5_read_102, el_X5_read_106, gf_4_6, px_ifp, px_ifn, zh_1, zc_1, zc_2, zc_3, zc_4, zc_5, zc_6, zc_7, zc_8, zc_9, zc_10, zc_11, zc_12, zc_20, zc_21, zc_22, zp_1, zp_2, zp_3, zp_4, zp_5, zp_6, zp_7, zp_8, zp_9, zp_10, zp_11, zp_12, zp_20, zp_21, zp_22, upS_eq, upS_ne, upS_up, upz_eq, upz_ne, upz_up, px_al_aI, px_as_aI, px_as_aZ, px_as_aC, px_ln_aI, Option.toList, List.cons_append, List.nil_append, Int.reduceAdd, Int.reduceSub, Int.reduceMul, ↓reduceIte, Nat.reduceEqDiff, eq_self, Int.reduceEq, Int.reduceLT, Int.reduceLE, Int.reduceNe, Int.reduceNeg, Int.reduceToNat, ne_eq, not_true_eq_false, not_false_eq_true, t0, t1, u0, u1, u2, u3, u4, u5, u6, u7, v0, v1, v2, s0, g, el_X5_read_103 (hK ..) _ (zo_5 _) _]))
        exact fq
      · have r6 := o3.2.1
        have fq := zQ_in (T := T) (c := c) (P := fun v S' => v = none ∧ pFr t s x S S' ∧ pR S' t s x b (rdAll b P)) (v := none) (S' := S3) ⟨rfl, f3, by
            rw [eA]
            unfold rdUsual
            rw [if_neg g]
            exact q3⟩
        rw [hQf] at fq
        (simp (disch := first | with_reducible assumption | omega | decide | (simp only [ps_low, List.map_cons, List.map_nil, Value.category, List.sum_cons, List.sum_nil]; decide)) only [el_X5_read_95, el_X5_read_96, el_X5_read_99, el_X5_read_102, el_X5_read_106, gf_4_6, px_ifp, px_ifn, zh_1, zc_1, zc_2, zc_3, zc_4, zc_5, zc_6, zc_7, zc_8, zc_9, zc_10, zc_11, zc_12, zc_20, zc_21, zc_22, zp_1, zp_2, zp_3, zp_4, zp_5, zp_6, zp_7, zp_8, zp_9, zp_10, zp_11, zp_12, zp_20, zp_21, zp_22, upS_eq, upS_ne, upS_up, upz_eq, upz_ne, upz_up, px_al_aI, px_as_aI, px_as_aZ, px_as_aC, px_ln_aI, Option.toList, List.cons_append, List.nil_append, Int.reduceAdd, Int.reduceSub, Int.reduceMul, ↓reduceIte, Nat.reduceEqDiff, eq_self, Int.reduceEq, Int.reduceLT, Int.reduceLE, Int.reduceNe, Int.reduceNeg, Int.reduceToNat, ne_eq, not_true_eq_false, not_false_eq_true, t0, t1, u0, u1, u2, u3, u4, u5, u6, u7, v0, v1, v2, s0]; repeat (first | simp (disch := first | omega | decide) only [upz_srt, upy_upz, upz_up, upS_srt, upT_upS, upS_up] | simp (disch := first | with_reducible assumption | omega | decide | (simp only [ps_low, List.map_cons, List.map_nil, Value.category, List.sum_cons, List.sum_nil]; decide)) only [el_X5_read_95, el_X5_read_96, el_X5_read_99, el_X5_read_102, el_X5_read_106, gf_4_6, px_ifp, px_ifn, zh_1, zc_1, zc_2, zc_3, zc_4, zc_5, zc_6, zc_7, zc_8, zc_9, zc_10, zc_11, zc_12, zc_20, zc_21, zc_22, zp_1, zp_2, zp_3, zp_4, zp_5, zp_6, zp_7, zp_8, zp_9, zp_10, zp_11, zp_12, zp_20, zp_21, zp_22, upS_eq, upS_ne, upS_up, upz_eq, upz_ne, upz_up, px_al_aI, px_as_aI, px_as_aZ, px_as_aC, px_ln_aI, Option.toList, List.cons_append, List.nil_append, Int.reduceAdd, Int.reduceSub, Int.reduceMul, ↓reduceIte, Nat.reduceEqDiff, eq_self, Int.reduceEq, Int.reduceLT, Int.reduceLE, Int.reduceNe, Int.reduceNeg, Int.reduceToNat, ne_eq, not_true_eq_false, not_false_eq_true, t0, t1, u0, u1, u2, u3, u4, u5, u6, u7, v0, v1, v2, s0]))
        exact fq
    induction k with
    | zero =>
      intro i S3 P3 hi f3 q3 o3 he
      have nx := fin S3 P3 (.int (zI i)) f3 q3 o3 he
      rw [el_X5_read_69]
      (simp (disch := first | with_reducible assumption | omega | decide | (simp only [ps_low, List.map_cons, List.map_nil, Value.category, List.sum_cons, List.sum_nil]; decide)) only [el_X5_read_70, el_X5_read_73, px_ifp, px_ifn, zh_1, zc_1, zc_2, zc_3, zc_4, zc_5, zc_6, zc_7, zc_8, zc_9, zc_10, zc_11, zc_12, zc_20, zc_21, zc_22, zp_1, zp_2, zp_3, zp_4, zp_5, zp_6, zp_7, zp_8, zp_9, zp_10, zp_11, zp_12, zp_20, zp_21, zp_22, upS_eq, upS_ne, upS_up, upz_eq, upz_ne, upz_up, px_al_aI, px_as_aI, px_as_aZ, px_as_aC, px_ln_aI, Option.toList, List.cons_append, List.nil_append, Int.reduceAdd, Int.reduceSub, Int.reduceMul, ↓reduceIte, Nat.reduceEqDiff, eq_self, Int.reduceEq, Int.reduceLT, Int.reduceLE, Int.reduceNe, Int.reduceNeg, Int.reduceToNat, ne_eq, not_true_eq_false, not_false_eq_true, t0, t1, u0, u1, u2, u3, u4, u5, u6, u7, v0, v1, v2]; repeat (first | simp (disch := first | omega | decide) only [upz_srt, upy_upz, upz_up, upS_srt, upT_upS, upS_up] | simp (disch := first | with_reducible assumption | omega | decide | (simp only [ps_low, List.map_cons, List.map_nil, Value.category, List.sum_cons, List.sum_nil]; decide)) only [el_X5_read_70, el_X5_read_73, px_ifp, px_ifn, zh_1, zc_1, zc_2, zc_3, zc_4, zc_5, zc_6, zc_7, zc_8, zc_9, zc_10, zc_11, zc_12, zc_20, zc_21, zc_22, zp_1, zp_2, zp_3, zp_4, zp_5, zp_6, zp_7, zp_8, zp_9, zp_10, zp_11, zp_12, zp_20, zp_21, zp_22, upS_eq, upS_ne, upS_up, upz_eq, upz_ne, upz_up, px_al_aI, px_as_aI, px_as_aZ, px_as_aC, px_ln_aI, Option.toList, List.cons_append, List.nil_append, Int.reduceAdd, Int.reduceSub, Int.reduceMul, ↓reduceIte, Nat.reduceEqDiff, eq_self, Int.reduceEq, Int.reduceLT, Int.reduceLE, Int.reduceNe, Int.reduceNeg, Int.reduceToNat, ne_eq, not_true_eq_false, not_false_eq_true, t0, t1, u0, u1, u2, u3, u4, u5, u6, u7, v0, v1, v2]))
      exact nx
    | succ k ih =>
      intro i S3 P3 hi f3 q3 o3 he
      unfold rdLines at he
      obtain ⟨k1, k2, k3, k4⟩ := id q3
      have hG := c_goesOn (T := T) (S := S3) (c := c) (t := t) l9 (by rw [k1]; exact o3.1)
      rw [k1] at hG
      by_cases g : P3.1 1 = 0 ∧ P3.1 5 ≠ 0
      · rw [if_pos g] at he hG
        obtain ⟨S4, r4, f4, q4⟩ := c_readLine (c := c) hL0 q3 o3 hb hC
        have nx := ih (i + 1) S4 _ (by omega) (fun a h1 h2 h3 => (f4 a h1 h2 h3).trans (f3 a h1 h2 h3)) q4 (pO_line o3) he
        rw [el_X5_read_69]
        (simp (disch := first | with_reducible assumption | omega | decide | (simp only [ps_low, List.map_cons, List.map_nil, Value.category, List.sum_cons, List.sum_nil]; decide)) only [el_X5_read_70, el_X5_read_73, el_X5_read_76, el_X5_read_80, el_X5_read_83, el_X5_read_84, el_X5_read_85, el_X5_read_89, el_X5_read_92, px_ifp, px_ifn, zh_1, zc_1, zc_2, zc_3, zc_4, zc_5, zc_6, zc_7, zc_8, zc_9, zc_10, zc_11, zc_12, zc_20, zc_21, zc_22, zp_1, zp_2, zp_3, zp_4, zp_5, zp_6, zp_7, zp_8, zp_9, zp_10, zp_11, zp_12, zp_20, zp_21, zp_22, upS_eq, upS_ne, upS_up, upz_eq, upz_ne, upz_up, px_al_aI, px_as_aI, px_as_aZ, px_as_aC, px_ln_aI, Option.toList, List.cons_append, List.nil_append, Int.reduceAdd, Int.reduceSub, Int.reduceMul, ↓reduceIte, Nat.reduceEqDiff, eq_self, Int.reduceEq, Int.reduceLT, Int.reduceLE, Int.reduceNe, Int.reduceNeg, Int.reduceToNat, ne_eq, not_true_eq_false, not_false_eq_true, t0, t1, u0, u1, u2, u3, u4, u5, u6, u7, v0, v1, v2, el_X5_read_77 (hG ..) _ (zo_10 _) _, el_X5_read_86 (r4 ..) _ (zo_6 _) _]; repeat (first | simp (disch := first | omega | decide) only [upz_srt, upy_upz, upz_up, upS_srt, upT_upS, upS_up] | simp (disch := first | with_reducible assumption | omega | decide | (simp only [ps_low, List.map_cons, List.map_nil, Value.category, List.sum_cons, List.sum_nil]; decide)) only [el_X5_read_70, el_X5_read_73, el_X5_read_76, el_X5_read_80, el_X5_read_83, el_X5_read_84, el_X5_read_85, el_X5_read_89, el_X5_read_92, px_ifp, px_ifn, zh_1, zc_1, zc_2, zc_3, zc_4, zc_5, zc_6, zc_7, zc_8, zc_9, zc_10, zc_11, zc_12, zc_20, zc_21, zc_22, zp_1, zp_2, zp_3, zp_4, zp_5, zp_6, zp_7, zp_8, zp_9, zp_10, zp_11, zp_12, zp_20, zp_21, zp_22, upS_eq, upS_ne, upS_up, upz_eq, upz_ne, upz_up, px_al_aI, px_as_aI, px_as_aZ, px_as_aC, px_ln_aI, Option.toList, List.cons_append, List.nil_append, Int.reduceAdd, Int.reduceSub, Int.reduceMul, ↓reduceIte, Nat.reduceEqDiff, eq_self, Int.reduceEq, Int.reduceLT, Int.reduceLE, Int.reduceNe, Int.reduceNeg, Int.reduceToNat, ne_eq, not_true_eq_false, not_false_eq_true, t0, t1, u0, u1, u2, u3, u4, u5, u6, u7, v0, v1, v2, el_X5_read_77 (hG ..) _ (zo_10 _) _, el_X5_read_86 (r4 ..) _ (zo_6 _) _]))
        exact nx
      · rw [if_neg g] at he hG
        have nx := fin S3 P3 (.int (zI i)) f3 q3 o3 he
        rw [el_X5_read_69]
        (simp (disch := first | with_reducible assumption | omega | decide | (simp only [ps_low, List.map_cons, List.map_nil, Value.category, List.sum_cons, List.sum_nil]; decide)) only [el_X5_read_70, el_X5_read_73, el_X5_read_76, el_X5_read_80, el_X5_read_83, px_ifp, px_ifn, zh_1, zc_1, zc_2, zc_3, zc_4, zc_5, zc_6, zc_7, zc_8, zc_9, zc_10, zc_11, zc_12, zc_20, zc_21, zc_22, zp_1, zp_2, zp_3, zp_4, zp_5, zp_6, zp_7, zp_8, zp_9, zp_10, zp_11, zp_12, zp_20, zp_21, zp_22, upS_eq, upS_ne, upS_up, upz_eq, upz_ne, upz_up, px_al_aI, px_as_aI, px_as_aZ, px_as_aC, px_ln_aI, Option.toList, List.cons_append, List.nil_append, Int.reduceAdd, Int.reduceSub, Int.reduceMul, ↓reduceIte, Nat.reduceEqDiff, eq_self, Int.reduceEq, Int.reduceLT, Int.reduceLE, Int.reduceNe, Int.reduceNeg, Int.reduceToNat, ne_eq, not_true_eq_false, not_false_eq_true, t0, t1, u0, u1, u2, u3, u4, u5, u6, u7, v0, v1, v2, el_X5_read_77 (hG ..) _ (zo_10 _) _]; repeat (first | simp (disch := first | omega | decide) only [upz_srt, upy_upz, upz_up, upS_srt, upT_upS, upS_up] | simp (disch := first | with_reducible assumption | omega | decide | (simp only [ps_low, List.map_cons, List.map_nil, Value.category, List.sum_cons, List.sum_nil]; decide)) only [el_X5_read_70, el_X5_read_73, el_X5_read_76, el_X5_read_80, el_X5_read_83, px_ifp, px_ifn, zh_1, zc_1, zc_2, zc_3, zc_4, zc_5, zc_6, zc_7, zc_8, zc_9, zc_10, zc_11, zc_12, zc_20, zc_21, zc_22, zp_1, zp_2, zp_3, zp_4, zp_5, zp_6, zp_7, zp_8, zp_9, zp_10, zp_11, zp_12, zp_20, zp_21, zp_22, upS_eq, upS_ne, upS_up, upz_eq, upz_ne, upz_up, px_al_aI, px_as_aI, px_as_aZ, px_as_aC, px_ln_aI, Option.toList, List.cons_append, List.nil_append, Int.reduceAdd, Int.reduceSub, Int.reduceMul, ↓reduceIte, Nat.reduceEqDiff, eq_self, Int.reduceEq, Int.reduceLT, Int.reduceLE, Int.reduceNe, Int.reduceNeg, Int.reduceToNat, ne_eq, not_true_eq_false, not_false_eq_true, t0, t1, u0, u1, u2, u3, u4, u5, u6, u7, v0, v1, v2, el_X5_read_77 (hG ..) _ (zo_10 _) _]))
        exact nx
  have l3 := loop3 500 0 S2 (rdInit P) rfl (fun a h1 h2 h3 => by rw [s2 a (by omega), s1 a h3]) hR2 hO rfl
  have l2 := loop2 10 0 (zQ T c (fun v S' => v = none ∧ pFr t s x S S' ∧ pR S' t s x b (rdAll b P))) rfl
  have l1 := loop1 10 0 (zQ T c (fun v S' => v = none ∧ pFr t s x S S' ∧ pR S' t s x b (rdAll b P))) rfl
  rw [z2, upS_same (S := upS (upS S x G) (x + 1) A1) (by rw [upS_ne (by omega), upS_ne (by omega)])] at l2
  rw [z1, upS_same (S := upS S x G) (a := x + 1) (f := S (x + 1)) (by rw [upS_ne (by omega)])] at l1
  obtain ⟨v, S', hr, rfl, hf, hq⟩ : zR 8 36 [.ref x, .ref t, .ref s, .retAddr 0] T S c (fun v S' => v = none ∧ pFr t s x S S' ∧ pR S' t s x b (rdAll b P)) := by
    refine zR_of ?_
    generalize zQ T c (fun v S' => v = none ∧ pFr t s x S S' ∧ pR S' t s x b (rdAll b P)) = Qf at *
    have m3 : px_Ev 8 36 63 [.ref x, .ref t, .ref s, .int (zI 10)] [] (zh T S1 c) Qf := by
      (simp (disch := first | with_reducible assumption | omega | decide | (simp only [ps_low, List.map_cons, List.map_nil, Value.category, List.sum_cons, List.sum_nil]; decide)) only [el_X5_read_63, el_X5_read_67, el_X5_read_68, px_ifp, px_ifn, zh_1, zc_1, zc_2, zc_3, zc_4, zc_5, zc_6, zc_7, zc_8, zc_9, zc_10, zc_11, zc_12, zc_20, zc_21, zc_22, zp_1, zp_2, zp_3, zp_4, zp_5, zp_6, zp_7, zp_8, zp_9, zp_10, zp_11, zp_12, zp_20, zp_21, zp_22, upS_eq, upS_ne, upS_up, upz_eq, upz_ne, upz_up, px_al_aI, px_as_aI, px_as_aZ, px_as_aC, px_ln_aI, Option.toList, List.cons_append, List.nil_append, Int.reduceAdd, Int.reduceSub, Int.reduceMul, ↓reduceIte, Nat.reduceEqDiff, eq_self, Int.reduceEq, Int.reduceLT, Int.reduceLE, Int.reduceNe, Int.reduceNeg, Int.reduceToNat, ne_eq, not_true_eq_false, not_false_eq_true, t0, t1, u0, u1, u2, u3, u4, u5, u6, u7, v0, v1, v2, el_X5_read_64 (hU ..) _ (zo_5 _) _]; repeat (first | simp (disch := first | omega | decide) only [upz_srt, upy_upz, upz_up, upS_srt, upT_upS, upS_up] | simp (disch := first | with_reducible assumption | omega | decide | (simp only [ps_low, List.map_cons, List.map_nil, Value.category, List.sum_cons, List.sum_nil]; decide)) only [el_X5_read_63, el_X5_read_67, el_X5_read_68, px_ifp, px_ifn, zh_1, zc_1, zc_2, zc_3, zc_4, zc_5, zc_6, zc_7, zc_8, zc_9, zc_10, zc_11, zc_12, zc_20, zc_21, zc_22, zp_1, zp_2, zp_3, zp_4, zp_5, zp_6, zp_7, zp_8, zp_9, zp_10, zp_11, zp_12, zp_20, zp_21, zp_22, upS_eq, upS_ne, upS_up, upz_eq, upz_ne, upz_up, px_al_aI, px_as_aI, px_as_aZ, px_as_aC, px_ln_aI, Option.toList, List.cons_append, List.nil_append, Int.reduceAdd, Int.reduceSub, Int.reduceMul, ↓reduceIte, Nat.reduceEqDiff, eq_self, Int.reduceEq, Int.reduceLT, Int.reduceLE, Int.reduceNe, Int.reduceNeg, Int.reduceToNat, ne_eq, not_true_eq_false, not_false_eq_true, t0, t1, u0, u1, u2, u3, u4, u5, u6, u7, v0, v1, v2, el_X5_read_64 (hU ..) _ (zo_5 _) _]))
      exact l3
    have m2 := l2 m3
    have m1 : px_Ev 8 36 39 [.ref x, .ref t, .ref s, .int (zI 10)] [] (zh T (upS (upS S x G) (x + 1) A1) c) Qf := by
      (simp (disch := first | with_reducible assumption | omega | decide | (simp only [ps_low, List.map_cons, List.map_nil, Value.category, List.sum_cons, List.sum_nil]; decide)) only [el_X5_read_39, el_X5_read_40, px_ifp, px_ifn, zh_1, zc_1, zc_2, zc_3, zc_4, zc_5, zc_6, zc_7, zc_8, zc_9, zc_10, zc_11, zc_12, zc_20, zc_21, zc_22, zp_1, zp_2, zp_3, zp_4, zp_5, zp_6, zp_7, zp_8, zp_9, zp_10, zp_11, zp_12, zp_20, zp_21, zp_22, upS_eq, upS_ne, upS_up, upz_eq, upz_ne, upz_up, px_al_aI, px_as_aI, px_as_aZ, px_as_aC, px_ln_aI, Option.toList, List.cons_append, List.nil_append, Int.reduceAdd, Int.reduceSub, Int.reduceMul, ↓reduceIte, Nat.reduceEqDiff, eq_self, Int.reduceEq, Int.reduceLT, Int.reduceLE, Int.reduceNe, Int.reduceNeg, Int.reduceToNat, ne_eq, not_true_eq_false, not_false_eq_true, t0, t1, u0, u1, u2, u3, u4, u5, u6, u7, v0, v1, v2]; repeat (first | simp (disch := first | omega | decide) only [upz_srt, upy_upz, upz_up, upS_srt, upT_upS, upS_up] | simp (disch := first | with_reducible assumption | omega | decide | (simp only [ps_low, List.map_cons, List.map_nil, Value.category, List.sum_cons, List.sum_nil]; decide)) only [el_X5_read_39, el_X5_read_40, px_ifp, px_ifn, zh_1, zc_1, zc_2, zc_3, zc_4, zc_5, zc_6, zc_7, zc_8, zc_9, zc_10, zc_11, zc_12, zc_20, zc_21, zc_22, zp_1, zp_2, zp_3, zp_4, zp_5, zp_6, zp_7, zp_8, zp_9, zp_10, zp_11, zp_12, zp_20, zp_21, zp_22, upS_eq, upS_ne, upS_up, upz_eq, upz_ne, upz_up, px_al_aI, px_as_aI, px_as_aZ, px_as_aC, px_ln_aI, Option.toList, List.cons_append, List.nil_append, Int.reduceAdd, Int.reduceSub, Int.reduceMul, ↓reduceIte, Nat.reduceEqDiff, eq_self, Int.reduceEq, Int.reduceLT, Int.reduceLE, Int.reduceNe, Int.reduceNeg, Int.reduceToNat, ne_eq, not_true_eq_false, not_false_eq_true, t0, t1, u0, u1, u2, u3, u4, u5, u6, u7, v0, v1, v2]))
      exact m2
    have m0 := l1 m1
    (simp (disch := first | with_reducible assumption | omega | decide | (simp only [ps_low, List.map_cons, List.map_nil, Value.category, List.sum_cons, List.sum_nil]; decide)) only [el_X5_read_0, el_X5_read_1, el_X5_read_2, el_X5_read_5, el_X5_read_6, el_X5_read_7, el_X5_read_10, el_X5_read_11, el_X5_read_12, el_X5_read_15, el_X5_read_16, pf_5_0, pf_5_1, pf_5_2, px_ifp, px_ifn, zh_1, zc_1, zc_2, zc_3, zc_4, zc_5, zc_6, zc_7, zc_8, zc_9, zc_10, zc_11, zc_12, zc_20, zc_21, zc_22, zp_1, zp_2, zp_3, zp_4, zp_5, zp_6, zp_7, zp_8, zp_9, zp_10, zp_11, zp_12, zp_20, zp_21, zp_22, upS_eq, upS_ne, upS_up, upz_eq, upz_ne, upz_up, px_al_aI, px_as_aI, px_as_aZ, px_as_aC, px_ln_aI, Option.toList, List.cons_append, List.nil_append, Int.reduceAdd, Int.reduceSub, Int.reduceMul, ↓reduceIte, Nat.reduceEqDiff, eq_self, Int.reduceEq, Int.reduceLT, Int.reduceLE, Int.reduceNe, Int.reduceNeg, Int.reduceToNat, ne_eq, not_true_eq_false, not_false_eq_true, t0, t1, u0, u1, u2, u3, u4, u5, u6, u7, v0, v1, v2, hG]; repeat (first | simp (disch := first | omega | decide) only [upz_srt, upy_upz, upz_up, upS_srt, upT_upS, upS_up] | simp (disch := first | with_reducible assumption | omega | decide | (simp only [ps_low, List.map_cons, List.map_nil, Value.category, List.sum_cons, List.sum_nil]; decide)) only [el_X5_read_0, el_X5_read_1, el_X5_read_2, el_X5_read_5, el_X5_read_6, el_X5_read_7, el_X5_read_10, el_X5_read_11, el_X5_read_12, el_X5_read_15, el_X5_read_16, pf_5_0, pf_5_1, pf_5_2, px_ifp, px_ifn, zh_1, zc_1, zc_2, zc_3, zc_4, zc_5, zc_6, zc_7, zc_8, zc_9, zc_10, zc_11, zc_12, zc_20, zc_21, zc_22, zp_1, zp_2, zp_3, zp_4, zp_5, zp_6, zp_7, zp_8, zp_9, zp_10, zp_11, zp_12, zp_20, zp_21, zp_22, upS_eq, upS_ne, upS_up, upz_eq, upz_ne, upz_up, px_al_aI, px_as_aI, px_as_aZ, px_as_aC, px_ln_aI, Option.toList, List.cons_append, List.nil_append, Int.reduceAdd, Int.reduceSub, Int.reduceMul, ↓reduceIte, Nat.reduceEqDiff, eq_self, Int.reduceEq, Int.reduceLT, Int.reduceLE, Int.reduceNe, Int.reduceNeg, Int.reduceToNat, ne_eq, not_true_eq_false, not_false_eq_true, t0, t1, u0, u1, u2, u3, u4, u5, u6, u7, v0, v1, v2, hG]))
    exact m0
  exact ⟨S', hr, hf, hq⟩
