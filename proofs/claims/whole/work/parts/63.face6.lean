/-! THE FACE, 6: mean, teach, evening -/
def cdF : Nat → Int → Int → Int
  | 0, a, _ => a
  | k + 1, a, b => if 0 < b then cdF k b (a.tmod b) else a
theorem tmod_r {a b : Int} (ha : 0 ≤ a) (hb : 0 < b) : 0 ≤ a.tmod b ∧ a.tmod b < b := by
  rw [Int.tmod_eq_emod_of_nonneg ha]
  exact ⟨Int.emod_nonneg _ (by omega), Int.emod_lt_of_pos _ hb⟩
theorem cdF_r : ∀ (k : Nat) (a b : Int), 0 ≤ a → a ≤ 100000000 → 0 ≤ b → b ≤ 100000000 → 0 ≤ cdF k a b ∧ cdF k a b ≤ 100000000
  | 0, a, b, h1, h2, h3, h4 => ⟨h1, h2⟩
  | k + 1, a, b, h1, h2, h3, h4 => by
    unfold cdF
    split
    · rename_i g
      have := tmod_r h1 g
      exact cdF_r k b _ h3 h4 this.1 (by omega)
    · exact ⟨h1, h2⟩
theorem c_divisor {h : pm_H} {a b : Int} (ha : 0 ≤ a ∧ a ≤ 100000000) (hb : 0 ≤ b ∧ b ≤ 100000000) : px_R 0 132 [.int (zI a), .int (zI b), .retAddr 0, .retAddr 0, .retAddr 0, .retAddr 0] h (.inl (some (.int (zI (cdF 50 a b))))) h := by
  refine px_ofQ fun Q hQ => ?_
  have loop : ∀ (k i : Nat) (u v : Int) (l5 : Value), i + k = 50 → (0 ≤ u ∧ u ≤ 100000000) → (0 ≤ v ∧ v ≤ 100000000) → Q (.inl (some (.int (zI (cdF k u v))))) h → px_Ev 0 132 7 [.int (zI a), .int (zI b), .int (zI u), .int (zI v), .int (zI i), l5] [] h Q := by
    intro k
    induction k with
    | zero =>
      intro i u v l5 hi hu hv q
      rw [el_X10_commonDivisor_7]; repeat' (first | (simp (disch := first | with_reducible assumption | omega | decide | (simp only [ps_low, List.map_cons, List.map_nil, Value.category, List.sum_cons, List.sum_nil]; decide)) only [el_X10_commonDivisor_0, el_X10_commonDivisor_1, el_X10_commonDivisor_2, el_X10_commonDivisor_3, el_X10_commonDivisor_4, el_X10_commonDivisor_5, el_X10_commonDivisor_9, el_X10_commonDivisor_11, el_X10_commonDivisor_14, el_X10_commonDivisor_15, el_X10_commonDivisor_18, el_X10_commonDivisor_19, el_X10_commonDivisor_20, el_X10_commonDivisor_21, el_X10_commonDivisor_23, el_X10_commonDivisor_24, el_X10_commonDivisor_25, el_X10_commonDivisor_27, el_X10_commonDivisor_28, el_X10_commonDivisor_31, el_X10_commonDivisor_34, el_X10_commonDivisor_35, px_ifp, px_ifn, zh_1, zc_1, zc_2, zc_3, zc_4, zc_5, zc_6, zc_7, zc_8, zc_9, zc_10, zc_11, zc_12, zc_20, zc_21, zc_22, zp_1, zp_2, zp_3, zp_4, zp_5, zp_6, zp_7, zp_8, zp_9, zp_10, zp_11, zp_12, zp_20, zp_21, zp_22, upS_eq, upS_ne, upS_up, upz_eq, upz_ne, upz_up, px_al_aI, px_as_aI, px_as_aZ, px_as_aC, px_ln_aI, Option.toList, List.cons_append, List.nil_append, Int.reduceAdd, Int.reduceSub, Int.reduceMul, ↓reduceIte, Nat.reduceEqDiff, eq_self, Int.reduceEq, Int.reduceLT, Int.reduceLE, Int.reduceNe, Int.reduceNeg, Int.reduceToNat, ne_eq, not_true_eq_false, not_false_eq_true]; repeat (first | simp (disch := first | omega | decide) only [upz_srt, upy_upz, upz_up, upS_srt, upT_upS, upS_up] | simp (disch := first | with_reducible assumption | omega | decide | (simp only [ps_low, List.map_cons, List.map_nil, Value.category, List.sum_cons, List.sum_nil]; decide)) only [el_X10_commonDivisor_0, el_X10_commonDivisor_1, el_X10_commonDivisor_2, el_X10_commonDivisor_3, el_X10_commonDivisor_4, el_X10_commonDivisor_5, el_X10_commonDivisor_9, el_X10_commonDivisor_11, el_X10_commonDivisor_14, el_X10_commonDivisor_15, el_X10_commonDivisor_18, el_X10_commonDivisor_19, el_X10_commonDivisor_20, el_X10_commonDivisor_21, el_X10_commonDivisor_23, el_X10_commonDivisor_24, el_X10_commonDivisor_25, el_X10_commonDivisor_27, el_X10_commonDivisor_28, el_X10_commonDivisor_31, el_X10_commonDivisor_34, el_X10_commonDivisor_35, px_ifp, px_ifn, zh_1, zc_1, zc_2, zc_3, zc_4, zc_5, zc_6, zc_7, zc_8, zc_9, zc_10, zc_11, zc_12, zc_20, zc_21, zc_22, zp_1, zp_2, zp_3, zp_4, zp_5, zp_6, zp_7, zp_8, zp_9, zp_10, zp_11, zp_12, zp_20, zp_21, zp_22, upS_eq, upS_ne, upS_up, upz_eq, upz_ne, upz_up, px_al_aI, px_as_aI, px_as_aZ, px_as_aC, px_ln_aI, Option.toList, List.cons_append, List.nil_append, Int.reduceAdd, Int.reduceSub, Int.reduceMul, ↓reduceIte, Nat.reduceEqDiff, eq_self, Int.reduceEq, Int.reduceLT, Int.reduceLE, Int.reduceNe, Int.reduceNeg, Int.reduceToNat, ne_eq, not_true_eq_false, not_false_eq_true])) | simp (disch := first | omega | decide) only [upz_srt, upy_upz, upz_up, upS_srt, upT_upS, upS_up] | with_reducible refine px_ite (fun _ => ?_) (fun _ => ?_))
      exact q
    | succ k ih =>
      intro i u v l5 hi hu hv q
      unfold cdF at q
      by_cases g : 0 < v
      · rw [if_pos g] at q
        have ht := tmod_r hu.1 g
        have hz : ¬ zI v = 0 := zI_ne0 (by omega)
        have nx := ih (i + 1) v (u.tmod v) (.int (zI (u.tmod v))) (by omega) hv (by omega) q
        rw [el_X10_commonDivisor_7]; repeat' (first | (simp (disch := first | with_reducible assumption | omega | decide | (simp only [ps_low, List.map_cons, List.map_nil, Value.category, List.sum_cons, List.sum_nil]; decide)) only [el_X10_commonDivisor_0, el_X10_commonDivisor_1, el_X10_commonDivisor_2, el_X10_commonDivisor_3, el_X10_commonDivisor_4, el_X10_commonDivisor_5, el_X10_commonDivisor_9, el_X10_commonDivisor_11, el_X10_commonDivisor_14, el_X10_commonDivisor_15, el_X10_commonDivisor_18, el_X10_commonDivisor_19, el_X10_commonDivisor_20, el_X10_commonDivisor_21, el_X10_commonDivisor_23, el_X10_commonDivisor_24, el_X10_commonDivisor_25, el_X10_commonDivisor_27, el_X10_commonDivisor_28, el_X10_commonDivisor_31, el_X10_commonDivisor_34, el_X10_commonDivisor_35, px_ifp, px_ifn, zh_1, zc_1, zc_2, zc_3, zc_4, zc_5, zc_6, zc_7, zc_8, zc_9, zc_10, zc_11, zc_12, zc_20, zc_21, zc_22, zp_1, zp_2, zp_3, zp_4, zp_5, zp_6, zp_7, zp_8, zp_9, zp_10, zp_11, zp_12, zp_20, zp_21, zp_22, upS_eq, upS_ne, upS_up, upz_eq, upz_ne, upz_up, px_al_aI, px_as_aI, px_as_aZ, px_as_aC, px_ln_aI, Option.toList, List.cons_append, List.nil_append, Int.reduceAdd, Int.reduceSub, Int.reduceMul, ↓reduceIte, Nat.reduceEqDiff, eq_self, Int.reduceEq, Int.reduceLT, Int.reduceLE, Int.reduceNe, Int.reduceNeg, Int.reduceToNat, ne_eq, not_true_eq_false, not_false_eq_true, zI_tmod]; repeat (first | simp (disch := first | omega | decide) only [upz_srt, upy_upz, upz_up, upS_srt, upT_upS, upS_up] | simp (disch := first | with_reducible assumption | omega | decide | (simp only [ps_low, List.map_cons, List.map_nil, Value.category, List.sum_cons, List.sum_nil]; decide)) only [el_X10_commonDivisor_0, el_X10_commonDivisor_1, el_X10_commonDivisor_2, el_X10_commonDivisor_3, el_X10_commonDivisor_4, el_X10_commonDivisor_5, el_X10_commonDivisor_9, el_X10_commonDivisor_11, el_X10_commonDivisor_14, el_X10_commonDivisor_15, el_X10_commonDivisor_18, el_X10_commonDivisor_19, el_X10_commonDivisor_20, el_X10_commonDivisor_21, el_X10_commonDivisor_23, el_X10_commonDivisor_24, el_X10_commonDivisor_25, el_X10_commonDivisor_27, el_X10_commonDivisor_28, el_X10_commonDivisor_31, el_X10_commonDivisor_34, el_X10_commonDivisor_35, px_ifp, px_ifn, zh_1, zc_1, zc_2, zc_3, zc_4, zc_5, zc_6, zc_7, zc_8, zc_9, zc_10, zc_11, zc_12, zc_20, zc_21, zc_22, zp_1, zp_2, zp_3, zp_4, zp_5, zp_6, zp_7, zp_8, zp_9, zp_10, zp_11, zp_12, zp_20, zp_21, zp_22, upS_eq, upS_ne, upS_up, upz_eq, upz_ne, upz_up, px_al_aI, px_as_aI, px_as_aZ, px_as_aC, px_ln_aI, Option.toList, List.cons_append, List.nil_append, Int.reduceAdd, Int.reduceSub, Int.reduceMul, ↓reduceIte, Nat.reduceEqDiff, eq_self, Int.reduceEq, Int.reduceLT, Int.reduceLE, Int.reduceNe, Int.reduceNeg, Int.reduceToNat, ne_eq, not_true_eq_false, not_false_eq_true, zI_tmod])) | simp (disch := first | omega | decide) only [upz_srt, upy_upz, upz_up, upS_srt, upT_upS, upS_up] | with_reducible refine px_ite (fun _ => ?_) (fun _ => ?_))
        exact nx
      · rw [if_neg g] at q
        rw [el_X10_commonDivisor_7]; repeat' (first | (simp (disch := first | with_reducible assumption | omega | decide | (simp only [ps_low, List.map_cons, List.map_nil, Value.category, List.sum_cons, List.sum_nil]; decide)) only [el_X10_commonDivisor_0, el_X10_commonDivisor_1, el_X10_commonDivisor_2, el_X10_commonDivisor_3, el_X10_commonDivisor_4, el_X10_commonDivisor_5, el_X10_commonDivisor_9, el_X10_commonDivisor_11, el_X10_commonDivisor_14, el_X10_commonDivisor_15, el_X10_commonDivisor_18, el_X10_commonDivisor_19, el_X10_commonDivisor_20, el_X10_commonDivisor_21, el_X10_commonDivisor_23, el_X10_commonDivisor_24, el_X10_commonDivisor_25, el_X10_commonDivisor_27, el_X10_commonDivisor_28, el_X10_commonDivisor_31, el_X10_commonDivisor_34, el_X10_commonDivisor_35, px_ifp, px_ifn, zh_1, zc_1, zc_2, zc_3, zc_4, zc_5, zc_6, zc_7, zc_8, zc_9, zc_10, zc_11, zc_12, zc_20, zc_21, zc_22, zp_1, zp_2, zp_3, zp_4, zp_5, zp_6, zp_7, zp_8, zp_9, zp_10, zp_11, zp_12, zp_20, zp_21, zp_22, upS_eq, upS_ne, upS_up, upz_eq, upz_ne, upz_up, px_al_aI, px_as_aI, px_as_aZ, px_as_aC, px_ln_aI, Option.toList, List.cons_append, List.nil_append, Int.reduceAdd, Int.reduceSub, Int.reduceMul, ↓reduceIte, Nat.reduceEqDiff, eq_self, Int.reduceEq, Int.reduceLT, Int.reduceLE, Int.reduceNe, Int.reduceNeg, Int.reduceToNat, ne_eq, not_true_eq_false, not_false_eq_true]; repeat (first | simp (disch := first | omega | decide) only [upz_srt, upy_upz, upz_up, upS_srt, upT_upS, upS_up] | simp (disch := first | with_reducible assumption | omega | decide | (simp only [ps_low, List.map_cons, List.map_nil, Value.category, List.sum_cons, List.sum_nil]; decide)) only [el_X10_commonDivisor_0, el_X10_commonDivisor_1, el_X10_commonDivisor_2, el_X10_commonDivisor_3, el_X10_commonDivisor_4, el_X10_commonDivisor_5, el_X10_commonDivisor_9, el_X10_commonDivisor_11, el_X10_commonDivisor_14, el_X10_commonDivisor_15, el_X10_commonDivisor_18, el_X10_commonDivisor_19, el_X10_commonDivisor_20, el_X10_commonDivisor_21, el_X10_commonDivisor_23, el_X10_commonDivisor_24, el_X10_commonDivisor_25, el_X10_commonDivisor_27, el_X10_commonDivisor_28, el_X10_commonDivisor_31, el_X10_commonDivisor_34, el_X10_commonDivisor_35, px_ifp, px_ifn, zh_1, zc_1, zc_2, zc_3, zc_4, zc_5, zc_6, zc_7, zc_8, zc_9, zc_10, zc_11, zc_12, zc_20, zc_21, zc_22, zp_1, zp_2, zp_3, zp_4, zp_5, zp_6, zp_7, zp_8, zp_9, zp_10, zp_11, zp_12, zp_20, zp_21, zp_22, upS_eq, upS_ne, upS_up, upz_eq, upz_ne, upz_up, px_al_aI, px_as_aI, px_as_aZ, px_as_aC, px_ln_aI, Option.toList, List.cons_append, List.nil_append, Int.reduceAdd, Int.reduceSub, Int.reduceMul, ↓reduceIte, Nat.reduceEqDiff, eq_self, Int.reduceEq, Int.reduceLT, Int.reduceLE, Int.reduceNe, Int.reduceNeg, Int.reduceToNat, ne_eq, not_true_eq_false, not_false_eq_true])) | simp (disch := first | omega | decide) only [upz_srt, upy_upz, upz_up, upS_srt, upT_upS, upS_up] | with_reducible refine px_ite (fun _ => ?_) (fun _ => ?_))
        exact q
  have l0 := loop 50 0 a b (.retAddr 0) rfl ha hb hQ
  (simp (disch := first | with_reducible assumption | omega | decide | (simp only [ps_low, List.map_cons, List.map_nil, Value.category, List.sum_cons, List.sum_nil]; decide)) only [el_X10_commonDivisor_0, el_X10_commonDivisor_1, el_X10_commonDivisor_2, el_X10_commonDivisor_3, el_X10_commonDivisor_4, el_X10_commonDivisor_5, el_X10_commonDivisor_9, el_X10_commonDivisor_11, el_X10_commonDivisor_14, el_X10_commonDivisor_15, el_X10_commonDivisor_18, el_X10_commonDivisor_19, el_X10_commonDivisor_20, el_X10_commonDivisor_21, el_X10_commonDivisor_23, el_X10_commonDivisor_24, el_X10_commonDivisor_25, el_X10_commonDivisor_27, el_X10_commonDivisor_28, el_X10_commonDivisor_31, el_X10_commonDivisor_34, el_X10_commonDivisor_35, px_ifp, px_ifn, zh_1, zc_1, zc_2, zc_3, zc_4, zc_5, zc_6, zc_7, zc_8, zc_9, zc_10, zc_11, zc_12, zc_20, zc_21, zc_22, zp_1, zp_2, zp_3, zp_4, zp_5, zp_6, zp_7, zp_8, zp_9, zp_10, zp_11, zp_12, zp_20, zp_21, zp_22, upS_eq, upS_ne, upS_up, upz_eq, upz_ne, upz_up, px_al_aI, px_as_aI, px_as_aZ, px_as_aC, px_ln_aI, Option.toList, List.cons_append, List.nil_append, Int.reduceAdd, Int.reduceSub, Int.reduceMul, ↓reduceIte, Nat.reduceEqDiff, eq_self, Int.reduceEq, Int.reduceLT, Int.reduceLE, Int.reduceNe, Int.reduceNeg, Int.reduceToNat, ne_eq, not_true_eq_false, not_false_eq_true]; repeat (first | simp (disch := first | omega | decide) only [upz_srt, upy_upz, upz_up, upS_srt, upT_upS, upS_up] | simp (disch := first | with_reducible assumption | omega | decide | (simp only [ps_low, List.map_cons, List.map_nil, Value.category, List.sum_cons, List.sum_nil]; decide)) only [el_X10_commonDivisor_0, el_X10_commonDivisor_1, el_X10_commonDivisor_2, el_X10_commonDivisor_3, el_X10_commonDivisor_4, el_X10_commonDivisor_5, el_X10_commonDivisor_9, el_X10_commonDivisor_11, el_X10_commonDivisor_14, el_X10_commonDivisor_15, el_X10_commonDivisor_18, el_X10_commonDivisor_19, el_X10_commonDivisor_20, el_X10_commonDivisor_21, el_X10_commonDivisor_23, el_X10_commonDivisor_24, el_X10_commonDivisor_25, el_X10_commonDivisor_27, el_X10_commonDivisor_28, el_X10_commonDivisor_31, el_X10_commonDivisor_34, el_X10_commonDivisor_35, px_ifp, px_ifn, zh_1, zc_1, zc_2, zc_3, zc_4, zc_5, zc_6, zc_7, zc_8, zc_9, zc_10, zc_11, zc_12, zc_20, zc_21, zc_22, zp_1, zp_2, zp_3, zp_4, zp_5, zp_6, zp_7, zp_8, zp_9, zp_10, zp_11, zp_12, zp_20, zp_21, zp_22, upS_eq, upS_ne, upS_up, upz_eq, upz_ne, upz_up, px_al_aI, px_as_aI, px_as_aZ, px_as_aC, px_ln_aI, Option.toList, List.cons_append, List.nil_append, Int.reduceAdd, Int.reduceSub, Int.reduceMul, ↓reduceIte, Nat.reduceEqDiff, eq_self, Int.reduceEq, Int.reduceLT, Int.reduceLE, Int.reduceNe, Int.reduceNeg, Int.reduceToNat, ne_eq, not_true_eq_false, not_false_eq_true]))
  exact l0
def meanU (D : Nat → Nat → Int) (no tu tr : Int) : Nat → Int
  | 0 => 0
  | m + 1 => meanU D no tu tr m + flD5 D no tu m tr 0 200 0 * D 5 m
def meanL (D : Nat → Nat → Int) : Nat → Int
  | 0 => 0
  | m + 1 => meanL D m + D 5 m
def meanM (F : fS) (tr w : Int) : Int ⊕ String :=
  if ¬ (0 ≤ w ∧ w ≤ 1) then .inr nse else if ¬ (-3 ≤ tr ∧ tr ≤ 3) then .inr iae
  else if meanL F.1 10 < 1 then .inl w
  else if cdF 50 (ab (meanU F.1 (nosM (nD F.1) (layM F.1 F.2.1.1)) (trn (winM (nD F.1) (layM F.1 F.2.1.1))) tr 10)) (meanL F.1 10) < 1 then .inl w
  else .inl ((if w = 0 then meanU F.1 (nosM (nD F.1) (layM F.1 F.2.1.1)) (trn (winM (nD F.1) (layM F.1 F.2.1.1))) tr 10 else meanL F.1 10).tdiv (cdF 50 (ab (meanU F.1 (nosM (nD F.1) (layM F.1 F.2.1.1)) (trn (winM (nD F.1) (layM F.1 F.2.1.1))) tr 10)) (meanL F.1 10)))
section FACE
variable {T : Nat → Nat × Nat} {S : Nat → Nat → Int} {c : pm_M × pm_C} {x sA sB : Nat} {k : Int} {F : fS}
theorem o_mean {tr w : Int} (h : cR T S x sA sB k F) (htr : rg tr) (hw : rg w) : opR 3 116 [.ref x, .int (zI tr), .int (zI w), .retAddr 0, .retAddr 0, .retAddr 0] T S c x k (fun r F' => r = meanM F tr w ∧ F' = F) := by
  have l10 := h.1.1
  obtain ⟨t0, tL1, tL3, tL6, tL9, tL17, tL25, tL34, tL40, tL46, tL55, tL132, tL145⟩ := id l10
  have l4 := h.l4
  obtain ⟨u0, u1, u2, u3, u4, u5, u6, u7⟩ := id l4
  have tf : T (x + 46) = (2, 0) := tL46
  have tsh : T (x + 25) = (8, 0) := tL25.1
  have hw' := hw
  unfold rg at hw'
  have hs := h.1.2.1
  have e3 : (S x 3).toNat = sA := by have := h.2.1.1; omega
  have hsc := h.2.1.2.2.1
  have e5 := h.2.1.2.2.2 5 (by decide)
  unfold meanM
  by_cases g : 0 ≤ w ∧ w ≤ 1
  · rw [if_neg (fun z => z g)]
    by_cases g2 : -3 ≤ tr ∧ tr ≤ 3
    · rw [if_neg (fun z => z g2)]
      have kT := (k_trim (h := zh T S c) htr).1 g2
      obtain ⟨f1, -, kN, kW, kP, -, -, -, p6, p7, p8⟩ := k_fly (c := c) (mi := 0) (tr := tr) (we := 0) (mo := 200) h (by decide) g2 (.inl rfl) (by decide)
      have sI := (layM_I h.dO h.2.2.1.2.1.1).1
      have rN := nosM_r sI
      have rT := trn_range (winM_r sI)
      have fl := fun mi => h.fl (no := nosM (nD F.1) (layM F.1 F.2.1.1)) (tu := trn (winM (nD F.1) (layM F.1 F.2.1.1))) (mi := mi) (tr := tr) (we := 0) (mo := 200)
      generalize nosM (nD F.1) (layM F.1 F.2.1.1) = no at *
      generalize winM (nD F.1) (layM F.1 F.2.1.1) = wi at *
      generalize trn wi = tu at *
      have hw5 : ∀ m : Nat, m < 10 → 0 ≤ F.1 5 m ∧ F.1 5 m ≤ 99 := fun m hm => by rw [← e5]; exact (hsc.2.1 m hm).2.2.2.2
      have hE : ∀ m : Nat, m < 10 → -5000 ≤ flD5 F.1 no tu m tr 0 200 0 ∧ flD5 F.1 no tu m tr 0 200 0 ≤ 5000 := fun m hm => by
        have := flE_B (S := S) (s := sA) (no := no) (tu := tu) (mi := m) (tr := tr) (we := 0) (mo := 200) hsc rN g2 (.inl rfl) (by omega)
        rw [fl] at this
        obtain ⟨q4, q0, -⟩ := this
        omega
      have hL : ∀ m : Nat, m ≤ 10 → 0 ≤ meanL F.1 m ∧ meanL F.1 m ≤ 99 * m := by
        intro m
        induction m with
        | zero => intro _; unfold meanL; omega
        | succ m ih =>
          intro hm
          have a := ih (by omega)
          have b := hw5 m (by omega)
          unfold meanL
          omega
      have hU : ∀ m : Nat, m ≤ 10 → -(495000 * (m : Int)) ≤ meanU F.1 no tu tr m ∧ meanU F.1 no tu tr m ≤ 495000 * (m : Int) := by
        intro m
        induction m with
        | zero => intro _; unfold meanU; omega
        | succ m ih =>
          intro hm
          have a := ih (by omega)
          have b := hw5 m (by omega)
          have e := hE m (by omega)
          have p1 : flD5 F.1 no tu m tr 0 200 0 * F.1 5 m ≤ 5000 * F.1 5 m := Int.mul_le_mul_of_nonneg_right e.2 b.1
          have p2 : -5000 * F.1 5 m ≤ flD5 F.1 no tu m tr 0 200 0 * F.1 5 m := Int.mul_le_mul_of_nonneg_right e.1 b.1
          unfold meanU
          omega
      -- behind the loop
      have hab : 0 ≤ ab (meanU F.1 no tu tr 10) ∧ ab (meanU F.1 no tu tr 10) ≤ 100000000 := by
        have := hU 10 (by omega)
        unfold ab
        split <;> omega
      have hL10 := hL 10 (by omega)
      have hU10 := hU 10 (by omega)
      have tail : ∀ f2 : Nat → Int, ∀ Q : pm_O → pm_H → Prop, Q (.inl (some (.int (zI (if meanL F.1 10 < 1 then w else if cdF 50 (ab (meanU F.1 no tu tr 10)) (meanL F.1 10) < 1 then w else (if w = 0 then meanU F.1 no tu tr 10 else meanL F.1 10).tdiv (cdF 50 (ab (meanU F.1 no tu tr 10)) (meanL F.1 10))))))) (zh T (upS S (x + 46) f2) c) →
          px_Ev 3 116 117 [.ref x, .int (zI tr), .int (zI w), .int (zI (meanU F.1 no tu tr 10)), .int (zI (meanL F.1 10)), .int (zI 10)] [] (zh T (upS S (x + 46) f2) c) Q := by
        intro f2 Q hQ
        have eab : (if 0 ≤ meanU F.1 no tu tr 10 then meanU F.1 no tu tr 10 else -meanU F.1 no tu tr 10) = ab (meanU F.1 no tu tr 10) := rfl
        have hcr := cdF_r 50 (ab (meanU F.1 no tu tr 10)) (meanL F.1 10) hab.1 hab.2 hL10.1 (by omega)
        have kD := c_divisor (h := zh T (upS S (x + 46) f2) c) (a := ab (meanU F.1 no tu tr 10)) (b := meanL F.1 10) hab (by omega)
        generalize ab (meanU F.1 no tu tr 10) = A at *
        generalize meanU F.1 no tu tr 10 = U at *
        generalize meanL F.1 10 = L at *
        generalize cdF 50 A L = d at *
        by_cases g1 : L < 1
        · rw [if_pos g1] at hQ
          (simp (disch := first | with_reducible assumption | omega | decide | (simp only [ps_low, List.map_cons, List.map_nil, Value.category, List.sum_cons, List.sum_nil]; decide)) only [el_X10_mean_117, el_X10_mean_119, el_X10_mean_120, el_X10_mean_123, el_X10_mean_124, el_X10_mean_125, el_X10_mean_126, el_X10_mean_129, el_X10_mean_134, el_X10_mean_136, el_X10_mean_138, el_X10_mean_139, el_X10_mean_142, el_X10_mean_143, el_X10_mean_146, el_X10_mean_147, el_X10_mean_150, el_X10_mean_151, el_X10_mean_154, el_X10_mean_156, el_X10_mean_158, el_X10_mean_159, px_ifp, px_ifn, zh_1, zc_1, zc_2, zc_3, zc_4, zc_5, zc_6, zc_7, zc_8, zc_9, zc_10, zc_11, zc_12, zc_20, zc_21, zc_22, zp_1, zp_2, zp_3, zp_4, zp_5, zp_6, zp_7, zp_8, zp_9, zp_10, zp_11, zp_12, zp_20, zp_21, zp_22, upS_eq, upS_ne, upS_up, upz_eq, upz_ne, upz_up, px_al_aI, px_as_aI, px_as_aZ, px_as_aC, px_ln_aI, Option.toList, List.cons_append, List.nil_append, Int.reduceAdd, Int.reduceSub, Int.reduceMul, ↓reduceIte, Nat.reduceEqDiff, eq_self, Int.reduceEq, Int.reduceLT, Int.reduceLE, Int.reduceNe, Int.reduceNeg, Int.reduceToNat, ne_eq, not_true_eq_false, not_false_eq_true, t0, u0, u1, u2, u3, u4, u5, u6, u7]; repeat (first | simp (disch := first | omega | decide) only [upz_srt, upy_upz, upz_up, upS_srt, upT_upS, upS_up] | simp (disch := first | with_reducible assumption | omega | decide | (simp only [ps_low, List.map_cons, List.map_nil, Value.category, List.sum_cons, List.sum_nil]; decide)) only [el_X10_mean_117, el_X10_mean_119, el_X10_mean_120, el_X10_mean_123, el_X10_mean_124, el_X10_mean_125, el_X10_mean_126, el_X10_mean_129, el_X10_mean_134, el_X10_mean_136, el_X10_mean_138, el_X10_mean_139, el_X10_mean_142, el_X10_mean_143, el_X10_mean_146, el_X10_mean_147, el_X10_mean_150, el_X10_mean_151, el_X10_mean_154, el_X10_mean_156, el_X10_mean_158, el_X10_mean_159, px_ifp, px_ifn, zh_1, zc_1, zc_2, zc_3, zc_4, zc_5, zc_6, zc_7, zc_8, zc_9, zc_10, zc_11, zc_12, zc_20, zc_21, zc_22, zp_1, zp_2, zp_3, zp_4, zp_5, zp_6, zp_7, zp_8, zp_9, zp_10, zp_11, zp_12, zp_20, zp_21, zp_22, upS_eq, upS_ne, upS_up, upz_eq, upz_ne, upz_up, px_al_aI, px_as_aI, px_as_aZ, px_as_aC, px_ln_aI, Option.toList, List.cons_append, List.nil_append, Int.reduceAdd, Int.reduceSub, Int.reduceMul, ↓reduceIte, Nat.reduceEqDiff, eq_self, Int.reduceEq, Int.reduceLT, Int.reduceLE, Int.reduceNe, Int.reduceNeg, Int.reduceToNat, ne_eq, not_true_eq_false, not_false_eq_true, t0, u0, u1, u2, u3, u4, u5, u6, u7]))
          exact hQ
        · rw [if_neg g1] at hQ
          by_cases g2 : d < 1
          · rw [if_pos g2] at hQ
            (simp (disch := first | with_reducible assumption | omega | decide | (simp only [ps_low, List.map_cons, List.map_nil, Value.category, List.sum_cons, List.sum_nil]; decide)) only [el_X10_mean_117, el_X10_mean_119, el_X10_mean_120, el_X10_mean_123, el_X10_mean_124, el_X10_mean_125, el_X10_mean_126, el_X10_mean_129, el_X10_mean_134, el_X10_mean_136, el_X10_mean_138, el_X10_mean_139, el_X10_mean_142, el_X10_mean_143, el_X10_mean_146, el_X10_mean_147, el_X10_mean_150, el_X10_mean_151, el_X10_mean_154, el_X10_mean_156, el_X10_mean_158, el_X10_mean_159, px_ifp, px_ifn, zh_1, zc_1, zc_2, zc_3, zc_4, zc_5, zc_6, zc_7, zc_8, zc_9, zc_10, zc_11, zc_12, zc_20, zc_21, zc_22, zp_1, zp_2, zp_3, zp_4, zp_5, zp_6, zp_7, zp_8, zp_9, zp_10, zp_11, zp_12, zp_20, zp_21, zp_22, upS_eq, upS_ne, upS_up, upz_eq, upz_ne, upz_up, px_al_aI, px_as_aI, px_as_aZ, px_as_aC, px_ln_aI, Option.toList, List.cons_append, List.nil_append, Int.reduceAdd, Int.reduceSub, Int.reduceMul, ↓reduceIte, Nat.reduceEqDiff, eq_self, Int.reduceEq, Int.reduceLT, Int.reduceLE, Int.reduceNe, Int.reduceNeg, Int.reduceToNat, ne_eq, not_true_eq_false, not_false_eq_true, t0, u0, u1, u2, u3, u4, u5, u6, u7, eab, el_X10_mean_131 (kD ..) _ _]; repeat (first | simp (disch := first | omega | decide) only [upz_srt, upy_upz, upz_up, upS_srt, upT_upS, upS_up] | simp (disch := first | with_reducible assumption | omega | decide | (simp only [ps_low, List.map_cons, List.map_nil, Value.category, List.sum_cons, List.sum_nil]; decide)) only [el_X10_mean_117, el_X10_mean_119, el_X10_mean_120, el_X10_mean_123, el_X10_mean_124, el_X10_mean_125, el_X10_mean_126, el_X10_mean_129, el_X10_mean_134, el_X10_mean_136, el_X10_mean_138, el_X10_mean_139, el_X10_mean_142, el_X10_mean_143, el_X10_mean_146, el_X10_mean_147, el_X10_mean_150, el_X10_mean_151, el_X10_mean_154, el_X10_mean_156, el_X10_mean_158, el_X10_mean_159, px_ifp, px_ifn, zh_1, zc_1, zc_2, zc_3, zc_4, zc_5, zc_6, zc_7, zc_8, zc_9, zc_10, zc_11, zc_12, zc_20, zc_21, zc_22, zp_1, zp_2, zp_3, zp_4, zp_5, zp_6, zp_7, zp_8, zp_9, zp_10, zp_11, zp_12, zp_20, zp_21, zp_22, upS_eq, upS_ne, upS_up, upz_eq, upz_ne, upz_up, px_al_aI, px_as_aI, px_as_aZ, px_as_aC, px_ln_aI, Option.toList, List.cons_append, List.nil_append, Int.reduceAdd, Int.reduceSub, Int.reduceMul, ↓reduceIte, Nat.reduceEqDiff, eq_self, Int.reduceEq, Int.reduceLT, Int.reduceLE, Int.reduceNe, Int.reduceNeg, Int.reduceToNat, ne_eq, not_true_eq_false, not_false_eq_true, t0, u0, u1, u2, u3, u4, u5, u6, u7, eab, el_X10_mean_131 (kD ..) _ _]))
            exact hQ
          · rw [if_neg g2] at hQ
            have hz : ¬ zI d = 0 := zI_ne0 (by omega)
            by_cases g3 : w = 0
            · rw [if_pos g3] at hQ
              (simp (disch := first | with_reducible assumption | omega | decide | (simp only [ps_low, List.map_cons, List.map_nil, Value.category, List.sum_cons, List.sum_nil]; decide)) only [el_X10_mean_117, el_X10_mean_119, el_X10_mean_120, el_X10_mean_123, el_X10_mean_124, el_X10_mean_125, el_X10_mean_126, el_X10_mean_129, el_X10_mean_134, el_X10_mean_136, el_X10_mean_138, el_X10_mean_139, el_X10_mean_142, el_X10_mean_143, el_X10_mean_146, el_X10_mean_147, el_X10_mean_150, el_X10_mean_151, el_X10_mean_154, el_X10_mean_156, el_X10_mean_158, el_X10_mean_159, px_ifp, px_ifn, zh_1, zc_1, zc_2, zc_3, zc_4, zc_5, zc_6, zc_7, zc_8, zc_9, zc_10, zc_11, zc_12, zc_20, zc_21, zc_22, zp_1, zp_2, zp_3, zp_4, zp_5, zp_6, zp_7, zp_8, zp_9, zp_10, zp_11, zp_12, zp_20, zp_21, zp_22, upS_eq, upS_ne, upS_up, upz_eq, upz_ne, upz_up, px_al_aI, px_as_aI, px_as_aZ, px_as_aC, px_ln_aI, Option.toList, List.cons_append, List.nil_append, Int.reduceAdd, Int.reduceSub, Int.reduceMul, ↓reduceIte, Nat.reduceEqDiff, eq_self, Int.reduceEq, Int.reduceLT, Int.reduceLE, Int.reduceNe, Int.reduceNeg, Int.reduceToNat, ne_eq, not_true_eq_false, not_false_eq_true, t0, u0, u1, u2, u3, u4, u5, u6, u7, eab, el_X10_mean_131 (kD ..) _ _, zI_tdiv]; repeat (first | simp (disch := first | omega | decide) only [upz_srt, upy_upz, upz_up, upS_srt, upT_upS, upS_up] | simp (disch := first | with_reducible assumption | omega | decide | (simp only [ps_low, List.map_cons, List.map_nil, Value.category, List.sum_cons, List.sum_nil]; decide)) only [el_X10_mean_117, el_X10_mean_119, el_X10_mean_120, el_X10_mean_123, el_X10_mean_124, el_X10_mean_125, el_X10_mean_126, el_X10_mean_129, el_X10_mean_134, el_X10_mean_136, el_X10_mean_138, el_X10_mean_139, el_X10_mean_142, el_X10_mean_143, el_X10_mean_146, el_X10_mean_147, el_X10_mean_150, el_X10_mean_151, el_X10_mean_154, el_X10_mean_156, el_X10_mean_158, el_X10_mean_159, px_ifp, px_ifn, zh_1, zc_1, zc_2, zc_3, zc_4, zc_5, zc_6, zc_7, zc_8, zc_9, zc_10, zc_11, zc_12, zc_20, zc_21, zc_22, zp_1, zp_2, zp_3, zp_4, zp_5, zp_6, zp_7, zp_8, zp_9, zp_10, zp_11, zp_12, zp_20, zp_21, zp_22, upS_eq, upS_ne, upS_up, upz_eq, upz_ne, upz_up, px_al_aI, px_as_aI, px_as_aZ, px_as_aC, px_ln_aI, Option.toList, List.cons_append, List.nil_append, Int.reduceAdd, Int.reduceSub, Int.reduceMul, ↓reduceIte, Nat.reduceEqDiff, eq_self, Int.reduceEq, Int.reduceLT, Int.reduceLE, Int.reduceNe, Int.reduceNeg, Int.reduceToNat, ne_eq, not_true_eq_false, not_false_eq_true, t0, u0, u1, u2, u3, u4, u5, u6, u7, eab, el_X10_mean_131 (kD ..) _ _, zI_tdiv]))
              exact hQ
            · rw [if_neg g3] at hQ
              (simp (disch := first | with_reducible assumption | omega | decide | (simp only [ps_low, List.map_cons, List.map_nil, Value.category, List.sum_cons, List.sum_nil]; decide)) only [el_X10_mean_117, el_X10_mean_119, el_X10_mean_120, el_X10_mean_123, el_X10_mean_124, el_X10_mean_125, el_X10_mean_126, el_X10_mean_129, el_X10_mean_134, el_X10_mean_136, el_X10_mean_138, el_X10_mean_139, el_X10_mean_142, el_X10_mean_143, el_X10_mean_146, el_X10_mean_147, el_X10_mean_150, el_X10_mean_151, el_X10_mean_154, el_X10_mean_156, el_X10_mean_158, el_X10_mean_159, px_ifp, px_ifn, zh_1, zc_1, zc_2, zc_3, zc_4, zc_5, zc_6, zc_7, zc_8, zc_9, zc_10, zc_11, zc_12, zc_20, zc_21, zc_22, zp_1, zp_2, zp_3, zp_4, zp_5, zp_6, zp_7, zp_8, zp_9, zp_10, zp_11, zp_12, zp_20, zp_21, zp_22, upS_eq, upS_ne, upS_up, upz_eq, upz_ne, upz_up, px_al_aI, px_as_aI, px_as_aZ, px_as_aC, px_ln_aI, Option.toList, List.cons_append, List.nil_append, Int.reduceAdd, Int.reduceSub, Int.reduceMul, ↓reduceIte, Nat.reduceEqDiff, eq_self, Int.reduceEq, Int.reduceLT, Int.reduceLE, Int.reduceNe, Int.reduceNeg, Int.reduceToNat, ne_eq, not_true_eq_false, not_false_eq_true, t0, u0, u1, u2, u3, u4, u5, u6, u7, eab, el_X10_mean_131 (kD ..) _ _, zI_tdiv]; repeat (first | simp (disch := first | omega | decide) only [upz_srt, upy_upz, upz_up, upS_srt, upT_upS, upS_up] | simp (disch := first | with_reducible assumption | omega | decide | (simp only [ps_low, List.map_cons, List.map_nil, Value.category, List.sum_cons, List.sum_nil]; decide)) only [el_X10_mean_117, el_X10_mean_119, el_X10_mean_120, el_X10_mean_123, el_X10_mean_124, el_X10_mean_125, el_X10_mean_126, el_X10_mean_129, el_X10_mean_134, el_X10_mean_136, el_X10_mean_138, el_X10_mean_139, el_X10_mean_142, el_X10_mean_143, el_X10_mean_146, el_X10_mean_147, el_X10_mean_150, el_X10_mean_151, el_X10_mean_154, el_X10_mean_156, el_X10_mean_158, el_X10_mean_159, px_ifp, px_ifn, zh_1, zc_1, zc_2, zc_3, zc_4, zc_5, zc_6, zc_7, zc_8, zc_9, zc_10, zc_11, zc_12, zc_20, zc_21, zc_22, zp_1, zp_2, zp_3, zp_4, zp_5, zp_6, zp_7, zp_8, zp_9, zp_10, zp_11, zp_12, zp_20, zp_21, zp_22, upS_eq, upS_ne, upS_up, upz_eq, upz_ne, upz_up, px_al_aI, px_as_aI, px_as_aZ, px_as_aC, px_ln_aI, Option.toList, List.cons_append, List.nil_append, Int.reduceAdd, Int.reduceSub, Int.reduceMul, ↓reduceIte, Nat.reduceEqDiff, eq_self, Int.reduceEq, Int.reduceLT, Int.reduceLE, Int.reduceNe, Int.reduceNeg, Int.reduceToNat, ne_eq, not_true_eq_false, not_false_eq_true, t0, u0, u1, u2, u3, u4, u5, u6, u7, eab, el_X10_mean_131 (kD ..) _ _, zI_tdiv]))
              exact hQ
      obtain ⟨v, S', hr, ⟨hv, f2, hf2⟩⟩ : zR 3 116 [.ref x, .int (zI tr), .int (zI w), .retAddr 0, .retAddr 0, .retAddr 0] T S c (fun v S' => v = some (.int (zI (if meanL F.1 10 < 1 then w else if cdF 50 (ab (meanU F.1 no tu tr 10)) (meanL F.1 10) < 1 then w else (if w = 0 then meanU F.1 no tu tr 10 else meanL F.1 10).tdiv (cdF 50 (ab (meanU F.1 no tu tr 10)) (meanL F.1 10))))) ∧ ∃ f2, S' = upS S (x + 46) f2) := by
        refine zR_of ?_
        generalize hV : (if meanL F.1 10 < 1 then w else if cdF 50 (ab (meanU F.1 no tu tr 10)) (meanL F.1 10) < 1 then w else (if w = 0 then meanU F.1 no tu tr 10 else meanL F.1 10).tdiv (cdF 50 (ab (meanU F.1 no tu tr 10)) (meanL F.1 10))) = V at *
        generalize hQf : zQ T c (fun v S' => v = some (.int (zI V)) ∧ ∃ f2, S' = upS S (x + 46) f2) = Qf
        have loop : ∀ (n m : Nat) (f2 : Nat → Int), m + n = 10 → (f2 6 = sA ∧ f2 7 = no ∧ f2 8 = tu) → px_Ev 3 116 54 [.ref x, .int (zI tr), .int (zI w), .int (zI (meanU F.1 no tu tr m)), .int (zI (meanL F.1 m)), .int (zI m)] [] (zh T (upS S (x + 46) f2) c) Qf := by
          intro n
          induction n with
          | zero =>
            intro m f2 hm hf
            have e : m = 10 := by omega
            subst e
            have fq := zQ_in (T := T) (c := c) (P := fun v S' => v = some (.int (zI V)) ∧ ∃ f2, S' = upS S (x + 46) f2) (v := some (.int (zI V))) (S' := upS S (x + 46) f2) ⟨rfl, f2, rfl⟩
            rw [hQf] at fq
            have nx := tail f2 Qf fq
            rw [el_X10_mean_54]
            (simp (disch := first | with_reducible assumption | omega | decide | (simp only [ps_low, List.map_cons, List.map_nil, Value.category, List.sum_cons, List.sum_nil]; decide)) only [el_X10_mean_56, el_X10_mean_58, px_ifp, px_ifn, zh_1, zc_1, zc_2, zc_3, zc_4, zc_5, zc_6, zc_7, zc_8, zc_9, zc_10, zc_11, zc_12, zc_20, zc_21, zc_22, zp_1, zp_2, zp_3, zp_4, zp_5, zp_6, zp_7, zp_8, zp_9, zp_10, zp_11, zp_12, zp_20, zp_21, zp_22, upS_eq, upS_ne, upS_up, upz_eq, upz_ne, upz_up, px_al_aI, px_as_aI, px_as_aZ, px_as_aC, px_ln_aI, Option.toList, List.cons_append, List.nil_append, Int.reduceAdd, Int.reduceSub, Int.reduceMul, ↓reduceIte, Nat.reduceEqDiff, eq_self, Int.reduceEq, Int.reduceLT, Int.reduceLE, Int.reduceNe, Int.reduceNeg, Int.reduceToNat, ne_eq, not_true_eq_false, not_false_eq_true, t0, u0, u1, u2, u3, u4, u5, u6, u7]; repeat (first | simp (disch := first | omega | decide) only [upz_srt, upy_upz, upz_up, upS_srt, upT_upS, upS_up] | simp (disch := first | with_reducible assumption | omega | decide | (simp only [ps_low, List.map_cons, List.map_nil, Value.category, List.sum_cons, List.sum_nil]; decide)) only [el_X10_mean_56, el_X10_mean_58, px_ifp, px_ifn, zh_1, zc_1, zc_2, zc_3, zc_4, zc_5, zc_6, zc_7, zc_8, zc_9, zc_10, zc_11, zc_12, zc_20, zc_21, zc_22, zp_1, zp_2, zp_3, zp_4, zp_5, zp_6, zp_7, zp_8, zp_9, zp_10, zp_11, zp_12, zp_20, zp_21, zp_22, upS_eq, upS_ne, upS_up, upz_eq, upz_ne, upz_up, px_al_aI, px_as_aI, px_as_aZ, px_as_aC, px_ln_aI, Option.toList, List.cons_append, List.nil_append, Int.reduceAdd, Int.reduceSub, Int.reduceMul, ↓reduceIte, Nat.reduceEqDiff, eq_self, Int.reduceEq, Int.reduceLT, Int.reduceLE, Int.reduceNe, Int.reduceNeg, Int.reduceToNat, ne_eq, not_true_eq_false, not_false_eq_true, t0, u0, u1, u2, u3, u4, u5, u6, u7]))
            exact nx
          | succ n ih =>
            intro m f2 hm hf
            have kF := c_flyE (T := T) (S := upS S (x + 46) f2) (c := c) (f := x + 46) (s := sA) (mi := m) (tr := tr) (we := 0) (mo := 200) (no := no) (tu := tu) tf l4 (by omega) (by rw [upS_eq]; exact hf.1) (by rw [upS_eq]; exact hf.2.1) (by rw [upS_eq]; exact hf.2.2) rN rT (hsc.out (by omega)) (by omega) g2 (.inl rfl) (by decide)
            rw [upS_up, upS_eq, flE_eq (S := S) (fun a h1 h2 => upS_ne (by omega)), fl] at kF
            have e0 : flR f2 (flD5 F.1 no tu m tr 0 200) 0 = flD5 F.1 no tu m tr 0 200 0 := rfl
            have nx := ih (m + 1) (flR f2 (flD5 F.1 no tu m tr 0 200)) (by omega) ⟨hf.1, hf.2.1, hf.2.2⟩
            unfold meanU meanL at nx
            have e5' : S (sA + 5) m = F.1 5 m := congrFun e5 m
            have b := hw5 m (by omega)
            rw [el_X10_mean_54]
            (simp (disch := first | with_reducible assumption | omega | decide | (simp only [ps_low, List.map_cons, List.map_nil, Value.category, List.sum_cons, List.sum_nil]; decide)) only [el_X10_mean_56, el_X10_mean_58, el_X10_mean_61, el_X10_mean_62, el_X10_mean_65, el_X10_mean_67, el_X10_mean_68, el_X10_mean_69, el_X10_mean_75, el_X10_mean_76, el_X10_mean_77, el_X10_mean_80, el_X10_mean_83, el_X10_mean_84, el_X10_mean_87, el_X10_mean_90, el_X10_mean_92, el_X10_mean_93, el_X10_mean_94, el_X10_mean_95, el_X10_mean_96, el_X10_mean_98, el_X10_mean_99, el_X10_mean_102, el_X10_mean_105, el_X10_mean_107, el_X10_mean_108, el_X10_mean_109, el_X10_mean_111, el_X10_mean_114, gf_10_3, gf_10_9, gf_1_0, gf_4_11, px_ifp, px_ifn, zh_1, zc_1, zc_2, zc_3, zc_4, zc_5, zc_6, zc_7, zc_8, zc_9, zc_10, zc_11, zc_12, zc_20, zc_21, zc_22, zp_1, zp_2, zp_3, zp_4, zp_5, zp_6, zp_7, zp_8, zp_9, zp_10, zp_11, zp_12, zp_20, zp_21, zp_22, upS_eq, upS_ne, upS_up, upz_eq, upz_ne, upz_up, px_al_aI, px_as_aI, px_as_aZ, px_as_aC, px_ln_aI, Option.toList, List.cons_append, List.nil_append, Int.reduceAdd, Int.reduceSub, Int.reduceMul, ↓reduceIte, Nat.reduceEqDiff, eq_self, Int.reduceEq, Int.reduceLT, Int.reduceLE, Int.reduceNe, Int.reduceNeg, Int.reduceToNat, ne_eq, not_true_eq_false, not_false_eq_true, t0, u0, u1, u2, u3, u4, u5, u6, u7, e3, el_X10_mean_72 (kF ..) _ (zo_2 _) _, tf, e0, Int.toNat_natCast, e5']; repeat (first | simp (disch := first | omega | decide) only [upz_srt, upy_upz, upz_up, upS_srt, upT_upS, upS_up] | simp (disch := first | with_reducible assumption | omega | decide | (simp only [ps_low, List.map_cons, List.map_nil, Value.category, List.sum_cons, List.sum_nil]; decide)) only [el_X10_mean_56, el_X10_mean_58, el_X10_mean_61, el_X10_mean_62, el_X10_mean_65, el_X10_mean_67, el_X10_mean_68, el_X10_mean_69, el_X10_mean_75, el_X10_mean_76, el_X10_mean_77, el_X10_mean_80, el_X10_mean_83, el_X10_mean_84, el_X10_mean_87, el_X10_mean_90, el_X10_mean_92, el_X10_mean_93, el_X10_mean_94, el_X10_mean_95, el_X10_mean_96, el_X10_mean_98, el_X10_mean_99, el_X10_mean_102, el_X10_mean_105, el_X10_mean_107, el_X10_mean_108, el_X10_mean_109, el_X10_mean_111, el_X10_mean_114, gf_10_3, gf_10_9, gf_1_0, gf_4_11, px_ifp, px_ifn, zh_1, zc_1, zc_2, zc_3, zc_4, zc_5, zc_6, zc_7, zc_8, zc_9, zc_10, zc_11, zc_12, zc_20, zc_21, zc_22, zp_1, zp_2, zp_3, zp_4, zp_5, zp_6, zp_7, zp_8, zp_9, zp_10, zp_11, zp_12, zp_20, zp_21, zp_22, upS_eq, upS_ne, upS_up, upz_eq, upz_ne, upz_up, px_al_aI, px_as_aI, px_as_aZ, px_as_aC, px_ln_aI, Option.toList, List.cons_append, List.nil_append, Int.reduceAdd, Int.reduceSub, Int.reduceMul, ↓reduceIte, Nat.reduceEqDiff, eq_self, Int.reduceEq, Int.reduceLT, Int.reduceLE, Int.reduceNe, Int.reduceNeg, Int.reduceToNat, ne_eq, not_true_eq_false, not_false_eq_true, t0, u0, u1, u2, u3, u4, u5, u6, u7, e3, el_X10_mean_72 (kF ..) _ (zo_2 _) _, tf, e0, Int.toNat_natCast, e5']))
            exact nx
        have l0 := loop 10 0 f1 rfl ⟨p6, p7, p8⟩
        (simp (disch := first | with_reducible assumption | omega | decide | (simp only [ps_low, List.map_cons, List.map_nil, Value.category, List.sum_cons, List.sum_nil]; decide)) only [el_X10_mean_0, el_X10_mean_1, el_X10_mean_4, el_X10_mean_5, el_X10_mean_6, el_X10_mean_9, el_X10_mean_17, el_X10_mean_21, el_X10_mean_22, el_X10_mean_25, el_X10_mean_26, el_X10_mean_29, el_X10_mean_30, el_X10_mean_36, el_X10_mean_37, el_X10_mean_46, el_X10_mean_47, el_X10_mean_48, el_X10_mean_49, el_X10_mean_51, el_X10_mean_52, gf_10_3, gf_10_5, gf_10_9, px_ifp, px_ifn, zh_1, zc_1, zc_2, zc_3, zc_4, zc_5, zc_6, zc_7, zc_8, zc_9, zc_10, zc_11, zc_12, zc_20, zc_21, zc_22, zp_1, zp_2, zp_3, zp_4, zp_5, zp_6, zp_7, zp_8, zp_9, zp_10, zp_11, zp_12, zp_20, zp_21, zp_22, upS_eq, upS_ne, upS_up, upz_eq, upz_ne, upz_up, px_al_aI, px_as_aI, px_as_aZ, px_as_aC, px_ln_aI, Option.toList, List.cons_append, List.nil_append, Int.reduceAdd, Int.reduceSub, Int.reduceMul, ↓reduceIte, Nat.reduceEqDiff, eq_self, Int.reduceEq, Int.reduceLT, Int.reduceLE, Int.reduceNe, Int.reduceNeg, Int.reduceToNat, ne_eq, not_true_eq_false, not_false_eq_true, t0, u0, u1, u2, u3, u4, u5, u6, u7, el_X10_mean_18 (kT ..) _ _, e3, tf, tsh, el_X10_mean_33 (kN ..) _ (zo_8 _) _, el_X10_mean_40 (kW ..) _ (zo_8 _) _, el_X10_mean_43 (kP ..) _ (zo_2 _) _]; repeat (first | simp (disch := first | omega | decide) only [upz_srt, upy_upz, upz_up, upS_srt, upT_upS, upS_up] | simp (disch := first | with_reducible assumption | omega | decide | (simp only [ps_low, List.map_cons, List.map_nil, Value.category, List.sum_cons, List.sum_nil]; decide)) only [el_X10_mean_0, el_X10_mean_1, el_X10_mean_4, el_X10_mean_5, el_X10_mean_6, el_X10_mean_9, el_X10_mean_17, el_X10_mean_21, el_X10_mean_22, el_X10_mean_25, el_X10_mean_26, el_X10_mean_29, el_X10_mean_30, el_X10_mean_36, el_X10_mean_37, el_X10_mean_46, el_X10_mean_47, el_X10_mean_48, el_X10_mean_49, el_X10_mean_51, el_X10_mean_52, gf_10_3, gf_10_5, gf_10_9, px_ifp, px_ifn, zh_1, zc_1, zc_2, zc_3, zc_4, zc_5, zc_6, zc_7, zc_8, zc_9, zc_10, zc_11, zc_12, zc_20, zc_21, zc_22, zp_1, zp_2, zp_3, zp_4, zp_5, zp_6, zp_7, zp_8, zp_9, zp_10, zp_11, zp_12, zp_20, zp_21, zp_22, upS_eq, upS_ne, upS_up, upz_eq, upz_ne, upz_up, px_al_aI, px_as_aI, px_as_aZ, px_as_aC, px_ln_aI, Option.toList, List.cons_append, List.nil_append, Int.reduceAdd, Int.reduceSub, Int.reduceMul, ↓reduceIte, Nat.reduceEqDiff, eq_self, Int.reduceEq, Int.reduceLT, Int.reduceLE, Int.reduceNe, Int.reduceNeg, Int.reduceToNat, ne_eq, not_true_eq_false, not_false_eq_true, t0, u0, u1, u2, u3, u4, u5, u6, u7, el_X10_mean_18 (kT ..) _ _, e3, tf, tsh, el_X10_mean_33 (kN ..) _ (zo_8 _) _, el_X10_mean_40 (kW ..) _ (zo_8 _) _, el_X10_mean_43 (kP ..) _ (zo_2 _) _]))
        exact l0
      subst hf2
      refine opR_val (S' := upS S (x + 46) f2) (by rw [hv] at hr; exact hr) (fun a ha => upS_ne (by omega)) h.f46 ⟨?_, rfl⟩
      split
      · rfl
      · split <;> rfl
    · rw [if_pos g2]
      have kT := (k_trim (h := zh T S c) htr).2 g2
      refine opR_thr (S' := S) (px_ofQ fun Q hQ => ?_) (fun a _ => rfl) h ⟨rfl, rfl⟩
      (simp (disch := first | with_reducible assumption | omega | decide | (simp only [ps_low, List.map_cons, List.map_nil, Value.category, List.sum_cons, List.sum_nil]; decide)) only [el_X10_mean_0, el_X10_mean_1, el_X10_mean_4, el_X10_mean_5, el_X10_mean_6, el_X10_mean_9, el_X10_mean_17, px_ifp, px_ifn, zh_1, zc_1, zc_2, zc_3, zc_4, zc_5, zc_6, zc_7, zc_8, zc_9, zc_10, zc_11, zc_12, zc_20, zc_21, zc_22, zp_1, zp_2, zp_3, zp_4, zp_5, zp_6, zp_7, zp_8, zp_9, zp_10, zp_11, zp_12, zp_20, zp_21, zp_22, upS_eq, upS_ne, upS_up, upz_eq, upz_ne, upz_up, px_al_aI, px_as_aI, px_as_aZ, px_as_aC, px_ln_aI, Option.toList, List.cons_append, List.nil_append, Int.reduceAdd, Int.reduceSub, Int.reduceMul, ↓reduceIte, Nat.reduceEqDiff, eq_self, Int.reduceEq, Int.reduceLT, Int.reduceLE, Int.reduceNe, Int.reduceNeg, Int.reduceToNat, ne_eq, not_true_eq_false, not_false_eq_true, t0, u0, u1, u2, u3, u4, u5, u6, u7]; repeat (first | simp (disch := first | omega | decide) only [upz_srt, upy_upz, upz_up, upS_srt, upT_upS, upS_up] | simp (disch := first | with_reducible assumption | omega | decide | (simp only [ps_low, List.map_cons, List.map_nil, Value.category, List.sum_cons, List.sum_nil]; decide)) only [el_X10_mean_0, el_X10_mean_1, el_X10_mean_4, el_X10_mean_5, el_X10_mean_6, el_X10_mean_9, el_X10_mean_17, px_ifp, px_ifn, zh_1, zc_1, zc_2, zc_3, zc_4, zc_5, zc_6, zc_7, zc_8, zc_9, zc_10, zc_11, zc_12, zc_20, zc_21, zc_22, zp_1, zp_2, zp_3, zp_4, zp_5, zp_6, zp_7, zp_8, zp_9, zp_10, zp_11, zp_12, zp_20, zp_21, zp_22, upS_eq, upS_ne, upS_up, upz_eq, upz_ne, upz_up, px_al_aI, px_as_aI, px_as_aZ, px_as_aC, px_ln_aI, Option.toList, List.cons_append, List.nil_append, Int.reduceAdd, Int.reduceSub, Int.reduceMul, ↓reduceIte, Nat.reduceEqDiff, eq_self, Int.reduceEq, Int.reduceLT, Int.reduceLE, Int.reduceNe, Int.reduceNeg, Int.reduceToNat, ne_eq, not_true_eq_false, not_false_eq_true, t0, u0, u1, u2, u3, u4, u5, u6, u7]))
      rw [el_X10_mean_18x kT (by decide) rfl]
      exact hQ
  · rw [if_pos g]
    refine opR_thr (S' := S) (px_ofQ fun Q hQ => ?_) (fun a _ => rfl) h ⟨rfl, rfl⟩
    repeat' (first | (simp (disch := first | with_reducible assumption | omega | decide | (simp only [ps_low, List.map_cons, List.map_nil, Value.category, List.sum_cons, List.sum_nil]; decide)) only [el_X10_mean_0, el_X10_mean_1, el_X10_mean_4, el_X10_mean_5, el_X10_mean_6, el_X10_mean_9, el_X10_mean_17, px_ifp, px_ifn, zh_1, zc_1, zc_2, zc_3, zc_4, zc_5, zc_6, zc_7, zc_8, zc_9, zc_10, zc_11, zc_12, zc_20, zc_21, zc_22, zp_1, zp_2, zp_3, zp_4, zp_5, zp_6, zp_7, zp_8, zp_9, zp_10, zp_11, zp_12, zp_20, zp_21, zp_22, upS_eq, upS_ne, upS_up, upz_eq, upz_ne, upz_up, px_al_aI, px_as_aI, px_as_aZ, px_as_aC, px_ln_aI, Option.toList, List.cons_append, List.nil_append, Int.reduceAdd, Int.reduceSub, Int.reduceMul, ↓reduceIte, Nat.reduceEqDiff, eq_self, Int.reduceEq, Int.reduceLT, Int.reduceLE, Int.reduceNe, Int.reduceNeg, Int.reduceToNat, ne_eq, not_true_eq_false, not_false_eq_true, t0, u0, u1, u2, u3, u4, u5, u6, u7, zh_thrown]; repeat (first | simp (disch := first | omega | decide) only [upz_srt, upy_upz, upz_up, upS_srt, upT_upS, upS_up] | simp (disch := first | with_reducible assumption | omega | decide | (simp only [ps_low, List.map_cons, List.map_nil, Value.category, List.sum_cons, List.sum_nil]; decide)) only [el_X10_mean_0, el_X10_mean_1, el_X10_mean_4, el_X10_mean_5, el_X10_mean_6, el_X10_mean_9, el_X10_mean_17, px_ifp, px_ifn, zh_1, zc_1, zc_2, zc_3, zc_4, zc_5, zc_6, zc_7, zc_8, zc_9, zc_10, zc_11, zc_12, zc_20, zc_21, zc_22, zp_1, zp_2, zp_3, zp_4, zp_5, zp_6, zp_7, zp_8, zp_9, zp_10, zp_11, zp_12, zp_20, zp_21, zp_22, upS_eq, upS_ne, upS_up, upz_eq, upz_ne, upz_up, px_al_aI, px_as_aI, px_as_aZ, px_as_aC, px_ln_aI, Option.toList, List.cons_append, List.nil_append, Int.reduceAdd, Int.reduceSub, Int.reduceMul, ↓reduceIte, Nat.reduceEqDiff, eq_self, Int.reduceEq, Int.reduceLT, Int.reduceLE, Int.reduceNe, Int.reduceNeg, Int.reduceToNat, ne_eq, not_true_eq_false, not_false_eq_true, t0, u0, u1, u2, u3, u4, u5, u6, u7, zh_thrown])) | simp (disch := first | omega | decide) only [upz_srt, upy_upz, upz_up, upS_srt, upT_upS, upS_up] | with_reducible refine px_ite (fun _ => ?_) (fun _ => ?_))
    all_goals exact hQ
theorem latL_ok {kn : Int} : ∀ (l : List Int) (e : Bool) (n : Int), 0 ≤ n → latL kn l e n = -1 ∨ ((n ≤ latL kn l e n ∧ latL kn l e n ≤ n + l.length) ∧ ∀ v ∈ l, v = -1 ∨ (0 ≤ v ∧ v < kn))
  | [], e, n, h => .inr ⟨by unfold latL; simp, fun v hv => by cases hv⟩
  | v :: r, e, n, h => by
    unfold latL
    split
    · rename_i g
      rcases latL_ok (kn := kn) r true n h with a | ⟨a, b⟩
      · exact .inl a
      · right
        refine ⟨by rw [List.length_cons]; push_cast; omega, fun u hu => ?_⟩
        rcases List.mem_cons.mp hu with rfl | hu
        · exact .inl g
        · exact b u hu
    · split
      · exact .inl rfl
      · rename_i g1 g2
        rcases latL_ok (kn := kn) r e (n + 1) (by omega) with a | ⟨a, b⟩
        · exact .inl a
        · right
          refine ⟨by rw [List.length_cons]; push_cast; omega, fun u hu => ?_⟩
          rcases List.mem_cons.mp hu with rfl | hu
          · exact .inr (by omega)
          · exact b u hu
def teN (D : Nat → Nat → Int) (a b d e : Int) : Int := latL (D 0 6) [a, b, d, e] false 0
def teI (I : iS) (n a b d e : Int) : iS := (I.1, (I.2.1.1 + 1, upz I.2.1.2.1 I.2.1.1 n, upz (upz (upz (upz I.2.1.2.2 (4 * I.2.1.1) a) (4 * I.2.1.1 + 1) b) (4 * I.2.1.1 + 2) d) (4 * I.2.1.1 + 3) e), I.2.2)
theorem o_teach {a b d e : Int} (h : cR T S x sA sB k F) (hk : k + 1 ≤ 50000) (ha : rg a) (hb : rg b) (hd : rg d) (he : rg e) : opR 1 120 [.ref x, .int (zI a), .int (zI b), .int (zI d), .int (zI e), .retAddr 0] T S c x (k + 1) (fun r F' => ((teN F.1 a b d e < 1 ∨ 12 ≤ F.2.1.2.1.1) ∧ r = .inl (-1) ∧ F' = (F.1, upI F.2.1 2, F.2.2)) ∨ (¬ (teN F.1 a b d e < 1 ∨ 12 ≤ F.2.1.2.1.1) ∧ r = .inl (F.2.1.2.1.1 + 1 : Nat) ∧ F' = (F.1, teI F.2.1 (teN F.1 a b d e) a b d e, F.2.2))) := by
  have l10 := h.1.1
  obtain ⟨t0, tL1, tL3, tL6, tL9, tL17, tL25, tL34, tL40, tL46, tL55, tL132, tL145⟩ := id l10
  have l4 := h.l4
  obtain ⟨u0, u1, u2, u3, u4, u5, u6, u7⟩ := id l4
  obtain ⟨v0, v1, v2, v3, v4, v5⟩ := id tL34
  have tle : T (x + 145) = (3, 0) := tL145.1
  have e3 : (S x 3).toNat = sA := by have := h.2.1.1; omega
  have hs := h.1.2.1
  have hkn := h.2.1.2.2.1.1.2.2.2.2.2.2
  have es : ∀ j, S sA j = F.1 0 j := fun j => congrFun h.sA0 j
  rw [es 6] at hkn
  have kL := c_lengthAsTold (T := T) (S := S) (c := c) (l := x + 145) (kn := F.1 0 6) ha hb hd he (by omega)
  have hlo := latL_ok (kn := F.1 0 6) [a, b, d, e] false 0 (Int.le_refl 0)
  have eN : latL (F.1 0 6) [a, b, d, e] false 0 = teN F.1 a b d e := rfl
  rw [eN] at kL hlo
  obtain ⟨⟨i0, i1⟩, ⟨j0, j1, j2⟩, k0⟩ := h.2.2.1.1
  obtain ⟨o1, o2, o3⟩ := h.2.2.1.2.1
  have b3 := h.2.2.1.2.2
  have st2 := o3 2 (by decide)
  have k2 := k0 2 (by decide)
  have hkk := h.1.2.2
  generalize teN F.1 a b d e = n at *
  have hn4 : -1 ≤ n ∧ n ≤ 4 := by
    rcases hlo with z | ⟨z, -⟩
    · omega
    · simp at z
      omega
  by_cases g : n < 1 ∨ 12 ≤ F.2.1.2.1.1
  · refine opR_val (S' := upS S (x + 37) (upz (S (x + 37)) 2 (F.2.1.2.2 2 + 1))) (v := -1) (sA := sA) (sB := sB) (px_ofQ fun Q hQ => ?_) (fun a ha => upS_ne (by omega)) (h.state (I := upI F.2.1 2) (by omega) (fun a h1 h2 h3 h4 h5 => upS_ne (by omega)) ⟨⟨?_, fun j hj => ?_⟩, ⟨?_, fun j hj => ?_, fun j hj => ?_⟩, fun j hj => ?_⟩ ⟨o1, o2, fun j hj => ?_⟩ (b3.eq (fun a h1 h2 => upS_ne (by omega)))) (.inl ⟨g, rfl, rfl⟩)
    · have k2' : S (x + 34 + 3) 2 = F.2.1.2.2 2 := k2
      have on := o2.1
      by_cases g1 : n < 1
      · (simp (disch := first | with_reducible assumption | omega | decide | (simp only [ps_low, List.map_cons, List.map_nil, Value.category, List.sum_cons, List.sum_nil]; decide)) only [el_X10_teach_0, el_X10_teach_1, el_X10_teach_4, el_X10_teach_5, el_X10_teach_6, el_X10_teach_7, el_X10_teach_9, el_X10_teach_10, el_X10_teach_13, el_X10_teach_19, el_X10_teach_21, el_X10_teach_23, el_X10_teach_24, el_X10_teach_27, el_X10_teach_28, el_X10_teach_31, el_X10_teach_34, el_X10_teach_36, el_X10_teach_39, el_X10_teach_40, el_X10_teach_43, el_X10_teach_46, el_X10_teach_47, el_X10_teach_48, el_X10_teach_49, el_X10_teach_50, el_X10_teach_51, el_X10_teach_52, el_X10_teach_53, el_X10_teach_54, el_X10_teach_55, el_X10_teach_58, el_X10_teach_59, el_X10_teach_60, el_X10_teach_61, el_X10_teach_63, el_X10_teach_68, el_X10_teach_69, el_X10_teach_72, el_X10_teach_75, gf_10_12, gf_10_3, gf_10_6, gf_4_6, gf_8_1, gf_8_4, px_ifp, px_ifn, zh_1, zc_1, zc_2, zc_3, zc_4, zc_5, zc_6, zc_7, zc_8, zc_9, zc_10, zc_11, zc_12, zc_20, zc_21, zc_22, zp_1, zp_2, zp_3, zp_4, zp_5, zp_6, zp_7, zp_8, zp_9, zp_10, zp_11, zp_12, zp_20, zp_21, zp_22, upS_eq, upS_ne, upS_up, upz_eq, upz_ne, upz_up, px_al_aI, px_as_aI, px_as_aZ, px_as_aC, px_ln_aI, Option.toList, List.cons_append, List.nil_append, Int.reduceAdd, Int.reduceSub, Int.reduceMul, ↓reduceIte, Nat.reduceEqDiff, eq_self, Int.reduceEq, Int.reduceLT, Int.reduceLE, Int.reduceNe, Int.reduceNeg, Int.reduceToNat, ne_eq, not_true_eq_false, not_false_eq_true, t0, u0, u1, u2, u3, u4, u5, u6, u7, v0, v1, v2, v3, v4, v5, tle, e3, es, el_X10_teach_16 (kL ..) _ (zo_3 _) _, k2']; repeat (first | simp (disch := first | omega | decide) only [upz_srt, upy_upz, upz_up, upS_srt, upT_upS, upS_up] | simp (disch := first | with_reducible assumption | omega | decide | (simp only [ps_low, List.map_cons, List.map_nil, Value.category, List.sum_cons, List.sum_nil]; decide)) only [el_X10_teach_0, el_X10_teach_1, el_X10_teach_4, el_X10_teach_5, el_X10_teach_6, el_X10_teach_7, el_X10_teach_9, el_X10_teach_10, el_X10_teach_13, el_X10_teach_19, el_X10_teach_21, el_X10_teach_23, el_X10_teach_24, el_X10_teach_27, el_X10_teach_28, el_X10_teach_31, el_X10_teach_34, el_X10_teach_36, el_X10_teach_39, el_X10_teach_40, el_X10_teach_43, el_X10_teach_46, el_X10_teach_47, el_X10_teach_48, el_X10_teach_49, el_X10_teach_50, el_X10_teach_51, el_X10_teach_52, el_X10_teach_53, el_X10_teach_54, el_X10_teach_55, el_X10_teach_58, el_X10_teach_59, el_X10_teach_60, el_X10_teach_61, el_X10_teach_63, el_X10_teach_68, el_X10_teach_69, el_X10_teach_72, el_X10_teach_75, gf_10_12, gf_10_3, gf_10_6, gf_4_6, gf_8_1, gf_8_4, px_ifp, px_ifn, zh_1, zc_1, zc_2, zc_3, zc_4, zc_5, zc_6, zc_7, zc_8, zc_9, zc_10, zc_11, zc_12, zc_20, zc_21, zc_22, zp_1, zp_2, zp_3, zp_4, zp_5, zp_6, zp_7, zp_8, zp_9, zp_10, zp_11, zp_12, zp_20, zp_21, zp_22, upS_eq, upS_ne, upS_up, upz_eq, upz_ne, upz_up, px_al_aI, px_as_aI, px_as_aZ, px_as_aC, px_ln_aI, Option.toList, List.cons_append, List.nil_append, Int.reduceAdd, Int.reduceSub, Int.reduceMul, ↓reduceIte, Nat.reduceEqDiff, eq_self, Int.reduceEq, Int.reduceLT, Int.reduceLE, Int.reduceNe, Int.reduceNeg, Int.reduceToNat, ne_eq, not_true_eq_false, not_false_eq_true, t0, u0, u1, u2, u3, u4, u5, u6, u7, v0, v1, v2, v3, v4, v5, tle, e3, es, el_X10_teach_16 (kL ..) _ (zo_3 _) _, k2']))
        exact hQ
      · have g2 := g.resolve_left g1
        (simp (disch := first | with_reducible assumption | omega | decide | (simp only [ps_low, List.map_cons, List.map_nil, Value.category, List.sum_cons, List.sum_nil]; decide)) only [el_X10_teach_0, el_X10_teach_1, el_X10_teach_4, el_X10_teach_5, el_X10_teach_6, el_X10_teach_7, el_X10_teach_9, el_X10_teach_10, el_X10_teach_13, el_X10_teach_19, el_X10_teach_21, el_X10_teach_23, el_X10_teach_24, el_X10_teach_27, el_X10_teach_28, el_X10_teach_31, el_X10_teach_34, el_X10_teach_36, el_X10_teach_39, el_X10_teach_40, el_X10_teach_43, el_X10_teach_46, el_X10_teach_47, el_X10_teach_48, el_X10_teach_49, el_X10_teach_50, el_X10_teach_51, el_X10_teach_52, el_X10_teach_53, el_X10_teach_54, el_X10_teach_55, el_X10_teach_58, el_X10_teach_59, el_X10_teach_60, el_X10_teach_61, el_X10_teach_63, el_X10_teach_68, el_X10_teach_69, el_X10_teach_72, el_X10_teach_75, gf_10_12, gf_10_3, gf_10_6, gf_4_6, gf_8_1, gf_8_4, px_ifp, px_ifn, zh_1, zc_1, zc_2, zc_3, zc_4, zc_5, zc_6, zc_7, zc_8, zc_9, zc_10, zc_11, zc_12, zc_20, zc_21, zc_22, zp_1, zp_2, zp_3, zp_4, zp_5, zp_6, zp_7, zp_8, zp_9, zp_10, zp_11, zp_12, zp_20, zp_21, zp_22, upS_eq, upS_ne, upS_up, upz_eq, upz_ne, upz_up, px_al_aI, px_as_aI, px_as_aZ, px_as_aC, px_ln_aI, Option.toList, List.cons_append, List.nil_append, Int.reduceAdd, Int.reduceSub, Int.reduceMul, ↓reduceIte, Nat.reduceEqDiff, eq_self, Int.reduceEq, Int.reduceLT, Int.reduceLE, Int.reduceNe, Int.reduceNeg, Int.reduceToNat, ne_eq, not_true_eq_false, not_false_eq_true, t0, u0, u1, u2, u3, u4, u5, u6, u7, v0, v1, v2, v3, v4, v5, tle, e3, es, el_X10_teach_16 (kL ..) _ (zo_3 _) _, j0, k2']; repeat (first | simp (disch := first | omega | decide) only [upz_srt, upy_upz, upz_up, upS_srt, upT_upS, upS_up] | simp (disch := first | with_reducible assumption | omega | decide | (simp only [ps_low, List.map_cons, List.map_nil, Value.category, List.sum_cons, List.sum_nil]; decide)) only [el_X10_teach_0, el_X10_teach_1, el_X10_teach_4, el_X10_teach_5, el_X10_teach_6, el_X10_teach_7, el_X10_teach_9, el_X10_teach_10, el_X10_teach_13, el_X10_teach_19, el_X10_teach_21, el_X10_teach_23, el_X10_teach_24, el_X10_teach_27, el_X10_teach_28, el_X10_teach_31, el_X10_teach_34, el_X10_teach_36, el_X10_teach_39, el_X10_teach_40, el_X10_teach_43, el_X10_teach_46, el_X10_teach_47, el_X10_teach_48, el_X10_teach_49, el_X10_teach_50, el_X10_teach_51, el_X10_teach_52, el_X10_teach_53, el_X10_teach_54, el_X10_teach_55, el_X10_teach_58, el_X10_teach_59, el_X10_teach_60, el_X10_teach_61, el_X10_teach_63, el_X10_teach_68, el_X10_teach_69, el_X10_teach_72, el_X10_teach_75, gf_10_12, gf_10_3, gf_10_6, gf_4_6, gf_8_1, gf_8_4, px_ifp, px_ifn, zh_1, zc_1, zc_2, zc_3, zc_4, zc_5, zc_6, zc_7, zc_8, zc_9, zc_10, zc_11, zc_12, zc_20, zc_21, zc_22, zp_1, zp_2, zp_3, zp_4, zp_5, zp_6, zp_7, zp_8, zp_9, zp_10, zp_11, zp_12, zp_20, zp_21, zp_22, upS_eq, upS_ne, upS_up, upz_eq, upz_ne, upz_up, px_al_aI, px_as_aI, px_as_aZ, px_as_aC, px_ln_aI, Option.toList, List.cons_append, List.nil_append, Int.reduceAdd, Int.reduceSub, Int.reduceMul, ↓reduceIte, Nat.reduceEqDiff, eq_self, Int.reduceEq, Int.reduceLT, Int.reduceLE, Int.reduceNe, Int.reduceNeg, Int.reduceToNat, ne_eq, not_true_eq_false, not_false_eq_true, t0, u0, u1, u2, u3, u4, u5, u6, u7, v0, v1, v2, v3, v4, v5, tle, e3, es, el_X10_teach_16 (kL ..) _ (zo_3 _) _, j0, k2']))
        exact hQ
    · rw [upS_ne (by omega)]
      exact i0
    · rw [upS_ne (by omega), upS_ne (by omega)]
      exact i1 j hj
    · rw [upS_ne (by omega)]
      exact j0
    · rw [upS_ne (by omega)]
      exact j1 j hj
    · rw [upS_ne (by omega)]
      exact j2 j hj
    · rw [show x + 34 + 3 = x + 37 from rfl, upS_eq]
      change upz (S (x + 37)) 2 (F.2.1.2.2 2 + 1) j = upz F.2.1.2.2 2 (F.2.1.2.2 2 + 1) j
      unfold upz
      split
      · rfl
      · exact k0 j hj
    · change 0 ≤ upz F.2.1.2.2 2 (F.2.1.2.2 2 + 1) j ∧ upz F.2.1.2.2 2 (F.2.1.2.2 2 + 1) j ≤ k + 1
      have := o3 j hj
      unfold upz
      split <;> omega
  · have gn : 1 ≤ n ∧ F.2.1.2.1.1 < 12 := by omega
    have hall := (hlo.resolve_left (by omega)).2
    have va := hall a (by simp)
    have vb := hall b (by simp)
    have vd := hall d (by simp)
    have ve := hall e (by simp)
    generalize hm : F.2.1.2.1.1 = m at *
    have kA := c_addRow (T := T) (S := S) (c := c) (q := x + 34) (a := a) (b := b) (d := d) (e := e) (n := n) tL34 (by rw [j0]; omega)
    rw [j0] at kA
    have t1 : ((m : Int)).toNat = m := by omega
    have t2 : (4 * (m : Int)).toNat = 4 * m := by omega
    have t3 : (4 * (m : Int) + 1).toNat = 4 * m + 1 := by omega
    have t4 : (4 * (m : Int) + 2).toNat = 4 * m + 2 := by omega
    have t5 : (4 * (m : Int) + 3).toNat = 4 * m + 3 := by omega
    rw [t1, t2, t3, t4, t5] at kA
    have efi : teI F.2.1 n a b d e = (F.2.1.1, (m + 1, upz F.2.1.2.1.2.1 m n, upz (upz (upz (upz F.2.1.2.1.2.2 (4 * m) a) (4 * m + 1) b) (4 * m + 2) d) (4 * m + 3) e), F.2.1.2.2) := by
      unfold teI
      rw [hm]
    rw [efi]
    refine opR_val (S' := upS (upS (upS S (x + 34) (upz (S (x + 34)) 1 ((m : Int) + 1))) (x + 34 + 4) (upz (S (x + 34 + 4)) m n)) (x + 34 + 5) (upz (upz (upz (upz (S (x + 34 + 5)) (4 * m) a) (4 * m + 1) b) (4 * m + 2) d) (4 * m + 3) e)) (v := (m + 1 : Nat)) (sA := sA) (sB := sB) (px_ofQ fun Q hQ => ?_) (fun a ha => by rw [upS_ne (by omega), upS_ne (by omega), upS_ne (by omega)]) (h.state (I := (F.2.1.1, (m + 1, upz F.2.1.2.1.2.1 m n, upz (upz (upz (upz F.2.1.2.1.2.2 (4 * m) a) (4 * m + 1) b) (4 * m + 2) d) (4 * m + 3) e), F.2.1.2.2)) (by omega) (fun a h1 h2 h3 h4 h5 => by rw [upS_ne (by omega), upS_ne (by omega), upS_ne (by omega)]) ⟨⟨?_, fun j hj => ?_⟩, ⟨?_, fun j hj => ?_, fun j hj => ?_⟩, fun j hj => ?_⟩ ⟨o1, ⟨?_, fun r hr => ?_, fun j hj => ?_⟩, fun j hj => ?_⟩ (b3.eq (fun a h1 h2 => by rw [upS_ne (by omega), upS_ne (by omega), upS_ne (by omega)]))) (.inr ⟨g, rfl, rfl⟩)
    · (simp (disch := first | with_reducible assumption | omega | decide | (simp only [ps_low, List.map_cons, List.map_nil, Value.category, List.sum_cons, List.sum_nil]; decide)) only [el_X10_teach_0, el_X10_teach_1, el_X10_teach_4, el_X10_teach_5, el_X10_teach_6, el_X10_teach_7, el_X10_teach_9, el_X10_teach_10, el_X10_teach_13, el_X10_teach_19, el_X10_teach_21, el_X10_teach_23, el_X10_teach_24, el_X10_teach_27, el_X10_teach_28, el_X10_teach_31, el_X10_teach_34, el_X10_teach_36, el_X10_teach_39, el_X10_teach_40, el_X10_teach_43, el_X10_teach_46, el_X10_teach_47, el_X10_teach_48, el_X10_teach_49, el_X10_teach_50, el_X10_teach_51, el_X10_teach_52, el_X10_teach_53, el_X10_teach_54, el_X10_teach_55, el_X10_teach_58, el_X10_teach_59, el_X10_teach_60, el_X10_teach_61, el_X10_teach_63, el_X10_teach_68, el_X10_teach_69, el_X10_teach_72, el_X10_teach_75, gf_10_12, gf_10_3, gf_10_6, gf_4_6, gf_8_1, gf_8_4, px_ifp, px_ifn, zh_1, zc_1, zc_2, zc_3, zc_4, zc_5, zc_6, zc_7, zc_8, zc_9, zc_10, zc_11, zc_12, zc_20, zc_21, zc_22, zp_1, zp_2, zp_3, zp_4, zp_5, zp_6, zp_7, zp_8, zp_9, zp_10, zp_11, zp_12, zp_20, zp_21, zp_22, upS_eq, upS_ne, upS_up, upz_eq, upz_ne, upz_up, px_al_aI, px_as_aI, px_as_aZ, px_as_aC, px_ln_aI, Option.toList, List.cons_append, List.nil_append, Int.reduceAdd, Int.reduceSub, Int.reduceMul, ↓reduceIte, Nat.reduceEqDiff, eq_self, Int.reduceEq, Int.reduceLT, Int.reduceLE, Int.reduceNe, Int.reduceNeg, Int.reduceToNat, ne_eq, not_true_eq_false, not_false_eq_true, t0, u0, u1, u2, u3, u4, u5, u6, u7, v0, v1, v2, v3, v4, v5, tle, e3, es, el_X10_teach_16 (kL ..) _ (zo_3 _) _, j0, el_X10_teach_65 (kA ..) _ (zo_9 _) _]; repeat (first | simp (disch := first | omega | decide) only [upz_srt, upy_upz, upz_up, upS_srt, upT_upS, upS_up] | simp (disch := first | with_reducible assumption | omega | decide | (simp only [ps_low, List.map_cons, List.map_nil, Value.category, List.sum_cons, List.sum_nil]; decide)) only [el_X10_teach_0, el_X10_teach_1, el_X10_teach_4, el_X10_teach_5, el_X10_teach_6, el_X10_teach_7, el_X10_teach_9, el_X10_teach_10, el_X10_teach_13, el_X10_teach_19, el_X10_teach_21, el_X10_teach_23, el_X10_teach_24, el_X10_teach_27, el_X10_teach_28, el_X10_teach_31, el_X10_teach_34, el_X10_teach_36, el_X10_teach_39, el_X10_teach_40, el_X10_teach_43, el_X10_teach_46, el_X10_teach_47, el_X10_teach_48, el_X10_teach_49, el_X10_teach_50, el_X10_teach_51, el_X10_teach_52, el_X10_teach_53, el_X10_teach_54, el_X10_teach_55, el_X10_teach_58, el_X10_teach_59, el_X10_teach_60, el_X10_teach_61, el_X10_teach_63, el_X10_teach_68, el_X10_teach_69, el_X10_teach_72, el_X10_teach_75, gf_10_12, gf_10_3, gf_10_6, gf_4_6, gf_8_1, gf_8_4, px_ifp, px_ifn, zh_1, zc_1, zc_2, zc_3, zc_4, zc_5, zc_6, zc_7, zc_8, zc_9, zc_10, zc_11, zc_12, zc_20, zc_21, zc_22, zp_1, zp_2, zp_3, zp_4, zp_5, zp_6, zp_7, zp_8, zp_9, zp_10, zp_11, zp_12, zp_20, zp_21, zp_22, upS_eq, upS_ne, upS_up, upz_eq, upz_ne, upz_up, px_al_aI, px_as_aI, px_as_aZ, px_as_aC, px_ln_aI, Option.toList, List.cons_append, List.nil_append, Int.reduceAdd, Int.reduceSub, Int.reduceMul, ↓reduceIte, Nat.reduceEqDiff, eq_self, Int.reduceEq, Int.reduceLT, Int.reduceLE, Int.reduceNe, Int.reduceNeg, Int.reduceToNat, ne_eq, not_true_eq_false, not_false_eq_true, t0, u0, u1, u2, u3, u4, u5, u6, u7, v0, v1, v2, v3, v4, v5, tle, e3, es, el_X10_teach_16 (kL ..) _ (zo_3 _) _, j0, el_X10_teach_65 (kA ..) _ (zo_9 _) _]))
      exact hQ
    · rw [upS_ne (by omega), upS_ne (by omega), upS_eq, upz_ne (by decide)]
      exact i0
    · rw [upS_ne (by omega), upS_ne (by omega), upS_ne (by omega), upS_ne (by omega), upS_ne (by omega), upS_ne (by omega)]
      exact i1 j hj
    · rw [upS_ne (by omega), upS_ne (by omega), upS_eq, upz_eq]
      rfl
    · rw [upS_ne (by omega), upS_eq]
      change upz (S (x + 34 + 4)) m n j = upz F.2.1.2.1.2.1 m n j
      unfold upz
      split
      · rfl
      · exact j1 j hj
    · rw [upS_eq]
      change upz (upz (upz (upz (S (x + 34 + 5)) (4 * m) a) (4 * m + 1) b) (4 * m + 2) d) (4 * m + 3) e j = upz (upz (upz (upz F.2.1.2.1.2.2 (4 * m) a) (4 * m + 1) b) (4 * m + 2) d) (4 * m + 3) e j
      unfold upz
      repeat' split
      all_goals first
        | rfl
        | exact j2 j hj
    · rw [upS_ne (by omega), upS_ne (by omega), upS_ne (by omega)]
      exact k0 j hj
    · change m + 1 ≤ 12
      omega
    · change 1 ≤ upz F.2.1.2.1.2.1 m n r ∧ upz F.2.1.2.1.2.1 m n r ≤ 4
      by_cases hrm : r = m
      · rw [hrm, upz_eq]
        omega
      · rw [upz_ne hrm]
        replace hr : r < m + 1 := hr
        exact o2.2.1 r (by omega)
    · change -1000 ≤ upz (upz (upz (upz F.2.1.2.1.2.2 (4 * m) a) (4 * m + 1) b) (4 * m + 2) d) (4 * m + 3) e j ∧ upz (upz (upz (upz F.2.1.2.1.2.2 (4 * m) a) (4 * m + 1) b) (4 * m + 2) d) (4 * m + 3) e j ≤ 1000
      have := o2.2.2 j hj
      unfold upz
      repeat' split
      all_goals omega
    · have := o3 j hj
      exact ⟨this.1, by show F.2.1.2.2 j ≤ k + 1; omega⟩
end FACE
