/-! TEXTS (String.length, charAt); A TAPE, 2 -/
/-- the constants of the run: each text lies with its signs -/
def tcx (C : pm_C) : Prop := (∀ i, i < 10 → ∃ q, C.2.2.1 (C.2.1 i) = some (q, po_code i) ∧ C.2.2.2.1 q = some (po_code i)) ∧ C.2.2.2.2 = .null
theorem po_code_r : ∀ i, i < 10 → (po_code i).length ≤ 6 ∧ ∀ x ∈ po_code i, x < 128 := by
  intro i hi
  rcases (show i = 0 ∨ i = 1 ∨ i = 2 ∨ i = 3 ∨ i = 4 ∨ i = 5 ∨ i = 6 ∨ i = 7 ∨ i = 8 ∨ i = 9 by omega) with rfl | rfl | rfl | rfl | rfl | rfl | rfl | rfl | rfl | rfl <;> decide
theorem c_length {h : pm_H} {i : Nat} (hC : tcx (pm_cst h)) (hi : i < 10) : px_R 1 225 [.ref ((pm_cst h).2.1 i)] h (.inl (some (.int (zI (po_code i).length)))) h := by
  obtain ⟨q, h1, h2⟩ := hC.1 i hi
  have hcod : px_R 0 226 [.ref ((pm_cst h).2.1 i)] h (.inl (some (.int (zI 0)))) h := by
    refine px_ofQ fun Q hQ => ?_
    simp (disch := first | with_reducible assumption | omega | decide | exact h1) only [el_J0_coder_7d493_0, el_J0_coder_7d493_3, el_J0_coder_7d493_6, el_J0_coder_7d493_7, el_J0_coder_7d493_10, el_J0_coder_7d493_13, el_J0_coder_7d493_14, el_J0_coder_7d493_7 h1, ↓reduceIte, Nat.reduceEqDiff, eq_self, Int.reduceEq, Int.reduceLT, Int.reduceLE, Int.reduceNe, Int.reduceNeg, Int.reduceToNat, ne_eq, not_true_eq_false, not_false_eq_true]
    exact hQ
  refine px_ofQ fun Q hQ => ?_
  simp (disch := omega) only [el_J0_length_8abf5_0]
  rw [el_J0_length_8abf5_1 h1, el_J0_length_8abf5_4 h2]
  simp (disch := omega) only [el_J0_length_8abf5_5]
  rw [el_J0_length_8abf5_6 hcod (by decide) h1 rfl]
  simp (disch := omega) only [Option.toList, List.cons_append, List.nil_append, el_J0_length_8abf5_9, el_J0_length_8abf5_10]
  have e : ∀ x : Int32, x >>> (zI 0 &&& 31) = x := by
    intro x
    have : zI 0 &&& 31 = 0 := by decide
    rw [this]
    exact Int32.shiftRight_zero
  rw [e]
  exact hQ
theorem c_charAt {h : pm_H} {i : Nat} {x : Int} (hC : tcx (pm_cst h)) (hi : i < 10) (hx : 0 ≤ x ∧ x < (po_code i).length) : px_R 3 227 [.ref ((pm_cst h).2.1 i), .int (zI x)] h (.inl (some (.int (zI ((po_code i).getD x.toNat 0 : Nat))))) h := by
  obtain ⟨q, h1, h2⟩ := hC.1 i hi
  have hlen := (po_code_r i hi).1
  have hch : (po_code i).getD x.toNat 0 < 128 := by
    have hlt : x.toNat < (po_code i).length := by omega
    rw [List.getD_eq_getElem?_getD, List.getElem?_eq_getElem hlt]
    exact (po_code_r i hi).2 _ (List.getElem_mem hlt)
  have hlat : px_R 0 228 [.ref ((pm_cst h).2.1 i)] h (.inl (some (.int (zI 1)))) h := by
    refine px_ofQ fun Q hQ => ?_
    simp (disch := first | with_reducible assumption | omega | decide | exact h1) only [el_J0_isLatin1_aae02_0, el_J0_isLatin1_aae02_3, el_J0_isLatin1_aae02_6, el_J0_isLatin1_aae02_7, el_J0_isLatin1_aae02_10, el_J0_isLatin1_aae02_13, el_J0_isLatin1_aae02_14, el_J0_isLatin1_aae02_17, el_J0_isLatin1_aae02_18, el_J0_isLatin1_aae02_7 h1, ↓reduceIte, Nat.reduceEqDiff, eq_self, Int.reduceEq, Int.reduceLT, Int.reduceLE, Int.reduceNe, Int.reduceNeg, Int.reduceToNat, ne_eq, not_true_eq_false, not_false_eq_true]
    exact hQ
  have hck : px_R 0 231 [.int (zI x), .int (zI (po_code i).length), .null] h (.inl (some (.int (zI x)))) h := by
    refine px_ofQ fun Q hQ => ?_
    repeat' (first | simp (disch := omega) only [el_J3_checkIndex_8e157_0, el_J3_checkIndex_8e157_1, el_J3_checkIndex_8e157_4, el_J3_checkIndex_8e157_5, el_J3_checkIndex_8e157_6, el_J3_checkIndex_8e157_16, el_J3_checkIndex_8e157_17] | split)
    all_goals first | omega | exact hQ
  have hck2 : px_R 1 230 [.int (zI x), .int (zI (po_code i).length)] h (.inl none) h := by
    refine px_ofQ fun Q hQ => ?_
    simp (disch := omega) only [el_J0_checkIndex_df160_0, el_J0_checkIndex_df160_1, el_J0_checkIndex_df160_2, hC.2]
    rw [el_J0_checkIndex_df160_5 hck (by decide) rfl]
    simp (disch := omega) only [Option.toList, List.cons_append, List.nil_append, el_J0_checkIndex_df160_8, el_J0_checkIndex_df160_9]
    exact hQ
  have hb : px_R 2 229 [.ref q, .int (zI x)] h (.inl (some (.int (zI ((po_code i).getD x.toNat 0 : Nat))))) h := by
    refine px_ofQ fun Q hQ => ?_
    simp (disch := omega) only [el_J1_charAt_3b067_0, el_J1_charAt_3b067_1]
    rw [el_J1_charAt_3b067_2 h2, el_J1_charAt_3b067_3 hck2 (by decide) rfl]
    simp (disch := omega) only [Option.toList, List.cons_append, List.nil_append, el_J1_charAt_3b067_6, el_J1_charAt_3b067_7]
    rw [el_J1_charAt_3b067_8 h2 (by omega)]
    simp (disch := omega) only [el_J1_charAt_3b067_9, el_J1_charAt_3b067_12, el_J1_charAt_3b067_13]
    have e1 : zI ((po_code i).getD x.toNat 0 : Nat) &&& zI 255 = zI ((po_code i).getD x.toNat 0 : Nat) := by
      have := zI_andN ((po_code i).getD x.toNat 0) 255
      have e2 : (po_code i).getD x.toNat 0 &&& 255 = (po_code i).getD x.toNat 0 := by
        have := Nat.and_two_pow_sub_one_eq_mod ((po_code i).getD x.toNat 0) 8
        simp only [show (2 ^ 8 - 1 : Nat) = 255 from rfl] at this
        rw [this]
        omega
      rw [e2] at this
      exact this
    rw [e1, zI_i2c (by omega), el_J1_charAt_3b067_14 (by omega)]
    exact hQ
  refine px_ofQ fun Q hQ => ?_
  simp (disch := omega) only [el_J0_charAt_5068e_0]
  rw [el_J0_charAt_5068e_1 hlat (by decide) h1 rfl]
  simp (disch := omega) only [Option.toList, List.cons_append, List.nil_append, el_J0_charAt_5068e_4, ↓reduceIte, Nat.reduceEqDiff, eq_self, Int.reduceEq, Int.reduceLT, Int.reduceLE, Int.reduceNe, Int.reduceNeg, Int.reduceToNat, ne_eq, not_true_eq_false, not_false_eq_true]
  simp (disch := omega) only [el_J0_charAt_5068e_7]
  rw [el_J0_charAt_5068e_8 h1]
  simp (disch := omega) only [el_J0_charAt_5068e_11]
  rw [el_J0_charAt_5068e_12 hb (by decide) rfl]
  simp (disch := omega) only [Option.toList, List.cons_append, List.nil_append, el_J0_charAt_5068e_15]
  exact hQ
/-- the signs of a text at a place -/
def eqW (b : Nat → Int) : Int → List Nat → Bool
  | _, [] => true
  | p, x :: r => decide (b p.toNat = x) && eqW b (p + 1) r
def wdB (b F : Nat → Int) (L : List Nat) : Bool := decide (F 5 = 1) && decide (F 7 - F 6 = L.length) && eqW b (F 6) L
theorem c_isWord {T : Nat → Nat × Nat} {S : Nat → Nat → Int} {c : pm_M × pm_C} {t i : Nat} (ht : ly9 T t) (hF : tpF (S t)) (hb : tpB (S (t + 1))) (hC : tcx c.2) (hi : i < 10) :
    px_R 4 94 [.ref t, .ref (c.2.2.1 i), .retAddr 0] (zh T S c) (.inl (some (.int (zI (if wdB (S (t + 1)) (S t) (po_code i) = true then 1 else 0))))) (zh T S c) := by
  obtain ⟨t0, t1⟩ := id ht
  refine px_ofQ fun Q hQ => ?_
  obtain ⟨⟨hn, h7, h6⟩, h5, h8, -⟩ := hF
  have hlen := (po_code_r i hi).1
  have hL := c_length (h := zh T S c) hC hi
  have ho : ∃ q, (pm_cst (zh T S c)).2.2.1 (c.2.2.1 i) = some q := by
    obtain ⟨q, h1, -⟩ := hC.1 i hi
    exact ⟨_, h1⟩
  obtain ⟨q, ho⟩ := ho
  have e28 : (pm_cst (zh T S c)).2.1 i = c.2.2.1 i := rfl
  rw [e28] at hL
  simp (disch := first | with_reducible assumption | omega | decide | (simp only [ps_low, List.map_cons, List.map_nil, Value.category, List.sum_cons, List.sum_nil]; decide) | with_unfolding_all rfl) only [el_X9_isWord_0, el_X9_isWord_1, el_X9_isWord_4, el_X9_isWord_5, gf_9_5, px_ifp, px_ifn, zh_1, zc_1, zc_2, zc_3, zc_4, zc_5, zc_6, zc_7, zc_8, zc_9, zc_10, zc_11, zc_12, zc_20, zc_21, zc_22, zp_1, zp_2, zp_3, zp_4, zp_5, zp_6, zp_7, zp_8, zp_9, zp_10, zp_11, zp_12, zp_20, zp_21, zp_22, upS_eq, upS_ne, upS_up, upS_srt, upz_eq, upz_ne, upz_up, upz_srt, px_al_aI, px_as_aI, px_as_aZ, px_as_aC, px_ln_aI, Option.toList, List.cons_append, List.nil_append, Int.reduceAdd, Int.reduceSub, Int.reduceMul, ↓reduceIte, Nat.reduceEqDiff, eq_self, Int.reduceEq, Int.reduceLT, Int.reduceLE, Int.reduceNe, Int.reduceNeg, Int.reduceToNat, ne_eq, not_true_eq_false, not_false_eq_true, t0, t1]
  by_cases h1 : S t 5 = 1
  · rw [if_neg (fun g => g h1)]
    simp (disch := first | with_reducible assumption | omega | decide | (simp only [ps_low, List.map_cons, List.map_nil, Value.category, List.sum_cons, List.sum_nil]; decide) | with_unfolding_all rfl) only [el_X9_isWord_8, el_X9_isWord_9, el_X9_isWord_12, el_X9_isWord_13, el_X9_isWord_16, el_X9_isWord_17, gf_9_6, gf_9_7, px_ifp, px_ifn, zh_1, zc_1, zc_2, zc_3, zc_4, zc_5, zc_6, zc_7, zc_8, zc_9, zc_10, zc_11, zc_12, zc_20, zc_21, zc_22, zp_1, zp_2, zp_3, zp_4, zp_5, zp_6, zp_7, zp_8, zp_9, zp_10, zp_11, zp_12, zp_20, zp_21, zp_22, upS_eq, upS_ne, upS_up, upS_srt, upz_eq, upz_ne, upz_up, upz_srt, px_al_aI, px_as_aI, px_as_aZ, px_as_aC, px_ln_aI, Option.toList, List.cons_append, List.nil_append, Int.reduceAdd, Int.reduceSub, Int.reduceMul, ↓reduceIte, Nat.reduceEqDiff, eq_self, Int.reduceEq, Int.reduceLT, Int.reduceLE, Int.reduceNe, Int.reduceNeg, Int.reduceToNat, ne_eq, not_true_eq_false, not_false_eq_true, t0, t1]
    rw [el_X9_isWord_18 hL (by decide) ho rfl]
    simp (disch := first | with_reducible assumption | omega | decide | (simp only [ps_low, List.map_cons, List.map_nil, Value.category, List.sum_cons, List.sum_nil]; decide) | with_unfolding_all rfl) only [el_X9_isWord_21, px_ifp, px_ifn, zh_1, zc_1, zc_2, zc_3, zc_4, zc_5, zc_6, zc_7, zc_8, zc_9, zc_10, zc_11, zc_12, zc_20, zc_21, zc_22, zp_1, zp_2, zp_3, zp_4, zp_5, zp_6, zp_7, zp_8, zp_9, zp_10, zp_11, zp_12, zp_20, zp_21, zp_22, upS_eq, upS_ne, upS_up, upS_srt, upz_eq, upz_ne, upz_up, upz_srt, px_al_aI, px_as_aI, px_as_aZ, px_as_aC, px_ln_aI, Option.toList, List.cons_append, List.nil_append, Int.reduceAdd, Int.reduceSub, Int.reduceMul, ↓reduceIte, Nat.reduceEqDiff, eq_self, Int.reduceEq, Int.reduceLT, Int.reduceLE, Int.reduceNe, Int.reduceNeg, Int.reduceToNat, ne_eq, not_true_eq_false, not_false_eq_true, t0, t1]
    by_cases h2 : S t 7 - S t 6 = (po_code i).length
    · rw [if_pos h2]
      have loop : ∀ (k j : Nat), j + k = (po_code i).length → (wdB (S (t + 1)) (S t) (po_code i) = eqW (S (t + 1)) (S t 6 + j) ((po_code i).drop j)) →
          px_Ev 4 94 28 [.ref t, .ref (c.2.2.1 i), .int (zI j)] [] (zh T S c) Q := by
        intro k
        induction k with
        | zero =>
          intro j hj he
          simp (disch := first | with_reducible assumption | omega | decide | (simp only [ps_low, List.map_cons, List.map_nil, Value.category, List.sum_cons, List.sum_nil]; decide) | with_unfolding_all rfl) only [el_X9_isWord_28, el_X9_isWord_29, px_ifp, px_ifn, zh_1, zc_1, zc_2, zc_3, zc_4, zc_5, zc_6, zc_7, zc_8, zc_9, zc_10, zc_11, zc_12, zc_20, zc_21, zc_22, zp_1, zp_2, zp_3, zp_4, zp_5, zp_6, zp_7, zp_8, zp_9, zp_10, zp_11, zp_12, zp_20, zp_21, zp_22, upS_eq, upS_ne, upS_up, upS_srt, upz_eq, upz_ne, upz_up, upz_srt, px_al_aI, px_as_aI, px_as_aZ, px_as_aC, px_ln_aI, Option.toList, List.cons_append, List.nil_append, Int.reduceAdd, Int.reduceSub, Int.reduceMul, ↓reduceIte, Nat.reduceEqDiff, eq_self, Int.reduceEq, Int.reduceLT, Int.reduceLE, Int.reduceNe, Int.reduceNeg, Int.reduceToNat, ne_eq, not_true_eq_false, not_false_eq_true, t0, t1]
          rw [el_X9_isWord_30 hL (by decide) ho rfl]
          simp (disch := first | with_reducible assumption | omega | decide | (simp only [ps_low, List.map_cons, List.map_nil, Value.category, List.sum_cons, List.sum_nil]; decide) | with_unfolding_all rfl) only [el_X9_isWord_33, el_X9_isWord_76, el_X9_isWord_77, px_ifp, px_ifn, zh_1, zc_1, zc_2, zc_3, zc_4, zc_5, zc_6, zc_7, zc_8, zc_9, zc_10, zc_11, zc_12, zc_20, zc_21, zc_22, zp_1, zp_2, zp_3, zp_4, zp_5, zp_6, zp_7, zp_8, zp_9, zp_10, zp_11, zp_12, zp_20, zp_21, zp_22, upS_eq, upS_ne, upS_up, upS_srt, upz_eq, upz_ne, upz_up, upz_srt, px_al_aI, px_as_aI, px_as_aZ, px_as_aC, px_ln_aI, Option.toList, List.cons_append, List.nil_append, Int.reduceAdd, Int.reduceSub, Int.reduceMul, ↓reduceIte, Nat.reduceEqDiff, eq_self, Int.reduceEq, Int.reduceLT, Int.reduceLE, Int.reduceNe, Int.reduceNeg, Int.reduceToNat, ne_eq, not_true_eq_false, not_false_eq_true, t0, t1]
          rw [he, List.drop_eq_nil_of_le (by omega)] at hQ
          exact hQ
        | succ k ih =>
          intro j hj he
          have hbp := hb (S t 6 + j).toNat (by omega)
          have hA := c_charAt (h := zh T S c) (x := j) hC hi (by omega)
          rw [e28] at hA
          have hdrop : (po_code i).drop j = (po_code i).getD (j : Int).toNat 0 :: (po_code i).drop (j + 1) := by
            have hlt : j < (po_code i).length := by omega
            rw [List.drop_eq_getElem_cons hlt, Int.toNat_natCast, List.getD_eq_getElem?_getD, List.getElem?_eq_getElem hlt]
            rfl
          have hch : (po_code i).getD (j : Int).toNat 0 < 128 := by
            have hlt : j < (po_code i).length := by omega
            rw [Int.toNat_natCast, List.getD_eq_getElem?_getD, List.getElem?_eq_getElem hlt]
            exact (po_code_r i hi).2 _ (List.getElem_mem hlt)
          rw [hdrop] at he
          unfold eqW at he
          generalize (po_code i).getD (j : Int).toNat 0 = ch at *
          simp (disch := first | with_reducible assumption | omega | decide | (simp only [ps_low, List.map_cons, List.map_nil, Value.category, List.sum_cons, List.sum_nil]; decide) | with_unfolding_all rfl) only [el_X9_isWord_28, el_X9_isWord_29, px_ifp, px_ifn, zh_1, zc_1, zc_2, zc_3, zc_4, zc_5, zc_6, zc_7, zc_8, zc_9, zc_10, zc_11, zc_12, zc_20, zc_21, zc_22, zp_1, zp_2, zp_3, zp_4, zp_5, zp_6, zp_7, zp_8, zp_9, zp_10, zp_11, zp_12, zp_20, zp_21, zp_22, upS_eq, upS_ne, upS_up, upS_srt, upz_eq, upz_ne, upz_up, upz_srt, px_al_aI, px_as_aI, px_as_aZ, px_as_aC, px_ln_aI, Option.toList, List.cons_append, List.nil_append, Int.reduceAdd, Int.reduceSub, Int.reduceMul, ↓reduceIte, Nat.reduceEqDiff, eq_self, Int.reduceEq, Int.reduceLT, Int.reduceLE, Int.reduceNe, Int.reduceNeg, Int.reduceToNat, ne_eq, not_true_eq_false, not_false_eq_true, t0, t1]
          rw [el_X9_isWord_30 hL (by decide) ho rfl]
          simp (disch := first | with_reducible assumption | omega | decide | (simp only [ps_low, List.map_cons, List.map_nil, Value.category, List.sum_cons, List.sum_nil]; decide) | with_unfolding_all rfl) only [el_X9_isWord_33, el_X9_isWord_36, el_X9_isWord_37, el_X9_isWord_40, el_X9_isWord_41, el_X9_isWord_42, el_X9_isWord_43, el_X9_isWord_46, el_X9_isWord_49, el_X9_isWord_50, el_X9_isWord_53, el_X9_isWord_54, el_X9_isWord_57, el_X9_isWord_58, el_X9_isWord_59, el_X9_isWord_60, el_X9_isWord_61, gf_9_3, gf_9_4, gf_9_6, px_ifp, px_ifn, zh_1, zc_1, zc_2, zc_3, zc_4, zc_5, zc_6, zc_7, zc_8, zc_9, zc_10, zc_11, zc_12, zc_20, zc_21, zc_22, zp_1, zp_2, zp_3, zp_4, zp_5, zp_6, zp_7, zp_8, zp_9, zp_10, zp_11, zp_12, zp_20, zp_21, zp_22, upS_eq, upS_ne, upS_up, upS_srt, upz_eq, upz_ne, upz_up, upz_srt, px_al_aI, px_as_aI, px_as_aZ, px_as_aC, px_ln_aI, Option.toList, List.cons_append, List.nil_append, Int.reduceAdd, Int.reduceSub, Int.reduceMul, ↓reduceIte, Nat.reduceEqDiff, eq_self, Int.reduceEq, Int.reduceLT, Int.reduceLE, Int.reduceNe, Int.reduceNeg, Int.reduceToNat, ne_eq, not_true_eq_false, not_false_eq_true, t0, t1]
          rw [el_X9_isWord_62 hA (by decide) ho rfl]
          by_cases hc : S (t + 1) (S t 6 + j).toNat = ch
          · simp (disch := first | with_reducible assumption | omega | decide | (simp only [ps_low, List.map_cons, List.map_nil, Value.category, List.sum_cons, List.sum_nil]; decide) | with_unfolding_all rfl) only [el_X9_isWord_65, el_X9_isWord_68, el_X9_isWord_69, el_X9_isWord_70, el_X9_isWord_73, px_ifp, px_ifn, zh_1, zc_1, zc_2, zc_3, zc_4, zc_5, zc_6, zc_7, zc_8, zc_9, zc_10, zc_11, zc_12, zc_20, zc_21, zc_22, zp_1, zp_2, zp_3, zp_4, zp_5, zp_6, zp_7, zp_8, zp_9, zp_10, zp_11, zp_12, zp_20, zp_21, zp_22, upS_eq, upS_ne, upS_up, upS_srt, upz_eq, upz_ne, upz_up, upz_srt, px_al_aI, px_as_aI, px_as_aZ, px_as_aC, px_ln_aI, Option.toList, List.cons_append, List.nil_append, Int.reduceAdd, Int.reduceSub, Int.reduceMul, ↓reduceIte, Nat.reduceEqDiff, eq_self, Int.reduceEq, Int.reduceLT, Int.reduceLE, Int.reduceNe, Int.reduceNeg, Int.reduceToNat, ne_eq, not_true_eq_false, not_false_eq_true, t0, t1]
            have := ih (j + 1) (by omega) (by rw [he]; simp only [hc, decide_true, Bool.true_and]; congr 1; omega)
            exact this
          · simp (disch := first | with_reducible assumption | omega | decide | (simp only [ps_low, List.map_cons, List.map_nil, Value.category, List.sum_cons, List.sum_nil]; decide) | with_unfolding_all rfl) only [el_X9_isWord_65, el_X9_isWord_68, el_X9_isWord_69, px_ifp, px_ifn, zh_1, zc_1, zc_2, zc_3, zc_4, zc_5, zc_6, zc_7, zc_8, zc_9, zc_10, zc_11, zc_12, zc_20, zc_21, zc_22, zp_1, zp_2, zp_3, zp_4, zp_5, zp_6, zp_7, zp_8, zp_9, zp_10, zp_11, zp_12, zp_20, zp_21, zp_22, upS_eq, upS_ne, upS_up, upS_srt, upz_eq, upz_ne, upz_up, upz_srt, px_al_aI, px_as_aI, px_as_aZ, px_as_aC, px_ln_aI, Option.toList, List.cons_append, List.nil_append, Int.reduceAdd, Int.reduceSub, Int.reduceMul, ↓reduceIte, Nat.reduceEqDiff, eq_self, Int.reduceEq, Int.reduceLT, Int.reduceLE, Int.reduceNe, Int.reduceNeg, Int.reduceToNat, ne_eq, not_true_eq_false, not_false_eq_true, t0, t1]
            have e : wdB (S (t + 1)) (S t) (po_code i) = false := by rw [he]; simp [hc]
            rw [e] at hQ
            exact hQ
      simp (disch := first | with_reducible assumption | omega | decide | (simp only [ps_low, List.map_cons, List.map_nil, Value.category, List.sum_cons, List.sum_nil]; decide) | with_unfolding_all rfl) only [el_X9_isWord_26, el_X9_isWord_27, px_ifp, px_ifn, zh_1, zc_1, zc_2, zc_3, zc_4, zc_5, zc_6, zc_7, zc_8, zc_9, zc_10, zc_11, zc_12, zc_20, zc_21, zc_22, zp_1, zp_2, zp_3, zp_4, zp_5, zp_6, zp_7, zp_8, zp_9, zp_10, zp_11, zp_12, zp_20, zp_21, zp_22, upS_eq, upS_ne, upS_up, upS_srt, upz_eq, upz_ne, upz_up, upz_srt, px_al_aI, px_as_aI, px_as_aZ, px_as_aC, px_ln_aI, Option.toList, List.cons_append, List.nil_append, Int.reduceAdd, Int.reduceSub, Int.reduceMul, ↓reduceIte, Nat.reduceEqDiff, eq_self, Int.reduceEq, Int.reduceLT, Int.reduceLE, Int.reduceNe, Int.reduceNeg, Int.reduceToNat, ne_eq, not_true_eq_false, not_false_eq_true, t0, t1]
      exact loop _ 0 (Nat.zero_add _) (by unfold wdB; simp [h1, h2])
    · rw [if_neg h2]
      simp (disch := first | with_reducible assumption | omega | decide | (simp only [ps_low, List.map_cons, List.map_nil, Value.category, List.sum_cons, List.sum_nil]; decide) | with_unfolding_all rfl) only [el_X9_isWord_24, el_X9_isWord_25, px_ifp, px_ifn, zh_1, zc_1, zc_2, zc_3, zc_4, zc_5, zc_6, zc_7, zc_8, zc_9, zc_10, zc_11, zc_12, zc_20, zc_21, zc_22, zp_1, zp_2, zp_3, zp_4, zp_5, zp_6, zp_7, zp_8, zp_9, zp_10, zp_11, zp_12, zp_20, zp_21, zp_22, upS_eq, upS_ne, upS_up, upS_srt, upz_eq, upz_ne, upz_up, upz_srt, px_al_aI, px_as_aI, px_as_aZ, px_as_aC, px_ln_aI, Option.toList, List.cons_append, List.nil_append, Int.reduceAdd, Int.reduceSub, Int.reduceMul, ↓reduceIte, Nat.reduceEqDiff, eq_self, Int.reduceEq, Int.reduceLT, Int.reduceLE, Int.reduceNe, Int.reduceNeg, Int.reduceToNat, ne_eq, not_true_eq_false, not_false_eq_true, t0, t1]
      have e : wdB (S (t + 1)) (S t) (po_code i) = false := by unfold wdB; simp [h2]
      rw [e] at hQ
      exact hQ
  · rw [if_pos h1]
    simp (disch := first | with_reducible assumption | omega | decide | (simp only [ps_low, List.map_cons, List.map_nil, Value.category, List.sum_cons, List.sum_nil]; decide) | with_unfolding_all rfl) only [el_X9_isWord_24, el_X9_isWord_25, px_ifp, px_ifn, zh_1, zc_1, zc_2, zc_3, zc_4, zc_5, zc_6, zc_7, zc_8, zc_9, zc_10, zc_11, zc_12, zc_20, zc_21, zc_22, zp_1, zp_2, zp_3, zp_4, zp_5, zp_6, zp_7, zp_8, zp_9, zp_10, zp_11, zp_12, zp_20, zp_21, zp_22, upS_eq, upS_ne, upS_up, upS_srt, upz_eq, upz_ne, upz_up, upz_srt, px_al_aI, px_as_aI, px_as_aZ, px_as_aC, px_ln_aI, Option.toList, List.cons_append, List.nil_append, Int.reduceAdd, Int.reduceSub, Int.reduceMul, ↓reduceIte, Nat.reduceEqDiff, eq_self, Int.reduceEq, Int.reduceLT, Int.reduceLE, Int.reduceNe, Int.reduceNeg, Int.reduceToNat, ne_eq, not_true_eq_false, not_false_eq_true, t0, t1]
    have e : wdB (S (t + 1)) (S t) (po_code i) = false := by unfold wdB; simp [h1]
    rw [e] at hQ
    exact hQ
theorem c_goesOn {T : Nat → Nat × Nat} {S : Nat → Nat → Int} {c : pm_M × pm_C} {t : Nat} (ht : ly9 T t) (hF : tpF (S t)) :
    px_R 0 88 [.ref t] (zh T S c) (.inl (some (.int (zI (if S t 1 = 0 ∧ S t 5 ≠ 0 then 1 else 0))))) (zh T S c) := by
  obtain ⟨t0, t1⟩ := id ht
  obtain ⟨⟨hn, h7, h6⟩, h5, h8, h1⟩ := hF
  refine px_ofQ fun Q hQ => ?_
  repeat' (first | simp (disch := first | with_reducible assumption | omega | decide | (simp only [ps_low, List.map_cons, List.map_nil, Value.category, List.sum_cons, List.sum_nil]; decide) | with_unfolding_all rfl) only [el_X9_goesOn_0, el_X9_goesOn_1, el_X9_goesOn_4, el_X9_goesOn_7, el_X9_goesOn_8, el_X9_goesOn_11, el_X9_goesOn_14, el_X9_goesOn_15, el_X9_goesOn_18, el_X9_goesOn_19, gf_9_1, gf_9_5, px_ifp, px_ifn, zh_1, zc_1, zc_2, zc_3, zc_4, zc_5, zc_6, zc_7, zc_8, zc_9, zc_10, zc_11, zc_12, zc_20, zc_21, zc_22, zp_1, zp_2, zp_3, zp_4, zp_5, zp_6, zp_7, zp_8, zp_9, zp_10, zp_11, zp_12, zp_20, zp_21, zp_22, upS_eq, upS_ne, upS_up, upS_srt, upz_eq, upz_ne, upz_up, upz_srt, px_al_aI, px_as_aI, px_as_aZ, px_as_aC, px_ln_aI, Option.toList, List.cons_append, List.nil_append, Int.reduceAdd, Int.reduceSub, Int.reduceMul, ↓reduceIte, Nat.reduceEqDiff, eq_self, Int.reduceEq, Int.reduceLT, Int.reduceLE, Int.reduceNe, Int.reduceNeg, Int.reduceToNat, ne_eq, not_true_eq_false, not_false_eq_true, t0, t1] | with_reducible refine px_ite (fun _ => ?_) (fun _ => ?_))
  all_goals first
    | (rw [if_pos (by omega)] at hQ; exact hQ)
    | (rw [if_neg (by omega)] at hQ; exact hQ)
    | omega
theorem c_isNumber {T : Nat → Nat × Nat} {S : Nat → Nat → Int} {c : pm_M × pm_C} {t : Nat} (ht : ly9 T t) (hF : tpF (S t)) :
    px_R 0 95 [.ref t] (zh T S c) (.inl (some (.int (zI (if S t 5 = 2 then 1 else 0))))) (zh T S c) := by
  obtain ⟨t0, t1⟩ := id ht
  obtain ⟨⟨hn, h7, h6⟩, h5, h8, h1⟩ := hF
  refine px_ofQ fun Q hQ => ?_
  repeat' (first | simp (disch := first | with_reducible assumption | omega | decide | (simp only [ps_low, List.map_cons, List.map_nil, Value.category, List.sum_cons, List.sum_nil]; decide) | with_unfolding_all rfl) only [el_X9_isNumber_0, el_X9_isNumber_1, el_X9_isNumber_4, el_X9_isNumber_5, el_X9_isNumber_8, el_X9_isNumber_9, el_X9_isNumber_12, el_X9_isNumber_13, gf_9_5, px_ifp, px_ifn, zh_1, zc_1, zc_2, zc_3, zc_4, zc_5, zc_6, zc_7, zc_8, zc_9, zc_10, zc_11, zc_12, zc_20, zc_21, zc_22, zp_1, zp_2, zp_3, zp_4, zp_5, zp_6, zp_7, zp_8, zp_9, zp_10, zp_11, zp_12, zp_20, zp_21, zp_22, upS_eq, upS_ne, upS_up, upS_srt, upz_eq, upz_ne, upz_up, upz_srt, px_al_aI, px_as_aI, px_as_aZ, px_as_aC, px_ln_aI, Option.toList, List.cons_append, List.nil_append, Int.reduceAdd, Int.reduceSub, Int.reduceMul, ↓reduceIte, Nat.reduceEqDiff, eq_self, Int.reduceEq, Int.reduceLT, Int.reduceLE, Int.reduceNe, Int.reduceNeg, Int.reduceToNat, ne_eq, not_true_eq_false, not_false_eq_true, t0, t1] | with_reducible refine px_ite (fun _ => ?_) (fun _ => ?_))
  all_goals first
    | (rw [if_pos (by omega)] at hQ; exact hQ)
    | (rw [if_neg (by omega)] at hQ; exact hQ)
    | omega
/-- a fault of the token here, if there was none -/
def rfF (k : Int) (F : Nat → Int) : Nat → Int := if F 1 = 0 then upz (upz F 1 k) 2 (F 6) else F
theorem c_refuse {T : Nat → Nat × Nat} {S : Nat → Nat → Int} {c : pm_M × pm_C} {t : Nat} {k : Int} (ht : ly9 T t) (hF : tpF (S t)) :
    px_R 0 89 [.ref t, .int (zI k)] (zh T S c) (.inl none) (zh T (upS S t (rfF k (S t))) c) := by
  obtain ⟨t0, t1⟩ := id ht
  obtain ⟨⟨hn, h7, h6⟩, h5, h8, h1⟩ := hF
  refine px_ofQ fun Q hQ => ?_
  unfold rfF at hQ
  by_cases h : S t 1 = 0
  · rw [if_pos h] at hQ
    simp (disch := first | with_reducible assumption | omega | decide | (simp only [ps_low, List.map_cons, List.map_nil, Value.category, List.sum_cons, List.sum_nil]; decide) | with_unfolding_all rfl) only [el_X9_refuse_0, el_X9_refuse_1, el_X9_refuse_4, el_X9_refuse_7, el_X9_refuse_8, el_X9_refuse_9, el_X9_refuse_12, el_X9_refuse_13, el_X9_refuse_14, el_X9_refuse_17, el_X9_refuse_20, gf_9_1, gf_9_6, pf_9_1, pf_9_2, px_ifp, px_ifn, zh_1, zc_1, zc_2, zc_3, zc_4, zc_5, zc_6, zc_7, zc_8, zc_9, zc_10, zc_11, zc_12, zc_20, zc_21, zc_22, zp_1, zp_2, zp_3, zp_4, zp_5, zp_6, zp_7, zp_8, zp_9, zp_10, zp_11, zp_12, zp_20, zp_21, zp_22, upS_eq, upS_ne, upS_up, upS_srt, upz_eq, upz_ne, upz_up, upz_srt, px_al_aI, px_as_aI, px_as_aZ, px_as_aC, px_ln_aI, Option.toList, List.cons_append, List.nil_append, Int.reduceAdd, Int.reduceSub, Int.reduceMul, ↓reduceIte, Nat.reduceEqDiff, eq_self, Int.reduceEq, Int.reduceLT, Int.reduceLE, Int.reduceNe, Int.reduceNeg, Int.reduceToNat, ne_eq, not_true_eq_false, not_false_eq_true, t0, t1, h]
    exact hQ
  · rw [if_neg h, upS_same rfl] at hQ
    simp (disch := first | with_reducible assumption | omega | decide | (simp only [ps_low, List.map_cons, List.map_nil, Value.category, List.sum_cons, List.sum_nil]; decide) | with_unfolding_all rfl) only [el_X9_refuse_0, el_X9_refuse_1, el_X9_refuse_4, el_X9_refuse_20, gf_9_1, px_ifp, px_ifn, zh_1, zc_1, zc_2, zc_3, zc_4, zc_5, zc_6, zc_7, zc_8, zc_9, zc_10, zc_11, zc_12, zc_20, zc_21, zc_22, zp_1, zp_2, zp_3, zp_4, zp_5, zp_6, zp_7, zp_8, zp_9, zp_10, zp_11, zp_12, zp_20, zp_21, zp_22, upS_eq, upS_ne, upS_up, upS_srt, upz_eq, upz_ne, upz_up, upz_srt, px_al_aI, px_as_aI, px_as_aZ, px_as_aC, px_ln_aI, Option.toList, List.cons_append, List.nil_append, Int.reduceAdd, Int.reduceSub, Int.reduceMul, ↓reduceIte, Nat.reduceEqDiff, eq_self, Int.reduceEq, Int.reduceLT, Int.reduceLE, Int.reduceNe, Int.reduceNeg, Int.reduceToNat, ne_eq, not_true_eq_false, not_false_eq_true, t0, t1]
    exact hQ
theorem tpF_rf {F : Nat → Int} {k : Int} (h : tpF F) (hk : 1 ≤ k ∧ k ≤ 4) : tpF (rfF k F) := by
  unfold rfF
  split
  · obtain ⟨⟨a, b, c⟩, d, e, f⟩ := h
    exact ⟨⟨a, b, c⟩, d, e, by change 0 ≤ k ∧ k ≤ 4; omega⟩
  · exact h
theorem trun_k {b : Nat → Int} {n kd : Int} : ∀ (k : Nat) (p j : Int), p ≤ j → j < trun b n kd k p → kB (b j.toNat) = kd
  | 0, p, j, h1, h2 => by
    unfold trun at h2
    omega
  | k + 1, p, j, h1, h2 => by
    unfold trun at h2
    split at h2
    · rename_i g
      by_cases hj : j = p
      · rw [hj]
        exact g.2
      · exact trun_k k (p + 1) j (by omega) h2
    · omega
theorem kB_2 {c : Int} : kB c = 2 ↔ 48 ≤ c ∧ c ≤ 57 := by
  unfold kB
  repeat' split
  all_goals omega
theorem tdc_r {b : Nat → Int} {e n : Int} : ∀ (k : Nat) (p v : Int), (∀ j, p ≤ j → j < e → 48 ≤ b j.toNat ∧ b j.toNat ≤ 57) → 0 ≤ v → v ≤ 10009 → 0 ≤ tdc b e n k p v ∧ tdc b e n k p v ≤ 10009
  | 0, p, v, hd, h1, h2 => ⟨h1, h2⟩
  | k + 1, p, v, hd, h1, h2 => by
    unfold tdc
    split
    · have := hd p (by omega) (by omega)
      exact tdc_r k (p + 1) _ (fun j a b => hd j (by omega) b) (by omega) (by omega)
    · exact ⟨h1, h2⟩
theorem aE_r {b F : Nat → Int} (h : tpA F) : (F 7 ≤ aS b F ∧ aS b F ≤ F 4) ∧ (aS b F ≤ aE b F ∧ aE b F ≤ F 4) ∧ (aS b F < F 4 → aS b F < aE b F) := by
  obtain ⟨⟨a0, b0⟩, d0, e0, f0⟩ := h
  have hs := tsk_r (b := b) (n := F 4) 500 (F 7) (by omega)
  have eS : aS b F = tsk b (F 4) 500 (F 7) := rfl
  rw [← eS] at hs
  refine ⟨hs, ?_, ?_⟩
  · unfold aE
    split
    · omega
    · split
      · have := trun_r (b := b) (n := F 4) (kd := aK b F) 500 (aS b F + 1) (by omega)
        omega
      · omega
  · intro hlt
    unfold aE
    rw [if_neg (by omega)]
    split
    · have := trun_r (b := b) (n := F 4) (kd := aK b F) 500 (aS b F + 1) (by omega)
      omega
    · omega
theorem aK_2 {b F : Nat → Int} (h2 : aK b F = 2) : ∀ j, aS b F ≤ j → j < aE b F → 48 ≤ b j.toNat ∧ b j.toNat ≤ 57 := by
  intro j h3 h4
  have hn : ¬ F 4 ≤ aS b F := by
    intro g
    unfold aK at h2
    rw [if_pos g] at h2
    exact absurd h2 (by decide)
  have hk : kB (b (aS b F).toNat) = 2 := by
    unfold aK at h2
    rw [if_neg hn] at h2
    exact h2
  unfold aE at h4
  rw [if_neg hn, if_pos (.inr h2), h2] at h4
  by_cases hj : j = aS b F
  · rw [hj]
    exact kB_2.mp hk
  · exact kB_2.mp (trun_k 500 (aS b F + 1) j (by omega) h4)
theorem tpF_adv {b F : Nat → Int} (h : tpA F) : tpF (adv b F) := by
  have hr := aE_r (b := b) h
  obtain ⟨⟨a0, b0⟩, d0, e0, f0⟩ := h
  have hK : 0 ≤ aK b F ∧ aK b F ≤ 5 := by
    unfold aK
    have := kB_r (b (aS b F).toNat)
    split <;> omega
  have hV : -100000 ≤ aV b F ∧ aV b F ≤ 100000 := by
    unfold aV
    split
    · rename_i g
      have := tdc_r (b := b) (e := aE b F) (n := F 4) 500 (aS b F) (if 3 < aE b F - aS b F then 1000 else 0) (aK_2 g) (by split <;> omega) (by split <;> omega)
      omega
    · exact e0
  exact ⟨⟨a0, by change 0 ≤ aE b F ∧ aE b F ≤ F 4; omega, by change 0 ≤ aS b F ∧ aS b F ≤ aE b F; omega⟩, hK, hV, f0⟩
def nhV (lo hi : Int) (F : Nat → Int) : Int := if F 5 = 2 ∧ lo ≤ F 8 ∧ F 8 ≤ hi then F 8 else lo
def nhF (lo hi : Int) (F : Nat → Int) : Nat → Int := if F 5 ≠ 2 then rfF 1 F else if lo ≤ F 8 ∧ F 8 ≤ hi then F else rfF 2 F
theorem c_numberHere {T : Nat → Nat × Nat} {S : Nat → Nat → Int} {c : pm_M × pm_C} {t : Nat} {lo hi : Int} (ht : ly9 T t) (hF : tpF (S t)) (hlo : -1000 ≤ lo ∧ lo ≤ 1000) (hhi : -1000 ≤ hi ∧ hi ≤ 1000) :
    px_R 1 96 [.ref t, .int (zI lo), .int (zI hi)] (zh T S c) (.inl (some (.int (zI (nhV lo hi (S t)))))) (zh T (upS S t (nhF lo hi (S t))) c) := by
  obtain ⟨t0, t1⟩ := id ht
  obtain ⟨⟨hn, h7, h6⟩, h5, h8, h1⟩ := id hF
  refine px_ofQ fun Q hQ => ?_
  unfold nhV nhF at hQ
  by_cases h2 : S t 5 = 2
  · by_cases h3 : lo ≤ S t 8 ∧ S t 8 ≤ hi
    · rw [if_pos ⟨h2, h3⟩, if_neg (fun g => g h2), if_pos h3, upS_same rfl] at hQ
      repeat' (first | simp (disch := first | with_reducible assumption | omega | decide | (simp only [ps_low, List.map_cons, List.map_nil, Value.category, List.sum_cons, List.sum_nil]; decide) | with_unfolding_all rfl) only [el_X9_numberHere_0, el_X9_numberHere_1, el_X9_numberHere_4, el_X9_numberHere_5, el_X9_numberHere_8, el_X9_numberHere_9, el_X9_numberHere_13, el_X9_numberHere_14, el_X9_numberHere_15, el_X9_numberHere_16, el_X9_numberHere_19, el_X9_numberHere_20, el_X9_numberHere_23, el_X9_numberHere_24, el_X9_numberHere_27, el_X9_numberHere_28, el_X9_numberHere_31, el_X9_numberHere_32, el_X9_numberHere_36, el_X9_numberHere_37, el_X9_numberHere_38, el_X9_numberHere_39, el_X9_numberHere_42, gf_9_5, gf_9_8, px_ifp, px_ifn, zh_1, zc_1, zc_2, zc_3, zc_4, zc_5, zc_6, zc_7, zc_8, zc_9, zc_10, zc_11, zc_12, zc_20, zc_21, zc_22, zp_1, zp_2, zp_3, zp_4, zp_5, zp_6, zp_7, zp_8, zp_9, zp_10, zp_11, zp_12, zp_20, zp_21, zp_22, upS_eq, upS_ne, upS_up, upS_srt, upz_eq, upz_ne, upz_up, upz_srt, px_al_aI, px_as_aI, px_as_aZ, px_as_aC, px_ln_aI, Option.toList, List.cons_append, List.nil_append, Int.reduceAdd, Int.reduceSub, Int.reduceMul, ↓reduceIte, Nat.reduceEqDiff, eq_self, Int.reduceEq, Int.reduceLT, Int.reduceLE, Int.reduceNe, Int.reduceNeg, Int.reduceToNat, ne_eq, not_true_eq_false, not_false_eq_true, t0, t1] | with_reducible refine px_ite (fun _ => ?_) (fun _ => ?_))
      all_goals first | omega | exact hQ
    · rw [if_neg (fun g => h3 g.2), if_neg (fun g => g h2), if_neg h3] at hQ
      repeat' (first | simp (disch := first | with_reducible assumption | omega | decide | (simp only [ps_low, List.map_cons, List.map_nil, Value.category, List.sum_cons, List.sum_nil]; decide) | with_unfolding_all rfl) only [el_X9_numberHere_0, el_X9_numberHere_1, el_X9_numberHere_4, el_X9_numberHere_5, el_X9_numberHere_8, el_X9_numberHere_9, el_X9_numberHere_13, el_X9_numberHere_14, el_X9_numberHere_15, el_X9_numberHere_16, el_X9_numberHere_19, el_X9_numberHere_20, el_X9_numberHere_23, el_X9_numberHere_24, el_X9_numberHere_27, el_X9_numberHere_28, el_X9_numberHere_31, el_X9_numberHere_32, el_X9_numberHere_36, el_X9_numberHere_37, el_X9_numberHere_38, el_X9_numberHere_39, el_X9_numberHere_42, gf_9_5, gf_9_8, px_ifp, px_ifn, zh_1, zc_1, zc_2, zc_3, zc_4, zc_5, zc_6, zc_7, zc_8, zc_9, zc_10, zc_11, zc_12, zc_20, zc_21, zc_22, zp_1, zp_2, zp_3, zp_4, zp_5, zp_6, zp_7, zp_8, zp_9, zp_10, zp_11, zp_12, zp_20, zp_21, zp_22, upS_eq, upS_ne, upS_up, upS_srt, upz_eq, upz_ne, upz_up, upz_srt, px_al_aI, px_as_aI, px_as_aZ, px_as_aC, px_ln_aI, Option.toList, List.cons_append, List.nil_append, Int.reduceAdd, Int.reduceSub, Int.reduceMul, ↓reduceIte, Nat.reduceEqDiff, eq_self, Int.reduceEq, Int.reduceLT, Int.reduceLE, Int.reduceNe, Int.reduceNeg, Int.reduceToNat, ne_eq, not_true_eq_false, not_false_eq_true, t0, t1, el_X9_numberHere_33 (c_refuse ..) _ (zo_10 _) _] | with_reducible refine px_ite (fun _ => ?_) (fun _ => ?_))
      all_goals first | omega | exact hQ
  · rw [if_neg (fun g => h2 g.1), if_pos h2] at hQ
    repeat' (first | simp (disch := first | with_reducible assumption | omega | decide | (simp only [ps_low, List.map_cons, List.map_nil, Value.category, List.sum_cons, List.sum_nil]; decide) | with_unfolding_all rfl) only [el_X9_numberHere_0, el_X9_numberHere_1, el_X9_numberHere_4, el_X9_numberHere_5, el_X9_numberHere_8, el_X9_numberHere_9, el_X9_numberHere_13, el_X9_numberHere_14, el_X9_numberHere_15, el_X9_numberHere_16, el_X9_numberHere_19, el_X9_numberHere_20, el_X9_numberHere_23, el_X9_numberHere_24, el_X9_numberHere_27, el_X9_numberHere_28, el_X9_numberHere_31, el_X9_numberHere_32, el_X9_numberHere_36, el_X9_numberHere_37, el_X9_numberHere_38, el_X9_numberHere_39, el_X9_numberHere_42, gf_9_5, gf_9_8, px_ifp, px_ifn, zh_1, zc_1, zc_2, zc_3, zc_4, zc_5, zc_6, zc_7, zc_8, zc_9, zc_10, zc_11, zc_12, zc_20, zc_21, zc_22, zp_1, zp_2, zp_3, zp_4, zp_5, zp_6, zp_7, zp_8, zp_9, zp_10, zp_11, zp_12, zp_20, zp_21, zp_22, upS_eq, upS_ne, upS_up, upS_srt, upz_eq, upz_ne, upz_up, upz_srt, px_al_aI, px_as_aI, px_as_aZ, px_as_aC, px_ln_aI, Option.toList, List.cons_append, List.nil_append, Int.reduceAdd, Int.reduceSub, Int.reduceMul, ↓reduceIte, Nat.reduceEqDiff, eq_self, Int.reduceEq, Int.reduceLT, Int.reduceLE, Int.reduceNe, Int.reduceNeg, Int.reduceToNat, ne_eq, not_true_eq_false, not_false_eq_true, t0, t1, el_X9_numberHere_10 (c_refuse ..) _ (zo_10 _) _] | with_reducible refine px_ite (fun _ => ?_) (fun _ => ?_))
    all_goals first | omega | exact hQ
theorem tpF_nh {F : Nat → Int} {lo hi : Int} (h : tpF F) : tpF (nhF lo hi F) := by
  unfold nhF
  split
  · exact tpF_rf h (by decide)
  · split
    · exact h
    · exact tpF_rf h (by decide)
theorem c_takeNumber {T : Nat → Nat × Nat} {S : Nat → Nat → Int} {c : pm_M × pm_C} {t : Nat} {lo hi : Int} (ht : ly9 T t) (hF : tpF (S t)) (hb : tpB (S (t + 1))) (hlo : -1000 ≤ lo ∧ lo ≤ 1000) (hhi : -1000 ≤ hi ∧ hi ≤ 1000) :
    px_R 2 97 [.ref t, .int (zI lo), .int (zI hi), .retAddr 0] (zh T S c) (.inl (some (.int (zI (nhV lo hi (S t)))))) (zh T (upS S t (adv (S (t + 1)) (nhF lo hi (S t)))) c) := by
  obtain ⟨t0, t1⟩ := id ht
  refine px_ofQ fun Q hQ => ?_
  have hA := c_advance (T := T) (S := upS S t (nhF lo hi (S t))) (c := c) ht (by rw [upS_eq]; exact (tpF_nh hF).A) (by rw [upS_ne (by omega)]; exact hb)
  rw [upS_eq, upS_ne (by omega), upS_up] at hA
  simp (disch := first | with_reducible assumption | omega | decide | (simp only [ps_low, List.map_cons, List.map_nil, Value.category, List.sum_cons, List.sum_nil]; decide) | with_unfolding_all rfl) only [el_X9_takeNumber_0, el_X9_takeNumber_1, el_X9_takeNumber_2, el_X9_takeNumber_6, el_X9_takeNumber_7, el_X9_takeNumber_11, el_X9_takeNumber_12, px_ifp, px_ifn, zh_1, zc_1, zc_2, zc_3, zc_4, zc_5, zc_6, zc_7, zc_8, zc_9, zc_10, zc_11, zc_12, zc_20, zc_21, zc_22, zp_1, zp_2, zp_3, zp_4, zp_5, zp_6, zp_7, zp_8, zp_9, zp_10, zp_11, zp_12, zp_20, zp_21, zp_22, upS_eq, upS_ne, upS_up, upS_srt, upz_eq, upz_ne, upz_up, upz_srt, px_al_aI, px_as_aI, px_as_aZ, px_as_aC, px_ln_aI, Option.toList, List.cons_append, List.nil_append, Int.reduceAdd, Int.reduceSub, Int.reduceMul, ↓reduceIte, Nat.reduceEqDiff, eq_self, Int.reduceEq, Int.reduceLT, Int.reduceLE, Int.reduceNe, Int.reduceNeg, Int.reduceToNat, ne_eq, not_true_eq_false, not_false_eq_true, t0, t1, el_X9_takeNumber_3 (c_numberHere ..) _ (zo_10 _) _, el_X9_takeNumber_8 (hA ..) _ (zo_10 _) _]
  exact hQ
theorem c_takeSemicolon {T : Nat → Nat × Nat} {S : Nat → Nat → Int} {c : pm_M × pm_C} {t : Nat} (ht : ly9 T t) (hF : tpF (S t)) (hb : tpB (S (t + 1))) :
    px_R 2 100 [.ref t] (zh T S c) (.inl none) (zh T (upS S t (adv (S (t + 1)) (if S t 5 = 3 then S t else rfF 1 (S t)))) c) := by
  obtain ⟨t0, t1⟩ := id ht
  obtain ⟨⟨hn, h7, h6⟩, h5, h8, h1⟩ := id hF
  refine px_ofQ fun Q hQ => ?_
  by_cases h3 : S t 5 = 3
  · rw [if_pos h3] at hQ
    have hFA := hF.A
    simp (disch := first | with_reducible assumption | omega | decide | (simp only [ps_low, List.map_cons, List.map_nil, Value.category, List.sum_cons, List.sum_nil]; decide) | with_unfolding_all rfl) only [el_X9_takeSemicolon_0, el_X9_takeSemicolon_1, el_X9_takeSemicolon_4, el_X9_takeSemicolon_5, el_X9_takeSemicolon_8, el_X9_takeSemicolon_9, el_X9_takeSemicolon_13, el_X9_takeSemicolon_17, gf_9_5, px_ifp, px_ifn, zh_1, zc_1, zc_2, zc_3, zc_4, zc_5, zc_6, zc_7, zc_8, zc_9, zc_10, zc_11, zc_12, zc_20, zc_21, zc_22, zp_1, zp_2, zp_3, zp_4, zp_5, zp_6, zp_7, zp_8, zp_9, zp_10, zp_11, zp_12, zp_20, zp_21, zp_22, upS_eq, upS_ne, upS_up, upS_srt, upz_eq, upz_ne, upz_up, upz_srt, px_al_aI, px_as_aI, px_as_aZ, px_as_aC, px_ln_aI, Option.toList, List.cons_append, List.nil_append, Int.reduceAdd, Int.reduceSub, Int.reduceMul, ↓reduceIte, Nat.reduceEqDiff, eq_self, Int.reduceEq, Int.reduceLT, Int.reduceLE, Int.reduceNe, Int.reduceNeg, Int.reduceToNat, ne_eq, not_true_eq_false, not_false_eq_true, t0, t1, h3, el_X9_takeSemicolon_14 (c_advance ..) _ (zo_10 _) _]
    exact hQ
  · rw [if_neg h3] at hQ
    have hA := c_advance (T := T) (S := upS S t (rfF 1 (S t))) (c := c) ht (by rw [upS_eq]; exact (tpF_rf hF (by decide)).A) (by rw [upS_ne (by omega)]; exact hb)
    rw [upS_eq, upS_ne (by omega), upS_up] at hA
    simp (disch := first | with_reducible assumption | omega | decide | (simp only [ps_low, List.map_cons, List.map_nil, Value.category, List.sum_cons, List.sum_nil]; decide) | with_unfolding_all rfl) only [el_X9_takeSemicolon_0, el_X9_takeSemicolon_1, el_X9_takeSemicolon_4, el_X9_takeSemicolon_5, el_X9_takeSemicolon_8, el_X9_takeSemicolon_9, el_X9_takeSemicolon_13, el_X9_takeSemicolon_17, gf_9_5, px_ifp, px_ifn, zh_1, zc_1, zc_2, zc_3, zc_4, zc_5, zc_6, zc_7, zc_8, zc_9, zc_10, zc_11, zc_12, zc_20, zc_21, zc_22, zp_1, zp_2, zp_3, zp_4, zp_5, zp_6, zp_7, zp_8, zp_9, zp_10, zp_11, zp_12, zp_20, zp_21, zp_22, upS_eq, upS_ne, upS_up, upS_srt, upz_eq, upz_ne, upz_up, upz_srt, px_al_aI, px_as_aI, px_as_aZ, px_as_aC, px_ln_aI, Option.toList, List.cons_append, List.nil_append, Int.reduceAdd, Int.reduceSub, Int.reduceMul, ↓reduceIte, Nat.reduceEqDiff, eq_self, Int.reduceEq, Int.reduceLT, Int.reduceLE, Int.reduceNe, Int.reduceNeg, Int.reduceToNat, ne_eq, not_true_eq_false, not_false_eq_true, t0, t1, h3, el_X9_takeSemicolon_10 (c_refuse ..) _ (zo_10 _) _, el_X9_takeSemicolon_14 (hA ..) _ (zo_10 _) _]
    exact hQ
def tgF (b : Nat → Int) (hi : Int) (F : Nat → Int) : Nat → Int := adv b (nhF 0 hi (if F 5 = 4 then adv b F else F))
def tgV (b : Nat → Int) (hi : Int) (F : Nat → Int) : Int := if F 5 = 4 then -nhV 0 hi (adv b F) else nhV 0 hi F
theorem c_takeSigned {T : Nat → Nat × Nat} {S : Nat → Nat → Int} {c : pm_M × pm_C} {t : Nat} {hi : Int} (ht : ly9 T t) (hF : tpF (S t)) (hb : tpB (S (t + 1))) (hhi : -1000 ≤ hi ∧ hi ≤ 1000) :
    px_R 2 98 [.ref t, .int (zI hi), .retAddr 0, .retAddr 0] (zh T S c) (.inl (some (.int (zI (tgV (S (t + 1)) hi (S t)))))) (zh T (upS S t (tgF (S (t + 1)) hi (S t))) c) := by
  obtain ⟨t0, t1⟩ := id ht
  obtain ⟨⟨hn, h7, h6⟩, h5, h8, h1⟩ := id hF
  refine px_ofQ fun Q hQ => ?_
  unfold tgF tgV at hQ
  by_cases h4 : S t 5 = 4
  · rw [if_pos h4, if_pos h4] at hQ
    have hFA := hF.A
    have hA := c_numberHere (T := T) (S := upS S t (adv (S (t + 1)) (S t))) (c := c) (lo := 0) (hi := hi) ht (by rw [upS_eq]; exact tpF_adv hF.A) (by decide) hhi
    rw [upS_eq, upS_up] at hA
    have hB := c_advance (T := T) (S := upS S t (nhF 0 hi (adv (S (t + 1)) (S t)))) (c := c) ht (by rw [upS_eq]; exact (tpF_nh (tpF_adv hF.A)).A) (by rw [upS_ne (by omega)]; exact hb)
    rw [upS_eq, upS_ne (by omega), upS_up] at hB
    simp (disch := first | with_reducible assumption | omega | decide | (simp only [ps_low, List.map_cons, List.map_nil, Value.category, List.sum_cons, List.sum_nil]; decide) | with_unfolding_all rfl) only [el_X9_takeSigned_0, el_X9_takeSigned_1, el_X9_takeSigned_4, el_X9_takeSigned_5, el_X9_takeSigned_8, el_X9_takeSigned_9, el_X9_takeSigned_12, el_X9_takeSigned_13, el_X9_takeSigned_14, el_X9_takeSigned_15, el_X9_takeSigned_18, el_X9_takeSigned_22, el_X9_takeSigned_23, el_X9_takeSigned_24, el_X9_takeSigned_28, el_X9_takeSigned_29, el_X9_takeSigned_33, el_X9_takeSigned_34, el_X9_takeSigned_37, el_X9_takeSigned_38, el_X9_takeSigned_39, el_X9_takeSigned_42, el_X9_takeSigned_43, gf_9_5, px_ifp, px_ifn, zh_1, zc_1, zc_2, zc_3, zc_4, zc_5, zc_6, zc_7, zc_8, zc_9, zc_10, zc_11, zc_12, zc_20, zc_21, zc_22, zp_1, zp_2, zp_3, zp_4, zp_5, zp_6, zp_7, zp_8, zp_9, zp_10, zp_11, zp_12, zp_20, zp_21, zp_22, upS_eq, upS_ne, upS_up, upS_srt, upz_eq, upz_ne, upz_up, upz_srt, px_al_aI, px_as_aI, px_as_aZ, px_as_aC, px_ln_aI, Option.toList, List.cons_append, List.nil_append, Int.reduceAdd, Int.reduceSub, Int.reduceMul, ↓reduceIte, Nat.reduceEqDiff, eq_self, Int.reduceEq, Int.reduceLT, Int.reduceLE, Int.reduceNe, Int.reduceNeg, Int.reduceToNat, ne_eq, not_true_eq_false, not_false_eq_true, t0, t1, h4, el_X9_takeSigned_19 (c_advance ..) _ (zo_10 _) _, el_X9_takeSigned_25 (hA ..) _ (zo_10 _) _, el_X9_takeSigned_30 (hB ..) _ (zo_10 _) _]
    exact hQ
  · rw [if_neg h4, if_neg h4] at hQ
    have hB := c_advance (T := T) (S := upS S t (nhF 0 hi (S t))) (c := c) ht (by rw [upS_eq]; exact (tpF_nh hF).A) (by rw [upS_ne (by omega)]; exact hb)
    rw [upS_eq, upS_ne (by omega), upS_up] at hB
    simp (disch := first | with_reducible assumption | omega | decide | (simp only [ps_low, List.map_cons, List.map_nil, Value.category, List.sum_cons, List.sum_nil]; decide) | with_unfolding_all rfl) only [el_X9_takeSigned_0, el_X9_takeSigned_1, el_X9_takeSigned_4, el_X9_takeSigned_5, el_X9_takeSigned_8, el_X9_takeSigned_9, el_X9_takeSigned_12, el_X9_takeSigned_13, el_X9_takeSigned_14, el_X9_takeSigned_15, el_X9_takeSigned_18, el_X9_takeSigned_22, el_X9_takeSigned_23, el_X9_takeSigned_24, el_X9_takeSigned_28, el_X9_takeSigned_29, el_X9_takeSigned_33, el_X9_takeSigned_34, el_X9_takeSigned_37, el_X9_takeSigned_38, el_X9_takeSigned_39, el_X9_takeSigned_42, el_X9_takeSigned_43, gf_9_5, px_ifp, px_ifn, zh_1, zc_1, zc_2, zc_3, zc_4, zc_5, zc_6, zc_7, zc_8, zc_9, zc_10, zc_11, zc_12, zc_20, zc_21, zc_22, zp_1, zp_2, zp_3, zp_4, zp_5, zp_6, zp_7, zp_8, zp_9, zp_10, zp_11, zp_12, zp_20, zp_21, zp_22, upS_eq, upS_ne, upS_up, upS_srt, upz_eq, upz_ne, upz_up, upz_srt, px_al_aI, px_as_aI, px_as_aZ, px_as_aC, px_ln_aI, Option.toList, List.cons_append, List.nil_append, Int.reduceAdd, Int.reduceSub, Int.reduceMul, ↓reduceIte, Nat.reduceEqDiff, eq_self, Int.reduceEq, Int.reduceLT, Int.reduceLE, Int.reduceNe, Int.reduceNeg, Int.reduceToNat, ne_eq, not_true_eq_false, not_false_eq_true, t0, t1, h4, el_X9_takeSigned_25 (c_numberHere ..) _ (zo_10 _) _, el_X9_takeSigned_30 (hB ..) _ (zo_10 _) _]
    exact hQ
/-- the side that is told here -/
def sdV (b F : Nat → Int) : Int := if wdB b F (po_code 0) = true then 0 else if wdB b F (po_code 1) = true then 1 else if wdB b F (po_code 2) = true then 2 else if wdB b F (po_code 3) = true then 3 else -1
def tsF (b F : Nat → Int) : Nat → Int := if sdV b F = -1 then rfF 1 F else adv b F
def tsV (b F : Nat → Int) : Int := if sdV b F = -1 then 0 else sdV b F
theorem c_takeSide {T : Nat → Nat × Nat} {S : Nat → Nat → Int} {c : pm_M × pm_C} {t : Nat} (ht : ly9 T t) (hF : tpF (S t)) (hb : tpB (S (t + 1))) (hC : tcx c.2) :
    px_R 5 99 [.ref t, .retAddr 0] (zh T S c) (.inl (some (.int (zI (tsV (S (t + 1)) (S t)))))) (zh T (upS S t (tsF (S (t + 1)) (S t))) c) := by
  obtain ⟨t0, t1⟩ := id ht
  refine px_ofQ fun Q hQ => ?_
  have w0 := c_isWord (i := 0) ht hF hb hC (by decide)
  have w1 := c_isWord (i := 1) ht hF hb hC (by decide)
  have w2 := c_isWord (i := 2) ht hF hb hC (by decide)
  have w3 := c_isWord (i := 3) ht hF hb hC (by decide)
  unfold tsF tsV at hQ
  have fin : ∀ l1 : Value, px_Ev 5 99 53 [.ref t, l1] [.int (zI (sdV (S (t + 1)) (S t)))] (zh T S c) Q := by
    intro l1
    have hr : -1 ≤ sdV (S (t + 1)) (S t) ∧ sdV (S (t + 1)) (S t) ≤ 3 := by
      unfold sdV
      repeat' split
      all_goals omega
    generalize sdV (S (t + 1)) (S t) = z at *
    by_cases hz : z = -1
    · rw [if_pos hz, if_pos hz] at hQ
      simp (disch := first | with_reducible assumption | omega | decide | (simp only [ps_low, List.map_cons, List.map_nil, Value.category, List.sum_cons, List.sum_nil]; decide) | with_unfolding_all rfl) only [el_X9_takeSide_53, el_X9_takeSide_54, el_X9_takeSide_55, el_X9_takeSide_56, el_X9_takeSide_59, el_X9_takeSide_60, el_X9_takeSide_64, el_X9_takeSide_65, el_X9_takeSide_66, el_X9_takeSide_70, el_X9_takeSide_71, px_ifp, px_ifn, zh_1, zc_1, zc_2, zc_3, zc_4, zc_5, zc_6, zc_7, zc_8, zc_9, zc_10, zc_11, zc_12, zc_20, zc_21, zc_22, zp_1, zp_2, zp_3, zp_4, zp_5, zp_6, zp_7, zp_8, zp_9, zp_10, zp_11, zp_12, zp_20, zp_21, zp_22, upS_eq, upS_ne, upS_up, upS_srt, upz_eq, upz_ne, upz_up, upz_srt, px_al_aI, px_as_aI, px_as_aZ, px_as_aC, px_ln_aI, Option.toList, List.cons_append, List.nil_append, Int.reduceAdd, Int.reduceSub, Int.reduceMul, ↓reduceIte, Nat.reduceEqDiff, eq_self, Int.reduceEq, Int.reduceLT, Int.reduceLE, Int.reduceNe, Int.reduceNeg, Int.reduceToNat, ne_eq, not_true_eq_false, not_false_eq_true, t0, t1, hz, el_X9_takeSide_61 (c_refuse ..) _ (zo_10 _) _]
      exact hQ
    · rw [if_neg hz, if_neg hz] at hQ
      have hFA := hF.A
      simp (disch := first | with_reducible assumption | omega | decide | (simp only [ps_low, List.map_cons, List.map_nil, Value.category, List.sum_cons, List.sum_nil]; decide) | with_unfolding_all rfl) only [el_X9_takeSide_53, el_X9_takeSide_54, el_X9_takeSide_55, el_X9_takeSide_56, el_X9_takeSide_59, el_X9_takeSide_60, el_X9_takeSide_64, el_X9_takeSide_65, el_X9_takeSide_66, el_X9_takeSide_70, el_X9_takeSide_71, px_ifp, px_ifn, zh_1, zc_1, zc_2, zc_3, zc_4, zc_5, zc_6, zc_7, zc_8, zc_9, zc_10, zc_11, zc_12, zc_20, zc_21, zc_22, zp_1, zp_2, zp_3, zp_4, zp_5, zp_6, zp_7, zp_8, zp_9, zp_10, zp_11, zp_12, zp_20, zp_21, zp_22, upS_eq, upS_ne, upS_up, upS_srt, upz_eq, upz_ne, upz_up, upz_srt, px_al_aI, px_as_aI, px_as_aZ, px_as_aC, px_ln_aI, Option.toList, List.cons_append, List.nil_append, Int.reduceAdd, Int.reduceSub, Int.reduceMul, ↓reduceIte, Nat.reduceEqDiff, eq_self, Int.reduceEq, Int.reduceLT, Int.reduceLE, Int.reduceNe, Int.reduceNeg, Int.reduceToNat, ne_eq, not_true_eq_false, not_false_eq_true, t0, t1, hz, el_X9_takeSide_67 (c_advance ..) _ (zo_10 _) _]
      exact hQ
  unfold sdV at fin
  by_cases b0 : wdB (S (t + 1)) (S t) (po_code 0) = true
  · rw [if_pos b0] at fin
    simp (disch := first | with_reducible assumption | omega | decide | (simp only [ps_low, List.map_cons, List.map_nil, Value.category, List.sum_cons, List.sum_nil]; decide) | with_unfolding_all rfl) only [el_X9_takeSide_0, el_X9_takeSide_1, el_X9_takeSide_6, el_X9_takeSide_9, el_X9_takeSide_10, el_X9_takeSide_13, el_X9_takeSide_14, el_X9_takeSide_19, el_X9_takeSide_22, el_X9_takeSide_23, el_X9_takeSide_26, el_X9_takeSide_27, el_X9_takeSide_32, el_X9_takeSide_35, el_X9_takeSide_36, el_X9_takeSide_39, el_X9_takeSide_40, el_X9_takeSide_45, el_X9_takeSide_48, el_X9_takeSide_49, el_X9_takeSide_52, px_ifp, px_ifn, zh_1, zc_1, zc_2, zc_3, zc_4, zc_5, zc_6, zc_7, zc_8, zc_9, zc_10, zc_11, zc_12, zc_20, zc_21, zc_22, zp_1, zp_2, zp_3, zp_4, zp_5, zp_6, zp_7, zp_8, zp_9, zp_10, zp_11, zp_12, zp_20, zp_21, zp_22, upS_eq, upS_ne, upS_up, upS_srt, upz_eq, upz_ne, upz_up, upz_srt, px_al_aI, px_as_aI, px_as_aZ, px_as_aC, px_ln_aI, Option.toList, List.cons_append, List.nil_append, Int.reduceAdd, Int.reduceSub, Int.reduceMul, ↓reduceIte, Nat.reduceEqDiff, eq_self, Int.reduceEq, Int.reduceLT, Int.reduceLE, Int.reduceNe, Int.reduceNeg, Int.reduceToNat, ne_eq, not_true_eq_false, not_false_eq_true, t0, t1, zh_cst, el_X9_takeSide_3 (w0 ..) _ (zo_10 _) _, b0]
    exact fin _
  rw [if_neg b0] at fin
  by_cases b1 : wdB (S (t + 1)) (S t) (po_code 1) = true
  · rw [if_pos b1] at fin
    simp (disch := first | with_reducible assumption | omega | decide | (simp only [ps_low, List.map_cons, List.map_nil, Value.category, List.sum_cons, List.sum_nil]; decide) | with_unfolding_all rfl) only [el_X9_takeSide_0, el_X9_takeSide_1, el_X9_takeSide_6, el_X9_takeSide_9, el_X9_takeSide_10, el_X9_takeSide_13, el_X9_takeSide_14, el_X9_takeSide_19, el_X9_takeSide_22, el_X9_takeSide_23, el_X9_takeSide_26, el_X9_takeSide_27, el_X9_takeSide_32, el_X9_takeSide_35, el_X9_takeSide_36, el_X9_takeSide_39, el_X9_takeSide_40, el_X9_takeSide_45, el_X9_takeSide_48, el_X9_takeSide_49, el_X9_takeSide_52, px_ifp, px_ifn, zh_1, zc_1, zc_2, zc_3, zc_4, zc_5, zc_6, zc_7, zc_8, zc_9, zc_10, zc_11, zc_12, zc_20, zc_21, zc_22, zp_1, zp_2, zp_3, zp_4, zp_5, zp_6, zp_7, zp_8, zp_9, zp_10, zp_11, zp_12, zp_20, zp_21, zp_22, upS_eq, upS_ne, upS_up, upS_srt, upz_eq, upz_ne, upz_up, upz_srt, px_al_aI, px_as_aI, px_as_aZ, px_as_aC, px_ln_aI, Option.toList, List.cons_append, List.nil_append, Int.reduceAdd, Int.reduceSub, Int.reduceMul, ↓reduceIte, Nat.reduceEqDiff, eq_self, Int.reduceEq, Int.reduceLT, Int.reduceLE, Int.reduceNe, Int.reduceNeg, Int.reduceToNat, ne_eq, not_true_eq_false, not_false_eq_true, t0, t1, zh_cst, el_X9_takeSide_3 (w0 ..) _ (zo_10 _) _, b0, el_X9_takeSide_16 (w1 ..) _ (zo_10 _) _, b1]
    exact fin _
  rw [if_neg b1] at fin
  by_cases b2 : wdB (S (t + 1)) (S t) (po_code 2) = true
  · rw [if_pos b2] at fin
    simp (disch := first | with_reducible assumption | omega | decide | (simp only [ps_low, List.map_cons, List.map_nil, Value.category, List.sum_cons, List.sum_nil]; decide) | with_unfolding_all rfl) only [el_X9_takeSide_0, el_X9_takeSide_1, el_X9_takeSide_6, el_X9_takeSide_9, el_X9_takeSide_10, el_X9_takeSide_13, el_X9_takeSide_14, el_X9_takeSide_19, el_X9_takeSide_22, el_X9_takeSide_23, el_X9_takeSide_26, el_X9_takeSide_27, el_X9_takeSide_32, el_X9_takeSide_35, el_X9_takeSide_36, el_X9_takeSide_39, el_X9_takeSide_40, el_X9_takeSide_45, el_X9_takeSide_48, el_X9_takeSide_49, el_X9_takeSide_52, px_ifp, px_ifn, zh_1, zc_1, zc_2, zc_3, zc_4, zc_5, zc_6, zc_7, zc_8, zc_9, zc_10, zc_11, zc_12, zc_20, zc_21, zc_22, zp_1, zp_2, zp_3, zp_4, zp_5, zp_6, zp_7, zp_8, zp_9, zp_10, zp_11, zp_12, zp_20, zp_21, zp_22, upS_eq, upS_ne, upS_up, upS_srt, upz_eq, upz_ne, upz_up, upz_srt, px_al_aI, px_as_aI, px_as_aZ, px_as_aC, px_ln_aI, Option.toList, List.cons_append, List.nil_append, Int.reduceAdd, Int.reduceSub, Int.reduceMul, ↓reduceIte, Nat.reduceEqDiff, eq_self, Int.reduceEq, Int.reduceLT, Int.reduceLE, Int.reduceNe, Int.reduceNeg, Int.reduceToNat, ne_eq, not_true_eq_false, not_false_eq_true, t0, t1, zh_cst, el_X9_takeSide_3 (w0 ..) _ (zo_10 _) _, b0, el_X9_takeSide_16 (w1 ..) _ (zo_10 _) _, b1, el_X9_takeSide_29 (w2 ..) _ (zo_10 _) _, b2]
    exact fin _
  rw [if_neg b2] at fin
  by_cases b3 : wdB (S (t + 1)) (S t) (po_code 3) = true
  · rw [if_pos b3] at fin
    simp (disch := first | with_reducible assumption | omega | decide | (simp only [ps_low, List.map_cons, List.map_nil, Value.category, List.sum_cons, List.sum_nil]; decide) | with_unfolding_all rfl) only [el_X9_takeSide_0, el_X9_takeSide_1, el_X9_takeSide_6, el_X9_takeSide_9, el_X9_takeSide_10, el_X9_takeSide_13, el_X9_takeSide_14, el_X9_takeSide_19, el_X9_takeSide_22, el_X9_takeSide_23, el_X9_takeSide_26, el_X9_takeSide_27, el_X9_takeSide_32, el_X9_takeSide_35, el_X9_takeSide_36, el_X9_takeSide_39, el_X9_takeSide_40, el_X9_takeSide_45, el_X9_takeSide_48, el_X9_takeSide_49, el_X9_takeSide_52, px_ifp, px_ifn, zh_1, zc_1, zc_2, zc_3, zc_4, zc_5, zc_6, zc_7, zc_8, zc_9, zc_10, zc_11, zc_12, zc_20, zc_21, zc_22, zp_1, zp_2, zp_3, zp_4, zp_5, zp_6, zp_7, zp_8, zp_9, zp_10, zp_11, zp_12, zp_20, zp_21, zp_22, upS_eq, upS_ne, upS_up, upS_srt, upz_eq, upz_ne, upz_up, upz_srt, px_al_aI, px_as_aI, px_as_aZ, px_as_aC, px_ln_aI, Option.toList, List.cons_append, List.nil_append, Int.reduceAdd, Int.reduceSub, Int.reduceMul, ↓reduceIte, Nat.reduceEqDiff, eq_self, Int.reduceEq, Int.reduceLT, Int.reduceLE, Int.reduceNe, Int.reduceNeg, Int.reduceToNat, ne_eq, not_true_eq_false, not_false_eq_true, t0, t1, zh_cst, el_X9_takeSide_3 (w0 ..) _ (zo_10 _) _, b0, el_X9_takeSide_16 (w1 ..) _ (zo_10 _) _, b1, el_X9_takeSide_29 (w2 ..) _ (zo_10 _) _, b2, el_X9_takeSide_42 (w3 ..) _ (zo_10 _) _, b3]
    exact fin _
  · rw [if_neg b3] at fin
    simp (disch := first | with_reducible assumption | omega | decide | (simp only [ps_low, List.map_cons, List.map_nil, Value.category, List.sum_cons, List.sum_nil]; decide) | with_unfolding_all rfl) only [el_X9_takeSide_0, el_X9_takeSide_1, el_X9_takeSide_6, el_X9_takeSide_9, el_X9_takeSide_10, el_X9_takeSide_13, el_X9_takeSide_14, el_X9_takeSide_19, el_X9_takeSide_22, el_X9_takeSide_23, el_X9_takeSide_26, el_X9_takeSide_27, el_X9_takeSide_32, el_X9_takeSide_35, el_X9_takeSide_36, el_X9_takeSide_39, el_X9_takeSide_40, el_X9_takeSide_45, el_X9_takeSide_48, el_X9_takeSide_49, el_X9_takeSide_52, px_ifp, px_ifn, zh_1, zc_1, zc_2, zc_3, zc_4, zc_5, zc_6, zc_7, zc_8, zc_9, zc_10, zc_11, zc_12, zc_20, zc_21, zc_22, zp_1, zp_2, zp_3, zp_4, zp_5, zp_6, zp_7, zp_8, zp_9, zp_10, zp_11, zp_12, zp_20, zp_21, zp_22, upS_eq, upS_ne, upS_up, upS_srt, upz_eq, upz_ne, upz_up, upz_srt, px_al_aI, px_as_aI, px_as_aZ, px_as_aC, px_ln_aI, Option.toList, List.cons_append, List.nil_append, Int.reduceAdd, Int.reduceSub, Int.reduceMul, ↓reduceIte, Nat.reduceEqDiff, eq_self, Int.reduceEq, Int.reduceLT, Int.reduceLE, Int.reduceNe, Int.reduceNeg, Int.reduceToNat, ne_eq, not_true_eq_false, not_false_eq_true, t0, t1, zh_cst, el_X9_takeSide_3 (w0 ..) _ (zo_10 _) _, b0, el_X9_takeSide_16 (w1 ..) _ (zo_10 _) _, b1, el_X9_takeSide_29 (w2 ..) _ (zo_10 _) _, b2, el_X9_takeSide_42 (w3 ..) _ (zo_10 _) _, b3]
    exact fin _
theorem c_put {T : Nat → Nat × Nat} {S : Nat → Nat → Int} {c : pm_M × pm_C} {t : Nat} {x : Int32} (ht : ly9 T t) (h0 : 0 ≤ S t 0 ∧ S t 0 ≤ 496) :
    px_R 0 86 [.ref t, .int x, .retAddr 0] (zh T S c) (.inl none) (zh T (upS (upS S t (upz (S t) 0 (S t 0 + 4))) (t + 1) (upz (upz (upz (upz (S (t + 1)) (S t 0).toNat (bt x 24)) (S t 0 + 1).toNat (bt x 16)) (S t 0 + 2).toNat (bt x 8)) (S t 0 + 3).toNat (bt x 0))) c) := by
  obtain ⟨t0, t1⟩ := id ht
  refine px_ofQ fun Q hQ => ?_
  have r24 := bt_r x 24
  have r16 := bt_r x 16
  have r8 := bt_r x 8
  have r0 := bt_r x 0
  have u24 := bt_u (x := x) (k := 24) (by decide)
  have u16 := bt_u (x := x) (k := 16) (by decide)
  have u8 := bt_u (x := x) (k := 8) (by decide)
  have u0 := bt_u (x := x) (k := 0) (by decide)
  simp only [show ((24 : Nat) : Int) = 24 from rfl, show ((16 : Nat) : Int) = 16 from rfl, show ((8 : Nat) : Int) = 8 from rfl, show ((0 : Nat) : Int) = 0 from rfl] at u24 u16 u8 u0
  have n1 : ¬ 500 ≤ S t 0 := by omega
  have n2 : ¬ 500 ≤ S t 0 + 1 := by omega
  have n3 : ¬ 500 ≤ S t 0 + 1 + 1 := by omega
  have n4 : ¬ 500 ≤ S t 0 + 1 + 1 + 1 := by omega
  simp (disch := first | with_reducible assumption | omega | decide | (simp only [ps_low, List.map_cons, List.map_nil, Value.category, List.sum_cons, List.sum_nil]; decide) | with_unfolding_all rfl) only [el_X9_put_0, el_X9_put_2, el_X9_put_3, el_X9_put_4, el_X9_put_7, el_X9_put_8, el_X9_put_11, el_X9_put_14, el_X9_put_17, el_X9_put_18, el_X9_put_21, el_X9_put_22, el_X9_put_25, el_X9_put_26, el_X9_put_27, el_X9_put_28, el_X9_put_31, el_X9_put_32, el_X9_put_33, el_X9_put_34, el_X9_put_35, el_X9_put_35i, el_X9_put_36, el_X9_put_39, el_X9_put_40, el_X9_put_41, el_X9_put_44, el_X9_put_47, el_X9_put_50, gf_9_0, gf_9_3, pf_9_0, px_ifp, px_ifn, zh_1, zc_1, zc_2, zc_3, zc_4, zc_5, zc_6, zc_7, zc_8, zc_9, zc_10, zc_11, zc_12, zc_20, zc_21, zc_22, zp_1, zp_2, zp_3, zp_4, zp_5, zp_6, zp_7, zp_8, zp_9, zp_10, zp_11, zp_12, zp_20, zp_21, zp_22, upS_eq, upS_ne, upS_up, upS_srt, upz_eq, upz_ne, upz_up, upz_srt, px_al_aI, px_as_aI, px_as_aZ, px_as_aC, px_ln_aI, Option.toList, List.cons_append, List.nil_append, Int.reduceAdd, Int.reduceSub, Int.reduceMul, ↓reduceIte, Nat.reduceEqDiff, eq_self, Int.reduceEq, Int.reduceLT, Int.reduceLE, Int.reduceNe, Int.reduceNeg, Int.reduceToNat, ne_eq, not_true_eq_false, not_false_eq_true, t0, t1, u24, u16, u8, u0, n1, n2, n3, n4]
  have e1 : S t 0 + 1 + 1 + 1 + 1 = S t 0 + 4 := by omega
  have e2 : S t 0 + 1 + 1 + 1 = S t 0 + 3 := by omega
  have e3 : S t 0 + 1 + 1 = S t 0 + 2 := by omega
  rw [e1, e2, e3]
  exact hQ
theorem adv_6 {b F : Nat → Int} {x : Int} : adv b (upz F 6 x) = adv b F := by
  have e : ∀ j, j ≠ 6 → upz F 6 x j = F j := fun j hj => if_neg hj
  have eS : aS b (upz F 6 x) = aS b F := by
    unfold aS
    rw [e 4 (by decide), e 7 (by decide)]
  have eK : aK b (upz F 6 x) = aK b F := by
    unfold aK
    rw [eS, e 4 (by decide)]
  have eE : aE b (upz F 6 x) = aE b F := by
    unfold aE
    rw [eS, eK, e 4 (by decide)]
  have eV : aV b (upz F 6 x) = aV b F := by
    unfold aV
    rw [eS, eK, eE, e 4 (by decide), e 8 (by decide)]
  funext j
  unfold adv
  rw [eS, eK, eE, eV]
  by_cases h6 : j = 6
  · subst h6
    rfl
  · rw [e j h6]
def opF (F : Nat → Int) (n : Int) : Nat → Int := upz (upz (upz (upz F 1 0) 2 (-1)) 4 n) 7 0
theorem c_open {T : Nat → Nat × Nat} {S : Nat → Nat → Int} {c : pm_M × pm_C} {t : Nat} {n : Int} (ht : ly9 T t) (hF : tpF (S t)) (hb : tpB (S (t + 1))) (hn : 0 ≤ n ∧ n ≤ S t 0 ∧ S t 0 ≤ 500) :
    px_R 2 87 [.ref t, .int (zI n)] (zh T S c) (.inl none) (zh T (upS S t (adv (S (t + 1)) (opF (S t) n))) c) := by
  obtain ⟨t0, t1⟩ := id ht
  obtain ⟨⟨a0, b0, c0⟩, d0, e0, f0⟩ := id hF
  refine px_ofQ fun Q hQ => ?_
  have hm1 : (if S t 0 < n then S t 0 else n) = n := if_neg (by omega)
  have hm2 : (if 0 < n then n else 0) = n := by split <;> omega
  have hA := c_advance (T := T) (S := upS S t (opF (S t) n)) (c := c) ht (by
    rw [upS_eq]
    refine ⟨⟨?_, ?_⟩, d0, e0, ?_⟩
    · change 0 ≤ n ∧ n ≤ 500
      omega
    · change 0 ≤ 0 ∧ 0 ≤ n
      omega
    · change (0 : Int) ≤ 0 ∧ (0 : Int) ≤ 4
      decide) (by rw [upS_ne (by omega)]; exact hb)
  rw [upS_eq, upS_ne (by omega), upS_up] at hA
  unfold opF at hA hQ
  simp (disch := first | with_reducible assumption | omega | decide | (simp only [ps_low, List.map_cons, List.map_nil, Value.category, List.sum_cons, List.sum_nil]; decide) | with_unfolding_all rfl) only [el_X9_open_0, el_X9_open_1, el_X9_open_2, el_X9_open_3, el_X9_open_4, el_X9_open_7, el_X9_open_10, el_X9_open_13, el_X9_open_16, el_X9_open_17, el_X9_open_18, el_X9_open_21, el_X9_open_22, el_X9_open_23, el_X9_open_26, el_X9_open_27, el_X9_open_28, el_X9_open_31, el_X9_open_35, gf_9_0, pf_9_1, pf_9_2, pf_9_4, pf_9_7, px_ifp, px_ifn, zh_1, zc_1, zc_2, zc_3, zc_4, zc_5, zc_6, zc_7, zc_8, zc_9, zc_10, zc_11, zc_12, zc_20, zc_21, zc_22, zp_1, zp_2, zp_3, zp_4, zp_5, zp_6, zp_7, zp_8, zp_9, zp_10, zp_11, zp_12, zp_20, zp_21, zp_22, upS_eq, upS_ne, upS_up, upS_srt, upz_eq, upz_ne, upz_up, upz_srt, px_al_aI, px_as_aI, px_as_aZ, px_as_aC, px_ln_aI, Option.toList, List.cons_append, List.nil_append, Int.reduceAdd, Int.reduceSub, Int.reduceMul, ↓reduceIte, Nat.reduceEqDiff, eq_self, Int.reduceEq, Int.reduceLT, Int.reduceLE, Int.reduceNe, Int.reduceNeg, Int.reduceToNat, ne_eq, not_true_eq_false, not_false_eq_true, t0, t1, hm1, hm2, el_X9_open_32 (hA ..) _ (zo_10 _) _]
  exact hQ
