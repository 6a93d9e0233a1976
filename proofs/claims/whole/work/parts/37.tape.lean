/-! A TAPE: its tokens as functions of its bytes b and its fields F (0 size, 1 faultKind, 2 faultPlace, 4 textEnd, 5 kind, 6 start, 7 stop, 8 value) -/
def kB (c : Int) : Int := if 97 ≤ c ∧ c ≤ 122 then 1 else if 48 ≤ c ∧ c ≤ 57 then 2 else if c = 59 then 3 else if c = 45 then 4 else 5
theorem c_kindBeginning {h : pm_H} {x : Int} (hx : 0 ≤ x ∧ x ≤ 255) : px_R 0 92 [.int (zI x)] h (.inl (some (.int (zI (kB x))))) h := by
  refine px_ofQ fun Q hQ => ?_
  unfold kB at hQ
  repeat' (first | simp (disch := first | with_reducible assumption | omega | decide | (simp only [ps_low, List.map_cons, List.map_nil, Value.category, List.sum_cons, List.sum_nil]; decide) | with_unfolding_all rfl) only [el_X9_kindBeginning_0, el_X9_kindBeginning_1, el_X9_kindBeginning_3, el_X9_kindBeginning_6, el_X9_kindBeginning_7, el_X9_kindBeginning_9, el_X9_kindBeginning_12, el_X9_kindBeginning_13, el_X9_kindBeginning_14, el_X9_kindBeginning_15, el_X9_kindBeginning_17, el_X9_kindBeginning_20, el_X9_kindBeginning_21, el_X9_kindBeginning_23, el_X9_kindBeginning_26, el_X9_kindBeginning_27, el_X9_kindBeginning_28, el_X9_kindBeginning_29, el_X9_kindBeginning_31, el_X9_kindBeginning_34, el_X9_kindBeginning_35, el_X9_kindBeginning_38, el_X9_kindBeginning_39, el_X9_kindBeginning_41, el_X9_kindBeginning_44, el_X9_kindBeginning_45, el_X9_kindBeginning_48, el_X9_kindBeginning_49, px_ifp, px_ifn, zh_1, zc_1, zc_2, zc_3, zc_4, zc_5, zc_6, zc_7, zc_8, zc_9, zc_10, zc_11, zc_12, zc_20, zc_21, zc_22, zp_1, zp_2, zp_3, zp_4, zp_5, zp_6, zp_7, zp_8, zp_9, zp_10, zp_11, zp_12, zp_20, zp_21, zp_22, upS_eq, upS_ne, upS_up, upS_srt, upz_eq, upz_ne, upz_up, upz_srt, px_al_aI, px_as_aI, px_as_aZ, px_as_aC, px_ln_aI, Option.toList, List.cons_append, List.nil_append, Int.reduceAdd, Int.reduceSub, Int.reduceMul, ↓reduceIte, Nat.reduceEqDiff, eq_self, Int.reduceEq, Int.reduceLT, Int.reduceLE, Int.reduceNe, Int.reduceNeg, Int.reduceToNat, ne_eq, not_true_eq_false, not_false_eq_true] | with_reducible refine px_ite (fun _ => ?_) (fun _ => ?_))
  all_goals
    repeat rw [if_pos (by omega)] at hQ
    repeat rw [if_neg (by omega)] at hQ
    repeat rw [if_pos (by omega)] at hQ
    exact hQ
theorem c_isBlank {h : pm_H} {x : Int} (hx : 0 ≤ x ∧ x ≤ 255) : px_R 0 93 [.int (zI x)] h (.inl (some (.int (zI (if x = 32 ∨ x = 10 then 1 else 0))))) h := by
  refine px_ofQ fun Q hQ => ?_
  repeat' (first | simp (disch := first | with_reducible assumption | omega | decide | (simp only [ps_low, List.map_cons, List.map_nil, Value.category, List.sum_cons, List.sum_nil]; decide) | with_unfolding_all rfl) only [el_X9_isBlank_0, el_X9_isBlank_1, el_X9_isBlank_3, el_X9_isBlank_6, el_X9_isBlank_7, el_X9_isBlank_9, el_X9_isBlank_12, el_X9_isBlank_13, el_X9_isBlank_16, el_X9_isBlank_17, px_ifp, px_ifn, zh_1, zc_1, zc_2, zc_3, zc_4, zc_5, zc_6, zc_7, zc_8, zc_9, zc_10, zc_11, zc_12, zc_20, zc_21, zc_22, zp_1, zp_2, zp_3, zp_4, zp_5, zp_6, zp_7, zp_8, zp_9, zp_10, zp_11, zp_12, zp_20, zp_21, zp_22, upS_eq, upS_ne, upS_up, upS_srt, upz_eq, upz_ne, upz_up, upz_srt, px_al_aI, px_as_aI, px_as_aZ, px_as_aC, px_ln_aI, Option.toList, List.cons_append, List.nil_append, Int.reduceAdd, Int.reduceSub, Int.reduceMul, ↓reduceIte, Nat.reduceEqDiff, eq_self, Int.reduceEq, Int.reduceLT, Int.reduceLE, Int.reduceNe, Int.reduceNeg, Int.reduceToNat, ne_eq, not_true_eq_false, not_false_eq_true] | with_reducible refine px_ite (fun _ => ?_) (fun _ => ?_))
  all_goals first
    | omega
    | (rw [if_pos (by omega)] at hQ; exact hQ)
    | (rw [if_neg (by omega)] at hQ; exact hQ)
def tsk (b : Nat → Int) (n : Int) : Nat → Int → Int
  | 0, p => p
  | k + 1, p => if p < n ∧ (b p.toNat = 32 ∨ b p.toNat = 10) then tsk b n k (p + 1) else p
def trun (b : Nat → Int) (n kd : Int) : Nat → Int → Int
  | 0, p => p
  | k + 1, p => if p < n ∧ kB (b p.toNat) = kd then trun b n kd k (p + 1) else p
def tdc (b : Nat → Int) (e n : Int) : Nat → Int → Int → Int
  | 0, _, v => v
  | k + 1, p, v => if (p < e ∧ p < n) ∧ v < 1000 then tdc b e n k (p + 1) (10 * v + b p.toNat - 48) else v
def aS (b F : Nat → Int) : Int := tsk b (F 4) 500 (F 7)
def aK (b F : Nat → Int) : Int := if F 4 ≤ aS b F then 0 else kB (b (aS b F).toNat)
def aE (b F : Nat → Int) : Int := if F 4 ≤ aS b F then aS b F else if aK b F = 1 ∨ aK b F = 2 then trun b (F 4) (aK b F) 500 (aS b F + 1) else aS b F + 1
def aV (b F : Nat → Int) : Int := if aK b F = 2 then tdc b (aE b F) (F 4) 500 (aS b F) (if 3 < aE b F - aS b F then 1000 else 0) else F 8
def adv (b F : Nat → Int) : Nat → Int := fun j => if j = 5 then aK b F else if j = 6 then aS b F else if j = 7 then aE b F else if j = 8 then aV b F else F j
theorem tsk_r {b : Nat → Int} {n : Int} : ∀ (k : Nat) (p : Int), p ≤ n → p ≤ tsk b n k p ∧ tsk b n k p ≤ n
  | 0, p, h => ⟨Int.le_refl _, h⟩
  | k + 1, p, h => by
    unfold tsk
    split
    · have := tsk_r (b := b) (n := n) k (p + 1) (by omega)
      omega
    · omega
theorem trun_r {b : Nat → Int} {n kd : Int} : ∀ (k : Nat) (p : Int), p ≤ n → p ≤ trun b n kd k p ∧ trun b n kd k p ≤ n
  | 0, p, h => ⟨Int.le_refl _, h⟩
  | k + 1, p, h => by
    unfold trun
    split
    · have := trun_r (b := b) (n := n) (kd := kd) k (p + 1) (by omega)
      omega
    · omega
theorem kB_r (c : Int) : 1 ≤ kB c ∧ kB c ≤ 5 := by
  unfold kB
  repeat' split
  all_goals omega
/-- the fields of a tape that is read: as they may be -/
def tpF (F : Nat → Int) : Prop := ((0 ≤ F 4 ∧ F 4 ≤ 500) ∧ (0 ≤ F 7 ∧ F 7 ≤ F 4) ∧ (0 ≤ F 6 ∧ F 6 ≤ F 7)) ∧ (0 ≤ F 5 ∧ F 5 ≤ 5) ∧ (-100000 ≤ F 8 ∧ F 8 ≤ 100000) ∧ (0 ≤ F 1 ∧ F 1 ≤ 4)
/-- the same, but for the place of the token -/
def tpA (F : Nat → Int) : Prop := ((0 ≤ F 4 ∧ F 4 ≤ 500) ∧ (0 ≤ F 7 ∧ F 7 ≤ F 4)) ∧ (0 ≤ F 5 ∧ F 5 ≤ 5) ∧ (-100000 ≤ F 8 ∧ F 8 ≤ 100000) ∧ (0 ≤ F 1 ∧ F 1 ≤ 4)
theorem tpF.A {F : Nat → Int} (h : tpF F) : tpA F := by
  obtain ⟨⟨a, b, c⟩, d, e, f⟩ := h
  exact ⟨⟨a, b⟩, d, e, f⟩
def tpB (b : Nat → Int) : Prop := ∀ k, k < 500 → 0 ≤ b k ∧ b k ≤ 255
theorem c_readValue {T : Nat → Nat × Nat} {S : Nat → Nat → Int} {c : pm_M × pm_C} {t : Nat} (ht : ly9 T t) (h7 : 0 ≤ S t 6 ∧ S t 6 ≤ S t 7 ∧ S t 7 ≤ S t 4 ∧ S t 4 ≤ 500) (hb : ∀ k : Nat, S t 6 ≤ k → k < S t 7 → 48 ≤ S (t + 1) k ∧ S (t + 1) k ≤ 57) :
    px_R 0 91 [.ref t, .retAddr 0] (zh T S c) (.inl none) (zh T (upS S t (upz (S t) 8 (tdc (S (t + 1)) (S t 7) (S t 4) 500 (S t 6) (if 3 < S t 7 - S t 6 then 1000 else 0)))) c) := by
  obtain ⟨t0, t1⟩ := id ht
  refine px_ofQ fun Q hQ => ?_
  have loop : ∀ (k : Nat) (p v : Int), S t 6 ≤ p → p ≤ S t 7 → S t 7 - p ≤ k → 0 ≤ v → v ≤ 10000 →
      Q (.inl none) (zh T (upS S t (upz (S t) 8 (tdc (S (t + 1)) (S t 7) (S t 4) k p v))) c) → px_Ev 0 91 29 [.ref t, .int (zI p)] [] (zh T (upS S t (upz (S t) 8 v)) c) Q := by
    intro k
    induction k with
    | zero =>
      intro p v h1 h2 h3 v0 v1 q
      rw [el_X9_readValue_29]; repeat' (first | simp (disch := first | with_reducible assumption | omega | decide | (simp only [ps_low, List.map_cons, List.map_nil, Value.category, List.sum_cons, List.sum_nil]; decide) | with_unfolding_all rfl) only [el_X9_readValue_0, el_X9_readValue_1, el_X9_readValue_2, el_X9_readValue_5, el_X9_readValue_6, el_X9_readValue_9, el_X9_readValue_10, el_X9_readValue_11, el_X9_readValue_14, el_X9_readValue_17, el_X9_readValue_20, el_X9_readValue_21, el_X9_readValue_24, el_X9_readValue_25, el_X9_readValue_28, el_X9_readValue_30, el_X9_readValue_31, el_X9_readValue_34, el_X9_readValue_37, el_X9_readValue_38, el_X9_readValue_39, el_X9_readValue_42, el_X9_readValue_45, el_X9_readValue_46, el_X9_readValue_49, el_X9_readValue_52, el_X9_readValue_55, el_X9_readValue_56, el_X9_readValue_58, el_X9_readValue_59, el_X9_readValue_62, el_X9_readValue_63, el_X9_readValue_64, el_X9_readValue_67, el_X9_readValue_68, el_X9_readValue_69, el_X9_readValue_70, el_X9_readValue_72, el_X9_readValue_73, el_X9_readValue_76, el_X9_readValue_79, el_X9_readValue_82, gf_9_3, gf_9_4, gf_9_6, gf_9_7, gf_9_8, pf_9_8, px_ifp, px_ifn, zh_1, zc_1, zc_2, zc_3, zc_4, zc_5, zc_6, zc_7, zc_8, zc_9, zc_10, zc_11, zc_12, zc_20, zc_21, zc_22, zp_1, zp_2, zp_3, zp_4, zp_5, zp_6, zp_7, zp_8, zp_9, zp_10, zp_11, zp_12, zp_20, zp_21, zp_22, upS_eq, upS_ne, upS_up, upS_srt, upz_eq, upz_ne, upz_up, upz_srt, px_al_aI, px_as_aI, px_as_aZ, px_as_aC, px_ln_aI, Option.toList, List.cons_append, List.nil_append, Int.reduceAdd, Int.reduceSub, Int.reduceMul, ↓reduceIte, Nat.reduceEqDiff, eq_self, Int.reduceEq, Int.reduceLT, Int.reduceLE, Int.reduceNe, Int.reduceNeg, Int.reduceToNat, ne_eq, not_true_eq_false, not_false_eq_true, t0, t1] | with_reducible refine px_ite (fun _ => ?_) (fun _ => ?_))
      exact q
    | succ k ih =>
      intro p v h1 h2 h3 v0 v1 q
      unfold tdc at q
      by_cases hp : p < S t 7
      · have hbp := hb p.toNat (by omega) (by omega)
        by_cases hv : v < 1000
        · rw [if_pos (by omega)] at q
          rw [el_X9_readValue_29]; repeat' (first | simp (disch := first | with_reducible assumption | omega | decide | (simp only [ps_low, List.map_cons, List.map_nil, Value.category, List.sum_cons, List.sum_nil]; decide) | with_unfolding_all rfl) only [el_X9_readValue_0, el_X9_readValue_1, el_X9_readValue_2, el_X9_readValue_5, el_X9_readValue_6, el_X9_readValue_9, el_X9_readValue_10, el_X9_readValue_11, el_X9_readValue_14, el_X9_readValue_17, el_X9_readValue_20, el_X9_readValue_21, el_X9_readValue_24, el_X9_readValue_25, el_X9_readValue_28, el_X9_readValue_30, el_X9_readValue_31, el_X9_readValue_34, el_X9_readValue_37, el_X9_readValue_38, el_X9_readValue_39, el_X9_readValue_42, el_X9_readValue_45, el_X9_readValue_46, el_X9_readValue_49, el_X9_readValue_52, el_X9_readValue_55, el_X9_readValue_56, el_X9_readValue_58, el_X9_readValue_59, el_X9_readValue_62, el_X9_readValue_63, el_X9_readValue_64, el_X9_readValue_67, el_X9_readValue_68, el_X9_readValue_69, el_X9_readValue_70, el_X9_readValue_72, el_X9_readValue_73, el_X9_readValue_76, el_X9_readValue_79, el_X9_readValue_82, gf_9_3, gf_9_4, gf_9_6, gf_9_7, gf_9_8, pf_9_8, px_ifp, px_ifn, zh_1, zc_1, zc_2, zc_3, zc_4, zc_5, zc_6, zc_7, zc_8, zc_9, zc_10, zc_11, zc_12, zc_20, zc_21, zc_22, zp_1, zp_2, zp_3, zp_4, zp_5, zp_6, zp_7, zp_8, zp_9, zp_10, zp_11, zp_12, zp_20, zp_21, zp_22, upS_eq, upS_ne, upS_up, upS_srt, upz_eq, upz_ne, upz_up, upz_srt, px_al_aI, px_as_aI, px_as_aZ, px_as_aC, px_ln_aI, Option.toList, List.cons_append, List.nil_append, Int.reduceAdd, Int.reduceSub, Int.reduceMul, ↓reduceIte, Nat.reduceEqDiff, eq_self, Int.reduceEq, Int.reduceLT, Int.reduceLE, Int.reduceNe, Int.reduceNeg, Int.reduceToNat, ne_eq, not_true_eq_false, not_false_eq_true, t0, t1] | with_reducible refine px_ite (fun _ => ?_) (fun _ => ?_))
          exact ih (p + 1) _ (by omega) (by omega) (by omega) (by omega) (by omega) q
        · rw [if_neg (by omega)] at q
          rw [el_X9_readValue_29]; repeat' (first | simp (disch := first | with_reducible assumption | omega | decide | (simp only [ps_low, List.map_cons, List.map_nil, Value.category, List.sum_cons, List.sum_nil]; decide) | with_unfolding_all rfl) only [el_X9_readValue_0, el_X9_readValue_1, el_X9_readValue_2, el_X9_readValue_5, el_X9_readValue_6, el_X9_readValue_9, el_X9_readValue_10, el_X9_readValue_11, el_X9_readValue_14, el_X9_readValue_17, el_X9_readValue_20, el_X9_readValue_21, el_X9_readValue_24, el_X9_readValue_25, el_X9_readValue_28, el_X9_readValue_30, el_X9_readValue_31, el_X9_readValue_34, el_X9_readValue_37, el_X9_readValue_38, el_X9_readValue_39, el_X9_readValue_42, el_X9_readValue_45, el_X9_readValue_46, el_X9_readValue_49, el_X9_readValue_52, el_X9_readValue_55, el_X9_readValue_56, el_X9_readValue_58, el_X9_readValue_59, el_X9_readValue_62, el_X9_readValue_63, el_X9_readValue_64, el_X9_readValue_67, el_X9_readValue_68, el_X9_readValue_69, el_X9_readValue_70, el_X9_readValue_72, el_X9_readValue_73, el_X9_readValue_76, el_X9_readValue_79, el_X9_readValue_82, gf_9_3, gf_9_4, gf_9_6, gf_9_7, gf_9_8, pf_9_8, px_ifp, px_ifn, zh_1, zc_1, zc_2, zc_3, zc_4, zc_5, zc_6, zc_7, zc_8, zc_9, zc_10, zc_11, zc_12, zc_20, zc_21, zc_22, zp_1, zp_2, zp_3, zp_4, zp_5, zp_6, zp_7, zp_8, zp_9, zp_10, zp_11, zp_12, zp_20, zp_21, zp_22, upS_eq, upS_ne, upS_up, upS_srt, upz_eq, upz_ne, upz_up, upz_srt, px_al_aI, px_as_aI, px_as_aZ, px_as_aC, px_ln_aI, Option.toList, List.cons_append, List.nil_append, Int.reduceAdd, Int.reduceSub, Int.reduceMul, ↓reduceIte, Nat.reduceEqDiff, eq_self, Int.reduceEq, Int.reduceLT, Int.reduceLE, Int.reduceNe, Int.reduceNeg, Int.reduceToNat, ne_eq, not_true_eq_false, not_false_eq_true, t0, t1] | with_reducible refine px_ite (fun _ => ?_) (fun _ => ?_))
          exact q
      · rw [if_neg (by omega)] at q
        rw [el_X9_readValue_29]; repeat' (first | simp (disch := first | with_reducible assumption | omega | decide | (simp only [ps_low, List.map_cons, List.map_nil, Value.category, List.sum_cons, List.sum_nil]; decide) | with_unfolding_all rfl) only [el_X9_readValue_0, el_X9_readValue_1, el_X9_readValue_2, el_X9_readValue_5, el_X9_readValue_6, el_X9_readValue_9, el_X9_readValue_10, el_X9_readValue_11, el_X9_readValue_14, el_X9_readValue_17, el_X9_readValue_20, el_X9_readValue_21, el_X9_readValue_24, el_X9_readValue_25, el_X9_readValue_28, el_X9_readValue_30, el_X9_readValue_31, el_X9_readValue_34, el_X9_readValue_37, el_X9_readValue_38, el_X9_readValue_39, el_X9_readValue_42, el_X9_readValue_45, el_X9_readValue_46, el_X9_readValue_49, el_X9_readValue_52, el_X9_readValue_55, el_X9_readValue_56, el_X9_readValue_58, el_X9_readValue_59, el_X9_readValue_62, el_X9_readValue_63, el_X9_readValue_64, el_X9_readValue_67, el_X9_readValue_68, el_X9_readValue_69, el_X9_readValue_70, el_X9_readValue_72, el_X9_readValue_73, el_X9_readValue_76, el_X9_readValue_79, el_X9_readValue_82, gf_9_3, gf_9_4, gf_9_6, gf_9_7, gf_9_8, pf_9_8, px_ifp, px_ifn, zh_1, zc_1, zc_2, zc_3, zc_4, zc_5, zc_6, zc_7, zc_8, zc_9, zc_10, zc_11, zc_12, zc_20, zc_21, zc_22, zp_1, zp_2, zp_3, zp_4, zp_5, zp_6, zp_7, zp_8, zp_9, zp_10, zp_11, zp_12, zp_20, zp_21, zp_22, upS_eq, upS_ne, upS_up, upS_srt, upz_eq, upz_ne, upz_up, upz_srt, px_al_aI, px_as_aI, px_as_aZ, px_as_aC, px_ln_aI, Option.toList, List.cons_append, List.nil_append, Int.reduceAdd, Int.reduceSub, Int.reduceMul, ↓reduceIte, Nat.reduceEqDiff, eq_self, Int.reduceEq, Int.reduceLT, Int.reduceLE, Int.reduceNe, Int.reduceNeg, Int.reduceToNat, ne_eq, not_true_eq_false, not_false_eq_true, t0, t1] | with_reducible refine px_ite (fun _ => ?_) (fun _ => ?_))
        exact q
  by_cases h3 : 3 < S t 7 - S t 6
  · have h3' : ¬ S t 7 - S t 6 ≤ 3 := by omega
    rw [if_pos h3] at hQ
    simp (disch := first | with_reducible assumption | omega | decide | (simp only [ps_low, List.map_cons, List.map_nil, Value.category, List.sum_cons, List.sum_nil]; decide) | with_unfolding_all rfl) only [el_X9_readValue_0, el_X9_readValue_1, el_X9_readValue_2, el_X9_readValue_5, el_X9_readValue_6, el_X9_readValue_9, el_X9_readValue_10, el_X9_readValue_11, el_X9_readValue_14, el_X9_readValue_17, el_X9_readValue_20, el_X9_readValue_21, el_X9_readValue_24, el_X9_readValue_25, el_X9_readValue_28, el_X9_readValue_30, el_X9_readValue_31, el_X9_readValue_34, el_X9_readValue_37, el_X9_readValue_38, el_X9_readValue_39, el_X9_readValue_42, el_X9_readValue_45, el_X9_readValue_46, el_X9_readValue_49, el_X9_readValue_52, el_X9_readValue_55, el_X9_readValue_56, el_X9_readValue_58, el_X9_readValue_59, el_X9_readValue_62, el_X9_readValue_63, el_X9_readValue_64, el_X9_readValue_67, el_X9_readValue_68, el_X9_readValue_69, el_X9_readValue_70, el_X9_readValue_72, el_X9_readValue_73, el_X9_readValue_76, el_X9_readValue_79, el_X9_readValue_82, gf_9_3, gf_9_4, gf_9_6, gf_9_7, gf_9_8, pf_9_8, px_ifp, px_ifn, zh_1, zc_1, zc_2, zc_3, zc_4, zc_5, zc_6, zc_7, zc_8, zc_9, zc_10, zc_11, zc_12, zc_20, zc_21, zc_22, zp_1, zp_2, zp_3, zp_4, zp_5, zp_6, zp_7, zp_8, zp_9, zp_10, zp_11, zp_12, zp_20, zp_21, zp_22, upS_eq, upS_ne, upS_up, upS_srt, upz_eq, upz_ne, upz_up, upz_srt, px_al_aI, px_as_aI, px_as_aZ, px_as_aC, px_ln_aI, Option.toList, List.cons_append, List.nil_append, Int.reduceAdd, Int.reduceSub, Int.reduceMul, ↓reduceIte, Nat.reduceEqDiff, eq_self, Int.reduceEq, Int.reduceLT, Int.reduceLE, Int.reduceNe, Int.reduceNeg, Int.reduceToNat, ne_eq, not_true_eq_false, not_false_eq_true, t0, t1, h3']
    exact loop 500 _ _ (by omega) (by omega) (by omega) (by omega) (by omega) hQ
  · have h3' : S t 7 - S t 6 ≤ 3 := by omega
    rw [if_neg h3] at hQ
    simp (disch := first | with_reducible assumption | omega | decide | (simp only [ps_low, List.map_cons, List.map_nil, Value.category, List.sum_cons, List.sum_nil]; decide) | with_unfolding_all rfl) only [el_X9_readValue_0, el_X9_readValue_1, el_X9_readValue_2, el_X9_readValue_5, el_X9_readValue_6, el_X9_readValue_9, el_X9_readValue_10, el_X9_readValue_11, el_X9_readValue_14, el_X9_readValue_17, el_X9_readValue_20, el_X9_readValue_21, el_X9_readValue_24, el_X9_readValue_25, el_X9_readValue_28, el_X9_readValue_30, el_X9_readValue_31, el_X9_readValue_34, el_X9_readValue_37, el_X9_readValue_38, el_X9_readValue_39, el_X9_readValue_42, el_X9_readValue_45, el_X9_readValue_46, el_X9_readValue_49, el_X9_readValue_52, el_X9_readValue_55, el_X9_readValue_56, el_X9_readValue_58, el_X9_readValue_59, el_X9_readValue_62, el_X9_readValue_63, el_X9_readValue_64, el_X9_readValue_67, el_X9_readValue_68, el_X9_readValue_69, el_X9_readValue_70, el_X9_readValue_72, el_X9_readValue_73, el_X9_readValue_76, el_X9_readValue_79, el_X9_readValue_82, gf_9_3, gf_9_4, gf_9_6, gf_9_7, gf_9_8, pf_9_8, px_ifp, px_ifn, zh_1, zc_1, zc_2, zc_3, zc_4, zc_5, zc_6, zc_7, zc_8, zc_9, zc_10, zc_11, zc_12, zc_20, zc_21, zc_22, zp_1, zp_2, zp_3, zp_4, zp_5, zp_6, zp_7, zp_8, zp_9, zp_10, zp_11, zp_12, zp_20, zp_21, zp_22, upS_eq, upS_ne, upS_up, upS_srt, upz_eq, upz_ne, upz_up, upz_srt, px_al_aI, px_as_aI, px_as_aZ, px_as_aC, px_ln_aI, Option.toList, List.cons_append, List.nil_append, Int.reduceAdd, Int.reduceSub, Int.reduceMul, ↓reduceIte, Nat.reduceEqDiff, eq_self, Int.reduceEq, Int.reduceLT, Int.reduceLE, Int.reduceNe, Int.reduceNeg, Int.reduceToNat, ne_eq, not_true_eq_false, not_false_eq_true, t0, t1, h3']
    exact loop 500 _ _ (by omega) (by omega) (by omega) (by omega) (by omega) hQ
theorem c_advance {T : Nat → Nat × Nat} {S : Nat → Nat → Int} {c : pm_M × pm_C} {t : Nat} (ht : ly9 T t) (hF : tpA (S t)) (hb : tpB (S (t + 1))) :
    px_R 1 90 [.ref t, .retAddr 0] (zh T S c) (.inl none) (zh T (upS S t (adv (S (t + 1)) (S t))) c) := by
  obtain ⟨t0, t1⟩ := id ht
  refine px_ofQ fun Q hQ => ?_
  obtain ⟨⟨hn, h7⟩, h5, h8, -⟩ := hF
  have loop1 : ∀ (k : Nat) (p : Int), 0 ≤ p → p ≤ S t 4 → S t 4 - p ≤ k → px_Ev 1 90 47 [.ref t, .retAddr 0] [] (zh T (upS S t (upz (S t) 6 (tsk (S (t + 1)) (S t 4) k p))) c) Q →
      px_Ev 1 90 8 [.ref t, .retAddr 0] [] (zh T (upS S t (upz (S t) 6 p)) c) Q := by
    intro k
    induction k with
    | zero =>
      intro p p0 p1 p2 q
      simp (disch := first | with_reducible assumption | omega | decide | (simp only [ps_low, List.map_cons, List.map_nil, Value.category, List.sum_cons, List.sum_nil]; decide) | with_unfolding_all rfl) only [el_X9_advance_8, el_X9_advance_9, el_X9_advance_12, el_X9_advance_13, el_X9_advance_16, gf_9_4, gf_9_6, px_ifp, px_ifn, zh_1, zc_1, zc_2, zc_3, zc_4, zc_5, zc_6, zc_7, zc_8, zc_9, zc_10, zc_11, zc_12, zc_20, zc_21, zc_22, zp_1, zp_2, zp_3, zp_4, zp_5, zp_6, zp_7, zp_8, zp_9, zp_10, zp_11, zp_12, zp_20, zp_21, zp_22, upS_eq, upS_ne, upS_up, upS_srt, upz_eq, upz_ne, upz_up, upz_srt, px_al_aI, px_as_aI, px_as_aZ, px_as_aC, px_ln_aI, Option.toList, List.cons_append, List.nil_append, Int.reduceAdd, Int.reduceSub, Int.reduceMul, ↓reduceIte, Nat.reduceEqDiff, eq_self, Int.reduceEq, Int.reduceLT, Int.reduceLE, Int.reduceNe, Int.reduceNeg, Int.reduceToNat, ne_eq, not_true_eq_false, not_false_eq_true, t0, t1]
      exact q
    | succ k ih =>
      intro p p0 p1 p2 q
      unfold tsk at q
      by_cases hp : p < S t 4
      · have hbp := hb p.toNat (by omega)
        by_cases hl : S (t + 1) p.toNat = 32 ∨ S (t + 1) p.toNat = 10
        · rw [if_pos ⟨hp, hl⟩] at q
          rw [el_X9_advance_8]
          simp (disch := first | with_reducible assumption | omega | decide | (simp only [ps_low, List.map_cons, List.map_nil, Value.category, List.sum_cons, List.sum_nil]; decide) | with_unfolding_all rfl) only [el_X9_advance_9, el_X9_advance_12, el_X9_advance_13, el_X9_advance_16, el_X9_advance_19, el_X9_advance_20, el_X9_advance_23, el_X9_advance_24, el_X9_advance_27, el_X9_advance_31, el_X9_advance_34, el_X9_advance_35, el_X9_advance_35i, el_X9_advance_36, el_X9_advance_39, el_X9_advance_40, el_X9_advance_41, el_X9_advance_44, gf_9_3, gf_9_4, gf_9_6, pf_9_6, px_ifp, px_ifn, zh_1, zc_1, zc_2, zc_3, zc_4, zc_5, zc_6, zc_7, zc_8, zc_9, zc_10, zc_11, zc_12, zc_20, zc_21, zc_22, zp_1, zp_2, zp_3, zp_4, zp_5, zp_6, zp_7, zp_8, zp_9, zp_10, zp_11, zp_12, zp_20, zp_21, zp_22, upS_eq, upS_ne, upS_up, upS_srt, upz_eq, upz_ne, upz_up, upz_srt, px_al_aI, px_as_aI, px_as_aZ, px_as_aC, px_ln_aI, Option.toList, List.cons_append, List.nil_append, Int.reduceAdd, Int.reduceSub, Int.reduceMul, ↓reduceIte, Nat.reduceEqDiff, eq_self, Int.reduceEq, Int.reduceLT, Int.reduceLE, Int.reduceNe, Int.reduceNeg, Int.reduceToNat, ne_eq, not_true_eq_false, not_false_eq_true, t0, t1, el_X9_advance_28 (c_isBlank ..) _ _, hl]
          exact ih (p + 1) (by omega) (by omega) (by omega) q
        · rw [if_neg (fun g => hl g.2)] at q
          simp (disch := first | with_reducible assumption | omega | decide | (simp only [ps_low, List.map_cons, List.map_nil, Value.category, List.sum_cons, List.sum_nil]; decide) | with_unfolding_all rfl) only [el_X9_advance_8, el_X9_advance_9, el_X9_advance_12, el_X9_advance_13, el_X9_advance_16, el_X9_advance_19, el_X9_advance_20, el_X9_advance_23, el_X9_advance_24, el_X9_advance_27, el_X9_advance_31, el_X9_advance_34, el_X9_advance_35, el_X9_advance_35i, el_X9_advance_36, el_X9_advance_39, el_X9_advance_40, el_X9_advance_41, el_X9_advance_44, gf_9_3, gf_9_4, gf_9_6, pf_9_6, px_ifp, px_ifn, zh_1, zc_1, zc_2, zc_3, zc_4, zc_5, zc_6, zc_7, zc_8, zc_9, zc_10, zc_11, zc_12, zc_20, zc_21, zc_22, zp_1, zp_2, zp_3, zp_4, zp_5, zp_6, zp_7, zp_8, zp_9, zp_10, zp_11, zp_12, zp_20, zp_21, zp_22, upS_eq, upS_ne, upS_up, upS_srt, upz_eq, upz_ne, upz_up, upz_srt, px_al_aI, px_as_aI, px_as_aZ, px_as_aC, px_ln_aI, Option.toList, List.cons_append, List.nil_append, Int.reduceAdd, Int.reduceSub, Int.reduceMul, ↓reduceIte, Nat.reduceEqDiff, eq_self, Int.reduceEq, Int.reduceLT, Int.reduceLE, Int.reduceNe, Int.reduceNeg, Int.reduceToNat, ne_eq, not_true_eq_false, not_false_eq_true, t0, t1, el_X9_advance_28 (c_isBlank ..) _ _, hl]
          exact q
      · rw [if_neg (fun g => hp g.1)] at q
        simp (disch := first | with_reducible assumption | omega | decide | (simp only [ps_low, List.map_cons, List.map_nil, Value.category, List.sum_cons, List.sum_nil]; decide) | with_unfolding_all rfl) only [el_X9_advance_8, el_X9_advance_9, el_X9_advance_12, el_X9_advance_13, el_X9_advance_16, gf_9_4, gf_9_6, px_ifp, px_ifn, zh_1, zc_1, zc_2, zc_3, zc_4, zc_5, zc_6, zc_7, zc_8, zc_9, zc_10, zc_11, zc_12, zc_20, zc_21, zc_22, zp_1, zp_2, zp_3, zp_4, zp_5, zp_6, zp_7, zp_8, zp_9, zp_10, zp_11, zp_12, zp_20, zp_21, zp_22, upS_eq, upS_ne, upS_up, upS_srt, upz_eq, upz_ne, upz_up, upz_srt, px_al_aI, px_as_aI, px_as_aZ, px_as_aC, px_ln_aI, Option.toList, List.cons_append, List.nil_append, Int.reduceAdd, Int.reduceSub, Int.reduceMul, ↓reduceIte, Nat.reduceEqDiff, eq_self, Int.reduceEq, Int.reduceLT, Int.reduceLE, Int.reduceNe, Int.reduceNeg, Int.reduceToNat, ne_eq, not_true_eq_false, not_false_eq_true, t0, t1]
        exact q
  have hs := tsk_r (b := S (t + 1)) (n := S t 4) 500 (S t 7) (by omega)
  have eS : aS (S (t + 1)) (S t) = tsk (S (t + 1)) (S t 4) 500 (S t 7) := rfl
  simp (disch := first | with_reducible assumption | omega | decide | (simp only [ps_low, List.map_cons, List.map_nil, Value.category, List.sum_cons, List.sum_nil]; decide) | with_unfolding_all rfl) only [el_X9_advance_0, el_X9_advance_1, el_X9_advance_2, el_X9_advance_5, gf_9_7, pf_9_6, px_ifp, px_ifn, zh_1, zc_1, zc_2, zc_3, zc_4, zc_5, zc_6, zc_7, zc_8, zc_9, zc_10, zc_11, zc_12, zc_20, zc_21, zc_22, zp_1, zp_2, zp_3, zp_4, zp_5, zp_6, zp_7, zp_8, zp_9, zp_10, zp_11, zp_12, zp_20, zp_21, zp_22, upS_eq, upS_ne, upS_up, upS_srt, upz_eq, upz_ne, upz_up, upz_srt, px_al_aI, px_as_aI, px_as_aZ, px_as_aC, px_ln_aI, Option.toList, List.cons_append, List.nil_append, Int.reduceAdd, Int.reduceSub, Int.reduceMul, ↓reduceIte, Nat.reduceEqDiff, eq_self, Int.reduceEq, Int.reduceLT, Int.reduceLE, Int.reduceNe, Int.reduceNeg, Int.reduceToNat, ne_eq, not_true_eq_false, not_false_eq_true, t0, t1]
  refine loop1 500 _ (by omega) (by omega) (by omega) ?_
  rw [← eS]
  rw [← eS] at hs
  generalize hSS : aS (S (t + 1)) (S t) = s at *
  by_cases hend : S t 4 ≤ s
  · have hne : ¬ s < S t 4 := by omega
    simp (disch := first | with_reducible assumption | omega | decide | (simp only [ps_low, List.map_cons, List.map_nil, Value.category, List.sum_cons, List.sum_nil]; decide) | with_unfolding_all rfl) only [el_X9_advance_47, el_X9_advance_48, el_X9_advance_49, el_X9_advance_52, el_X9_advance_55, el_X9_advance_56, el_X9_advance_59, el_X9_advance_60, el_X9_advance_63, el_X9_advance_66, el_X9_advance_67, el_X9_advance_68, el_X9_advance_71, gf_9_4, gf_9_6, pf_9_5, pf_9_7, px_ifp, px_ifn, zh_1, zc_1, zc_2, zc_3, zc_4, zc_5, zc_6, zc_7, zc_8, zc_9, zc_10, zc_11, zc_12, zc_20, zc_21, zc_22, zp_1, zp_2, zp_3, zp_4, zp_5, zp_6, zp_7, zp_8, zp_9, zp_10, zp_11, zp_12, zp_20, zp_21, zp_22, upS_eq, upS_ne, upS_up, upS_srt, upz_eq, upz_ne, upz_up, upz_srt, px_al_aI, px_as_aI, px_as_aZ, px_as_aC, px_ln_aI, Option.toList, List.cons_append, List.nil_append, Int.reduceAdd, Int.reduceSub, Int.reduceMul, ↓reduceIte, Nat.reduceEqDiff, eq_self, Int.reduceEq, Int.reduceLT, Int.reduceLE, Int.reduceNe, Int.reduceNeg, Int.reduceToNat, ne_eq, not_true_eq_false, not_false_eq_true, t0, t1, hne]
    have e : upz (upz (upz (S t) 5 0) 6 s) 7 s = adv (S (t + 1)) (S t) := by
      funext j
      unfold adv aV aE aK
      rw [hSS]
      simp only [hend, upz, ↓reduceIte, Nat.reduceEqDiff, eq_self, Int.reduceEq, Int.reduceLT, Int.reduceLE, Int.reduceNe, Int.reduceNeg, Int.reduceToNat, ne_eq, not_true_eq_false, not_false_eq_true]
      repeat' split
      all_goals first | rfl | (subst_vars; rfl) | omega
    rw [e]
    exact hQ
  · have hend' : s < S t 4 := by omega
    have hbs := hb s.toNat (by omega)
    have hkr := kB_r (S (t + 1) s.toNat)
    generalize hkk : kB (S (t + 1) s.toNat) = kk at *
    have eK : aK (S (t + 1)) (S t) = kk := by
      unfold aK
      rw [hSS, if_neg hend, hkk]
    -- the end of the token
    have fin : ∀ e : Int, e = aE (S (t + 1)) (S t) → s < e → e ≤ S t 4 → (kk = 2 → ∀ k : Nat, s ≤ k → k < e → 48 ≤ S (t + 1) k ∧ S (t + 1) k ≤ 57) → ∀ l1 : Value, px_Ev 1 90 167 [.ref t, l1] [] (zh T (upS S t (upz (upz (upz (S t) 5 kk) 6 s) 7 e)) c) Q := by
      intro e he hse hen hd l1
      by_cases h2 : kk = 2
      · subst h2
        have hV := c_readValue (T := T) (S := upS S t (upz (upz (upz (S t) 5 2) 6 s) 7 e)) (c := c) (t := t) ht (by simp (disch := first | omega | decide) only [upS_eq, upz_eq, upz_ne]; omega) (by simp (disch := first | omega | decide) only [upS_eq, upS_ne, upz_eq, upz_ne]; exact hd rfl)
        simp (disch := first | omega | decide) only [upS_eq, upS_ne, upS_up, upz_eq, upz_ne] at hV
        simp (disch := first | with_reducible assumption | omega | decide | (simp only [ps_low, List.map_cons, List.map_nil, Value.category, List.sum_cons, List.sum_nil]; decide) | with_unfolding_all rfl) only [el_X9_advance_167, el_X9_advance_168, el_X9_advance_171, el_X9_advance_172, el_X9_advance_175, gf_9_5, px_ifp, px_ifn, zh_1, zc_1, zc_2, zc_3, zc_4, zc_5, zc_6, zc_7, zc_8, zc_9, zc_10, zc_11, zc_12, zc_20, zc_21, zc_22, zp_1, zp_2, zp_3, zp_4, zp_5, zp_6, zp_7, zp_8, zp_9, zp_10, zp_11, zp_12, zp_20, zp_21, zp_22, upS_eq, upS_ne, upS_up, upS_srt, upz_eq, upz_ne, upz_up, upz_srt, px_al_aI, px_as_aI, px_as_aZ, px_as_aC, px_ln_aI, Option.toList, List.cons_append, List.nil_append, Int.reduceAdd, Int.reduceSub, Int.reduceMul, ↓reduceIte, Nat.reduceEqDiff, eq_self, Int.reduceEq, Int.reduceLT, Int.reduceLE, Int.reduceNe, Int.reduceNeg, Int.reduceToNat, ne_eq, not_true_eq_false, not_false_eq_true, t0, t1]
        rw [el_X9_advance_176 hV (by decide) (zo_10 t0) rfl]
        simp (disch := first | with_reducible assumption | omega | decide | (simp only [ps_low, List.map_cons, List.map_nil, Value.category, List.sum_cons, List.sum_nil]; decide) | with_unfolding_all rfl) only [el_X9_advance_179, px_ifp, px_ifn, zh_1, zc_1, zc_2, zc_3, zc_4, zc_5, zc_6, zc_7, zc_8, zc_9, zc_10, zc_11, zc_12, zc_20, zc_21, zc_22, zp_1, zp_2, zp_3, zp_4, zp_5, zp_6, zp_7, zp_8, zp_9, zp_10, zp_11, zp_12, zp_20, zp_21, zp_22, upS_eq, upS_ne, upS_up, upS_srt, upz_eq, upz_ne, upz_up, upz_srt, px_al_aI, px_as_aI, px_as_aZ, px_as_aC, px_ln_aI, Option.toList, List.cons_append, List.nil_append, Int.reduceAdd, Int.reduceSub, Int.reduceMul, ↓reduceIte, Nat.reduceEqDiff, eq_self, Int.reduceEq, Int.reduceLT, Int.reduceLE, Int.reduceNe, Int.reduceNeg, Int.reduceToNat, ne_eq, not_true_eq_false, not_false_eq_true, t0, t1]
        have e : upz (upz (upz (upz (S t) 5 2) 6 s) 7 e) 8 (tdc (S (t + 1)) e (S t 4) 500 s (if 3 < e - s then 1000 else 0)) = adv (S (t + 1)) (S t) := by
          funext j
          unfold adv aV
          rw [hSS, eK, ← he]
          simp only [upz, ↓reduceIte, Nat.reduceEqDiff, eq_self, Int.reduceEq, Int.reduceLT, Int.reduceLE, Int.reduceNe, Int.reduceNeg, Int.reduceToNat, ne_eq, not_true_eq_false, not_false_eq_true]
          repeat' split
          all_goals first | rfl | omega
        rw [e]
        exact hQ
      · have h2' : kk ≠ 2 := h2
        simp (disch := first | with_reducible assumption | omega | decide | (simp only [ps_low, List.map_cons, List.map_nil, Value.category, List.sum_cons, List.sum_nil]; decide) | with_unfolding_all rfl) only [el_X9_advance_167, el_X9_advance_168, el_X9_advance_171, el_X9_advance_172, el_X9_advance_179, gf_9_5, px_ifp, px_ifn, zh_1, zc_1, zc_2, zc_3, zc_4, zc_5, zc_6, zc_7, zc_8, zc_9, zc_10, zc_11, zc_12, zc_20, zc_21, zc_22, zp_1, zp_2, zp_3, zp_4, zp_5, zp_6, zp_7, zp_8, zp_9, zp_10, zp_11, zp_12, zp_20, zp_21, zp_22, upS_eq, upS_ne, upS_up, upS_srt, upz_eq, upz_ne, upz_up, upz_srt, px_al_aI, px_as_aI, px_as_aZ, px_as_aC, px_ln_aI, Option.toList, List.cons_append, List.nil_append, Int.reduceAdd, Int.reduceSub, Int.reduceMul, ↓reduceIte, Nat.reduceEqDiff, eq_self, Int.reduceEq, Int.reduceLT, Int.reduceLE, Int.reduceNe, Int.reduceNeg, Int.reduceToNat, ne_eq, not_true_eq_false, not_false_eq_true, t0, t1, h2']
        have e : upz (upz (upz (S t) 5 kk) 6 s) 7 e = adv (S (t + 1)) (S t) := by
          funext j
          unfold adv aV
          rw [hSS, eK, ← he, if_neg h2]
          simp only [upz, ↓reduceIte, Nat.reduceEqDiff, eq_self, Int.reduceEq, Int.reduceLT, Int.reduceLE, Int.reduceNe, Int.reduceNeg, Int.reduceToNat, ne_eq, not_true_eq_false, not_false_eq_true]
          repeat' split
          all_goals first | rfl | omega | (rename_i g; rw [g])
        rw [e]
        exact hQ
    have loop2 : kk = 1 ∨ kk = 2 → ∀ (k : Nat) (p : Int), s < p → p ≤ S t 4 → S t 4 - p ≤ k → (kk = 2 → ∀ k : Nat, s ≤ k → k < p → 48 ≤ S (t + 1) k ∧ S (t + 1) k ≤ 57) → trun (S (t + 1)) (S t 4) kk k p = aE (S (t + 1)) (S t) →
        px_Ev 1 90 120 [.ref t, .int (zI 1)] [] (zh T (upS S t (upz (upz (upz (S t) 5 kk) 6 s) 7 p)) c) Q := by
      intro hkk12 k
      induction k with
      | zero =>
        intro p p0 p1 p2 hd he
        simp (disch := first | with_reducible assumption | omega | decide | (simp only [ps_low, List.map_cons, List.map_nil, Value.category, List.sum_cons, List.sum_nil]; decide) | with_unfolding_all rfl) only [el_X9_advance_120, el_X9_advance_121, el_X9_advance_124, el_X9_advance_125, el_X9_advance_128, el_X9_advance_129, el_X9_advance_132, gf_9_4, gf_9_7, px_ifp, px_ifn, zh_1, zc_1, zc_2, zc_3, zc_4, zc_5, zc_6, zc_7, zc_8, zc_9, zc_10, zc_11, zc_12, zc_20, zc_21, zc_22, zp_1, zp_2, zp_3, zp_4, zp_5, zp_6, zp_7, zp_8, zp_9, zp_10, zp_11, zp_12, zp_20, zp_21, zp_22, upS_eq, upS_ne, upS_up, upS_srt, upz_eq, upz_ne, upz_up, upz_srt, px_al_aI, px_as_aI, px_as_aZ, px_as_aC, px_ln_aI, Option.toList, List.cons_append, List.nil_append, Int.reduceAdd, Int.reduceSub, Int.reduceMul, ↓reduceIte, Nat.reduceEqDiff, eq_self, Int.reduceEq, Int.reduceLT, Int.reduceLE, Int.reduceNe, Int.reduceNeg, Int.reduceToNat, ne_eq, not_true_eq_false, not_false_eq_true, t0, t1]
        exact fin p he p0 p1 hd _
      | succ k ih =>
        intro p p0 p1 p2 hd he
        unfold trun at he
        by_cases hp : p < S t 4
        · have hbp := hb p.toNat (by omega)
          have hkp := kB_r (S (t + 1) p.toNat)
          by_cases hl : kB (S (t + 1) p.toNat) = kk
          · rw [if_pos ⟨hp, hl⟩] at he
            rw [el_X9_advance_120]
            simp (disch := first | with_reducible assumption | omega | decide | (simp only [ps_low, List.map_cons, List.map_nil, Value.category, List.sum_cons, List.sum_nil]; decide) | with_unfolding_all rfl) only [el_X9_advance_121, el_X9_advance_124, el_X9_advance_125, el_X9_advance_128, el_X9_advance_129, el_X9_advance_132, el_X9_advance_135, el_X9_advance_136, el_X9_advance_139, el_X9_advance_140, el_X9_advance_143, el_X9_advance_147, el_X9_advance_148, el_X9_advance_151, el_X9_advance_154, el_X9_advance_155, el_X9_advance_155i, el_X9_advance_156, el_X9_advance_159, el_X9_advance_160, el_X9_advance_161, el_X9_advance_164, gf_9_3, gf_9_4, gf_9_5, gf_9_7, pf_9_7, px_ifp, px_ifn, zh_1, zc_1, zc_2, zc_3, zc_4, zc_5, zc_6, zc_7, zc_8, zc_9, zc_10, zc_11, zc_12, zc_20, zc_21, zc_22, zp_1, zp_2, zp_3, zp_4, zp_5, zp_6, zp_7, zp_8, zp_9, zp_10, zp_11, zp_12, zp_20, zp_21, zp_22, upS_eq, upS_ne, upS_up, upS_srt, upz_eq, upz_ne, upz_up, upz_srt, px_al_aI, px_as_aI, px_as_aZ, px_as_aC, px_ln_aI, Option.toList, List.cons_append, List.nil_append, Int.reduceAdd, Int.reduceSub, Int.reduceMul, ↓reduceIte, Nat.reduceEqDiff, eq_self, Int.reduceEq, Int.reduceLT, Int.reduceLE, Int.reduceNe, Int.reduceNeg, Int.reduceToNat, ne_eq, not_true_eq_false, not_false_eq_true, t0, t1, el_X9_advance_144 (c_kindBeginning ..) _ _]
            refine ih (p + 1) (by omega) (by omega) (by omega) (fun h2 k hk1 hk2 => ?_) he
            by_cases hkp2 : (k : Int) = p
            · have hk3 : k = p.toNat := by omega
              rw [hk3]
              rw [h2] at hl
              unfold kB at hl
              repeat' split at hl
              all_goals omega
            · exact hd h2 k hk1 (by omega)
          · rw [if_neg (fun g => hl g.2)] at he
            simp (disch := first | with_reducible assumption | omega | decide | (simp only [ps_low, List.map_cons, List.map_nil, Value.category, List.sum_cons, List.sum_nil]; decide) | with_unfolding_all rfl) only [el_X9_advance_120, el_X9_advance_121, el_X9_advance_124, el_X9_advance_125, el_X9_advance_128, el_X9_advance_129, el_X9_advance_132, el_X9_advance_135, el_X9_advance_136, el_X9_advance_139, el_X9_advance_140, el_X9_advance_143, el_X9_advance_147, el_X9_advance_148, el_X9_advance_151, gf_9_3, gf_9_4, gf_9_5, gf_9_7, px_ifp, px_ifn, zh_1, zc_1, zc_2, zc_3, zc_4, zc_5, zc_6, zc_7, zc_8, zc_9, zc_10, zc_11, zc_12, zc_20, zc_21, zc_22, zp_1, zp_2, zp_3, zp_4, zp_5, zp_6, zp_7, zp_8, zp_9, zp_10, zp_11, zp_12, zp_20, zp_21, zp_22, upS_eq, upS_ne, upS_up, upS_srt, upz_eq, upz_ne, upz_up, upz_srt, px_al_aI, px_as_aI, px_as_aZ, px_as_aC, px_ln_aI, Option.toList, List.cons_append, List.nil_append, Int.reduceAdd, Int.reduceSub, Int.reduceMul, ↓reduceIte, Nat.reduceEqDiff, eq_self, Int.reduceEq, Int.reduceLT, Int.reduceLE, Int.reduceNe, Int.reduceNeg, Int.reduceToNat, ne_eq, not_true_eq_false, not_false_eq_true, t0, t1, el_X9_advance_144 (c_kindBeginning ..) _ _]
            exact fin p he p0 p1 hd _
        · rw [if_neg (fun g => hp g.1)] at he
          simp (disch := first | with_reducible assumption | omega | decide | (simp only [ps_low, List.map_cons, List.map_nil, Value.category, List.sum_cons, List.sum_nil]; decide) | with_unfolding_all rfl) only [el_X9_advance_120, el_X9_advance_121, el_X9_advance_124, el_X9_advance_125, el_X9_advance_128, el_X9_advance_129, el_X9_advance_132, gf_9_4, gf_9_7, px_ifp, px_ifn, zh_1, zc_1, zc_2, zc_3, zc_4, zc_5, zc_6, zc_7, zc_8, zc_9, zc_10, zc_11, zc_12, zc_20, zc_21, zc_22, zp_1, zp_2, zp_3, zp_4, zp_5, zp_6, zp_7, zp_8, zp_9, zp_10, zp_11, zp_12, zp_20, zp_21, zp_22, upS_eq, upS_ne, upS_up, upS_srt, upz_eq, upz_ne, upz_up, upz_srt, px_al_aI, px_as_aI, px_as_aZ, px_as_aC, px_ln_aI, Option.toList, List.cons_append, List.nil_append, Int.reduceAdd, Int.reduceSub, Int.reduceMul, ↓reduceIte, Nat.reduceEqDiff, eq_self, Int.reduceEq, Int.reduceLT, Int.reduceLE, Int.reduceNe, Int.reduceNeg, Int.reduceToNat, ne_eq, not_true_eq_false, not_false_eq_true, t0, t1]
          exact fin p he p0 p1 hd _
    by_cases h12 : kk = 1 ∨ kk = 2
    · have he : trun (S (t + 1)) (S t 4) kk 500 (s + 1) = aE (S (t + 1)) (S t) := by
        unfold aE
        rw [hSS, if_neg hend, eK, if_pos h12]
      have run := loop2 h12 500 (s + 1) (by omega) (by omega) (by omega) (fun h2 k hk1 hk2 => by
        have hk3 : k = s.toNat := by omega
        rw [hk3]
        rw [h2] at hkk
        unfold kB at hkk
        repeat' split at hkk
        all_goals omega) he
      repeat' (first | simp (disch := first | with_reducible assumption | omega | decide | (simp only [ps_low, List.map_cons, List.map_nil, Value.category, List.sum_cons, List.sum_nil]; decide) | with_unfolding_all rfl) only [el_X9_advance_47, el_X9_advance_48, el_X9_advance_49, el_X9_advance_52, el_X9_advance_55, el_X9_advance_56, el_X9_advance_59, el_X9_advance_60, el_X9_advance_63, el_X9_advance_66, el_X9_advance_67, el_X9_advance_68, el_X9_advance_71, el_X9_advance_72, el_X9_advance_73, el_X9_advance_74, el_X9_advance_77, el_X9_advance_78, el_X9_advance_81, el_X9_advance_85, el_X9_advance_88, el_X9_advance_89, el_X9_advance_89i, el_X9_advance_90, el_X9_advance_93, el_X9_advance_94, el_X9_advance_95, el_X9_advance_98, el_X9_advance_99, el_X9_advance_102, el_X9_advance_103, el_X9_advance_106, el_X9_advance_107, el_X9_advance_110, el_X9_advance_111, el_X9_advance_114, el_X9_advance_115, el_X9_advance_118, el_X9_advance_119, gf_9_3, gf_9_4, gf_9_5, gf_9_6, gf_9_7, pf_9_5, pf_9_7, px_ifp, px_ifn, zh_1, zc_1, zc_2, zc_3, zc_4, zc_5, zc_6, zc_7, zc_8, zc_9, zc_10, zc_11, zc_12, zc_20, zc_21, zc_22, zp_1, zp_2, zp_3, zp_4, zp_5, zp_6, zp_7, zp_8, zp_9, zp_10, zp_11, zp_12, zp_20, zp_21, zp_22, upS_eq, upS_ne, upS_up, upS_srt, upz_eq, upz_ne, upz_up, upz_srt, px_al_aI, px_as_aI, px_as_aZ, px_as_aC, px_ln_aI, Option.toList, List.cons_append, List.nil_append, Int.reduceAdd, Int.reduceSub, Int.reduceMul, ↓reduceIte, Nat.reduceEqDiff, eq_self, Int.reduceEq, Int.reduceLT, Int.reduceLE, Int.reduceNe, Int.reduceNeg, Int.reduceToNat, ne_eq, not_true_eq_false, not_false_eq_true, t0, t1, el_X9_advance_82 (c_kindBeginning ..) _ _, hkk, hend'] | with_reducible refine px_ite (fun _ => ?_) (fun _ => ?_))
      all_goals first | omega | exact run
    · have he : s + 1 = aE (S (t + 1)) (S t) := by
        unfold aE
        rw [hSS, if_neg hend, eK, if_neg h12]
      have run := fin (s + 1) he (by omega) (by omega) (fun h2 => absurd (.inr h2) h12) (.int (zI 0))
      repeat' (first | simp (disch := first | with_reducible assumption | omega | decide | (simp only [ps_low, List.map_cons, List.map_nil, Value.category, List.sum_cons, List.sum_nil]; decide) | with_unfolding_all rfl) only [el_X9_advance_47, el_X9_advance_48, el_X9_advance_49, el_X9_advance_52, el_X9_advance_55, el_X9_advance_56, el_X9_advance_59, el_X9_advance_60, el_X9_advance_63, el_X9_advance_66, el_X9_advance_67, el_X9_advance_68, el_X9_advance_71, el_X9_advance_72, el_X9_advance_73, el_X9_advance_74, el_X9_advance_77, el_X9_advance_78, el_X9_advance_81, el_X9_advance_85, el_X9_advance_88, el_X9_advance_89, el_X9_advance_89i, el_X9_advance_90, el_X9_advance_93, el_X9_advance_94, el_X9_advance_95, el_X9_advance_98, el_X9_advance_99, el_X9_advance_102, el_X9_advance_103, el_X9_advance_106, el_X9_advance_107, el_X9_advance_110, el_X9_advance_111, el_X9_advance_114, el_X9_advance_115, el_X9_advance_118, el_X9_advance_119, el_X9_advance_120, el_X9_advance_121, gf_9_3, gf_9_4, gf_9_5, gf_9_6, gf_9_7, pf_9_5, pf_9_7, px_ifp, px_ifn, zh_1, zc_1, zc_2, zc_3, zc_4, zc_5, zc_6, zc_7, zc_8, zc_9, zc_10, zc_11, zc_12, zc_20, zc_21, zc_22, zp_1, zp_2, zp_3, zp_4, zp_5, zp_6, zp_7, zp_8, zp_9, zp_10, zp_11, zp_12, zp_20, zp_21, zp_22, upS_eq, upS_ne, upS_up, upS_srt, upz_eq, upz_ne, upz_up, upz_srt, px_al_aI, px_as_aI, px_as_aZ, px_as_aC, px_ln_aI, Option.toList, List.cons_append, List.nil_append, Int.reduceAdd, Int.reduceSub, Int.reduceMul, ↓reduceIte, Nat.reduceEqDiff, eq_self, Int.reduceEq, Int.reduceLT, Int.reduceLE, Int.reduceNe, Int.reduceNeg, Int.reduceToNat, ne_eq, not_true_eq_false, not_false_eq_true, t0, t1, el_X9_advance_82 (c_kindBeginning ..) _ _, hkk, hend'] | with_reducible refine px_ite (fun _ => ?_) (fun _ => ?_))
      all_goals first | omega | exact run
