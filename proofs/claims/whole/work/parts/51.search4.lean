/-! A SEARCH, 4: all rows that can be -/
def catK {α : Type} (g : Nat → List α) : Nat → Nat → List α
  | 0, _ => []
  | c + 1, k => g k ++ catK g c (k + 1)
def fOb (M : sM) (sd m : Int) : Bool := decide (1 ≤ m) && decide (2 * m ≤ (if sd < 2 then M.1 2 else M.1 3))
theorem fOb_iff {M : sM} {sd m : Int} : fOb M sd m = true ↔ fOk M sd m := by
  unfold fOb fOk
  rw [Bool.and_eq_true, decide_eq_true_iff, decide_eq_true_iff]
/-- the rows of r known folds that can be done from M on, in order, with what comes of them; ks, kn the folds' sides and numbers -/
def feas (w n : Nat) (ks kn : Nat → Int) (nk : Nat) : Nat → sM → List (List Nat × sM)
  | 0, M => [([], M)]
  | r + 1, M => catK (fun k => if fOb M (ks k) (kn k) = true then (feas w n ks kn nk r (mt w n M (ks k) (kn k))).map (fun p => (k :: p.1, p.2)) else []) nk 0
/-- one row after another is met, till it is too many -/
def prB (n : Nat) (aim : Int) (E : Int → Int → Int → Nat → Int) (N : sM) (pre : List Nat) (B : bS) (p : List Nat × sM) : bS := if 5000 < B.1.2.2.2 then B else meB n aim E N p.2 (pre ++ p.1) B
theorem prB_spent {n : Nat} {aim : Int} {E : Int → Int → Int → Nat → Int} {N : sM} {pre : List Nat} {B : bS} (h : 5000 < B.1.2.2.2) : ∀ l : List (List Nat × sM), l.foldl (prB n aim E N pre) B = B
  | [] => rfl
  | p :: l => by
    rw [List.foldl_cons, show prB n aim E N pre B p = B from if_pos h]
    exact prB_spent h l
theorem prB_pre {n : Nat} {aim : Int} {E : Int → Int → Int → Nat → Int} {N : sM} {pre : List Nat} {k : Nat} {B : bS} {l : List (List Nat × sM)} : (l.map (fun p => (k :: p.1, p.2))).foldl (prB n aim E N pre) B = l.foldl (prB n aim E N (pre ++ [k])) B := by
  rw [List.foldl_map]
  congr 1
  funext B p
  unfold prB
  simp
theorem c_extend {T : Nat → Nat × Nat} {c : pm_M × pm_C} {q s nw w n : Nat} {N : sM} : ∀ (r d : Nat) (S : Nat → Nat → Int) (B : bS) (pre : List Nat) (M : sM), xC T S q s nw w n N → bR S q B → pre.length = d → d + r ≤ 4 → (∀ j, j < d → S (q + 3) j = (pre.getD j 0 : Nat)) → B.1.2.2.2 ≤ 5000 →
    shR S (q + 32 + 9 * d) n M → shI w n M →
    zR (5 + r) 51 [.ref q, .int (zI d), .int (zI ((d + r : Nat) : Int)), .retAddr 0, .retAddr 0] T S c (fun v S' => v = none ∧ xF q d S S' ∧ bR S' q ((feas w n (S (s + 6)) (S (s + 7)) (S s 6).toNat r M).foldl (prB n (S q 14) (fun no tu tr => flE S s no tu (S q 15) tr 0 200) N pre) B)) := by
  intro r
  induction r with
  | zero =>
    intro d S B pre M hC hB hp hd hrow hmet hM hI
    obtain ⟨⟨l6, l4, l7⟩, ⟨a1, a2, a3⟩, ⟨b1, b2, b3⟩, ⟨c1, c2⟩, ⟨d1, d2⟩, e1, e2⟩ := id hC
    obtain ⟨t0, t1, t2, t3, t4, t5, tL6, tL15, tL23, tL32, tL41, tL50, tL59, tL68⟩ := id l6
    have la := xS l6 (show d < 5 by omega)
    have ta0 : T (q + 32 + 9 * d) = (8, 0) := la.1
    have e4 : (S (q + 4) d).toNat = q + 32 + 9 * d := by have := a3 d (by omega); omega
    have e0 : ((d + 0 : Nat) : Int) = d := rfl
    obtain ⟨v, S1, hr, rfl, hm, hb⟩ := c_meet (c := c) (b := q + 32 + 9 * d) (row := pre) hC hB (by omega) (by rw [hp]; exact hrow) hmet la hM hI (by omega)
    rw [hp] at hr
    have ef : (feas w n (S (s + 6)) (S (s + 7)) (S s 6).toNat 0 M).foldl (prB n (S q 14) (fun no tu tr => flE S s no tu (S q 15) tr 0 200) N pre) B = meB n (S q 14) (fun no tu tr => flE S s no tu (S q 15) tr 0 200) N M pre B := by
      unfold feas
      rw [List.foldl_cons, List.foldl_nil]
      unfold prB
      rw [if_neg (by omega), List.append_nil]
    rw [ef, e0]
    refine zR_of ?_
    have fin := zQ_in (T := T) (c := c) (P := fun v S' => v = none ∧ xF q d S S' ∧ bR S' q (meB n (S q 14) (fun no tu tr => flE S s no tu (S q 15) tr 0 200) N M pre B)) (v := none) (S' := S1) ⟨rfl, hm.x.le (by omega), hb⟩
    generalize zQ T c (fun v S' => v = none ∧ xF q d S S' ∧ bR S' q (meB n (S q 14) (fun no tu tr => flE S s no tu (S q 15) tr 0 200) N M pre B)) = Qf at *
    (simp (disch := first | with_reducible assumption | omega | decide | (simp only [ps_low, List.map_cons, List.map_nil, Value.category, List.sum_cons, List.sum_nil]; decide)) only [el_X6_extend_0, el_X6_extend_1, el_X6_extend_4, el_X6_extend_5, el_X6_extend_6, el_X6_extend_9, el_X6_extend_10, el_X6_extend_11, el_X6_extend_14, el_X6_extend_15, el_X6_extend_16, el_X6_extend_19, el_X6_extend_20, el_X6_extend_21, el_X6_extend_22, el_X6_extend_23, el_X6_extend_26, el_X6_extend_27, el_X6_extend_28, el_X6_extend_29, el_X6_extend_32, el_X6_extend_33, el_X6_extend_34, el_X6_extend_38, gf_6_9, px_ifp, px_ifn, zh_1, zc_1, zc_2, zc_3, zc_4, zc_5, zc_6, zc_7, zc_8, zc_9, zc_10, zc_11, zc_12, zc_20, zc_21, zc_22, zp_1, zp_2, zp_3, zp_4, zp_5, zp_6, zp_7, zp_8, zp_9, zp_10, zp_11, zp_12, zp_20, zp_21, zp_22, upS_eq, upS_ne, upS_up, upz_eq, upz_ne, upz_up, px_al_aI, px_as_aI, px_as_aZ, px_as_aC, px_ln_aI, Option.toList, List.cons_append, List.nil_append, Int.reduceAdd, Int.reduceSub, Int.reduceMul, ↓reduceIte, Nat.reduceEqDiff, eq_self, Int.reduceEq, Int.reduceLT, Int.reduceLE, Int.reduceNe, Int.reduceNeg, Int.reduceToNat, ne_eq, not_true_eq_false, not_false_eq_true, t0, t1, t2, t3, t4, t5, zc_24, px_aa_z, e4, ta0, Int.toNat_natCast, el_X6_extend_35 (hr ..) _ (zo_7 _) _]; repeat (first | simp (disch := first | omega | decide) only [upz_srt, upy_upz, upz_up, upS_srt, upT_upS, upS_up] | simp (disch := first | with_reducible assumption | omega | decide | (simp only [ps_low, List.map_cons, List.map_nil, Value.category, List.sum_cons, List.sum_nil]; decide)) only [el_X6_extend_0, el_X6_extend_1, el_X6_extend_4, el_X6_extend_5, el_X6_extend_6, el_X6_extend_9, el_X6_extend_10, el_X6_extend_11, el_X6_extend_14, el_X6_extend_15, el_X6_extend_16, el_X6_extend_19, el_X6_extend_20, el_X6_extend_21, el_X6_extend_22, el_X6_extend_23, el_X6_extend_26, el_X6_extend_27, el_X6_extend_28, el_X6_extend_29, el_X6_extend_32, el_X6_extend_33, el_X6_extend_34, el_X6_extend_38, gf_6_9, px_ifp, px_ifn, zh_1, zc_1, zc_2, zc_3, zc_4, zc_5, zc_6, zc_7, zc_8, zc_9, zc_10, zc_11, zc_12, zc_20, zc_21, zc_22, zp_1, zp_2, zp_3, zp_4, zp_5, zp_6, zp_7, zp_8, zp_9, zp_10, zp_11, zp_12, zp_20, zp_21, zp_22, upS_eq, upS_ne, upS_up, upz_eq, upz_ne, upz_up, px_al_aI, px_as_aI, px_as_aZ, px_as_aC, px_ln_aI, Option.toList, List.cons_append, List.nil_append, Int.reduceAdd, Int.reduceSub, Int.reduceMul, ↓reduceIte, Nat.reduceEqDiff, eq_self, Int.reduceEq, Int.reduceLT, Int.reduceLE, Int.reduceNe, Int.reduceNeg, Int.reduceToNat, ne_eq, not_true_eq_false, not_false_eq_true, t0, t1, t2, t3, t4, t5, zc_24, px_aa_z, e4, ta0, Int.toNat_natCast, el_X6_extend_35 (hr ..) _ (zo_7 _) _]))
    exact fin
  | succ r ih =>
    intro d S B pre M hC hB hp hd hrow hmet hM hI
    obtain ⟨⟨l6, l4, l7⟩, ⟨a1, a2, a3⟩, ⟨b1, b2, b3⟩, ⟨c1, c2⟩, ⟨d1, d2⟩, e1, e2⟩ := id hC
    obtain ⟨t0, t1, t2, t3, t4, t5, tL6, tL15, tL23, tL32, tL41, tL50, tL59, tL68⟩ := id l6
    obtain ⟨u0, u1, u2, u3, u4, u5, u6, u7⟩ := id l4
    have la := xS l6 (show d < 5 by omega)
    have ta0 : T (q + 32 + 9 * d) = (8, 0) := la.1
    have e4 : (S (q + 4) d).toNat = q + 32 + 9 * d := by have := a3 d (by omega); omega
    have e12 : (S q 12).toNat = s := by omega
    have nk10 := b1.1.2.2.2.2.2.2
    refine zR_of ?_
    generalize hfin : (feas w n (S (s + 6)) (S (s + 7)) (S s 6).toNat (r + 1) M).foldl (prB n (S q 14) (fun no tu tr => flE S s no tu (S q 15) tr 0 200) N pre) B = Bf
    generalize hQf : zQ T c (fun v S' => v = none ∧ xF q d S S' ∧ bR S' q Bf) = Qf
    unfold feas at hfin
    generalize hg : (fun k => if fOb M (S (s + 6) k) (S (s + 7) k) = true then (feas w n (S (s + 6)) (S (s + 7)) (S s 6).toNat r (mt w n M (S (s + 6) k) (S (s + 7) k))).map (fun p => (k :: p.1, p.2)) else []) = g at hfin
    have loop : ∀ (cn k : Nat) (S2 : Nat → Nat → Int) (B2 : bS), k + cn = (S s 6).toNat → xF q d S S2 → bR S2 q B2 → (catK g cn k).foldl (prB n (S q 14) (fun no tu tr => flE S s no tu (S q 15) tr 0 200) N pre) B2 = Bf →
        px_Ev (5 + (r + 1)) 51 42 [.ref q, .int (zI d), .int (zI ((d + (r + 1) : Nat) : Int)), .ref (q + 32 + 9 * d), .int (zI k)] [] (zh T S2 c) Qf := by
      intro cn
      induction cn with
      | zero =>
        intro k S2 B2 hk hx hb he
        have s12 : (S2 q 12).toNat = s := by rw [hx.2.1 12 (by decide) (by decide) (by decide) (by decide) (by decide)]; exact e12
        have s6 : S2 s 6 = S s 6 := by rw [hx.1 s (by omega) (by omega) (by omega) (by omega) (by omega) (by omega)]
        have he' : B2 = Bf := he
        rw [he'] at hb
        have fin := zQ_in (T := T) (c := c) (P := fun v S' => v = none ∧ xF q d S S' ∧ bR S' q Bf) (v := none) (S' := S2) ⟨rfl, hx, hb⟩
        rw [hQf] at fin
        rw [el_X6_extend_42]; repeat' (first | (simp (disch := first | with_reducible assumption | omega | decide | (simp only [ps_low, List.map_cons, List.map_nil, Value.category, List.sum_cons, List.sum_nil]; decide)) only [el_X6_extend_0, el_X6_extend_1, el_X6_extend_4, el_X6_extend_5, el_X6_extend_6, el_X6_extend_9, el_X6_extend_10, el_X6_extend_11, el_X6_extend_14, el_X6_extend_15, el_X6_extend_16, el_X6_extend_19, el_X6_extend_20, el_X6_extend_21, el_X6_extend_22, el_X6_extend_23, el_X6_extend_26, el_X6_extend_27, el_X6_extend_28, el_X6_extend_29, el_X6_extend_32, el_X6_extend_33, el_X6_extend_34, el_X6_extend_38, el_X6_extend_39, el_X6_extend_40, el_X6_extend_44, el_X6_extend_45, el_X6_extend_48, el_X6_extend_51, el_X6_extend_54, el_X6_extend_58, el_X6_extend_61, el_X6_extend_62, el_X6_extend_63, el_X6_extend_64, el_X6_extend_69, el_X6_extend_72, el_X6_extend_73, el_X6_extend_74, el_X6_extend_75, el_X6_extend_76, el_X6_extend_80, el_X6_extend_83, el_X6_extend_86, gf_4_6, gf_6_12, gf_6_9, px_ifp, px_ifn, zh_1, zc_1, zc_2, zc_3, zc_4, zc_5, zc_6, zc_7, zc_8, zc_9, zc_10, zc_11, zc_12, zc_20, zc_21, zc_22, zp_1, zp_2, zp_3, zp_4, zp_5, zp_6, zp_7, zp_8, zp_9, zp_10, zp_11, zp_12, zp_20, zp_21, zp_22, upS_eq, upS_ne, upS_up, upz_eq, upz_ne, upz_up, px_al_aI, px_as_aI, px_as_aZ, px_as_aC, px_ln_aI, Option.toList, List.cons_append, List.nil_append, Int.reduceAdd, Int.reduceSub, Int.reduceMul, ↓reduceIte, Nat.reduceEqDiff, eq_self, Int.reduceEq, Int.reduceLT, Int.reduceLE, Int.reduceNe, Int.reduceNeg, Int.reduceToNat, ne_eq, not_true_eq_false, not_false_eq_true, t0, t1, t2, t3, t4, t5, u0, u1, u2, u3, u4, u5, u6, u7, s12, s6]; repeat (first | simp (disch := first | omega | decide) only [upz_srt, upy_upz, upz_up, upS_srt, upT_upS, upS_up] | simp (disch := first | with_reducible assumption | omega | decide | (simp only [ps_low, List.map_cons, List.map_nil, Value.category, List.sum_cons, List.sum_nil]; decide)) only [el_X6_extend_0, el_X6_extend_1, el_X6_extend_4, el_X6_extend_5, el_X6_extend_6, el_X6_extend_9, el_X6_extend_10, el_X6_extend_11, el_X6_extend_14, el_X6_extend_15, el_X6_extend_16, el_X6_extend_19, el_X6_extend_20, el_X6_extend_21, el_X6_extend_22, el_X6_extend_23, el_X6_extend_26, el_X6_extend_27, el_X6_extend_28, el_X6_extend_29, el_X6_extend_32, el_X6_extend_33, el_X6_extend_34, el_X6_extend_38, el_X6_extend_39, el_X6_extend_40, el_X6_extend_44, el_X6_extend_45, el_X6_extend_48, el_X6_extend_51, el_X6_extend_54, el_X6_extend_58, el_X6_extend_61, el_X6_extend_62, el_X6_extend_63, el_X6_extend_64, el_X6_extend_69, el_X6_extend_72, el_X6_extend_73, el_X6_extend_74, el_X6_extend_75, el_X6_extend_76, el_X6_extend_80, el_X6_extend_83, el_X6_extend_86, gf_4_6, gf_6_12, gf_6_9, px_ifp, px_ifn, zh_1, zc_1, zc_2, zc_3, zc_4, zc_5, zc_6, zc_7, zc_8, zc_9, zc_10, zc_11, zc_12, zc_20, zc_21, zc_22, zp_1, zp_2, zp_3, zp_4, zp_5, zp_6, zp_7, zp_8, zp_9, zp_10, zp_11, zp_12, zp_20, zp_21, zp_22, upS_eq, upS_ne, upS_up, upz_eq, upz_ne, upz_up, px_al_aI, px_as_aI, px_as_aZ, px_as_aC, px_ln_aI, Option.toList, List.cons_append, List.nil_append, Int.reduceAdd, Int.reduceSub, Int.reduceMul, ↓reduceIte, Nat.reduceEqDiff, eq_self, Int.reduceEq, Int.reduceLT, Int.reduceLE, Int.reduceNe, Int.reduceNeg, Int.reduceToNat, ne_eq, not_true_eq_false, not_false_eq_true, t0, t1, t2, t3, t4, t5, u0, u1, u2, u3, u4, u5, u6, u7, s12, s6])) | simp (disch := first | omega | decide) only [upz_srt, upy_upz, upz_up, upS_srt, upT_upS, upS_up] | with_reducible refine px_ite (fun _ => ?_) (fun _ => ?_))
        exact fin
      | succ cn ihc =>
        intro k S2 B2 hk hx hb he
        have s12 : (S2 q 12).toNat = s := by rw [hx.2.1 12 (by decide) (by decide) (by decide) (by decide) (by decide)]; exact e12
        have es : ∀ a, s ≤ a → a < s + 8 → S2 a = S a := fun a x y => hx.1 a (by omega) (by omega) (by omega) (by omega) (by omega) (by omega)
        have s6 : S2 s 6 = S s 6 := by rw [es s (by omega) (by omega)]
        have i14 : S2 q 14 = S q 14 := hx.2.1 14 (by decide) (by decide) (by decide) (by decide) (by decide)
        have i15 : S2 q 15 = S q 15 := hx.2.1 15 (by decide) (by decide) (by decide) (by decide) (by decide)
        have hbm := hb.2.1.2.1
        have hb16 := hb.1.2.1
        have hsp := c_isSpent (T := T) (S := S2) (c := c) (q := q) t0 (by omega)
        rw [hb16] at hsp
        by_cases h5 : 5000 < B2.1.2.2.2
        · rw [if_pos h5] at hsp
          rw [prB_spent h5] at he
          rw [he] at hb
          have fin := zQ_in (T := T) (c := c) (P := fun v S' => v = none ∧ xF q d S S' ∧ bR S' q Bf) (v := none) (S' := S2) ⟨rfl, hx, hb⟩
          rw [hQf] at fin
          rw [el_X6_extend_42]; repeat' (first | (simp (disch := first | with_reducible assumption | omega | decide | (simp only [ps_low, List.map_cons, List.map_nil, Value.category, List.sum_cons, List.sum_nil]; decide)) only [el_X6_extend_0, el_X6_extend_1, el_X6_extend_4, el_X6_extend_5, el_X6_extend_6, el_X6_extend_9, el_X6_extend_10, el_X6_extend_11, el_X6_extend_14, el_X6_extend_15, el_X6_extend_16, el_X6_extend_19, el_X6_extend_20, el_X6_extend_21, el_X6_extend_22, el_X6_extend_23, el_X6_extend_26, el_X6_extend_27, el_X6_extend_28, el_X6_extend_29, el_X6_extend_32, el_X6_extend_33, el_X6_extend_34, el_X6_extend_38, el_X6_extend_39, el_X6_extend_40, el_X6_extend_44, el_X6_extend_45, el_X6_extend_48, el_X6_extend_51, el_X6_extend_54, el_X6_extend_58, el_X6_extend_61, el_X6_extend_62, el_X6_extend_63, el_X6_extend_64, el_X6_extend_69, el_X6_extend_72, el_X6_extend_73, el_X6_extend_74, el_X6_extend_75, el_X6_extend_76, el_X6_extend_80, el_X6_extend_83, el_X6_extend_86, gf_4_6, gf_6_12, gf_6_9, px_ifp, px_ifn, zh_1, zc_1, zc_2, zc_3, zc_4, zc_5, zc_6, zc_7, zc_8, zc_9, zc_10, zc_11, zc_12, zc_20, zc_21, zc_22, zp_1, zp_2, zp_3, zp_4, zp_5, zp_6, zp_7, zp_8, zp_9, zp_10, zp_11, zp_12, zp_20, zp_21, zp_22, upS_eq, upS_ne, upS_up, upz_eq, upz_ne, upz_up, px_al_aI, px_as_aI, px_as_aZ, px_as_aC, px_ln_aI, Option.toList, List.cons_append, List.nil_append, Int.reduceAdd, Int.reduceSub, Int.reduceMul, ↓reduceIte, Nat.reduceEqDiff, eq_self, Int.reduceEq, Int.reduceLT, Int.reduceLE, Int.reduceNe, Int.reduceNeg, Int.reduceToNat, ne_eq, not_true_eq_false, not_false_eq_true, t0, t1, t2, t3, t4, t5, u0, u1, u2, u3, u4, u5, u6, u7, s12, s6, el_X6_extend_55 (hsp ..) _ (zo_7 _) _]; repeat (first | simp (disch := first | omega | decide) only [upz_srt, upy_upz, upz_up, upS_srt, upT_upS, upS_up] | simp (disch := first | with_reducible assumption | omega | decide | (simp only [ps_low, List.map_cons, List.map_nil, Value.category, List.sum_cons, List.sum_nil]; decide)) only [el_X6_extend_0, el_X6_extend_1, el_X6_extend_4, el_X6_extend_5, el_X6_extend_6, el_X6_extend_9, el_X6_extend_10, el_X6_extend_11, el_X6_extend_14, el_X6_extend_15, el_X6_extend_16, el_X6_extend_19, el_X6_extend_20, el_X6_extend_21, el_X6_extend_22, el_X6_extend_23, el_X6_extend_26, el_X6_extend_27, el_X6_extend_28, el_X6_extend_29, el_X6_extend_32, el_X6_extend_33, el_X6_extend_34, el_X6_extend_38, el_X6_extend_39, el_X6_extend_40, el_X6_extend_44, el_X6_extend_45, el_X6_extend_48, el_X6_extend_51, el_X6_extend_54, el_X6_extend_58, el_X6_extend_61, el_X6_extend_62, el_X6_extend_63, el_X6_extend_64, el_X6_extend_69, el_X6_extend_72, el_X6_extend_73, el_X6_extend_74, el_X6_extend_75, el_X6_extend_76, el_X6_extend_80, el_X6_extend_83, el_X6_extend_86, gf_4_6, gf_6_12, gf_6_9, px_ifp, px_ifn, zh_1, zc_1, zc_2, zc_3, zc_4, zc_5, zc_6, zc_7, zc_8, zc_9, zc_10, zc_11, zc_12, zc_20, zc_21, zc_22, zp_1, zp_2, zp_3, zp_4, zp_5, zp_6, zp_7, zp_8, zp_9, zp_10, zp_11, zp_12, zp_20, zp_21, zp_22, upS_eq, upS_ne, upS_up, upz_eq, upz_ne, upz_up, px_al_aI, px_as_aI, px_as_aZ, px_as_aC, px_ln_aI, Option.toList, List.cons_append, List.nil_append, Int.reduceAdd, Int.reduceSub, Int.reduceMul, ↓reduceIte, Nat.reduceEqDiff, eq_self, Int.reduceEq, Int.reduceLT, Int.reduceLE, Int.reduceNe, Int.reduceNeg, Int.reduceToNat, ne_eq, not_true_eq_false, not_false_eq_true, t0, t1, t2, t3, t4, t5, u0, u1, u2, u3, u4, u5, u6, u7, s12, s6, el_X6_extend_55 (hsp ..) _ (zo_7 _) _])) | simp (disch := first | omega | decide) only [upz_srt, upy_upz, upz_up, upS_srt, upT_upS, upS_up] | with_reducible refine px_ite (fun _ => ?_) (fun _ => ?_))
          exact fin
        · rw [if_neg h5] at hsp
          unfold catK at he
          rw [List.foldl_append] at he
          have eg : g k = if fOb M (S (s + 6) k) (S (s + 7) k) = true then (feas w n (S (s + 6)) (S (s + 7)) (S s 6).toNat r (mt w n M (S (s + 6) k) (S (s + 7) k))).map (fun p => (k :: p.1, p.2)) else [] := by rw [← hg]
          rw [eg] at he
          have hM2 : shR S2 (q + 32 + 9 * d) n M := hM.eq (fun a x y => hx.1 a (by omega) (by omega) (by omega) (by omega) (by omega) (by omega))
          obtain ⟨v, S3, hr3, hx3, q0, q2, q5, hv⟩ := c_putFold (c := c) (d := d) (k := k) (hC.eq hx) (by omega) (by rw [s6]; omega) hM2 hI
          rw [es (s + 6) (by omega) (by omega), es (s + 7) (by omega) (by omega)] at hv
          rcases hv with ⟨hf, rfl, hrk, hR3⟩ | ⟨hf, rfl, e23⟩
          · rw [if_pos (fOb_iff.mpr hf), prB_pre] at he
            have hks := b1.2.2 k (by omega)
            have hC3 := (hC.eq hx).eq hx3
            have hb3 := hb.eq q0 q2 q5
            have hx23 := hx.trans hx3
            have j14 : S3 q 14 = S q 14 := hx23.2.1 14 (by decide) (by decide) (by decide) (by decide) (by decide)
            have j15 : S3 q 15 = S q 15 := hx23.2.1 15 (by decide) (by decide) (by decide) (by decide) (by decide)
            have es3 : ∀ a, s ≤ a → a < s + 8 → S3 a = S a := fun a x y => hx23.1 a (by omega) (by omega) (by omega) (by omega) (by omega) (by omega)
            obtain ⟨v4, S4, hr4, rfl, hx4, hb4⟩ := ih (d + 1) S3 B2 (pre ++ [k]) (mt w n M (S (s + 6) k) (S (s + 7) k)) hC3 hb3 (by rw [List.length_append, hp]; rfl) (by omega) (fun j hj => by
              by_cases hjd : j = d
              · rw [hjd, hrk, List.getD_eq_getElem?_getD, List.getElem?_append_right (by omega), hp, Nat.sub_self]
                rfl
              · rw [hx23.2.2 j (by omega), hrow j (by omega), List.getD_eq_getElem?_getD, List.getD_eq_getElem?_getD, List.getElem?_append_left (by omega)]) (by omega) hR3 (shI_mt hI (by omega) hf)
            have eE : (fun no tu tr => flE S3 s no tu (S3 q 15) tr 0 200) = (fun no tu tr => flE S s no tu (S q 15) tr 0 200) := by
              funext no tu tr
              rw [j15, flE_eq (S := S) es3]
            rw [es3 (s + 6) (by omega) (by omega), es3 (s + 7) (by omega) (by omega), es3 s (by omega) (by omega), j14, eE] at hb4
            have nx := ihc (k + 1) S4 _ (by omega) (hx23.trans (hx4.le (by omega))) hb4 he
            rw [show 5 + (r + 1) = 6 + r by omega] at nx ⊢
            have hr3' := px_R_up hr3 (1 + r)
            have e6 : ((d + (r + 1) : Nat) : Int) = ((d + 1 + r : Nat) : Int) := by omega
            rw [e6] at nx ⊢
            have e1 : ((d + 1 : Nat) : Int) = (d : Int) + 1 := rfl
            rw [e1] at hr4
            rw [el_X6_extend_42]; repeat' (first | (simp (disch := first | with_reducible assumption | omega | decide | (simp only [ps_low, List.map_cons, List.map_nil, Value.category, List.sum_cons, List.sum_nil]; decide)) only [el_X6_extend_0, el_X6_extend_1, el_X6_extend_4, el_X6_extend_5, el_X6_extend_6, el_X6_extend_9, el_X6_extend_10, el_X6_extend_11, el_X6_extend_14, el_X6_extend_15, el_X6_extend_16, el_X6_extend_19, el_X6_extend_20, el_X6_extend_21, el_X6_extend_22, el_X6_extend_23, el_X6_extend_26, el_X6_extend_27, el_X6_extend_28, el_X6_extend_29, el_X6_extend_32, el_X6_extend_33, el_X6_extend_34, el_X6_extend_38, el_X6_extend_39, el_X6_extend_40, el_X6_extend_44, el_X6_extend_45, el_X6_extend_48, el_X6_extend_51, el_X6_extend_54, el_X6_extend_58, el_X6_extend_61, el_X6_extend_62, el_X6_extend_63, el_X6_extend_64, el_X6_extend_69, el_X6_extend_72, el_X6_extend_73, el_X6_extend_74, el_X6_extend_75, el_X6_extend_76, el_X6_extend_80, el_X6_extend_83, el_X6_extend_86, gf_4_6, gf_6_12, gf_6_9, px_ifp, px_ifn, zh_1, zc_1, zc_2, zc_3, zc_4, zc_5, zc_6, zc_7, zc_8, zc_9, zc_10, zc_11, zc_12, zc_20, zc_21, zc_22, zp_1, zp_2, zp_3, zp_4, zp_5, zp_6, zp_7, zp_8, zp_9, zp_10, zp_11, zp_12, zp_20, zp_21, zp_22, upS_eq, upS_ne, upS_up, upz_eq, upz_ne, upz_up, px_al_aI, px_as_aI, px_as_aZ, px_as_aC, px_ln_aI, Option.toList, List.cons_append, List.nil_append, Int.reduceAdd, Int.reduceSub, Int.reduceMul, ↓reduceIte, Nat.reduceEqDiff, eq_self, Int.reduceEq, Int.reduceLT, Int.reduceLE, Int.reduceNe, Int.reduceNeg, Int.reduceToNat, ne_eq, not_true_eq_false, not_false_eq_true, t0, t1, t2, t3, t4, t5, u0, u1, u2, u3, u4, u5, u6, u7, s12, s6, el_X6_extend_55 (hsp ..) _ (zo_7 _) _, el_X6_extend_66 (hr3' ..) _ (zo_7 _) _, el_X6_extend_77 (hr4 ..) _ _]; repeat (first | simp (disch := first | omega | decide) only [upz_srt, upy_upz, upz_up, upS_srt, upT_upS, upS_up] | simp (disch := first | with_reducible assumption | omega | decide | (simp only [ps_low, List.map_cons, List.map_nil, Value.category, List.sum_cons, List.sum_nil]; decide)) only [el_X6_extend_0, el_X6_extend_1, el_X6_extend_4, el_X6_extend_5, el_X6_extend_6, el_X6_extend_9, el_X6_extend_10, el_X6_extend_11, el_X6_extend_14, el_X6_extend_15, el_X6_extend_16, el_X6_extend_19, el_X6_extend_20, el_X6_extend_21, el_X6_extend_22, el_X6_extend_23, el_X6_extend_26, el_X6_extend_27, el_X6_extend_28, el_X6_extend_29, el_X6_extend_32, el_X6_extend_33, el_X6_extend_34, el_X6_extend_38, el_X6_extend_39, el_X6_extend_40, el_X6_extend_44, el_X6_extend_45, el_X6_extend_48, el_X6_extend_51, el_X6_extend_54, el_X6_extend_58, el_X6_extend_61, el_X6_extend_62, el_X6_extend_63, el_X6_extend_64, el_X6_extend_69, el_X6_extend_72, el_X6_extend_73, el_X6_extend_74, el_X6_extend_75, el_X6_extend_76, el_X6_extend_80, el_X6_extend_83, el_X6_extend_86, gf_4_6, gf_6_12, gf_6_9, px_ifp, px_ifn, zh_1, zc_1, zc_2, zc_3, zc_4, zc_5, zc_6, zc_7, zc_8, zc_9, zc_10, zc_11, zc_12, zc_20, zc_21, zc_22, zp_1, zp_2, zp_3, zp_4, zp_5, zp_6, zp_7, zp_8, zp_9, zp_10, zp_11, zp_12, zp_20, zp_21, zp_22, upS_eq, upS_ne, upS_up, upz_eq, upz_ne, upz_up, px_al_aI, px_as_aI, px_as_aZ, px_as_aC, px_ln_aI, Option.toList, List.cons_append, List.nil_append, Int.reduceAdd, Int.reduceSub, Int.reduceMul, ↓reduceIte, Nat.reduceEqDiff, eq_self, Int.reduceEq, Int.reduceLT, Int.reduceLE, Int.reduceNe, Int.reduceNeg, Int.reduceToNat, ne_eq, not_true_eq_false, not_false_eq_true, t0, t1, t2, t3, t4, t5, u0, u1, u2, u3, u4, u5, u6, u7, s12, s6, el_X6_extend_55 (hsp ..) _ (zo_7 _) _, el_X6_extend_66 (hr3' ..) _ (zo_7 _) _, el_X6_extend_77 (hr4 ..) _ _])) | simp (disch := first | omega | decide) only [upz_srt, upy_upz, upz_up, upS_srt, upT_upS, upS_up] | with_reducible refine px_ite (fun _ => ?_) (fun _ => ?_))
            exact nx
          · rw [if_neg (fun z => hf (fOb_iff.mp z)), List.foldl_nil] at he
            have nx := ihc (k + 1) S2 B2 (by omega) hx hb he
            rw [e23] at hr3
            have hr3' := px_R_up hr3 r
            rw [show 5 + (r + 1) = 6 + r by omega] at nx ⊢
            rw [el_X6_extend_42]; repeat' (first | (simp (disch := first | with_reducible assumption | omega | decide | (simp only [ps_low, List.map_cons, List.map_nil, Value.category, List.sum_cons, List.sum_nil]; decide)) only [el_X6_extend_0, el_X6_extend_1, el_X6_extend_4, el_X6_extend_5, el_X6_extend_6, el_X6_extend_9, el_X6_extend_10, el_X6_extend_11, el_X6_extend_14, el_X6_extend_15, el_X6_extend_16, el_X6_extend_19, el_X6_extend_20, el_X6_extend_21, el_X6_extend_22, el_X6_extend_23, el_X6_extend_26, el_X6_extend_27, el_X6_extend_28, el_X6_extend_29, el_X6_extend_32, el_X6_extend_33, el_X6_extend_34, el_X6_extend_38, el_X6_extend_39, el_X6_extend_40, el_X6_extend_44, el_X6_extend_45, el_X6_extend_48, el_X6_extend_51, el_X6_extend_54, el_X6_extend_58, el_X6_extend_61, el_X6_extend_62, el_X6_extend_63, el_X6_extend_64, el_X6_extend_69, el_X6_extend_72, el_X6_extend_73, el_X6_extend_74, el_X6_extend_75, el_X6_extend_76, el_X6_extend_80, el_X6_extend_83, el_X6_extend_86, gf_4_6, gf_6_12, gf_6_9, px_ifp, px_ifn, zh_1, zc_1, zc_2, zc_3, zc_4, zc_5, zc_6, zc_7, zc_8, zc_9, zc_10, zc_11, zc_12, zc_20, zc_21, zc_22, zp_1, zp_2, zp_3, zp_4, zp_5, zp_6, zp_7, zp_8, zp_9, zp_10, zp_11, zp_12, zp_20, zp_21, zp_22, upS_eq, upS_ne, upS_up, upz_eq, upz_ne, upz_up, px_al_aI, px_as_aI, px_as_aZ, px_as_aC, px_ln_aI, Option.toList, List.cons_append, List.nil_append, Int.reduceAdd, Int.reduceSub, Int.reduceMul, ↓reduceIte, Nat.reduceEqDiff, eq_self, Int.reduceEq, Int.reduceLT, Int.reduceLE, Int.reduceNe, Int.reduceNeg, Int.reduceToNat, ne_eq, not_true_eq_false, not_false_eq_true, t0, t1, t2, t3, t4, t5, u0, u1, u2, u3, u4, u5, u6, u7, s12, s6, el_X6_extend_55 (hsp ..) _ (zo_7 _) _, el_X6_extend_66 (hr3' ..) _ (zo_7 _) _]; repeat (first | simp (disch := first | omega | decide) only [upz_srt, upy_upz, upz_up, upS_srt, upT_upS, upS_up] | simp (disch := first | with_reducible assumption | omega | decide | (simp only [ps_low, List.map_cons, List.map_nil, Value.category, List.sum_cons, List.sum_nil]; decide)) only [el_X6_extend_0, el_X6_extend_1, el_X6_extend_4, el_X6_extend_5, el_X6_extend_6, el_X6_extend_9, el_X6_extend_10, el_X6_extend_11, el_X6_extend_14, el_X6_extend_15, el_X6_extend_16, el_X6_extend_19, el_X6_extend_20, el_X6_extend_21, el_X6_extend_22, el_X6_extend_23, el_X6_extend_26, el_X6_extend_27, el_X6_extend_28, el_X6_extend_29, el_X6_extend_32, el_X6_extend_33, el_X6_extend_34, el_X6_extend_38, el_X6_extend_39, el_X6_extend_40, el_X6_extend_44, el_X6_extend_45, el_X6_extend_48, el_X6_extend_51, el_X6_extend_54, el_X6_extend_58, el_X6_extend_61, el_X6_extend_62, el_X6_extend_63, el_X6_extend_64, el_X6_extend_69, el_X6_extend_72, el_X6_extend_73, el_X6_extend_74, el_X6_extend_75, el_X6_extend_76, el_X6_extend_80, el_X6_extend_83, el_X6_extend_86, gf_4_6, gf_6_12, gf_6_9, px_ifp, px_ifn, zh_1, zc_1, zc_2, zc_3, zc_4, zc_5, zc_6, zc_7, zc_8, zc_9, zc_10, zc_11, zc_12, zc_20, zc_21, zc_22, zp_1, zp_2, zp_3, zp_4, zp_5, zp_6, zp_7, zp_8, zp_9, zp_10, zp_11, zp_12, zp_20, zp_21, zp_22, upS_eq, upS_ne, upS_up, upz_eq, upz_ne, upz_up, px_al_aI, px_as_aI, px_as_aZ, px_as_aC, px_ln_aI, Option.toList, List.cons_append, List.nil_append, Int.reduceAdd, Int.reduceSub, Int.reduceMul, ↓reduceIte, Nat.reduceEqDiff, eq_self, Int.reduceEq, Int.reduceLT, Int.reduceLE, Int.reduceNe, Int.reduceNeg, Int.reduceToNat, ne_eq, not_true_eq_false, not_false_eq_true, t0, t1, t2, t3, t4, t5, u0, u1, u2, u3, u4, u5, u6, u7, s12, s6, el_X6_extend_55 (hsp ..) _ (zo_7 _) _, el_X6_extend_66 (hr3' ..) _ (zo_7 _) _])) | simp (disch := first | omega | decide) only [upz_srt, upy_upz, upz_up, upS_srt, upT_upS, upS_up] | with_reducible refine px_ite (fun _ => ?_) (fun _ => ?_))
            exact nx
    have l0 := loop (S s 6).toNat 0 S B (by omega) xF.refl hB hfin
    (simp (disch := first | with_reducible assumption | omega | decide | (simp only [ps_low, List.map_cons, List.map_nil, Value.category, List.sum_cons, List.sum_nil]; decide)) only [el_X6_extend_0, el_X6_extend_1, el_X6_extend_4, el_X6_extend_5, el_X6_extend_6, el_X6_extend_9, el_X6_extend_10, el_X6_extend_11, el_X6_extend_14, el_X6_extend_15, el_X6_extend_16, el_X6_extend_19, el_X6_extend_20, el_X6_extend_21, el_X6_extend_22, el_X6_extend_23, el_X6_extend_26, el_X6_extend_27, el_X6_extend_28, el_X6_extend_29, el_X6_extend_32, el_X6_extend_33, el_X6_extend_34, el_X6_extend_38, el_X6_extend_39, el_X6_extend_40, gf_6_9, px_ifp, px_ifn, zh_1, zc_1, zc_2, zc_3, zc_4, zc_5, zc_6, zc_7, zc_8, zc_9, zc_10, zc_11, zc_12, zc_20, zc_21, zc_22, zp_1, zp_2, zp_3, zp_4, zp_5, zp_6, zp_7, zp_8, zp_9, zp_10, zp_11, zp_12, zp_20, zp_21, zp_22, upS_eq, upS_ne, upS_up, upz_eq, upz_ne, upz_up, px_al_aI, px_as_aI, px_as_aZ, px_as_aC, px_ln_aI, Option.toList, List.cons_append, List.nil_append, Int.reduceAdd, Int.reduceSub, Int.reduceMul, ↓reduceIte, Nat.reduceEqDiff, eq_self, Int.reduceEq, Int.reduceLT, Int.reduceLE, Int.reduceNe, Int.reduceNeg, Int.reduceToNat, ne_eq, not_true_eq_false, not_false_eq_true, t0, t1, t2, t3, t4, t5, u0, u1, u2, u3, u4, u5, u6, u7, zc_24, px_aa_z, e4, ta0, Int.toNat_natCast]; repeat (first | simp (disch := first | omega | decide) only [upz_srt, upy_upz, upz_up, upS_srt, upT_upS, upS_up] | simp (disch := first | with_reducible assumption | omega | decide | (simp only [ps_low, List.map_cons, List.map_nil, Value.category, List.sum_cons, List.sum_nil]; decide)) only [el_X6_extend_0, el_X6_extend_1, el_X6_extend_4, el_X6_extend_5, el_X6_extend_6, el_X6_extend_9, el_X6_extend_10, el_X6_extend_11, el_X6_extend_14, el_X6_extend_15, el_X6_extend_16, el_X6_extend_19, el_X6_extend_20, el_X6_extend_21, el_X6_extend_22, el_X6_extend_23, el_X6_extend_26, el_X6_extend_27, el_X6_extend_28, el_X6_extend_29, el_X6_extend_32, el_X6_extend_33, el_X6_extend_34, el_X6_extend_38, el_X6_extend_39, el_X6_extend_40, gf_6_9, px_ifp, px_ifn, zh_1, zc_1, zc_2, zc_3, zc_4, zc_5, zc_6, zc_7, zc_8, zc_9, zc_10, zc_11, zc_12, zc_20, zc_21, zc_22, zp_1, zp_2, zp_3, zp_4, zp_5, zp_6, zp_7, zp_8, zp_9, zp_10, zp_11, zp_12, zp_20, zp_21, zp_22, upS_eq, upS_ne, upS_up, upz_eq, upz_ne, upz_up, px_al_aI, px_as_aI, px_as_aZ, px_as_aC, px_ln_aI, Option.toList, List.cons_append, List.nil_append, Int.reduceAdd, Int.reduceSub, Int.reduceMul, ↓reduceIte, Nat.reduceEqDiff, eq_self, Int.reduceEq, Int.reduceLT, Int.reduceLE, Int.reduceNe, Int.reduceNeg, Int.reduceToNat, ne_eq, not_true_eq_false, not_false_eq_true, t0, t1, t2, t3, t4, t5, u0, u1, u2, u3, u4, u5, u6, u7, zc_24, px_aa_z, e4, ta0, Int.toNat_natCast]))
    exact l0
/-- the rows up to l folds, the shortest first -/
def feaU (w n : Nat) (ks kn : Nat → Int) (nk : Nat) (P : sM) (l : Nat) : List (List Nat × sM) := catK (fun r => feas w n ks kn nk r P) (l + 1) 0
theorem c_meetAll {T : Nat → Nat × Nat} {c : pm_M × pm_C} {q s nw w n l : Nat} {N : sM} {S : Nat → Nat → Int} {B : bS} (hC : xC T S q s nw w n N) (hB : bR S q B) (hl : l ≤ 4) (hmet : B.1.2.2.2 ≤ 5000) :
    zR 10 50 [.ref q, .int (zI l), .retAddr 0, .retAddr 0] T S c (fun v S' => v = none ∧ (∀ a, (a < q ∨ q + 77 ≤ a) → S' a = S a) ∧ (S' (q + 4) = S (q + 4) ∧ S' (q + 1) = S (q + 1)) ∧ (∀ j, j ≠ 0 → j ≠ 1 → j ≠ 5 → j ≠ 6 → j ≠ 16 → S' q j = S q j) ∧ bR S' q ((feaU w n (S (s + 6)) (S (s + 7)) (S s 6).toNat (mp (S s 0) (S s 1)) l).foldl (prB n (S q 14) (fun no tu tr => flE S s no tu (S q 15) tr 0 200) N []) B)) := by
  obtain ⟨⟨l6, l4, l7⟩, ⟨a1, a2, a3⟩, ⟨b1, b2, b3⟩, ⟨c1, c2⟩, ⟨d1, d2⟩, e1, e2⟩ := id hC
  obtain ⟨t0, t1, t2, t3, t4, t5, tL6, tL15, tL23, tL32, tL41, tL50, tL59, tL68⟩ := id l6
  obtain ⟨u0, u1, u2, u3, u4, u5, u6, u7⟩ := id l4
  have la := xS l6 (show 0 < 5 by omega)
  rw [Nat.mul_zero, Nat.add_zero] at la
  have ta0 : T (q + 32) = (8, 0) := la.1
  have e4 : (S (q + 4) 0).toNat = q + 32 := by have := a3 0 (by omega); omega
  have e12 : (S q 12).toNat = s := by omega
  have hs1 := b1.1
  obtain ⟨W, hW⟩ : ∃ W : Nat, S s 0 = W := ⟨w, b2⟩
  obtain ⟨H, hH⟩ : ∃ H : Nat, S s 1 = H := ⟨(S s 1).toNat, by omega⟩
  have hwW : w = W := by omega
  subst hwW
  have hn : n = H * w := by
    have : (n : Int) = ((H * w : Nat) : Int) := by rw [b3, hH, Nat.mul_comm]; rfl
    omega
  obtain ⟨S1, hr1, hf1, hR1⟩ := s_layPlain (T := T) (S := S) (c := c) (q := q + 32) (W := w) (H := H) la (by omega) (by omega)
  have hIp := shI_mp (W := w) (H := H) (by omega) (by omega)
  rw [← hn] at hR1 hIp
  have x1 : xF q 0 S S1 → False ∨ True := fun _ => .inr trivial
  have hC1 : xC T S1 q s nw w n N := by
    refine ⟨⟨l6, l4, l7⟩, ⟨?_, ?_, fun i hi => ?_⟩, ⟨b1.eq (fun a x y => hf1 a (by omega)), ?_, ?_⟩, ⟨c1.eq (fun a x y => hf1 a (by omega)), c2⟩, ⟨d1, d2⟩, ?_, ?_⟩
    · rw [hf1 q (by omega)]
      exact a1
    · rw [hf1 q (by omega)]
      exact a2
    · rw [hf1 _ (by omega)]
      exact a3 i hi
    · rw [hf1 s (by omega)]
      exact hW
    · rw [hf1 s (by omega)]
      exact b3
    · rw [hf1 q (by omega)]
      exact e1
    · rw [hf1 q (by omega)]
      exact e2
  have hB1 : bR S1 q B := hB.eq (hf1 _ (by omega)) (hf1 _ (by omega)) (hf1 _ (by omega))
  refine zR_of ?_
  have eP : mp (S s 0) (S s 1) = mp (w : Int) (H : Int) := by rw [hW, hH]
  rw [eP]
  generalize hfin : (feaU w n (S (s + 6)) (S (s + 7)) (S s 6).toNat (mp (w : Int) (H : Int)) l).foldl (prB n (S q 14) (fun no tu tr => flE S s no tu (S q 15) tr 0 200) N []) B = Bf
  generalize hQf : zQ T c (fun v S' => v = none ∧ (∀ a, (a < q ∨ q + 77 ≤ a) → S' a = S a) ∧ (S' (q + 4) = S (q + 4) ∧ S' (q + 1) = S (q + 1)) ∧ (∀ j, j ≠ 0 → j ≠ 1 → j ≠ 5 → j ≠ 6 → j ≠ 16 → S' q j = S q j) ∧ bR S' q Bf) = Qf
  unfold feaU at hfin
  generalize hP : mp (w : Int) (H : Int) = P at *
  have loop : ∀ (cn r : Nat) (S2 : Nat → Nat → Int) (B2 : bS), r + cn = l + 1 → xF q 0 S1 S2 → bR S2 q B2 → (r = 0 → B2.1.2.2.2 ≤ 5000) → (catK (fun r => feas w n (S (s + 6)) (S (s + 7)) (S s 6).toNat r P) cn r).foldl (prB n (S q 14) (fun no tu tr => flE S s no tu (S q 15) tr 0 200) N []) B2 = Bf →
      px_Ev 10 50 32 [.ref q, .int (zI l), .ref (q + 32), .int (zI r)] [] (zh T S2 c) Qf := by
    intro cn
    induction cn with
    | zero =>
      intro r S2 B2 hr hx hb h0 he
      have he' : B2 = Bf := he
      rw [he'] at hb
      have fin := zQ_in (T := T) (c := c) (P := fun v S' => v = none ∧ (∀ a, (a < q ∨ q + 77 ≤ a) → S' a = S a) ∧ (S' (q + 4) = S (q + 4) ∧ S' (q + 1) = S (q + 1)) ∧ (∀ j, j ≠ 0 → j ≠ 1 → j ≠ 5 → j ≠ 6 → j ≠ 16 → S' q j = S q j) ∧ bR S' q Bf) (v := none) (S' := S2)
        ⟨rfl, fun a ha => by rw [hx.1 a (by omega) (by omega) (by omega) (by omega) (by omega) (by omega), hf1 a (by omega)], ⟨by rw [hx.1 _ (by omega) (by omega) (by omega) (by omega) (by omega) (by omega), hf1 _ (by omega)], by rw [hx.1 _ (by omega) (by omega) (by omega) (by omega) (by omega) (by omega), hf1 _ (by omega)]⟩, fun j h1 h2 h3 h4 h5 => by rw [hx.2.1 j h1 h2 h3 h4 h5, hf1 q (by omega)], hb⟩
      rw [hQf] at fin
      rw [el_X6_meetAll_32]; repeat' (first | (simp (disch := first | with_reducible assumption | omega | decide | (simp only [ps_low, List.map_cons, List.map_nil, Value.category, List.sum_cons, List.sum_nil]; decide)) only [el_X6_meetAll_0, el_X6_meetAll_1, el_X6_meetAll_4, el_X6_meetAll_5, el_X6_meetAll_6, el_X6_meetAll_7, el_X6_meetAll_8, el_X6_meetAll_11, el_X6_meetAll_12, el_X6_meetAll_13, el_X6_meetAll_14, el_X6_meetAll_17, el_X6_meetAll_20, el_X6_meetAll_21, el_X6_meetAll_24, el_X6_meetAll_30, el_X6_meetAll_31, el_X6_meetAll_33, el_X6_meetAll_34, el_X6_meetAll_37, el_X6_meetAll_38, el_X6_meetAll_39, el_X6_meetAll_42, el_X6_meetAll_43, el_X6_meetAll_44, el_X6_meetAll_48, el_X6_meetAll_51, el_X6_meetAll_54, gf_4_0, gf_4_1, gf_6_12, gf_6_9, px_ifp, px_ifn, zh_1, zc_1, zc_2, zc_3, zc_4, zc_5, zc_6, zc_7, zc_8, zc_9, zc_10, zc_11, zc_12, zc_20, zc_21, zc_22, zp_1, zp_2, zp_3, zp_4, zp_5, zp_6, zp_7, zp_8, zp_9, zp_10, zp_11, zp_12, zp_20, zp_21, zp_22, upS_eq, upS_ne, upS_up, upz_eq, upz_ne, upz_up, px_al_aI, px_as_aI, px_as_aZ, px_as_aC, px_ln_aI, Option.toList, List.cons_append, List.nil_append, Int.reduceAdd, Int.reduceSub, Int.reduceMul, ↓reduceIte, Nat.reduceEqDiff, eq_self, Int.reduceEq, Int.reduceLT, Int.reduceLE, Int.reduceNe, Int.reduceNeg, Int.reduceToNat, ne_eq, not_true_eq_false, not_false_eq_true, t0, t1, t2, t3, t4, t5, u0, u1, u2, u3, u4, u5, u6, u7]; repeat (first | simp (disch := first | omega | decide) only [upz_srt, upy_upz, upz_up, upS_srt, upT_upS, upS_up] | simp (disch := first | with_reducible assumption | omega | decide | (simp only [ps_low, List.map_cons, List.map_nil, Value.category, List.sum_cons, List.sum_nil]; decide)) only [el_X6_meetAll_0, el_X6_meetAll_1, el_X6_meetAll_4, el_X6_meetAll_5, el_X6_meetAll_6, el_X6_meetAll_7, el_X6_meetAll_8, el_X6_meetAll_11, el_X6_meetAll_12, el_X6_meetAll_13, el_X6_meetAll_14, el_X6_meetAll_17, el_X6_meetAll_20, el_X6_meetAll_21, el_X6_meetAll_24, el_X6_meetAll_30, el_X6_meetAll_31, el_X6_meetAll_33, el_X6_meetAll_34, el_X6_meetAll_37, el_X6_meetAll_38, el_X6_meetAll_39, el_X6_meetAll_42, el_X6_meetAll_43, el_X6_meetAll_44, el_X6_meetAll_48, el_X6_meetAll_51, el_X6_meetAll_54, gf_4_0, gf_4_1, gf_6_12, gf_6_9, px_ifp, px_ifn, zh_1, zc_1, zc_2, zc_3, zc_4, zc_5, zc_6, zc_7, zc_8, zc_9, zc_10, zc_11, zc_12, zc_20, zc_21, zc_22, zp_1, zp_2, zp_3, zp_4, zp_5, zp_6, zp_7, zp_8, zp_9, zp_10, zp_11, zp_12, zp_20, zp_21, zp_22, upS_eq, upS_ne, upS_up, upz_eq, upz_ne, upz_up, px_al_aI, px_as_aI, px_as_aZ, px_as_aC, px_ln_aI, Option.toList, List.cons_append, List.nil_append, Int.reduceAdd, Int.reduceSub, Int.reduceMul, ↓reduceIte, Nat.reduceEqDiff, eq_self, Int.reduceEq, Int.reduceLT, Int.reduceLE, Int.reduceNe, Int.reduceNeg, Int.reduceToNat, ne_eq, not_true_eq_false, not_false_eq_true, t0, t1, t2, t3, t4, t5, u0, u1, u2, u3, u4, u5, u6, u7])) | simp (disch := first | omega | decide) only [upz_srt, upy_upz, upz_up, upS_srt, upT_upS, upS_up] | with_reducible refine px_ite (fun _ => ?_) (fun _ => ?_))
      exact fin
    | succ cn ih =>
      intro r S2 B2 hr hx hb h0 he
      unfold catK at he
      rw [List.foldl_append] at he
      have es : ∀ a, s ≤ a → a < s + 8 → S2 a = S a := fun a x y => by rw [hx.1 a (by omega) (by omega) (by omega) (by omega) (by omega) (by omega), hf1 a (by omega)]
      have j14 : S2 q 14 = S q 14 := by rw [hx.2.1 14 (by decide) (by decide) (by decide) (by decide) (by decide), hf1 q (by omega)]
      have j15 : S2 q 15 = S q 15 := by rw [hx.2.1 15 (by decide) (by decide) (by decide) (by decide) (by decide), hf1 q (by omega)]
      have hbm := hb.2.1.2.1
      have hM2 : shR S2 (q + 32) n P := hR1.eq (fun a x y => hx.1 a (by omega) (by omega) (by omega) (by omega) (by omega) (by omega))
      have go : ∀ S3 B3, px_R (5 + r) 51 [.ref q, .int (zI 0), .int (zI r), .retAddr 0, .retAddr 0] (zh T S2 c) (.inl none) (zh T S3 c) → xF q 0 S2 S3 → bR S3 q B3 → (catK (fun r => feas w n (S (s + 6)) (S (s + 7)) (S s 6).toNat r P) cn (r + 1)).foldl (prB n (S q 14) (fun no tu tr => flE S s no tu (S q 15) tr 0 200) N []) B3 = Bf → px_Ev 10 50 32 [.ref q, .int (zI l), .ref (q + 32), .int (zI r)] [] (zh T S2 c) Qf := by
        intro S3 B3 hr3 hx3 hb3 he3
        have nx := ih (r + 1) S3 B3 (by omega) (hx.trans hx3) hb3 (fun z => by omega) he3
        rw [el_X6_meetAll_32]; repeat' (first | (simp (disch := first | with_reducible assumption | omega | decide | (simp only [ps_low, List.map_cons, List.map_nil, Value.category, List.sum_cons, List.sum_nil]; decide)) only [el_X6_meetAll_0, el_X6_meetAll_1, el_X6_meetAll_4, el_X6_meetAll_5, el_X6_meetAll_6, el_X6_meetAll_7, el_X6_meetAll_8, el_X6_meetAll_11, el_X6_meetAll_12, el_X6_meetAll_13, el_X6_meetAll_14, el_X6_meetAll_17, el_X6_meetAll_20, el_X6_meetAll_21, el_X6_meetAll_24, el_X6_meetAll_30, el_X6_meetAll_31, el_X6_meetAll_33, el_X6_meetAll_34, el_X6_meetAll_37, el_X6_meetAll_38, el_X6_meetAll_39, el_X6_meetAll_42, el_X6_meetAll_43, el_X6_meetAll_44, el_X6_meetAll_48, el_X6_meetAll_51, el_X6_meetAll_54, gf_4_0, gf_4_1, gf_6_12, gf_6_9, px_ifp, px_ifn, zh_1, zc_1, zc_2, zc_3, zc_4, zc_5, zc_6, zc_7, zc_8, zc_9, zc_10, zc_11, zc_12, zc_20, zc_21, zc_22, zp_1, zp_2, zp_3, zp_4, zp_5, zp_6, zp_7, zp_8, zp_9, zp_10, zp_11, zp_12, zp_20, zp_21, zp_22, upS_eq, upS_ne, upS_up, upz_eq, upz_ne, upz_up, px_al_aI, px_as_aI, px_as_aZ, px_as_aC, px_ln_aI, Option.toList, List.cons_append, List.nil_append, Int.reduceAdd, Int.reduceSub, Int.reduceMul, ↓reduceIte, Nat.reduceEqDiff, eq_self, Int.reduceEq, Int.reduceLT, Int.reduceLE, Int.reduceNe, Int.reduceNeg, Int.reduceToNat, ne_eq, not_true_eq_false, not_false_eq_true, t0, t1, t2, t3, t4, t5, u0, u1, u2, u3, u4, u5, u6, u7, el_X6_meetAll_45 (hr3 ..) _ _]; repeat (first | simp (disch := first | omega | decide) only [upz_srt, upy_upz, upz_up, upS_srt, upT_upS, upS_up] | simp (disch := first | with_reducible assumption | omega | decide | (simp only [ps_low, List.map_cons, List.map_nil, Value.category, List.sum_cons, List.sum_nil]; decide)) only [el_X6_meetAll_0, el_X6_meetAll_1, el_X6_meetAll_4, el_X6_meetAll_5, el_X6_meetAll_6, el_X6_meetAll_7, el_X6_meetAll_8, el_X6_meetAll_11, el_X6_meetAll_12, el_X6_meetAll_13, el_X6_meetAll_14, el_X6_meetAll_17, el_X6_meetAll_20, el_X6_meetAll_21, el_X6_meetAll_24, el_X6_meetAll_30, el_X6_meetAll_31, el_X6_meetAll_33, el_X6_meetAll_34, el_X6_meetAll_37, el_X6_meetAll_38, el_X6_meetAll_39, el_X6_meetAll_42, el_X6_meetAll_43, el_X6_meetAll_44, el_X6_meetAll_48, el_X6_meetAll_51, el_X6_meetAll_54, gf_4_0, gf_4_1, gf_6_12, gf_6_9, px_ifp, px_ifn, zh_1, zc_1, zc_2, zc_3, zc_4, zc_5, zc_6, zc_7, zc_8, zc_9, zc_10, zc_11, zc_12, zc_20, zc_21, zc_22, zp_1, zp_2, zp_3, zp_4, zp_5, zp_6, zp_7, zp_8, zp_9, zp_10, zp_11, zp_12, zp_20, zp_21, zp_22, upS_eq, upS_ne, upS_up, upz_eq, upz_ne, upz_up, px_al_aI, px_as_aI, px_as_aZ, px_as_aC, px_ln_aI, Option.toList, List.cons_append, List.nil_append, Int.reduceAdd, Int.reduceSub, Int.reduceMul, ↓reduceIte, Nat.reduceEqDiff, eq_self, Int.reduceEq, Int.reduceLT, Int.reduceLE, Int.reduceNe, Int.reduceNeg, Int.reduceToNat, ne_eq, not_true_eq_false, not_false_eq_true, t0, t1, t2, t3, t4, t5, u0, u1, u2, u3, u4, u5, u6, u7, el_X6_meetAll_45 (hr3 ..) _ _])) | simp (disch := first | omega | decide) only [upz_srt, upy_upz, upz_up, upS_srt, upT_upS, upS_up] | with_reducible refine px_ite (fun _ => ?_) (fun _ => ?_))
        exact nx
      by_cases h5 : 5000 < B2.1.2.2.2
      · rw [prB_spent h5] at he
        obtain ⟨k, rfl⟩ : ∃ k, r = k + 1 := ⟨r - 1, by
          have : r ≠ 0 := fun z => by have := h0 z; omega
          omega⟩
        refine go S2 B2 ?_ xF.refl hb he
        have l0 := xS l6 (show 0 < 5 by omega)
        have s12 : (S2 q 12).toNat = s := by rw [hx.2.1 12 (by decide) (by decide) (by decide) (by decide) (by decide), hf1 q (by omega)]; exact e12
        have s6 : S2 s 6 = S s 6 := by rw [es s (by omega) (by omega)]
        have s4 : (S2 (q + 4) 0).toNat = q + 32 := by rw [hx.1 (q + 4) (by omega) (by omega) (by omega) (by omega) (by omega) (by omega), hf1 _ (by omega)]; exact e4
        have hsp := c_isSpent (T := T) (S := S2) (c := c) (q := q) t0 (by have := hb.1.2.1; omega)
        rw [hb.1.2.1, if_pos h5] at hsp
        refine px_ofQ fun Q hQ => ?_
        (simp (disch := first | with_reducible assumption | omega | decide | (simp only [ps_low, List.map_cons, List.map_nil, Value.category, List.sum_cons, List.sum_nil]; decide)) only [el_X6_extend_0, el_X6_extend_1, el_X6_extend_4, el_X6_extend_5, el_X6_extend_6, el_X6_extend_9, el_X6_extend_10, el_X6_extend_11, el_X6_extend_14, el_X6_extend_15, el_X6_extend_16, el_X6_extend_19, el_X6_extend_20, el_X6_extend_21, el_X6_extend_22, el_X6_extend_23, el_X6_extend_26, el_X6_extend_27, el_X6_extend_28, el_X6_extend_29, el_X6_extend_32, el_X6_extend_33, el_X6_extend_34, el_X6_extend_38, el_X6_extend_39, el_X6_extend_40, el_X6_extend_42, el_X6_extend_44, el_X6_extend_45, el_X6_extend_48, el_X6_extend_51, el_X6_extend_54, el_X6_extend_58, el_X6_extend_61, el_X6_extend_62, el_X6_extend_63, el_X6_extend_64, el_X6_extend_69, el_X6_extend_72, el_X6_extend_73, el_X6_extend_74, el_X6_extend_75, el_X6_extend_76, el_X6_extend_80, el_X6_extend_83, el_X6_extend_86, gf_4_6, gf_6_12, gf_6_9, px_ifp, px_ifn, zh_1, zc_1, zc_2, zc_3, zc_4, zc_5, zc_6, zc_7, zc_8, zc_9, zc_10, zc_11, zc_12, zc_20, zc_21, zc_22, zp_1, zp_2, zp_3, zp_4, zp_5, zp_6, zp_7, zp_8, zp_9, zp_10, zp_11, zp_12, zp_20, zp_21, zp_22, upS_eq, upS_ne, upS_up, upz_eq, upz_ne, upz_up, px_al_aI, px_as_aI, px_as_aZ, px_as_aC, px_ln_aI, Option.toList, List.cons_append, List.nil_append, Int.reduceAdd, Int.reduceSub, Int.reduceMul, ↓reduceIte, Nat.reduceEqDiff, eq_self, Int.reduceEq, Int.reduceLT, Int.reduceLE, Int.reduceNe, Int.reduceNeg, Int.reduceToNat, ne_eq, not_true_eq_false, not_false_eq_true, t0, t1, t2, t3, t4, t5, u0, u1, u2, u3, u4, u5, u6, u7, zc_24, px_aa_z, s4, ta0, s12, s6, el_X6_extend_55 (hsp ..) _ (zo_7 _) _]; repeat (first | simp (disch := first | omega | decide) only [upz_srt, upy_upz, upz_up, upS_srt, upT_upS, upS_up] | simp (disch := first | with_reducible assumption | omega | decide | (simp only [ps_low, List.map_cons, List.map_nil, Value.category, List.sum_cons, List.sum_nil]; decide)) only [el_X6_extend_0, el_X6_extend_1, el_X6_extend_4, el_X6_extend_5, el_X6_extend_6, el_X6_extend_9, el_X6_extend_10, el_X6_extend_11, el_X6_extend_14, el_X6_extend_15, el_X6_extend_16, el_X6_extend_19, el_X6_extend_20, el_X6_extend_21, el_X6_extend_22, el_X6_extend_23, el_X6_extend_26, el_X6_extend_27, el_X6_extend_28, el_X6_extend_29, el_X6_extend_32, el_X6_extend_33, el_X6_extend_34, el_X6_extend_38, el_X6_extend_39, el_X6_extend_40, el_X6_extend_42, el_X6_extend_44, el_X6_extend_45, el_X6_extend_48, el_X6_extend_51, el_X6_extend_54, el_X6_extend_58, el_X6_extend_61, el_X6_extend_62, el_X6_extend_63, el_X6_extend_64, el_X6_extend_69, el_X6_extend_72, el_X6_extend_73, el_X6_extend_74, el_X6_extend_75, el_X6_extend_76, el_X6_extend_80, el_X6_extend_83, el_X6_extend_86, gf_4_6, gf_6_12, gf_6_9, px_ifp, px_ifn, zh_1, zc_1, zc_2, zc_3, zc_4, zc_5, zc_6, zc_7, zc_8, zc_9, zc_10, zc_11, zc_12, zc_20, zc_21, zc_22, zp_1, zp_2, zp_3, zp_4, zp_5, zp_6, zp_7, zp_8, zp_9, zp_10, zp_11, zp_12, zp_20, zp_21, zp_22, upS_eq, upS_ne, upS_up, upz_eq, upz_ne, upz_up, px_al_aI, px_as_aI, px_as_aZ, px_as_aC, px_ln_aI, Option.toList, List.cons_append, List.nil_append, Int.reduceAdd, Int.reduceSub, Int.reduceMul, ↓reduceIte, Nat.reduceEqDiff, eq_self, Int.reduceEq, Int.reduceLT, Int.reduceLE, Int.reduceNe, Int.reduceNeg, Int.reduceToNat, ne_eq, not_true_eq_false, not_false_eq_true, t0, t1, t2, t3, t4, t5, u0, u1, u2, u3, u4, u5, u6, u7, zc_24, px_aa_z, s4, ta0, s12, s6, el_X6_extend_55 (hsp ..) _ (zo_7 _) _]))
        exact hQ
      · obtain ⟨v3, S3, hr3, rfl, hx3, hb3⟩ := c_extend (c := c) r 0 S2 B2 [] P (by
          refine ⟨hC1.1, ⟨?_, ?_, fun i hi => ?_⟩, ⟨b1.eq es, ?_, ?_⟩, ⟨c1.eq (fun a x y => by rw [hx.1 a (by omega) (by omega) (by omega) (by omega) (by omega) (by omega), hf1 a (by omega)]), c2⟩, ⟨d1, d2⟩, ?_, ?_⟩
          · rw [hx.2.1 12 (by decide) (by decide) (by decide) (by decide) (by decide), hf1 q (by omega)]
            exact a1
          · rw [hx.2.1 13 (by decide) (by decide) (by decide) (by decide) (by decide), hf1 q (by omega)]
            exact a2
          · rw [hx.1 _ (by omega) (by omega) (by omega) (by omega) (by omega) (by omega), hf1 _ (by omega)]
            exact a3 i hi
          · rw [es s (by omega) (by omega)]
            exact hW
          · rw [es s (by omega) (by omega)]
            exact b3
          · rw [j14]
            exact e1
          · rw [j15]
            exact e2) hb rfl (by omega) (fun j hj => absurd hj (Nat.not_lt_zero j)) (by omega) hM2 hIp
        have eE : (fun no tu tr => flE S2 s no tu (S2 q 15) tr 0 200) = (fun no tu tr => flE S s no tu (S q 15) tr 0 200) := by
          funext no tu tr
          rw [j15, flE_eq (S := S) es]
        rw [es (s + 6) (by omega) (by omega), es (s + 7) (by omega) (by omega), es s (by omega) (by omega), j14, eE] at hb3
        rw [Nat.zero_add] at hr3
        exact go S3 _ hr3 hx3 hb3 he
  have l0 := loop (l + 1) 0 S1 B (by omega) xF.refl hB1 (fun _ => hmet) hfin
  (simp (disch := first | with_reducible assumption | omega | decide | (simp only [ps_low, List.map_cons, List.map_nil, Value.category, List.sum_cons, List.sum_nil]; decide)) only [el_X6_meetAll_0, el_X6_meetAll_1, el_X6_meetAll_4, el_X6_meetAll_5, el_X6_meetAll_6, el_X6_meetAll_7, el_X6_meetAll_8, el_X6_meetAll_11, el_X6_meetAll_12, el_X6_meetAll_13, el_X6_meetAll_14, el_X6_meetAll_17, el_X6_meetAll_20, el_X6_meetAll_21, el_X6_meetAll_24, el_X6_meetAll_30, el_X6_meetAll_31, gf_4_0, gf_4_1, gf_6_12, gf_6_9, px_ifp, px_ifn, zh_1, zc_1, zc_2, zc_3, zc_4, zc_5, zc_6, zc_7, zc_8, zc_9, zc_10, zc_11, zc_12, zc_20, zc_21, zc_22, zp_1, zp_2, zp_3, zp_4, zp_5, zp_6, zp_7, zp_8, zp_9, zp_10, zp_11, zp_12, zp_20, zp_21, zp_22, upS_eq, upS_ne, upS_up, upz_eq, upz_ne, upz_up, px_al_aI, px_as_aI, px_as_aZ, px_as_aC, px_ln_aI, Option.toList, List.cons_append, List.nil_append, Int.reduceAdd, Int.reduceSub, Int.reduceMul, ↓reduceIte, Nat.reduceEqDiff, eq_self, Int.reduceEq, Int.reduceLT, Int.reduceLE, Int.reduceNe, Int.reduceNeg, Int.reduceToNat, ne_eq, not_true_eq_false, not_false_eq_true, t0, t1, t2, t3, t4, t5, u0, u1, u2, u3, u4, u5, u6, u7, zc_24, px_aa_z, e4, e12, ta0, hW, hH, el_X6_meetAll_27 (hr1 ..) _ (zo_8 _) _]; repeat (first | simp (disch := first | omega | decide) only [upz_srt, upy_upz, upz_up, upS_srt, upT_upS, upS_up] | simp (disch := first | with_reducible assumption | omega | decide | (simp only [ps_low, List.map_cons, List.map_nil, Value.category, List.sum_cons, List.sum_nil]; decide)) only [el_X6_meetAll_0, el_X6_meetAll_1, el_X6_meetAll_4, el_X6_meetAll_5, el_X6_meetAll_6, el_X6_meetAll_7, el_X6_meetAll_8, el_X6_meetAll_11, el_X6_meetAll_12, el_X6_meetAll_13, el_X6_meetAll_14, el_X6_meetAll_17, el_X6_meetAll_20, el_X6_meetAll_21, el_X6_meetAll_24, el_X6_meetAll_30, el_X6_meetAll_31, gf_4_0, gf_4_1, gf_6_12, gf_6_9, px_ifp, px_ifn, zh_1, zc_1, zc_2, zc_3, zc_4, zc_5, zc_6, zc_7, zc_8, zc_9, zc_10, zc_11, zc_12, zc_20, zc_21, zc_22, zp_1, zp_2, zp_3, zp_4, zp_5, zp_6, zp_7, zp_8, zp_9, zp_10, zp_11, zp_12, zp_20, zp_21, zp_22, upS_eq, upS_ne, upS_up, upz_eq, upz_ne, upz_up, px_al_aI, px_as_aI, px_as_aZ, px_as_aC, px_ln_aI, Option.toList, List.cons_append, List.nil_append, Int.reduceAdd, Int.reduceSub, Int.reduceMul, ↓reduceIte, Nat.reduceEqDiff, eq_self, Int.reduceEq, Int.reduceLT, Int.reduceLE, Int.reduceNe, Int.reduceNeg, Int.reduceToNat, ne_eq, not_true_eq_false, not_false_eq_true, t0, t1, t2, t3, t4, t5, u0, u1, u2, u3, u4, u5, u6, u7, zc_24, px_aa_z, e4, e12, ta0, hW, hH, el_X6_meetAll_27 (hr1 ..) _ (zo_8 _) _]))
  exact l0
