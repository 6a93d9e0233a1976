/-! A SEARCH: ((hits, firstValue, firstTrim, rowsMet), first, flown) -/
abbrev bS : Type := (Int × Int × Int × Int) × List Nat × (Nat → Int)
def samCb (n : Nat) (M N : sM) : Bool := (List.range n).all fun c => decide (M.2 5 c % 10 = N.2 5 c % 10) && decide (M.2 6 c % 10 = N.2 6 c % 10)
def samWb (n : Nat) (M N : sM) : Bool := decide (M.1 2 = N.1 2) && (decide (M.1 3 = N.1 3) && (List.range 8).all fun x => (List.range 8).all fun y => decide (cnt (M.2 2) (M.2 3) x y n = cnt (N.2 2) (N.2 3) x y n))
theorem samCb_iff {n : Nat} {M N : sM} : samCb n M N = true ↔ samC n M N := by
  unfold samCb samC
  rw [List.all_eq_true]
  constructor
  · intro h c hc
    have := h c (List.mem_range.mpr hc)
    rw [Bool.and_eq_true, decide_eq_true_iff, decide_eq_true_iff] at this
    exact this
  · intro h c hc
    have := h c (List.mem_range.mp hc)
    rw [Bool.and_eq_true, decide_eq_true_iff, decide_eq_true_iff]
    exact this
theorem samWb_iff {n : Nat} {M N : sM} : samWb n M N = true ↔ samW n M N := by
  unfold samWb samW
  rw [Bool.and_eq_true, Bool.and_eq_true, decide_eq_true_iff, decide_eq_true_iff, List.all_eq_true]
  constructor
  · rintro ⟨h1, h2, h3⟩
    refine ⟨h1, h2, fun x y hx hy => ?_⟩
    have := h3 x (List.mem_range.mpr hx)
    rw [List.all_eq_true] at this
    have := this y (List.mem_range.mpr hy)
    rw [decide_eq_true_iff] at this
    exact this
  · rintro ⟨h1, h2, h3⟩
    refine ⟨h1, h2, fun x hx => ?_⟩
    rw [List.all_eq_true]
    intro y hy
    rw [decide_eq_true_iff]
    exact h3 x y (List.mem_range.mp hx) (List.mem_range.mp hy)
/-- a hit -/
def hitB (row : List Nat) (trim val : Int) (B : bS) : bS := if B.1.1 = 0 ∨ B.1.2.1 < val then ((B.1.1 + 1, val, trim, B.1.2.2.2), row, B.2.2) else ((B.1.1 + 1, B.1.2.1, B.1.2.2.1, B.1.2.2.2), B.2.1, B.2.2)
/-- by each trim, k of them from tr on -/
def trB (aim : Int) (E : Int → Nat → Int) (row : List Nat) : Nat → Int → bS → bS
  | 0, _, B => B
  | k + 1, tr, B => trB aim E row k (tr + 1) (if aim ≠ 2 ∨ E tr 5 ≠ 0 then hitB row tr (if aim = 1 then E tr 4 else E tr 0) B else B)
def kdM (n : Nat) (M : sM) : Nat := (nosM n M * 17 + trn (winM n M) + 8).toNat
def thB (n : Nat) (aim : Int) (E : Int → Int → Int → Nat → Int) (M : sM) (row : List Nat) (B : bS) : bS := if B.2.2 (kdM n M) = 0 then trB aim (E (nosM n M) (trn (winM n M))) row 7 (-3) (B.1, B.2.1, upz B.2.2 (kdM n M) 1) else B
def meB (n : Nat) (aim : Int) (E : Int → Int → Int → Nat → Int) (N M : sM) (row : List Nat) (B : bS) : bS :=
  if 5000 < B.1.2.2.2 + 1 then ((B.1.1, B.1.2.1, B.1.2.2.1, B.1.2.2.2 + 1), B.2)
  else if aim = 3 then (if samCb n M N = true then hitB row 0 0 ((B.1.1, B.1.2.1, B.1.2.2.1, B.1.2.2.2 + 1), B.2) else ((B.1.1, B.1.2.1, B.1.2.2.1, B.1.2.2.2 + 1), B.2))
  else if aim = 4 then (if samWb n M N = true then hitB row 0 0 ((B.1.1, B.1.2.1, B.1.2.2.1, B.1.2.2.2 + 1), B.2) else ((B.1.1, B.1.2.1, B.1.2.2.1, B.1.2.2.2 + 1), B.2))
  else thB n aim E M row ((B.1.1, B.1.2.1, B.1.2.2.1, B.1.2.2.2 + 1), B.2)
/-- the Search's cells as these numbers tell -/
def bR (S : Nat → Nat → Int) (q : Nat) (B : bS) : Prop := (S q 0 = B.1.1 ∧ S q 16 = B.1.2.2.2 ∧ (∀ j, j < 170 → S (q + 5) j = B.2.2 j ∧ (B.2.2 j = 0 ∨ B.2.2 j = 1))) ∧ ((0 ≤ B.1.1 ∧ B.1.1 ≤ 7 * B.1.2.2.2) ∧ (0 ≤ B.1.2.2.2 ∧ B.1.2.2.2 ≤ 5001) ∧ (-5000 ≤ B.1.2.1 ∧ B.1.2.1 ≤ 5000)) ∧
  (1 ≤ B.1.1 → S q 1 = B.1.2.1 ∧ S q 5 = B.2.1.length ∧ S q 6 = B.1.2.2.1 ∧ B.2.1.length ≤ 4 ∧ ∀ j, j < B.2.1.length → S (q + 2) j = (B.2.1.getD j 0 : Nat))
/-- what may change -/
def xF (q d : Nat) (S S' : Nat → Nat → Int) : Prop := (∀ a, a ≠ q → a ≠ q + 2 → a ≠ q + 3 → a ≠ q + 5 → a ≠ q + 6 → (a < q + 41 + 9 * d ∨ q + 77 ≤ a) → S' a = S a) ∧ (∀ j, j ≠ 0 → j ≠ 1 → j ≠ 5 → j ≠ 6 → j ≠ 16 → S' q j = S q j) ∧ (∀ j, j < d → S' (q + 3) j = S (q + 3) j)
theorem xF.refl {q d : Nat} {S : Nat → Nat → Int} : xF q d S S := ⟨fun _ _ _ _ _ _ _ => rfl, fun _ _ _ _ _ _ => rfl, fun _ _ => rfl⟩
theorem xF.trans {q d : Nat} {S S' S'' : Nat → Nat → Int} (h : xF q d S S') (k : xF q d S' S'') : xF q d S S'' :=
  ⟨fun a h1 h2 h3 h4 h5 h6 => (k.1 a h1 h2 h3 h4 h5 h6).trans (h.1 a h1 h2 h3 h4 h5 h6), fun j h1 h2 h3 h4 h5 => (k.2.1 j h1 h2 h3 h4 h5).trans (h.2.1 j h1 h2 h3 h4 h5), fun j hj => (k.2.2 j hj).trans (h.2.2 j hj)⟩
theorem xF.le {q d e : Nat} {S S' : Nat → Nat → Int} (h : xF q e S S') (hd : d ≤ e) : xF q d S S' :=
  ⟨fun a h1 h2 h3 h4 h5 h6 => h.1 a h1 h2 h3 h4 h5 (by omega), h.2.1, fun j hj => h.2.2 j (by omega)⟩
/-- where a Search stands: the School at s, the sheet as it is now at nw -/
def xC (T : Nat → Nat × Nat) (S : Nat → Nat → Int) (q s nw w n : Nat) (N : sM) : Prop := (ly6 T q ∧ ly4 T s ∧ ly7 T nw) ∧ (S q 12 = s ∧ S q 13 = nw ∧ ∀ i, i < 5 → S (q + 4) i = ((q + 32 + 9 * i : Nat) : Int)) ∧ (scOk S s ∧ S s 0 = w ∧ (n : Int) = (w : Int) * S s 1) ∧ (shR S nw n N ∧ shI w n N) ∧ ((s + 8 ≤ q ∨ q + 77 ≤ s) ∧ (nw + 9 ≤ q ∨ q + 77 ≤ nw)) ∧ ((-2 ≤ S q 14 ∧ S q 14 ≤ 4) ∧ (0 ≤ S q 15 ∧ S q 15 ≤ 9))
theorem xC.eq {T : Nat → Nat × Nat} {S S' : Nat → Nat → Int} {q s nw w n d : Nat} {N : sM} (h : xC T S q s nw w n N) (k : xF q d S S') : xC T S' q s nw w n N := by
  obtain ⟨h1, ⟨a1, a2, a3⟩, ⟨b1, b2, b3⟩, ⟨c1, c2⟩, ⟨d1, d2⟩, e1, e2⟩ := h
  have es : ∀ a, s ≤ a → a < s + 8 → S' a = S a := fun a x y => k.1 a (by omega) (by omega) (by omega) (by omega) (by omega) (by omega)
  have en : ∀ a, nw ≤ a → a < nw + 8 → S' a = S a := fun a x y => k.1 a (by omega) (by omega) (by omega) (by omega) (by omega) (by omega)
  refine ⟨h1, ⟨?_, ?_, fun i hi => ?_⟩, ⟨b1.eq es, ?_, ?_⟩, ⟨c1.eq en, c2⟩, ⟨d1, d2⟩, ?_, ?_⟩
  · rw [k.2.1 12 (by decide) (by decide) (by decide) (by decide) (by decide)]
    exact a1
  · rw [k.2.1 13 (by decide) (by decide) (by decide) (by decide) (by decide)]
    exact a2
  · rw [k.1 (q + 4) (by omega) (by omega) (by omega) (by omega) (by omega) (by omega)]
    exact a3 i hi
  · rw [es s (by omega) (by omega)]
    exact b2
  · rw [es s (by omega) (by omega)]
    exact b3
  · rw [k.2.1 14 (by decide) (by decide) (by decide) (by decide) (by decide)]
    exact e1
  · rw [k.2.1 15 (by decide) (by decide) (by decide) (by decide) (by decide)]
    exact e2
theorem c_hit {T : Nat → Nat × Nat} {S : Nat → Nat → Int} {c : pm_M × pm_C} {q : Nat} {B : bS} {row : List Nat} {trim val : Int} (hq : ly6 T q) (hB : bR S q B) (hl : row.length ≤ 4) (hrow : ∀ j, j < row.length → S (q + 3) j = (row.getD j 0 : Nat)) (hv : -5000 ≤ val ∧ val ≤ 5000) (hb : B.1.1 + 1 ≤ 7 * B.1.2.2.2) :
    ∃ S', px_R 0 56 [.ref q, .int (zI row.length), .int (zI trim), .int (zI val)] (zh T S c) (.inl none) (zh T S' c) ∧ (∀ a, a ≠ q → a ≠ q + 2 → S' a = S a) ∧ (∀ j, j ≠ 0 → j ≠ 1 → j ≠ 5 → j ≠ 6 → S' q j = S q j) ∧ bR S' q (hitB row trim val B) := by
  obtain ⟨t0, t1, t2, t3, t4, t5, tL6, tL15, tL23, tL32, tL41, tL50, tL59, tL68⟩ := id hq
  obtain ⟨⟨h0, h16, hfl⟩, ⟨b0, b1, b2⟩, hF⟩ := hB
  unfold hitB
  by_cases g : B.1.1 = 0 ∨ B.1.2.1 < val
  · rw [if_pos g]
    refine ⟨upS (upS S q (upz (upz (upz (upz (S q) 0 (B.1.1 + 1)) 1 val) 5 row.length) 6 trim)) (q + 2) (cpz (S (q + 3)) (S (q + 2)) 0 0 4), px_ofQ fun Q hQ => ?_, fun a h1 h2 => by rw [upS_ne h2, upS_ne h1], fun j h1 h2 h3 h4 => ?_, ⟨⟨?_, ?_, fun j hj => ?_⟩, ⟨?_, b1, hv⟩, fun _ => ⟨?_, ?_, ?_, hl, fun j hj => ?_⟩⟩⟩
    · have fin : px_Ev 0 56 15 [.ref q, .int (zI row.length), .int (zI trim), .int (zI val)] [] (zh T S c) Q := by
        (simp (disch := first | with_reducible assumption | omega | decide | (simp only [ps_low, List.map_cons, List.map_nil, Value.category, List.sum_cons, List.sum_nil]; decide)) only [el_X6_hit_15, el_X6_hit_16, el_X6_hit_19, el_X6_hit_20, el_X6_hit_21, el_X6_hit_24, el_X6_hit_25, gf_6_7, gf_6_8, px_ifp, px_ifn, zh_1, zc_1, zc_2, zc_3, zc_4, zc_5, zc_6, zc_7, zc_8, zc_9, zc_10, zc_11, zc_12, zc_20, zc_21, zc_22, zp_1, zp_2, zp_3, zp_4, zp_5, zp_6, zp_7, zp_8, zp_9, zp_10, zp_11, zp_12, zp_20, zp_21, zp_22, upS_eq, upS_ne, upS_up, upz_eq, upz_ne, upz_up, px_al_aI, px_as_aI, px_as_aZ, px_as_aC, px_ln_aI, Option.toList, List.cons_append, List.nil_append, Int.reduceAdd, Int.reduceSub, Int.reduceMul, ↓reduceIte, Nat.reduceEqDiff, eq_self, Int.reduceEq, Int.reduceLT, Int.reduceLE, Int.reduceNe, Int.reduceNeg, Int.reduceToNat, ne_eq, not_true_eq_false, not_false_eq_true, t0, t1, t2, t3, t4, t5]; repeat (first | simp (disch := first | omega | decide) only [upz_srt, upy_upz, upz_up, upS_srt, upT_upS, upS_up] | simp (disch := first | with_reducible assumption | omega | decide | (simp only [ps_low, List.map_cons, List.map_nil, Value.category, List.sum_cons, List.sum_nil]; decide)) only [el_X6_hit_15, el_X6_hit_16, el_X6_hit_19, el_X6_hit_20, el_X6_hit_21, el_X6_hit_24, el_X6_hit_25, gf_6_7, gf_6_8, px_ifp, px_ifn, zh_1, zc_1, zc_2, zc_3, zc_4, zc_5, zc_6, zc_7, zc_8, zc_9, zc_10, zc_11, zc_12, zc_20, zc_21, zc_22, zp_1, zp_2, zp_3, zp_4, zp_5, zp_6, zp_7, zp_8, zp_9, zp_10, zp_11, zp_12, zp_20, zp_21, zp_22, upS_eq, upS_ne, upS_up, upz_eq, upz_ne, upz_up, px_al_aI, px_as_aI, px_as_aZ, px_as_aC, px_ln_aI, Option.toList, List.cons_append, List.nil_append, Int.reduceAdd, Int.reduceSub, Int.reduceMul, ↓reduceIte, Nat.reduceEqDiff, eq_self, Int.reduceEq, Int.reduceLT, Int.reduceLE, Int.reduceNe, Int.reduceNeg, Int.reduceToNat, ne_eq, not_true_eq_false, not_false_eq_true, t0, t1, t2, t3, t4, t5]))
        rw [el_X6_hit_26 (zo_20 t3) (zo_20 t2) (by omega) rfl]
        (simp (disch := first | with_reducible assumption | omega | decide | (simp only [ps_low, List.map_cons, List.map_nil, Value.category, List.sum_cons, List.sum_nil]; decide)) only [el_X6_hit_29, el_X6_hit_30, el_X6_hit_31, el_X6_hit_34, el_X6_hit_35, el_X6_hit_36, el_X6_hit_39, el_X6_hit_40, el_X6_hit_41, el_X6_hit_44, el_X6_hit_45, el_X6_hit_45i, el_X6_hit_46, el_X6_hit_49, el_X6_hit_50, el_X6_hit_51, el_X6_hit_54, gf_6_0, pf_6_0, pf_6_1, pf_6_5, pf_6_6, px_ifp, px_ifn, zh_1, zc_1, zc_2, zc_3, zc_4, zc_5, zc_6, zc_7, zc_8, zc_9, zc_10, zc_11, zc_12, zc_20, zc_21, zc_22, zp_1, zp_2, zp_3, zp_4, zp_5, zp_6, zp_7, zp_8, zp_9, zp_10, zp_11, zp_12, zp_20, zp_21, zp_22, upS_eq, upS_ne, upS_up, upz_eq, upz_ne, upz_up, px_al_aI, px_as_aI, px_as_aZ, px_as_aC, px_ln_aI, Option.toList, List.cons_append, List.nil_append, Int.reduceAdd, Int.reduceSub, Int.reduceMul, ↓reduceIte, Nat.reduceEqDiff, eq_self, Int.reduceEq, Int.reduceLT, Int.reduceLE, Int.reduceNe, Int.reduceNeg, Int.reduceToNat, ne_eq, not_true_eq_false, not_false_eq_true, t0, t1, t2, t3, t4, t5, h0]; repeat (first | simp (disch := first | omega | decide) only [upz_srt, upy_upz, upz_up, upS_srt, upT_upS, upS_up] | simp (disch := first | with_reducible assumption | omega | decide | (simp only [ps_low, List.map_cons, List.map_nil, Value.category, List.sum_cons, List.sum_nil]; decide)) only [el_X6_hit_29, el_X6_hit_30, el_X6_hit_31, el_X6_hit_34, el_X6_hit_35, el_X6_hit_36, el_X6_hit_39, el_X6_hit_40, el_X6_hit_41, el_X6_hit_44, el_X6_hit_45, el_X6_hit_45i, el_X6_hit_46, el_X6_hit_49, el_X6_hit_50, el_X6_hit_51, el_X6_hit_54, gf_6_0, pf_6_0, pf_6_1, pf_6_5, pf_6_6, px_ifp, px_ifn, zh_1, zc_1, zc_2, zc_3, zc_4, zc_5, zc_6, zc_7, zc_8, zc_9, zc_10, zc_11, zc_12, zc_20, zc_21, zc_22, zp_1, zp_2, zp_3, zp_4, zp_5, zp_6, zp_7, zp_8, zp_9, zp_10, zp_11, zp_12, zp_20, zp_21, zp_22, upS_eq, upS_ne, upS_up, upz_eq, upz_ne, upz_up, px_al_aI, px_as_aI, px_as_aZ, px_as_aC, px_ln_aI, Option.toList, List.cons_append, List.nil_append, Int.reduceAdd, Int.reduceSub, Int.reduceMul, ↓reduceIte, Nat.reduceEqDiff, eq_self, Int.reduceEq, Int.reduceLT, Int.reduceLE, Int.reduceNe, Int.reduceNeg, Int.reduceToNat, ne_eq, not_true_eq_false, not_false_eq_true, t0, t1, t2, t3, t4, t5, h0]))
        exact hQ
      by_cases g0 : B.1.1 = 0
      · rw [g0] at h0
        (simp (disch := first | with_reducible assumption | omega | decide | (simp only [ps_low, List.map_cons, List.map_nil, Value.category, List.sum_cons, List.sum_nil]; decide)) only [el_X6_hit_0, el_X6_hit_1, el_X6_hit_4, el_X6_hit_7, el_X6_hit_8, el_X6_hit_9, el_X6_hit_12, gf_6_0, gf_6_1, px_ifp, px_ifn, zh_1, zc_1, zc_2, zc_3, zc_4, zc_5, zc_6, zc_7, zc_8, zc_9, zc_10, zc_11, zc_12, zc_20, zc_21, zc_22, zp_1, zp_2, zp_3, zp_4, zp_5, zp_6, zp_7, zp_8, zp_9, zp_10, zp_11, zp_12, zp_20, zp_21, zp_22, upS_eq, upS_ne, upS_up, upz_eq, upz_ne, upz_up, px_al_aI, px_as_aI, px_as_aZ, px_as_aC, px_ln_aI, Option.toList, List.cons_append, List.nil_append, Int.reduceAdd, Int.reduceSub, Int.reduceMul, ↓reduceIte, Nat.reduceEqDiff, eq_self, Int.reduceEq, Int.reduceLT, Int.reduceLE, Int.reduceNe, Int.reduceNeg, Int.reduceToNat, ne_eq, not_true_eq_false, not_false_eq_true, t0, t1, t2, t3, t4, t5, h0]; repeat (first | simp (disch := first | omega | decide) only [upz_srt, upy_upz, upz_up, upS_srt, upT_upS, upS_up] | simp (disch := first | with_reducible assumption | omega | decide | (simp only [ps_low, List.map_cons, List.map_nil, Value.category, List.sum_cons, List.sum_nil]; decide)) only [el_X6_hit_0, el_X6_hit_1, el_X6_hit_4, el_X6_hit_7, el_X6_hit_8, el_X6_hit_9, el_X6_hit_12, gf_6_0, gf_6_1, px_ifp, px_ifn, zh_1, zc_1, zc_2, zc_3, zc_4, zc_5, zc_6, zc_7, zc_8, zc_9, zc_10, zc_11, zc_12, zc_20, zc_21, zc_22, zp_1, zp_2, zp_3, zp_4, zp_5, zp_6, zp_7, zp_8, zp_9, zp_10, zp_11, zp_12, zp_20, zp_21, zp_22, upS_eq, upS_ne, upS_up, upz_eq, upz_ne, upz_up, px_al_aI, px_as_aI, px_as_aZ, px_as_aC, px_ln_aI, Option.toList, List.cons_append, List.nil_append, Int.reduceAdd, Int.reduceSub, Int.reduceMul, ↓reduceIte, Nat.reduceEqDiff, eq_self, Int.reduceEq, Int.reduceLT, Int.reduceLE, Int.reduceNe, Int.reduceNeg, Int.reduceToNat, ne_eq, not_true_eq_false, not_false_eq_true, t0, t1, t2, t3, t4, t5, h0]))
        exact fin
      · have h1 := (hF (by omega)).1
        have g1 := g.resolve_left g0
        (simp (disch := first | with_reducible assumption | omega | decide | (simp only [ps_low, List.map_cons, List.map_nil, Value.category, List.sum_cons, List.sum_nil]; decide)) only [el_X6_hit_0, el_X6_hit_1, el_X6_hit_4, el_X6_hit_7, el_X6_hit_8, el_X6_hit_9, el_X6_hit_12, gf_6_0, gf_6_1, px_ifp, px_ifn, zh_1, zc_1, zc_2, zc_3, zc_4, zc_5, zc_6, zc_7, zc_8, zc_9, zc_10, zc_11, zc_12, zc_20, zc_21, zc_22, zp_1, zp_2, zp_3, zp_4, zp_5, zp_6, zp_7, zp_8, zp_9, zp_10, zp_11, zp_12, zp_20, zp_21, zp_22, upS_eq, upS_ne, upS_up, upz_eq, upz_ne, upz_up, px_al_aI, px_as_aI, px_as_aZ, px_as_aC, px_ln_aI, Option.toList, List.cons_append, List.nil_append, Int.reduceAdd, Int.reduceSub, Int.reduceMul, ↓reduceIte, Nat.reduceEqDiff, eq_self, Int.reduceEq, Int.reduceLT, Int.reduceLE, Int.reduceNe, Int.reduceNeg, Int.reduceToNat, ne_eq, not_true_eq_false, not_false_eq_true, t0, t1, t2, t3, t4, t5, h0, h1]; repeat (first | simp (disch := first | omega | decide) only [upz_srt, upy_upz, upz_up, upS_srt, upT_upS, upS_up] | simp (disch := first | with_reducible assumption | omega | decide | (simp only [ps_low, List.map_cons, List.map_nil, Value.category, List.sum_cons, List.sum_nil]; decide)) only [el_X6_hit_0, el_X6_hit_1, el_X6_hit_4, el_X6_hit_7, el_X6_hit_8, el_X6_hit_9, el_X6_hit_12, gf_6_0, gf_6_1, px_ifp, px_ifn, zh_1, zc_1, zc_2, zc_3, zc_4, zc_5, zc_6, zc_7, zc_8, zc_9, zc_10, zc_11, zc_12, zc_20, zc_21, zc_22, zp_1, zp_2, zp_3, zp_4, zp_5, zp_6, zp_7, zp_8, zp_9, zp_10, zp_11, zp_12, zp_20, zp_21, zp_22, upS_eq, upS_ne, upS_up, upz_eq, upz_ne, upz_up, px_al_aI, px_as_aI, px_as_aZ, px_as_aC, px_ln_aI, Option.toList, List.cons_append, List.nil_append, Int.reduceAdd, Int.reduceSub, Int.reduceMul, ↓reduceIte, Nat.reduceEqDiff, eq_self, Int.reduceEq, Int.reduceLT, Int.reduceLE, Int.reduceNe, Int.reduceNeg, Int.reduceToNat, ne_eq, not_true_eq_false, not_false_eq_true, t0, t1, t2, t3, t4, t5, h0, h1]))
        exact fin
    · rw [upS_ne (by omega), upS_eq, upz_ne h4, upz_ne h3, upz_ne h2, upz_ne h1]
    · rw [upS_ne (by omega), upS_eq]
      rfl
    · rw [upS_ne (by omega), upS_eq]
      exact h16
    · rw [upS_ne (by omega), upS_ne (by omega)]
      exact hfl j hj
    · change 0 ≤ B.1.1 + 1 ∧ B.1.1 + 1 ≤ 7 * B.1.2.2.2
      omega
    · rw [upS_ne (by omega), upS_eq]
      rfl
    · rw [upS_ne (by omega), upS_eq]
      rfl
    · rw [upS_ne (by omega), upS_eq]
      rfl
    · rw [upS_eq]
      unfold cpz
      replace hj : j < row.length := hj
      rw [if_pos (by omega), Nat.sub_zero, Nat.zero_add]
      exact hrow j hj
  · rw [if_neg g]
    have g0 : ¬ B.1.1 = 0 := fun z => g (.inl z)
    have g1 : ¬ B.1.2.1 < val := fun z => g (.inr z)
    obtain ⟨f1, f5, f6, f7, f8⟩ := hF (by omega)
    refine ⟨upS S q (upz (S q) 0 (B.1.1 + 1)), px_ofQ fun Q hQ => ?_, fun a h1 h2 => by rw [upS_ne h1], fun j h1 h2 h3 h4 => ?_, ⟨⟨?_, ?_, fun j hj => ?_⟩, ⟨?_, b1, b2⟩, fun _ => ⟨?_, ?_, ?_, f7, fun j hj => ?_⟩⟩⟩
    · (simp (disch := first | with_reducible assumption | omega | decide | (simp only [ps_low, List.map_cons, List.map_nil, Value.category, List.sum_cons, List.sum_nil]; decide)) only [el_X6_hit_0, el_X6_hit_1, el_X6_hit_4, el_X6_hit_7, el_X6_hit_8, el_X6_hit_9, el_X6_hit_12, el_X6_hit_44, el_X6_hit_45, el_X6_hit_45i, el_X6_hit_46, el_X6_hit_49, el_X6_hit_50, el_X6_hit_51, el_X6_hit_54, gf_6_0, gf_6_1, pf_6_0, px_ifp, px_ifn, zh_1, zc_1, zc_2, zc_3, zc_4, zc_5, zc_6, zc_7, zc_8, zc_9, zc_10, zc_11, zc_12, zc_20, zc_21, zc_22, zp_1, zp_2, zp_3, zp_4, zp_5, zp_6, zp_7, zp_8, zp_9, zp_10, zp_11, zp_12, zp_20, zp_21, zp_22, upS_eq, upS_ne, upS_up, upz_eq, upz_ne, upz_up, px_al_aI, px_as_aI, px_as_aZ, px_as_aC, px_ln_aI, Option.toList, List.cons_append, List.nil_append, Int.reduceAdd, Int.reduceSub, Int.reduceMul, ↓reduceIte, Nat.reduceEqDiff, eq_self, Int.reduceEq, Int.reduceLT, Int.reduceLE, Int.reduceNe, Int.reduceNeg, Int.reduceToNat, ne_eq, not_true_eq_false, not_false_eq_true, t0, t1, t2, t3, t4, t5, h0, f1]; repeat (first | simp (disch := first | omega | decide) only [upz_srt, upy_upz, upz_up, upS_srt, upT_upS, upS_up] | simp (disch := first | with_reducible assumption | omega | decide | (simp only [ps_low, List.map_cons, List.map_nil, Value.category, List.sum_cons, List.sum_nil]; decide)) only [el_X6_hit_0, el_X6_hit_1, el_X6_hit_4, el_X6_hit_7, el_X6_hit_8, el_X6_hit_9, el_X6_hit_12, el_X6_hit_44, el_X6_hit_45, el_X6_hit_45i, el_X6_hit_46, el_X6_hit_49, el_X6_hit_50, el_X6_hit_51, el_X6_hit_54, gf_6_0, gf_6_1, pf_6_0, px_ifp, px_ifn, zh_1, zc_1, zc_2, zc_3, zc_4, zc_5, zc_6, zc_7, zc_8, zc_9, zc_10, zc_11, zc_12, zc_20, zc_21, zc_22, zp_1, zp_2, zp_3, zp_4, zp_5, zp_6, zp_7, zp_8, zp_9, zp_10, zp_11, zp_12, zp_20, zp_21, zp_22, upS_eq, upS_ne, upS_up, upz_eq, upz_ne, upz_up, px_al_aI, px_as_aI, px_as_aZ, px_as_aC, px_ln_aI, Option.toList, List.cons_append, List.nil_append, Int.reduceAdd, Int.reduceSub, Int.reduceMul, ↓reduceIte, Nat.reduceEqDiff, eq_self, Int.reduceEq, Int.reduceLT, Int.reduceLE, Int.reduceNe, Int.reduceNeg, Int.reduceToNat, ne_eq, not_true_eq_false, not_false_eq_true, t0, t1, t2, t3, t4, t5, h0, f1]))
      exact hQ
    · rw [upS_eq, upz_ne h1]
    · rw [upS_eq]
      rfl
    · rw [upS_eq]
      exact h16
    · rw [upS_ne (by omega)]
      exact hfl j hj
    · change 0 ≤ B.1.1 + 1 ∧ B.1.1 + 1 ≤ 7 * B.1.2.2.2
      omega
    · rw [upS_eq]
      exact f1
    · rw [upS_eq]
      exact f5
    · rw [upS_eq]
      exact f6
    · rw [upS_ne (by omega)]
      exact f8 j hj
